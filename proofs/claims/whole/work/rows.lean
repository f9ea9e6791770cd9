section
-- ===== PART A: goes FIRST, ahead of the names: the tables' words, and 'selects' of the private methods out of them =====
/-- a private method of a class that the tables say can be made, by its rows of tables_1 -/
def lw_okq (q : MethodName × Nat) : Prop := (q.1.cls ≠ "java/lang/invoke/MethodHandle" ∧ q.1.cls ≠ "java/lang/invoke/VarHandle") ∧ Cond.instantiable q.1.cls q.2 ∈ tables_1 ∧ Cond.privateMethod q.1 ∈ tables_1 ∧ Cond.instanceMethod q.1 ∈ tables_1
theorem lw_p0 : lw_okq (⟨"FractionRows", "isFull", "()Z"⟩, 11) := ⟨⟨by decide +kernel, by decide +kernel⟩, List.mem_of_getElem? (i := 21) (by decide +kernel), List.mem_of_getElem? (i := 358) (by decide +kernel), List.mem_of_getElem? (i := 359) (by decide +kernel)⟩
theorem lw_p1 : lw_okq (⟨"FractionRows$Arithmetic", "guessLimb", "(LFractionRows$Whole;I)J"⟩, 12) := ⟨⟨by decide +kernel, by decide +kernel⟩, List.mem_of_getElem? (i := 35) (by decide +kernel), List.mem_of_getElem? (i := 419) (by decide +kernel), List.mem_of_getElem? (i := 420) (by decide +kernel)⟩
theorem lw_p2 : lw_okq (⟨"FractionRows$Arithmetic", "cut", "(LFractionRows$Whole;LFractionRows$Whole;)V"⟩, 12) := ⟨⟨by decide +kernel, by decide +kernel⟩, List.mem_of_getElem? (i := 35) (by decide +kernel), List.mem_of_getElem? (i := 440) (by decide +kernel), List.mem_of_getElem? (i := 441) (by decide +kernel)⟩
theorem lw_p3 : lw_okq (⟨"FractionRows", "keep", "(Z)I"⟩, 11) := ⟨⟨by decide +kernel, by decide +kernel⟩, List.mem_of_getElem? (i := 21) (by decide +kernel), List.mem_of_getElem? (i := 444) (by decide +kernel), List.mem_of_getElem? (i := 445) (by decide +kernel)⟩
theorem lw_p4 : lw_okq (⟨"FractionRows", "grew", "()I"⟩, 11) := ⟨⟨by decide +kernel, by decide +kernel⟩, List.mem_of_getElem? (i := 21) (by decide +kernel), List.mem_of_getElem? (i := 448) (by decide +kernel), List.mem_of_getElem? (i := 449) (by decide +kernel)⟩
theorem lw_p5 : lw_okq (⟨"FractionRows", "isNumber", "(I)Z"⟩, 11) := ⟨⟨by decide +kernel, by decide +kernel⟩, List.mem_of_getElem? (i := 21) (by decide +kernel), List.mem_of_getElem? (i := 456) (by decide +kernel), List.mem_of_getElem? (i := 457) (by decide +kernel)⟩
theorem lw_p6 : lw_okq (⟨"FractionRows$Arithmetic", "joinUppers", "(ZZ)Z"⟩, 12) := ⟨⟨by decide +kernel, by decide +kernel⟩, List.mem_of_getElem? (i := 35) (by decide +kernel), List.mem_of_getElem? (i := 475) (by decide +kernel), List.mem_of_getElem? (i := 476) (by decide +kernel)⟩
theorem lw_p7 : lw_okq (⟨"FractionRows$Whole", "append", "(I)V"⟩, 2) := ⟨⟨by decide +kernel, by decide +kernel⟩, List.mem_of_getElem? (i := 41) (by decide +kernel), List.mem_of_getElem? (i := 484) (by decide +kernel), List.mem_of_getElem? (i := 485) (by decide +kernel)⟩
theorem lw_p8 : lw_okq (⟨"FractionRows$Arithmetic", "setWide", "(ZLFractionRows$Whole;LFractionRows$Whole;LFractionRows$Fraction;)Z"⟩, 12) := ⟨⟨by decide +kernel, by decide +kernel⟩, List.mem_of_getElem? (i := 35) (by decide +kernel), List.mem_of_getElem? (i := 492) (by decide +kernel), List.mem_of_getElem? (i := 493) (by decide +kernel)⟩
theorem lw_p9 : lw_okq (⟨"FractionRows", "isEntry", "(II)Z"⟩, 11) := ⟨⟨by decide +kernel, by decide +kernel⟩, List.mem_of_getElem? (i := 21) (by decide +kernel), List.mem_of_getElem? (i := 538) (by decide +kernel), List.mem_of_getElem? (i := 539) (by decide +kernel)⟩
theorem lw_p10 : lw_okq (⟨"FractionRows", "entryAt", "(II)LFractionRows$Fraction;"⟩, 11) := ⟨⟨by decide +kernel, by decide +kernel⟩, List.mem_of_getElem? (i := 21) (by decide +kernel), List.mem_of_getElem? (i := 542) (by decide +kernel), List.mem_of_getElem? (i := 543) (by decide +kernel)⟩
theorem lw_p11 : lw_okq (⟨"FractionRows", "keepCopy", "(LFractionRows$Fraction;)I"⟩, 11) := ⟨⟨by decide +kernel, by decide +kernel⟩, List.mem_of_getElem? (i := 21) (by decide +kernel), List.mem_of_getElem? (i := 559) (by decide +kernel), List.mem_of_getElem? (i := 560) (by decide +kernel)⟩
theorem lw_p12 : lw_okq (⟨"FractionRows$Elimination", "begin", "([LFractionRows$Fraction;)V"⟩, 9) := ⟨⟨by decide +kernel, by decide +kernel⟩, List.mem_of_getElem? (i := 132) (by decide +kernel), List.mem_of_getElem? (i := 575) (by decide +kernel), List.mem_of_getElem? (i := 576) (by decide +kernel)⟩
theorem lw_p13 : lw_okq (⟨"FractionRows$Elimination", "choose", "(II)I"⟩, 9) := ⟨⟨by decide +kernel, by decide +kernel⟩, List.mem_of_getElem? (i := 132) (by decide +kernel), List.mem_of_getElem? (i := 580) (by decide +kernel), List.mem_of_getElem? (i := 581) (by decide +kernel)⟩
theorem lw_p14 : lw_okq (⟨"FractionRows$Elimination", "at", "(II)LFractionRows$Fraction;"⟩, 9) := ⟨⟨by decide +kernel, by decide +kernel⟩, List.mem_of_getElem? (i := 132) (by decide +kernel), List.mem_of_getElem? (i := 584) (by decide +kernel), List.mem_of_getElem? (i := 585) (by decide +kernel)⟩
theorem lw_p15 : lw_okq (⟨"FractionRows$Elimination", "bring", "(II)V"⟩, 9) := ⟨⟨by decide +kernel, by decide +kernel⟩, List.mem_of_getElem? (i := 132) (by decide +kernel), List.mem_of_getElem? (i := 590) (by decide +kernel), List.mem_of_getElem? (i := 591) (by decide +kernel)⟩
def lw_privs_1 : List (MethodName × Nat) := [(⟨"FractionRows", "isFull", "()Z"⟩, 11), (⟨"FractionRows$Arithmetic", "guessLimb", "(LFractionRows$Whole;I)J"⟩, 12), (⟨"FractionRows$Arithmetic", "cut", "(LFractionRows$Whole;LFractionRows$Whole;)V"⟩, 12), (⟨"FractionRows", "keep", "(Z)I"⟩, 11), (⟨"FractionRows", "grew", "()I"⟩, 11), (⟨"FractionRows", "isNumber", "(I)Z"⟩, 11), (⟨"FractionRows$Arithmetic", "joinUppers", "(ZZ)Z"⟩, 12), (⟨"FractionRows$Whole", "append", "(I)V"⟩, 2), (⟨"FractionRows$Arithmetic", "setWide", "(ZLFractionRows$Whole;LFractionRows$Whole;LFractionRows$Fraction;)Z"⟩, 12), (⟨"FractionRows", "isEntry", "(II)Z"⟩, 11), (⟨"FractionRows", "entryAt", "(II)LFractionRows$Fraction;"⟩, 11), (⟨"FractionRows", "keepCopy", "(LFractionRows$Fraction;)I"⟩, 11), (⟨"FractionRows$Elimination", "begin", "([LFractionRows$Fraction;)V"⟩, 9), (⟨"FractionRows$Elimination", "choose", "(II)I"⟩, 9), (⟨"FractionRows$Elimination", "at", "(II)LFractionRows$Fraction;"⟩, 9), (⟨"FractionRows$Elimination", "bring", "(II)V"⟩, 9)]
theorem lw_r1 : ∀ q ∈ lw_privs_1, lw_okq q := List.forall_mem_cons.mpr ⟨lw_p0, List.forall_mem_cons.mpr ⟨lw_p1, List.forall_mem_cons.mpr ⟨lw_p2, List.forall_mem_cons.mpr ⟨lw_p3, List.forall_mem_cons.mpr ⟨lw_p4, List.forall_mem_cons.mpr ⟨lw_p5, List.forall_mem_cons.mpr ⟨lw_p6, List.forall_mem_cons.mpr ⟨lw_p7, List.forall_mem_cons.mpr ⟨lw_p8, List.forall_mem_cons.mpr ⟨lw_p9, List.forall_mem_cons.mpr ⟨lw_p10, List.forall_mem_cons.mpr ⟨lw_p11, List.forall_mem_cons.mpr ⟨lw_p12, List.forall_mem_cons.mpr ⟨lw_p13, List.forall_mem_cons.mpr ⟨lw_p14, List.forall_mem_cons.mpr ⟨lw_p15, fun _ h => absurd h List.not_mem_nil⟩⟩⟩⟩⟩⟩⟩⟩⟩⟩⟩⟩⟩⟩⟩⟩
theorem lw_p16 : lw_okq (⟨"FractionRows$Elimination", "clearColumn", "(III)Z"⟩, 9) := ⟨⟨by decide +kernel, by decide +kernel⟩, List.mem_of_getElem? (i := 132) (by decide +kernel), List.mem_of_getElem? (i := 594) (by decide +kernel), List.mem_of_getElem? (i := 595) (by decide +kernel)⟩
theorem lw_p17 : lw_okq (⟨"FractionRows$Determinants", "meetsZero", "([LFractionRows$Fraction;)Z"⟩, 4) := ⟨⟨by decide +kernel, by decide +kernel⟩, List.mem_of_getElem? (i := 174) (by decide +kernel), List.mem_of_getElem? (i := 657) (by decide +kernel), List.mem_of_getElem? (i := 658) (by decide +kernel)⟩
theorem lw_p18 : lw_okq (⟨"FractionRows$Determinants", "inRow", "([LFractionRows$Fraction;I)LFractionRows$Fraction;"⟩, 4) := ⟨⟨by decide +kernel, by decide +kernel⟩, List.mem_of_getElem? (i := 174) (by decide +kernel), List.mem_of_getElem? (i := 661) (by decide +kernel), List.mem_of_getElem? (i := 662) (by decide +kernel)⟩
theorem lw_p19 : lw_okq (⟨"FractionRows$Determinants", "addOrder", "([LFractionRows$Fraction;LFractionRows$Fraction;)Z"⟩, 4) := ⟨⟨by decide +kernel, by decide +kernel⟩, List.mem_of_getElem? (i := 174) (by decide +kernel), List.mem_of_getElem? (i := 666) (by decide +kernel), List.mem_of_getElem? (i := 667) (by decide +kernel)⟩
theorem lw_p20 : lw_okq (⟨"FractionRows$Determinants", "fallsOddly", "()Z"⟩, 4) := ⟨⟨by decide +kernel, by decide +kernel⟩, List.mem_of_getElem? (i := 174) (by decide +kernel), List.mem_of_getElem? (i := 672) (by decide +kernel), List.mem_of_getElem? (i := 673) (by decide +kernel)⟩
theorem lw_p21 : lw_okq (⟨"FractionRows$Determinants", "goOn", "()Z"⟩, 4) := ⟨⟨by decide +kernel, by decide +kernel⟩, List.mem_of_getElem? (i := 174) (by decide +kernel), List.mem_of_getElem? (i := 677) (by decide +kernel), List.mem_of_getElem? (i := 678) (by decide +kernel)⟩
theorem lw_p22 : lw_okq (⟨"FractionRows$Determinants", "swap", "(II)V"⟩, 4) := ⟨⟨by decide +kernel, by decide +kernel⟩, List.mem_of_getElem? (i := 174) (by decide +kernel), List.mem_of_getElem? (i := 681) (by decide +kernel), List.mem_of_getElem? (i := 682) (by decide +kernel)⟩
theorem lw_p23 : lw_okq (⟨"FractionRows$Joint", "isLow", "(LFractionRows$Whole;)Z"⟩, 10) := ⟨⟨by decide +kernel, by decide +kernel⟩, List.mem_of_getElem? (i := 246) (by decide +kernel), List.mem_of_getElem? (i := 757) (by decide +kernel), List.mem_of_getElem? (i := 758) (by decide +kernel)⟩
theorem lw_p24 : lw_okq (⟨"FractionRows$Text", "append", "(I)V"⟩, 6) := ⟨⟨by decide +kernel, by decide +kernel⟩, List.mem_of_getElem? (i := 289) (by decide +kernel), List.mem_of_getElem? (i := 791) (by decide +kernel), List.mem_of_getElem? (i := 792) (by decide +kernel)⟩
theorem lw_p25 : lw_okq (⟨"java/lang/Throwable", "fillInStackTrace", "(I)Ljava/lang/Throwable;"⟩, 6) := ⟨⟨by decide +kernel, by decide +kernel⟩, List.mem_of_getElem? (i := 860) (by decide +kernel), List.mem_of_getElem? (i := 858) (by decide +kernel), List.mem_of_getElem? (i := 859) (by decide +kernel)⟩
theorem lw_p26 : lw_okq (⟨"FractionRowsModel", "nothing", "(I)V"⟩, 22) := ⟨⟨by decide +kernel, by decide +kernel⟩, List.mem_of_getElem? (i := 915) (by decide +kernel), List.mem_of_getElem? (i := 921) (by decide +kernel), List.mem_of_getElem? (i := 922) (by decide +kernel)⟩
theorem lw_p27 : lw_okq (⟨"FractionRowsModel", "wipe", "(I)V"⟩, 22) := ⟨⟨by decide +kernel, by decide +kernel⟩, List.mem_of_getElem? (i := 915) (by decide +kernel), List.mem_of_getElem? (i := 925) (by decide +kernel), List.mem_of_getElem? (i := 926) (by decide +kernel)⟩
theorem lw_p28 : lw_okq (⟨"FractionRowsModel", "setFraction", "(IJJ)V"⟩, 22) := ⟨⟨by decide +kernel, by decide +kernel⟩, List.mem_of_getElem? (i := 915) (by decide +kernel), List.mem_of_getElem? (i := 1005) (by decide +kernel), List.mem_of_getElem? (i := 1006) (by decide +kernel)⟩
theorem lw_p29 : lw_okq (⟨"FractionRowsModel", "setLong", "(IJ)V"⟩, 22) := ⟨⟨by decide +kernel, by decide +kernel⟩, List.mem_of_getElem? (i := 915) (by decide +kernel), List.mem_of_getElem? (i := 1009) (by decide +kernel), List.mem_of_getElem? (i := 1010) (by decide +kernel)⟩
theorem lw_p30 : lw_okq (⟨"FractionRowsModel", "lowest", "(I)Z"⟩, 22) := ⟨⟨by decide +kernel, by decide +kernel⟩, List.mem_of_getElem? (i := 915) (by decide +kernel), List.mem_of_getElem? (i := 1014) (by decide +kernel), List.mem_of_getElem? (i := 1015) (by decide +kernel)⟩
theorem lw_p31 : lw_okq (⟨"FractionRowsModel", "isZero", "(I)Z"⟩, 22) := ⟨⟨by decide +kernel, by decide +kernel⟩, List.mem_of_getElem? (i := 915) (by decide +kernel), List.mem_of_getElem? (i := 1018) (by decide +kernel), List.mem_of_getElem? (i := 1019) (by decide +kernel)⟩
def lw_privs_2 : List (MethodName × Nat) := [(⟨"FractionRows$Elimination", "clearColumn", "(III)Z"⟩, 9), (⟨"FractionRows$Determinants", "meetsZero", "([LFractionRows$Fraction;)Z"⟩, 4), (⟨"FractionRows$Determinants", "inRow", "([LFractionRows$Fraction;I)LFractionRows$Fraction;"⟩, 4), (⟨"FractionRows$Determinants", "addOrder", "([LFractionRows$Fraction;LFractionRows$Fraction;)Z"⟩, 4), (⟨"FractionRows$Determinants", "fallsOddly", "()Z"⟩, 4), (⟨"FractionRows$Determinants", "goOn", "()Z"⟩, 4), (⟨"FractionRows$Determinants", "swap", "(II)V"⟩, 4), (⟨"FractionRows$Joint", "isLow", "(LFractionRows$Whole;)Z"⟩, 10), (⟨"FractionRows$Text", "append", "(I)V"⟩, 6), (⟨"java/lang/Throwable", "fillInStackTrace", "(I)Ljava/lang/Throwable;"⟩, 6), (⟨"FractionRowsModel", "nothing", "(I)V"⟩, 22), (⟨"FractionRowsModel", "wipe", "(I)V"⟩, 22), (⟨"FractionRowsModel", "setFraction", "(IJJ)V"⟩, 22), (⟨"FractionRowsModel", "setLong", "(IJ)V"⟩, 22), (⟨"FractionRowsModel", "lowest", "(I)Z"⟩, 22), (⟨"FractionRowsModel", "isZero", "(I)Z"⟩, 22)]
theorem lw_r2 : ∀ q ∈ lw_privs_2, lw_okq q := List.forall_mem_cons.mpr ⟨lw_p16, List.forall_mem_cons.mpr ⟨lw_p17, List.forall_mem_cons.mpr ⟨lw_p18, List.forall_mem_cons.mpr ⟨lw_p19, List.forall_mem_cons.mpr ⟨lw_p20, List.forall_mem_cons.mpr ⟨lw_p21, List.forall_mem_cons.mpr ⟨lw_p22, List.forall_mem_cons.mpr ⟨lw_p23, List.forall_mem_cons.mpr ⟨lw_p24, List.forall_mem_cons.mpr ⟨lw_p25, List.forall_mem_cons.mpr ⟨lw_p26, List.forall_mem_cons.mpr ⟨lw_p27, List.forall_mem_cons.mpr ⟨lw_p28, List.forall_mem_cons.mpr ⟨lw_p29, List.forall_mem_cons.mpr ⟨lw_p30, List.forall_mem_cons.mpr ⟨lw_p31, fun _ h => absurd h List.not_mem_nil⟩⟩⟩⟩⟩⟩⟩⟩⟩⟩⟩⟩⟩⟩⟩⟩
theorem lw_p32 : lw_okq (⟨"FractionRowsModel", "topOf", "(I)I"⟩, 22) := ⟨⟨by decide +kernel, by decide +kernel⟩, List.mem_of_getElem? (i := 915) (by decide +kernel), List.mem_of_getElem? (i := 1022) (by decide +kernel), List.mem_of_getElem? (i := 1023) (by decide +kernel)⟩
theorem lw_p33 : lw_okq (⟨"FractionRowsModel", "isOne", "(I)Z"⟩, 22) := ⟨⟨by decide +kernel, by decide +kernel⟩, List.mem_of_getElem? (i := 915) (by decide +kernel), List.mem_of_getElem? (i := 1026) (by decide +kernel), List.mem_of_getElem? (i := 1027) (by decide +kernel)⟩
theorem lw_p34 : lw_okq (⟨"FractionRowsModel", "divisor", "(II)V"⟩, 22) := ⟨⟨by decide +kernel, by decide +kernel⟩, List.mem_of_getElem? (i := 915) (by decide +kernel), List.mem_of_getElem? (i := 1030) (by decide +kernel), List.mem_of_getElem? (i := 1031) (by decide +kernel)⟩
theorem lw_p35 : lw_okq (⟨"FractionRowsModel", "carryOver", "(II)V"⟩, 22) := ⟨⟨by decide +kernel, by decide +kernel⟩, List.mem_of_getElem? (i := 915) (by decide +kernel), List.mem_of_getElem? (i := 1034) (by decide +kernel), List.mem_of_getElem? (i := 1035) (by decide +kernel)⟩
theorem lw_p36 : lw_okq (⟨"FractionRowsModel", "halved", "(I)I"⟩, 22) := ⟨⟨by decide +kernel, by decide +kernel⟩, List.mem_of_getElem? (i := 915) (by decide +kernel), List.mem_of_getElem? (i := 1038) (by decide +kernel), List.mem_of_getElem? (i := 1039) (by decide +kernel)⟩
theorem lw_p37 : lw_okq (⟨"FractionRowsModel", "orderOf", "(II)I"⟩, 22) := ⟨⟨by decide +kernel, by decide +kernel⟩, List.mem_of_getElem? (i := 915) (by decide +kernel), List.mem_of_getElem? (i := 1042) (by decide +kernel), List.mem_of_getElem? (i := 1043) (by decide +kernel)⟩
theorem lw_p38 : lw_okq (⟨"FractionRowsModel", "minus", "(II)V"⟩, 22) := ⟨⟨by decide +kernel, by decide +kernel⟩, List.mem_of_getElem? (i := 915) (by decide +kernel), List.mem_of_getElem? (i := 1046) (by decide +kernel), List.mem_of_getElem? (i := 1047) (by decide +kernel)⟩
theorem lw_p39 : lw_okq (⟨"FractionRowsModel", "twice", "(II)V"⟩, 22) := ⟨⟨by decide +kernel, by decide +kernel⟩, List.mem_of_getElem? (i := 915) (by decide +kernel), List.mem_of_getElem? (i := 1051) (by decide +kernel), List.mem_of_getElem? (i := 1052) (by decide +kernel)⟩
theorem lw_p40 : lw_okq (⟨"FractionRowsModel", "divide", "(IIII)V"⟩, 22) := ⟨⟨by decide +kernel, by decide +kernel⟩, List.mem_of_getElem? (i := 915) (by decide +kernel), List.mem_of_getElem? (i := 1055) (by decide +kernel), List.mem_of_getElem? (i := 1056) (by decide +kernel)⟩
theorem lw_p41 : lw_okq (⟨"FractionRowsModel", "bitsOf", "(I)I"⟩, 22) := ⟨⟨by decide +kernel, by decide +kernel⟩, List.mem_of_getElem? (i := 915) (by decide +kernel), List.mem_of_getElem? (i := 1059) (by decide +kernel), List.mem_of_getElem? (i := 1060) (by decide +kernel)⟩
theorem lw_p42 : lw_okq (⟨"FractionRowsModel", "bitAt", "(II)I"⟩, 22) := ⟨⟨by decide +kernel, by decide +kernel⟩, List.mem_of_getElem? (i := 915) (by decide +kernel), List.mem_of_getElem? (i := 1063) (by decide +kernel), List.mem_of_getElem? (i := 1064) (by decide +kernel)⟩
theorem lw_p43 : lw_okq (⟨"FractionRowsModel", "kept", "()I"⟩, 22) := ⟨⟨by decide +kernel, by decide +kernel⟩, List.mem_of_getElem? (i := 915) (by decide +kernel), List.mem_of_getElem? (i := 1067) (by decide +kernel), List.mem_of_getElem? (i := 1068) (by decide +kernel)⟩
theorem lw_p44 : lw_okq (⟨"FractionRowsModel", "isNumber", "(I)Z"⟩, 22) := ⟨⟨by decide +kernel, by decide +kernel⟩, List.mem_of_getElem? (i := 915) (by decide +kernel), List.mem_of_getElem? (i := 1078) (by decide +kernel), List.mem_of_getElem? (i := 1079) (by decide +kernel)⟩
theorem lw_p45 : lw_okq (⟨"FractionRowsModel", "total", "(IIIZ)Z"⟩, 22) := ⟨⟨by decide +kernel, by decide +kernel⟩, List.mem_of_getElem? (i := 915) (by decide +kernel), List.mem_of_getElem? (i := 1082) (by decide +kernel), List.mem_of_getElem? (i := 1083) (by decide +kernel)⟩
theorem lw_p46 : lw_okq (⟨"FractionRowsModel", "times", "(III)V"⟩, 22) := ⟨⟨by decide +kernel, by decide +kernel⟩, List.mem_of_getElem? (i := 915) (by decide +kernel), List.mem_of_getElem? (i := 1086) (by decide +kernel), List.mem_of_getElem? (i := 1087) (by decide +kernel)⟩
theorem lw_p47 : lw_okq (⟨"FractionRowsModel", "plus", "(III)V"⟩, 22) := ⟨⟨by decide +kernel, by decide +kernel⟩, List.mem_of_getElem? (i := 915) (by decide +kernel), List.mem_of_getElem? (i := 1090) (by decide +kernel), List.mem_of_getElem? (i := 1091) (by decide +kernel)⟩
def lw_privs_3 : List (MethodName × Nat) := [(⟨"FractionRowsModel", "topOf", "(I)I"⟩, 22), (⟨"FractionRowsModel", "isOne", "(I)Z"⟩, 22), (⟨"FractionRowsModel", "divisor", "(II)V"⟩, 22), (⟨"FractionRowsModel", "carryOver", "(II)V"⟩, 22), (⟨"FractionRowsModel", "halved", "(I)I"⟩, 22), (⟨"FractionRowsModel", "orderOf", "(II)I"⟩, 22), (⟨"FractionRowsModel", "minus", "(II)V"⟩, 22), (⟨"FractionRowsModel", "twice", "(II)V"⟩, 22), (⟨"FractionRowsModel", "divide", "(IIII)V"⟩, 22), (⟨"FractionRowsModel", "bitsOf", "(I)I"⟩, 22), (⟨"FractionRowsModel", "bitAt", "(II)I"⟩, 22), (⟨"FractionRowsModel", "kept", "()I"⟩, 22), (⟨"FractionRowsModel", "isNumber", "(I)Z"⟩, 22), (⟨"FractionRowsModel", "total", "(IIIZ)Z"⟩, 22), (⟨"FractionRowsModel", "times", "(III)V"⟩, 22), (⟨"FractionRowsModel", "plus", "(III)V"⟩, 22)]
theorem lw_r3 : ∀ q ∈ lw_privs_3, lw_okq q := List.forall_mem_cons.mpr ⟨lw_p32, List.forall_mem_cons.mpr ⟨lw_p33, List.forall_mem_cons.mpr ⟨lw_p34, List.forall_mem_cons.mpr ⟨lw_p35, List.forall_mem_cons.mpr ⟨lw_p36, List.forall_mem_cons.mpr ⟨lw_p37, List.forall_mem_cons.mpr ⟨lw_p38, List.forall_mem_cons.mpr ⟨lw_p39, List.forall_mem_cons.mpr ⟨lw_p40, List.forall_mem_cons.mpr ⟨lw_p41, List.forall_mem_cons.mpr ⟨lw_p42, List.forall_mem_cons.mpr ⟨lw_p43, List.forall_mem_cons.mpr ⟨lw_p44, List.forall_mem_cons.mpr ⟨lw_p45, List.forall_mem_cons.mpr ⟨lw_p46, List.forall_mem_cons.mpr ⟨lw_p47, fun _ h => absurd h List.not_mem_nil⟩⟩⟩⟩⟩⟩⟩⟩⟩⟩⟩⟩⟩⟩⟩⟩
theorem lw_p48 : lw_okq (⟨"FractionRowsModel", "product", "(III)Z"⟩, 22) := ⟨⟨by decide +kernel, by decide +kernel⟩, List.mem_of_getElem? (i := 915) (by decide +kernel), List.mem_of_getElem? (i := 1094) (by decide +kernel), List.mem_of_getElem? (i := 1095) (by decide +kernel)⟩
theorem lw_p49 : lw_okq (⟨"FractionRowsModel", "ratio", "(III)Z"⟩, 22) := ⟨⟨by decide +kernel, by decide +kernel⟩, List.mem_of_getElem? (i := 915) (by decide +kernel), List.mem_of_getElem? (i := 1098) (by decide +kernel), List.mem_of_getElem? (i := 1099) (by decide +kernel)⟩
theorem lw_p50 : lw_okq (⟨"FractionRowsModel", "asNumber", "(I)I"⟩, 22) := ⟨⟨by decide +kernel, by decide +kernel⟩, List.mem_of_getElem? (i := 915) (by decide +kernel), List.mem_of_getElem? (i := 1102) (by decide +kernel), List.mem_of_getElem? (i := 1103) (by decide +kernel)⟩
theorem lw_p51 : lw_okq (⟨"FractionRowsModel", "same", "(II)V"⟩, 22) := ⟨⟨by decide +kernel, by decide +kernel⟩, List.mem_of_getElem? (i := 915) (by decide +kernel), List.mem_of_getElem? (i := 1106) (by decide +kernel), List.mem_of_getElem? (i := 1107) (by decide +kernel)⟩
theorem lw_p52 : lw_okq (⟨"FractionRowsModel", "grew", "()I"⟩, 22) := ⟨⟨by decide +kernel, by decide +kernel⟩, List.mem_of_getElem? (i := 915) (by decide +kernel), List.mem_of_getElem? (i := 1110) (by decide +kernel), List.mem_of_getElem? (i := 1111) (by decide +kernel)⟩
theorem lw_p53 : lw_okq (⟨"FractionRowsModel", "sizeOf", "(I)I"⟩, 22) := ⟨⟨by decide +kernel, by decide +kernel⟩, List.mem_of_getElem? (i := 915) (by decide +kernel), List.mem_of_getElem? (i := 1130) (by decide +kernel), List.mem_of_getElem? (i := 1131) (by decide +kernel)⟩
theorem lw_p54 : lw_okq (⟨"FractionRowsModel", "isEntry", "(II)Z"⟩, 22) := ⟨⟨by decide +kernel, by decide +kernel⟩, List.mem_of_getElem? (i := 915) (by decide +kernel), List.mem_of_getElem? (i := 1142) (by decide +kernel), List.mem_of_getElem? (i := 1143) (by decide +kernel)⟩
theorem lw_p55 : lw_okq (⟨"FractionRowsModel", "eliminated", "(II)I"⟩, 22) := ⟨⟨by decide +kernel, by decide +kernel⟩, List.mem_of_getElem? (i := 915) (by decide +kernel), List.mem_of_getElem? (i := 1158) (by decide +kernel), List.mem_of_getElem? (i := 1159) (by decide +kernel)⟩
theorem lw_p56 : lw_okq (⟨"FractionRowsModel", "taken", "(III)I"⟩, 22) := ⟨⟨by decide +kernel, by decide +kernel⟩, List.mem_of_getElem? (i := 915) (by decide +kernel), List.mem_of_getElem? (i := 1162) (by decide +kernel), List.mem_of_getElem? (i := 1163) (by decide +kernel)⟩
theorem lw_p57 : lw_okq (⟨"FractionRowsModel", "exchange", "(II)V"⟩, 22) := ⟨⟨by decide +kernel, by decide +kernel⟩, List.mem_of_getElem? (i := 915) (by decide +kernel), List.mem_of_getElem? (i := 1166) (by decide +kernel), List.mem_of_getElem? (i := 1167) (by decide +kernel)⟩
theorem lw_p58 : lw_okq (⟨"FractionRowsModel", "cleared", "(III)Z"⟩, 22) := ⟨⟨by decide +kernel, by decide +kernel⟩, List.mem_of_getElem? (i := 915) (by decide +kernel), List.mem_of_getElem? (i := 1170) (by decide +kernel), List.mem_of_getElem? (i := 1171) (by decide +kernel)⟩
theorem lw_p59 : lw_okq (⟨"FractionRowsModel", "answered", "(I)Z"⟩, 22) := ⟨⟨by decide +kernel, by decide +kernel⟩, List.mem_of_getElem? (i := 915) (by decide +kernel), List.mem_of_getElem? (i := 1174) (by decide +kernel), List.mem_of_getElem? (i := 1175) (by decide +kernel)⟩
theorem lw_p60 : lw_okq (⟨"FractionRowsModel", "byOrders", "()Z"⟩, 22) := ⟨⟨by decide +kernel, by decide +kernel⟩, List.mem_of_getElem? (i := 915) (by decide +kernel), List.mem_of_getElem? (i := 1198) (by decide +kernel), List.mem_of_getElem? (i := 1199) (by decide +kernel)⟩
theorem lw_p61 : lw_okq (⟨"FractionRowsModel", "added", "()Z"⟩, 22) := ⟨⟨by decide +kernel, by decide +kernel⟩, List.mem_of_getElem? (i := 915) (by decide +kernel), List.mem_of_getElem? (i := 1202) (by decide +kernel), List.mem_of_getElem? (i := 1203) (by decide +kernel)⟩
theorem lw_p62 : lw_okq (⟨"FractionRowsModel", "isNext", "()Z"⟩, 22) := ⟨⟨by decide +kernel, by decide +kernel⟩, List.mem_of_getElem? (i := 915) (by decide +kernel), List.mem_of_getElem? (i := 1206) (by decide +kernel), List.mem_of_getElem? (i := 1207) (by decide +kernel)⟩
theorem lw_p63 : lw_okq (⟨"FractionRowsModel", "byPivots", "(I)Z"⟩, 22) := ⟨⟨by decide +kernel, by decide +kernel⟩, List.mem_of_getElem? (i := 915) (by decide +kernel), List.mem_of_getElem? (i := 1210) (by decide +kernel), List.mem_of_getElem? (i := 1211) (by decide +kernel)⟩
def lw_privs_4 : List (MethodName × Nat) := [(⟨"FractionRowsModel", "product", "(III)Z"⟩, 22), (⟨"FractionRowsModel", "ratio", "(III)Z"⟩, 22), (⟨"FractionRowsModel", "asNumber", "(I)I"⟩, 22), (⟨"FractionRowsModel", "same", "(II)V"⟩, 22), (⟨"FractionRowsModel", "grew", "()I"⟩, 22), (⟨"FractionRowsModel", "sizeOf", "(I)I"⟩, 22), (⟨"FractionRowsModel", "isEntry", "(II)Z"⟩, 22), (⟨"FractionRowsModel", "eliminated", "(II)I"⟩, 22), (⟨"FractionRowsModel", "taken", "(III)I"⟩, 22), (⟨"FractionRowsModel", "exchange", "(II)V"⟩, 22), (⟨"FractionRowsModel", "cleared", "(III)Z"⟩, 22), (⟨"FractionRowsModel", "answered", "(I)Z"⟩, 22), (⟨"FractionRowsModel", "byOrders", "()Z"⟩, 22), (⟨"FractionRowsModel", "added", "()Z"⟩, 22), (⟨"FractionRowsModel", "isNext", "()Z"⟩, 22), (⟨"FractionRowsModel", "byPivots", "(I)Z"⟩, 22)]
theorem lw_r4 : ∀ q ∈ lw_privs_4, lw_okq q := List.forall_mem_cons.mpr ⟨lw_p48, List.forall_mem_cons.mpr ⟨lw_p49, List.forall_mem_cons.mpr ⟨lw_p50, List.forall_mem_cons.mpr ⟨lw_p51, List.forall_mem_cons.mpr ⟨lw_p52, List.forall_mem_cons.mpr ⟨lw_p53, List.forall_mem_cons.mpr ⟨lw_p54, List.forall_mem_cons.mpr ⟨lw_p55, List.forall_mem_cons.mpr ⟨lw_p56, List.forall_mem_cons.mpr ⟨lw_p57, List.forall_mem_cons.mpr ⟨lw_p58, List.forall_mem_cons.mpr ⟨lw_p59, List.forall_mem_cons.mpr ⟨lw_p60, List.forall_mem_cons.mpr ⟨lw_p61, List.forall_mem_cons.mpr ⟨lw_p62, List.forall_mem_cons.mpr ⟨lw_p63, fun _ h => absurd h List.not_mem_nil⟩⟩⟩⟩⟩⟩⟩⟩⟩⟩⟩⟩⟩⟩⟩⟩
theorem lw_p64 : lw_okq (⟨"FractionRowsModel", "restBy", "(II)I"⟩, 22) := ⟨⟨by decide +kernel, by decide +kernel⟩, List.mem_of_getElem? (i := 915) (by decide +kernel), List.mem_of_getElem? (i := 1222) (by decide +kernel), List.mem_of_getElem? (i := 1223) (by decide +kernel)⟩
theorem lw_p65 : lw_okq (⟨"FractionRowsModel", "isSmall", "(I)Z"⟩, 22) := ⟨⟨by decide +kernel, by decide +kernel⟩, List.mem_of_getElem? (i := 915) (by decide +kernel), List.mem_of_getElem? (i := 1241) (by decide +kernel), List.mem_of_getElem? (i := 1242) (by decide +kernel)⟩
theorem lw_p66 : lw_okq (⟨"FractionRowsModel", "tenfold", "(I)V"⟩, 22) := ⟨⟨by decide +kernel, by decide +kernel⟩, List.mem_of_getElem? (i := 915) (by decide +kernel), List.mem_of_getElem? (i := 1253) (by decide +kernel), List.mem_of_getElem? (i := 1254) (by decide +kernel)⟩
theorem lw_p67 : lw_okq (⟨"FractionRowsModel", "say", "(I)V"⟩, 22) := ⟨⟨by decide +kernel, by decide +kernel⟩, List.mem_of_getElem? (i := 915) (by decide +kernel), List.mem_of_getElem? (i := 1258) (by decide +kernel), List.mem_of_getElem? (i := 1259) (by decide +kernel)⟩
theorem lw_p68 : lw_okq (⟨"FractionRowsModel", "tenth", "(I)I"⟩, 22) := ⟨⟨by decide +kernel, by decide +kernel⟩, List.mem_of_getElem? (i := 915) (by decide +kernel), List.mem_of_getElem? (i := 1262) (by decide +kernel), List.mem_of_getElem? (i := 1263) (by decide +kernel)⟩
def lw_privs_5 : List (MethodName × Nat) := [(⟨"FractionRowsModel", "restBy", "(II)I"⟩, 22), (⟨"FractionRowsModel", "isSmall", "(I)Z"⟩, 22), (⟨"FractionRowsModel", "tenfold", "(I)V"⟩, 22), (⟨"FractionRowsModel", "say", "(I)V"⟩, 22), (⟨"FractionRowsModel", "tenth", "(I)I"⟩, 22)]
theorem lw_r5 : ∀ q ∈ lw_privs_5, lw_okq q := List.forall_mem_cons.mpr ⟨lw_p64, List.forall_mem_cons.mpr ⟨lw_p65, List.forall_mem_cons.mpr ⟨lw_p66, List.forall_mem_cons.mpr ⟨lw_p67, List.forall_mem_cons.mpr ⟨lw_p68, fun _ h => absurd h List.not_mem_nil⟩⟩⟩⟩⟩
def lw_privs : List (MethodName × Nat) := lw_privs_1 ++ (lw_privs_2 ++ (lw_privs_3 ++ (lw_privs_4 ++ (lw_privs_5))))
def lw_tbl : List Cond := k2_sels lw_privs ++ tables_1
theorem lw_privs_ok : ∀ q ∈ lw_privs, lw_okq q := by
  show ∀ q ∈ lw_privs_1 ++ (lw_privs_2 ++ (lw_privs_3 ++ (lw_privs_4 ++ (lw_privs_5)))), lw_okq q
  exact List.forall_mem_append.mpr ⟨lw_r1, List.forall_mem_append.mpr ⟨lw_r2, List.forall_mem_append.mpr ⟨lw_r3, List.forall_mem_append.mpr ⟨lw_r4, lw_r5⟩⟩⟩⟩
end
section
/-! ===== BEGIN printed: names, fields, word lists, decode rows ===== -/
def RX0 : String := "FractionRows$Arithmetic"
def TX0 : u_T := fun k => match k with
  | 0 => ("FractionRows$Arithmetic", "scaledDivisor", "LFractionRows$Whole;", true)
  | 1 => ("FractionRows$Arithmetic", "ratio", "LFractionRows$Whole;", true)
  | 2 => ("FractionRows$Arithmetic", "first", "LFractionRows$Whole;", true)
  | 3 => ("FractionRows$Arithmetic", "second", "LFractionRows$Whole;", true)
  | 4 => ("FractionRows$Arithmetic", "common", "LFractionRows$Whole;", true)
  | 5 => ("FractionRows$Arithmetic", "dividend", "LFractionRows$Whole;", true)
  | 6 => ("FractionRows$Arithmetic", "upper", "LFractionRows$Whole;", true)
  | 7 => ("FractionRows$Arithmetic", "lower", "LFractionRows$Whole;", true)
  | 8 => ("FractionRows$Arithmetic", "leftUpper", "LFractionRows$Whole;", true)
  | 9 => ("FractionRows$Arithmetic", "rightUpper", "LFractionRows$Whole;", true)
  | 10 => ("FractionRows$Arithmetic", "leftLower", "LFractionRows$Whole;", true)
  | _ => ("FractionRows$Arithmetic", "rightLower", "LFractionRows$Whole;", true)
def tyX0 : Nat → FieldType := fun k => match k with
  | 0 => .object "FractionRows$Whole"
  | 1 => .object "FractionRows$Whole"
  | 2 => .object "FractionRows$Whole"
  | 3 => .object "FractionRows$Whole"
  | 4 => .object "FractionRows$Whole"
  | 5 => .object "FractionRows$Whole"
  | 6 => .object "FractionRows$Whole"
  | 7 => .object "FractionRows$Whole"
  | 8 => .object "FractionRows$Whole"
  | 9 => .object "FractionRows$Whole"
  | 10 => .object "FractionRows$Whole"
  | _ => .object "FractionRows$Whole"
abbrev wsX00 : List Cond := u_ws RX0 TX0 12
theorem nmX0 : ∀ a, a < 12 → ∀ b, b < 12 → a ≠ b → (TX0 a).2.1 ≠ (TX0 b).2.1 := by decide +kernel
theorem tyX0_ok : ∀ k, k < 12 → parseFieldDescriptor (TX0 k).2.2.1 = some (tyX0 k) := by decide +kernel
abbrev cX0_init : ByteArray := prog_2_method_1_code
def yX0_init : MethodName := ⟨RX0, "<init>", "()V"⟩
abbrev cX0_divide : ByteArray := prog_2_method_2_code
def yX0_divide : MethodName := ⟨RX0, "divide", "(LFractionRows$Whole;LFractionRows$Whole;LFractionRows$Whole;)V"⟩
abbrev cX0_guessLimb : ByteArray := prog_2_method_3_code
def yX0_guessLimb : MethodName := ⟨RX0, "guessLimb", "(LFractionRows$Whole;I)J"⟩
abbrev cX0_findCommon : ByteArray := prog_2_method_4_code
def yX0_findCommon : MethodName := ⟨RX0, "findCommon", "(LFractionRows$Whole;LFractionRows$Whole;)V"⟩
abbrev cX0_commonOf : ByteArray := prog_2_method_5_code
def yX0_commonOf : MethodName := ⟨RX0, "commonOf", "(JJ)J"⟩
abbrev cX0_haveNothingCommon : ByteArray := prog_2_method_6_code
def yX0_haveNothingCommon : MethodName := ⟨RX0, "haveNothingCommon", "(LFractionRows$Whole;LFractionRows$Whole;)Z"⟩
abbrev cX0_cut : ByteArray := prog_2_method_7_code
def yX0_cut : MethodName := ⟨RX0, "cut", "(LFractionRows$Whole;LFractionRows$Whole;)V"⟩
abbrev cX0_setRatio : ByteArray := prog_2_method_8_code
def yX0_setRatio : MethodName := ⟨RX0, "setRatio", "(JJLFractionRows$Fraction;)V"⟩
abbrev cX0_add : ByteArray := prog_2_method_9_code
def yX0_add : MethodName := ⟨RX0, "add", "(LFractionRows$Fraction;LFractionRows$Fraction;ZLFractionRows$Fraction;)Z"⟩
abbrev cX0_joinUppers : ByteArray := prog_2_method_10_code
def yX0_joinUppers : MethodName := ⟨RX0, "joinUppers", "(ZZ)Z"⟩
abbrev cX0_multiply : ByteArray := prog_2_method_11_code
def yX0_multiply : MethodName := ⟨RX0, "multiply", "(LFractionRows$Fraction;LFractionRows$Fraction;ZLFractionRows$Fraction;)Z"⟩
abbrev cX0_setWide : ByteArray := prog_2_method_12_code
def yX0_setWide : MethodName := ⟨RX0, "setWide", "(ZLFractionRows$Whole;LFractionRows$Whole;LFractionRows$Fraction;)Z"⟩
abbrev cX0_order : ByteArray := prog_2_method_13_code
def yX0_order : MethodName := ⟨RX0, "order", "(LFractionRows$Fraction;LFractionRows$Fraction;)I"⟩
def RX1 : String := "FractionRows$Determinants"
def TX1 : u_T := fun k => match k with
  | 0 => ("FractionRows$Determinants", "n", "I", true)
  | 1 => ("FractionRows$Determinants", "arithmetic", "LFractionRows$Arithmetic;", true)
  | 2 => ("FractionRows$Determinants", "order", "[I", true)
  | _ => ("FractionRows$Determinants", "product", "LFractionRows$Fraction;", true)
def tyX1 : Nat → FieldType := fun k => match k with
  | 0 => .int
  | 1 => .object "FractionRows$Arithmetic"
  | 2 => .array .int
  | _ => .object "FractionRows$Fraction"
abbrev wsX10 : List Cond := u_ws RX1 TX1 4
theorem nmX1 : ∀ a, a < 4 → ∀ b, b < 4 → a ≠ b → (TX1 a).2.1 ≠ (TX1 b).2.1 := by decide +kernel
theorem tyX1_ok : ∀ k, k < 4 → parseFieldDescriptor (TX1 k).2.2.1 = some (tyX1 k) := by decide +kernel
abbrev cX1_init : ByteArray := prog_3_method_1_code
def yX1_init : MethodName := ⟨RX1, "<init>", "(ILFractionRows$Arithmetic;)V"⟩
abbrev cX1_multiplyPivots : ByteArray := prog_3_method_2_code
def yX1_multiplyPivots : MethodName := ⟨RX1, "multiplyPivots", "(LFractionRows$Elimination;LFractionRows$Fraction;)Z"⟩
abbrev cX1_addOrders : ByteArray := prog_3_method_3_code
def yX1_addOrders : MethodName := ⟨RX1, "addOrders", "([LFractionRows$Fraction;LFractionRows$Fraction;)Z"⟩
abbrev cX1_inRow : ByteArray := prog_3_method_4_code
def yX1_inRow : MethodName := ⟨RX1, "inRow", "([LFractionRows$Fraction;I)LFractionRows$Fraction;"⟩
abbrev cX1_meetsZero : ByteArray := prog_3_method_5_code
def yX1_meetsZero : MethodName := ⟨RX1, "meetsZero", "([LFractionRows$Fraction;)Z"⟩
abbrev cX1_addOrder : ByteArray := prog_3_method_6_code
def yX1_addOrder : MethodName := ⟨RX1, "addOrder", "([LFractionRows$Fraction;LFractionRows$Fraction;)Z"⟩
abbrev cX1_fallsOddly : ByteArray := prog_3_method_7_code
def yX1_fallsOddly : MethodName := ⟨RX1, "fallsOddly", "()Z"⟩
abbrev cX1_goOn : ByteArray := prog_3_method_8_code
def yX1_goOn : MethodName := ⟨RX1, "goOn", "()Z"⟩
abbrev cX1_swap : ByteArray := prog_3_method_9_code
def yX1_swap : MethodName := ⟨RX1, "swap", "(II)V"⟩
def RX2 : String := "FractionRows$Elimination"
def TX2 : u_T := fun k => match k with
  | 0 => ("FractionRows$Elimination", "n", "I", true)
  | 1 => ("FractionRows$Elimination", "arithmetic", "LFractionRows$Arithmetic;", true)
  | 2 => ("FractionRows$Elimination", "work", "[LFractionRows$Fraction;", true)
  | 3 => ("FractionRows$Elimination", "rowAt", "[I", true)
  | 4 => ("FractionRows$Elimination", "columnOf", "[I", true)
  | 5 => ("FractionRows$Elimination", "factor", "LFractionRows$Fraction;", true)
  | 6 => ("FractionRows$Elimination", "product", "LFractionRows$Fraction;", true)
  | 7 => ("FractionRows$Elimination", "rank", "I", false)
  | _ => ("FractionRows$Elimination", "odd", "Z", false)
def tyX2 : Nat → FieldType := fun k => match k with
  | 0 => .int
  | 1 => .object "FractionRows$Arithmetic"
  | 2 => .array (.object "FractionRows$Fraction")
  | 3 => .array .int
  | 4 => .array .int
  | 5 => .object "FractionRows$Fraction"
  | 6 => .object "FractionRows$Fraction"
  | 7 => .int
  | _ => .boolean
abbrev wsX20 : List Cond := u_ws RX2 TX2 9
theorem nmX2 : ∀ a, a < 9 → ∀ b, b < 9 → a ≠ b → (TX2 a).2.1 ≠ (TX2 b).2.1 := by decide +kernel
theorem tyX2_ok : ∀ k, k < 9 → parseFieldDescriptor (TX2 k).2.2.1 = some (tyX2 k) := by decide +kernel
abbrev cX2_init : ByteArray := prog_4_method_1_code
def yX2_init : MethodName := ⟨RX2, "<init>", "(ILFractionRows$Arithmetic;)V"⟩
abbrev cX2_run : ByteArray := prog_4_method_2_code
def yX2_run : MethodName := ⟨RX2, "run", "([LFractionRows$Fraction;II)Z"⟩
abbrev cX2_begin : ByteArray := prog_4_method_3_code
def yX2_begin : MethodName := ⟨RX2, "begin", "([LFractionRows$Fraction;)V"⟩
abbrev cX2_at : ByteArray := prog_4_method_4_code
def yX2_at : MethodName := ⟨RX2, "at", "(II)LFractionRows$Fraction;"⟩
abbrev cX2_pivotAt : ByteArray := prog_4_method_5_code
def yX2_pivotAt : MethodName := ⟨RX2, "pivotAt", "(I)LFractionRows$Fraction;"⟩
abbrev cX2_choose : ByteArray := prog_4_method_6_code
def yX2_choose : MethodName := ⟨RX2, "choose", "(II)I"⟩
abbrev cX2_bring : ByteArray := prog_4_method_7_code
def yX2_bring : MethodName := ⟨RX2, "bring", "(II)V"⟩
abbrev cX2_clearColumn : ByteArray := prog_4_method_8_code
def yX2_clearColumn : MethodName := ⟨RX2, "clearColumn", "(III)Z"⟩
abbrev cX2_hasAnswers : ByteArray := prog_4_method_9_code
def yX2_hasAnswers : MethodName := ⟨RX2, "hasAnswers", "()Z"⟩
abbrev cX2_findUnknowns : ByteArray := prog_4_method_10_code
def yX2_findUnknowns : MethodName := ⟨RX2, "findUnknowns", "([LFractionRows$Fraction;)Z"⟩
def RX3 : String := "FractionRows$Fraction"
def TX3 : u_T := fun k => match k with
  | 0 => ("FractionRows$Fraction", "u", "LFractionRows$Whole;", true)
  | 1 => ("FractionRows$Fraction", "v", "LFractionRows$Whole;", true)
  | _ => ("FractionRows$Fraction", "below", "Z", false)
def tyX3 : Nat → FieldType := fun k => match k with
  | 0 => .object "FractionRows$Whole"
  | 1 => .object "FractionRows$Whole"
  | _ => .boolean
abbrev wsX30 : List Cond := u_ws RX3 TX3 3
theorem nmX3 : ∀ a, a < 3 → ∀ b, b < 3 → a ≠ b → (TX3 a).2.1 ≠ (TX3 b).2.1 := by decide +kernel
theorem tyX3_ok : ∀ k, k < 3 → parseFieldDescriptor (TX3 k).2.2.1 = some (tyX3 k) := by decide +kernel
abbrev cX3_init : ByteArray := prog_5_method_1_code
def yX3_init : MethodName := ⟨RX3, "<init>", "()V"⟩
abbrev cX3_zeros : ByteArray := prog_5_method_2_code
def yX3_zeros : MethodName := ⟨RX3, "zeros", "(I)[LFractionRows$Fraction;"⟩
abbrev cX3_isZero : ByteArray := prog_5_method_3_code
def yX3_isZero : MethodName := ⟨RX3, "isZero", "()Z"⟩
abbrev cX3_size : ByteArray := prog_5_method_4_code
def yX3_size : MethodName := ⟨RX3, "size", "()I"⟩
abbrev cX3_setZero : ByteArray := prog_5_method_5_code
def yX3_setZero : MethodName := ⟨RX3, "setZero", "()V"⟩
abbrev cX3_setWhole : ByteArray := prog_5_method_6_code
def yX3_setWhole : MethodName := ⟨RX3, "setWhole", "(LFractionRows$Whole;)V"⟩
abbrev cX3_copy : ByteArray := prog_5_method_7_code
def yX3_copy : MethodName := ⟨RX3, "copy", "(LFractionRows$Fraction;)V"⟩
abbrev cX3_set : ByteArray := prog_5_method_8_code
def yX3_set : MethodName := ⟨RX3, "set", "(ZLFractionRows$Whole;LFractionRows$Whole;)V"⟩
abbrev cX3_negate : ByteArray := prog_5_method_9_code
def yX3_negate : MethodName := ⟨RX3, "negate", "()V"⟩
def RX4 : String := "FractionRows$Joint"
def TX4 : u_T := fun k => match k with
  | 0 => ("FractionRows$Joint", "arithmetic", "LFractionRows$Arithmetic;", true)
  | 1 => ("FractionRows$Joint", "number", "LFractionRows$Whole;", true)
  | 2 => ("FractionRows$Joint", "modulus", "LFractionRows$Whole;", true)
  | 3 => ("FractionRows$Joint", "next", "LFractionRows$Whole;", true)
  | 4 => ("FractionRows$Joint", "ratio", "LFractionRows$Whole;", true)
  | 5 => ("FractionRows$Joint", "firstRest", "LFractionRows$Whole;", true)
  | 6 => ("FractionRows$Joint", "secondRest", "LFractionRows$Whole;", true)
  | 7 => ("FractionRows$Joint", "firstFactor", "LFractionRows$Whole;", true)
  | 8 => ("FractionRows$Joint", "secondFactor", "LFractionRows$Whole;", true)
  | _ => ("FractionRows$Joint", "primes", "I", false)
def tyX4 : Nat → FieldType := fun k => match k with
  | 0 => .object "FractionRows$Arithmetic"
  | 1 => .object "FractionRows$Whole"
  | 2 => .object "FractionRows$Whole"
  | 3 => .object "FractionRows$Whole"
  | 4 => .object "FractionRows$Whole"
  | 5 => .object "FractionRows$Whole"
  | 6 => .object "FractionRows$Whole"
  | 7 => .object "FractionRows$Whole"
  | 8 => .object "FractionRows$Whole"
  | _ => .int
abbrev wsX40 : List Cond := u_ws RX4 TX4 10
theorem nmX4 : ∀ a, a < 10 → ∀ b, b < 10 → a ≠ b → (TX4 a).2.1 ≠ (TX4 b).2.1 := by decide +kernel
theorem tyX4_ok : ∀ k, k < 10 → parseFieldDescriptor (TX4 k).2.2.1 = some (tyX4 k) := by decide +kernel
abbrev cX4_init : ByteArray := prog_6_method_1_code
def yX4_init : MethodName := ⟨RX4, "<init>", "(LFractionRows$Arithmetic;)V"⟩
abbrev cX4_forget : ByteArray := prog_6_method_2_code
def yX4_forget : MethodName := ⟨RX4, "forget", "()V"⟩
abbrev cX4_has : ByteArray := prog_6_method_3_code
def yX4_has : MethodName := ⟨RX4, "has", "(I)Z"⟩
abbrev cX4_join : ByteArray := prog_6_method_4_code
def yX4_join : MethodName := ⟨RX4, "join", "(II)Z"⟩
abbrev cX4_tell : ByteArray := prog_6_method_5_code
def yX4_tell : MethodName := ⟨RX4, "tell", "(LFractionRows$Fraction;)Z"⟩
abbrev cX4_isLow : ByteArray := prog_6_method_6_code
def yX4_isLow : MethodName := ⟨RX4, "isLow", "(LFractionRows$Whole;)Z"⟩
def RX5 : String := "FractionRows$Primes"
def TX5 : u_T := fun k => match k with
  | _ => ("", "", "", false)
def tyX5 : Nat → FieldType := fun k => match k with
  | _ => .int
abbrev wsX50 : List Cond := u_ws RX5 TX5 0
theorem nmX5 : ∀ a, a < 0 → ∀ b, b < 0 → a ≠ b → (TX5 a).2.1 ≠ (TX5 b).2.1 := by decide +kernel
theorem tyX5_ok : ∀ k, k < 0 → parseFieldDescriptor (TX5 k).2.2.1 = some (tyX5 k) := by decide +kernel
abbrev cX5_isPrime : ByteArray := prog_7_method_2_code
def yX5_isPrime : MethodName := ⟨RX5, "isPrime", "(I)Z"⟩
abbrev cX5_passes : ByteArray := prog_7_method_3_code
def yX5_passes : MethodName := ⟨RX5, "passes", "(II)Z"⟩
abbrev cX5_power : ByteArray := prog_7_method_4_code
def yX5_power : MethodName := ⟨RX5, "power", "(JII)J"⟩
abbrev cX5_inverse : ByteArray := prog_7_method_5_code
def yX5_inverse : MethodName := ⟨RX5, "inverse", "(II)J"⟩
def RX6 : String := "FractionRows$Solved"
def TX6 : u_T := fun k => match k with
  | 0 => ("FractionRows$Solved", "n", "I", true)
  | 1 => ("FractionRows$Solved", "arithmetic", "LFractionRows$Arithmetic;", true)
  | 2 => ("FractionRows$Solved", "columns", "[I", true)
  | 3 => ("FractionRows$Solved", "rows", "[I", true)
  | 4 => ("FractionRows$Solved", "sizes", "[I", true)
  | 5 => ("FractionRows$Solved", "unknowns", "[LFractionRows$Fraction;", true)
  | 6 => ("FractionRows$Solved", "product", "LFractionRows$Fraction;", true)
  | 7 => ("FractionRows$Solved", "sum", "LFractionRows$Fraction;", true)
  | 8 => ("FractionRows$Solved", "there", "Z", false)
  | 9 => ("FractionRows$Solved", "hasAnswers", "Z", false)
  | _ => ("FractionRows$Solved", "rank", "I", false)
def tyX6 : Nat → FieldType := fun k => match k with
  | 0 => .int
  | 1 => .object "FractionRows$Arithmetic"
  | 2 => .array .int
  | 3 => .array .int
  | 4 => .array .int
  | 5 => .array (.object "FractionRows$Fraction")
  | 6 => .object "FractionRows$Fraction"
  | 7 => .object "FractionRows$Fraction"
  | 8 => .boolean
  | 9 => .boolean
  | _ => .int
abbrev wsX60 : List Cond := u_ws RX6 TX6 11
theorem nmX6 : ∀ a, a < 11 → ∀ b, b < 11 → a ≠ b → (TX6 a).2.1 ≠ (TX6 b).2.1 := by decide +kernel
theorem tyX6_ok : ∀ k, k < 11 → parseFieldDescriptor (TX6 k).2.2.1 = some (tyX6 k) := by decide +kernel
abbrev cX6_init : ByteArray := prog_8_method_1_code
def yX6_init : MethodName := ⟨RX6, "<init>", "(ILFractionRows$Arithmetic;)V"⟩
abbrev cX6_forget : ByteArray := prog_8_method_2_code
def yX6_forget : MethodName := ⟨RX6, "forget", "()V"⟩
abbrev cX6_fill : ByteArray := prog_8_method_3_code
def yX6_fill : MethodName := ⟨RX6, "fill", "(LFractionRows$Elimination;)Z"⟩
abbrev cX6_tellsUnknowns : ByteArray := prog_8_method_4_code
def yX6_tellsUnknowns : MethodName := ⟨RX6, "tellsUnknowns", "()Z"⟩
abbrev cX6_addUp : ByteArray := prog_8_method_5_code
def yX6_addUp : MethodName := ⟨RX6, "addUp", "([LFractionRows$Fraction;I)Z"⟩
def RX7 : String := "FractionRows$Text"
def TX7 : u_T := fun k => match k with
  | 0 => ("FractionRows$Text", "arithmetic", "LFractionRows$Arithmetic;", true)
  | 1 => ("FractionRows$Text", "one", "LFractionRows$Whole;", true)
  | 2 => ("FractionRows$Text", "scaled", "LFractionRows$Whole;", true)
  | 3 => ("FractionRows$Text", "figures", "LFractionRows$Whole;", true)
  | 4 => ("FractionRows$Text", "backwards", "[B", true)
  | _ => ("FractionRows$Text", "length", "I", false)
def tyX7 : Nat → FieldType := fun k => match k with
  | 0 => .object "FractionRows$Arithmetic"
  | 1 => .object "FractionRows$Whole"
  | 2 => .object "FractionRows$Whole"
  | 3 => .object "FractionRows$Whole"
  | 4 => .array .byte
  | _ => .int
abbrev wsX70 : List Cond := u_ws RX7 TX7 6
theorem nmX7 : ∀ a, a < 6 → ∀ b, b < 6 → a ≠ b → (TX7 a).2.1 ≠ (TX7 b).2.1 := by decide +kernel
theorem tyX7_ok : ∀ k, k < 6 → parseFieldDescriptor (TX7 k).2.2.1 = some (tyX7 k) := by decide +kernel
abbrev cX7_init : ByteArray := prog_9_method_1_code
def yX7_init : MethodName := ⟨RX7, "<init>", "(LFractionRows$Arithmetic;)V"⟩
abbrev cX7_write : ByteArray := prog_9_method_2_code
def yX7_write : MethodName := ⟨RX7, "write", "(LFractionRows$Fraction;IZ)V"⟩
abbrev cX7_append : ByteArray := prog_9_method_3_code
def yX7_append : MethodName := ⟨RX7, "append", "(I)V"⟩
def RX8 : String := "FractionRows$Whole"
def TX8 : u_T := fun k => match k with
  | 0 => ("FractionRows$Whole", "limbs", "[I", true)
  | _ => ("FractionRows$Whole", "length", "I", false)
def tyX8 : Nat → FieldType := fun k => match k with
  | 0 => .array .int
  | _ => .int
abbrev wsX80 : List Cond := u_ws RX8 TX8 2
theorem nmX8 : ∀ a, a < 2 → ∀ b, b < 2 → a ≠ b → (TX8 a).2.1 ≠ (TX8 b).2.1 := by decide +kernel
theorem tyX8_ok : ∀ k, k < 2 → parseFieldDescriptor (TX8 k).2.2.1 = some (tyX8 k) := by decide +kernel
abbrev cX8_init : ByteArray := prog_10_method_1_code
def yX8_init : MethodName := ⟨RX8, "<init>", "()V"⟩
abbrev cX8_copy : ByteArray := prog_10_method_2_code
def yX8_copy : MethodName := ⟨RX8, "copy", "(LFractionRows$Whole;)V"⟩
abbrev cX8_setBits : ByteArray := prog_10_method_3_code
def yX8_setBits : MethodName := ⟨RX8, "setBits", "(J)V"⟩
abbrev cX8_isZero : ByteArray := prog_10_method_4_code
def yX8_isZero : MethodName := ⟨RX8, "isZero", "()Z"⟩
abbrev cX8_isOne : ByteArray := prog_10_method_5_code
def yX8_isOne : MethodName := ⟨RX8, "isOne", "()Z"⟩
abbrev cX8_isWide : ByteArray := prog_10_method_6_code
def yX8_isWide : MethodName := ⟨RX8, "isWide", "()Z"⟩
abbrev cX8_fitsLong : ByteArray := prog_10_method_7_code
def yX8_fitsLong : MethodName := ⟨RX8, "fitsLong", "()Z"⟩
abbrev cX8_toLong : ByteArray := prog_10_method_8_code
def yX8_toLong : MethodName := ⟨RX8, "toLong", "()J"⟩
abbrev cX8_bits : ByteArray := prog_10_method_9_code
def yX8_bits : MethodName := ⟨RX8, "bits", "()I"⟩
abbrev cX8_against : ByteArray := prog_10_method_10_code
def yX8_against : MethodName := ⟨RX8, "against", "(LFractionRows$Whole;)I"⟩
abbrev cX8_increase : ByteArray := prog_10_method_11_code
def yX8_increase : MethodName := ⟨RX8, "increase", "(LFractionRows$Whole;)V"⟩
abbrev cX8_decrease : ByteArray := prog_10_method_12_code
def yX8_decrease : MethodName := ⟨RX8, "decrease", "(LFractionRows$Whole;)V"⟩
abbrev cX8_setProduct : ByteArray := prog_10_method_13_code
def yX8_setProduct : MethodName := ⟨RX8, "setProduct", "(LFractionRows$Whole;LFractionRows$Whole;)V"⟩
abbrev cX8_scale : ByteArray := prog_10_method_14_code
def yX8_scale : MethodName := ⟨RX8, "scale", "(I)V"⟩
abbrev cX8_shiftLeft : ByteArray := prog_10_method_15_code
def yX8_shiftLeft : MethodName := ⟨RX8, "shiftLeft", "(I)V"⟩
abbrev cX8_shiftRight : ByteArray := prog_10_method_16_code
def yX8_shiftRight : MethodName := ⟨RX8, "shiftRight", "(I)V"⟩
abbrev cX8_restBy : ByteArray := prog_10_method_17_code
def yX8_restBy : MethodName := ⟨RX8, "restBy", "(I)I"⟩
abbrev cX8_shrinkBy : ByteArray := prog_10_method_18_code
def yX8_shrinkBy : MethodName := ⟨RX8, "shrinkBy", "(I)I"⟩
abbrev cX8_takeTimes : ByteArray := prog_10_method_19_code
def yX8_takeTimes : MethodName := ⟨RX8, "takeTimes", "(JLFractionRows$Whole;I)Z"⟩
abbrev cX8_giveBack : ByteArray := prog_10_method_20_code
def yX8_giveBack : MethodName := ⟨RX8, "giveBack", "(LFractionRows$Whole;I)Z"⟩
abbrev cX8_trim : ByteArray := prog_10_method_21_code
def yX8_trim : MethodName := ⟨RX8, "trim", "()V"⟩
abbrev cX8_append : ByteArray := prog_10_method_22_code
def yX8_append : MethodName := ⟨RX8, "append", "(I)V"⟩
def RX9 : String := "FractionRows"
def TX9 : u_T := fun k => match k with
  | 0 => ("FractionRows", "n", "I", true)
  | 1 => ("FractionRows", "arithmetic", "LFractionRows$Arithmetic;", true)
  | 2 => ("FractionRows", "numbers", "[LFractionRows$Fraction;", true)
  | 3 => ("FractionRows", "entries", "[LFractionRows$Fraction;", true)
  | 4 => ("FractionRows", "elimination", "LFractionRows$Elimination;", true)
  | 5 => ("FractionRows", "determinants", "LFractionRows$Determinants;", true)
  | 6 => ("FractionRows", "solved", "LFractionRows$Solved;", true)
  | 7 => ("FractionRows", "joint", "LFractionRows$Joint;", true)
  | 8 => ("FractionRows", "text", "LFractionRows$Text;", true)
  | 9 => ("FractionRows", "numberCount", "I", false)
  | _ => ("FractionRows", "grewCount", "I", false)
def tyX9 : Nat → FieldType := fun k => match k with
  | 0 => .int
  | 1 => .object "FractionRows$Arithmetic"
  | 2 => .array (.object "FractionRows$Fraction")
  | 3 => .array (.object "FractionRows$Fraction")
  | 4 => .object "FractionRows$Elimination"
  | 5 => .object "FractionRows$Determinants"
  | 6 => .object "FractionRows$Solved"
  | 7 => .object "FractionRows$Joint"
  | 8 => .object "FractionRows$Text"
  | 9 => .int
  | _ => .int
abbrev wsX90 : List Cond := u_ws RX9 TX9 11
theorem nmX9 : ∀ a, a < 11 → ∀ b, b < 11 → a ≠ b → (TX9 a).2.1 ≠ (TX9 b).2.1 := by decide +kernel
theorem tyX9_ok : ∀ k, k < 11 → parseFieldDescriptor (TX9 k).2.2.1 = some (tyX9 k) := by decide +kernel
abbrev cX9_init : ByteArray := prog_1_method_1_code
def yX9_init : MethodName := ⟨RX9, "<init>", "(I)V"⟩
abbrev cX9_value : ByteArray := prog_1_method_2_code
def yX9_value : MethodName := ⟨RX9, "value", "(JJ)I"⟩
abbrev cX9_act : ByteArray := prog_1_method_3_code
def yX9_act : MethodName := ⟨RX9, "act", "(III)I"⟩
abbrev cX9_quotient : ByteArray := prog_1_method_4_code
def yX9_quotient : MethodName := ⟨RX9, "quotient", "(II)I"⟩
abbrev cX9_drop : ByteArray := prog_1_method_5_code
def yX9_drop : MethodName := ⟨RX9, "drop", "()I"⟩
abbrev cX9_compare : ByteArray := prog_1_method_6_code
def yX9_compare : MethodName := ⟨RX9, "compare", "(II)I"⟩
abbrev cX9_about : ByteArray := prog_1_method_7_code
def yX9_about : MethodName := ⟨RX9, "about", "(II)I"⟩
abbrev cX9_limb : ByteArray := prog_1_method_8_code
def yX9_limb : MethodName := ⟨RX9, "limb", "(III)I"⟩
abbrev cX9_entry : ByteArray := prog_1_method_9_code
def yX9_entry : MethodName := ⟨RX9, "entry", "(IIJJ)I"⟩
abbrev cX9_put : ByteArray := prog_1_method_10_code
def yX9_put : MethodName := ⟨RX9, "put", "(III)I"⟩
abbrev cX9_take : ByteArray := prog_1_method_11_code
def yX9_take : MethodName := ⟨RX9, "take", "(II)I"⟩
abbrev cX9_solve : ByteArray := prog_1_method_12_code
def yX9_solve : MethodName := ⟨RX9, "solve", "(I)I"⟩
abbrev cX9_answers : ByteArray := prog_1_method_13_code
def yX9_answers : MethodName := ⟨RX9, "answers", "()I"⟩
abbrev cX9_unknown : ByteArray := prog_1_method_14_code
def yX9_unknown : MethodName := ⟨RX9, "unknown", "(I)I"⟩
abbrev cX9_pivot : ByteArray := prog_1_method_15_code
def yX9_pivot : MethodName := ⟨RX9, "pivot", "(II)I"⟩
abbrev cX9_holds : ByteArray := prog_1_method_16_code
def yX9_holds : MethodName := ⟨RX9, "holds", "(I)I"⟩
abbrev cX9_determinant : ByteArray := prog_1_method_17_code
def yX9_determinant : MethodName := ⟨RX9, "determinant", "(I)I"⟩
abbrev cX9_rest : ByteArray := prog_1_method_18_code
def yX9_rest : MethodName := ⟨RX9, "rest", "(II)I"⟩
abbrev cX9_meet : ByteArray := prog_1_method_19_code
def yX9_meet : MethodName := ⟨RX9, "meet", "(II)I"⟩
abbrev cX9_joined : ByteArray := prog_1_method_20_code
def yX9_joined : MethodName := ⟨RX9, "joined", "(I)I"⟩
abbrev cX9_recover : ByteArray := prog_1_method_21_code
def yX9_recover : MethodName := ⟨RX9, "recover", "()I"⟩
abbrev cX9_part : ByteArray := prog_1_method_22_code
def yX9_part : MethodName := ⟨RX9, "part", "()I"⟩
abbrev cX9_decimals : ByteArray := prog_1_method_23_code
def yX9_decimals : MethodName := ⟨RX9, "decimals", "(IIZ)I"⟩
abbrev cX9_sign : ByteArray := prog_1_method_24_code
def yX9_sign : MethodName := ⟨RX9, "sign", "(I)I"⟩
abbrev cX9_count : ByteArray := prog_1_method_25_code
def yX9_count : MethodName := ⟨RX9, "count", "(I)I"⟩
abbrev cX9_clear : ByteArray := prog_1_method_26_code
def yX9_clear : MethodName := ⟨RX9, "clear", "()I"⟩
abbrev cX9_isNumber : ByteArray := prog_1_method_27_code
def yX9_isNumber : MethodName := ⟨RX9, "isNumber", "(I)Z"⟩
abbrev cX9_isFull : ByteArray := prog_1_method_28_code
def yX9_isFull : MethodName := ⟨RX9, "isFull", "()Z"⟩
abbrev cX9_isEntry : ByteArray := prog_1_method_29_code
def yX9_isEntry : MethodName := ⟨RX9, "isEntry", "(II)Z"⟩
abbrev cX9_entryAt : ByteArray := prog_1_method_30_code
def yX9_entryAt : MethodName := ⟨RX9, "entryAt", "(II)LFractionRows$Fraction;"⟩
abbrev cX9_keep : ByteArray := prog_1_method_31_code
def yX9_keep : MethodName := ⟨RX9, "keep", "(Z)I"⟩
abbrev cX9_keepCopy : ByteArray := prog_1_method_32_code
def yX9_keepCopy : MethodName := ⟨RX9, "keepCopy", "(LFractionRows$Fraction;)I"⟩
abbrev cX9_grew : ByteArray := prog_1_method_33_code
def yX9_grew : MethodName := ⟨RX9, "grew", "()I"⟩
def RX10 : String := "FractionRowsModel"
def TX10 : u_T := fun k => match k with
  | 0 => ("FractionRowsModel", "w", "[I", true)
  | 1 => ("FractionRowsModel", "isBelow", "[Z", true)
  | 2 => ("FractionRowsModel", "n", "I", true)
  | 3 => ("FractionRowsModel", "numbers", "I", false)
  | 4 => ("FractionRowsModel", "primes", "I", false)
  | 5 => ("FractionRowsModel", "grown", "I", false)
  | 6 => ("FractionRowsModel", "thrown", "I", false)
  | 7 => ("FractionRowsModel", "isSolved", "Z", false)
  | 8 => ("FractionRowsModel", "isNone", "Z", false)
  | 9 => ("FractionRowsModel", "rank", "I", false)
  | 10 => ("FractionRowsModel", "pivotColumn", "[I", true)
  | 11 => ("FractionRowsModel", "pivotRow", "[I", true)
  | 12 => ("FractionRowsModel", "pivotSize", "[I", true)
  | 13 => ("FractionRowsModel", "newColumn", "[I", true)
  | 14 => ("FractionRowsModel", "newRow", "[I", true)
  | 15 => ("FractionRowsModel", "newSize", "[I", true)
  | 16 => ("FractionRowsModel", "order", "[I", true)
  | 17 => ("FractionRowsModel", "isTurned", "Z", false)
  | 18 => ("FractionRowsModel", "isFree", "Z", false)
  | 19 => ("FractionRowsModel", "text", "[I", true)
  | 20 => ("FractionRowsModel", "textSize", "I", false)
  | _ => ("FractionRowsModel", "figure", "[I", true)
def tyX10 : Nat → FieldType := fun k => match k with
  | 0 => .array .int
  | 1 => .array .boolean
  | 2 => .int
  | 3 => .int
  | 4 => .int
  | 5 => .int
  | 6 => .int
  | 7 => .boolean
  | 8 => .boolean
  | 9 => .int
  | 10 => .array .int
  | 11 => .array .int
  | 12 => .array .int
  | 13 => .array .int
  | 14 => .array .int
  | 15 => .array .int
  | 16 => .array .int
  | 17 => .boolean
  | 18 => .boolean
  | 19 => .array .int
  | 20 => .int
  | _ => .array .int
abbrev wsX100 : List Cond := u_ws RX10 TX10 22
theorem nmX10 : ∀ a, a < 22 → ∀ b, b < 22 → a ≠ b → (TX10 a).2.1 ≠ (TX10 b).2.1 := by decide +kernel
theorem tyX10_ok : ∀ k, k < 22 → parseFieldDescriptor (TX10 k).2.2.1 = some (tyX10 k) := by decide +kernel
abbrev cX10_init : ByteArray := prog_12_method_1_code
def yX10_init : MethodName := ⟨RX10, "<init>", "(I)V"⟩
abbrev cX10_thrown : ByteArray := prog_12_method_2_code
def yX10_thrown : MethodName := ⟨RX10, "thrown", "()I"⟩
abbrev cX10_topOf : ByteArray := prog_12_method_3_code
def yX10_topOf : MethodName := ⟨RX10, "topOf", "(I)I"⟩
abbrev cX10_wipe : ByteArray := prog_12_method_4_code
def yX10_wipe : MethodName := ⟨RX10, "wipe", "(I)V"⟩
abbrev cX10_carryOver : ByteArray := prog_12_method_5_code
def yX10_carryOver : MethodName := ⟨RX10, "carryOver", "(II)V"⟩
abbrev cX10_setLong : ByteArray := prog_12_method_6_code
def yX10_setLong : MethodName := ⟨RX10, "setLong", "(IJ)V"⟩
abbrev cX10_isOne : ByteArray := prog_12_method_7_code
def yX10_isOne : MethodName := ⟨RX10, "isOne", "(I)Z"⟩
abbrev cX10_orderOf : ByteArray := prog_12_method_8_code
def yX10_orderOf : MethodName := ⟨RX10, "orderOf", "(II)I"⟩
abbrev cX10_plus : ByteArray := prog_12_method_9_code
def yX10_plus : MethodName := ⟨RX10, "plus", "(III)V"⟩
abbrev cX10_minus : ByteArray := prog_12_method_10_code
def yX10_minus : MethodName := ⟨RX10, "minus", "(II)V"⟩
abbrev cX10_times : ByteArray := prog_12_method_11_code
def yX10_times : MethodName := ⟨RX10, "times", "(III)V"⟩
abbrev cX10_bitsOf : ByteArray := prog_12_method_12_code
def yX10_bitsOf : MethodName := ⟨RX10, "bitsOf", "(I)I"⟩
abbrev cX10_bitAt : ByteArray := prog_12_method_13_code
def yX10_bitAt : MethodName := ⟨RX10, "bitAt", "(II)I"⟩
abbrev cX10_halved : ByteArray := prog_12_method_14_code
def yX10_halved : MethodName := ⟨RX10, "halved", "(I)I"⟩
abbrev cX10_twice : ByteArray := prog_12_method_15_code
def yX10_twice : MethodName := ⟨RX10, "twice", "(II)V"⟩
abbrev cX10_divide : ByteArray := prog_12_method_16_code
def yX10_divide : MethodName := ⟨RX10, "divide", "(IIII)V"⟩
abbrev cX10_divisor : ByteArray := prog_12_method_17_code
def yX10_divisor : MethodName := ⟨RX10, "divisor", "(II)V"⟩
abbrev cX10_restBy : ByteArray := prog_12_method_18_code
def yX10_restBy : MethodName := ⟨RX10, "restBy", "(II)I"⟩
abbrev cX10_nothing : ByteArray := prog_12_method_19_code
def yX10_nothing : MethodName := ⟨RX10, "nothing", "(I)V"⟩
abbrev cX10_isZero : ByteArray := prog_12_method_20_code
def yX10_isZero : MethodName := ⟨RX10, "isZero", "(I)Z"⟩
abbrev cX10_same : ByteArray := prog_12_method_21_code
def yX10_same : MethodName := ⟨RX10, "same", "(II)V"⟩
abbrev cX10_sizeOf : ByteArray := prog_12_method_22_code
def yX10_sizeOf : MethodName := ⟨RX10, "sizeOf", "(I)I"⟩
abbrev cX10_lowest : ByteArray := prog_12_method_23_code
def yX10_lowest : MethodName := ⟨RX10, "lowest", "(I)Z"⟩
abbrev cX10_total : ByteArray := prog_12_method_24_code
def yX10_total : MethodName := ⟨RX10, "total", "(IIIZ)Z"⟩
abbrev cX10_product : ByteArray := prog_12_method_25_code
def yX10_product : MethodName := ⟨RX10, "product", "(III)Z"⟩
abbrev cX10_ratio : ByteArray := prog_12_method_26_code
def yX10_ratio : MethodName := ⟨RX10, "ratio", "(III)Z"⟩
abbrev cX10_setFraction : ByteArray := prog_12_method_27_code
def yX10_setFraction : MethodName := ⟨RX10, "setFraction", "(IJJ)V"⟩
abbrev cX10_isIn : ByteArray := prog_12_method_28_code
def yX10_isIn : MethodName := ⟨RX10, "isIn", "(III)Z"⟩
abbrev cX10_isNumber : ByteArray := prog_12_method_29_code
def yX10_isNumber : MethodName := ⟨RX10, "isNumber", "(I)Z"⟩
abbrev cX10_grew : ByteArray := prog_12_method_30_code
def yX10_grew : MethodName := ⟨RX10, "grew", "()I"⟩
abbrev cX10_kept : ByteArray := prog_12_method_31_code
def yX10_kept : MethodName := ⟨RX10, "kept", "()I"⟩
abbrev cX10_asNumber : ByteArray := prog_12_method_32_code
def yX10_asNumber : MethodName := ⟨RX10, "asNumber", "(I)I"⟩
abbrev cX10_value : ByteArray := prog_12_method_33_code
def yX10_value : MethodName := ⟨RX10, "value", "(JJ)I"⟩
abbrev cX10_act : ByteArray := prog_12_method_34_code
def yX10_act : MethodName := ⟨RX10, "act", "(III)I"⟩
abbrev cX10_quotient : ByteArray := prog_12_method_35_code
def yX10_quotient : MethodName := ⟨RX10, "quotient", "(II)I"⟩
abbrev cX10_drop : ByteArray := prog_12_method_36_code
def yX10_drop : MethodName := ⟨RX10, "drop", "()I"⟩
abbrev cX10_compare : ByteArray := prog_12_method_37_code
def yX10_compare : MethodName := ⟨RX10, "compare", "(II)I"⟩
abbrev cX10_about : ByteArray := prog_12_method_38_code
def yX10_about : MethodName := ⟨RX10, "about", "(II)I"⟩
abbrev cX10_limb : ByteArray := prog_12_method_39_code
def yX10_limb : MethodName := ⟨RX10, "limb", "(III)I"⟩
abbrev cX10_isEntry : ByteArray := prog_12_method_40_code
def yX10_isEntry : MethodName := ⟨RX10, "isEntry", "(II)Z"⟩
abbrev cX10_entry : ByteArray := prog_12_method_41_code
def yX10_entry : MethodName := ⟨RX10, "entry", "(IIJJ)I"⟩
abbrev cX10_put : ByteArray := prog_12_method_42_code
def yX10_put : MethodName := ⟨RX10, "put", "(III)I"⟩
abbrev cX10_take : ByteArray := prog_12_method_43_code
def yX10_take : MethodName := ⟨RX10, "take", "(II)I"⟩
abbrev cX10_taken : ByteArray := prog_12_method_44_code
def yX10_taken : MethodName := ⟨RX10, "taken", "(III)I"⟩
abbrev cX10_exchange : ByteArray := prog_12_method_45_code
def yX10_exchange : MethodName := ⟨RX10, "exchange", "(II)V"⟩
abbrev cX10_cleared : ByteArray := prog_12_method_46_code
def yX10_cleared : MethodName := ⟨RX10, "cleared", "(III)Z"⟩
abbrev cX10_eliminated : ByteArray := prog_12_method_47_code
def yX10_eliminated : MethodName := ⟨RX10, "eliminated", "(II)I"⟩
abbrev cX10_answered : ByteArray := prog_12_method_48_code
def yX10_answered : MethodName := ⟨RX10, "answered", "(I)Z"⟩
abbrev cX10_solve : ByteArray := prog_12_method_49_code
def yX10_solve : MethodName := ⟨RX10, "solve", "(I)I"⟩
abbrev cX10_answers : ByteArray := prog_12_method_50_code
def yX10_answers : MethodName := ⟨RX10, "answers", "()I"⟩
abbrev cX10_unknown : ByteArray := prog_12_method_51_code
def yX10_unknown : MethodName := ⟨RX10, "unknown", "(I)I"⟩
abbrev cX10_pivot : ByteArray := prog_12_method_52_code
def yX10_pivot : MethodName := ⟨RX10, "pivot", "(II)I"⟩
abbrev cX10_holds : ByteArray := prog_12_method_53_code
def yX10_holds : MethodName := ⟨RX10, "holds", "(I)I"⟩
abbrev cX10_determinant : ByteArray := prog_12_method_54_code
def yX10_determinant : MethodName := ⟨RX10, "determinant", "(I)I"⟩
abbrev cX10_byPivots : ByteArray := prog_12_method_55_code
def yX10_byPivots : MethodName := ⟨RX10, "byPivots", "(I)Z"⟩
abbrev cX10_byOrders : ByteArray := prog_12_method_56_code
def yX10_byOrders : MethodName := ⟨RX10, "byOrders", "()Z"⟩
abbrev cX10_added : ByteArray := prog_12_method_57_code
def yX10_added : MethodName := ⟨RX10, "added", "()Z"⟩
abbrev cX10_isNext : ByteArray := prog_12_method_58_code
def yX10_isNext : MethodName := ⟨RX10, "isNext", "()Z"⟩
abbrev cX10_isPrime : ByteArray := prog_12_method_59_code
def yX10_isPrime : MethodName := ⟨RX10, "isPrime", "(I)Z"⟩
abbrev cX10_inverse : ByteArray := prog_12_method_60_code
def yX10_inverse : MethodName := ⟨RX10, "inverse", "(II)I"⟩
abbrev cX10_rest : ByteArray := prog_12_method_61_code
def yX10_rest : MethodName := ⟨RX10, "rest", "(II)I"⟩
abbrev cX10_meet : ByteArray := prog_12_method_62_code
def yX10_meet : MethodName := ⟨RX10, "meet", "(II)I"⟩
abbrev cX10_joined : ByteArray := prog_12_method_63_code
def yX10_joined : MethodName := ⟨RX10, "joined", "(I)I"⟩
abbrev cX10_isSmall : ByteArray := prog_12_method_64_code
def yX10_isSmall : MethodName := ⟨RX10, "isSmall", "(I)Z"⟩
abbrev cX10_recover : ByteArray := prog_12_method_65_code
def yX10_recover : MethodName := ⟨RX10, "recover", "()I"⟩
abbrev cX10_part : ByteArray := prog_12_method_66_code
def yX10_part : MethodName := ⟨RX10, "part", "()I"⟩
abbrev cX10_tenfold : ByteArray := prog_12_method_67_code
def yX10_tenfold : MethodName := ⟨RX10, "tenfold", "(I)V"⟩
abbrev cX10_tenth : ByteArray := prog_12_method_68_code
def yX10_tenth : MethodName := ⟨RX10, "tenth", "(I)I"⟩
abbrev cX10_say : ByteArray := prog_12_method_69_code
def yX10_say : MethodName := ⟨RX10, "say", "(I)V"⟩
abbrev cX10_decimals : ByteArray := prog_12_method_70_code
def yX10_decimals : MethodName := ⟨RX10, "decimals", "(IIZ)I"⟩
abbrev cX10_sign : ByteArray := prog_12_method_71_code
def yX10_sign : MethodName := ⟨RX10, "sign", "(I)I"⟩
abbrev cX10_count : ByteArray := prog_12_method_72_code
def yX10_count : MethodName := ⟨RX10, "count", "(I)I"⟩
abbrev cX10_clear : ByteArray := prog_12_method_73_code
def yX10_clear : MethodName := ⟨RX10, "clear", "()I"⟩
def RJ6 : String := "java/lang/Integer"
def TJ6 : u_T := fun k => match k with
  | _ => ("", "", "", false)
def tyJ6 : Nat → FieldType := fun k => match k with
  | _ => .int
abbrev wsJ60 : List Cond := u_ws RJ6 TJ6 0
theorem nmJ6 : ∀ a, a < 0 → ∀ b, b < 0 → a ≠ b → (TJ6 a).2.1 ≠ (TJ6 b).2.1 := by decide +kernel
theorem tyJ6_ok : ∀ k, k < 0 → parseFieldDescriptor (TJ6 k).2.2.1 = some (tyJ6 k) := by decide +kernel
abbrev cJ6_numberOfLeadingZeros_0f7a4 : ByteArray := prog_16_method_47_code
def yJ6_numberOfLeadingZeros_0f7a4 : MethodName := ⟨RJ6, "numberOfLeadingZeros", "(I)I"⟩
abbrev cJ6_numberOfTrailingZeros_0f7a4 : ByteArray := prog_16_method_48_code
def yJ6_numberOfTrailingZeros_0f7a4 : MethodName := ⟨RJ6, "numberOfTrailingZeros", "(I)I"⟩
def RJ9 : String := "java/lang/Math"
def TJ9 : u_T := fun k => match k with
  | _ => ("", "", "", false)
def tyJ9 : Nat → FieldType := fun k => match k with
  | _ => .int
abbrev wsJ90 : List Cond := u_ws RJ9 TJ9 0
theorem nmJ9 : ∀ a, a < 0 → ∀ b, b < 0 → a ≠ b → (TJ9 a).2.1 ≠ (TJ9 b).2.1 := by decide +kernel
theorem tyJ9_ok : ∀ k, k < 0 → parseFieldDescriptor (TJ9 k).2.2.1 = some (tyJ9 k) := by decide +kernel
abbrev cJ9_abs_067f4 : ByteArray := prog_17_method_61_code
def yJ9_abs_067f4 : MethodName := ⟨RJ9, "abs", "(J)J"⟩
abbrev cJ9_max_7cf53 : ByteArray := prog_17_method_65_code
def yJ9_max_7cf53 : MethodName := ⟨RJ9, "max", "(II)I"⟩
abbrev cJ9_min_7cf53 : ByteArray := prog_17_method_69_code
def yJ9_min_7cf53 : MethodName := ⟨RJ9, "min", "(II)I"⟩
def RJ0 : String := "java/lang/String"
def TJ0 : u_T := fun k => match k with
  | _ => ("", "", "", false)
def tyJ0 : Nat → FieldType := fun k => match k with
  | _ => .int
abbrev wsJ00 : List Cond := u_ws RJ0 TJ0 0
theorem nmJ0 : ∀ a, a < 0 → ∀ b, b < 0 → a ≠ b → (TJ0 a).2.1 ≠ (TJ0 b).2.1 := by decide +kernel
theorem tyJ0_ok : ∀ k, k < 0 → parseFieldDescriptor (TJ0 k).2.2.1 = some (tyJ0 k) := by decide +kernel
def RJ10 : String := "java/lang/System"
def TJ10 : u_T := fun k => match k with
  | _ => ("", "", "", false)
def tyJ10 : Nat → FieldType := fun k => match k with
  | _ => .int
abbrev wsJ100 : List Cond := u_ws RJ10 TJ10 0
theorem nmJ10 : ∀ a, a < 0 → ∀ b, b < 0 → a ≠ b → (TJ10 a).2.1 ≠ (TJ10 b).2.1 := by decide +kernel
theorem tyJ10_ok : ∀ k, k < 0 → parseFieldDescriptor (TJ10 k).2.2.1 = some (tyJ10 k) := by decide +kernel
def RL : String := "FractionRowsLaw"
abbrev cL_cell : ByteArray := method_2_code
def yL_cell : MethodName := ⟨RL, "cell", "([II)I"⟩
abbrev cL_quotient : ByteArray := method_3_code
def yL_quotient : MethodName := ⟨RL, "quotient", "(LFractionRows;II[J)I"⟩
abbrev cL_limb : ByteArray := method_4_code
def yL_limb : MethodName := ⟨RL, "limb", "(LFractionRows;III[J)I"⟩
abbrev cL_law : ByteArray := code
def yL_law : MethodName := ⟨RL, "law", "([I)Z"⟩
abbrev vwCl : List vw_C := [(RX0, TX0, 12), (RX1, TX1, 4), (RX2, TX2, 9), (RX3, TX3, 3), (RX4, TX4, 10), (RX6, TX6, 11), (RX7, TX7, 6), (RX8, TX8, 2), (RX9, TX9, 11), (RX10, TX10, 22)]
end
section
/-- the tables' words that hold in every state behind -/
def tz : List Cond := lw_tbl.filter goodWord
theorem zmem {w : Cond} (i : Nat) (h : lw_tbl[i]? = some w) (hg : goodWord w = true) : w ∈ tz := List.mem_filter.mpr ⟨List.mem_of_getElem? h, hg⟩
theorem zsub {ws : List Cond} (h : ∀ w ∈ ws, w ∈ lw_tbl ∧ goodWord w = true) : ∀ w ∈ ws, w ∈ tz := fun w hw => List.mem_filter.mpr (h w hw)
theorem se_X9_isFull : Cond.selects RX9 yX9_isFull yX9_isFull ∈ tz := zmem 0 (by decide +kernel) rfl
theorem se_X0_guessLimb : Cond.selects RX0 yX0_guessLimb yX0_guessLimb ∈ tz := zmem 1 (by decide +kernel) rfl
theorem se_X0_cut : Cond.selects RX0 yX0_cut yX0_cut ∈ tz := zmem 2 (by decide +kernel) rfl
theorem se_X9_keep : Cond.selects RX9 yX9_keep yX9_keep ∈ tz := zmem 3 (by decide +kernel) rfl
theorem se_X9_grew : Cond.selects RX9 yX9_grew yX9_grew ∈ tz := zmem 4 (by decide +kernel) rfl
theorem se_X9_isNumber : Cond.selects RX9 yX9_isNumber yX9_isNumber ∈ tz := zmem 5 (by decide +kernel) rfl
theorem se_X0_joinUppers : Cond.selects RX0 yX0_joinUppers yX0_joinUppers ∈ tz := zmem 6 (by decide +kernel) rfl
theorem se_X8_append : Cond.selects RX8 yX8_append yX8_append ∈ tz := zmem 7 (by decide +kernel) rfl
theorem se_X0_setWide : Cond.selects RX0 yX0_setWide yX0_setWide ∈ tz := zmem 8 (by decide +kernel) rfl
theorem se_X9_isEntry : Cond.selects RX9 yX9_isEntry yX9_isEntry ∈ tz := zmem 9 (by decide +kernel) rfl
theorem se_X9_entryAt : Cond.selects RX9 yX9_entryAt yX9_entryAt ∈ tz := zmem 10 (by decide +kernel) rfl
theorem se_X9_keepCopy : Cond.selects RX9 yX9_keepCopy yX9_keepCopy ∈ tz := zmem 11 (by decide +kernel) rfl
theorem se_X2_begin : Cond.selects RX2 yX2_begin yX2_begin ∈ tz := zmem 12 (by decide +kernel) rfl
theorem se_X2_choose : Cond.selects RX2 yX2_choose yX2_choose ∈ tz := zmem 13 (by decide +kernel) rfl
theorem se_X2_at : Cond.selects RX2 yX2_at yX2_at ∈ tz := zmem 14 (by decide +kernel) rfl
theorem se_X2_bring : Cond.selects RX2 yX2_bring yX2_bring ∈ tz := zmem 15 (by decide +kernel) rfl
theorem se_X2_clearColumn : Cond.selects RX2 yX2_clearColumn yX2_clearColumn ∈ tz := zmem 16 (by decide +kernel) rfl
theorem se_X1_meetsZero : Cond.selects RX1 yX1_meetsZero yX1_meetsZero ∈ tz := zmem 17 (by decide +kernel) rfl
theorem se_X1_inRow : Cond.selects RX1 yX1_inRow yX1_inRow ∈ tz := zmem 18 (by decide +kernel) rfl
theorem se_X1_addOrder : Cond.selects RX1 yX1_addOrder yX1_addOrder ∈ tz := zmem 19 (by decide +kernel) rfl
theorem se_X1_fallsOddly : Cond.selects RX1 yX1_fallsOddly yX1_fallsOddly ∈ tz := zmem 20 (by decide +kernel) rfl
theorem se_X1_goOn : Cond.selects RX1 yX1_goOn yX1_goOn ∈ tz := zmem 21 (by decide +kernel) rfl
theorem se_X1_swap : Cond.selects RX1 yX1_swap yX1_swap ∈ tz := zmem 22 (by decide +kernel) rfl
theorem se_X4_isLow : Cond.selects RX4 yX4_isLow yX4_isLow ∈ tz := zmem 23 (by decide +kernel) rfl
theorem se_X7_append : Cond.selects RX7 yX7_append yX7_append ∈ tz := zmem 24 (by decide +kernel) rfl
theorem se_X10_nothing : Cond.selects RX10 yX10_nothing yX10_nothing ∈ tz := zmem 26 (by decide +kernel) rfl
theorem se_X10_wipe : Cond.selects RX10 yX10_wipe yX10_wipe ∈ tz := zmem 27 (by decide +kernel) rfl
theorem se_X10_setFraction : Cond.selects RX10 yX10_setFraction yX10_setFraction ∈ tz := zmem 28 (by decide +kernel) rfl
theorem se_X10_setLong : Cond.selects RX10 yX10_setLong yX10_setLong ∈ tz := zmem 29 (by decide +kernel) rfl
theorem se_X10_lowest : Cond.selects RX10 yX10_lowest yX10_lowest ∈ tz := zmem 30 (by decide +kernel) rfl
theorem se_X10_isZero : Cond.selects RX10 yX10_isZero yX10_isZero ∈ tz := zmem 31 (by decide +kernel) rfl
theorem se_X10_topOf : Cond.selects RX10 yX10_topOf yX10_topOf ∈ tz := zmem 32 (by decide +kernel) rfl
theorem se_X10_isOne : Cond.selects RX10 yX10_isOne yX10_isOne ∈ tz := zmem 33 (by decide +kernel) rfl
theorem se_X10_divisor : Cond.selects RX10 yX10_divisor yX10_divisor ∈ tz := zmem 34 (by decide +kernel) rfl
theorem se_X10_carryOver : Cond.selects RX10 yX10_carryOver yX10_carryOver ∈ tz := zmem 35 (by decide +kernel) rfl
theorem se_X10_halved : Cond.selects RX10 yX10_halved yX10_halved ∈ tz := zmem 36 (by decide +kernel) rfl
theorem se_X10_orderOf : Cond.selects RX10 yX10_orderOf yX10_orderOf ∈ tz := zmem 37 (by decide +kernel) rfl
theorem se_X10_minus : Cond.selects RX10 yX10_minus yX10_minus ∈ tz := zmem 38 (by decide +kernel) rfl
theorem se_X10_twice : Cond.selects RX10 yX10_twice yX10_twice ∈ tz := zmem 39 (by decide +kernel) rfl
theorem se_X10_divide : Cond.selects RX10 yX10_divide yX10_divide ∈ tz := zmem 40 (by decide +kernel) rfl
theorem se_X10_bitsOf : Cond.selects RX10 yX10_bitsOf yX10_bitsOf ∈ tz := zmem 41 (by decide +kernel) rfl
theorem se_X10_bitAt : Cond.selects RX10 yX10_bitAt yX10_bitAt ∈ tz := zmem 42 (by decide +kernel) rfl
theorem se_X10_kept : Cond.selects RX10 yX10_kept yX10_kept ∈ tz := zmem 43 (by decide +kernel) rfl
theorem se_X10_isNumber : Cond.selects RX10 yX10_isNumber yX10_isNumber ∈ tz := zmem 44 (by decide +kernel) rfl
theorem se_X10_total : Cond.selects RX10 yX10_total yX10_total ∈ tz := zmem 45 (by decide +kernel) rfl
theorem se_X10_times : Cond.selects RX10 yX10_times yX10_times ∈ tz := zmem 46 (by decide +kernel) rfl
theorem se_X10_plus : Cond.selects RX10 yX10_plus yX10_plus ∈ tz := zmem 47 (by decide +kernel) rfl
theorem se_X10_product : Cond.selects RX10 yX10_product yX10_product ∈ tz := zmem 48 (by decide +kernel) rfl
theorem se_X10_ratio : Cond.selects RX10 yX10_ratio yX10_ratio ∈ tz := zmem 49 (by decide +kernel) rfl
theorem se_X10_asNumber : Cond.selects RX10 yX10_asNumber yX10_asNumber ∈ tz := zmem 50 (by decide +kernel) rfl
theorem se_X10_same : Cond.selects RX10 yX10_same yX10_same ∈ tz := zmem 51 (by decide +kernel) rfl
theorem se_X10_grew : Cond.selects RX10 yX10_grew yX10_grew ∈ tz := zmem 52 (by decide +kernel) rfl
theorem se_X10_sizeOf : Cond.selects RX10 yX10_sizeOf yX10_sizeOf ∈ tz := zmem 53 (by decide +kernel) rfl
theorem se_X10_isEntry : Cond.selects RX10 yX10_isEntry yX10_isEntry ∈ tz := zmem 54 (by decide +kernel) rfl
theorem se_X10_eliminated : Cond.selects RX10 yX10_eliminated yX10_eliminated ∈ tz := zmem 55 (by decide +kernel) rfl
theorem se_X10_taken : Cond.selects RX10 yX10_taken yX10_taken ∈ tz := zmem 56 (by decide +kernel) rfl
theorem se_X10_exchange : Cond.selects RX10 yX10_exchange yX10_exchange ∈ tz := zmem 57 (by decide +kernel) rfl
theorem se_X10_cleared : Cond.selects RX10 yX10_cleared yX10_cleared ∈ tz := zmem 58 (by decide +kernel) rfl
theorem se_X10_answered : Cond.selects RX10 yX10_answered yX10_answered ∈ tz := zmem 59 (by decide +kernel) rfl
theorem se_X10_byOrders : Cond.selects RX10 yX10_byOrders yX10_byOrders ∈ tz := zmem 60 (by decide +kernel) rfl
theorem se_X10_added : Cond.selects RX10 yX10_added yX10_added ∈ tz := zmem 61 (by decide +kernel) rfl
theorem se_X10_isNext : Cond.selects RX10 yX10_isNext yX10_isNext ∈ tz := zmem 62 (by decide +kernel) rfl
theorem se_X10_byPivots : Cond.selects RX10 yX10_byPivots yX10_byPivots ∈ tz := zmem 63 (by decide +kernel) rfl
theorem se_X10_restBy : Cond.selects RX10 yX10_restBy yX10_restBy ∈ tz := zmem 64 (by decide +kernel) rfl
theorem se_X10_isSmall : Cond.selects RX10 yX10_isSmall yX10_isSmall ∈ tz := zmem 65 (by decide +kernel) rfl
theorem se_X10_tenfold : Cond.selects RX10 yX10_tenfold yX10_tenfold ∈ tz := zmem 66 (by decide +kernel) rfl
theorem se_X10_say : Cond.selects RX10 yX10_say yX10_say ∈ tz := zmem 67 (by decide +kernel) rfl
theorem se_X10_tenth : Cond.selects RX10 yX10_tenth yX10_tenth ∈ tz := zmem 68 (by decide +kernel) rfl
theorem ini_L : Cond.initialized RL ∈ tz := zmem 69 (by decide +kernel) rfl
theorem ini_X9 : Cond.initialized RX9 ∈ tz := zmem 70 (by decide +kernel) rfl
theorem ini_J9 : Cond.initialized RJ9 ∈ tz := zmem 71 (by decide +kernel) rfl
theorem ini_X0 : Cond.initialized RX0 ∈ tz := zmem 72 (by decide +kernel) rfl
theorem ini_X8 : Cond.initialized RX8 ∈ tz := zmem 73 (by decide +kernel) rfl
theorem ini_X3 : Cond.initialized RX3 ∈ tz := zmem 74 (by decide +kernel) rfl
theorem ini_X2 : Cond.initialized RX2 ∈ tz := zmem 75 (by decide +kernel) rfl
theorem ini_X1 : Cond.initialized RX1 ∈ tz := zmem 76 (by decide +kernel) rfl
theorem ini_X6 : Cond.initialized RX6 ∈ tz := zmem 77 (by decide +kernel) rfl
theorem ini_X4 : Cond.initialized RX4 ∈ tz := zmem 78 (by decide +kernel) rfl
theorem ini_X7 : Cond.initialized RX7 ∈ tz := zmem 79 (by decide +kernel) rfl
theorem ini_X10 : Cond.initialized RX10 ∈ tz := zmem 80 (by decide +kernel) rfl
theorem ini_J10 : Cond.initialized RJ10 ∈ tz := zmem 81 (by decide +kernel) rfl
theorem ini_J6 : Cond.initialized RJ6 ∈ tz := zmem 82 (by decide +kernel) rfl
theorem ini_java_lang_Throwable : Cond.initialized "java/lang/Throwable" ∈ tz := zmem 83 (by decide +kernel) rfl
theorem ini_java_lang_Exception : Cond.initialized "java/lang/Exception" ∈ tz := zmem 84 (by decide +kernel) rfl
theorem ini_java_lang_RuntimeException : Cond.initialized "java/lang/RuntimeException" ∈ tz := zmem 85 (by decide +kernel) rfl
theorem ini_java_lang_ArithmeticException : Cond.initialized "java/lang/ArithmeticException" ∈ tz := zmem 86 (by decide +kernel) rfl
theorem ini_java_lang_IndexOutOfBoundsException : Cond.initialized "java/lang/IndexOutOfBoundsException" ∈ tz := zmem 87 (by decide +kernel) rfl
theorem ini_X5 : Cond.initialized RX5 ∈ tz := zmem 88 (by decide +kernel) rfl
theorem cl_L_8 : Cond.classLink RL 8 RX9 ∈ tz := zmem 89 (by decide +kernel) rfl
theorem ins_X9 : Cond.instantiable RX9 11 ∈ tz := zmem 90 (by decide +kernel) rfl
theorem ml_L_27 : Cond.methodLink RL 27 yX9_init ∈ tz := zmem 91 (by decide +kernel) rfl
theorem im_X9_init : Cond.instanceMethod yX9_init ∈ tz := zmem 92 (by decide +kernel) rfl
theorem co_X9_init : Cond.code yX9_init cX9_init 4 (Option.none : Option Jvm.ClassFile.FieldType) ∈ tz := zmem 93 (by decide +kernel) rfl
theorem ml_X9_1 : Cond.methodLink RX9 1 ⟨"java/lang/Object", "<init>", "()V"⟩ ∈ tz := zmem 94 (by decide +kernel) rfl
theorem im_java_lang_Object__init_ : Cond.instanceMethod ⟨"java/lang/Object", "<init>", "()V"⟩ ∈ tz := zmem 95 (by decide +kernel) rfl
theorem co_obj : Cond.code objectInit ⟨#[0xb1]⟩ 1 none ∈ tz := zmem 96 (by decide +kernel) rfl
theorem ml_X9_9 : Cond.methodLink RX9 9 yJ9_min_7cf53 ∈ tz := zmem 97 (by decide +kernel) rfl
theorem stc_J9_min_7cf53 : Cond.static yJ9_min_7cf53 ∈ tz := zmem 98 (by decide +kernel) rfl
theorem co_J9_min_7cf53 : Cond.code yJ9_min_7cf53 cJ9_min_7cf53 2 (Option.some .int) ∈ tz := zmem 99 (by decide +kernel) rfl
theorem ml_X9_15 : Cond.methodLink RX9 15 yJ9_max_7cf53 ∈ tz := zmem 100 (by decide +kernel) rfl
theorem stc_J9_max_7cf53 : Cond.static yJ9_max_7cf53 ∈ tz := zmem 101 (by decide +kernel) rfl
theorem co_J9_max_7cf53 : Cond.code yJ9_max_7cf53 cJ9_max_7cf53 2 (Option.some .int) ∈ tz := zmem 102 (by decide +kernel) rfl
theorem cl_X9_18 : Cond.classLink RX9 18 RX0 ∈ tz := zmem 103 (by decide +kernel) rfl
theorem ins_X0 : Cond.instantiable RX0 12 ∈ tz := zmem 104 (by decide +kernel) rfl
theorem im_X0_init : Cond.instanceMethod yX0_init ∈ tz := zmem 106 (by decide +kernel) rfl
theorem co_X0_init : Cond.code yX0_init cX0_init 1 (Option.none : Option Jvm.ClassFile.FieldType) ∈ tz := zmem 107 (by decide +kernel) rfl
theorem ml_X0_1 : Cond.methodLink RX0 1 ⟨"java/lang/Object", "<init>", "()V"⟩ ∈ tz := zmem 108 (by decide +kernel) rfl
theorem cl_X0_7 : Cond.classLink RX0 7 RX8 ∈ tz := zmem 109 (by decide +kernel) rfl
theorem ins_X8 : Cond.instantiable RX8 2 ∈ tz := zmem 110 (by decide +kernel) rfl
theorem im_X8_init : Cond.instanceMethod yX8_init ∈ tz := zmem 112 (by decide +kernel) rfl
theorem co_X8_init : Cond.code yX8_init cX8_init 1 (Option.none : Option Jvm.ClassFile.FieldType) ∈ tz := zmem 113 (by decide +kernel) rfl
theorem ml_X8_1 : Cond.methodLink RX8 1 ⟨"java/lang/Object", "<init>", "()V"⟩ ∈ tz := zmem 114 (by decide +kernel) rfl
theorem fl_X8_9 : Cond.fieldLink RX8 9 RX8 "limbs" "[I" ∈ tz := zmem 115 (by decide +kernel) rfl
theorem fl_X0_68 : Cond.fieldLink RX0 68 RX8 "limbs" "[I" ∈ tz := zmem 116 (by decide +kernel) rfl
theorem fl_X9_150 : Cond.fieldLink RX9 150 RX8 "limbs" "[I" ∈ tz := zmem 117 (by decide +kernel) rfl
theorem fl_X8_19 : Cond.fieldLink RX8 19 RX8 "length" "I" ∈ tz := zmem 118 (by decide +kernel) rfl
theorem fl_X0_72 : Cond.fieldLink RX0 72 RX8 "length" "I" ∈ tz := zmem 119 (by decide +kernel) rfl
theorem fl_X9_129 : Cond.fieldLink RX9 129 RX8 "length" "I" ∈ tz := zmem 120 (by decide +kernel) rfl
theorem ac_int : Cond.arrayClass .int ∈ tz := zmem 126 (by decide +kernel) rfl
theorem fl_X0_10 : Cond.fieldLink RX0 10 RX0 "scaledDivisor" "LFractionRows$Whole;" ∈ tz := zmem 127 (by decide +kernel) rfl
theorem fl_X0_16 : Cond.fieldLink RX0 16 RX0 "ratio" "LFractionRows$Whole;" ∈ tz := zmem 128 (by decide +kernel) rfl
theorem fl_X0_19 : Cond.fieldLink RX0 19 RX0 "first" "LFractionRows$Whole;" ∈ tz := zmem 129 (by decide +kernel) rfl
theorem fl_X0_22 : Cond.fieldLink RX0 22 RX0 "second" "LFractionRows$Whole;" ∈ tz := zmem 130 (by decide +kernel) rfl
theorem fl_X0_25 : Cond.fieldLink RX0 25 RX0 "common" "LFractionRows$Whole;" ∈ tz := zmem 131 (by decide +kernel) rfl
theorem fl_X0_28 : Cond.fieldLink RX0 28 RX0 "dividend" "LFractionRows$Whole;" ∈ tz := zmem 132 (by decide +kernel) rfl
theorem fl_X0_31 : Cond.fieldLink RX0 31 RX0 "upper" "LFractionRows$Whole;" ∈ tz := zmem 133 (by decide +kernel) rfl
theorem fl_X0_34 : Cond.fieldLink RX0 34 RX0 "lower" "LFractionRows$Whole;" ∈ tz := zmem 134 (by decide +kernel) rfl
theorem fl_X0_37 : Cond.fieldLink RX0 37 RX0 "leftUpper" "LFractionRows$Whole;" ∈ tz := zmem 135 (by decide +kernel) rfl
theorem fl_X0_40 : Cond.fieldLink RX0 40 RX0 "rightUpper" "LFractionRows$Whole;" ∈ tz := zmem 136 (by decide +kernel) rfl
theorem fl_X0_43 : Cond.fieldLink RX0 43 RX0 "leftLower" "LFractionRows$Whole;" ∈ tz := zmem 137 (by decide +kernel) rfl
theorem fl_X0_46 : Cond.fieldLink RX0 46 RX0 "rightLower" "LFractionRows$Whole;" ∈ tz := zmem 138 (by decide +kernel) rfl
theorem ml_X9_29 : Cond.methodLink RX9 29 yX3_zeros ∈ tz := zmem 164 (by decide +kernel) rfl
theorem stc_X3_zeros : Cond.static yX3_zeros ∈ tz := zmem 165 (by decide +kernel) rfl
theorem co_X3_zeros : Cond.code yX3_zeros cX3_zeros 3 (Option.some (.array (.object "FractionRows$Fraction"))) ∈ tz := zmem 166 (by decide +kernel) rfl
theorem ml_X3_23 : Cond.methodLink RX3 23 yJ9_max_7cf53 ∈ tz := zmem 167 (by decide +kernel) rfl
theorem cl_X3_11 : Cond.classLink RX3 11 RX3 ∈ tz := zmem 168 (by decide +kernel) rfl
theorem ins_X3 : Cond.instantiable RX3 3 ∈ tz := zmem 170 (by decide +kernel) rfl
theorem ml_X3_29 : Cond.methodLink RX3 29 yX3_init ∈ tz := zmem 171 (by decide +kernel) rfl
theorem im_X3_init : Cond.instanceMethod yX3_init ∈ tz := zmem 172 (by decide +kernel) rfl
theorem co_X3_init : Cond.code yX3_init cX3_init 1 (Option.none : Option Jvm.ClassFile.FieldType) ∈ tz := zmem 173 (by decide +kernel) rfl
theorem ml_X3_1 : Cond.methodLink RX3 1 ⟨"java/lang/Object", "<init>", "()V"⟩ ∈ tz := zmem 174 (by decide +kernel) rfl
theorem cl_X3_7 : Cond.classLink RX3 7 RX8 ∈ tz := zmem 175 (by decide +kernel) rfl
theorem ml_X3_19 : Cond.methodLink RX3 19 yX8_setBits ∈ tz := zmem 177 (by decide +kernel) rfl
theorem im_X8_setBits : Cond.instanceMethod yX8_setBits ∈ tz := zmem 178 (by decide +kernel) rfl
theorem se_X8_setBits : Cond.selects RX8 yX8_setBits yX8_setBits ∈ tz := zmem 179 (by decide +kernel) rfl
theorem co_X8_setBits : Cond.code yX8_setBits cX8_setBits 4 (Option.none : Option Jvm.ClassFile.FieldType) ∈ tz := zmem 180 (by decide +kernel) rfl
theorem fl_X3_10 : Cond.fieldLink RX3 10 RX3 "u" "LFractionRows$Whole;" ∈ tz := zmem 181 (by decide +kernel) rfl
theorem fl_X7_34 : Cond.fieldLink RX7 34 RX3 "u" "LFractionRows$Whole;" ∈ tz := zmem 182 (by decide +kernel) rfl
theorem fl_X9_125 : Cond.fieldLink RX9 125 RX3 "u" "LFractionRows$Whole;" ∈ tz := zmem 183 (by decide +kernel) rfl
theorem fl_X0_136 : Cond.fieldLink RX0 136 RX3 "u" "LFractionRows$Whole;" ∈ tz := zmem 184 (by decide +kernel) rfl
theorem fl_X3_16 : Cond.fieldLink RX3 16 RX3 "v" "LFractionRows$Whole;" ∈ tz := zmem 185 (by decide +kernel) rfl
theorem fl_X7_47 : Cond.fieldLink RX7 47 RX3 "v" "LFractionRows$Whole;" ∈ tz := zmem 186 (by decide +kernel) rfl
theorem fl_X9_134 : Cond.fieldLink RX9 134 RX3 "v" "LFractionRows$Whole;" ∈ tz := zmem 187 (by decide +kernel) rfl
theorem fl_X0_144 : Cond.fieldLink RX0 144 RX3 "v" "LFractionRows$Whole;" ∈ tz := zmem 188 (by decide +kernel) rfl
theorem fl_X7_60 : Cond.fieldLink RX7 60 RX3 "below" "Z" ∈ tz := zmem 189 (by decide +kernel) rfl
theorem fl_X3_38 : Cond.fieldLink RX3 38 RX3 "below" "Z" ∈ tz := zmem 190 (by decide +kernel) rfl
theorem fl_X9_121 : Cond.fieldLink RX9 121 RX3 "below" "Z" ∈ tz := zmem 191 (by decide +kernel) rfl
theorem fl_X0_147 : Cond.fieldLink RX0 147 RX3 "below" "Z" ∈ tz := zmem 192 (by decide +kernel) rfl
theorem cl_X9_42 : Cond.classLink RX9 42 RX2 ∈ tz := zmem 200 (by decide +kernel) rfl
theorem ins_X2 : Cond.instantiable RX2 9 ∈ tz := zmem 201 (by decide +kernel) rfl
theorem ml_X9_44 : Cond.methodLink RX9 44 yX2_init ∈ tz := zmem 202 (by decide +kernel) rfl
theorem im_X2_init : Cond.instanceMethod yX2_init ∈ tz := zmem 203 (by decide +kernel) rfl
theorem co_X2_init : Cond.code yX2_init cX2_init 3 (Option.none : Option Jvm.ClassFile.FieldType) ∈ tz := zmem 204 (by decide +kernel) rfl
theorem ml_X2_1 : Cond.methodLink RX2 1 ⟨"java/lang/Object", "<init>", "()V"⟩ ∈ tz := zmem 205 (by decide +kernel) rfl
theorem cl_X2_7 : Cond.classLink RX2 7 RX3 ∈ tz := zmem 206 (by decide +kernel) rfl
theorem ml_X2_9 : Cond.methodLink RX2 9 yX3_init ∈ tz := zmem 207 (by decide +kernel) rfl
theorem ml_X2_27 : Cond.methodLink RX2 27 yX3_zeros ∈ tz := zmem 208 (by decide +kernel) rfl
theorem fl_X2_19 : Cond.fieldLink RX2 19 RX2 "n" "I" ∈ tz := zmem 209 (by decide +kernel) rfl
theorem fl_X2_23 : Cond.fieldLink RX2 23 RX2 "arithmetic" "LFractionRows$Arithmetic;" ∈ tz := zmem 210 (by decide +kernel) rfl
theorem fl_X2_31 : Cond.fieldLink RX2 31 RX2 "work" "[LFractionRows$Fraction;" ∈ tz := zmem 211 (by decide +kernel) rfl
theorem fl_X2_35 : Cond.fieldLink RX2 35 RX2 "rowAt" "[I" ∈ tz := zmem 212 (by decide +kernel) rfl
theorem fl_X2_39 : Cond.fieldLink RX2 39 RX2 "columnOf" "[I" ∈ tz := zmem 214 (by decide +kernel) rfl
theorem fl_X2_10 : Cond.fieldLink RX2 10 RX2 "factor" "LFractionRows$Fraction;" ∈ tz := zmem 216 (by decide +kernel) rfl
theorem fl_X2_16 : Cond.fieldLink RX2 16 RX2 "product" "LFractionRows$Fraction;" ∈ tz := zmem 217 (by decide +kernel) rfl
theorem fl_X2_54 : Cond.fieldLink RX2 54 RX2 "rank" "I" ∈ tz := zmem 219 (by decide +kernel) rfl
theorem fl_X2_73 : Cond.fieldLink RX2 73 RX2 "odd" "Z" ∈ tz := zmem 222 (by decide +kernel) rfl
theorem cl_X9_51 : Cond.classLink RX9 51 RX1 ∈ tz := zmem 242 (by decide +kernel) rfl
theorem ins_X1 : Cond.instantiable RX1 4 ∈ tz := zmem 243 (by decide +kernel) rfl
theorem ml_X9_53 : Cond.methodLink RX9 53 yX1_init ∈ tz := zmem 244 (by decide +kernel) rfl
theorem im_X1_init : Cond.instanceMethod yX1_init ∈ tz := zmem 245 (by decide +kernel) rfl
theorem co_X1_init : Cond.code yX1_init cX1_init 3 (Option.none : Option Jvm.ClassFile.FieldType) ∈ tz := zmem 246 (by decide +kernel) rfl
theorem ml_X1_1 : Cond.methodLink RX1 1 ⟨"java/lang/Object", "<init>", "()V"⟩ ∈ tz := zmem 247 (by decide +kernel) rfl
theorem cl_X1_7 : Cond.classLink RX1 7 RX3 ∈ tz := zmem 248 (by decide +kernel) rfl
theorem ml_X1_9 : Cond.methodLink RX1 9 yX3_init ∈ tz := zmem 249 (by decide +kernel) rfl
theorem fl_X1_16 : Cond.fieldLink RX1 16 RX1 "n" "I" ∈ tz := zmem 250 (by decide +kernel) rfl
theorem fl_X1_20 : Cond.fieldLink RX1 20 RX1 "arithmetic" "LFractionRows$Arithmetic;" ∈ tz := zmem 251 (by decide +kernel) rfl
theorem fl_X1_24 : Cond.fieldLink RX1 24 RX1 "order" "[I" ∈ tz := zmem 252 (by decide +kernel) rfl
theorem fl_X1_10 : Cond.fieldLink RX1 10 RX1 "product" "LFractionRows$Fraction;" ∈ tz := zmem 253 (by decide +kernel) rfl
theorem cl_X9_58 : Cond.classLink RX9 58 RX6 ∈ tz := zmem 263 (by decide +kernel) rfl
theorem ins_X6 : Cond.instantiable RX6 11 ∈ tz := zmem 264 (by decide +kernel) rfl
theorem ml_X9_60 : Cond.methodLink RX9 60 yX6_init ∈ tz := zmem 265 (by decide +kernel) rfl
theorem im_X6_init : Cond.instanceMethod yX6_init ∈ tz := zmem 266 (by decide +kernel) rfl
theorem co_X6_init : Cond.code yX6_init cX6_init 3 (Option.none : Option Jvm.ClassFile.FieldType) ∈ tz := zmem 267 (by decide +kernel) rfl
theorem ml_X6_1 : Cond.methodLink RX6 1 ⟨"java/lang/Object", "<init>", "()V"⟩ ∈ tz := zmem 268 (by decide +kernel) rfl
theorem cl_X6_7 : Cond.classLink RX6 7 RX3 ∈ tz := zmem 269 (by decide +kernel) rfl
theorem ml_X6_9 : Cond.methodLink RX6 9 yX3_init ∈ tz := zmem 270 (by decide +kernel) rfl
theorem ml_X6_37 : Cond.methodLink RX6 37 yX3_zeros ∈ tz := zmem 271 (by decide +kernel) rfl
theorem fl_X6_19 : Cond.fieldLink RX6 19 RX6 "n" "I" ∈ tz := zmem 272 (by decide +kernel) rfl
theorem fl_X6_23 : Cond.fieldLink RX6 23 RX6 "arithmetic" "LFractionRows$Arithmetic;" ∈ tz := zmem 273 (by decide +kernel) rfl
theorem fl_X6_27 : Cond.fieldLink RX6 27 RX6 "columns" "[I" ∈ tz := zmem 274 (by decide +kernel) rfl
theorem fl_X6_31 : Cond.fieldLink RX6 31 RX6 "rows" "[I" ∈ tz := zmem 276 (by decide +kernel) rfl
theorem fl_X6_34 : Cond.fieldLink RX6 34 RX6 "sizes" "[I" ∈ tz := zmem 278 (by decide +kernel) rfl
theorem fl_X6_41 : Cond.fieldLink RX6 41 RX6 "unknowns" "[LFractionRows$Fraction;" ∈ tz := zmem 280 (by decide +kernel) rfl
theorem fl_X6_10 : Cond.fieldLink RX6 10 RX6 "product" "LFractionRows$Fraction;" ∈ tz := zmem 282 (by decide +kernel) rfl
theorem fl_X6_16 : Cond.fieldLink RX6 16 RX6 "sum" "LFractionRows$Fraction;" ∈ tz := zmem 283 (by decide +kernel) rfl
theorem fl_X6_45 : Cond.fieldLink RX6 45 RX6 "there" "Z" ∈ tz := zmem 285 (by decide +kernel) rfl
theorem fl_X6_73 : Cond.fieldLink RX6 73 RX6 "hasAnswers" "Z" ∈ tz := zmem 287 (by decide +kernel) rfl
theorem fl_X6_54 : Cond.fieldLink RX6 54 RX6 "rank" "I" ∈ tz := zmem 289 (by decide +kernel) rfl
theorem cl_X9_65 : Cond.classLink RX9 65 RX4 ∈ tz := zmem 314 (by decide +kernel) rfl
theorem ins_X4 : Cond.instantiable RX4 10 ∈ tz := zmem 315 (by decide +kernel) rfl
theorem ml_X9_67 : Cond.methodLink RX9 67 yX4_init ∈ tz := zmem 316 (by decide +kernel) rfl
theorem im_X4_init : Cond.instanceMethod yX4_init ∈ tz := zmem 317 (by decide +kernel) rfl
theorem co_X4_init : Cond.code yX4_init cX4_init 2 (Option.none : Option Jvm.ClassFile.FieldType) ∈ tz := zmem 318 (by decide +kernel) rfl
theorem ml_X4_1 : Cond.methodLink RX4 1 ⟨"java/lang/Object", "<init>", "()V"⟩ ∈ tz := zmem 319 (by decide +kernel) rfl
theorem cl_X4_7 : Cond.classLink RX4 7 RX8 ∈ tz := zmem 320 (by decide +kernel) rfl
theorem ml_X4_41 : Cond.methodLink RX4 41 yX8_setBits ∈ tz := zmem 322 (by decide +kernel) rfl
theorem fl_X4_37 : Cond.fieldLink RX4 37 RX4 "arithmetic" "LFractionRows$Arithmetic;" ∈ tz := zmem 323 (by decide +kernel) rfl
theorem fl_X4_10 : Cond.fieldLink RX4 10 RX4 "number" "LFractionRows$Whole;" ∈ tz := zmem 324 (by decide +kernel) rfl
theorem fl_X4_16 : Cond.fieldLink RX4 16 RX4 "modulus" "LFractionRows$Whole;" ∈ tz := zmem 326 (by decide +kernel) rfl
theorem fl_X4_19 : Cond.fieldLink RX4 19 RX4 "next" "LFractionRows$Whole;" ∈ tz := zmem 328 (by decide +kernel) rfl
theorem fl_X4_22 : Cond.fieldLink RX4 22 RX4 "ratio" "LFractionRows$Whole;" ∈ tz := zmem 329 (by decide +kernel) rfl
theorem fl_X4_25 : Cond.fieldLink RX4 25 RX4 "firstRest" "LFractionRows$Whole;" ∈ tz := zmem 330 (by decide +kernel) rfl
theorem fl_X4_28 : Cond.fieldLink RX4 28 RX4 "secondRest" "LFractionRows$Whole;" ∈ tz := zmem 331 (by decide +kernel) rfl
theorem fl_X4_31 : Cond.fieldLink RX4 31 RX4 "firstFactor" "LFractionRows$Whole;" ∈ tz := zmem 332 (by decide +kernel) rfl
theorem fl_X4_34 : Cond.fieldLink RX4 34 RX4 "secondFactor" "LFractionRows$Whole;" ∈ tz := zmem 333 (by decide +kernel) rfl
theorem fl_X4_45 : Cond.fieldLink RX4 45 RX4 "primes" "I" ∈ tz := zmem 334 (by decide +kernel) rfl
theorem cl_X9_74 : Cond.classLink RX9 74 RX7 ∈ tz := zmem 357 (by decide +kernel) rfl
theorem ins_X7 : Cond.instantiable RX7 6 ∈ tz := zmem 358 (by decide +kernel) rfl
theorem ml_X9_76 : Cond.methodLink RX9 76 yX7_init ∈ tz := zmem 359 (by decide +kernel) rfl
theorem im_X7_init : Cond.instanceMethod yX7_init ∈ tz := zmem 360 (by decide +kernel) rfl
theorem co_X7_init : Cond.code yX7_init cX7_init 2 (Option.none : Option Jvm.ClassFile.FieldType) ∈ tz := zmem 361 (by decide +kernel) rfl
theorem ml_X7_1 : Cond.methodLink RX7 1 ⟨"java/lang/Object", "<init>", "()V"⟩ ∈ tz := zmem 362 (by decide +kernel) rfl
theorem cl_X7_7 : Cond.classLink RX7 7 RX8 ∈ tz := zmem 363 (by decide +kernel) rfl
theorem ml_X7_30 : Cond.methodLink RX7 30 yX8_setBits ∈ tz := zmem 365 (by decide +kernel) rfl
theorem fl_X7_26 : Cond.fieldLink RX7 26 RX7 "arithmetic" "LFractionRows$Arithmetic;" ∈ tz := zmem 366 (by decide +kernel) rfl
theorem fl_X7_10 : Cond.fieldLink RX7 10 RX7 "one" "LFractionRows$Whole;" ∈ tz := zmem 367 (by decide +kernel) rfl
theorem fl_X7_16 : Cond.fieldLink RX7 16 RX7 "scaled" "LFractionRows$Whole;" ∈ tz := zmem 368 (by decide +kernel) rfl
theorem fl_X7_19 : Cond.fieldLink RX7 19 RX7 "figures" "LFractionRows$Whole;" ∈ tz := zmem 369 (by decide +kernel) rfl
theorem fl_X7_22 : Cond.fieldLink RX7 22 RX7 "backwards" "[B" ∈ tz := zmem 370 (by decide +kernel) rfl
theorem fl_X7_67 : Cond.fieldLink RX7 67 RX7 "length" "I" ∈ tz := zmem 372 (by decide +kernel) rfl
theorem ac_byte : Cond.arrayClass .byte ∈ tz := zmem 387 (by decide +kernel) rfl
theorem fl_X9_21 : Cond.fieldLink RX9 21 RX9 "n" "I" ∈ tz := zmem 388 (by decide +kernel) rfl
theorem fl_X9_25 : Cond.fieldLink RX9 25 RX9 "arithmetic" "LFractionRows$Arithmetic;" ∈ tz := zmem 389 (by decide +kernel) rfl
theorem fl_X9_35 : Cond.fieldLink RX9 35 RX9 "numbers" "[LFractionRows$Fraction;" ∈ tz := zmem 390 (by decide +kernel) rfl
theorem fl_X9_39 : Cond.fieldLink RX9 39 RX9 "entries" "[LFractionRows$Fraction;" ∈ tz := zmem 391 (by decide +kernel) rfl
theorem fl_X9_47 : Cond.fieldLink RX9 47 RX9 "elimination" "LFractionRows$Elimination;" ∈ tz := zmem 392 (by decide +kernel) rfl
theorem fl_X9_54 : Cond.fieldLink RX9 54 RX9 "determinants" "LFractionRows$Determinants;" ∈ tz := zmem 393 (by decide +kernel) rfl
theorem fl_X9_61 : Cond.fieldLink RX9 61 RX9 "solved" "LFractionRows$Solved;" ∈ tz := zmem 394 (by decide +kernel) rfl
theorem fl_X9_70 : Cond.fieldLink RX9 70 RX9 "joint" "LFractionRows$Joint;" ∈ tz := zmem 395 (by decide +kernel) rfl
theorem fl_X9_77 : Cond.fieldLink RX9 77 RX9 "text" "LFractionRows$Text;" ∈ tz := zmem 396 (by decide +kernel) rfl
theorem fl_X9_85 : Cond.fieldLink RX9 85 RX9 "numberCount" "I" ∈ tz := zmem 397 (by decide +kernel) rfl
theorem fl_X9_270 : Cond.fieldLink RX9 270 RX9 "grewCount" "I" ∈ tz := zmem 398 (by decide +kernel) rfl
theorem ml_L_35 : Cond.methodLink RL 35 yX9_value ∈ tz := zmem 422 (by decide +kernel) rfl
theorem im_X9_value : Cond.instanceMethod yX9_value ∈ tz := zmem 423 (by decide +kernel) rfl
theorem se_X9_value : Cond.selects RX9 yX9_value yX9_value ∈ tz := zmem 424 (by decide +kernel) rfl
theorem co_X9_value : Cond.code yX9_value cX9_value 5 (Option.some .int) ∈ tz := zmem 425 (by decide +kernel) rfl
theorem ml_X9_81 : Cond.methodLink RX9 81 yX9_isFull ∈ tz := zmem 426 (by decide +kernel) rfl
theorem im_X9_isFull : Cond.instanceMethod yX9_isFull ∈ tz := zmem 428 (by decide +kernel) rfl
theorem co_X9_isFull : Cond.code yX9_isFull cX9_isFull 1 (Option.some .boolean) ∈ tz := zmem 429 (by decide +kernel) rfl
theorem ml_X9_88 : Cond.methodLink RX9 88 yX0_setRatio ∈ tz := zmem 430 (by decide +kernel) rfl
theorem im_X0_setRatio : Cond.instanceMethod yX0_setRatio ∈ tz := zmem 431 (by decide +kernel) rfl
theorem se_X0_setRatio : Cond.selects RX0 yX0_setRatio yX0_setRatio ∈ tz := zmem 432 (by decide +kernel) rfl
theorem co_X0_setRatio : Cond.code yX0_setRatio cX0_setRatio 6 (Option.none : Option Jvm.ClassFile.FieldType) ∈ tz := zmem 433 (by decide +kernel) rfl
theorem ml_X0_132 : Cond.methodLink RX0 132 yJ9_abs_067f4 ∈ tz := zmem 434 (by decide +kernel) rfl
theorem stc_J9_abs_067f4 : Cond.static yJ9_abs_067f4 ∈ tz := zmem 435 (by decide +kernel) rfl
theorem co_J9_abs_067f4 : Cond.code yJ9_abs_067f4 cJ9_abs_067f4 2 (Option.some .long) ∈ tz := zmem 436 (by decide +kernel) rfl
theorem ml_X0_49 : Cond.methodLink RX0 49 yX8_setBits ∈ tz := zmem 437 (by decide +kernel) rfl
theorem ml_X0_128 : Cond.methodLink RX0 128 yX0_findCommon ∈ tz := zmem 438 (by decide +kernel) rfl
theorem im_X0_findCommon : Cond.instanceMethod yX0_findCommon ∈ tz := zmem 439 (by decide +kernel) rfl
theorem se_X0_findCommon : Cond.selects RX0 yX0_findCommon yX0_findCommon ∈ tz := zmem 440 (by decide +kernel) rfl
theorem co_X0_findCommon : Cond.code yX0_findCommon cX0_findCommon 7 (Option.none : Option Jvm.ClassFile.FieldType) ∈ tz := zmem 441 (by decide +kernel) rfl
theorem ml_X0_116 : Cond.methodLink RX0 116 yX8_isOne ∈ tz := zmem 442 (by decide +kernel) rfl
theorem im_X8_isOne : Cond.instanceMethod yX8_isOne ∈ tz := zmem 443 (by decide +kernel) rfl
theorem se_X8_isOne : Cond.selects RX8 yX8_isOne yX8_isOne ∈ tz := zmem 444 (by decide +kernel) rfl
theorem co_X8_isOne : Cond.code yX8_isOne cX8_isOne 1 (Option.some .boolean) ∈ tz := zmem 445 (by decide +kernel) rfl
theorem ml_X0_82 : Cond.methodLink RX0 82 yX8_copy ∈ tz := zmem 446 (by decide +kernel) rfl
theorem im_X8_copy : Cond.instanceMethod yX8_copy ∈ tz := zmem 447 (by decide +kernel) rfl
theorem se_X8_copy : Cond.selects RX8 yX8_copy yX8_copy ∈ tz := zmem 448 (by decide +kernel) rfl
theorem co_X8_copy : Cond.code yX8_copy cX8_copy 2 (Option.none : Option Jvm.ClassFile.FieldType) ∈ tz := zmem 449 (by decide +kernel) rfl
theorem ml_X8_13 : Cond.methodLink RX8 13 ⟨RJ10, "arraycopy", "(Ljava/lang/Object;ILjava/lang/Object;II)V"⟩ ∈ tz := zmem 450 (by decide +kernel) rfl
theorem stc_java_lang_System_arraycopy : Cond.static ⟨RJ10, "arraycopy", "(Ljava/lang/Object;ILjava/lang/Object;II)V"⟩ ∈ tz := zmem 451 (by decide +kernel) rfl
theorem nat_java_lang_System_arraycopy : Cond.native ⟨RJ10, "arraycopy", "(Ljava/lang/Object;ILjava/lang/Object;II)V"⟩ ∈ tz := zmem 452 (by decide +kernel) rfl
theorem cn_X0_119 : Cond.constant RX0 119 (100000) ∈ tz := zmem 453 (by decide +kernel) rfl
theorem ml_X0_53 : Cond.methodLink RX0 53 yX8_isZero ∈ tz := zmem 454 (by decide +kernel) rfl
theorem im_X8_isZero : Cond.instanceMethod yX8_isZero ∈ tz := zmem 455 (by decide +kernel) rfl
theorem se_X8_isZero : Cond.selects RX8 yX8_isZero yX8_isZero ∈ tz := zmem 456 (by decide +kernel) rfl
theorem co_X8_isZero : Cond.code yX8_isZero cX8_isZero 1 (Option.some .boolean) ∈ tz := zmem 457 (by decide +kernel) rfl
theorem ml_X0_61 : Cond.methodLink RX0 61 yX8_fitsLong ∈ tz := zmem 458 (by decide +kernel) rfl
theorem im_X8_fitsLong : Cond.instanceMethod yX8_fitsLong ∈ tz := zmem 459 (by decide +kernel) rfl
theorem se_X8_fitsLong : Cond.selects RX8 yX8_fitsLong yX8_fitsLong ∈ tz := zmem 460 (by decide +kernel) rfl
theorem co_X8_fitsLong : Cond.code yX8_fitsLong cX8_fitsLong 1 (Option.some .boolean) ∈ tz := zmem 461 (by decide +kernel) rfl
theorem ml_X0_64 : Cond.methodLink RX0 64 yX8_toLong ∈ tz := zmem 462 (by decide +kernel) rfl
theorem im_X8_toLong : Cond.instanceMethod yX8_toLong ∈ tz := zmem 463 (by decide +kernel) rfl
theorem se_X8_toLong : Cond.selects RX8 yX8_toLong yX8_toLong ∈ tz := zmem 464 (by decide +kernel) rfl
theorem co_X8_toLong : Cond.code yX8_toLong cX8_toLong 1 (Option.some .long) ∈ tz := zmem 465 (by decide +kernel) rfl
theorem cn_X8_23 : Cond.constantLong RX8 23 (4294967295) ∈ tz := zmem 466 (by decide +kernel) rfl
theorem ml_X0_120 : Cond.methodLink RX0 120 yX0_commonOf ∈ tz := zmem 467 (by decide +kernel) rfl
theorem stc_X0_commonOf : Cond.static yX0_commonOf ∈ tz := zmem 468 (by decide +kernel) rfl
theorem co_X0_commonOf : Cond.code yX0_commonOf cX0_commonOf 11 (Option.some .long) ∈ tz := zmem 469 (by decide +kernel) rfl
theorem ml_X0_124 : Cond.methodLink RX0 124 yX0_divide ∈ tz := zmem 470 (by decide +kernel) rfl
theorem im_X0_divide : Cond.instanceMethod yX0_divide ∈ tz := zmem 471 (by decide +kernel) rfl
theorem se_X0_divide : Cond.selects RX0 yX0_divide yX0_divide ∈ tz := zmem 472 (by decide +kernel) rfl
theorem co_X0_divide : Cond.code yX0_divide cX0_divide 11 (Option.none : Option Jvm.ClassFile.FieldType) ∈ tz := zmem 473 (by decide +kernel) rfl
theorem ml_X0_57 : Cond.methodLink RX0 57 yX8_against ∈ tz := zmem 474 (by decide +kernel) rfl
theorem im_X8_against : Cond.instanceMethod yX8_against ∈ tz := zmem 475 (by decide +kernel) rfl
theorem se_X8_against : Cond.selects RX8 yX8_against yX8_against ∈ tz := zmem 476 (by decide +kernel) rfl
theorem co_X8_against : Cond.code yX8_against cX8_against 3 (Option.some .int) ∈ tz := zmem 477 (by decide +kernel) rfl
theorem ml_X0_76 : Cond.methodLink RX0 76 yJ6_numberOfLeadingZeros_0f7a4 ∈ tz := zmem 478 (by decide +kernel) rfl
theorem stc_J6_numberOfLeadingZeros_0f7a4 : Cond.static yJ6_numberOfLeadingZeros_0f7a4 ∈ tz := zmem 479 (by decide +kernel) rfl
theorem co_J6_numberOfLeadingZeros_0f7a4 : Cond.code yJ6_numberOfLeadingZeros_0f7a4 cJ6_numberOfLeadingZeros_0f7a4 2 (Option.some .int) ∈ tz := zmem 480 (by decide +kernel) rfl
theorem cn_J6_264 : Cond.constant RJ6 264 (65536) ∈ tz := zmem 481 (by decide +kernel) rfl
theorem ml_X0_86 : Cond.methodLink RX0 86 yX8_shiftLeft ∈ tz := zmem 482 (by decide +kernel) rfl
theorem im_X8_shiftLeft : Cond.instanceMethod yX8_shiftLeft ∈ tz := zmem 483 (by decide +kernel) rfl
theorem se_X8_shiftLeft : Cond.selects RX8 yX8_shiftLeft yX8_shiftLeft ∈ tz := zmem 484 (by decide +kernel) rfl
theorem co_X8_shiftLeft : Cond.code yX8_shiftLeft cX8_shiftLeft 5 (Option.none : Option Jvm.ClassFile.FieldType) ∈ tz := zmem 485 (by decide +kernel) rfl
theorem ml_X0_90 : Cond.methodLink RX0 90 yJ9_min_7cf53 ∈ tz := zmem 486 (by decide +kernel) rfl
theorem ml_X0_96 : Cond.methodLink RX0 96 yX0_guessLimb ∈ tz := zmem 487 (by decide +kernel) rfl
theorem im_X0_guessLimb : Cond.instanceMethod yX0_guessLimb ∈ tz := zmem 489 (by decide +kernel) rfl
theorem co_X0_guessLimb : Cond.code yX0_guessLimb cX0_guessLimb 12 (Option.some .long) ∈ tz := zmem 490 (by decide +kernel) rfl
theorem cn_X0_114 : Cond.constantLong RX0 114 (4294967295) ∈ tz := zmem 491 (by decide +kernel) rfl
theorem ml_X0_100 : Cond.methodLink RX0 100 yX8_takeTimes ∈ tz := zmem 492 (by decide +kernel) rfl
theorem im_X8_takeTimes : Cond.instanceMethod yX8_takeTimes ∈ tz := zmem 493 (by decide +kernel) rfl
theorem se_X8_takeTimes : Cond.selects RX8 yX8_takeTimes yX8_takeTimes ∈ tz := zmem 494 (by decide +kernel) rfl
theorem co_X8_takeTimes : Cond.code yX8_takeTimes cX8_takeTimes 12 (Option.some .boolean) ∈ tz := zmem 495 (by decide +kernel) rfl
theorem ml_X0_104 : Cond.methodLink RX0 104 yX8_giveBack ∈ tz := zmem 496 (by decide +kernel) rfl
theorem im_X8_giveBack : Cond.instanceMethod yX8_giveBack ∈ tz := zmem 497 (by decide +kernel) rfl
theorem se_X8_giveBack : Cond.selects RX8 yX8_giveBack yX8_giveBack ∈ tz := zmem 498 (by decide +kernel) rfl
theorem co_X8_giveBack : Cond.code yX8_giveBack cX8_giveBack 6 (Option.some .boolean) ∈ tz := zmem 499 (by decide +kernel) rfl
theorem ml_X0_108 : Cond.methodLink RX0 108 yX8_trim ∈ tz := zmem 500 (by decide +kernel) rfl
theorem im_X8_trim : Cond.instanceMethod yX8_trim ∈ tz := zmem 501 (by decide +kernel) rfl
theorem se_X8_trim : Cond.selects RX8 yX8_trim yX8_trim ∈ tz := zmem 502 (by decide +kernel) rfl
theorem co_X8_trim : Cond.code yX8_trim cX8_trim 1 (Option.none : Option Jvm.ClassFile.FieldType) ∈ tz := zmem 503 (by decide +kernel) rfl
theorem ml_X0_111 : Cond.methodLink RX0 111 yX8_shiftRight ∈ tz := zmem 504 (by decide +kernel) rfl
theorem im_X8_shiftRight : Cond.instanceMethod yX8_shiftRight ∈ tz := zmem 505 (by decide +kernel) rfl
theorem se_X8_shiftRight : Cond.selects RX8 yX8_shiftRight yX8_shiftRight ∈ tz := zmem 506 (by decide +kernel) rfl
theorem co_X8_shiftRight : Cond.code yX8_shiftRight cX8_shiftRight 7 (Option.none : Option Jvm.ClassFile.FieldType) ∈ tz := zmem 507 (by decide +kernel) rfl
theorem ml_X0_141 : Cond.methodLink RX0 141 yX0_cut ∈ tz := zmem 508 (by decide +kernel) rfl
theorem im_X0_cut : Cond.instanceMethod yX0_cut ∈ tz := zmem 510 (by decide +kernel) rfl
theorem co_X0_cut : Cond.code yX0_cut cX0_cut 3 (Option.none : Option Jvm.ClassFile.FieldType) ∈ tz := zmem 511 (by decide +kernel) rfl
theorem ml_X9_92 : Cond.methodLink RX9 92 yX9_keep ∈ tz := zmem 512 (by decide +kernel) rfl
theorem im_X9_keep : Cond.instanceMethod yX9_keep ∈ tz := zmem 514 (by decide +kernel) rfl
theorem co_X9_keep : Cond.code yX9_keep cX9_keep 2 (Option.some .int) ∈ tz := zmem 515 (by decide +kernel) rfl
theorem ml_X9_181 : Cond.methodLink RX9 181 yX9_grew ∈ tz := zmem 516 (by decide +kernel) rfl
theorem im_X9_grew : Cond.instanceMethod yX9_grew ∈ tz := zmem 518 (by decide +kernel) rfl
theorem co_X9_grew : Cond.code yX9_grew cX9_grew 1 (Option.some .int) ∈ tz := zmem 519 (by decide +kernel) rfl
theorem ml_L_40 : Cond.methodLink RL 40 yX9_act ∈ tz := zmem 520 (by decide +kernel) rfl
theorem im_X9_act : Cond.instanceMethod yX9_act ∈ tz := zmem 521 (by decide +kernel) rfl
theorem se_X9_act : Cond.selects RX9 yX9_act yX9_act ∈ tz := zmem 522 (by decide +kernel) rfl
theorem co_X9_act : Cond.code yX9_act cX9_act 5 (Option.some .int) ∈ tz := zmem 523 (by decide +kernel) rfl
theorem ml_X9_96 : Cond.methodLink RX9 96 yX9_isNumber ∈ tz := zmem 524 (by decide +kernel) rfl
theorem im_X9_isNumber : Cond.instanceMethod yX9_isNumber ∈ tz := zmem 526 (by decide +kernel) rfl
theorem co_X9_isNumber : Cond.code yX9_isNumber cX9_isNumber 2 (Option.some .boolean) ∈ tz := zmem 527 (by decide +kernel) rfl
theorem ml_X9_100 : Cond.methodLink RX9 100 yX3_isZero ∈ tz := zmem 528 (by decide +kernel) rfl
theorem im_X3_isZero : Cond.instanceMethod yX3_isZero ∈ tz := zmem 529 (by decide +kernel) rfl
theorem se_X3_isZero : Cond.selects RX3 yX3_isZero yX3_isZero ∈ tz := zmem 530 (by decide +kernel) rfl
theorem co_X3_isZero : Cond.code yX3_isZero cX3_isZero 1 (Option.some .boolean) ∈ tz := zmem 531 (by decide +kernel) rfl
theorem ml_X3_30 : Cond.methodLink RX3 30 yX8_isZero ∈ tz := zmem 532 (by decide +kernel) rfl
theorem ml_X9_103 : Cond.methodLink RX9 103 yX0_add ∈ tz := zmem 533 (by decide +kernel) rfl
theorem im_X0_add : Cond.instanceMethod yX0_add ∈ tz := zmem 534 (by decide +kernel) rfl
theorem se_X0_add : Cond.selects RX0 yX0_add yX0_add ∈ tz := zmem 535 (by decide +kernel) rfl
theorem co_X0_add : Cond.code yX0_add cX0_add 6 (Option.some .boolean) ∈ tz := zmem 536 (by decide +kernel) rfl
theorem ml_X0_151 : Cond.methodLink RX0 151 yX8_setProduct ∈ tz := zmem 537 (by decide +kernel) rfl
theorem im_X8_setProduct : Cond.instanceMethod yX8_setProduct ∈ tz := zmem 538 (by decide +kernel) rfl
theorem se_X8_setProduct : Cond.selects RX8 yX8_setProduct yX8_setProduct ∈ tz := zmem 539 (by decide +kernel) rfl
theorem co_X8_setProduct : Cond.code yX8_setProduct cX8_setProduct 9 (Option.none : Option Jvm.ClassFile.FieldType) ∈ tz := zmem 540 (by decide +kernel) rfl
theorem ml_X8_44 : Cond.methodLink RX8 44 yX8_setBits ∈ tz := zmem 541 (by decide +kernel) rfl
theorem ml_X8_41 : Cond.methodLink RX8 41 yX8_trim ∈ tz := zmem 542 (by decide +kernel) rfl
theorem ml_X0_154 : Cond.methodLink RX0 154 yX0_joinUppers ∈ tz := zmem 543 (by decide +kernel) rfl
theorem im_X0_joinUppers : Cond.instanceMethod yX0_joinUppers ∈ tz := zmem 545 (by decide +kernel) rfl
theorem co_X0_joinUppers : Cond.code yX0_joinUppers cX0_joinUppers 3 (Option.some .boolean) ∈ tz := zmem 546 (by decide +kernel) rfl
theorem ml_X0_162 : Cond.methodLink RX0 162 yX8_increase ∈ tz := zmem 547 (by decide +kernel) rfl
theorem im_X8_increase : Cond.instanceMethod yX8_increase ∈ tz := zmem 548 (by decide +kernel) rfl
theorem se_X8_increase : Cond.selects RX8 yX8_increase yX8_increase ∈ tz := zmem 549 (by decide +kernel) rfl
theorem co_X8_increase : Cond.code yX8_increase cX8_increase 6 (Option.none : Option Jvm.ClassFile.FieldType) ∈ tz := zmem 550 (by decide +kernel) rfl
theorem ml_X8_31 : Cond.methodLink RX8 31 yJ9_max_7cf53 ∈ tz := zmem 551 (by decide +kernel) rfl
theorem ml_X8_37 : Cond.methodLink RX8 37 yX8_append ∈ tz := zmem 552 (by decide +kernel) rfl
theorem im_X8_append : Cond.instanceMethod yX8_append ∈ tz := zmem 554 (by decide +kernel) rfl
theorem co_X8_append : Cond.code yX8_append cX8_append 2 (Option.none : Option Jvm.ClassFile.FieldType) ∈ tz := zmem 555 (by decide +kernel) rfl
theorem ml_X0_165 : Cond.methodLink RX0 165 yX8_decrease ∈ tz := zmem 556 (by decide +kernel) rfl
theorem im_X8_decrease : Cond.instanceMethod yX8_decrease ∈ tz := zmem 557 (by decide +kernel) rfl
theorem se_X8_decrease : Cond.selects RX8 yX8_decrease yX8_decrease ∈ tz := zmem 558 (by decide +kernel) rfl
theorem co_X8_decrease : Cond.code yX8_decrease cX8_decrease 5 (Option.none : Option Jvm.ClassFile.FieldType) ∈ tz := zmem 559 (by decide +kernel) rfl
theorem ml_X0_158 : Cond.methodLink RX0 158 yX0_setWide ∈ tz := zmem 560 (by decide +kernel) rfl
theorem im_X0_setWide : Cond.instanceMethod yX0_setWide ∈ tz := zmem 562 (by decide +kernel) rfl
theorem co_X0_setWide : Cond.code yX0_setWide cX0_setWide 5 (Option.some .boolean) ∈ tz := zmem 563 (by decide +kernel) rfl
theorem ml_X0_168 : Cond.methodLink RX0 168 yX8_isWide ∈ tz := zmem 564 (by decide +kernel) rfl
theorem im_X8_isWide : Cond.instanceMethod yX8_isWide ∈ tz := zmem 565 (by decide +kernel) rfl
theorem se_X8_isWide : Cond.selects RX8 yX8_isWide yX8_isWide ∈ tz := zmem 566 (by decide +kernel) rfl
theorem co_X8_isWide : Cond.code yX8_isWide cX8_isWide 1 (Option.some .boolean) ∈ tz := zmem 567 (by decide +kernel) rfl
theorem ml_X0_171 : Cond.methodLink RX0 171 yX3_set ∈ tz := zmem 568 (by decide +kernel) rfl
theorem im_X3_set : Cond.instanceMethod yX3_set ∈ tz := zmem 569 (by decide +kernel) rfl
theorem se_X3_set : Cond.selects RX3 yX3_set yX3_set ∈ tz := zmem 570 (by decide +kernel) rfl
theorem co_X3_set : Cond.code yX3_set cX3_set 4 (Option.none : Option Jvm.ClassFile.FieldType) ∈ tz := zmem 571 (by decide +kernel) rfl
theorem ml_X3_42 : Cond.methodLink RX3 42 yX8_copy ∈ tz := zmem 572 (by decide +kernel) rfl
theorem ml_X9_107 : Cond.methodLink RX9 107 yX0_multiply ∈ tz := zmem 573 (by decide +kernel) rfl
theorem im_X0_multiply : Cond.instanceMethod yX0_multiply ∈ tz := zmem 574 (by decide +kernel) rfl
theorem se_X0_multiply : Cond.selects RX0 yX0_multiply yX0_multiply ∈ tz := zmem 575 (by decide +kernel) rfl
theorem co_X0_multiply : Cond.code yX0_multiply cX0_multiply 7 (Option.some .boolean) ∈ tz := zmem 576 (by decide +kernel) rfl
theorem ml_L_52 : Cond.methodLink RL 52 yX9_drop ∈ tz := zmem 577 (by decide +kernel) rfl
theorem im_X9_drop : Cond.instanceMethod yX9_drop ∈ tz := zmem 578 (by decide +kernel) rfl
theorem se_X9_drop : Cond.selects RX9 yX9_drop yX9_drop ∈ tz := zmem 579 (by decide +kernel) rfl
theorem co_X9_drop : Cond.code yX9_drop cX9_drop 1 (Option.some .int) ∈ tz := zmem 580 (by decide +kernel) rfl
theorem ml_L_56 : Cond.methodLink RL 56 yX9_compare ∈ tz := zmem 581 (by decide +kernel) rfl
theorem im_X9_compare : Cond.instanceMethod yX9_compare ∈ tz := zmem 582 (by decide +kernel) rfl
theorem se_X9_compare : Cond.selects RX9 yX9_compare yX9_compare ∈ tz := zmem 583 (by decide +kernel) rfl
theorem co_X9_compare : Cond.code yX9_compare cX9_compare 3 (Option.some .int) ∈ tz := zmem 584 (by decide +kernel) rfl
theorem ml_X9_117 : Cond.methodLink RX9 117 yX0_order ∈ tz := zmem 585 (by decide +kernel) rfl
theorem im_X0_order : Cond.instanceMethod yX0_order ∈ tz := zmem 586 (by decide +kernel) rfl
theorem se_X0_order : Cond.selects RX0 yX0_order yX0_order ∈ tz := zmem 587 (by decide +kernel) rfl
theorem co_X0_order : Cond.code yX0_order cX0_order 3 (Option.some .int) ∈ tz := zmem 588 (by decide +kernel) rfl
theorem ml_L_60 : Cond.methodLink RL 60 yX9_about ∈ tz := zmem 589 (by decide +kernel) rfl
theorem im_X9_about : Cond.instanceMethod yX9_about ∈ tz := zmem 590 (by decide +kernel) rfl
theorem se_X9_about : Cond.selects RX9 yX9_about yX9_about ∈ tz := zmem 591 (by decide +kernel) rfl
theorem co_X9_about : Cond.code yX9_about cX9_about 4 (Option.some .int) ∈ tz := zmem 592 (by decide +kernel) rfl
theorem ml_X9_137 : Cond.methodLink RX9 137 yX3_size ∈ tz := zmem 593 (by decide +kernel) rfl
theorem im_X3_size : Cond.instanceMethod yX3_size ∈ tz := zmem 594 (by decide +kernel) rfl
theorem se_X3_size : Cond.selects RX3 yX3_size yX3_size ∈ tz := zmem 595 (by decide +kernel) rfl
theorem co_X3_size : Cond.code yX3_size cX3_size 1 (Option.some .int) ∈ tz := zmem 596 (by decide +kernel) rfl
theorem ml_X3_34 : Cond.methodLink RX3 34 yX8_bits ∈ tz := zmem 597 (by decide +kernel) rfl
theorem im_X8_bits : Cond.instanceMethod yX8_bits ∈ tz := zmem 598 (by decide +kernel) rfl
theorem se_X8_bits : Cond.selects RX8 yX8_bits yX8_bits ∈ tz := zmem 599 (by decide +kernel) rfl
theorem co_X8_bits : Cond.code yX8_bits cX8_bits 1 (Option.some .int) ∈ tz := zmem 600 (by decide +kernel) rfl
theorem ml_X8_25 : Cond.methodLink RX8 25 yJ6_numberOfLeadingZeros_0f7a4 ∈ tz := zmem 601 (by decide +kernel) rfl
theorem ml_L_68 : Cond.methodLink RL 68 yX9_entry ∈ tz := zmem 602 (by decide +kernel) rfl
theorem im_X9_entry : Cond.instanceMethod yX9_entry ∈ tz := zmem 603 (by decide +kernel) rfl
theorem se_X9_entry : Cond.selects RX9 yX9_entry yX9_entry ∈ tz := zmem 604 (by decide +kernel) rfl
theorem co_X9_entry : Cond.code yX9_entry cX9_entry 7 (Option.some .int) ∈ tz := zmem 605 (by decide +kernel) rfl
theorem ml_X9_154 : Cond.methodLink RX9 154 yX9_isEntry ∈ tz := zmem 606 (by decide +kernel) rfl
theorem im_X9_isEntry : Cond.instanceMethod yX9_isEntry ∈ tz := zmem 608 (by decide +kernel) rfl
theorem co_X9_isEntry : Cond.code yX9_isEntry cX9_isEntry 3 (Option.some .boolean) ∈ tz := zmem 609 (by decide +kernel) rfl
theorem ml_X9_158 : Cond.methodLink RX9 158 yX9_entryAt ∈ tz := zmem 610 (by decide +kernel) rfl
theorem im_X9_entryAt : Cond.instanceMethod yX9_entryAt ∈ tz := zmem 612 (by decide +kernel) rfl
theorem co_X9_entryAt : Cond.code yX9_entryAt cX9_entryAt 3 (Option.some (.object "FractionRows$Fraction")) ∈ tz := zmem 613 (by decide +kernel) rfl
theorem ml_L_73 : Cond.methodLink RL 73 yX9_put ∈ tz := zmem 614 (by decide +kernel) rfl
theorem im_X9_put : Cond.instanceMethod yX9_put ∈ tz := zmem 615 (by decide +kernel) rfl
theorem se_X9_put : Cond.selects RX9 yX9_put yX9_put ∈ tz := zmem 616 (by decide +kernel) rfl
theorem co_X9_put : Cond.code yX9_put cX9_put 4 (Option.some .int) ∈ tz := zmem 617 (by decide +kernel) rfl
theorem ml_X9_162 : Cond.methodLink RX9 162 yX3_copy ∈ tz := zmem 618 (by decide +kernel) rfl
theorem im_X3_copy : Cond.instanceMethod yX3_copy ∈ tz := zmem 619 (by decide +kernel) rfl
theorem se_X3_copy : Cond.selects RX3 yX3_copy yX3_copy ∈ tz := zmem 620 (by decide +kernel) rfl
theorem co_X3_copy : Cond.code yX3_copy cX3_copy 2 (Option.none : Option Jvm.ClassFile.FieldType) ∈ tz := zmem 621 (by decide +kernel) rfl
theorem ml_X3_46 : Cond.methodLink RX3 46 yX3_set ∈ tz := zmem 622 (by decide +kernel) rfl
theorem ml_L_77 : Cond.methodLink RL 77 yX9_take ∈ tz := zmem 623 (by decide +kernel) rfl
theorem im_X9_take : Cond.instanceMethod yX9_take ∈ tz := zmem 624 (by decide +kernel) rfl
theorem se_X9_take : Cond.selects RX9 yX9_take yX9_take ∈ tz := zmem 625 (by decide +kernel) rfl
theorem co_X9_take : Cond.code yX9_take cX9_take 3 (Option.some .int) ∈ tz := zmem 626 (by decide +kernel) rfl
theorem ml_X9_166 : Cond.methodLink RX9 166 yX9_keepCopy ∈ tz := zmem 627 (by decide +kernel) rfl
theorem im_X9_keepCopy : Cond.instanceMethod yX9_keepCopy ∈ tz := zmem 629 (by decide +kernel) rfl
theorem co_X9_keepCopy : Cond.code yX9_keepCopy cX9_keepCopy 2 (Option.some .int) ∈ tz := zmem 630 (by decide +kernel) rfl
theorem ml_L_81 : Cond.methodLink RL 81 yX9_solve ∈ tz := zmem 631 (by decide +kernel) rfl
theorem im_X9_solve : Cond.instanceMethod yX9_solve ∈ tz := zmem 632 (by decide +kernel) rfl
theorem se_X9_solve : Cond.selects RX9 yX9_solve yX9_solve ∈ tz := zmem 633 (by decide +kernel) rfl
theorem co_X9_solve : Cond.code yX9_solve cX9_solve 2 (Option.some .int) ∈ tz := zmem 634 (by decide +kernel) rfl
theorem ml_X9_170 : Cond.methodLink RX9 170 yX6_forget ∈ tz := zmem 635 (by decide +kernel) rfl
theorem im_X6_forget : Cond.instanceMethod yX6_forget ∈ tz := zmem 636 (by decide +kernel) rfl
theorem se_X6_forget : Cond.selects RX6 yX6_forget yX6_forget ∈ tz := zmem 637 (by decide +kernel) rfl
theorem co_X6_forget : Cond.code yX6_forget cX6_forget 1 (Option.none : Option Jvm.ClassFile.FieldType) ∈ tz := zmem 638 (by decide +kernel) rfl
theorem ml_X9_173 : Cond.methodLink RX9 173 yX2_run ∈ tz := zmem 639 (by decide +kernel) rfl
theorem im_X2_run : Cond.instanceMethod yX2_run ∈ tz := zmem 640 (by decide +kernel) rfl
theorem se_X2_run : Cond.selects RX2 yX2_run yX2_run ∈ tz := zmem 641 (by decide +kernel) rfl
theorem co_X2_run : Cond.code yX2_run cX2_run 7 (Option.some .boolean) ∈ tz := zmem 642 (by decide +kernel) rfl
theorem ml_X2_42 : Cond.methodLink RX2 42 yX2_begin ∈ tz := zmem 643 (by decide +kernel) rfl
theorem im_X2_begin : Cond.instanceMethod yX2_begin ∈ tz := zmem 645 (by decide +kernel) rfl
theorem co_X2_begin : Cond.code yX2_begin cX2_begin 3 (Option.none : Option Jvm.ClassFile.FieldType) ∈ tz := zmem 646 (by decide +kernel) rfl
theorem ml_X2_69 : Cond.methodLink RX2 69 yX3_copy ∈ tz := zmem 647 (by decide +kernel) rfl
theorem ml_X2_46 : Cond.methodLink RX2 46 yX2_choose ∈ tz := zmem 648 (by decide +kernel) rfl
theorem im_X2_choose : Cond.instanceMethod yX2_choose ∈ tz := zmem 650 (by decide +kernel) rfl
theorem co_X2_choose : Cond.code yX2_choose cX2_choose 5 (Option.some .int) ∈ tz := zmem 651 (by decide +kernel) rfl
theorem ml_X2_57 : Cond.methodLink RX2 57 yX2_at ∈ tz := zmem 652 (by decide +kernel) rfl
theorem im_X2_at : Cond.instanceMethod yX2_at ∈ tz := zmem 654 (by decide +kernel) rfl
theorem co_X2_at : Cond.code yX2_at cX2_at 3 (Option.some (.object "FractionRows$Fraction")) ∈ tz := zmem 655 (by decide +kernel) rfl
theorem ml_X2_61 : Cond.methodLink RX2 61 yX3_isZero ∈ tz := zmem 656 (by decide +kernel) rfl
theorem ml_X2_77 : Cond.methodLink RX2 77 yX3_size ∈ tz := zmem 657 (by decide +kernel) rfl
theorem ml_X2_50 : Cond.methodLink RX2 50 yX2_bring ∈ tz := zmem 658 (by decide +kernel) rfl
theorem im_X2_bring : Cond.instanceMethod yX2_bring ∈ tz := zmem 660 (by decide +kernel) rfl
theorem co_X2_bring : Cond.code yX2_bring cX2_bring 4 (Option.none : Option Jvm.ClassFile.FieldType) ∈ tz := zmem 661 (by decide +kernel) rfl
theorem ml_X2_65 : Cond.methodLink RX2 65 yX2_clearColumn ∈ tz := zmem 662 (by decide +kernel) rfl
theorem im_X2_clearColumn : Cond.instanceMethod yX2_clearColumn ∈ tz := zmem 664 (by decide +kernel) rfl
theorem co_X2_clearColumn : Cond.code yX2_clearColumn cX2_clearColumn 7 (Option.some .boolean) ∈ tz := zmem 665 (by decide +kernel) rfl
theorem ml_X2_81 : Cond.methodLink RX2 81 yX0_multiply ∈ tz := zmem 666 (by decide +kernel) rfl
theorem ml_X2_87 : Cond.methodLink RX2 87 yX0_add ∈ tz := zmem 667 (by decide +kernel) rfl
theorem ml_X2_90 : Cond.methodLink RX2 90 yX3_setZero ∈ tz := zmem 668 (by decide +kernel) rfl
theorem im_X3_setZero : Cond.instanceMethod yX3_setZero ∈ tz := zmem 669 (by decide +kernel) rfl
theorem se_X3_setZero : Cond.selects RX3 yX3_setZero yX3_setZero ∈ tz := zmem 670 (by decide +kernel) rfl
theorem co_X3_setZero : Cond.code yX3_setZero cX3_setZero 1 (Option.none : Option Jvm.ClassFile.FieldType) ∈ tz := zmem 671 (by decide +kernel) rfl
theorem ml_X9_177 : Cond.methodLink RX9 177 yX6_fill ∈ tz := zmem 672 (by decide +kernel) rfl
theorem im_X6_fill : Cond.instanceMethod yX6_fill ∈ tz := zmem 673 (by decide +kernel) rfl
theorem se_X6_fill : Cond.selects RX6 yX6_fill yX6_fill ∈ tz := zmem 674 (by decide +kernel) rfl
theorem co_X6_fill : Cond.code yX6_fill cX6_fill 3 (Option.some .boolean) ∈ tz := zmem 675 (by decide +kernel) rfl
theorem ml_X6_61 : Cond.methodLink RX6 61 yX2_pivotAt ∈ tz := zmem 676 (by decide +kernel) rfl
theorem im_X2_pivotAt : Cond.instanceMethod yX2_pivotAt ∈ tz := zmem 677 (by decide +kernel) rfl
theorem se_X2_pivotAt : Cond.selects RX2 yX2_pivotAt yX2_pivotAt ∈ tz := zmem 678 (by decide +kernel) rfl
theorem co_X2_pivotAt : Cond.code yX2_pivotAt cX2_pivotAt 2 (Option.some (.object "FractionRows$Fraction")) ∈ tz := zmem 679 (by decide +kernel) rfl
theorem ml_X6_65 : Cond.methodLink RX6 65 yX3_size ∈ tz := zmem 680 (by decide +kernel) rfl
theorem ml_X6_69 : Cond.methodLink RX6 69 yX2_hasAnswers ∈ tz := zmem 681 (by decide +kernel) rfl
theorem im_X2_hasAnswers : Cond.instanceMethod yX2_hasAnswers ∈ tz := zmem 682 (by decide +kernel) rfl
theorem se_X2_hasAnswers : Cond.selects RX2 yX2_hasAnswers yX2_hasAnswers ∈ tz := zmem 683 (by decide +kernel) rfl
theorem co_X2_hasAnswers : Cond.code yX2_hasAnswers cX2_hasAnswers 2 (Option.some .boolean) ∈ tz := zmem 684 (by decide +kernel) rfl
theorem ml_X6_75 : Cond.methodLink RX6 75 yX2_findUnknowns ∈ tz := zmem 685 (by decide +kernel) rfl
theorem im_X2_findUnknowns : Cond.instanceMethod yX2_findUnknowns ∈ tz := zmem 686 (by decide +kernel) rfl
theorem se_X2_findUnknowns : Cond.selects RX2 yX2_findUnknowns yX2_findUnknowns ∈ tz := zmem 687 (by decide +kernel) rfl
theorem co_X2_findUnknowns : Cond.code yX2_findUnknowns cX2_findUnknowns 6 (Option.some .boolean) ∈ tz := zmem 688 (by decide +kernel) rfl
theorem ml_L_86 : Cond.methodLink RL 86 yX9_answers ∈ tz := zmem 689 (by decide +kernel) rfl
theorem im_X9_answers : Cond.instanceMethod yX9_answers ∈ tz := zmem 690 (by decide +kernel) rfl
theorem se_X9_answers : Cond.selects RX9 yX9_answers yX9_answers ∈ tz := zmem 691 (by decide +kernel) rfl
theorem co_X9_answers : Cond.code yX9_answers cX9_answers 1 (Option.some .int) ∈ tz := zmem 692 (by decide +kernel) rfl
theorem ml_L_90 : Cond.methodLink RL 90 yX9_unknown ∈ tz := zmem 693 (by decide +kernel) rfl
theorem im_X9_unknown : Cond.instanceMethod yX9_unknown ∈ tz := zmem 694 (by decide +kernel) rfl
theorem se_X9_unknown : Cond.selects RX9 yX9_unknown yX9_unknown ∈ tz := zmem 695 (by decide +kernel) rfl
theorem co_X9_unknown : Cond.code yX9_unknown cX9_unknown 2 (Option.some .int) ∈ tz := zmem 696 (by decide +kernel) rfl
theorem ml_X9_193 : Cond.methodLink RX9 193 yX6_tellsUnknowns ∈ tz := zmem 697 (by decide +kernel) rfl
theorem im_X6_tellsUnknowns : Cond.instanceMethod yX6_tellsUnknowns ∈ tz := zmem 698 (by decide +kernel) rfl
theorem se_X6_tellsUnknowns : Cond.selects RX6 yX6_tellsUnknowns yX6_tellsUnknowns ∈ tz := zmem 699 (by decide +kernel) rfl
theorem co_X6_tellsUnknowns : Cond.code yX6_tellsUnknowns cX6_tellsUnknowns 1 (Option.some .boolean) ∈ tz := zmem 700 (by decide +kernel) rfl
theorem ml_L_94 : Cond.methodLink RL 94 yX9_pivot ∈ tz := zmem 701 (by decide +kernel) rfl
theorem im_X9_pivot : Cond.instanceMethod yX9_pivot ∈ tz := zmem 702 (by decide +kernel) rfl
theorem se_X9_pivot : Cond.selects RX9 yX9_pivot yX9_pivot ∈ tz := zmem 703 (by decide +kernel) rfl
theorem co_X9_pivot : Cond.code yX9_pivot cX9_pivot 3 (Option.some .int) ∈ tz := zmem 704 (by decide +kernel) rfl
theorem ml_L_98 : Cond.methodLink RL 98 yX9_holds ∈ tz := zmem 705 (by decide +kernel) rfl
theorem im_X9_holds : Cond.instanceMethod yX9_holds ∈ tz := zmem 706 (by decide +kernel) rfl
theorem se_X9_holds : Cond.selects RX9 yX9_holds yX9_holds ∈ tz := zmem 707 (by decide +kernel) rfl
theorem co_X9_holds : Cond.code yX9_holds cX9_holds 2 (Option.some .int) ∈ tz := zmem 708 (by decide +kernel) rfl
theorem ml_X9_208 : Cond.methodLink RX9 208 yX6_addUp ∈ tz := zmem 709 (by decide +kernel) rfl
theorem im_X6_addUp : Cond.instanceMethod yX6_addUp ∈ tz := zmem 710 (by decide +kernel) rfl
theorem se_X6_addUp : Cond.selects RX6 yX6_addUp yX6_addUp ∈ tz := zmem 711 (by decide +kernel) rfl
theorem co_X6_addUp : Cond.code yX6_addUp cX6_addUp 5 (Option.some .boolean) ∈ tz := zmem 712 (by decide +kernel) rfl
theorem ml_X6_79 : Cond.methodLink RX6 79 yX3_setZero ∈ tz := zmem 713 (by decide +kernel) rfl
theorem ml_X6_82 : Cond.methodLink RX6 82 yX0_multiply ∈ tz := zmem 714 (by decide +kernel) rfl
theorem ml_X6_88 : Cond.methodLink RX6 88 yX0_add ∈ tz := zmem 715 (by decide +kernel) rfl
theorem ml_L_102 : Cond.methodLink RL 102 yX9_determinant ∈ tz := zmem 716 (by decide +kernel) rfl
theorem im_X9_determinant : Cond.instanceMethod yX9_determinant ∈ tz := zmem 717 (by decide +kernel) rfl
theorem se_X9_determinant : Cond.selects RX9 yX9_determinant yX9_determinant ∈ tz := zmem 718 (by decide +kernel) rfl
theorem co_X9_determinant : Cond.code yX9_determinant cX9_determinant 3 (Option.some .int) ∈ tz := zmem 719 (by decide +kernel) rfl
theorem ml_X9_216 : Cond.methodLink RX9 216 yX1_addOrders ∈ tz := zmem 720 (by decide +kernel) rfl
theorem im_X1_addOrders : Cond.instanceMethod yX1_addOrders ∈ tz := zmem 721 (by decide +kernel) rfl
theorem se_X1_addOrders : Cond.selects RX1 yX1_addOrders yX1_addOrders ∈ tz := zmem 722 (by decide +kernel) rfl
theorem co_X1_addOrders : Cond.code yX1_addOrders cX1_addOrders 4 (Option.some .boolean) ∈ tz := zmem 723 (by decide +kernel) rfl
theorem ml_X1_28 : Cond.methodLink RX1 28 yX3_setZero ∈ tz := zmem 724 (by decide +kernel) rfl
theorem ml_X1_57 : Cond.methodLink RX1 57 yX1_meetsZero ∈ tz := zmem 725 (by decide +kernel) rfl
theorem im_X1_meetsZero : Cond.instanceMethod yX1_meetsZero ∈ tz := zmem 727 (by decide +kernel) rfl
theorem co_X1_meetsZero : Cond.code yX1_meetsZero cX1_meetsZero 3 (Option.some .boolean) ∈ tz := zmem 728 (by decide +kernel) rfl
theorem ml_X1_69 : Cond.methodLink RX1 69 yX1_inRow ∈ tz := zmem 729 (by decide +kernel) rfl
theorem im_X1_inRow : Cond.instanceMethod yX1_inRow ∈ tz := zmem 731 (by decide +kernel) rfl
theorem co_X1_inRow : Cond.code yX1_inRow cX1_inRow 3 (Option.some (.object "FractionRows$Fraction")) ∈ tz := zmem 732 (by decide +kernel) rfl
theorem ml_X1_73 : Cond.methodLink RX1 73 yX3_isZero ∈ tz := zmem 733 (by decide +kernel) rfl
theorem ml_X1_61 : Cond.methodLink RX1 61 yX1_addOrder ∈ tz := zmem 734 (by decide +kernel) rfl
theorem im_X1_addOrder : Cond.instanceMethod yX1_addOrder ∈ tz := zmem 736 (by decide +kernel) rfl
theorem co_X1_addOrder : Cond.code yX1_addOrder cX1_addOrder 4 (Option.some .boolean) ∈ tz := zmem 737 (by decide +kernel) rfl
theorem ml_X1_40 : Cond.methodLink RX1 40 yX3_copy ∈ tz := zmem 738 (by decide +kernel) rfl
theorem ml_X1_44 : Cond.methodLink RX1 44 yX0_multiply ∈ tz := zmem 739 (by decide +kernel) rfl
theorem ml_X1_76 : Cond.methodLink RX1 76 yX1_fallsOddly ∈ tz := zmem 740 (by decide +kernel) rfl
theorem im_X1_fallsOddly : Cond.instanceMethod yX1_fallsOddly ∈ tz := zmem 742 (by decide +kernel) rfl
theorem co_X1_fallsOddly : Cond.code yX1_fallsOddly cX1_fallsOddly 4 (Option.some .boolean) ∈ tz := zmem 743 (by decide +kernel) rfl
theorem ml_X1_79 : Cond.methodLink RX1 79 yX0_add ∈ tz := zmem 744 (by decide +kernel) rfl
theorem ml_X1_65 : Cond.methodLink RX1 65 yX1_goOn ∈ tz := zmem 745 (by decide +kernel) rfl
theorem im_X1_goOn : Cond.instanceMethod yX1_goOn ∈ tz := zmem 747 (by decide +kernel) rfl
theorem co_X1_goOn : Cond.code yX1_goOn cX1_goOn 5 (Option.some .boolean) ∈ tz := zmem 748 (by decide +kernel) rfl
theorem ml_X1_82 : Cond.methodLink RX1 82 yX1_swap ∈ tz := zmem 749 (by decide +kernel) rfl
theorem im_X1_swap : Cond.instanceMethod yX1_swap ∈ tz := zmem 751 (by decide +kernel) rfl
theorem co_X1_swap : Cond.code yX1_swap cX1_swap 4 (Option.none : Option Jvm.ClassFile.FieldType) ∈ tz := zmem 752 (by decide +kernel) rfl
theorem ml_X9_220 : Cond.methodLink RX9 220 yX1_multiplyPivots ∈ tz := zmem 753 (by decide +kernel) rfl
theorem im_X1_multiplyPivots : Cond.instanceMethod yX1_multiplyPivots ∈ tz := zmem 754 (by decide +kernel) rfl
theorem se_X1_multiplyPivots : Cond.selects RX1 yX1_multiplyPivots yX1_multiplyPivots ∈ tz := zmem 755 (by decide +kernel) rfl
theorem co_X1_multiplyPivots : Cond.code yX1_multiplyPivots cX1_multiplyPivots 4 (Option.some .boolean) ∈ tz := zmem 756 (by decide +kernel) rfl
theorem ml_X1_36 : Cond.methodLink RX1 36 yX2_pivotAt ∈ tz := zmem 757 (by decide +kernel) rfl
theorem ml_X1_54 : Cond.methodLink RX1 54 yX3_negate ∈ tz := zmem 758 (by decide +kernel) rfl
theorem im_X3_negate : Cond.instanceMethod yX3_negate ∈ tz := zmem 759 (by decide +kernel) rfl
theorem se_X3_negate : Cond.selects RX3 yX3_negate yX3_negate ∈ tz := zmem 760 (by decide +kernel) rfl
theorem co_X3_negate : Cond.code yX3_negate cX3_negate 1 (Option.none : Option Jvm.ClassFile.FieldType) ∈ tz := zmem 761 (by decide +kernel) rfl
theorem ml_L_106 : Cond.methodLink RL 106 yX9_rest ∈ tz := zmem 762 (by decide +kernel) rfl
theorem im_X9_rest : Cond.instanceMethod yX9_rest ∈ tz := zmem 763 (by decide +kernel) rfl
theorem se_X9_rest : Cond.selects RX9 yX9_rest yX9_rest ∈ tz := zmem 764 (by decide +kernel) rfl
theorem co_X9_rest : Cond.code yX9_rest cX9_rest 6 (Option.some .int) ∈ tz := zmem 765 (by decide +kernel) rfl
theorem ml_X9_224 : Cond.methodLink RX9 224 yX5_isPrime ∈ tz := zmem 766 (by decide +kernel) rfl
theorem stc_X5_isPrime : Cond.static yX5_isPrime ∈ tz := zmem 767 (by decide +kernel) rfl
theorem co_X5_isPrime : Cond.code yX5_isPrime cX5_isPrime 2 (Option.some .boolean) ∈ tz := zmem 768 (by decide +kernel) rfl
theorem fl_X5_7 : Cond.fieldLink RX5 7 RX5 "WITNESSES" "[I" ∈ tz := zmem 769 (by decide +kernel) rfl
theorem ml_X5_13 : Cond.methodLink RX5 13 yX5_passes ∈ tz := zmem 771 (by decide +kernel) rfl
theorem stc_X5_passes : Cond.static yX5_passes ∈ tz := zmem 772 (by decide +kernel) rfl
theorem co_X5_passes : Cond.code yX5_passes cX5_passes 6 (Option.some .boolean) ∈ tz := zmem 773 (by decide +kernel) rfl
theorem ml_X5_17 : Cond.methodLink RX5 17 yJ6_numberOfTrailingZeros_0f7a4 ∈ tz := zmem 774 (by decide +kernel) rfl
theorem stc_J6_numberOfTrailingZeros_0f7a4 : Cond.static yJ6_numberOfTrailingZeros_0f7a4 ∈ tz := zmem 775 (by decide +kernel) rfl
theorem co_J6_numberOfTrailingZeros_0f7a4 : Cond.code yJ6_numberOfTrailingZeros_0f7a4 cJ6_numberOfTrailingZeros_0f7a4 2 (Option.some .int) ∈ tz := zmem 776 (by decide +kernel) rfl
theorem ml_X5_23 : Cond.methodLink RX5 23 yX5_power ∈ tz := zmem 777 (by decide +kernel) rfl
theorem stc_X5_power : Cond.static yX5_power ∈ tz := zmem 778 (by decide +kernel) rfl
theorem co_X5_power : Cond.code yX5_power cX5_power 9 (Option.some .long) ∈ tz := zmem 779 (by decide +kernel) rfl
theorem ml_X9_229 : Cond.methodLink RX9 229 yX8_restBy ∈ tz := zmem 780 (by decide +kernel) rfl
theorem im_X8_restBy : Cond.instanceMethod yX8_restBy ∈ tz := zmem 781 (by decide +kernel) rfl
theorem se_X8_restBy : Cond.selects RX8 yX8_restBy yX8_restBy ∈ tz := zmem 782 (by decide +kernel) rfl
theorem co_X8_restBy : Cond.code yX8_restBy cX8_restBy 5 (Option.some .int) ∈ tz := zmem 783 (by decide +kernel) rfl
theorem ml_X9_233 : Cond.methodLink RX9 233 yX5_inverse ∈ tz := zmem 784 (by decide +kernel) rfl
theorem stc_X5_inverse : Cond.static yX5_inverse ∈ tz := zmem 785 (by decide +kernel) rfl
theorem co_X5_inverse : Cond.code yX5_inverse cX5_inverse 2 (Option.some .long) ∈ tz := zmem 786 (by decide +kernel) rfl
theorem ml_L_110 : Cond.methodLink RL 110 yX9_meet ∈ tz := zmem 787 (by decide +kernel) rfl
theorem im_X9_meet : Cond.instanceMethod yX9_meet ∈ tz := zmem 788 (by decide +kernel) rfl
theorem se_X9_meet : Cond.selects RX9 yX9_meet yX9_meet ∈ tz := zmem 789 (by decide +kernel) rfl
theorem co_X9_meet : Cond.code yX9_meet cX9_meet 3 (Option.some .int) ∈ tz := zmem 790 (by decide +kernel) rfl
theorem ml_X9_237 : Cond.methodLink RX9 237 yX4_has ∈ tz := zmem 791 (by decide +kernel) rfl
theorem im_X4_has : Cond.instanceMethod yX4_has ∈ tz := zmem 792 (by decide +kernel) rfl
theorem se_X4_has : Cond.selects RX4 yX4_has yX4_has ∈ tz := zmem 793 (by decide +kernel) rfl
theorem co_X4_has : Cond.code yX4_has cX4_has 2 (Option.some .boolean) ∈ tz := zmem 794 (by decide +kernel) rfl
theorem ml_X4_49 : Cond.methodLink RX4 49 yX8_restBy ∈ tz := zmem 795 (by decide +kernel) rfl
theorem ml_X9_240 : Cond.methodLink RX9 240 yX4_join ∈ tz := zmem 796 (by decide +kernel) rfl
theorem im_X4_join : Cond.instanceMethod yX4_join ∈ tz := zmem 797 (by decide +kernel) rfl
theorem se_X4_join : Cond.selects RX4 yX4_join yX4_join ∈ tz := zmem 798 (by decide +kernel) rfl
theorem co_X4_join : Cond.code yX4_join cX4_join 5 (Option.some .boolean) ∈ tz := zmem 799 (by decide +kernel) rfl
theorem ml_X4_53 : Cond.methodLink RX4 53 yX8_copy ∈ tz := zmem 800 (by decide +kernel) rfl
theorem ml_X4_57 : Cond.methodLink RX4 57 yX8_scale ∈ tz := zmem 801 (by decide +kernel) rfl
theorem im_X8_scale : Cond.instanceMethod yX8_scale ∈ tz := zmem 802 (by decide +kernel) rfl
theorem se_X8_scale : Cond.selects RX8 yX8_scale yX8_scale ∈ tz := zmem 803 (by decide +kernel) rfl
theorem co_X8_scale : Cond.code yX8_scale cX8_scale 5 (Option.none : Option Jvm.ClassFile.FieldType) ∈ tz := zmem 804 (by decide +kernel) rfl
theorem ml_X4_61 : Cond.methodLink RX4 61 yX8_isWide ∈ tz := zmem 805 (by decide +kernel) rfl
theorem ml_X4_65 : Cond.methodLink RX4 65 yX5_inverse ∈ tz := zmem 806 (by decide +kernel) rfl
theorem ml_X4_71 : Cond.methodLink RX4 71 yX8_increase ∈ tz := zmem 807 (by decide +kernel) rfl
theorem ml_L_114 : Cond.methodLink RL 114 yX9_joined ∈ tz := zmem 808 (by decide +kernel) rfl
theorem im_X9_joined : Cond.instanceMethod yX9_joined ∈ tz := zmem 809 (by decide +kernel) rfl
theorem se_X9_joined : Cond.selects RX9 yX9_joined yX9_joined ∈ tz := zmem 810 (by decide +kernel) rfl
theorem co_X9_joined : Cond.code yX9_joined cX9_joined 2 (Option.some .int) ∈ tz := zmem 811 (by decide +kernel) rfl
theorem ml_X9_252 : Cond.methodLink RX9 252 yX3_setWhole ∈ tz := zmem 812 (by decide +kernel) rfl
theorem im_X3_setWhole : Cond.instanceMethod yX3_setWhole ∈ tz := zmem 813 (by decide +kernel) rfl
theorem se_X3_setWhole : Cond.selects RX3 yX3_setWhole yX3_setWhole ∈ tz := zmem 814 (by decide +kernel) rfl
theorem co_X3_setWhole : Cond.code yX3_setWhole cX3_setWhole 2 (Option.none : Option Jvm.ClassFile.FieldType) ∈ tz := zmem 815 (by decide +kernel) rfl
theorem ml_L_118 : Cond.methodLink RL 118 yX9_recover ∈ tz := zmem 816 (by decide +kernel) rfl
theorem im_X9_recover : Cond.instanceMethod yX9_recover ∈ tz := zmem 817 (by decide +kernel) rfl
theorem se_X9_recover : Cond.selects RX9 yX9_recover yX9_recover ∈ tz := zmem 818 (by decide +kernel) rfl
theorem co_X9_recover : Cond.code yX9_recover cX9_recover 1 (Option.some .int) ∈ tz := zmem 819 (by decide +kernel) rfl
theorem ml_X9_256 : Cond.methodLink RX9 256 yX4_tell ∈ tz := zmem 820 (by decide +kernel) rfl
theorem im_X4_tell : Cond.instanceMethod yX4_tell ∈ tz := zmem 821 (by decide +kernel) rfl
theorem se_X4_tell : Cond.selects RX4 yX4_tell yX4_tell ∈ tz := zmem 822 (by decide +kernel) rfl
theorem co_X4_tell : Cond.code yX4_tell cX4_tell 9 (Option.some .boolean) ∈ tz := zmem 823 (by decide +kernel) rfl
theorem cn_X4_76 : Cond.constant RX4 76 (100000) ∈ tz := zmem 824 (by decide +kernel) rfl
theorem ml_X4_77 : Cond.methodLink RX4 77 yX4_isLow ∈ tz := zmem 825 (by decide +kernel) rfl
theorem im_X4_isLow : Cond.instanceMethod yX4_isLow ∈ tz := zmem 827 (by decide +kernel) rfl
theorem co_X4_isLow : Cond.code yX4_isLow cX4_isLow 2 (Option.some .boolean) ∈ tz := zmem 828 (by decide +kernel) rfl
theorem ml_X4_85 : Cond.methodLink RX4 85 yX8_setProduct ∈ tz := zmem 829 (by decide +kernel) rfl
theorem ml_X4_99 : Cond.methodLink RX4 99 yX8_shiftLeft ∈ tz := zmem 830 (by decide +kernel) rfl
theorem ml_X4_102 : Cond.methodLink RX4 102 yX8_against ∈ tz := zmem 831 (by decide +kernel) rfl
theorem ml_X4_81 : Cond.methodLink RX4 81 yX0_divide ∈ tz := zmem 832 (by decide +kernel) rfl
theorem ml_X4_89 : Cond.methodLink RX4 89 yX0_haveNothingCommon ∈ tz := zmem 833 (by decide +kernel) rfl
theorem im_X0_haveNothingCommon : Cond.instanceMethod yX0_haveNothingCommon ∈ tz := zmem 834 (by decide +kernel) rfl
theorem se_X0_haveNothingCommon : Cond.selects RX0 yX0_haveNothingCommon yX0_haveNothingCommon ∈ tz := zmem 835 (by decide +kernel) rfl
theorem co_X0_haveNothingCommon : Cond.code yX0_haveNothingCommon cX0_haveNothingCommon 3 (Option.some .boolean) ∈ tz := zmem 836 (by decide +kernel) rfl
theorem ml_X4_93 : Cond.methodLink RX4 93 yX3_set ∈ tz := zmem 837 (by decide +kernel) rfl
theorem ml_L_122 : Cond.methodLink RL 122 yX9_part ∈ tz := zmem 838 (by decide +kernel) rfl
theorem im_X9_part : Cond.instanceMethod yX9_part ∈ tz := zmem 839 (by decide +kernel) rfl
theorem se_X9_part : Cond.selects RX9 yX9_part yX9_part ∈ tz := zmem 840 (by decide +kernel) rfl
theorem co_X9_part : Cond.code yX9_part cX9_part 2 (Option.some .int) ∈ tz := zmem 841 (by decide +kernel) rfl
theorem ml_X9_260 : Cond.methodLink RX9 260 yX4_forget ∈ tz := zmem 842 (by decide +kernel) rfl
theorem im_X4_forget : Cond.instanceMethod yX4_forget ∈ tz := zmem 843 (by decide +kernel) rfl
theorem se_X4_forget : Cond.selects RX4 yX4_forget yX4_forget ∈ tz := zmem 844 (by decide +kernel) rfl
theorem co_X4_forget : Cond.code yX4_forget cX4_forget 1 (Option.none : Option Jvm.ClassFile.FieldType) ∈ tz := zmem 845 (by decide +kernel) rfl
theorem ml_L_126 : Cond.methodLink RL 126 yX9_decimals ∈ tz := zmem 846 (by decide +kernel) rfl
theorem im_X9_decimals : Cond.instanceMethod yX9_decimals ∈ tz := zmem 847 (by decide +kernel) rfl
theorem se_X9_decimals : Cond.selects RX9 yX9_decimals yX9_decimals ∈ tz := zmem 848 (by decide +kernel) rfl
theorem co_X9_decimals : Cond.code yX9_decimals cX9_decimals 4 (Option.some .int) ∈ tz := zmem 849 (by decide +kernel) rfl
theorem ml_X9_261 : Cond.methodLink RX9 261 yX7_write ∈ tz := zmem 850 (by decide +kernel) rfl
theorem im_X7_write : Cond.instanceMethod yX7_write ∈ tz := zmem 851 (by decide +kernel) rfl
theorem se_X7_write : Cond.selects RX7 yX7_write yX7_write ∈ tz := zmem 852 (by decide +kernel) rfl
theorem co_X7_write : Cond.code yX7_write cX7_write 6 (Option.none : Option Jvm.ClassFile.FieldType) ∈ tz := zmem 853 (by decide +kernel) rfl
theorem ml_X7_39 : Cond.methodLink RX7 39 yX8_copy ∈ tz := zmem 854 (by decide +kernel) rfl
theorem ml_X7_43 : Cond.methodLink RX7 43 yX8_scale ∈ tz := zmem 855 (by decide +kernel) rfl
theorem ml_X7_50 : Cond.methodLink RX7 50 yX0_divide ∈ tz := zmem 856 (by decide +kernel) rfl
theorem ml_X7_56 : Cond.methodLink RX7 56 yX8_isZero ∈ tz := zmem 857 (by decide +kernel) rfl
theorem ml_X7_64 : Cond.methodLink RX7 64 yX8_increase ∈ tz := zmem 858 (by decide +kernel) rfl
theorem ml_X7_71 : Cond.methodLink RX7 71 yX7_append ∈ tz := zmem 859 (by decide +kernel) rfl
theorem im_X7_append : Cond.instanceMethod yX7_append ∈ tz := zmem 861 (by decide +kernel) rfl
theorem co_X7_append : Cond.code yX7_append cX7_append 2 (Option.none : Option Jvm.ClassFile.FieldType) ∈ tz := zmem 862 (by decide +kernel) rfl
theorem ml_X7_74 : Cond.methodLink RX7 74 yX8_shrinkBy ∈ tz := zmem 863 (by decide +kernel) rfl
theorem im_X8_shrinkBy : Cond.instanceMethod yX8_shrinkBy ∈ tz := zmem 864 (by decide +kernel) rfl
theorem se_X8_shrinkBy : Cond.selects RX8 yX8_shrinkBy yX8_shrinkBy ∈ tz := zmem 865 (by decide +kernel) rfl
theorem co_X8_shrinkBy : Cond.code yX8_shrinkBy cX8_shrinkBy 5 (Option.some .int) ∈ tz := zmem 866 (by decide +kernel) rfl
theorem ml_L_131 : Cond.methodLink RL 131 yX9_sign ∈ tz := zmem 867 (by decide +kernel) rfl
theorem im_X9_sign : Cond.instanceMethod yX9_sign ∈ tz := zmem 868 (by decide +kernel) rfl
theorem se_X9_sign : Cond.selects RX9 yX9_sign yX9_sign ∈ tz := zmem 869 (by decide +kernel) rfl
theorem co_X9_sign : Cond.code yX9_sign cX9_sign 2 (Option.some .int) ∈ tz := zmem 870 (by decide +kernel) rfl
theorem ml_L_135 : Cond.methodLink RL 135 yX9_count ∈ tz := zmem 871 (by decide +kernel) rfl
theorem im_X9_count : Cond.instanceMethod yX9_count ∈ tz := zmem 872 (by decide +kernel) rfl
theorem se_X9_count : Cond.selects RX9 yX9_count yX9_count ∈ tz := zmem 873 (by decide +kernel) rfl
theorem co_X9_count : Cond.code yX9_count cX9_count 2 (Option.some .int) ∈ tz := zmem 874 (by decide +kernel) rfl
theorem ml_L_139 : Cond.methodLink RL 139 yX9_clear ∈ tz := zmem 875 (by decide +kernel) rfl
theorem im_X9_clear : Cond.instanceMethod yX9_clear ∈ tz := zmem 876 (by decide +kernel) rfl
theorem se_X9_clear : Cond.selects RX9 yX9_clear yX9_clear ∈ tz := zmem 877 (by decide +kernel) rfl
theorem co_X9_clear : Cond.code yX9_clear cX9_clear 3 (Option.some .int) ∈ tz := zmem 878 (by decide +kernel) rfl
theorem ml_X9_273 : Cond.methodLink RX9 273 yX3_setZero ∈ tz := zmem 879 (by decide +kernel) rfl
theorem ml_L_21 : Cond.methodLink RL 21 yL_cell ∈ tz := zmem 880 (by decide +kernel) rfl
theorem stc_L_cell : Cond.static yL_cell ∈ tz := zmem 881 (by decide +kernel) rfl
theorem co_L_cell : Cond.code yL_cell cL_cell 2 (Option.some .int) ∈ tz := zmem 882 (by decide +kernel) rfl
theorem ml_L_44 : Cond.methodLink RL 44 yL_quotient ∈ tz := zmem 883 (by decide +kernel) rfl
theorem stc_L_quotient : Cond.static yL_quotient ∈ tz := zmem 884 (by decide +kernel) rfl
theorem cl_L_13 : Cond.classLink RL 13 "java/lang/ArithmeticException" ∈ tz := zmem 886 (by decide +kernel) rfl
theorem ml_L_7 : Cond.methodLink RL 7 yX9_quotient ∈ tz := zmem 887 (by decide +kernel) rfl
theorem im_X9_quotient : Cond.instanceMethod yX9_quotient ∈ tz := zmem 888 (by decide +kernel) rfl
theorem se_X9_quotient : Cond.selects RX9 yX9_quotient yX9_quotient ∈ tz := zmem 889 (by decide +kernel) rfl
theorem co_X9_quotient : Cond.code yX9_quotient cX9_quotient 3 (Option.some .int) ∈ tz := zmem 890 (by decide +kernel) rfl
theorem cl_X9_110 : Cond.classLink RX9 110 "java/lang/ArithmeticException" ∈ tz := zmem 891 (by decide +kernel) rfl
theorem ins_java_lang_ArithmeticException : Cond.instantiable "java/lang/ArithmeticException" 6 ∈ tz := zmem 892 (by decide +kernel) rfl
theorem im_java_lang_Throwable__init_ : Cond.instanceMethod ⟨"java/lang/Throwable", "<init>", "()V"⟩ ∈ tz := zmem 914 (by decide +kernel) rfl
theorem im_java_lang_Throwable_fillInStackTrace : Cond.instanceMethod ⟨"java/lang/Throwable", "fillInStackTrace", "()Ljava/lang/Throwable;"⟩ ∈ tz := zmem 922 (by decide +kernel) rfl
theorem ins_java_lang_Throwable : Cond.instantiable "java/lang/Throwable" 6 ∈ tz := zmem 929 (by decide +kernel) rfl
theorem nat_java_lang_Throwable_fillInStackTrace : Cond.native ⟨"java/lang/Throwable", "fillInStackTrace", "(I)Ljava/lang/Throwable;"⟩ ∈ tz := zmem 930 (by decide +kernel) rfl
theorem ml_X9_114 : Cond.methodLink RX9 114 ⟨"java/lang/ArithmeticException", "<init>", "(Ljava/lang/String;)V"⟩ ∈ tz := zmem 932 (by decide +kernel) rfl
theorem im_java_lang_ArithmeticException__init_ : Cond.instanceMethod ⟨"java/lang/ArithmeticException", "<init>", "(Ljava/lang/String;)V"⟩ ∈ tz := zmem 933 (by decide +kernel) rfl
theorem im_java_lang_RuntimeException__init_ : Cond.instanceMethod ⟨"java/lang/RuntimeException", "<init>", "(Ljava/lang/String;)V"⟩ ∈ tz := zmem 936 (by decide +kernel) rfl
theorem im_java_lang_Exception__init_ : Cond.instanceMethod ⟨"java/lang/Exception", "<init>", "(Ljava/lang/String;)V"⟩ ∈ tz := zmem 939 (by decide +kernel) rfl
theorem ml_L_64 : Cond.methodLink RL 64 yL_limb ∈ tz := zmem 957 (by decide +kernel) rfl
theorem stc_L_limb : Cond.static yL_limb ∈ tz := zmem 958 (by decide +kernel) rfl
theorem cl_L_19 : Cond.classLink RL 19 "java/lang/IndexOutOfBoundsException" ∈ tz := zmem 960 (by decide +kernel) rfl
theorem ml_L_15 : Cond.methodLink RL 15 yX9_limb ∈ tz := zmem 961 (by decide +kernel) rfl
theorem im_X9_limb : Cond.instanceMethod yX9_limb ∈ tz := zmem 962 (by decide +kernel) rfl
theorem se_X9_limb : Cond.selects RX9 yX9_limb yX9_limb ∈ tz := zmem 963 (by decide +kernel) rfl
theorem co_X9_limb : Cond.code yX9_limb cX9_limb 5 (Option.some .int) ∈ tz := zmem 964 (by decide +kernel) rfl
theorem cl_X9_141 : Cond.classLink RX9 141 "java/lang/IndexOutOfBoundsException" ∈ tz := zmem 965 (by decide +kernel) rfl
theorem ins_java_lang_IndexOutOfBoundsException : Cond.instantiable "java/lang/IndexOutOfBoundsException" 6 ∈ tz := zmem 966 (by decide +kernel) rfl
theorem ml_X9_145 : Cond.methodLink RX9 145 ⟨"java/lang/IndexOutOfBoundsException", "<init>", "(Ljava/lang/String;)V"⟩ ∈ tz := zmem 975 (by decide +kernel) rfl
theorem im_java_lang_IndexOutOfBoundsException__init_ : Cond.instanceMethod ⟨"java/lang/IndexOutOfBoundsException", "<init>", "(Ljava/lang/String;)V"⟩ ∈ tz := zmem 976 (by decide +kernel) rfl
theorem cl_L_30 : Cond.classLink RL 30 RX10 ∈ tz := zmem 983 (by decide +kernel) rfl
theorem ins_X10 : Cond.instantiable RX10 22 ∈ tz := zmem 984 (by decide +kernel) rfl
theorem ml_L_32 : Cond.methodLink RL 32 yX10_init ∈ tz := zmem 985 (by decide +kernel) rfl
theorem im_X10_init : Cond.instanceMethod yX10_init ∈ tz := zmem 986 (by decide +kernel) rfl
theorem co_X10_init : Cond.code yX10_init cX10_init 3 (Option.none : Option Jvm.ClassFile.FieldType) ∈ tz := zmem 987 (by decide +kernel) rfl
theorem ml_X10_1 : Cond.methodLink RX10 1 ⟨"java/lang/Object", "<init>", "()V"⟩ ∈ tz := zmem 988 (by decide +kernel) rfl
theorem ml_X10_48 : Cond.methodLink RX10 48 yX10_nothing ∈ tz := zmem 989 (by decide +kernel) rfl
theorem im_X10_nothing : Cond.instanceMethod yX10_nothing ∈ tz := zmem 991 (by decide +kernel) rfl
theorem co_X10_nothing : Cond.code yX10_nothing cX10_nothing 2 (Option.none : Option Jvm.ClassFile.FieldType) ∈ tz := zmem 992 (by decide +kernel) rfl
theorem ml_X10_55 : Cond.methodLink RX10 55 yX10_wipe ∈ tz := zmem 993 (by decide +kernel) rfl
theorem im_X10_wipe : Cond.instanceMethod yX10_wipe ∈ tz := zmem 995 (by decide +kernel) rfl
theorem co_X10_wipe : Cond.code yX10_wipe cX10_wipe 3 (Option.none : Option Jvm.ClassFile.FieldType) ∈ tz := zmem 996 (by decide +kernel) rfl
theorem fl_X10_7 : Cond.fieldLink RX10 7 RX10 "w" "[I" ∈ tz := zmem 997 (by decide +kernel) rfl
theorem fl_X10_13 : Cond.fieldLink RX10 13 RX10 "isBelow" "[Z" ∈ tz := zmem 998 (by decide +kernel) rfl
theorem fl_X10_44 : Cond.fieldLink RX10 44 RX10 "n" "I" ∈ tz := zmem 999 (by decide +kernel) rfl
theorem fl_X10_116 : Cond.fieldLink RX10 116 RX10 "numbers" "I" ∈ tz := zmem 1000 (by decide +kernel) rfl
theorem fl_X10_219 : Cond.fieldLink RX10 219 RX10 "primes" "I" ∈ tz := zmem 1001 (by decide +kernel) rfl
theorem fl_X10_123 : Cond.fieldLink RX10 123 RX10 "grown" "I" ∈ tz := zmem 1002 (by decide +kernel) rfl
theorem fl_X10_52 : Cond.fieldLink RX10 52 RX10 "thrown" "I" ∈ tz := zmem 1003 (by decide +kernel) rfl
theorem fl_X10_180 : Cond.fieldLink RX10 180 RX10 "isSolved" "Z" ∈ tz := zmem 1004 (by decide +kernel) rfl
theorem fl_X10_186 : Cond.fieldLink RX10 186 RX10 "isNone" "Z" ∈ tz := zmem 1005 (by decide +kernel) rfl
theorem fl_X10_192 : Cond.fieldLink RX10 192 RX10 "rank" "I" ∈ tz := zmem 1006 (by decide +kernel) rfl
theorem fl_X10_17 : Cond.fieldLink RX10 17 RX10 "pivotColumn" "[I" ∈ tz := zmem 1007 (by decide +kernel) rfl
theorem fl_X10_20 : Cond.fieldLink RX10 20 RX10 "pivotRow" "[I" ∈ tz := zmem 1008 (by decide +kernel) rfl
theorem fl_X10_23 : Cond.fieldLink RX10 23 RX10 "pivotSize" "[I" ∈ tz := zmem 1009 (by decide +kernel) rfl
theorem fl_X10_26 : Cond.fieldLink RX10 26 RX10 "newColumn" "[I" ∈ tz := zmem 1010 (by decide +kernel) rfl
theorem fl_X10_29 : Cond.fieldLink RX10 29 RX10 "newRow" "[I" ∈ tz := zmem 1011 (by decide +kernel) rfl
theorem fl_X10_32 : Cond.fieldLink RX10 32 RX10 "newSize" "[I" ∈ tz := zmem 1012 (by decide +kernel) rfl
theorem fl_X10_35 : Cond.fieldLink RX10 35 RX10 "order" "[I" ∈ tz := zmem 1013 (by decide +kernel) rfl
theorem fl_X10_163 : Cond.fieldLink RX10 163 RX10 "isTurned" "Z" ∈ tz := zmem 1014 (by decide +kernel) rfl
theorem fl_X10_167 : Cond.fieldLink RX10 167 RX10 "isFree" "Z" ∈ tz := zmem 1015 (by decide +kernel) rfl
theorem fl_X10_38 : Cond.fieldLink RX10 38 RX10 "text" "[I" ∈ tz := zmem 1016 (by decide +kernel) rfl
theorem fl_X10_227 : Cond.fieldLink RX10 227 RX10 "textSize" "I" ∈ tz := zmem 1017 (by decide +kernel) rfl
theorem fl_X10_41 : Cond.fieldLink RX10 41 RX10 "figure" "[I" ∈ tz := zmem 1018 (by decide +kernel) rfl
theorem ac_boolean : Cond.arrayClass .boolean ∈ tz := zmem 1064 (by decide +kernel) rfl
theorem ml_L_48 : Cond.methodLink RL 48 yX10_thrown ∈ tz := zmem 1065 (by decide +kernel) rfl
theorem im_X10_thrown : Cond.instanceMethod yX10_thrown ∈ tz := zmem 1066 (by decide +kernel) rfl
theorem se_X10_thrown : Cond.selects RX10 yX10_thrown yX10_thrown ∈ tz := zmem 1067 (by decide +kernel) rfl
theorem co_X10_thrown : Cond.code yX10_thrown cX10_thrown 1 (Option.some .int) ∈ tz := zmem 1068 (by decide +kernel) rfl
theorem ml_L_39 : Cond.methodLink RL 39 yX10_value ∈ tz := zmem 1069 (by decide +kernel) rfl
theorem im_X10_value : Cond.instanceMethod yX10_value ∈ tz := zmem 1070 (by decide +kernel) rfl
theorem se_X10_value : Cond.selects RX10 yX10_value yX10_value ∈ tz := zmem 1071 (by decide +kernel) rfl
theorem co_X10_value : Cond.code yX10_value cX10_value 5 (Option.some .int) ∈ tz := zmem 1072 (by decide +kernel) rfl
theorem ml_X10_133 : Cond.methodLink RX10 133 yX10_setFraction ∈ tz := zmem 1073 (by decide +kernel) rfl
theorem im_X10_setFraction : Cond.instanceMethod yX10_setFraction ∈ tz := zmem 1075 (by decide +kernel) rfl
theorem co_X10_setFraction : Cond.code yX10_setFraction cX10_setFraction 7 (Option.none : Option Jvm.ClassFile.FieldType) ∈ tz := zmem 1076 (by decide +kernel) rfl
theorem ml_X10_112 : Cond.methodLink RX10 112 yX10_setLong ∈ tz := zmem 1077 (by decide +kernel) rfl
theorem im_X10_setLong : Cond.instanceMethod yX10_setLong ∈ tz := zmem 1079 (by decide +kernel) rfl
theorem co_X10_setLong : Cond.code yX10_setLong cX10_setLong 6 (Option.none : Option Jvm.ClassFile.FieldType) ∈ tz := zmem 1080 (by decide +kernel) rfl
theorem cn_X10_58 : Cond.constantLong RX10 58 (268435455) ∈ tz := zmem 1081 (by decide +kernel) rfl
theorem ml_X10_109 : Cond.methodLink RX10 109 yX10_lowest ∈ tz := zmem 1082 (by decide +kernel) rfl
theorem im_X10_lowest : Cond.instanceMethod yX10_lowest ∈ tz := zmem 1084 (by decide +kernel) rfl
theorem co_X10_lowest : Cond.code yX10_lowest cX10_lowest 2 (Option.some .boolean) ∈ tz := zmem 1085 (by decide +kernel) rfl
theorem ml_X10_92 : Cond.methodLink RX10 92 yX10_isZero ∈ tz := zmem 1086 (by decide +kernel) rfl
theorem im_X10_isZero : Cond.instanceMethod yX10_isZero ∈ tz := zmem 1088 (by decide +kernel) rfl
theorem co_X10_isZero : Cond.code yX10_isZero cX10_isZero 2 (Option.some .boolean) ∈ tz := zmem 1089 (by decide +kernel) rfl
theorem ml_X10_60 : Cond.methodLink RX10 60 yX10_topOf ∈ tz := zmem 1090 (by decide +kernel) rfl
theorem im_X10_topOf : Cond.instanceMethod yX10_topOf ∈ tz := zmem 1092 (by decide +kernel) rfl
theorem co_X10_topOf : Cond.code yX10_topOf cX10_topOf 3 (Option.some .int) ∈ tz := zmem 1093 (by decide +kernel) rfl
theorem ml_X10_88 : Cond.methodLink RX10 88 yX10_isOne ∈ tz := zmem 1094 (by decide +kernel) rfl
theorem im_X10_isOne : Cond.instanceMethod yX10_isOne ∈ tz := zmem 1096 (by decide +kernel) rfl
theorem co_X10_isOne : Cond.code yX10_isOne cX10_isOne 2 (Option.some .boolean) ∈ tz := zmem 1097 (by decide +kernel) rfl
theorem ml_X10_95 : Cond.methodLink RX10 95 yX10_divisor ∈ tz := zmem 1098 (by decide +kernel) rfl
theorem im_X10_divisor : Cond.instanceMethod yX10_divisor ∈ tz := zmem 1100 (by decide +kernel) rfl
theorem co_X10_divisor : Cond.code yX10_divisor cX10_divisor 10 (Option.none : Option Jvm.ClassFile.FieldType) ∈ tz := zmem 1101 (by decide +kernel) rfl
theorem ml_X10_82 : Cond.methodLink RX10 82 yX10_carryOver ∈ tz := zmem 1102 (by decide +kernel) rfl
theorem im_X10_carryOver : Cond.instanceMethod yX10_carryOver ∈ tz := zmem 1104 (by decide +kernel) rfl
theorem co_X10_carryOver : Cond.code yX10_carryOver cX10_carryOver 4 (Option.none : Option Jvm.ClassFile.FieldType) ∈ tz := zmem 1105 (by decide +kernel) rfl
theorem ml_X10_85 : Cond.methodLink RX10 85 yX10_halved ∈ tz := zmem 1106 (by decide +kernel) rfl
theorem im_X10_halved : Cond.instanceMethod yX10_halved ∈ tz := zmem 1108 (by decide +kernel) rfl
theorem co_X10_halved : Cond.code yX10_halved cX10_halved 8 (Option.some .int) ∈ tz := zmem 1109 (by decide +kernel) rfl
theorem ml_X10_76 : Cond.methodLink RX10 76 yX10_orderOf ∈ tz := zmem 1110 (by decide +kernel) rfl
theorem im_X10_orderOf : Cond.instanceMethod yX10_orderOf ∈ tz := zmem 1112 (by decide +kernel) rfl
theorem co_X10_orderOf : Cond.code yX10_orderOf cX10_orderOf 6 (Option.some .int) ∈ tz := zmem 1113 (by decide +kernel) rfl
theorem ml_X10_79 : Cond.methodLink RX10 79 yX10_minus ∈ tz := zmem 1114 (by decide +kernel) rfl
theorem im_X10_minus : Cond.instanceMethod yX10_minus ∈ tz := zmem 1116 (by decide +kernel) rfl
theorem co_X10_minus : Cond.code yX10_minus cX10_minus 7 (Option.none : Option Jvm.ClassFile.FieldType) ∈ tz := zmem 1117 (by decide +kernel) rfl
theorem cn_X10_64 : Cond.constant RX10 64 (268435455) ∈ tz := zmem 1118 (by decide +kernel) rfl
theorem ml_X10_72 : Cond.methodLink RX10 72 yX10_twice ∈ tz := zmem 1119 (by decide +kernel) rfl
theorem im_X10_twice : Cond.instanceMethod yX10_twice ∈ tz := zmem 1121 (by decide +kernel) rfl
theorem co_X10_twice : Cond.code yX10_twice cX10_twice 7 (Option.none : Option Jvm.ClassFile.FieldType) ∈ tz := zmem 1122 (by decide +kernel) rfl
theorem ml_X10_98 : Cond.methodLink RX10 98 yX10_divide ∈ tz := zmem 1123 (by decide +kernel) rfl
theorem im_X10_divide : Cond.instanceMethod yX10_divide ∈ tz := zmem 1125 (by decide +kernel) rfl
theorem co_X10_divide : Cond.code yX10_divide cX10_divide 6 (Option.none : Option Jvm.ClassFile.FieldType) ∈ tz := zmem 1126 (by decide +kernel) rfl
theorem ml_X10_65 : Cond.methodLink RX10 65 yX10_bitsOf ∈ tz := zmem 1127 (by decide +kernel) rfl
theorem im_X10_bitsOf : Cond.instanceMethod yX10_bitsOf ∈ tz := zmem 1129 (by decide +kernel) rfl
theorem co_X10_bitsOf : Cond.code yX10_bitsOf cX10_bitsOf 5 (Option.some .int) ∈ tz := zmem 1130 (by decide +kernel) rfl
theorem ml_X10_68 : Cond.methodLink RX10 68 yX10_bitAt ∈ tz := zmem 1131 (by decide +kernel) rfl
theorem im_X10_bitAt : Cond.instanceMethod yX10_bitAt ∈ tz := zmem 1133 (by decide +kernel) rfl
theorem co_X10_bitAt : Cond.code yX10_bitAt cX10_bitAt 3 (Option.some .int) ∈ tz := zmem 1134 (by decide +kernel) rfl
theorem ml_X10_129 : Cond.methodLink RX10 129 yX10_kept ∈ tz := zmem 1135 (by decide +kernel) rfl
theorem im_X10_kept : Cond.instanceMethod yX10_kept ∈ tz := zmem 1137 (by decide +kernel) rfl
theorem co_X10_kept : Cond.code yX10_kept cX10_kept 1 (Option.some .int) ∈ tz := zmem 1138 (by decide +kernel) rfl
theorem ml_L_43 : Cond.methodLink RL 43 yX10_act ∈ tz := zmem 1139 (by decide +kernel) rfl
theorem im_X10_act : Cond.instanceMethod yX10_act ∈ tz := zmem 1140 (by decide +kernel) rfl
theorem se_X10_act : Cond.selects RX10 yX10_act yX10_act ∈ tz := zmem 1141 (by decide +kernel) rfl
theorem co_X10_act : Cond.code yX10_act cX10_act 5 (Option.some .int) ∈ tz := zmem 1142 (by decide +kernel) rfl
theorem ml_X10_119 : Cond.methodLink RX10 119 yX10_isIn ∈ tz := zmem 1143 (by decide +kernel) rfl
theorem stc_X10_isIn : Cond.static yX10_isIn ∈ tz := zmem 1144 (by decide +kernel) rfl
theorem co_X10_isIn : Cond.code yX10_isIn cX10_isIn 3 (Option.some .boolean) ∈ tz := zmem 1145 (by decide +kernel) rfl
theorem ml_X10_137 : Cond.methodLink RX10 137 yX10_isNumber ∈ tz := zmem 1146 (by decide +kernel) rfl
theorem im_X10_isNumber : Cond.instanceMethod yX10_isNumber ∈ tz := zmem 1148 (by decide +kernel) rfl
theorem co_X10_isNumber : Cond.code yX10_isNumber cX10_isNumber 2 (Option.some .boolean) ∈ tz := zmem 1149 (by decide +kernel) rfl
theorem ml_X10_140 : Cond.methodLink RX10 140 yX10_total ∈ tz := zmem 1150 (by decide +kernel) rfl
theorem im_X10_total : Cond.instanceMethod yX10_total ∈ tz := zmem 1152 (by decide +kernel) rfl
theorem co_X10_total : Cond.code yX10_total cX10_total 7 (Option.some .boolean) ∈ tz := zmem 1153 (by decide +kernel) rfl
theorem ml_X10_102 : Cond.methodLink RX10 102 yX10_times ∈ tz := zmem 1154 (by decide +kernel) rfl
theorem im_X10_times : Cond.instanceMethod yX10_times ∈ tz := zmem 1156 (by decide +kernel) rfl
theorem co_X10_times : Cond.code yX10_times cX10_times 14 (Option.none : Option Jvm.ClassFile.FieldType) ∈ tz := zmem 1157 (by decide +kernel) rfl
theorem ml_X10_106 : Cond.methodLink RX10 106 yX10_plus ∈ tz := zmem 1158 (by decide +kernel) rfl
theorem im_X10_plus : Cond.instanceMethod yX10_plus ∈ tz := zmem 1160 (by decide +kernel) rfl
theorem co_X10_plus : Cond.code yX10_plus cX10_plus 7 (Option.none : Option Jvm.ClassFile.FieldType) ∈ tz := zmem 1161 (by decide +kernel) rfl
theorem ml_X10_144 : Cond.methodLink RX10 144 yX10_product ∈ tz := zmem 1162 (by decide +kernel) rfl
theorem im_X10_product : Cond.instanceMethod yX10_product ∈ tz := zmem 1164 (by decide +kernel) rfl
theorem co_X10_product : Cond.code yX10_product cX10_product 5 (Option.some .boolean) ∈ tz := zmem 1165 (by decide +kernel) rfl
theorem ml_X10_147 : Cond.methodLink RX10 147 yX10_ratio ∈ tz := zmem 1166 (by decide +kernel) rfl
theorem im_X10_ratio : Cond.instanceMethod yX10_ratio ∈ tz := zmem 1168 (by decide +kernel) rfl
theorem co_X10_ratio : Cond.code yX10_ratio cX10_ratio 5 (Option.some .boolean) ∈ tz := zmem 1169 (by decide +kernel) rfl
theorem ml_X10_150 : Cond.methodLink RX10 150 yX10_asNumber ∈ tz := zmem 1170 (by decide +kernel) rfl
theorem im_X10_asNumber : Cond.instanceMethod yX10_asNumber ∈ tz := zmem 1172 (by decide +kernel) rfl
theorem co_X10_asNumber : Cond.code yX10_asNumber cX10_asNumber 2 (Option.some .int) ∈ tz := zmem 1173 (by decide +kernel) rfl
theorem ml_X10_126 : Cond.methodLink RX10 126 yX10_same ∈ tz := zmem 1174 (by decide +kernel) rfl
theorem im_X10_same : Cond.instanceMethod yX10_same ∈ tz := zmem 1176 (by decide +kernel) rfl
theorem co_X10_same : Cond.code yX10_same cX10_same 3 (Option.none : Option Jvm.ClassFile.FieldType) ∈ tz := zmem 1177 (by decide +kernel) rfl
theorem ml_X10_153 : Cond.methodLink RX10 153 yX10_grew ∈ tz := zmem 1178 (by decide +kernel) rfl
theorem im_X10_grew : Cond.instanceMethod yX10_grew ∈ tz := zmem 1180 (by decide +kernel) rfl
theorem co_X10_grew : Cond.code yX10_grew cX10_grew 1 (Option.some .int) ∈ tz := zmem 1181 (by decide +kernel) rfl
theorem ml_L_47 : Cond.methodLink RL 47 yX10_quotient ∈ tz := zmem 1182 (by decide +kernel) rfl
theorem im_X10_quotient : Cond.instanceMethod yX10_quotient ∈ tz := zmem 1183 (by decide +kernel) rfl
theorem se_X10_quotient : Cond.selects RX10 yX10_quotient yX10_quotient ∈ tz := zmem 1184 (by decide +kernel) rfl
theorem co_X10_quotient : Cond.code yX10_quotient cX10_quotient 3 (Option.some .int) ∈ tz := zmem 1185 (by decide +kernel) rfl
theorem ml_L_55 : Cond.methodLink RL 55 yX10_drop ∈ tz := zmem 1186 (by decide +kernel) rfl
theorem im_X10_drop : Cond.instanceMethod yX10_drop ∈ tz := zmem 1187 (by decide +kernel) rfl
theorem se_X10_drop : Cond.selects RX10 yX10_drop yX10_drop ∈ tz := zmem 1188 (by decide +kernel) rfl
theorem co_X10_drop : Cond.code yX10_drop cX10_drop 1 (Option.some .int) ∈ tz := zmem 1189 (by decide +kernel) rfl
theorem ml_L_59 : Cond.methodLink RL 59 yX10_compare ∈ tz := zmem 1190 (by decide +kernel) rfl
theorem im_X10_compare : Cond.instanceMethod yX10_compare ∈ tz := zmem 1191 (by decide +kernel) rfl
theorem se_X10_compare : Cond.selects RX10 yX10_compare yX10_compare ∈ tz := zmem 1192 (by decide +kernel) rfl
theorem co_X10_compare : Cond.code yX10_compare cX10_compare 3 (Option.some .int) ∈ tz := zmem 1193 (by decide +kernel) rfl
theorem ml_L_63 : Cond.methodLink RL 63 yX10_about ∈ tz := zmem 1194 (by decide +kernel) rfl
theorem im_X10_about : Cond.instanceMethod yX10_about ∈ tz := zmem 1195 (by decide +kernel) rfl
theorem se_X10_about : Cond.selects RX10 yX10_about yX10_about ∈ tz := zmem 1196 (by decide +kernel) rfl
theorem co_X10_about : Cond.code yX10_about cX10_about 3 (Option.some .int) ∈ tz := zmem 1197 (by decide +kernel) rfl
theorem ml_X10_156 : Cond.methodLink RX10 156 yX10_sizeOf ∈ tz := zmem 1198 (by decide +kernel) rfl
theorem im_X10_sizeOf : Cond.instanceMethod yX10_sizeOf ∈ tz := zmem 1200 (by decide +kernel) rfl
theorem co_X10_sizeOf : Cond.code yX10_sizeOf cX10_sizeOf 2 (Option.some .int) ∈ tz := zmem 1201 (by decide +kernel) rfl
theorem ml_L_67 : Cond.methodLink RL 67 yX10_limb ∈ tz := zmem 1202 (by decide +kernel) rfl
theorem im_X10_limb : Cond.instanceMethod yX10_limb ∈ tz := zmem 1203 (by decide +kernel) rfl
theorem se_X10_limb : Cond.selects RX10 yX10_limb yX10_limb ∈ tz := zmem 1204 (by decide +kernel) rfl
theorem co_X10_limb : Cond.code yX10_limb cX10_limb 6 (Option.some .int) ∈ tz := zmem 1205 (by decide +kernel) rfl
theorem ml_L_72 : Cond.methodLink RL 72 yX10_entry ∈ tz := zmem 1206 (by decide +kernel) rfl
theorem im_X10_entry : Cond.instanceMethod yX10_entry ∈ tz := zmem 1207 (by decide +kernel) rfl
theorem se_X10_entry : Cond.selects RX10 yX10_entry yX10_entry ∈ tz := zmem 1208 (by decide +kernel) rfl
theorem co_X10_entry : Cond.code yX10_entry cX10_entry 7 (Option.some .int) ∈ tz := zmem 1209 (by decide +kernel) rfl
theorem ml_X10_159 : Cond.methodLink RX10 159 yX10_isEntry ∈ tz := zmem 1210 (by decide +kernel) rfl
theorem im_X10_isEntry : Cond.instanceMethod yX10_isEntry ∈ tz := zmem 1212 (by decide +kernel) rfl
theorem co_X10_isEntry : Cond.code yX10_isEntry cX10_isEntry 3 (Option.some .boolean) ∈ tz := zmem 1213 (by decide +kernel) rfl
theorem ml_L_76 : Cond.methodLink RL 76 yX10_put ∈ tz := zmem 1214 (by decide +kernel) rfl
theorem im_X10_put : Cond.instanceMethod yX10_put ∈ tz := zmem 1215 (by decide +kernel) rfl
theorem se_X10_put : Cond.selects RX10 yX10_put yX10_put ∈ tz := zmem 1216 (by decide +kernel) rfl
theorem co_X10_put : Cond.code yX10_put cX10_put 4 (Option.some .int) ∈ tz := zmem 1217 (by decide +kernel) rfl
theorem ml_L_80 : Cond.methodLink RL 80 yX10_take ∈ tz := zmem 1218 (by decide +kernel) rfl
theorem im_X10_take : Cond.instanceMethod yX10_take ∈ tz := zmem 1219 (by decide +kernel) rfl
theorem se_X10_take : Cond.selects RX10 yX10_take yX10_take ∈ tz := zmem 1220 (by decide +kernel) rfl
theorem co_X10_take : Cond.code yX10_take cX10_take 3 (Option.some .int) ∈ tz := zmem 1221 (by decide +kernel) rfl
theorem ml_L_85 : Cond.methodLink RL 85 yX10_solve ∈ tz := zmem 1222 (by decide +kernel) rfl
theorem im_X10_solve : Cond.instanceMethod yX10_solve ∈ tz := zmem 1223 (by decide +kernel) rfl
theorem se_X10_solve : Cond.selects RX10 yX10_solve yX10_solve ∈ tz := zmem 1224 (by decide +kernel) rfl
theorem co_X10_solve : Cond.code yX10_solve cX10_solve 4 (Option.some .int) ∈ tz := zmem 1225 (by decide +kernel) rfl
theorem ml_X10_183 : Cond.methodLink RX10 183 yX10_eliminated ∈ tz := zmem 1226 (by decide +kernel) rfl
theorem im_X10_eliminated : Cond.instanceMethod yX10_eliminated ∈ tz := zmem 1228 (by decide +kernel) rfl
theorem co_X10_eliminated : Cond.code yX10_eliminated cX10_eliminated 6 (Option.some .int) ∈ tz := zmem 1229 (by decide +kernel) rfl
theorem ml_X10_170 : Cond.methodLink RX10 170 yX10_taken ∈ tz := zmem 1230 (by decide +kernel) rfl
theorem im_X10_taken : Cond.instanceMethod yX10_taken ∈ tz := zmem 1232 (by decide +kernel) rfl
theorem co_X10_taken : Cond.code yX10_taken cX10_taken 6 (Option.some .int) ∈ tz := zmem 1233 (by decide +kernel) rfl
theorem ml_X10_174 : Cond.methodLink RX10 174 yX10_exchange ∈ tz := zmem 1234 (by decide +kernel) rfl
theorem im_X10_exchange : Cond.instanceMethod yX10_exchange ∈ tz := zmem 1236 (by decide +kernel) rfl
theorem co_X10_exchange : Cond.code yX10_exchange cX10_exchange 4 (Option.none : Option Jvm.ClassFile.FieldType) ∈ tz := zmem 1237 (by decide +kernel) rfl
theorem ml_X10_177 : Cond.methodLink RX10 177 yX10_cleared ∈ tz := zmem 1238 (by decide +kernel) rfl
theorem im_X10_cleared : Cond.instanceMethod yX10_cleared ∈ tz := zmem 1240 (by decide +kernel) rfl
theorem co_X10_cleared : Cond.code yX10_cleared cX10_cleared 6 (Option.some .boolean) ∈ tz := zmem 1241 (by decide +kernel) rfl
theorem ml_X10_189 : Cond.methodLink RX10 189 yX10_answered ∈ tz := zmem 1242 (by decide +kernel) rfl
theorem im_X10_answered : Cond.instanceMethod yX10_answered ∈ tz := zmem 1244 (by decide +kernel) rfl
theorem co_X10_answered : Cond.code yX10_answered cX10_answered 5 (Option.some .boolean) ∈ tz := zmem 1245 (by decide +kernel) rfl
theorem ml_L_89 : Cond.methodLink RL 89 yX10_answers ∈ tz := zmem 1246 (by decide +kernel) rfl
theorem im_X10_answers : Cond.instanceMethod yX10_answers ∈ tz := zmem 1247 (by decide +kernel) rfl
theorem se_X10_answers : Cond.selects RX10 yX10_answers yX10_answers ∈ tz := zmem 1248 (by decide +kernel) rfl
theorem co_X10_answers : Cond.code yX10_answers cX10_answers 1 (Option.some .int) ∈ tz := zmem 1249 (by decide +kernel) rfl
theorem ml_L_93 : Cond.methodLink RL 93 yX10_unknown ∈ tz := zmem 1250 (by decide +kernel) rfl
theorem im_X10_unknown : Cond.instanceMethod yX10_unknown ∈ tz := zmem 1251 (by decide +kernel) rfl
theorem se_X10_unknown : Cond.selects RX10 yX10_unknown yX10_unknown ∈ tz := zmem 1252 (by decide +kernel) rfl
theorem co_X10_unknown : Cond.code yX10_unknown cX10_unknown 2 (Option.some .int) ∈ tz := zmem 1253 (by decide +kernel) rfl
theorem ml_L_97 : Cond.methodLink RL 97 yX10_pivot ∈ tz := zmem 1254 (by decide +kernel) rfl
theorem im_X10_pivot : Cond.instanceMethod yX10_pivot ∈ tz := zmem 1255 (by decide +kernel) rfl
theorem se_X10_pivot : Cond.selects RX10 yX10_pivot yX10_pivot ∈ tz := zmem 1256 (by decide +kernel) rfl
theorem co_X10_pivot : Cond.code yX10_pivot cX10_pivot 3 (Option.some .int) ∈ tz := zmem 1257 (by decide +kernel) rfl
theorem ml_L_101 : Cond.methodLink RL 101 yX10_holds ∈ tz := zmem 1258 (by decide +kernel) rfl
theorem im_X10_holds : Cond.instanceMethod yX10_holds ∈ tz := zmem 1259 (by decide +kernel) rfl
theorem se_X10_holds : Cond.selects RX10 yX10_holds yX10_holds ∈ tz := zmem 1260 (by decide +kernel) rfl
theorem co_X10_holds : Cond.code yX10_holds cX10_holds 3 (Option.some .int) ∈ tz := zmem 1261 (by decide +kernel) rfl
theorem ml_L_105 : Cond.methodLink RL 105 yX10_determinant ∈ tz := zmem 1262 (by decide +kernel) rfl
theorem im_X10_determinant : Cond.instanceMethod yX10_determinant ∈ tz := zmem 1263 (by decide +kernel) rfl
theorem se_X10_determinant : Cond.selects RX10 yX10_determinant yX10_determinant ∈ tz := zmem 1264 (by decide +kernel) rfl
theorem co_X10_determinant : Cond.code yX10_determinant cX10_determinant 3 (Option.some .int) ∈ tz := zmem 1265 (by decide +kernel) rfl
theorem ml_X10_195 : Cond.methodLink RX10 195 yX10_byOrders ∈ tz := zmem 1266 (by decide +kernel) rfl
theorem im_X10_byOrders : Cond.instanceMethod yX10_byOrders ∈ tz := zmem 1268 (by decide +kernel) rfl
theorem co_X10_byOrders : Cond.code yX10_byOrders cX10_byOrders 4 (Option.some .boolean) ∈ tz := zmem 1269 (by decide +kernel) rfl
theorem ml_X10_202 : Cond.methodLink RX10 202 yX10_added ∈ tz := zmem 1270 (by decide +kernel) rfl
theorem im_X10_added : Cond.instanceMethod yX10_added ∈ tz := zmem 1272 (by decide +kernel) rfl
theorem co_X10_added : Cond.code yX10_added cX10_added 4 (Option.some .boolean) ∈ tz := zmem 1273 (by decide +kernel) rfl
theorem ml_X10_205 : Cond.methodLink RX10 205 yX10_isNext ∈ tz := zmem 1274 (by decide +kernel) rfl
theorem im_X10_isNext : Cond.instanceMethod yX10_isNext ∈ tz := zmem 1276 (by decide +kernel) rfl
theorem co_X10_isNext : Cond.code yX10_isNext cX10_isNext 6 (Option.some .boolean) ∈ tz := zmem 1277 (by decide +kernel) rfl
theorem ml_X10_199 : Cond.methodLink RX10 199 yX10_byPivots ∈ tz := zmem 1278 (by decide +kernel) rfl
theorem im_X10_byPivots : Cond.instanceMethod yX10_byPivots ∈ tz := zmem 1280 (by decide +kernel) rfl
theorem co_X10_byPivots : Cond.code yX10_byPivots cX10_byPivots 4 (Option.some .boolean) ∈ tz := zmem 1281 (by decide +kernel) rfl
theorem ml_L_109 : Cond.methodLink RL 109 yX10_rest ∈ tz := zmem 1282 (by decide +kernel) rfl
theorem im_X10_rest : Cond.instanceMethod yX10_rest ∈ tz := zmem 1283 (by decide +kernel) rfl
theorem se_X10_rest : Cond.selects RX10 yX10_rest yX10_rest ∈ tz := zmem 1284 (by decide +kernel) rfl
theorem co_X10_rest : Cond.code yX10_rest cX10_rest 6 (Option.some .int) ∈ tz := zmem 1285 (by decide +kernel) rfl
theorem ml_X10_210 : Cond.methodLink RX10 210 yX10_isPrime ∈ tz := zmem 1286 (by decide +kernel) rfl
theorem stc_X10_isPrime : Cond.static yX10_isPrime ∈ tz := zmem 1287 (by decide +kernel) rfl
theorem co_X10_isPrime : Cond.code yX10_isPrime cX10_isPrime 3 (Option.some .boolean) ∈ tz := zmem 1288 (by decide +kernel) rfl
theorem cn_X10_208 : Cond.constantLong RX10 208 (2) ∈ tz := zmem 1289 (by decide +kernel) rfl
theorem ml_X10_213 : Cond.methodLink RX10 213 yX10_restBy ∈ tz := zmem 1290 (by decide +kernel) rfl
theorem im_X10_restBy : Cond.instanceMethod yX10_restBy ∈ tz := zmem 1292 (by decide +kernel) rfl
theorem co_X10_restBy : Cond.code yX10_restBy cX10_restBy 6 (Option.some .int) ∈ tz := zmem 1293 (by decide +kernel) rfl
theorem ml_X10_216 : Cond.methodLink RX10 216 yX10_inverse ∈ tz := zmem 1294 (by decide +kernel) rfl
theorem stc_X10_inverse : Cond.static yX10_inverse ∈ tz := zmem 1295 (by decide +kernel) rfl
theorem co_X10_inverse : Cond.code yX10_inverse cX10_inverse 7 (Option.some .int) ∈ tz := zmem 1296 (by decide +kernel) rfl
theorem ml_L_113 : Cond.methodLink RL 113 yX10_meet ∈ tz := zmem 1297 (by decide +kernel) rfl
theorem im_X10_meet : Cond.instanceMethod yX10_meet ∈ tz := zmem 1298 (by decide +kernel) rfl
theorem se_X10_meet : Cond.selects RX10 yX10_meet yX10_meet ∈ tz := zmem 1299 (by decide +kernel) rfl
theorem co_X10_meet : Cond.code yX10_meet cX10_meet 6 (Option.some .int) ∈ tz := zmem 1300 (by decide +kernel) rfl
theorem ml_L_117 : Cond.methodLink RL 117 yX10_joined ∈ tz := zmem 1301 (by decide +kernel) rfl
theorem im_X10_joined : Cond.instanceMethod yX10_joined ∈ tz := zmem 1302 (by decide +kernel) rfl
theorem se_X10_joined : Cond.selects RX10 yX10_joined yX10_joined ∈ tz := zmem 1303 (by decide +kernel) rfl
theorem co_X10_joined : Cond.code yX10_joined cX10_joined 2 (Option.some .int) ∈ tz := zmem 1304 (by decide +kernel) rfl
theorem ml_L_121 : Cond.methodLink RL 121 yX10_recover ∈ tz := zmem 1305 (by decide +kernel) rfl
theorem im_X10_recover : Cond.instanceMethod yX10_recover ∈ tz := zmem 1306 (by decide +kernel) rfl
theorem se_X10_recover : Cond.selects RX10 yX10_recover yX10_recover ∈ tz := zmem 1307 (by decide +kernel) rfl
theorem co_X10_recover : Cond.code yX10_recover cX10_recover 2 (Option.some .int) ∈ tz := zmem 1308 (by decide +kernel) rfl
theorem ml_X10_222 : Cond.methodLink RX10 222 yX10_isSmall ∈ tz := zmem 1309 (by decide +kernel) rfl
theorem im_X10_isSmall : Cond.instanceMethod yX10_isSmall ∈ tz := zmem 1311 (by decide +kernel) rfl
theorem co_X10_isSmall : Cond.code yX10_isSmall cX10_isSmall 2 (Option.some .boolean) ∈ tz := zmem 1312 (by decide +kernel) rfl
theorem ml_L_125 : Cond.methodLink RL 125 yX10_part ∈ tz := zmem 1313 (by decide +kernel) rfl
theorem im_X10_part : Cond.instanceMethod yX10_part ∈ tz := zmem 1314 (by decide +kernel) rfl
theorem se_X10_part : Cond.selects RX10 yX10_part yX10_part ∈ tz := zmem 1315 (by decide +kernel) rfl
theorem co_X10_part : Cond.code yX10_part cX10_part 2 (Option.some .int) ∈ tz := zmem 1316 (by decide +kernel) rfl
theorem ml_L_130 : Cond.methodLink RL 130 yX10_decimals ∈ tz := zmem 1317 (by decide +kernel) rfl
theorem im_X10_decimals : Cond.instanceMethod yX10_decimals ∈ tz := zmem 1318 (by decide +kernel) rfl
theorem se_X10_decimals : Cond.selects RX10 yX10_decimals yX10_decimals ∈ tz := zmem 1319 (by decide +kernel) rfl
theorem co_X10_decimals : Cond.code yX10_decimals cX10_decimals 6 (Option.some .int) ∈ tz := zmem 1320 (by decide +kernel) rfl
theorem ml_X10_230 : Cond.methodLink RX10 230 yX10_tenfold ∈ tz := zmem 1321 (by decide +kernel) rfl
theorem im_X10_tenfold : Cond.instanceMethod yX10_tenfold ∈ tz := zmem 1323 (by decide +kernel) rfl
theorem co_X10_tenfold : Cond.code yX10_tenfold cX10_tenfold 6 (Option.none : Option Jvm.ClassFile.FieldType) ∈ tz := zmem 1324 (by decide +kernel) rfl
theorem cn_X10_225 : Cond.constantLong RX10 225 (10) ∈ tz := zmem 1325 (by decide +kernel) rfl
theorem ml_X10_233 : Cond.methodLink RX10 233 yX10_say ∈ tz := zmem 1326 (by decide +kernel) rfl
theorem im_X10_say : Cond.instanceMethod yX10_say ∈ tz := zmem 1328 (by decide +kernel) rfl
theorem co_X10_say : Cond.code yX10_say cX10_say 2 (Option.none : Option Jvm.ClassFile.FieldType) ∈ tz := zmem 1329 (by decide +kernel) rfl
theorem ml_X10_236 : Cond.methodLink RX10 236 yX10_tenth ∈ tz := zmem 1330 (by decide +kernel) rfl
theorem im_X10_tenth : Cond.instanceMethod yX10_tenth ∈ tz := zmem 1332 (by decide +kernel) rfl
theorem co_X10_tenth : Cond.code yX10_tenth cX10_tenth 7 (Option.some .int) ∈ tz := zmem 1333 (by decide +kernel) rfl
theorem ml_L_134 : Cond.methodLink RL 134 yX10_sign ∈ tz := zmem 1334 (by decide +kernel) rfl
theorem im_X10_sign : Cond.instanceMethod yX10_sign ∈ tz := zmem 1335 (by decide +kernel) rfl
theorem se_X10_sign : Cond.selects RX10 yX10_sign yX10_sign ∈ tz := zmem 1336 (by decide +kernel) rfl
theorem co_X10_sign : Cond.code yX10_sign cX10_sign 2 (Option.some .int) ∈ tz := zmem 1337 (by decide +kernel) rfl
theorem ml_L_138 : Cond.methodLink RL 138 yX10_count ∈ tz := zmem 1338 (by decide +kernel) rfl
theorem im_X10_count : Cond.instanceMethod yX10_count ∈ tz := zmem 1339 (by decide +kernel) rfl
theorem se_X10_count : Cond.selects RX10 yX10_count yX10_count ∈ tz := zmem 1340 (by decide +kernel) rfl
theorem co_X10_count : Cond.code yX10_count cX10_count 2 (Option.some .int) ∈ tz := zmem 1341 (by decide +kernel) rfl
theorem ml_L_142 : Cond.methodLink RL 142 yX10_clear ∈ tz := zmem 1342 (by decide +kernel) rfl
theorem im_X10_clear : Cond.instanceMethod yX10_clear ∈ tz := zmem 1343 (by decide +kernel) rfl
theorem se_X10_clear : Cond.selects RX10 yX10_clear yX10_clear ∈ tz := zmem 1344 (by decide +kernel) rfl
theorem co_X10_clear : Cond.code yX10_clear cX10_clear 3 (Option.some .int) ∈ tz := zmem 1345 (by decide +kernel) rfl
theorem cn_L_33 : Cond.constantLong RL 33 (4294967295) ∈ tz := zmem 1346 (by decide +kernel) rfl
theorem ac_long : Cond.arrayClass .long ∈ tz := zmem 1347 (by decide +kernel) rfl
theorem uw_X0 : ∀ w ∈ u_ws RX0 TX0 12, w ∈ tz := fun w h => zsub (by decide +kernel) w h
theorem uw_X1 : ∀ w ∈ u_ws RX1 TX1 4, w ∈ tz := fun w h => zsub (by decide +kernel) w h
theorem uw_X2 : ∀ w ∈ u_ws RX2 TX2 9, w ∈ tz := fun w h => zsub (by decide +kernel) w h
theorem uw_X3 : ∀ w ∈ u_ws RX3 TX3 3, w ∈ tz := fun w h => zsub (by decide +kernel) w h
theorem uw_X4 : ∀ w ∈ u_ws RX4 TX4 10, w ∈ tz := fun w h => zsub (by decide +kernel) w h
theorem uw_X6 : ∀ w ∈ u_ws RX6 TX6 11, w ∈ tz := fun w h => zsub (by decide +kernel) w h
theorem uw_X7 : ∀ w ∈ u_ws RX7 TX7 6, w ∈ tz := fun w h => zsub (by decide +kernel) w h
theorem uw_X8 : ∀ w ∈ u_ws RX8 TX8 2, w ∈ tz := fun w h => zsub (by decide +kernel) w h
theorem uw_X9 : ∀ w ∈ u_ws RX9 TX9 11, w ∈ tz := fun w h => zsub (by decide +kernel) w h
theorem uw_X10 : ∀ w ∈ u_ws RX10 TX10 22, w ∈ tz := fun w h => zsub (by decide +kernel) w h
end
section
theorem dX0_init_0 : decode cX0_init 0 = .ok (.aload_n 0, 1) := by decide +kernel
theorem dX0_init_1 : decode cX0_init 1 = .ok (.invokespecial 1, 3) := by decide +kernel
theorem dX0_init_4 : decode cX0_init 4 = .ok (.aload_n 0, 1) := by decide +kernel
theorem dX0_init_5 : decode cX0_init 5 = .ok (.new 7, 3) := by decide +kernel
theorem dX0_init_8 : decode cX0_init 8 = .ok (.dup, 1) := by decide +kernel
theorem dX0_init_9 : decode cX0_init 9 = .ok (.invokespecial 9, 3) := by decide +kernel
theorem dX0_init_12 : decode cX0_init 12 = .ok (.putfield 10, 3) := by decide +kernel
theorem dX0_init_15 : decode cX0_init 15 = .ok (.aload_n 0, 1) := by decide +kernel
theorem dX0_init_16 : decode cX0_init 16 = .ok (.new 7, 3) := by decide +kernel
theorem dX0_init_19 : decode cX0_init 19 = .ok (.dup, 1) := by decide +kernel
theorem dX0_init_20 : decode cX0_init 20 = .ok (.invokespecial 9, 3) := by decide +kernel
theorem dX0_init_23 : decode cX0_init 23 = .ok (.putfield 16, 3) := by decide +kernel
theorem dX0_init_26 : decode cX0_init 26 = .ok (.aload_n 0, 1) := by decide +kernel
theorem dX0_init_27 : decode cX0_init 27 = .ok (.new 7, 3) := by decide +kernel
theorem dX0_init_30 : decode cX0_init 30 = .ok (.dup, 1) := by decide +kernel
theorem dX0_init_31 : decode cX0_init 31 = .ok (.invokespecial 9, 3) := by decide +kernel
theorem dX0_init_34 : decode cX0_init 34 = .ok (.putfield 19, 3) := by decide +kernel
theorem dX0_init_37 : decode cX0_init 37 = .ok (.aload_n 0, 1) := by decide +kernel
theorem dX0_init_38 : decode cX0_init 38 = .ok (.new 7, 3) := by decide +kernel
theorem dX0_init_41 : decode cX0_init 41 = .ok (.dup, 1) := by decide +kernel
theorem dX0_init_42 : decode cX0_init 42 = .ok (.invokespecial 9, 3) := by decide +kernel
theorem dX0_init_45 : decode cX0_init 45 = .ok (.putfield 22, 3) := by decide +kernel
theorem dX0_init_48 : decode cX0_init 48 = .ok (.aload_n 0, 1) := by decide +kernel
theorem dX0_init_49 : decode cX0_init 49 = .ok (.new 7, 3) := by decide +kernel
theorem dX0_init_52 : decode cX0_init 52 = .ok (.dup, 1) := by decide +kernel
theorem dX0_init_53 : decode cX0_init 53 = .ok (.invokespecial 9, 3) := by decide +kernel
theorem dX0_init_56 : decode cX0_init 56 = .ok (.putfield 25, 3) := by decide +kernel
theorem dX0_init_59 : decode cX0_init 59 = .ok (.aload_n 0, 1) := by decide +kernel
theorem dX0_init_60 : decode cX0_init 60 = .ok (.new 7, 3) := by decide +kernel
theorem dX0_init_63 : decode cX0_init 63 = .ok (.dup, 1) := by decide +kernel
theorem dX0_init_64 : decode cX0_init 64 = .ok (.invokespecial 9, 3) := by decide +kernel
theorem dX0_init_67 : decode cX0_init 67 = .ok (.putfield 28, 3) := by decide +kernel
theorem dX0_init_70 : decode cX0_init 70 = .ok (.aload_n 0, 1) := by decide +kernel
theorem dX0_init_71 : decode cX0_init 71 = .ok (.new 7, 3) := by decide +kernel
theorem dX0_init_74 : decode cX0_init 74 = .ok (.dup, 1) := by decide +kernel
theorem dX0_init_75 : decode cX0_init 75 = .ok (.invokespecial 9, 3) := by decide +kernel
theorem dX0_init_78 : decode cX0_init 78 = .ok (.putfield 31, 3) := by decide +kernel
theorem dX0_init_81 : decode cX0_init 81 = .ok (.aload_n 0, 1) := by decide +kernel
theorem dX0_init_82 : decode cX0_init 82 = .ok (.new 7, 3) := by decide +kernel
theorem dX0_init_85 : decode cX0_init 85 = .ok (.dup, 1) := by decide +kernel
theorem dX0_init_86 : decode cX0_init 86 = .ok (.invokespecial 9, 3) := by decide +kernel
theorem dX0_init_89 : decode cX0_init 89 = .ok (.putfield 34, 3) := by decide +kernel
theorem dX0_init_92 : decode cX0_init 92 = .ok (.aload_n 0, 1) := by decide +kernel
theorem dX0_init_93 : decode cX0_init 93 = .ok (.new 7, 3) := by decide +kernel
theorem dX0_init_96 : decode cX0_init 96 = .ok (.dup, 1) := by decide +kernel
theorem dX0_init_97 : decode cX0_init 97 = .ok (.invokespecial 9, 3) := by decide +kernel
theorem dX0_init_100 : decode cX0_init 100 = .ok (.putfield 37, 3) := by decide +kernel
theorem dX0_init_103 : decode cX0_init 103 = .ok (.aload_n 0, 1) := by decide +kernel
theorem dX0_init_104 : decode cX0_init 104 = .ok (.new 7, 3) := by decide +kernel
theorem dX0_init_107 : decode cX0_init 107 = .ok (.dup, 1) := by decide +kernel
theorem dX0_init_108 : decode cX0_init 108 = .ok (.invokespecial 9, 3) := by decide +kernel
theorem dX0_init_111 : decode cX0_init 111 = .ok (.putfield 40, 3) := by decide +kernel
theorem dX0_init_114 : decode cX0_init 114 = .ok (.aload_n 0, 1) := by decide +kernel
theorem dX0_init_115 : decode cX0_init 115 = .ok (.new 7, 3) := by decide +kernel
theorem dX0_init_118 : decode cX0_init 118 = .ok (.dup, 1) := by decide +kernel
theorem dX0_init_119 : decode cX0_init 119 = .ok (.invokespecial 9, 3) := by decide +kernel
theorem dX0_init_122 : decode cX0_init 122 = .ok (.putfield 43, 3) := by decide +kernel
theorem dX0_init_125 : decode cX0_init 125 = .ok (.aload_n 0, 1) := by decide +kernel
theorem dX0_init_126 : decode cX0_init 126 = .ok (.new 7, 3) := by decide +kernel
theorem dX0_init_129 : decode cX0_init 129 = .ok (.dup, 1) := by decide +kernel
theorem dX0_init_130 : decode cX0_init 130 = .ok (.invokespecial 9, 3) := by decide +kernel
theorem dX0_init_133 : decode cX0_init 133 = .ok (.putfield 46, 3) := by decide +kernel
theorem dX0_init_136 : decode cX0_init 136 = .ok (.return_, 1) := by decide +kernel
theorem dX0_divide_0 : decode cX0_divide 0 = .ok (.aload_n 3, 1) := by decide +kernel
theorem dX0_divide_1 : decode cX0_divide 1 = .ok (.lconst 0, 1) := by decide +kernel
theorem dX0_divide_2 : decode cX0_divide 2 = .ok (.invokevirtual 49, 3) := by decide +kernel
theorem dX0_divide_5 : decode cX0_divide 5 = .ok (.aload_n 2, 1) := by decide +kernel
theorem dX0_divide_6 : decode cX0_divide 6 = .ok (.invokevirtual 53, 3) := by decide +kernel
theorem dX0_divide_9 : decode cX0_divide 9 = .ok (.ifCond .ne 11, 3) := by decide +kernel
theorem dX0_divide_12 : decode cX0_divide 12 = .ok (.aload_n 1, 1) := by decide +kernel
theorem dX0_divide_13 : decode cX0_divide 13 = .ok (.aload_n 2, 1) := by decide +kernel
theorem dX0_divide_14 : decode cX0_divide 14 = .ok (.invokevirtual 57, 3) := by decide +kernel
theorem dX0_divide_17 : decode cX0_divide 17 = .ok (.ifCond .ge 4, 3) := by decide +kernel
theorem dX0_divide_20 : decode cX0_divide 20 = .ok (.return_, 1) := by decide +kernel
theorem dX0_divide_21 : decode cX0_divide 21 = .ok (.aload_n 1, 1) := by decide +kernel
theorem dX0_divide_22 : decode cX0_divide 22 = .ok (.invokevirtual 61, 3) := by decide +kernel
theorem dX0_divide_25 : decode cX0_divide 25 = .ok (.ifCond .eq 34, 3) := by decide +kernel
theorem dX0_divide_28 : decode cX0_divide 28 = .ok (.aload_n 1, 1) := by decide +kernel
theorem dX0_divide_29 : decode cX0_divide 29 = .ok (.invokevirtual 64, 3) := by decide +kernel
theorem dX0_divide_32 : decode cX0_divide 32 = .ok (.lstore 4, 2) := by decide +kernel
theorem dX0_divide_34 : decode cX0_divide 34 = .ok (.aload_n 2, 1) := by decide +kernel
theorem dX0_divide_35 : decode cX0_divide 35 = .ok (.invokevirtual 64, 3) := by decide +kernel
theorem dX0_divide_38 : decode cX0_divide 38 = .ok (.lstore 6, 2) := by decide +kernel
theorem dX0_divide_40 : decode cX0_divide 40 = .ok (.aload_n 3, 1) := by decide +kernel
theorem dX0_divide_41 : decode cX0_divide 41 = .ok (.lload 4, 2) := by decide +kernel
theorem dX0_divide_43 : decode cX0_divide 43 = .ok (.lload 6, 2) := by decide +kernel
theorem dX0_divide_45 : decode cX0_divide 45 = .ok (.ldiv, 1) := by decide +kernel
theorem dX0_divide_46 : decode cX0_divide 46 = .ok (.invokevirtual 49, 3) := by decide +kernel
theorem dX0_divide_49 : decode cX0_divide 49 = .ok (.aload_n 1, 1) := by decide +kernel
theorem dX0_divide_50 : decode cX0_divide 50 = .ok (.lload 4, 2) := by decide +kernel
theorem dX0_divide_52 : decode cX0_divide 52 = .ok (.lload 6, 2) := by decide +kernel
theorem dX0_divide_54 : decode cX0_divide 54 = .ok (.lrem, 1) := by decide +kernel
theorem dX0_divide_55 : decode cX0_divide 55 = .ok (.invokevirtual 49, 3) := by decide +kernel
theorem dX0_divide_58 : decode cX0_divide 58 = .ok (.return_, 1) := by decide +kernel
theorem dX0_divide_59 : decode cX0_divide 59 = .ok (.aload_n 2, 1) := by decide +kernel
theorem dX0_divide_60 : decode cX0_divide 60 = .ok (.getfield 68, 3) := by decide +kernel
theorem dX0_divide_63 : decode cX0_divide 63 = .ok (.aload_n 2, 1) := by decide +kernel
theorem dX0_divide_64 : decode cX0_divide 64 = .ok (.getfield 72, 3) := by decide +kernel
theorem dX0_divide_67 : decode cX0_divide 67 = .ok (.iconst 1, 1) := by decide +kernel
theorem dX0_divide_68 : decode cX0_divide 68 = .ok (.isub, 1) := by decide +kernel
theorem dX0_divide_69 : decode cX0_divide 69 = .ok (.iaload, 1) := by decide +kernel
theorem dX0_divide_70 : decode cX0_divide 70 = .ok (.invokestatic 76, 3) := by decide +kernel
theorem dX0_divide_73 : decode cX0_divide 73 = .ok (.istore 4, 2) := by decide +kernel
theorem dX0_divide_75 : decode cX0_divide 75 = .ok (.aload_n 0, 1) := by decide +kernel
theorem dX0_divide_76 : decode cX0_divide 76 = .ok (.getfield 10, 3) := by decide +kernel
theorem dX0_divide_79 : decode cX0_divide 79 = .ok (.aload_n 2, 1) := by decide +kernel
theorem dX0_divide_80 : decode cX0_divide 80 = .ok (.invokevirtual 82, 3) := by decide +kernel
theorem dX0_divide_83 : decode cX0_divide 83 = .ok (.aload_n 0, 1) := by decide +kernel
theorem dX0_divide_84 : decode cX0_divide 84 = .ok (.getfield 10, 3) := by decide +kernel
theorem dX0_divide_87 : decode cX0_divide 87 = .ok (.iload 4, 2) := by decide +kernel
theorem dX0_divide_89 : decode cX0_divide 89 = .ok (.invokevirtual 86, 3) := by decide +kernel
theorem dX0_divide_92 : decode cX0_divide 92 = .ok (.aload_n 1, 1) := by decide +kernel
theorem dX0_divide_93 : decode cX0_divide 93 = .ok (.iload 4, 2) := by decide +kernel
theorem dX0_divide_95 : decode cX0_divide 95 = .ok (.invokevirtual 86, 3) := by decide +kernel
theorem dX0_divide_98 : decode cX0_divide 98 = .ok (.aload_n 1, 1) := by decide +kernel
theorem dX0_divide_99 : decode cX0_divide 99 = .ok (.getfield 72, 3) := by decide +kernel
theorem dX0_divide_102 : decode cX0_divide 102 = .ok (.bipush 15, 2) := by decide +kernel
theorem dX0_divide_104 : decode cX0_divide 104 = .ok (.invokestatic 90, 3) := by decide +kernel
theorem dX0_divide_107 : decode cX0_divide 107 = .ok (.aload_n 2, 1) := by decide +kernel
theorem dX0_divide_108 : decode cX0_divide 108 = .ok (.getfield 72, 3) := by decide +kernel
theorem dX0_divide_111 : decode cX0_divide 111 = .ok (.isub, 1) := by decide +kernel
theorem dX0_divide_112 : decode cX0_divide 112 = .ok (.istore 5, 2) := by decide +kernel
theorem dX0_divide_114 : decode cX0_divide 114 = .ok (.iload 5, 2) := by decide +kernel
theorem dX0_divide_116 : decode cX0_divide 116 = .ok (.istore 6, 2) := by decide +kernel
theorem dX0_divide_118 : decode cX0_divide 118 = .ok (.iload 6, 2) := by decide +kernel
theorem dX0_divide_120 : decode cX0_divide 120 = .ok (.ifCond .lt 80, 3) := by decide +kernel
theorem dX0_divide_123 : decode cX0_divide 123 = .ok (.aload_n 0, 1) := by decide +kernel
theorem dX0_divide_124 : decode cX0_divide 124 = .ok (.aload_n 1, 1) := by decide +kernel
theorem dX0_divide_125 : decode cX0_divide 125 = .ok (.iload 6, 2) := by decide +kernel
theorem dX0_divide_127 : decode cX0_divide 127 = .ok (.invokevirtual 96, 3) := by decide +kernel
theorem dX0_divide_130 : decode cX0_divide 130 = .ok (.lstore 7, 2) := by decide +kernel
theorem dX0_divide_132 : decode cX0_divide 132 = .ok (.aload_n 1, 1) := by decide +kernel
theorem dX0_divide_133 : decode cX0_divide 133 = .ok (.lload 7, 2) := by decide +kernel
theorem dX0_divide_135 : decode cX0_divide 135 = .ok (.aload_n 0, 1) := by decide +kernel
theorem dX0_divide_136 : decode cX0_divide 136 = .ok (.getfield 10, 3) := by decide +kernel
theorem dX0_divide_139 : decode cX0_divide 139 = .ok (.iload 6, 2) := by decide +kernel
theorem dX0_divide_141 : decode cX0_divide 141 = .ok (.invokevirtual 100, 3) := by decide +kernel
theorem dX0_divide_144 : decode cX0_divide 144 = .ok (.istore 9, 2) := by decide +kernel
theorem dX0_divide_146 : decode cX0_divide 146 = .ok (.iconst 0, 1) := by decide +kernel
theorem dX0_divide_147 : decode cX0_divide 147 = .ok (.istore 10, 2) := by decide +kernel
theorem dX0_divide_149 : decode cX0_divide 149 = .ok (.iload 10, 2) := by decide +kernel
theorem dX0_divide_151 : decode cX0_divide 151 = .ok (.iconst 2, 1) := by decide +kernel
theorem dX0_divide_152 : decode cX0_divide 152 = .ok (.if_icmp .ge 32, 3) := by decide +kernel
theorem dX0_divide_155 : decode cX0_divide 155 = .ok (.iload 9, 2) := by decide +kernel
theorem dX0_divide_157 : decode cX0_divide 157 = .ok (.ifCond .eq 27, 3) := by decide +kernel
theorem dX0_divide_160 : decode cX0_divide 160 = .ok (.lload 7, 2) := by decide +kernel
theorem dX0_divide_162 : decode cX0_divide 162 = .ok (.lconst 1, 1) := by decide +kernel
theorem dX0_divide_163 : decode cX0_divide 163 = .ok (.lsub, 1) := by decide +kernel
theorem dX0_divide_164 : decode cX0_divide 164 = .ok (.lstore 7, 2) := by decide +kernel
theorem dX0_divide_166 : decode cX0_divide 166 = .ok (.aload_n 1, 1) := by decide +kernel
theorem dX0_divide_167 : decode cX0_divide 167 = .ok (.aload_n 0, 1) := by decide +kernel
theorem dX0_divide_168 : decode cX0_divide 168 = .ok (.getfield 10, 3) := by decide +kernel
theorem dX0_divide_171 : decode cX0_divide 171 = .ok (.iload 6, 2) := by decide +kernel
theorem dX0_divide_173 : decode cX0_divide 173 = .ok (.invokevirtual 104, 3) := by decide +kernel
theorem dX0_divide_176 : decode cX0_divide 176 = .ok (.istore 9, 2) := by decide +kernel
theorem dX0_divide_178 : decode cX0_divide 178 = .ok (.iinc 10 1, 3) := by decide +kernel
theorem dX0_divide_181 : decode cX0_divide 181 = .ok (.goto (-32), 3) := by decide +kernel
theorem dX0_divide_184 : decode cX0_divide 184 = .ok (.aload_n 3, 1) := by decide +kernel
theorem dX0_divide_185 : decode cX0_divide 185 = .ok (.getfield 68, 3) := by decide +kernel
theorem dX0_divide_188 : decode cX0_divide 188 = .ok (.iload 6, 2) := by decide +kernel
theorem dX0_divide_190 : decode cX0_divide 190 = .ok (.lload 7, 2) := by decide +kernel
theorem dX0_divide_192 : decode cX0_divide 192 = .ok (.l2i, 1) := by decide +kernel
theorem dX0_divide_193 : decode cX0_divide 193 = .ok (.iastore, 1) := by decide +kernel
theorem dX0_divide_194 : decode cX0_divide 194 = .ok (.iinc 6 (-1), 3) := by decide +kernel
theorem dX0_divide_197 : decode cX0_divide 197 = .ok (.goto (-79), 3) := by decide +kernel
theorem dX0_divide_200 : decode cX0_divide 200 = .ok (.aload_n 3, 1) := by decide +kernel
theorem dX0_divide_201 : decode cX0_divide 201 = .ok (.iload 5, 2) := by decide +kernel
theorem dX0_divide_203 : decode cX0_divide 203 = .ok (.iconst 1, 1) := by decide +kernel
theorem dX0_divide_204 : decode cX0_divide 204 = .ok (.iadd, 1) := by decide +kernel
theorem dX0_divide_205 : decode cX0_divide 205 = .ok (.putfield 72, 3) := by decide +kernel
theorem dX0_divide_208 : decode cX0_divide 208 = .ok (.aload_n 3, 1) := by decide +kernel
theorem dX0_divide_209 : decode cX0_divide 209 = .ok (.invokevirtual 108, 3) := by decide +kernel
theorem dX0_divide_212 : decode cX0_divide 212 = .ok (.aload_n 1, 1) := by decide +kernel
theorem dX0_divide_213 : decode cX0_divide 213 = .ok (.iload 4, 2) := by decide +kernel
theorem dX0_divide_215 : decode cX0_divide 215 = .ok (.invokevirtual 111, 3) := by decide +kernel
theorem dX0_divide_218 : decode cX0_divide 218 = .ok (.aload_n 1, 1) := by decide +kernel
theorem dX0_divide_219 : decode cX0_divide 219 = .ok (.invokevirtual 108, 3) := by decide +kernel
theorem dX0_divide_222 : decode cX0_divide 222 = .ok (.return_, 1) := by decide +kernel
theorem dX0_guessLimb_0 : decode cX0_guessLimb 0 = .ok (.aload_n 0, 1) := by decide +kernel
theorem dX0_guessLimb_1 : decode cX0_guessLimb 1 = .ok (.getfield 10, 3) := by decide +kernel
theorem dX0_guessLimb_4 : decode cX0_guessLimb 4 = .ok (.getfield 72, 3) := by decide +kernel
theorem dX0_guessLimb_7 : decode cX0_guessLimb 7 = .ok (.istore_n 3, 1) := by decide +kernel
theorem dX0_guessLimb_8 : decode cX0_guessLimb 8 = .ok (.aload_n 1, 1) := by decide +kernel
theorem dX0_guessLimb_9 : decode cX0_guessLimb 9 = .ok (.getfield 68, 3) := by decide +kernel
theorem dX0_guessLimb_12 : decode cX0_guessLimb 12 = .ok (.iload_n 2, 1) := by decide +kernel
theorem dX0_guessLimb_13 : decode cX0_guessLimb 13 = .ok (.iload_n 3, 1) := by decide +kernel
theorem dX0_guessLimb_14 : decode cX0_guessLimb 14 = .ok (.iadd, 1) := by decide +kernel
theorem dX0_guessLimb_15 : decode cX0_guessLimb 15 = .ok (.iaload, 1) := by decide +kernel
theorem dX0_guessLimb_16 : decode cX0_guessLimb 16 = .ok (.i2l, 1) := by decide +kernel
theorem dX0_guessLimb_17 : decode cX0_guessLimb 17 = .ok (.ldc2_w 114, 3) := by decide +kernel
theorem dX0_guessLimb_20 : decode cX0_guessLimb 20 = .ok (.land, 1) := by decide +kernel
theorem dX0_guessLimb_21 : decode cX0_guessLimb 21 = .ok (.lstore 4, 2) := by decide +kernel
theorem dX0_guessLimb_23 : decode cX0_guessLimb 23 = .ok (.aload_n 0, 1) := by decide +kernel
theorem dX0_guessLimb_24 : decode cX0_guessLimb 24 = .ok (.getfield 10, 3) := by decide +kernel
theorem dX0_guessLimb_27 : decode cX0_guessLimb 27 = .ok (.getfield 68, 3) := by decide +kernel
theorem dX0_guessLimb_30 : decode cX0_guessLimb 30 = .ok (.iload_n 3, 1) := by decide +kernel
theorem dX0_guessLimb_31 : decode cX0_guessLimb 31 = .ok (.iconst 1, 1) := by decide +kernel
theorem dX0_guessLimb_32 : decode cX0_guessLimb 32 = .ok (.isub, 1) := by decide +kernel
theorem dX0_guessLimb_33 : decode cX0_guessLimb 33 = .ok (.iaload, 1) := by decide +kernel
theorem dX0_guessLimb_34 : decode cX0_guessLimb 34 = .ok (.i2l, 1) := by decide +kernel
theorem dX0_guessLimb_35 : decode cX0_guessLimb 35 = .ok (.ldc2_w 114, 3) := by decide +kernel
theorem dX0_guessLimb_38 : decode cX0_guessLimb 38 = .ok (.land, 1) := by decide +kernel
theorem dX0_guessLimb_39 : decode cX0_guessLimb 39 = .ok (.lstore 6, 2) := by decide +kernel
theorem dX0_guessLimb_41 : decode cX0_guessLimb 41 = .ok (.lload 4, 2) := by decide +kernel
theorem dX0_guessLimb_43 : decode cX0_guessLimb 43 = .ok (.lload 6, 2) := by decide +kernel
theorem dX0_guessLimb_45 : decode cX0_guessLimb 45 = .ok (.lcmp, 1) := by decide +kernel
theorem dX0_guessLimb_46 : decode cX0_guessLimb 46 = .ok (.ifCond .lt 7, 3) := by decide +kernel
theorem dX0_guessLimb_49 : decode cX0_guessLimb 49 = .ok (.ldc2_w 114, 3) := by decide +kernel
theorem dX0_guessLimb_52 : decode cX0_guessLimb 52 = .ok (.lreturn, 1) := by decide +kernel
theorem dX0_guessLimb_53 : decode cX0_guessLimb 53 = .ok (.lload 4, 2) := by decide +kernel
theorem dX0_guessLimb_55 : decode cX0_guessLimb 55 = .ok (.bipush 32, 2) := by decide +kernel
theorem dX0_guessLimb_57 : decode cX0_guessLimb 57 = .ok (.lshl, 1) := by decide +kernel
theorem dX0_guessLimb_58 : decode cX0_guessLimb 58 = .ok (.aload_n 1, 1) := by decide +kernel
theorem dX0_guessLimb_59 : decode cX0_guessLimb 59 = .ok (.getfield 68, 3) := by decide +kernel
theorem dX0_guessLimb_62 : decode cX0_guessLimb 62 = .ok (.iload_n 2, 1) := by decide +kernel
theorem dX0_guessLimb_63 : decode cX0_guessLimb 63 = .ok (.iload_n 3, 1) := by decide +kernel
theorem dX0_guessLimb_64 : decode cX0_guessLimb 64 = .ok (.iadd, 1) := by decide +kernel
theorem dX0_guessLimb_65 : decode cX0_guessLimb 65 = .ok (.iconst 1, 1) := by decide +kernel
theorem dX0_guessLimb_66 : decode cX0_guessLimb 66 = .ok (.isub, 1) := by decide +kernel
theorem dX0_guessLimb_67 : decode cX0_guessLimb 67 = .ok (.iaload, 1) := by decide +kernel
theorem dX0_guessLimb_68 : decode cX0_guessLimb 68 = .ok (.i2l, 1) := by decide +kernel
theorem dX0_guessLimb_69 : decode cX0_guessLimb 69 = .ok (.ldc2_w 114, 3) := by decide +kernel
theorem dX0_guessLimb_72 : decode cX0_guessLimb 72 = .ok (.land, 1) := by decide +kernel
theorem dX0_guessLimb_73 : decode cX0_guessLimb 73 = .ok (.lor, 1) := by decide +kernel
theorem dX0_guessLimb_74 : decode cX0_guessLimb 74 = .ok (.lstore 8, 2) := by decide +kernel
theorem dX0_guessLimb_76 : decode cX0_guessLimb 76 = .ok (.lload 8, 2) := by decide +kernel
theorem dX0_guessLimb_78 : decode cX0_guessLimb 78 = .ok (.iconst 1, 1) := by decide +kernel
theorem dX0_guessLimb_79 : decode cX0_guessLimb 79 = .ok (.lushr, 1) := by decide +kernel
theorem dX0_guessLimb_80 : decode cX0_guessLimb 80 = .ok (.lload 6, 2) := by decide +kernel
theorem dX0_guessLimb_82 : decode cX0_guessLimb 82 = .ok (.ldiv, 1) := by decide +kernel
theorem dX0_guessLimb_83 : decode cX0_guessLimb 83 = .ok (.iconst 1, 1) := by decide +kernel
theorem dX0_guessLimb_84 : decode cX0_guessLimb 84 = .ok (.lshl, 1) := by decide +kernel
theorem dX0_guessLimb_85 : decode cX0_guessLimb 85 = .ok (.lstore 10, 2) := by decide +kernel
theorem dX0_guessLimb_87 : decode cX0_guessLimb 87 = .ok (.lload 8, 2) := by decide +kernel
theorem dX0_guessLimb_89 : decode cX0_guessLimb 89 = .ok (.lload 10, 2) := by decide +kernel
theorem dX0_guessLimb_91 : decode cX0_guessLimb 91 = .ok (.lload 6, 2) := by decide +kernel
theorem dX0_guessLimb_93 : decode cX0_guessLimb 93 = .ok (.lmul, 1) := by decide +kernel
theorem dX0_guessLimb_94 : decode cX0_guessLimb 94 = .ok (.lsub, 1) := by decide +kernel
theorem dX0_guessLimb_95 : decode cX0_guessLimb 95 = .ok (.lload 6, 2) := by decide +kernel
theorem dX0_guessLimb_97 : decode cX0_guessLimb 97 = .ok (.lcmp, 1) := by decide +kernel
theorem dX0_guessLimb_98 : decode cX0_guessLimb 98 = .ok (.ifCond .lt 10, 3) := by decide +kernel
theorem dX0_guessLimb_101 : decode cX0_guessLimb 101 = .ok (.lload 10, 2) := by decide +kernel
theorem dX0_guessLimb_103 : decode cX0_guessLimb 103 = .ok (.lconst 1, 1) := by decide +kernel
theorem dX0_guessLimb_104 : decode cX0_guessLimb 104 = .ok (.ladd, 1) := by decide +kernel
theorem dX0_guessLimb_105 : decode cX0_guessLimb 105 = .ok (.goto 5, 3) := by decide +kernel
theorem dX0_guessLimb_108 : decode cX0_guessLimb 108 = .ok (.lload 10, 2) := by decide +kernel
theorem dX0_guessLimb_110 : decode cX0_guessLimb 110 = .ok (.lreturn, 1) := by decide +kernel
theorem dX0_findCommon_0 : decode cX0_findCommon 0 = .ok (.aload_n 1, 1) := by decide +kernel
theorem dX0_findCommon_1 : decode cX0_findCommon 1 = .ok (.invokevirtual 116, 3) := by decide +kernel
theorem dX0_findCommon_4 : decode cX0_findCommon 4 = .ok (.ifCond .ne 10, 3) := by decide +kernel
theorem dX0_findCommon_7 : decode cX0_findCommon 7 = .ok (.aload_n 2, 1) := by decide +kernel
theorem dX0_findCommon_8 : decode cX0_findCommon 8 = .ok (.invokevirtual 116, 3) := by decide +kernel
theorem dX0_findCommon_11 : decode cX0_findCommon 11 = .ok (.ifCond .eq 12, 3) := by decide +kernel
theorem dX0_findCommon_14 : decode cX0_findCommon 14 = .ok (.aload_n 0, 1) := by decide +kernel
theorem dX0_findCommon_15 : decode cX0_findCommon 15 = .ok (.getfield 25, 3) := by decide +kernel
theorem dX0_findCommon_18 : decode cX0_findCommon 18 = .ok (.lconst 1, 1) := by decide +kernel
theorem dX0_findCommon_19 : decode cX0_findCommon 19 = .ok (.invokevirtual 49, 3) := by decide +kernel
theorem dX0_findCommon_22 : decode cX0_findCommon 22 = .ok (.return_, 1) := by decide +kernel
theorem dX0_findCommon_23 : decode cX0_findCommon 23 = .ok (.aload_n 0, 1) := by decide +kernel
theorem dX0_findCommon_24 : decode cX0_findCommon 24 = .ok (.getfield 19, 3) := by decide +kernel
theorem dX0_findCommon_27 : decode cX0_findCommon 27 = .ok (.astore_n 3, 1) := by decide +kernel
theorem dX0_findCommon_28 : decode cX0_findCommon 28 = .ok (.aload_n 0, 1) := by decide +kernel
theorem dX0_findCommon_29 : decode cX0_findCommon 29 = .ok (.getfield 22, 3) := by decide +kernel
theorem dX0_findCommon_32 : decode cX0_findCommon 32 = .ok (.astore 4, 2) := by decide +kernel
theorem dX0_findCommon_34 : decode cX0_findCommon 34 = .ok (.aload_n 3, 1) := by decide +kernel
theorem dX0_findCommon_35 : decode cX0_findCommon 35 = .ok (.aload_n 1, 1) := by decide +kernel
theorem dX0_findCommon_36 : decode cX0_findCommon 36 = .ok (.invokevirtual 82, 3) := by decide +kernel
theorem dX0_findCommon_39 : decode cX0_findCommon 39 = .ok (.aload 4, 2) := by decide +kernel
theorem dX0_findCommon_41 : decode cX0_findCommon 41 = .ok (.aload_n 2, 1) := by decide +kernel
theorem dX0_findCommon_42 : decode cX0_findCommon 42 = .ok (.invokevirtual 82, 3) := by decide +kernel
theorem dX0_findCommon_45 : decode cX0_findCommon 45 = .ok (.iconst 0, 1) := by decide +kernel
theorem dX0_findCommon_46 : decode cX0_findCommon 46 = .ok (.istore 5, 2) := by decide +kernel
theorem dX0_findCommon_48 : decode cX0_findCommon 48 = .ok (.iload 5, 2) := by decide +kernel
theorem dX0_findCommon_50 : decode cX0_findCommon 50 = .ok (.ldc 119, 2) := by decide +kernel
theorem dX0_findCommon_52 : decode cX0_findCommon 52 = .ok (.if_icmp .ge 73, 3) := by decide +kernel
theorem dX0_findCommon_55 : decode cX0_findCommon 55 = .ok (.aload 4, 2) := by decide +kernel
theorem dX0_findCommon_57 : decode cX0_findCommon 57 = .ok (.invokevirtual 53, 3) := by decide +kernel
theorem dX0_findCommon_60 : decode cX0_findCommon 60 = .ok (.ifCond .ne 65, 3) := by decide +kernel
theorem dX0_findCommon_63 : decode cX0_findCommon 63 = .ok (.aload_n 3, 1) := by decide +kernel
theorem dX0_findCommon_64 : decode cX0_findCommon 64 = .ok (.invokevirtual 61, 3) := by decide +kernel
theorem dX0_findCommon_67 : decode cX0_findCommon 67 = .ok (.ifCond .eq 31, 3) := by decide +kernel
theorem dX0_findCommon_70 : decode cX0_findCommon 70 = .ok (.aload 4, 2) := by decide +kernel
theorem dX0_findCommon_72 : decode cX0_findCommon 72 = .ok (.invokevirtual 61, 3) := by decide +kernel
theorem dX0_findCommon_75 : decode cX0_findCommon 75 = .ok (.ifCond .eq 23, 3) := by decide +kernel
theorem dX0_findCommon_78 : decode cX0_findCommon 78 = .ok (.aload_n 0, 1) := by decide +kernel
theorem dX0_findCommon_79 : decode cX0_findCommon 79 = .ok (.getfield 25, 3) := by decide +kernel
theorem dX0_findCommon_82 : decode cX0_findCommon 82 = .ok (.aload_n 3, 1) := by decide +kernel
theorem dX0_findCommon_83 : decode cX0_findCommon 83 = .ok (.invokevirtual 64, 3) := by decide +kernel
theorem dX0_findCommon_86 : decode cX0_findCommon 86 = .ok (.aload 4, 2) := by decide +kernel
theorem dX0_findCommon_88 : decode cX0_findCommon 88 = .ok (.invokevirtual 64, 3) := by decide +kernel
theorem dX0_findCommon_91 : decode cX0_findCommon 91 = .ok (.invokestatic 120, 3) := by decide +kernel
theorem dX0_findCommon_94 : decode cX0_findCommon 94 = .ok (.invokevirtual 49, 3) := by decide +kernel
theorem dX0_findCommon_97 : decode cX0_findCommon 97 = .ok (.return_, 1) := by decide +kernel
theorem dX0_findCommon_98 : decode cX0_findCommon 98 = .ok (.aload_n 0, 1) := by decide +kernel
theorem dX0_findCommon_99 : decode cX0_findCommon 99 = .ok (.aload_n 3, 1) := by decide +kernel
theorem dX0_findCommon_100 : decode cX0_findCommon 100 = .ok (.aload 4, 2) := by decide +kernel
theorem dX0_findCommon_102 : decode cX0_findCommon 102 = .ok (.aload_n 0, 1) := by decide +kernel
theorem dX0_findCommon_103 : decode cX0_findCommon 103 = .ok (.getfield 16, 3) := by decide +kernel
theorem dX0_findCommon_106 : decode cX0_findCommon 106 = .ok (.invokevirtual 124, 3) := by decide +kernel
theorem dX0_findCommon_109 : decode cX0_findCommon 109 = .ok (.aload_n 3, 1) := by decide +kernel
theorem dX0_findCommon_110 : decode cX0_findCommon 110 = .ok (.astore 6, 2) := by decide +kernel
theorem dX0_findCommon_112 : decode cX0_findCommon 112 = .ok (.aload 4, 2) := by decide +kernel
theorem dX0_findCommon_114 : decode cX0_findCommon 114 = .ok (.astore_n 3, 1) := by decide +kernel
theorem dX0_findCommon_115 : decode cX0_findCommon 115 = .ok (.aload 6, 2) := by decide +kernel
theorem dX0_findCommon_117 : decode cX0_findCommon 117 = .ok (.astore 4, 2) := by decide +kernel
theorem dX0_findCommon_119 : decode cX0_findCommon 119 = .ok (.iinc 5 1, 3) := by decide +kernel
theorem dX0_findCommon_122 : decode cX0_findCommon 122 = .ok (.goto (-74), 3) := by decide +kernel
theorem dX0_findCommon_125 : decode cX0_findCommon 125 = .ok (.aload_n 0, 1) := by decide +kernel
theorem dX0_findCommon_126 : decode cX0_findCommon 126 = .ok (.getfield 25, 3) := by decide +kernel
theorem dX0_findCommon_129 : decode cX0_findCommon 129 = .ok (.aload_n 3, 1) := by decide +kernel
theorem dX0_findCommon_130 : decode cX0_findCommon 130 = .ok (.invokevirtual 82, 3) := by decide +kernel
theorem dX0_findCommon_133 : decode cX0_findCommon 133 = .ok (.return_, 1) := by decide +kernel
theorem dX0_commonOf_0 : decode cX0_commonOf 0 = .ok (.lload_n 0, 1) := by decide +kernel
theorem dX0_commonOf_1 : decode cX0_commonOf 1 = .ok (.lstore 4, 2) := by decide +kernel
theorem dX0_commonOf_3 : decode cX0_commonOf 3 = .ok (.lload_n 2, 1) := by decide +kernel
theorem dX0_commonOf_4 : decode cX0_commonOf 4 = .ok (.lstore 6, 2) := by decide +kernel
theorem dX0_commonOf_6 : decode cX0_commonOf 6 = .ok (.iconst 0, 1) := by decide +kernel
theorem dX0_commonOf_7 : decode cX0_commonOf 7 = .ok (.istore 8, 2) := by decide +kernel
theorem dX0_commonOf_9 : decode cX0_commonOf 9 = .ok (.iload 8, 2) := by decide +kernel
theorem dX0_commonOf_11 : decode cX0_commonOf 11 = .ok (.ldc 119, 2) := by decide +kernel
theorem dX0_commonOf_13 : decode cX0_commonOf 13 = .ok (.if_icmp .ge 31, 3) := by decide +kernel
theorem dX0_commonOf_16 : decode cX0_commonOf 16 = .ok (.lload 6, 2) := by decide +kernel
theorem dX0_commonOf_18 : decode cX0_commonOf 18 = .ok (.lconst 0, 1) := by decide +kernel
theorem dX0_commonOf_19 : decode cX0_commonOf 19 = .ok (.lcmp, 1) := by decide +kernel
theorem dX0_commonOf_20 : decode cX0_commonOf 20 = .ok (.ifCond .eq 24, 3) := by decide +kernel
theorem dX0_commonOf_23 : decode cX0_commonOf 23 = .ok (.lload 4, 2) := by decide +kernel
theorem dX0_commonOf_25 : decode cX0_commonOf 25 = .ok (.lload 6, 2) := by decide +kernel
theorem dX0_commonOf_27 : decode cX0_commonOf 27 = .ok (.lrem, 1) := by decide +kernel
theorem dX0_commonOf_28 : decode cX0_commonOf 28 = .ok (.lstore 9, 2) := by decide +kernel
theorem dX0_commonOf_30 : decode cX0_commonOf 30 = .ok (.lload 6, 2) := by decide +kernel
theorem dX0_commonOf_32 : decode cX0_commonOf 32 = .ok (.lstore 4, 2) := by decide +kernel
theorem dX0_commonOf_34 : decode cX0_commonOf 34 = .ok (.lload 9, 2) := by decide +kernel
theorem dX0_commonOf_36 : decode cX0_commonOf 36 = .ok (.lstore 6, 2) := by decide +kernel
theorem dX0_commonOf_38 : decode cX0_commonOf 38 = .ok (.iinc 8 1, 3) := by decide +kernel
theorem dX0_commonOf_41 : decode cX0_commonOf 41 = .ok (.goto (-32), 3) := by decide +kernel
theorem dX0_commonOf_44 : decode cX0_commonOf 44 = .ok (.lload 4, 2) := by decide +kernel
theorem dX0_commonOf_46 : decode cX0_commonOf 46 = .ok (.lreturn, 1) := by decide +kernel
theorem dX0_haveNothingCommon_0 : decode cX0_haveNothingCommon 0 = .ok (.aload_n 0, 1) := by decide +kernel
theorem dX0_haveNothingCommon_1 : decode cX0_haveNothingCommon 1 = .ok (.aload_n 1, 1) := by decide +kernel
theorem dX0_haveNothingCommon_2 : decode cX0_haveNothingCommon 2 = .ok (.aload_n 2, 1) := by decide +kernel
theorem dX0_haveNothingCommon_3 : decode cX0_haveNothingCommon 3 = .ok (.invokevirtual 128, 3) := by decide +kernel
theorem dX0_haveNothingCommon_6 : decode cX0_haveNothingCommon 6 = .ok (.aload_n 0, 1) := by decide +kernel
theorem dX0_haveNothingCommon_7 : decode cX0_haveNothingCommon 7 = .ok (.getfield 25, 3) := by decide +kernel
theorem dX0_haveNothingCommon_10 : decode cX0_haveNothingCommon 10 = .ok (.invokevirtual 116, 3) := by decide +kernel
theorem dX0_haveNothingCommon_13 : decode cX0_haveNothingCommon 13 = .ok (.ireturn, 1) := by decide +kernel
theorem dX0_cut_0 : decode cX0_cut 0 = .ok (.aload_n 0, 1) := by decide +kernel
theorem dX0_cut_1 : decode cX0_cut 1 = .ok (.getfield 25, 3) := by decide +kernel
theorem dX0_cut_4 : decode cX0_cut 4 = .ok (.invokevirtual 116, 3) := by decide +kernel
theorem dX0_cut_7 : decode cX0_cut 7 = .ok (.ifCond .eq 9, 3) := by decide +kernel
theorem dX0_cut_10 : decode cX0_cut 10 = .ok (.aload_n 2, 1) := by decide +kernel
theorem dX0_cut_11 : decode cX0_cut 11 = .ok (.aload_n 1, 1) := by decide +kernel
theorem dX0_cut_12 : decode cX0_cut 12 = .ok (.invokevirtual 82, 3) := by decide +kernel
theorem dX0_cut_15 : decode cX0_cut 15 = .ok (.return_, 1) := by decide +kernel
theorem dX0_cut_16 : decode cX0_cut 16 = .ok (.aload_n 0, 1) := by decide +kernel
theorem dX0_cut_17 : decode cX0_cut 17 = .ok (.getfield 28, 3) := by decide +kernel
theorem dX0_cut_20 : decode cX0_cut 20 = .ok (.aload_n 1, 1) := by decide +kernel
theorem dX0_cut_21 : decode cX0_cut 21 = .ok (.invokevirtual 82, 3) := by decide +kernel
theorem dX0_cut_24 : decode cX0_cut 24 = .ok (.aload_n 0, 1) := by decide +kernel
theorem dX0_cut_25 : decode cX0_cut 25 = .ok (.aload_n 0, 1) := by decide +kernel
theorem dX0_cut_26 : decode cX0_cut 26 = .ok (.getfield 28, 3) := by decide +kernel
theorem dX0_cut_29 : decode cX0_cut 29 = .ok (.aload_n 0, 1) := by decide +kernel
theorem dX0_cut_30 : decode cX0_cut 30 = .ok (.getfield 25, 3) := by decide +kernel
theorem dX0_cut_33 : decode cX0_cut 33 = .ok (.aload_n 2, 1) := by decide +kernel
theorem dX0_cut_34 : decode cX0_cut 34 = .ok (.invokevirtual 124, 3) := by decide +kernel
theorem dX0_cut_37 : decode cX0_cut 37 = .ok (.return_, 1) := by decide +kernel
theorem dX0_setRatio_0 : decode cX0_setRatio 0 = .ok (.aload_n 0, 1) := by decide +kernel
theorem dX0_setRatio_1 : decode cX0_setRatio 1 = .ok (.getfield 31, 3) := by decide +kernel
theorem dX0_setRatio_4 : decode cX0_setRatio 4 = .ok (.lload_n 1, 1) := by decide +kernel
theorem dX0_setRatio_5 : decode cX0_setRatio 5 = .ok (.invokestatic 132, 3) := by decide +kernel
theorem dX0_setRatio_8 : decode cX0_setRatio 8 = .ok (.invokevirtual 49, 3) := by decide +kernel
theorem dX0_setRatio_11 : decode cX0_setRatio 11 = .ok (.aload_n 0, 1) := by decide +kernel
theorem dX0_setRatio_12 : decode cX0_setRatio 12 = .ok (.getfield 34, 3) := by decide +kernel
theorem dX0_setRatio_15 : decode cX0_setRatio 15 = .ok (.lload_n 3, 1) := by decide +kernel
theorem dX0_setRatio_16 : decode cX0_setRatio 16 = .ok (.invokestatic 132, 3) := by decide +kernel
theorem dX0_setRatio_19 : decode cX0_setRatio 19 = .ok (.invokevirtual 49, 3) := by decide +kernel
theorem dX0_setRatio_22 : decode cX0_setRatio 22 = .ok (.aload_n 0, 1) := by decide +kernel
theorem dX0_setRatio_23 : decode cX0_setRatio 23 = .ok (.aload_n 0, 1) := by decide +kernel
theorem dX0_setRatio_24 : decode cX0_setRatio 24 = .ok (.getfield 31, 3) := by decide +kernel
theorem dX0_setRatio_27 : decode cX0_setRatio 27 = .ok (.aload_n 0, 1) := by decide +kernel
theorem dX0_setRatio_28 : decode cX0_setRatio 28 = .ok (.getfield 34, 3) := by decide +kernel
theorem dX0_setRatio_31 : decode cX0_setRatio 31 = .ok (.invokevirtual 128, 3) := by decide +kernel
theorem dX0_setRatio_34 : decode cX0_setRatio 34 = .ok (.aload_n 0, 1) := by decide +kernel
theorem dX0_setRatio_35 : decode cX0_setRatio 35 = .ok (.aload_n 0, 1) := by decide +kernel
theorem dX0_setRatio_36 : decode cX0_setRatio 36 = .ok (.getfield 31, 3) := by decide +kernel
theorem dX0_setRatio_39 : decode cX0_setRatio 39 = .ok (.aload 5, 2) := by decide +kernel
theorem dX0_setRatio_41 : decode cX0_setRatio 41 = .ok (.getfield 136, 3) := by decide +kernel
theorem dX0_setRatio_44 : decode cX0_setRatio 44 = .ok (.invokevirtual 141, 3) := by decide +kernel
theorem dX0_setRatio_47 : decode cX0_setRatio 47 = .ok (.aload_n 0, 1) := by decide +kernel
theorem dX0_setRatio_48 : decode cX0_setRatio 48 = .ok (.aload_n 0, 1) := by decide +kernel
theorem dX0_setRatio_49 : decode cX0_setRatio 49 = .ok (.getfield 34, 3) := by decide +kernel
theorem dX0_setRatio_52 : decode cX0_setRatio 52 = .ok (.aload 5, 2) := by decide +kernel
theorem dX0_setRatio_54 : decode cX0_setRatio 54 = .ok (.getfield 144, 3) := by decide +kernel
theorem dX0_setRatio_57 : decode cX0_setRatio 57 = .ok (.invokevirtual 141, 3) := by decide +kernel
theorem dX0_setRatio_60 : decode cX0_setRatio 60 = .ok (.aload 5, 2) := by decide +kernel
theorem dX0_setRatio_62 : decode cX0_setRatio 62 = .ok (.lload_n 1, 1) := by decide +kernel
theorem dX0_setRatio_63 : decode cX0_setRatio 63 = .ok (.lconst 0, 1) := by decide +kernel
theorem dX0_setRatio_64 : decode cX0_setRatio 64 = .ok (.lcmp, 1) := by decide +kernel
theorem dX0_setRatio_65 : decode cX0_setRatio 65 = .ok (.ifCond .eq 32, 3) := by decide +kernel
theorem dX0_setRatio_68 : decode cX0_setRatio 68 = .ok (.lload_n 1, 1) := by decide +kernel
theorem dX0_setRatio_69 : decode cX0_setRatio 69 = .ok (.lconst 0, 1) := by decide +kernel
theorem dX0_setRatio_70 : decode cX0_setRatio 70 = .ok (.lcmp, 1) := by decide +kernel
theorem dX0_setRatio_71 : decode cX0_setRatio 71 = .ok (.ifCond .ge 7, 3) := by decide +kernel
theorem dX0_setRatio_74 : decode cX0_setRatio 74 = .ok (.iconst 1, 1) := by decide +kernel
theorem dX0_setRatio_75 : decode cX0_setRatio 75 = .ok (.goto 4, 3) := by decide +kernel
theorem dX0_setRatio_78 : decode cX0_setRatio 78 = .ok (.iconst 0, 1) := by decide +kernel
theorem dX0_setRatio_79 : decode cX0_setRatio 79 = .ok (.lload_n 3, 1) := by decide +kernel
theorem dX0_setRatio_80 : decode cX0_setRatio 80 = .ok (.lconst 0, 1) := by decide +kernel
theorem dX0_setRatio_81 : decode cX0_setRatio 81 = .ok (.lcmp, 1) := by decide +kernel
theorem dX0_setRatio_82 : decode cX0_setRatio 82 = .ok (.ifCond .ge 7, 3) := by decide +kernel
theorem dX0_setRatio_85 : decode cX0_setRatio 85 = .ok (.iconst 1, 1) := by decide +kernel
theorem dX0_setRatio_86 : decode cX0_setRatio 86 = .ok (.goto 4, 3) := by decide +kernel
theorem dX0_setRatio_89 : decode cX0_setRatio 89 = .ok (.iconst 0, 1) := by decide +kernel
theorem dX0_setRatio_90 : decode cX0_setRatio 90 = .ok (.if_icmp .eq 7, 3) := by decide +kernel
theorem dX0_setRatio_93 : decode cX0_setRatio 93 = .ok (.iconst 1, 1) := by decide +kernel
theorem dX0_setRatio_94 : decode cX0_setRatio 94 = .ok (.goto 4, 3) := by decide +kernel
theorem dX0_setRatio_97 : decode cX0_setRatio 97 = .ok (.iconst 0, 1) := by decide +kernel
theorem dX0_setRatio_98 : decode cX0_setRatio 98 = .ok (.putfield 147, 3) := by decide +kernel
theorem dX0_setRatio_101 : decode cX0_setRatio 101 = .ok (.return_, 1) := by decide +kernel
theorem dX0_add_0 : decode cX0_add 0 = .ok (.aload_n 0, 1) := by decide +kernel
theorem dX0_add_1 : decode cX0_add 1 = .ok (.aload_n 1, 1) := by decide +kernel
theorem dX0_add_2 : decode cX0_add 2 = .ok (.getfield 144, 3) := by decide +kernel
theorem dX0_add_5 : decode cX0_add 5 = .ok (.aload_n 2, 1) := by decide +kernel
theorem dX0_add_6 : decode cX0_add 6 = .ok (.getfield 144, 3) := by decide +kernel
theorem dX0_add_9 : decode cX0_add 9 = .ok (.invokevirtual 128, 3) := by decide +kernel
theorem dX0_add_12 : decode cX0_add 12 = .ok (.aload_n 0, 1) := by decide +kernel
theorem dX0_add_13 : decode cX0_add 13 = .ok (.aload_n 1, 1) := by decide +kernel
theorem dX0_add_14 : decode cX0_add 14 = .ok (.getfield 144, 3) := by decide +kernel
theorem dX0_add_17 : decode cX0_add 17 = .ok (.aload_n 0, 1) := by decide +kernel
theorem dX0_add_18 : decode cX0_add 18 = .ok (.getfield 43, 3) := by decide +kernel
theorem dX0_add_21 : decode cX0_add 21 = .ok (.invokevirtual 141, 3) := by decide +kernel
theorem dX0_add_24 : decode cX0_add 24 = .ok (.aload_n 0, 1) := by decide +kernel
theorem dX0_add_25 : decode cX0_add 25 = .ok (.aload_n 2, 1) := by decide +kernel
theorem dX0_add_26 : decode cX0_add 26 = .ok (.getfield 144, 3) := by decide +kernel
theorem dX0_add_29 : decode cX0_add 29 = .ok (.aload_n 0, 1) := by decide +kernel
theorem dX0_add_30 : decode cX0_add 30 = .ok (.getfield 46, 3) := by decide +kernel
theorem dX0_add_33 : decode cX0_add 33 = .ok (.invokevirtual 141, 3) := by decide +kernel
theorem dX0_add_36 : decode cX0_add 36 = .ok (.aload_n 0, 1) := by decide +kernel
theorem dX0_add_37 : decode cX0_add 37 = .ok (.getfield 37, 3) := by decide +kernel
theorem dX0_add_40 : decode cX0_add 40 = .ok (.aload_n 1, 1) := by decide +kernel
theorem dX0_add_41 : decode cX0_add 41 = .ok (.getfield 136, 3) := by decide +kernel
theorem dX0_add_44 : decode cX0_add 44 = .ok (.aload_n 0, 1) := by decide +kernel
theorem dX0_add_45 : decode cX0_add 45 = .ok (.getfield 46, 3) := by decide +kernel
theorem dX0_add_48 : decode cX0_add 48 = .ok (.invokevirtual 151, 3) := by decide +kernel
theorem dX0_add_51 : decode cX0_add 51 = .ok (.aload_n 0, 1) := by decide +kernel
theorem dX0_add_52 : decode cX0_add 52 = .ok (.getfield 40, 3) := by decide +kernel
theorem dX0_add_55 : decode cX0_add 55 = .ok (.aload_n 2, 1) := by decide +kernel
theorem dX0_add_56 : decode cX0_add 56 = .ok (.getfield 136, 3) := by decide +kernel
theorem dX0_add_59 : decode cX0_add 59 = .ok (.aload_n 0, 1) := by decide +kernel
theorem dX0_add_60 : decode cX0_add 60 = .ok (.getfield 43, 3) := by decide +kernel
theorem dX0_add_63 : decode cX0_add 63 = .ok (.invokevirtual 151, 3) := by decide +kernel
theorem dX0_add_66 : decode cX0_add 66 = .ok (.aload_n 0, 1) := by decide +kernel
theorem dX0_add_67 : decode cX0_add 67 = .ok (.aload_n 1, 1) := by decide +kernel
theorem dX0_add_68 : decode cX0_add 68 = .ok (.getfield 147, 3) := by decide +kernel
theorem dX0_add_71 : decode cX0_add 71 = .ok (.aload_n 2, 1) := by decide +kernel
theorem dX0_add_72 : decode cX0_add 72 = .ok (.getfield 147, 3) := by decide +kernel
theorem dX0_add_75 : decode cX0_add 75 = .ok (.iload_n 3, 1) := by decide +kernel
theorem dX0_add_76 : decode cX0_add 76 = .ok (.if_icmp .eq 7, 3) := by decide +kernel
theorem dX0_add_79 : decode cX0_add 79 = .ok (.iconst 1, 1) := by decide +kernel
theorem dX0_add_80 : decode cX0_add 80 = .ok (.goto 4, 3) := by decide +kernel
theorem dX0_add_83 : decode cX0_add 83 = .ok (.iconst 0, 1) := by decide +kernel
theorem dX0_add_84 : decode cX0_add 84 = .ok (.invokevirtual 154, 3) := by decide +kernel
theorem dX0_add_87 : decode cX0_add 87 = .ok (.istore 5, 2) := by decide +kernel
theorem dX0_add_89 : decode cX0_add 89 = .ok (.aload_n 0, 1) := by decide +kernel
theorem dX0_add_90 : decode cX0_add 90 = .ok (.aload_n 0, 1) := by decide +kernel
theorem dX0_add_91 : decode cX0_add 91 = .ok (.getfield 31, 3) := by decide +kernel
theorem dX0_add_94 : decode cX0_add 94 = .ok (.aload_n 0, 1) := by decide +kernel
theorem dX0_add_95 : decode cX0_add 95 = .ok (.getfield 25, 3) := by decide +kernel
theorem dX0_add_98 : decode cX0_add 98 = .ok (.invokevirtual 128, 3) := by decide +kernel
theorem dX0_add_101 : decode cX0_add 101 = .ok (.aload_n 0, 1) := by decide +kernel
theorem dX0_add_102 : decode cX0_add 102 = .ok (.aload_n 2, 1) := by decide +kernel
theorem dX0_add_103 : decode cX0_add 103 = .ok (.getfield 144, 3) := by decide +kernel
theorem dX0_add_106 : decode cX0_add 106 = .ok (.aload_n 0, 1) := by decide +kernel
theorem dX0_add_107 : decode cX0_add 107 = .ok (.getfield 46, 3) := by decide +kernel
theorem dX0_add_110 : decode cX0_add 110 = .ok (.invokevirtual 141, 3) := by decide +kernel
theorem dX0_add_113 : decode cX0_add 113 = .ok (.aload_n 0, 1) := by decide +kernel
theorem dX0_add_114 : decode cX0_add 114 = .ok (.aload_n 0, 1) := by decide +kernel
theorem dX0_add_115 : decode cX0_add 115 = .ok (.getfield 31, 3) := by decide +kernel
theorem dX0_add_118 : decode cX0_add 118 = .ok (.aload_n 0, 1) := by decide +kernel
theorem dX0_add_119 : decode cX0_add 119 = .ok (.getfield 37, 3) := by decide +kernel
theorem dX0_add_122 : decode cX0_add 122 = .ok (.invokevirtual 141, 3) := by decide +kernel
theorem dX0_add_125 : decode cX0_add 125 = .ok (.aload_n 0, 1) := by decide +kernel
theorem dX0_add_126 : decode cX0_add 126 = .ok (.getfield 34, 3) := by decide +kernel
theorem dX0_add_129 : decode cX0_add 129 = .ok (.aload_n 0, 1) := by decide +kernel
theorem dX0_add_130 : decode cX0_add 130 = .ok (.getfield 43, 3) := by decide +kernel
theorem dX0_add_133 : decode cX0_add 133 = .ok (.aload_n 0, 1) := by decide +kernel
theorem dX0_add_134 : decode cX0_add 134 = .ok (.getfield 46, 3) := by decide +kernel
theorem dX0_add_137 : decode cX0_add 137 = .ok (.invokevirtual 151, 3) := by decide +kernel
theorem dX0_add_140 : decode cX0_add 140 = .ok (.aload_n 0, 1) := by decide +kernel
theorem dX0_add_141 : decode cX0_add 141 = .ok (.iload 5, 2) := by decide +kernel
theorem dX0_add_143 : decode cX0_add 143 = .ok (.aload_n 0, 1) := by decide +kernel
theorem dX0_add_144 : decode cX0_add 144 = .ok (.getfield 37, 3) := by decide +kernel
theorem dX0_add_147 : decode cX0_add 147 = .ok (.aload_n 0, 1) := by decide +kernel
theorem dX0_add_148 : decode cX0_add 148 = .ok (.getfield 34, 3) := by decide +kernel
theorem dX0_add_151 : decode cX0_add 151 = .ok (.aload 4, 2) := by decide +kernel
theorem dX0_add_153 : decode cX0_add 153 = .ok (.invokevirtual 158, 3) := by decide +kernel
theorem dX0_add_156 : decode cX0_add 156 = .ok (.ireturn, 1) := by decide +kernel
theorem dX0_joinUppers_0 : decode cX0_joinUppers 0 = .ok (.iload_n 1, 1) := by decide +kernel
theorem dX0_joinUppers_1 : decode cX0_joinUppers 1 = .ok (.iload_n 2, 1) := by decide +kernel
theorem dX0_joinUppers_2 : decode cX0_joinUppers 2 = .ok (.if_icmp .ne 27, 3) := by decide +kernel
theorem dX0_joinUppers_5 : decode cX0_joinUppers 5 = .ok (.aload_n 0, 1) := by decide +kernel
theorem dX0_joinUppers_6 : decode cX0_joinUppers 6 = .ok (.getfield 31, 3) := by decide +kernel
theorem dX0_joinUppers_9 : decode cX0_joinUppers 9 = .ok (.aload_n 0, 1) := by decide +kernel
theorem dX0_joinUppers_10 : decode cX0_joinUppers 10 = .ok (.getfield 37, 3) := by decide +kernel
theorem dX0_joinUppers_13 : decode cX0_joinUppers 13 = .ok (.invokevirtual 82, 3) := by decide +kernel
theorem dX0_joinUppers_16 : decode cX0_joinUppers 16 = .ok (.aload_n 0, 1) := by decide +kernel
theorem dX0_joinUppers_17 : decode cX0_joinUppers 17 = .ok (.getfield 31, 3) := by decide +kernel
theorem dX0_joinUppers_20 : decode cX0_joinUppers 20 = .ok (.aload_n 0, 1) := by decide +kernel
theorem dX0_joinUppers_21 : decode cX0_joinUppers 21 = .ok (.getfield 40, 3) := by decide +kernel
theorem dX0_joinUppers_24 : decode cX0_joinUppers 24 = .ok (.invokevirtual 162, 3) := by decide +kernel
theorem dX0_joinUppers_27 : decode cX0_joinUppers 27 = .ok (.iload_n 1, 1) := by decide +kernel
theorem dX0_joinUppers_28 : decode cX0_joinUppers 28 = .ok (.ireturn, 1) := by decide +kernel
theorem dX0_joinUppers_29 : decode cX0_joinUppers 29 = .ok (.aload_n 0, 1) := by decide +kernel
theorem dX0_joinUppers_30 : decode cX0_joinUppers 30 = .ok (.getfield 37, 3) := by decide +kernel
theorem dX0_joinUppers_33 : decode cX0_joinUppers 33 = .ok (.aload_n 0, 1) := by decide +kernel
theorem dX0_joinUppers_34 : decode cX0_joinUppers 34 = .ok (.getfield 40, 3) := by decide +kernel
theorem dX0_joinUppers_37 : decode cX0_joinUppers 37 = .ok (.invokevirtual 57, 3) := by decide +kernel
theorem dX0_joinUppers_40 : decode cX0_joinUppers 40 = .ok (.ifCond .lt 27, 3) := by decide +kernel
theorem dX0_joinUppers_43 : decode cX0_joinUppers 43 = .ok (.aload_n 0, 1) := by decide +kernel
theorem dX0_joinUppers_44 : decode cX0_joinUppers 44 = .ok (.getfield 31, 3) := by decide +kernel
theorem dX0_joinUppers_47 : decode cX0_joinUppers 47 = .ok (.aload_n 0, 1) := by decide +kernel
theorem dX0_joinUppers_48 : decode cX0_joinUppers 48 = .ok (.getfield 37, 3) := by decide +kernel
theorem dX0_joinUppers_51 : decode cX0_joinUppers 51 = .ok (.invokevirtual 82, 3) := by decide +kernel
theorem dX0_joinUppers_54 : decode cX0_joinUppers 54 = .ok (.aload_n 0, 1) := by decide +kernel
theorem dX0_joinUppers_55 : decode cX0_joinUppers 55 = .ok (.getfield 31, 3) := by decide +kernel
theorem dX0_joinUppers_58 : decode cX0_joinUppers 58 = .ok (.aload_n 0, 1) := by decide +kernel
theorem dX0_joinUppers_59 : decode cX0_joinUppers 59 = .ok (.getfield 40, 3) := by decide +kernel
theorem dX0_joinUppers_62 : decode cX0_joinUppers 62 = .ok (.invokevirtual 165, 3) := by decide +kernel
theorem dX0_joinUppers_65 : decode cX0_joinUppers 65 = .ok (.iload_n 1, 1) := by decide +kernel
theorem dX0_joinUppers_66 : decode cX0_joinUppers 66 = .ok (.ireturn, 1) := by decide +kernel
theorem dX0_joinUppers_67 : decode cX0_joinUppers 67 = .ok (.aload_n 0, 1) := by decide +kernel
theorem dX0_joinUppers_68 : decode cX0_joinUppers 68 = .ok (.getfield 31, 3) := by decide +kernel
theorem dX0_joinUppers_71 : decode cX0_joinUppers 71 = .ok (.aload_n 0, 1) := by decide +kernel
theorem dX0_joinUppers_72 : decode cX0_joinUppers 72 = .ok (.getfield 40, 3) := by decide +kernel
theorem dX0_joinUppers_75 : decode cX0_joinUppers 75 = .ok (.invokevirtual 82, 3) := by decide +kernel
theorem dX0_joinUppers_78 : decode cX0_joinUppers 78 = .ok (.aload_n 0, 1) := by decide +kernel
theorem dX0_joinUppers_79 : decode cX0_joinUppers 79 = .ok (.getfield 31, 3) := by decide +kernel
theorem dX0_joinUppers_82 : decode cX0_joinUppers 82 = .ok (.aload_n 0, 1) := by decide +kernel
theorem dX0_joinUppers_83 : decode cX0_joinUppers 83 = .ok (.getfield 37, 3) := by decide +kernel
theorem dX0_joinUppers_86 : decode cX0_joinUppers 86 = .ok (.invokevirtual 165, 3) := by decide +kernel
theorem dX0_joinUppers_89 : decode cX0_joinUppers 89 = .ok (.iload_n 2, 1) := by decide +kernel
theorem dX0_joinUppers_90 : decode cX0_joinUppers 90 = .ok (.ireturn, 1) := by decide +kernel
theorem dX0_multiply_0 : decode cX0_multiply 0 = .ok (.iload_n 3, 1) := by decide +kernel
theorem dX0_multiply_1 : decode cX0_multiply 1 = .ok (.ifCond .eq 10, 3) := by decide +kernel
theorem dX0_multiply_4 : decode cX0_multiply 4 = .ok (.aload_n 2, 1) := by decide +kernel
theorem dX0_multiply_5 : decode cX0_multiply 5 = .ok (.getfield 144, 3) := by decide +kernel
theorem dX0_multiply_8 : decode cX0_multiply 8 = .ok (.goto 7, 3) := by decide +kernel
theorem dX0_multiply_11 : decode cX0_multiply 11 = .ok (.aload_n 2, 1) := by decide +kernel
theorem dX0_multiply_12 : decode cX0_multiply 12 = .ok (.getfield 136, 3) := by decide +kernel
theorem dX0_multiply_15 : decode cX0_multiply 15 = .ok (.astore 5, 2) := by decide +kernel
theorem dX0_multiply_17 : decode cX0_multiply 17 = .ok (.iload_n 3, 1) := by decide +kernel
theorem dX0_multiply_18 : decode cX0_multiply 18 = .ok (.ifCond .eq 10, 3) := by decide +kernel
theorem dX0_multiply_21 : decode cX0_multiply 21 = .ok (.aload_n 2, 1) := by decide +kernel
theorem dX0_multiply_22 : decode cX0_multiply 22 = .ok (.getfield 136, 3) := by decide +kernel
theorem dX0_multiply_25 : decode cX0_multiply 25 = .ok (.goto 7, 3) := by decide +kernel
theorem dX0_multiply_28 : decode cX0_multiply 28 = .ok (.aload_n 2, 1) := by decide +kernel
theorem dX0_multiply_29 : decode cX0_multiply 29 = .ok (.getfield 144, 3) := by decide +kernel
theorem dX0_multiply_32 : decode cX0_multiply 32 = .ok (.astore 6, 2) := by decide +kernel
theorem dX0_multiply_34 : decode cX0_multiply 34 = .ok (.aload_n 0, 1) := by decide +kernel
theorem dX0_multiply_35 : decode cX0_multiply 35 = .ok (.aload_n 1, 1) := by decide +kernel
theorem dX0_multiply_36 : decode cX0_multiply 36 = .ok (.getfield 136, 3) := by decide +kernel
theorem dX0_multiply_39 : decode cX0_multiply 39 = .ok (.aload 6, 2) := by decide +kernel
theorem dX0_multiply_41 : decode cX0_multiply 41 = .ok (.invokevirtual 128, 3) := by decide +kernel
theorem dX0_multiply_44 : decode cX0_multiply 44 = .ok (.aload_n 0, 1) := by decide +kernel
theorem dX0_multiply_45 : decode cX0_multiply 45 = .ok (.aload_n 1, 1) := by decide +kernel
theorem dX0_multiply_46 : decode cX0_multiply 46 = .ok (.getfield 136, 3) := by decide +kernel
theorem dX0_multiply_49 : decode cX0_multiply 49 = .ok (.aload_n 0, 1) := by decide +kernel
theorem dX0_multiply_50 : decode cX0_multiply 50 = .ok (.getfield 37, 3) := by decide +kernel
theorem dX0_multiply_53 : decode cX0_multiply 53 = .ok (.invokevirtual 141, 3) := by decide +kernel
theorem dX0_multiply_56 : decode cX0_multiply 56 = .ok (.aload_n 0, 1) := by decide +kernel
theorem dX0_multiply_57 : decode cX0_multiply 57 = .ok (.aload 6, 2) := by decide +kernel
theorem dX0_multiply_59 : decode cX0_multiply 59 = .ok (.aload_n 0, 1) := by decide +kernel
theorem dX0_multiply_60 : decode cX0_multiply 60 = .ok (.getfield 46, 3) := by decide +kernel
theorem dX0_multiply_63 : decode cX0_multiply 63 = .ok (.invokevirtual 141, 3) := by decide +kernel
theorem dX0_multiply_66 : decode cX0_multiply 66 = .ok (.aload_n 0, 1) := by decide +kernel
theorem dX0_multiply_67 : decode cX0_multiply 67 = .ok (.aload 5, 2) := by decide +kernel
theorem dX0_multiply_69 : decode cX0_multiply 69 = .ok (.aload_n 1, 1) := by decide +kernel
theorem dX0_multiply_70 : decode cX0_multiply 70 = .ok (.getfield 144, 3) := by decide +kernel
theorem dX0_multiply_73 : decode cX0_multiply 73 = .ok (.invokevirtual 128, 3) := by decide +kernel
theorem dX0_multiply_76 : decode cX0_multiply 76 = .ok (.aload_n 0, 1) := by decide +kernel
theorem dX0_multiply_77 : decode cX0_multiply 77 = .ok (.aload 5, 2) := by decide +kernel
theorem dX0_multiply_79 : decode cX0_multiply 79 = .ok (.aload_n 0, 1) := by decide +kernel
theorem dX0_multiply_80 : decode cX0_multiply 80 = .ok (.getfield 40, 3) := by decide +kernel
theorem dX0_multiply_83 : decode cX0_multiply 83 = .ok (.invokevirtual 141, 3) := by decide +kernel
theorem dX0_multiply_86 : decode cX0_multiply 86 = .ok (.aload_n 0, 1) := by decide +kernel
theorem dX0_multiply_87 : decode cX0_multiply 87 = .ok (.aload_n 1, 1) := by decide +kernel
theorem dX0_multiply_88 : decode cX0_multiply 88 = .ok (.getfield 144, 3) := by decide +kernel
theorem dX0_multiply_91 : decode cX0_multiply 91 = .ok (.aload_n 0, 1) := by decide +kernel
theorem dX0_multiply_92 : decode cX0_multiply 92 = .ok (.getfield 43, 3) := by decide +kernel
theorem dX0_multiply_95 : decode cX0_multiply 95 = .ok (.invokevirtual 141, 3) := by decide +kernel
theorem dX0_multiply_98 : decode cX0_multiply 98 = .ok (.aload_n 0, 1) := by decide +kernel
theorem dX0_multiply_99 : decode cX0_multiply 99 = .ok (.getfield 31, 3) := by decide +kernel
theorem dX0_multiply_102 : decode cX0_multiply 102 = .ok (.aload_n 0, 1) := by decide +kernel
theorem dX0_multiply_103 : decode cX0_multiply 103 = .ok (.getfield 37, 3) := by decide +kernel
theorem dX0_multiply_106 : decode cX0_multiply 106 = .ok (.aload_n 0, 1) := by decide +kernel
theorem dX0_multiply_107 : decode cX0_multiply 107 = .ok (.getfield 40, 3) := by decide +kernel
theorem dX0_multiply_110 : decode cX0_multiply 110 = .ok (.invokevirtual 151, 3) := by decide +kernel
theorem dX0_multiply_113 : decode cX0_multiply 113 = .ok (.aload_n 0, 1) := by decide +kernel
theorem dX0_multiply_114 : decode cX0_multiply 114 = .ok (.getfield 34, 3) := by decide +kernel
theorem dX0_multiply_117 : decode cX0_multiply 117 = .ok (.aload_n 0, 1) := by decide +kernel
theorem dX0_multiply_118 : decode cX0_multiply 118 = .ok (.getfield 43, 3) := by decide +kernel
theorem dX0_multiply_121 : decode cX0_multiply 121 = .ok (.aload_n 0, 1) := by decide +kernel
theorem dX0_multiply_122 : decode cX0_multiply 122 = .ok (.getfield 46, 3) := by decide +kernel
theorem dX0_multiply_125 : decode cX0_multiply 125 = .ok (.invokevirtual 151, 3) := by decide +kernel
theorem dX0_multiply_128 : decode cX0_multiply 128 = .ok (.aload_n 0, 1) := by decide +kernel
theorem dX0_multiply_129 : decode cX0_multiply 129 = .ok (.aload_n 1, 1) := by decide +kernel
theorem dX0_multiply_130 : decode cX0_multiply 130 = .ok (.getfield 147, 3) := by decide +kernel
theorem dX0_multiply_133 : decode cX0_multiply 133 = .ok (.aload_n 2, 1) := by decide +kernel
theorem dX0_multiply_134 : decode cX0_multiply 134 = .ok (.getfield 147, 3) := by decide +kernel
theorem dX0_multiply_137 : decode cX0_multiply 137 = .ok (.if_icmp .eq 7, 3) := by decide +kernel
theorem dX0_multiply_140 : decode cX0_multiply 140 = .ok (.iconst 1, 1) := by decide +kernel
theorem dX0_multiply_141 : decode cX0_multiply 141 = .ok (.goto 4, 3) := by decide +kernel
theorem dX0_multiply_144 : decode cX0_multiply 144 = .ok (.iconst 0, 1) := by decide +kernel
theorem dX0_multiply_145 : decode cX0_multiply 145 = .ok (.aload_n 0, 1) := by decide +kernel
theorem dX0_multiply_146 : decode cX0_multiply 146 = .ok (.getfield 31, 3) := by decide +kernel
theorem dX0_multiply_149 : decode cX0_multiply 149 = .ok (.aload_n 0, 1) := by decide +kernel
theorem dX0_multiply_150 : decode cX0_multiply 150 = .ok (.getfield 34, 3) := by decide +kernel
theorem dX0_multiply_153 : decode cX0_multiply 153 = .ok (.aload 4, 2) := by decide +kernel
theorem dX0_multiply_155 : decode cX0_multiply 155 = .ok (.invokevirtual 158, 3) := by decide +kernel
theorem dX0_multiply_158 : decode cX0_multiply 158 = .ok (.ireturn, 1) := by decide +kernel
theorem dX0_setWide_0 : decode cX0_setWide 0 = .ok (.aload_n 2, 1) := by decide +kernel
theorem dX0_setWide_1 : decode cX0_setWide 1 = .ok (.invokevirtual 168, 3) := by decide +kernel
theorem dX0_setWide_4 : decode cX0_setWide 4 = .ok (.ifCond .eq 10, 3) := by decide +kernel
theorem dX0_setWide_7 : decode cX0_setWide 7 = .ok (.aload_n 3, 1) := by decide +kernel
theorem dX0_setWide_8 : decode cX0_setWide 8 = .ok (.invokevirtual 168, 3) := by decide +kernel
theorem dX0_setWide_11 : decode cX0_setWide 11 = .ok (.ifCond .ne 5, 3) := by decide +kernel
theorem dX0_setWide_14 : decode cX0_setWide 14 = .ok (.iconst 0, 1) := by decide +kernel
theorem dX0_setWide_15 : decode cX0_setWide 15 = .ok (.ireturn, 1) := by decide +kernel
theorem dX0_setWide_16 : decode cX0_setWide 16 = .ok (.aload 4, 2) := by decide +kernel
theorem dX0_setWide_18 : decode cX0_setWide 18 = .ok (.iload_n 1, 1) := by decide +kernel
theorem dX0_setWide_19 : decode cX0_setWide 19 = .ok (.aload_n 2, 1) := by decide +kernel
theorem dX0_setWide_20 : decode cX0_setWide 20 = .ok (.aload_n 3, 1) := by decide +kernel
theorem dX0_setWide_21 : decode cX0_setWide 21 = .ok (.invokevirtual 171, 3) := by decide +kernel
theorem dX0_setWide_24 : decode cX0_setWide 24 = .ok (.iconst 1, 1) := by decide +kernel
theorem dX0_setWide_25 : decode cX0_setWide 25 = .ok (.ireturn, 1) := by decide +kernel
theorem dX0_order_0 : decode cX0_order 0 = .ok (.aload_n 1, 1) := by decide +kernel
theorem dX0_order_1 : decode cX0_order 1 = .ok (.getfield 147, 3) := by decide +kernel
theorem dX0_order_4 : decode cX0_order 4 = .ok (.aload_n 2, 1) := by decide +kernel
theorem dX0_order_5 : decode cX0_order 5 = .ok (.getfield 147, 3) := by decide +kernel
theorem dX0_order_8 : decode cX0_order 8 = .ok (.if_icmp .eq 16, 3) := by decide +kernel
theorem dX0_order_11 : decode cX0_order 11 = .ok (.aload_n 1, 1) := by decide +kernel
theorem dX0_order_12 : decode cX0_order 12 = .ok (.getfield 147, 3) := by decide +kernel
theorem dX0_order_15 : decode cX0_order 15 = .ok (.ifCond .eq 7, 3) := by decide +kernel
theorem dX0_order_18 : decode cX0_order 18 = .ok (.iconst (-1), 1) := by decide +kernel
theorem dX0_order_19 : decode cX0_order 19 = .ok (.goto 4, 3) := by decide +kernel
theorem dX0_order_22 : decode cX0_order 22 = .ok (.iconst 1, 1) := by decide +kernel
theorem dX0_order_23 : decode cX0_order 23 = .ok (.ireturn, 1) := by decide +kernel
theorem dX0_order_24 : decode cX0_order 24 = .ok (.aload_n 0, 1) := by decide +kernel
theorem dX0_order_25 : decode cX0_order 25 = .ok (.getfield 37, 3) := by decide +kernel
theorem dX0_order_28 : decode cX0_order 28 = .ok (.aload_n 1, 1) := by decide +kernel
theorem dX0_order_29 : decode cX0_order 29 = .ok (.getfield 136, 3) := by decide +kernel
theorem dX0_order_32 : decode cX0_order 32 = .ok (.aload_n 2, 1) := by decide +kernel
theorem dX0_order_33 : decode cX0_order 33 = .ok (.getfield 144, 3) := by decide +kernel
theorem dX0_order_36 : decode cX0_order 36 = .ok (.invokevirtual 151, 3) := by decide +kernel
theorem dX0_order_39 : decode cX0_order 39 = .ok (.aload_n 0, 1) := by decide +kernel
theorem dX0_order_40 : decode cX0_order 40 = .ok (.getfield 40, 3) := by decide +kernel
theorem dX0_order_43 : decode cX0_order 43 = .ok (.aload_n 2, 1) := by decide +kernel
theorem dX0_order_44 : decode cX0_order 44 = .ok (.getfield 136, 3) := by decide +kernel
theorem dX0_order_47 : decode cX0_order 47 = .ok (.aload_n 1, 1) := by decide +kernel
theorem dX0_order_48 : decode cX0_order 48 = .ok (.getfield 144, 3) := by decide +kernel
theorem dX0_order_51 : decode cX0_order 51 = .ok (.invokevirtual 151, 3) := by decide +kernel
theorem dX0_order_54 : decode cX0_order 54 = .ok (.aload_n 1, 1) := by decide +kernel
theorem dX0_order_55 : decode cX0_order 55 = .ok (.getfield 147, 3) := by decide +kernel
theorem dX0_order_58 : decode cX0_order 58 = .ok (.ifCond .eq 17, 3) := by decide +kernel
theorem dX0_order_61 : decode cX0_order 61 = .ok (.aload_n 0, 1) := by decide +kernel
theorem dX0_order_62 : decode cX0_order 62 = .ok (.getfield 40, 3) := by decide +kernel
theorem dX0_order_65 : decode cX0_order 65 = .ok (.aload_n 0, 1) := by decide +kernel
theorem dX0_order_66 : decode cX0_order 66 = .ok (.getfield 37, 3) := by decide +kernel
theorem dX0_order_69 : decode cX0_order 69 = .ok (.invokevirtual 57, 3) := by decide +kernel
theorem dX0_order_72 : decode cX0_order 72 = .ok (.goto 14, 3) := by decide +kernel
theorem dX0_order_75 : decode cX0_order 75 = .ok (.aload_n 0, 1) := by decide +kernel
theorem dX0_order_76 : decode cX0_order 76 = .ok (.getfield 37, 3) := by decide +kernel
theorem dX0_order_79 : decode cX0_order 79 = .ok (.aload_n 0, 1) := by decide +kernel
theorem dX0_order_80 : decode cX0_order 80 = .ok (.getfield 40, 3) := by decide +kernel
theorem dX0_order_83 : decode cX0_order 83 = .ok (.invokevirtual 57, 3) := by decide +kernel
theorem dX0_order_86 : decode cX0_order 86 = .ok (.ireturn, 1) := by decide +kernel
theorem dX1_init_0 : decode cX1_init 0 = .ok (.aload_n 0, 1) := by decide +kernel
theorem dX1_init_1 : decode cX1_init 1 = .ok (.invokespecial 1, 3) := by decide +kernel
theorem dX1_init_4 : decode cX1_init 4 = .ok (.aload_n 0, 1) := by decide +kernel
theorem dX1_init_5 : decode cX1_init 5 = .ok (.new 7, 3) := by decide +kernel
theorem dX1_init_8 : decode cX1_init 8 = .ok (.dup, 1) := by decide +kernel
theorem dX1_init_9 : decode cX1_init 9 = .ok (.invokespecial 9, 3) := by decide +kernel
theorem dX1_init_12 : decode cX1_init 12 = .ok (.putfield 10, 3) := by decide +kernel
theorem dX1_init_15 : decode cX1_init 15 = .ok (.aload_n 0, 1) := by decide +kernel
theorem dX1_init_16 : decode cX1_init 16 = .ok (.iload_n 1, 1) := by decide +kernel
theorem dX1_init_17 : decode cX1_init 17 = .ok (.putfield 16, 3) := by decide +kernel
theorem dX1_init_20 : decode cX1_init 20 = .ok (.aload_n 0, 1) := by decide +kernel
theorem dX1_init_21 : decode cX1_init 21 = .ok (.aload_n 2, 1) := by decide +kernel
theorem dX1_init_22 : decode cX1_init 22 = .ok (.putfield 20, 3) := by decide +kernel
theorem dX1_init_25 : decode cX1_init 25 = .ok (.aload_n 0, 1) := by decide +kernel
theorem dX1_init_26 : decode cX1_init 26 = .ok (.iload_n 1, 1) := by decide +kernel
theorem dX1_init_27 : decode cX1_init 27 = .ok (.newarray .int, 2) := by decide +kernel
theorem dX1_init_29 : decode cX1_init 29 = .ok (.putfield 24, 3) := by decide +kernel
theorem dX1_init_32 : decode cX1_init 32 = .ok (.return_, 1) := by decide +kernel
theorem dX1_multiplyPivots_0 : decode cX1_multiplyPivots 0 = .ok (.aload_n 2, 1) := by decide +kernel
theorem dX1_multiplyPivots_1 : decode cX1_multiplyPivots 1 = .ok (.invokevirtual 28, 3) := by decide +kernel
theorem dX1_multiplyPivots_4 : decode cX1_multiplyPivots 4 = .ok (.aload_n 1, 1) := by decide +kernel
theorem dX1_multiplyPivots_5 : decode cX1_multiplyPivots 5 = .ok (.getfield 31, 3) := by decide +kernel
theorem dX1_multiplyPivots_8 : decode cX1_multiplyPivots 8 = .ok (.aload_n 0, 1) := by decide +kernel
theorem dX1_multiplyPivots_9 : decode cX1_multiplyPivots 9 = .ok (.getfield 16, 3) := by decide +kernel
theorem dX1_multiplyPivots_12 : decode cX1_multiplyPivots 12 = .ok (.if_icmp .ge 5, 3) := by decide +kernel
theorem dX1_multiplyPivots_15 : decode cX1_multiplyPivots 15 = .ok (.iconst 1, 1) := by decide +kernel
theorem dX1_multiplyPivots_16 : decode cX1_multiplyPivots 16 = .ok (.ireturn, 1) := by decide +kernel
theorem dX1_multiplyPivots_17 : decode cX1_multiplyPivots 17 = .ok (.aload_n 2, 1) := by decide +kernel
theorem dX1_multiplyPivots_18 : decode cX1_multiplyPivots 18 = .ok (.aload_n 1, 1) := by decide +kernel
theorem dX1_multiplyPivots_19 : decode cX1_multiplyPivots 19 = .ok (.iconst 0, 1) := by decide +kernel
theorem dX1_multiplyPivots_20 : decode cX1_multiplyPivots 20 = .ok (.invokevirtual 36, 3) := by decide +kernel
theorem dX1_multiplyPivots_23 : decode cX1_multiplyPivots 23 = .ok (.invokevirtual 40, 3) := by decide +kernel
theorem dX1_multiplyPivots_26 : decode cX1_multiplyPivots 26 = .ok (.iconst 1, 1) := by decide +kernel
theorem dX1_multiplyPivots_27 : decode cX1_multiplyPivots 27 = .ok (.istore_n 3, 1) := by decide +kernel
theorem dX1_multiplyPivots_28 : decode cX1_multiplyPivots 28 = .ok (.iload_n 3, 1) := by decide +kernel
theorem dX1_multiplyPivots_29 : decode cX1_multiplyPivots 29 = .ok (.aload_n 0, 1) := by decide +kernel
theorem dX1_multiplyPivots_30 : decode cX1_multiplyPivots 30 = .ok (.getfield 16, 3) := by decide +kernel
theorem dX1_multiplyPivots_33 : decode cX1_multiplyPivots 33 = .ok (.if_icmp .ge 29, 3) := by decide +kernel
theorem dX1_multiplyPivots_36 : decode cX1_multiplyPivots 36 = .ok (.aload_n 0, 1) := by decide +kernel
theorem dX1_multiplyPivots_37 : decode cX1_multiplyPivots 37 = .ok (.getfield 20, 3) := by decide +kernel
theorem dX1_multiplyPivots_40 : decode cX1_multiplyPivots 40 = .ok (.aload_n 2, 1) := by decide +kernel
theorem dX1_multiplyPivots_41 : decode cX1_multiplyPivots 41 = .ok (.aload_n 1, 1) := by decide +kernel
theorem dX1_multiplyPivots_42 : decode cX1_multiplyPivots 42 = .ok (.iload_n 3, 1) := by decide +kernel
theorem dX1_multiplyPivots_43 : decode cX1_multiplyPivots 43 = .ok (.invokevirtual 36, 3) := by decide +kernel
theorem dX1_multiplyPivots_46 : decode cX1_multiplyPivots 46 = .ok (.iconst 0, 1) := by decide +kernel
theorem dX1_multiplyPivots_47 : decode cX1_multiplyPivots 47 = .ok (.aload_n 2, 1) := by decide +kernel
theorem dX1_multiplyPivots_48 : decode cX1_multiplyPivots 48 = .ok (.invokevirtual 44, 3) := by decide +kernel
theorem dX1_multiplyPivots_51 : decode cX1_multiplyPivots 51 = .ok (.ifCond .ne 5, 3) := by decide +kernel
theorem dX1_multiplyPivots_54 : decode cX1_multiplyPivots 54 = .ok (.iconst 0, 1) := by decide +kernel
theorem dX1_multiplyPivots_55 : decode cX1_multiplyPivots 55 = .ok (.ireturn, 1) := by decide +kernel
theorem dX1_multiplyPivots_56 : decode cX1_multiplyPivots 56 = .ok (.iinc 3 1, 3) := by decide +kernel
theorem dX1_multiplyPivots_59 : decode cX1_multiplyPivots 59 = .ok (.goto (-31), 3) := by decide +kernel
theorem dX1_multiplyPivots_62 : decode cX1_multiplyPivots 62 = .ok (.aload_n 1, 1) := by decide +kernel
theorem dX1_multiplyPivots_63 : decode cX1_multiplyPivots 63 = .ok (.getfield 50, 3) := by decide +kernel
theorem dX1_multiplyPivots_66 : decode cX1_multiplyPivots 66 = .ok (.ifCond .eq 7, 3) := by decide +kernel
theorem dX1_multiplyPivots_69 : decode cX1_multiplyPivots 69 = .ok (.aload_n 2, 1) := by decide +kernel
theorem dX1_multiplyPivots_70 : decode cX1_multiplyPivots 70 = .ok (.invokevirtual 54, 3) := by decide +kernel
theorem dX1_multiplyPivots_73 : decode cX1_multiplyPivots 73 = .ok (.iconst 1, 1) := by decide +kernel
theorem dX1_multiplyPivots_74 : decode cX1_multiplyPivots 74 = .ok (.ireturn, 1) := by decide +kernel
theorem dX1_addOrders_0 : decode cX1_addOrders 0 = .ok (.aload_n 2, 1) := by decide +kernel
theorem dX1_addOrders_1 : decode cX1_addOrders 1 = .ok (.invokevirtual 28, 3) := by decide +kernel
theorem dX1_addOrders_4 : decode cX1_addOrders 4 = .ok (.iconst 0, 1) := by decide +kernel
theorem dX1_addOrders_5 : decode cX1_addOrders 5 = .ok (.istore_n 3, 1) := by decide +kernel
theorem dX1_addOrders_6 : decode cX1_addOrders 6 = .ok (.iload_n 3, 1) := by decide +kernel
theorem dX1_addOrders_7 : decode cX1_addOrders 7 = .ok (.aload_n 0, 1) := by decide +kernel
theorem dX1_addOrders_8 : decode cX1_addOrders 8 = .ok (.getfield 16, 3) := by decide +kernel
theorem dX1_addOrders_11 : decode cX1_addOrders 11 = .ok (.if_icmp .ge 16, 3) := by decide +kernel
theorem dX1_addOrders_14 : decode cX1_addOrders 14 = .ok (.aload_n 0, 1) := by decide +kernel
theorem dX1_addOrders_15 : decode cX1_addOrders 15 = .ok (.getfield 24, 3) := by decide +kernel
theorem dX1_addOrders_18 : decode cX1_addOrders 18 = .ok (.iload_n 3, 1) := by decide +kernel
theorem dX1_addOrders_19 : decode cX1_addOrders 19 = .ok (.iload_n 3, 1) := by decide +kernel
theorem dX1_addOrders_20 : decode cX1_addOrders 20 = .ok (.iastore, 1) := by decide +kernel
theorem dX1_addOrders_21 : decode cX1_addOrders 21 = .ok (.iinc 3 1, 3) := by decide +kernel
theorem dX1_addOrders_24 : decode cX1_addOrders 24 = .ok (.goto (-18), 3) := by decide +kernel
theorem dX1_addOrders_27 : decode cX1_addOrders 27 = .ok (.iconst 0, 1) := by decide +kernel
theorem dX1_addOrders_28 : decode cX1_addOrders 28 = .ok (.istore_n 3, 1) := by decide +kernel
theorem dX1_addOrders_29 : decode cX1_addOrders 29 = .ok (.iload_n 3, 1) := by decide +kernel
theorem dX1_addOrders_30 : decode cX1_addOrders 30 = .ok (.bipush 120, 2) := by decide +kernel
theorem dX1_addOrders_32 : decode cX1_addOrders 32 = .ok (.if_icmp .ge 37, 3) := by decide +kernel
theorem dX1_addOrders_35 : decode cX1_addOrders 35 = .ok (.aload_n 0, 1) := by decide +kernel
theorem dX1_addOrders_36 : decode cX1_addOrders 36 = .ok (.aload_n 1, 1) := by decide +kernel
theorem dX1_addOrders_37 : decode cX1_addOrders 37 = .ok (.invokevirtual 57, 3) := by decide +kernel
theorem dX1_addOrders_40 : decode cX1_addOrders 40 = .ok (.ifCond .ne 14, 3) := by decide +kernel
theorem dX1_addOrders_43 : decode cX1_addOrders 43 = .ok (.aload_n 0, 1) := by decide +kernel
theorem dX1_addOrders_44 : decode cX1_addOrders 44 = .ok (.aload_n 1, 1) := by decide +kernel
theorem dX1_addOrders_45 : decode cX1_addOrders 45 = .ok (.aload_n 2, 1) := by decide +kernel
theorem dX1_addOrders_46 : decode cX1_addOrders 46 = .ok (.invokevirtual 61, 3) := by decide +kernel
theorem dX1_addOrders_49 : decode cX1_addOrders 49 = .ok (.ifCond .ne 5, 3) := by decide +kernel
theorem dX1_addOrders_52 : decode cX1_addOrders 52 = .ok (.iconst 0, 1) := by decide +kernel
theorem dX1_addOrders_53 : decode cX1_addOrders 53 = .ok (.ireturn, 1) := by decide +kernel
theorem dX1_addOrders_54 : decode cX1_addOrders 54 = .ok (.aload_n 0, 1) := by decide +kernel
theorem dX1_addOrders_55 : decode cX1_addOrders 55 = .ok (.invokevirtual 65, 3) := by decide +kernel
theorem dX1_addOrders_58 : decode cX1_addOrders 58 = .ok (.ifCond .ne 5, 3) := by decide +kernel
theorem dX1_addOrders_61 : decode cX1_addOrders 61 = .ok (.iconst 1, 1) := by decide +kernel
theorem dX1_addOrders_62 : decode cX1_addOrders 62 = .ok (.ireturn, 1) := by decide +kernel
theorem dX1_addOrders_63 : decode cX1_addOrders 63 = .ok (.iinc 3 1, 3) := by decide +kernel
theorem dX1_addOrders_66 : decode cX1_addOrders 66 = .ok (.goto (-37), 3) := by decide +kernel
theorem dX1_addOrders_69 : decode cX1_addOrders 69 = .ok (.iconst 1, 1) := by decide +kernel
theorem dX1_addOrders_70 : decode cX1_addOrders 70 = .ok (.ireturn, 1) := by decide +kernel
theorem dX1_inRow_0 : decode cX1_inRow 0 = .ok (.aload_n 1, 1) := by decide +kernel
theorem dX1_inRow_1 : decode cX1_inRow 1 = .ok (.iload_n 2, 1) := by decide +kernel
theorem dX1_inRow_2 : decode cX1_inRow 2 = .ok (.aload_n 0, 1) := by decide +kernel
theorem dX1_inRow_3 : decode cX1_inRow 3 = .ok (.getfield 16, 3) := by decide +kernel
theorem dX1_inRow_6 : decode cX1_inRow 6 = .ok (.iconst 1, 1) := by decide +kernel
theorem dX1_inRow_7 : decode cX1_inRow 7 = .ok (.iadd, 1) := by decide +kernel
theorem dX1_inRow_8 : decode cX1_inRow 8 = .ok (.imul, 1) := by decide +kernel
theorem dX1_inRow_9 : decode cX1_inRow 9 = .ok (.aload_n 0, 1) := by decide +kernel
theorem dX1_inRow_10 : decode cX1_inRow 10 = .ok (.getfield 24, 3) := by decide +kernel
theorem dX1_inRow_13 : decode cX1_inRow 13 = .ok (.iload_n 2, 1) := by decide +kernel
theorem dX1_inRow_14 : decode cX1_inRow 14 = .ok (.iaload, 1) := by decide +kernel
theorem dX1_inRow_15 : decode cX1_inRow 15 = .ok (.iadd, 1) := by decide +kernel
theorem dX1_inRow_16 : decode cX1_inRow 16 = .ok (.aaload, 1) := by decide +kernel
theorem dX1_inRow_17 : decode cX1_inRow 17 = .ok (.areturn, 1) := by decide +kernel
theorem dX1_meetsZero_0 : decode cX1_meetsZero 0 = .ok (.iconst 0, 1) := by decide +kernel
theorem dX1_meetsZero_1 : decode cX1_meetsZero 1 = .ok (.istore_n 2, 1) := by decide +kernel
theorem dX1_meetsZero_2 : decode cX1_meetsZero 2 = .ok (.iload_n 2, 1) := by decide +kernel
theorem dX1_meetsZero_3 : decode cX1_meetsZero 3 = .ok (.aload_n 0, 1) := by decide +kernel
theorem dX1_meetsZero_4 : decode cX1_meetsZero 4 = .ok (.getfield 16, 3) := by decide +kernel
theorem dX1_meetsZero_7 : decode cX1_meetsZero 7 = .ok (.if_icmp .ge 23, 3) := by decide +kernel
theorem dX1_meetsZero_10 : decode cX1_meetsZero 10 = .ok (.aload_n 0, 1) := by decide +kernel
theorem dX1_meetsZero_11 : decode cX1_meetsZero 11 = .ok (.aload_n 1, 1) := by decide +kernel
theorem dX1_meetsZero_12 : decode cX1_meetsZero 12 = .ok (.iload_n 2, 1) := by decide +kernel
theorem dX1_meetsZero_13 : decode cX1_meetsZero 13 = .ok (.invokevirtual 69, 3) := by decide +kernel
theorem dX1_meetsZero_16 : decode cX1_meetsZero 16 = .ok (.invokevirtual 73, 3) := by decide +kernel
theorem dX1_meetsZero_19 : decode cX1_meetsZero 19 = .ok (.ifCond .eq 5, 3) := by decide +kernel
theorem dX1_meetsZero_22 : decode cX1_meetsZero 22 = .ok (.iconst 1, 1) := by decide +kernel
theorem dX1_meetsZero_23 : decode cX1_meetsZero 23 = .ok (.ireturn, 1) := by decide +kernel
theorem dX1_meetsZero_24 : decode cX1_meetsZero 24 = .ok (.iinc 2 1, 3) := by decide +kernel
theorem dX1_meetsZero_27 : decode cX1_meetsZero 27 = .ok (.goto (-25), 3) := by decide +kernel
theorem dX1_meetsZero_30 : decode cX1_meetsZero 30 = .ok (.iconst 0, 1) := by decide +kernel
theorem dX1_meetsZero_31 : decode cX1_meetsZero 31 = .ok (.ireturn, 1) := by decide +kernel
theorem dX1_addOrder_0 : decode cX1_addOrder 0 = .ok (.aload_n 0, 1) := by decide +kernel
theorem dX1_addOrder_1 : decode cX1_addOrder 1 = .ok (.getfield 10, 3) := by decide +kernel
theorem dX1_addOrder_4 : decode cX1_addOrder 4 = .ok (.aload_n 0, 1) := by decide +kernel
theorem dX1_addOrder_5 : decode cX1_addOrder 5 = .ok (.aload_n 1, 1) := by decide +kernel
theorem dX1_addOrder_6 : decode cX1_addOrder 6 = .ok (.iconst 0, 1) := by decide +kernel
theorem dX1_addOrder_7 : decode cX1_addOrder 7 = .ok (.invokevirtual 69, 3) := by decide +kernel
theorem dX1_addOrder_10 : decode cX1_addOrder 10 = .ok (.invokevirtual 40, 3) := by decide +kernel
theorem dX1_addOrder_13 : decode cX1_addOrder 13 = .ok (.iconst 1, 1) := by decide +kernel
theorem dX1_addOrder_14 : decode cX1_addOrder 14 = .ok (.istore_n 3, 1) := by decide +kernel
theorem dX1_addOrder_15 : decode cX1_addOrder 15 = .ok (.iload_n 3, 1) := by decide +kernel
theorem dX1_addOrder_16 : decode cX1_addOrder 16 = .ok (.aload_n 0, 1) := by decide +kernel
theorem dX1_addOrder_17 : decode cX1_addOrder 17 = .ok (.getfield 16, 3) := by decide +kernel
theorem dX1_addOrder_20 : decode cX1_addOrder 20 = .ok (.if_icmp .ge 36, 3) := by decide +kernel
theorem dX1_addOrder_23 : decode cX1_addOrder 23 = .ok (.aload_n 0, 1) := by decide +kernel
theorem dX1_addOrder_24 : decode cX1_addOrder 24 = .ok (.getfield 20, 3) := by decide +kernel
theorem dX1_addOrder_27 : decode cX1_addOrder 27 = .ok (.aload_n 0, 1) := by decide +kernel
theorem dX1_addOrder_28 : decode cX1_addOrder 28 = .ok (.getfield 10, 3) := by decide +kernel
theorem dX1_addOrder_31 : decode cX1_addOrder 31 = .ok (.aload_n 0, 1) := by decide +kernel
theorem dX1_addOrder_32 : decode cX1_addOrder 32 = .ok (.aload_n 1, 1) := by decide +kernel
theorem dX1_addOrder_33 : decode cX1_addOrder 33 = .ok (.iload_n 3, 1) := by decide +kernel
theorem dX1_addOrder_34 : decode cX1_addOrder 34 = .ok (.invokevirtual 69, 3) := by decide +kernel
theorem dX1_addOrder_37 : decode cX1_addOrder 37 = .ok (.iconst 0, 1) := by decide +kernel
theorem dX1_addOrder_38 : decode cX1_addOrder 38 = .ok (.aload_n 0, 1) := by decide +kernel
theorem dX1_addOrder_39 : decode cX1_addOrder 39 = .ok (.getfield 10, 3) := by decide +kernel
theorem dX1_addOrder_42 : decode cX1_addOrder 42 = .ok (.invokevirtual 44, 3) := by decide +kernel
theorem dX1_addOrder_45 : decode cX1_addOrder 45 = .ok (.ifCond .ne 5, 3) := by decide +kernel
theorem dX1_addOrder_48 : decode cX1_addOrder 48 = .ok (.iconst 0, 1) := by decide +kernel
theorem dX1_addOrder_49 : decode cX1_addOrder 49 = .ok (.ireturn, 1) := by decide +kernel
theorem dX1_addOrder_50 : decode cX1_addOrder 50 = .ok (.iinc 3 1, 3) := by decide +kernel
theorem dX1_addOrder_53 : decode cX1_addOrder 53 = .ok (.goto (-38), 3) := by decide +kernel
theorem dX1_addOrder_56 : decode cX1_addOrder 56 = .ok (.aload_n 0, 1) := by decide +kernel
theorem dX1_addOrder_57 : decode cX1_addOrder 57 = .ok (.getfield 20, 3) := by decide +kernel
theorem dX1_addOrder_60 : decode cX1_addOrder 60 = .ok (.aload_n 2, 1) := by decide +kernel
theorem dX1_addOrder_61 : decode cX1_addOrder 61 = .ok (.aload_n 0, 1) := by decide +kernel
theorem dX1_addOrder_62 : decode cX1_addOrder 62 = .ok (.getfield 10, 3) := by decide +kernel
theorem dX1_addOrder_65 : decode cX1_addOrder 65 = .ok (.aload_n 0, 1) := by decide +kernel
theorem dX1_addOrder_66 : decode cX1_addOrder 66 = .ok (.invokevirtual 76, 3) := by decide +kernel
theorem dX1_addOrder_69 : decode cX1_addOrder 69 = .ok (.aload_n 2, 1) := by decide +kernel
theorem dX1_addOrder_70 : decode cX1_addOrder 70 = .ok (.invokevirtual 79, 3) := by decide +kernel
theorem dX1_addOrder_73 : decode cX1_addOrder 73 = .ok (.ireturn, 1) := by decide +kernel
theorem dX1_fallsOddly_0 : decode cX1_fallsOddly 0 = .ok (.iconst 0, 1) := by decide +kernel
theorem dX1_fallsOddly_1 : decode cX1_fallsOddly 1 = .ok (.istore_n 1, 1) := by decide +kernel
theorem dX1_fallsOddly_2 : decode cX1_fallsOddly 2 = .ok (.iconst 0, 1) := by decide +kernel
theorem dX1_fallsOddly_3 : decode cX1_fallsOddly 3 = .ok (.istore_n 2, 1) := by decide +kernel
theorem dX1_fallsOddly_4 : decode cX1_fallsOddly 4 = .ok (.iload_n 2, 1) := by decide +kernel
theorem dX1_fallsOddly_5 : decode cX1_fallsOddly 5 = .ok (.aload_n 0, 1) := by decide +kernel
theorem dX1_fallsOddly_6 : decode cX1_fallsOddly 6 = .ok (.getfield 16, 3) := by decide +kernel
theorem dX1_fallsOddly_9 : decode cX1_fallsOddly 9 = .ok (.if_icmp .ge 52, 3) := by decide +kernel
theorem dX1_fallsOddly_12 : decode cX1_fallsOddly 12 = .ok (.iload_n 2, 1) := by decide +kernel
theorem dX1_fallsOddly_13 : decode cX1_fallsOddly 13 = .ok (.iconst 1, 1) := by decide +kernel
theorem dX1_fallsOddly_14 : decode cX1_fallsOddly 14 = .ok (.iadd, 1) := by decide +kernel
theorem dX1_fallsOddly_15 : decode cX1_fallsOddly 15 = .ok (.istore_n 3, 1) := by decide +kernel
theorem dX1_fallsOddly_16 : decode cX1_fallsOddly 16 = .ok (.iload_n 3, 1) := by decide +kernel
theorem dX1_fallsOddly_17 : decode cX1_fallsOddly 17 = .ok (.aload_n 0, 1) := by decide +kernel
theorem dX1_fallsOddly_18 : decode cX1_fallsOddly 18 = .ok (.getfield 16, 3) := by decide +kernel
theorem dX1_fallsOddly_21 : decode cX1_fallsOddly 21 = .ok (.if_icmp .ge 34, 3) := by decide +kernel
theorem dX1_fallsOddly_24 : decode cX1_fallsOddly 24 = .ok (.aload_n 0, 1) := by decide +kernel
theorem dX1_fallsOddly_25 : decode cX1_fallsOddly 25 = .ok (.getfield 24, 3) := by decide +kernel
theorem dX1_fallsOddly_28 : decode cX1_fallsOddly 28 = .ok (.iload_n 2, 1) := by decide +kernel
theorem dX1_fallsOddly_29 : decode cX1_fallsOddly 29 = .ok (.iaload, 1) := by decide +kernel
theorem dX1_fallsOddly_30 : decode cX1_fallsOddly 30 = .ok (.aload_n 0, 1) := by decide +kernel
theorem dX1_fallsOddly_31 : decode cX1_fallsOddly 31 = .ok (.getfield 24, 3) := by decide +kernel
theorem dX1_fallsOddly_34 : decode cX1_fallsOddly 34 = .ok (.iload_n 3, 1) := by decide +kernel
theorem dX1_fallsOddly_35 : decode cX1_fallsOddly 35 = .ok (.iaload, 1) := by decide +kernel
theorem dX1_fallsOddly_36 : decode cX1_fallsOddly 36 = .ok (.if_icmp .le 13, 3) := by decide +kernel
theorem dX1_fallsOddly_39 : decode cX1_fallsOddly 39 = .ok (.iload_n 1, 1) := by decide +kernel
theorem dX1_fallsOddly_40 : decode cX1_fallsOddly 40 = .ok (.ifCond .ne 7, 3) := by decide +kernel
theorem dX1_fallsOddly_43 : decode cX1_fallsOddly 43 = .ok (.iconst 1, 1) := by decide +kernel
theorem dX1_fallsOddly_44 : decode cX1_fallsOddly 44 = .ok (.goto 4, 3) := by decide +kernel
theorem dX1_fallsOddly_47 : decode cX1_fallsOddly 47 = .ok (.iconst 0, 1) := by decide +kernel
theorem dX1_fallsOddly_48 : decode cX1_fallsOddly 48 = .ok (.istore_n 1, 1) := by decide +kernel
theorem dX1_fallsOddly_49 : decode cX1_fallsOddly 49 = .ok (.iinc 3 1, 3) := by decide +kernel
theorem dX1_fallsOddly_52 : decode cX1_fallsOddly 52 = .ok (.goto (-36), 3) := by decide +kernel
theorem dX1_fallsOddly_55 : decode cX1_fallsOddly 55 = .ok (.iinc 2 1, 3) := by decide +kernel
theorem dX1_fallsOddly_58 : decode cX1_fallsOddly 58 = .ok (.goto (-54), 3) := by decide +kernel
theorem dX1_fallsOddly_61 : decode cX1_fallsOddly 61 = .ok (.iload_n 1, 1) := by decide +kernel
theorem dX1_fallsOddly_62 : decode cX1_fallsOddly 62 = .ok (.ireturn, 1) := by decide +kernel
theorem dX1_goOn_0 : decode cX1_goOn 0 = .ok (.aload_n 0, 1) := by decide +kernel
theorem dX1_goOn_1 : decode cX1_goOn 1 = .ok (.getfield 16, 3) := by decide +kernel
theorem dX1_goOn_4 : decode cX1_goOn 4 = .ok (.iconst 2, 1) := by decide +kernel
theorem dX1_goOn_5 : decode cX1_goOn 5 = .ok (.isub, 1) := by decide +kernel
theorem dX1_goOn_6 : decode cX1_goOn 6 = .ok (.istore_n 1, 1) := by decide +kernel
theorem dX1_goOn_7 : decode cX1_goOn 7 = .ok (.iload_n 1, 1) := by decide +kernel
theorem dX1_goOn_8 : decode cX1_goOn 8 = .ok (.ifCond .lt 26, 3) := by decide +kernel
theorem dX1_goOn_11 : decode cX1_goOn 11 = .ok (.aload_n 0, 1) := by decide +kernel
theorem dX1_goOn_12 : decode cX1_goOn 12 = .ok (.getfield 24, 3) := by decide +kernel
theorem dX1_goOn_15 : decode cX1_goOn 15 = .ok (.iload_n 1, 1) := by decide +kernel
theorem dX1_goOn_16 : decode cX1_goOn 16 = .ok (.iaload, 1) := by decide +kernel
theorem dX1_goOn_17 : decode cX1_goOn 17 = .ok (.aload_n 0, 1) := by decide +kernel
theorem dX1_goOn_18 : decode cX1_goOn 18 = .ok (.getfield 24, 3) := by decide +kernel
theorem dX1_goOn_21 : decode cX1_goOn 21 = .ok (.iload_n 1, 1) := by decide +kernel
theorem dX1_goOn_22 : decode cX1_goOn 22 = .ok (.iconst 1, 1) := by decide +kernel
theorem dX1_goOn_23 : decode cX1_goOn 23 = .ok (.iadd, 1) := by decide +kernel
theorem dX1_goOn_24 : decode cX1_goOn 24 = .ok (.iaload, 1) := by decide +kernel
theorem dX1_goOn_25 : decode cX1_goOn 25 = .ok (.if_icmp .le 9, 3) := by decide +kernel
theorem dX1_goOn_28 : decode cX1_goOn 28 = .ok (.iinc 1 (-1), 3) := by decide +kernel
theorem dX1_goOn_31 : decode cX1_goOn 31 = .ok (.goto (-24), 3) := by decide +kernel
theorem dX1_goOn_34 : decode cX1_goOn 34 = .ok (.iload_n 1, 1) := by decide +kernel
theorem dX1_goOn_35 : decode cX1_goOn 35 = .ok (.ifCond .ge 5, 3) := by decide +kernel
theorem dX1_goOn_38 : decode cX1_goOn 38 = .ok (.iconst 0, 1) := by decide +kernel
theorem dX1_goOn_39 : decode cX1_goOn 39 = .ok (.ireturn, 1) := by decide +kernel
theorem dX1_goOn_40 : decode cX1_goOn 40 = .ok (.aload_n 0, 1) := by decide +kernel
theorem dX1_goOn_41 : decode cX1_goOn 41 = .ok (.getfield 16, 3) := by decide +kernel
theorem dX1_goOn_44 : decode cX1_goOn 44 = .ok (.iconst 1, 1) := by decide +kernel
theorem dX1_goOn_45 : decode cX1_goOn 45 = .ok (.isub, 1) := by decide +kernel
theorem dX1_goOn_46 : decode cX1_goOn 46 = .ok (.istore_n 2, 1) := by decide +kernel
theorem dX1_goOn_47 : decode cX1_goOn 47 = .ok (.iload_n 2, 1) := by decide +kernel
theorem dX1_goOn_48 : decode cX1_goOn 48 = .ok (.iload_n 1, 1) := by decide +kernel
theorem dX1_goOn_49 : decode cX1_goOn 49 = .ok (.iconst 1, 1) := by decide +kernel
theorem dX1_goOn_50 : decode cX1_goOn 50 = .ok (.iadd, 1) := by decide +kernel
theorem dX1_goOn_51 : decode cX1_goOn 51 = .ok (.if_icmp .le 24, 3) := by decide +kernel
theorem dX1_goOn_54 : decode cX1_goOn 54 = .ok (.aload_n 0, 1) := by decide +kernel
theorem dX1_goOn_55 : decode cX1_goOn 55 = .ok (.getfield 24, 3) := by decide +kernel
theorem dX1_goOn_58 : decode cX1_goOn 58 = .ok (.iload_n 2, 1) := by decide +kernel
theorem dX1_goOn_59 : decode cX1_goOn 59 = .ok (.iaload, 1) := by decide +kernel
theorem dX1_goOn_60 : decode cX1_goOn 60 = .ok (.aload_n 0, 1) := by decide +kernel
theorem dX1_goOn_61 : decode cX1_goOn 61 = .ok (.getfield 24, 3) := by decide +kernel
theorem dX1_goOn_64 : decode cX1_goOn 64 = .ok (.iload_n 1, 1) := by decide +kernel
theorem dX1_goOn_65 : decode cX1_goOn 65 = .ok (.iaload, 1) := by decide +kernel
theorem dX1_goOn_66 : decode cX1_goOn 66 = .ok (.if_icmp .ge 9, 3) := by decide +kernel
theorem dX1_goOn_69 : decode cX1_goOn 69 = .ok (.iinc 2 (-1), 3) := by decide +kernel
theorem dX1_goOn_72 : decode cX1_goOn 72 = .ok (.goto (-25), 3) := by decide +kernel
theorem dX1_goOn_75 : decode cX1_goOn 75 = .ok (.aload_n 0, 1) := by decide +kernel
theorem dX1_goOn_76 : decode cX1_goOn 76 = .ok (.iload_n 1, 1) := by decide +kernel
theorem dX1_goOn_77 : decode cX1_goOn 77 = .ok (.iload_n 2, 1) := by decide +kernel
theorem dX1_goOn_78 : decode cX1_goOn 78 = .ok (.invokevirtual 82, 3) := by decide +kernel
theorem dX1_goOn_81 : decode cX1_goOn 81 = .ok (.iload_n 1, 1) := by decide +kernel
theorem dX1_goOn_82 : decode cX1_goOn 82 = .ok (.iconst 1, 1) := by decide +kernel
theorem dX1_goOn_83 : decode cX1_goOn 83 = .ok (.iadd, 1) := by decide +kernel
theorem dX1_goOn_84 : decode cX1_goOn 84 = .ok (.istore_n 3, 1) := by decide +kernel
theorem dX1_goOn_85 : decode cX1_goOn 85 = .ok (.aload_n 0, 1) := by decide +kernel
theorem dX1_goOn_86 : decode cX1_goOn 86 = .ok (.getfield 16, 3) := by decide +kernel
theorem dX1_goOn_89 : decode cX1_goOn 89 = .ok (.iconst 1, 1) := by decide +kernel
theorem dX1_goOn_90 : decode cX1_goOn 90 = .ok (.isub, 1) := by decide +kernel
theorem dX1_goOn_91 : decode cX1_goOn 91 = .ok (.istore 4, 2) := by decide +kernel
theorem dX1_goOn_93 : decode cX1_goOn 93 = .ok (.iload_n 3, 1) := by decide +kernel
theorem dX1_goOn_94 : decode cX1_goOn 94 = .ok (.iload 4, 2) := by decide +kernel
theorem dX1_goOn_96 : decode cX1_goOn 96 = .ok (.if_icmp .ge 19, 3) := by decide +kernel
theorem dX1_goOn_99 : decode cX1_goOn 99 = .ok (.aload_n 0, 1) := by decide +kernel
theorem dX1_goOn_100 : decode cX1_goOn 100 = .ok (.iload_n 3, 1) := by decide +kernel
theorem dX1_goOn_101 : decode cX1_goOn 101 = .ok (.iload 4, 2) := by decide +kernel
theorem dX1_goOn_103 : decode cX1_goOn 103 = .ok (.invokevirtual 82, 3) := by decide +kernel
theorem dX1_goOn_106 : decode cX1_goOn 106 = .ok (.iinc 3 1, 3) := by decide +kernel
theorem dX1_goOn_109 : decode cX1_goOn 109 = .ok (.iinc 4 (-1), 3) := by decide +kernel
theorem dX1_goOn_112 : decode cX1_goOn 112 = .ok (.goto (-19), 3) := by decide +kernel
theorem dX1_goOn_115 : decode cX1_goOn 115 = .ok (.iconst 1, 1) := by decide +kernel
theorem dX1_goOn_116 : decode cX1_goOn 116 = .ok (.ireturn, 1) := by decide +kernel
theorem dX1_swap_0 : decode cX1_swap 0 = .ok (.aload_n 0, 1) := by decide +kernel
theorem dX1_swap_1 : decode cX1_swap 1 = .ok (.getfield 24, 3) := by decide +kernel
theorem dX1_swap_4 : decode cX1_swap 4 = .ok (.iload_n 1, 1) := by decide +kernel
theorem dX1_swap_5 : decode cX1_swap 5 = .ok (.iaload, 1) := by decide +kernel
theorem dX1_swap_6 : decode cX1_swap 6 = .ok (.istore_n 3, 1) := by decide +kernel
theorem dX1_swap_7 : decode cX1_swap 7 = .ok (.aload_n 0, 1) := by decide +kernel
theorem dX1_swap_8 : decode cX1_swap 8 = .ok (.getfield 24, 3) := by decide +kernel
theorem dX1_swap_11 : decode cX1_swap 11 = .ok (.iload_n 1, 1) := by decide +kernel
theorem dX1_swap_12 : decode cX1_swap 12 = .ok (.aload_n 0, 1) := by decide +kernel
theorem dX1_swap_13 : decode cX1_swap 13 = .ok (.getfield 24, 3) := by decide +kernel
theorem dX1_swap_16 : decode cX1_swap 16 = .ok (.iload_n 2, 1) := by decide +kernel
theorem dX1_swap_17 : decode cX1_swap 17 = .ok (.iaload, 1) := by decide +kernel
theorem dX1_swap_18 : decode cX1_swap 18 = .ok (.iastore, 1) := by decide +kernel
theorem dX1_swap_19 : decode cX1_swap 19 = .ok (.aload_n 0, 1) := by decide +kernel
theorem dX1_swap_20 : decode cX1_swap 20 = .ok (.getfield 24, 3) := by decide +kernel
theorem dX1_swap_23 : decode cX1_swap 23 = .ok (.iload_n 2, 1) := by decide +kernel
theorem dX1_swap_24 : decode cX1_swap 24 = .ok (.iload_n 3, 1) := by decide +kernel
theorem dX1_swap_25 : decode cX1_swap 25 = .ok (.iastore, 1) := by decide +kernel
theorem dX1_swap_26 : decode cX1_swap 26 = .ok (.return_, 1) := by decide +kernel
theorem dX2_init_0 : decode cX2_init 0 = .ok (.aload_n 0, 1) := by decide +kernel
theorem dX2_init_1 : decode cX2_init 1 = .ok (.invokespecial 1, 3) := by decide +kernel
theorem dX2_init_4 : decode cX2_init 4 = .ok (.aload_n 0, 1) := by decide +kernel
theorem dX2_init_5 : decode cX2_init 5 = .ok (.new 7, 3) := by decide +kernel
theorem dX2_init_8 : decode cX2_init 8 = .ok (.dup, 1) := by decide +kernel
theorem dX2_init_9 : decode cX2_init 9 = .ok (.invokespecial 9, 3) := by decide +kernel
theorem dX2_init_12 : decode cX2_init 12 = .ok (.putfield 10, 3) := by decide +kernel
theorem dX2_init_15 : decode cX2_init 15 = .ok (.aload_n 0, 1) := by decide +kernel
theorem dX2_init_16 : decode cX2_init 16 = .ok (.new 7, 3) := by decide +kernel
theorem dX2_init_19 : decode cX2_init 19 = .ok (.dup, 1) := by decide +kernel
theorem dX2_init_20 : decode cX2_init 20 = .ok (.invokespecial 9, 3) := by decide +kernel
theorem dX2_init_23 : decode cX2_init 23 = .ok (.putfield 16, 3) := by decide +kernel
theorem dX2_init_26 : decode cX2_init 26 = .ok (.aload_n 0, 1) := by decide +kernel
theorem dX2_init_27 : decode cX2_init 27 = .ok (.iload_n 1, 1) := by decide +kernel
theorem dX2_init_28 : decode cX2_init 28 = .ok (.putfield 19, 3) := by decide +kernel
theorem dX2_init_31 : decode cX2_init 31 = .ok (.aload_n 0, 1) := by decide +kernel
theorem dX2_init_32 : decode cX2_init 32 = .ok (.aload_n 2, 1) := by decide +kernel
theorem dX2_init_33 : decode cX2_init 33 = .ok (.putfield 23, 3) := by decide +kernel
theorem dX2_init_36 : decode cX2_init 36 = .ok (.aload_n 0, 1) := by decide +kernel
theorem dX2_init_37 : decode cX2_init 37 = .ok (.iload_n 1, 1) := by decide +kernel
theorem dX2_init_38 : decode cX2_init 38 = .ok (.iload_n 1, 1) := by decide +kernel
theorem dX2_init_39 : decode cX2_init 39 = .ok (.iconst 1, 1) := by decide +kernel
theorem dX2_init_40 : decode cX2_init 40 = .ok (.iadd, 1) := by decide +kernel
theorem dX2_init_41 : decode cX2_init 41 = .ok (.imul, 1) := by decide +kernel
theorem dX2_init_42 : decode cX2_init 42 = .ok (.invokestatic 27, 3) := by decide +kernel
theorem dX2_init_45 : decode cX2_init 45 = .ok (.putfield 31, 3) := by decide +kernel
theorem dX2_init_48 : decode cX2_init 48 = .ok (.aload_n 0, 1) := by decide +kernel
theorem dX2_init_49 : decode cX2_init 49 = .ok (.iload_n 1, 1) := by decide +kernel
theorem dX2_init_50 : decode cX2_init 50 = .ok (.newarray .int, 2) := by decide +kernel
theorem dX2_init_52 : decode cX2_init 52 = .ok (.putfield 35, 3) := by decide +kernel
theorem dX2_init_55 : decode cX2_init 55 = .ok (.aload_n 0, 1) := by decide +kernel
theorem dX2_init_56 : decode cX2_init 56 = .ok (.iload_n 1, 1) := by decide +kernel
theorem dX2_init_57 : decode cX2_init 57 = .ok (.newarray .int, 2) := by decide +kernel
theorem dX2_init_59 : decode cX2_init 59 = .ok (.putfield 39, 3) := by decide +kernel
theorem dX2_init_62 : decode cX2_init 62 = .ok (.return_, 1) := by decide +kernel
theorem dX2_run_0 : decode cX2_run 0 = .ok (.aload_n 0, 1) := by decide +kernel
theorem dX2_run_1 : decode cX2_run 1 = .ok (.aload_n 1, 1) := by decide +kernel
theorem dX2_run_2 : decode cX2_run 2 = .ok (.invokevirtual 42, 3) := by decide +kernel
theorem dX2_run_5 : decode cX2_run 5 = .ok (.iconst 0, 1) := by decide +kernel
theorem dX2_run_6 : decode cX2_run 6 = .ok (.istore 4, 2) := by decide +kernel
theorem dX2_run_8 : decode cX2_run 8 = .ok (.iload 4, 2) := by decide +kernel
theorem dX2_run_10 : decode cX2_run 10 = .ok (.aload_n 0, 1) := by decide +kernel
theorem dX2_run_11 : decode cX2_run 11 = .ok (.getfield 19, 3) := by decide +kernel
theorem dX2_run_14 : decode cX2_run 14 = .ok (.if_icmp .ge 83, 3) := by decide +kernel
theorem dX2_run_17 : decode cX2_run 17 = .ok (.aload_n 0, 1) := by decide +kernel
theorem dX2_run_18 : decode cX2_run 18 = .ok (.iload 4, 2) := by decide +kernel
theorem dX2_run_20 : decode cX2_run 20 = .ok (.iload_n 2, 1) := by decide +kernel
theorem dX2_run_21 : decode cX2_run 21 = .ok (.invokevirtual 46, 3) := by decide +kernel
theorem dX2_run_24 : decode cX2_run 24 = .ok (.istore 5, 2) := by decide +kernel
theorem dX2_run_26 : decode cX2_run 26 = .ok (.iload 5, 2) := by decide +kernel
theorem dX2_run_28 : decode cX2_run 28 = .ok (.ifCond .ge 6, 3) := by decide +kernel
theorem dX2_run_31 : decode cX2_run 31 = .ok (.goto 60, 3) := by decide +kernel
theorem dX2_run_34 : decode cX2_run 34 = .ok (.aload_n 0, 1) := by decide +kernel
theorem dX2_run_35 : decode cX2_run 35 = .ok (.iload 5, 2) := by decide +kernel
theorem dX2_run_37 : decode cX2_run 37 = .ok (.iload 4, 2) := by decide +kernel
theorem dX2_run_39 : decode cX2_run 39 = .ok (.invokevirtual 50, 3) := by decide +kernel
theorem dX2_run_42 : decode cX2_run 42 = .ok (.aload_n 0, 1) := by decide +kernel
theorem dX2_run_43 : decode cX2_run 43 = .ok (.getfield 54, 3) := by decide +kernel
theorem dX2_run_46 : decode cX2_run 46 = .ok (.istore 6, 2) := by decide +kernel
theorem dX2_run_48 : decode cX2_run 48 = .ok (.iload 6, 2) := by decide +kernel
theorem dX2_run_50 : decode cX2_run 50 = .ok (.aload_n 0, 1) := by decide +kernel
theorem dX2_run_51 : decode cX2_run 51 = .ok (.getfield 19, 3) := by decide +kernel
theorem dX2_run_54 : decode cX2_run 54 = .ok (.if_icmp .ge 37, 3) := by decide +kernel
theorem dX2_run_57 : decode cX2_run 57 = .ok (.aload_n 0, 1) := by decide +kernel
theorem dX2_run_58 : decode cX2_run 58 = .ok (.iload 6, 2) := by decide +kernel
theorem dX2_run_60 : decode cX2_run 60 = .ok (.iload 4, 2) := by decide +kernel
theorem dX2_run_62 : decode cX2_run 62 = .ok (.invokevirtual 57, 3) := by decide +kernel
theorem dX2_run_65 : decode cX2_run 65 = .ok (.invokevirtual 61, 3) := by decide +kernel
theorem dX2_run_68 : decode cX2_run 68 = .ok (.ifCond .ne 17, 3) := by decide +kernel
theorem dX2_run_71 : decode cX2_run 71 = .ok (.aload_n 0, 1) := by decide +kernel
theorem dX2_run_72 : decode cX2_run 72 = .ok (.iload 6, 2) := by decide +kernel
theorem dX2_run_74 : decode cX2_run 74 = .ok (.iload 4, 2) := by decide +kernel
theorem dX2_run_76 : decode cX2_run 76 = .ok (.iload_n 3, 1) := by decide +kernel
theorem dX2_run_77 : decode cX2_run 77 = .ok (.invokevirtual 65, 3) := by decide +kernel
theorem dX2_run_80 : decode cX2_run 80 = .ok (.ifCond .ne 5, 3) := by decide +kernel
theorem dX2_run_83 : decode cX2_run 83 = .ok (.iconst 0, 1) := by decide +kernel
theorem dX2_run_84 : decode cX2_run 84 = .ok (.ireturn, 1) := by decide +kernel
theorem dX2_run_85 : decode cX2_run 85 = .ok (.iinc 6 1, 3) := by decide +kernel
theorem dX2_run_88 : decode cX2_run 88 = .ok (.goto (-40), 3) := by decide +kernel
theorem dX2_run_91 : decode cX2_run 91 = .ok (.iinc 4 1, 3) := by decide +kernel
theorem dX2_run_94 : decode cX2_run 94 = .ok (.goto (-86), 3) := by decide +kernel
theorem dX2_run_97 : decode cX2_run 97 = .ok (.iconst 1, 1) := by decide +kernel
theorem dX2_run_98 : decode cX2_run 98 = .ok (.ireturn, 1) := by decide +kernel
theorem dX2_begin_0 : decode cX2_begin 0 = .ok (.iconst 0, 1) := by decide +kernel
theorem dX2_begin_1 : decode cX2_begin 1 = .ok (.istore_n 2, 1) := by decide +kernel
theorem dX2_begin_2 : decode cX2_begin 2 = .ok (.iload_n 2, 1) := by decide +kernel
theorem dX2_begin_3 : decode cX2_begin 3 = .ok (.aload_n 0, 1) := by decide +kernel
theorem dX2_begin_4 : decode cX2_begin 4 = .ok (.getfield 31, 3) := by decide +kernel
theorem dX2_begin_7 : decode cX2_begin 7 = .ok (.arraylength, 1) := by decide +kernel
theorem dX2_begin_8 : decode cX2_begin 8 = .ok (.if_icmp .ge 27, 3) := by decide +kernel
theorem dX2_begin_11 : decode cX2_begin 11 = .ok (.iload_n 2, 1) := by decide +kernel
theorem dX2_begin_12 : decode cX2_begin 12 = .ok (.aload_n 1, 1) := by decide +kernel
theorem dX2_begin_13 : decode cX2_begin 13 = .ok (.arraylength, 1) := by decide +kernel
theorem dX2_begin_14 : decode cX2_begin 14 = .ok (.if_icmp .ge 21, 3) := by decide +kernel
theorem dX2_begin_17 : decode cX2_begin 17 = .ok (.aload_n 0, 1) := by decide +kernel
theorem dX2_begin_18 : decode cX2_begin 18 = .ok (.getfield 31, 3) := by decide +kernel
theorem dX2_begin_21 : decode cX2_begin 21 = .ok (.iload_n 2, 1) := by decide +kernel
theorem dX2_begin_22 : decode cX2_begin 22 = .ok (.aaload, 1) := by decide +kernel
theorem dX2_begin_23 : decode cX2_begin 23 = .ok (.aload_n 1, 1) := by decide +kernel
theorem dX2_begin_24 : decode cX2_begin 24 = .ok (.iload_n 2, 1) := by decide +kernel
theorem dX2_begin_25 : decode cX2_begin 25 = .ok (.aaload, 1) := by decide +kernel
theorem dX2_begin_26 : decode cX2_begin 26 = .ok (.invokevirtual 69, 3) := by decide +kernel
theorem dX2_begin_29 : decode cX2_begin 29 = .ok (.iinc 2 1, 3) := by decide +kernel
theorem dX2_begin_32 : decode cX2_begin 32 = .ok (.goto (-30), 3) := by decide +kernel
theorem dX2_begin_35 : decode cX2_begin 35 = .ok (.iconst 0, 1) := by decide +kernel
theorem dX2_begin_36 : decode cX2_begin 36 = .ok (.istore_n 2, 1) := by decide +kernel
theorem dX2_begin_37 : decode cX2_begin 37 = .ok (.iload_n 2, 1) := by decide +kernel
theorem dX2_begin_38 : decode cX2_begin 38 = .ok (.aload_n 0, 1) := by decide +kernel
theorem dX2_begin_39 : decode cX2_begin 39 = .ok (.getfield 19, 3) := by decide +kernel
theorem dX2_begin_42 : decode cX2_begin 42 = .ok (.if_icmp .ge 16, 3) := by decide +kernel
theorem dX2_begin_45 : decode cX2_begin 45 = .ok (.aload_n 0, 1) := by decide +kernel
theorem dX2_begin_46 : decode cX2_begin 46 = .ok (.getfield 35, 3) := by decide +kernel
theorem dX2_begin_49 : decode cX2_begin 49 = .ok (.iload_n 2, 1) := by decide +kernel
theorem dX2_begin_50 : decode cX2_begin 50 = .ok (.iload_n 2, 1) := by decide +kernel
theorem dX2_begin_51 : decode cX2_begin 51 = .ok (.iastore, 1) := by decide +kernel
theorem dX2_begin_52 : decode cX2_begin 52 = .ok (.iinc 2 1, 3) := by decide +kernel
theorem dX2_begin_55 : decode cX2_begin 55 = .ok (.goto (-18), 3) := by decide +kernel
theorem dX2_begin_58 : decode cX2_begin 58 = .ok (.aload_n 0, 1) := by decide +kernel
theorem dX2_begin_59 : decode cX2_begin 59 = .ok (.iconst 0, 1) := by decide +kernel
theorem dX2_begin_60 : decode cX2_begin 60 = .ok (.putfield 54, 3) := by decide +kernel
theorem dX2_begin_63 : decode cX2_begin 63 = .ok (.aload_n 0, 1) := by decide +kernel
theorem dX2_begin_64 : decode cX2_begin 64 = .ok (.iconst 0, 1) := by decide +kernel
theorem dX2_begin_65 : decode cX2_begin 65 = .ok (.putfield 73, 3) := by decide +kernel
theorem dX2_begin_68 : decode cX2_begin 68 = .ok (.return_, 1) := by decide +kernel
theorem dX2_at_0 : decode cX2_at 0 = .ok (.aload_n 0, 1) := by decide +kernel
theorem dX2_at_1 : decode cX2_at 1 = .ok (.getfield 31, 3) := by decide +kernel
theorem dX2_at_4 : decode cX2_at 4 = .ok (.aload_n 0, 1) := by decide +kernel
theorem dX2_at_5 : decode cX2_at 5 = .ok (.getfield 35, 3) := by decide +kernel
theorem dX2_at_8 : decode cX2_at 8 = .ok (.iload_n 1, 1) := by decide +kernel
theorem dX2_at_9 : decode cX2_at 9 = .ok (.iaload, 1) := by decide +kernel
theorem dX2_at_10 : decode cX2_at 10 = .ok (.aload_n 0, 1) := by decide +kernel
theorem dX2_at_11 : decode cX2_at 11 = .ok (.getfield 19, 3) := by decide +kernel
theorem dX2_at_14 : decode cX2_at 14 = .ok (.iconst 1, 1) := by decide +kernel
theorem dX2_at_15 : decode cX2_at 15 = .ok (.iadd, 1) := by decide +kernel
theorem dX2_at_16 : decode cX2_at 16 = .ok (.imul, 1) := by decide +kernel
theorem dX2_at_17 : decode cX2_at 17 = .ok (.iload_n 2, 1) := by decide +kernel
theorem dX2_at_18 : decode cX2_at 18 = .ok (.iadd, 1) := by decide +kernel
theorem dX2_at_19 : decode cX2_at 19 = .ok (.aaload, 1) := by decide +kernel
theorem dX2_at_20 : decode cX2_at 20 = .ok (.areturn, 1) := by decide +kernel
theorem dX2_pivotAt_0 : decode cX2_pivotAt 0 = .ok (.aload_n 0, 1) := by decide +kernel
theorem dX2_pivotAt_1 : decode cX2_pivotAt 1 = .ok (.iload_n 1, 1) := by decide +kernel
theorem dX2_pivotAt_2 : decode cX2_pivotAt 2 = .ok (.aload_n 0, 1) := by decide +kernel
theorem dX2_pivotAt_3 : decode cX2_pivotAt 3 = .ok (.getfield 39, 3) := by decide +kernel
theorem dX2_pivotAt_6 : decode cX2_pivotAt 6 = .ok (.iload_n 1, 1) := by decide +kernel
theorem dX2_pivotAt_7 : decode cX2_pivotAt 7 = .ok (.iaload, 1) := by decide +kernel
theorem dX2_pivotAt_8 : decode cX2_pivotAt 8 = .ok (.invokevirtual 57, 3) := by decide +kernel
theorem dX2_pivotAt_11 : decode cX2_pivotAt 11 = .ok (.areturn, 1) := by decide +kernel
theorem dX2_choose_0 : decode cX2_choose 0 = .ok (.iconst (-1), 1) := by decide +kernel
theorem dX2_choose_1 : decode cX2_choose 1 = .ok (.istore_n 3, 1) := by decide +kernel
theorem dX2_choose_2 : decode cX2_choose 2 = .ok (.aload_n 0, 1) := by decide +kernel
theorem dX2_choose_3 : decode cX2_choose 3 = .ok (.getfield 54, 3) := by decide +kernel
theorem dX2_choose_6 : decode cX2_choose 6 = .ok (.istore 4, 2) := by decide +kernel
theorem dX2_choose_8 : decode cX2_choose 8 = .ok (.iload 4, 2) := by decide +kernel
theorem dX2_choose_10 : decode cX2_choose 10 = .ok (.aload_n 0, 1) := by decide +kernel
theorem dX2_choose_11 : decode cX2_choose 11 = .ok (.getfield 19, 3) := by decide +kernel
theorem dX2_choose_14 : decode cX2_choose 14 = .ok (.if_icmp .ge 58, 3) := by decide +kernel
theorem dX2_choose_17 : decode cX2_choose 17 = .ok (.aload_n 0, 1) := by decide +kernel
theorem dX2_choose_18 : decode cX2_choose 18 = .ok (.iload 4, 2) := by decide +kernel
theorem dX2_choose_20 : decode cX2_choose 20 = .ok (.iload_n 1, 1) := by decide +kernel
theorem dX2_choose_21 : decode cX2_choose 21 = .ok (.invokevirtual 57, 3) := by decide +kernel
theorem dX2_choose_24 : decode cX2_choose 24 = .ok (.invokevirtual 61, 3) := by decide +kernel
theorem dX2_choose_27 : decode cX2_choose 27 = .ok (.ifCond .ne 39, 3) := by decide +kernel
theorem dX2_choose_30 : decode cX2_choose 30 = .ok (.iload_n 2, 1) := by decide +kernel
theorem dX2_choose_31 : decode cX2_choose 31 = .ok (.ifCond .ne 6, 3) := by decide +kernel
theorem dX2_choose_34 : decode cX2_choose 34 = .ok (.iload 4, 2) := by decide +kernel
theorem dX2_choose_36 : decode cX2_choose 36 = .ok (.ireturn, 1) := by decide +kernel
theorem dX2_choose_37 : decode cX2_choose 37 = .ok (.iload_n 3, 1) := by decide +kernel
theorem dX2_choose_38 : decode cX2_choose 38 = .ok (.ifCond .lt 25, 3) := by decide +kernel
theorem dX2_choose_41 : decode cX2_choose 41 = .ok (.aload_n 0, 1) := by decide +kernel
theorem dX2_choose_42 : decode cX2_choose 42 = .ok (.iload 4, 2) := by decide +kernel
theorem dX2_choose_44 : decode cX2_choose 44 = .ok (.iload_n 1, 1) := by decide +kernel
theorem dX2_choose_45 : decode cX2_choose 45 = .ok (.invokevirtual 57, 3) := by decide +kernel
theorem dX2_choose_48 : decode cX2_choose 48 = .ok (.invokevirtual 77, 3) := by decide +kernel
theorem dX2_choose_51 : decode cX2_choose 51 = .ok (.aload_n 0, 1) := by decide +kernel
theorem dX2_choose_52 : decode cX2_choose 52 = .ok (.iload_n 3, 1) := by decide +kernel
theorem dX2_choose_53 : decode cX2_choose 53 = .ok (.iload_n 1, 1) := by decide +kernel
theorem dX2_choose_54 : decode cX2_choose 54 = .ok (.invokevirtual 57, 3) := by decide +kernel
theorem dX2_choose_57 : decode cX2_choose 57 = .ok (.invokevirtual 77, 3) := by decide +kernel
theorem dX2_choose_60 : decode cX2_choose 60 = .ok (.if_icmp .ge 6, 3) := by decide +kernel
theorem dX2_choose_63 : decode cX2_choose 63 = .ok (.iload 4, 2) := by decide +kernel
theorem dX2_choose_65 : decode cX2_choose 65 = .ok (.istore_n 3, 1) := by decide +kernel
theorem dX2_choose_66 : decode cX2_choose 66 = .ok (.iinc 4 1, 3) := by decide +kernel
theorem dX2_choose_69 : decode cX2_choose 69 = .ok (.goto (-61), 3) := by decide +kernel
theorem dX2_choose_72 : decode cX2_choose 72 = .ok (.iload_n 3, 1) := by decide +kernel
theorem dX2_choose_73 : decode cX2_choose 73 = .ok (.ireturn, 1) := by decide +kernel
theorem dX2_bring_0 : decode cX2_bring 0 = .ok (.iload_n 1, 1) := by decide +kernel
theorem dX2_bring_1 : decode cX2_bring 1 = .ok (.aload_n 0, 1) := by decide +kernel
theorem dX2_bring_2 : decode cX2_bring 2 = .ok (.getfield 54, 3) := by decide +kernel
theorem dX2_bring_5 : decode cX2_bring 5 = .ok (.if_icmp .eq 51, 3) := by decide +kernel
theorem dX2_bring_8 : decode cX2_bring 8 = .ok (.aload_n 0, 1) := by decide +kernel
theorem dX2_bring_9 : decode cX2_bring 9 = .ok (.getfield 35, 3) := by decide +kernel
theorem dX2_bring_12 : decode cX2_bring 12 = .ok (.iload_n 1, 1) := by decide +kernel
theorem dX2_bring_13 : decode cX2_bring 13 = .ok (.iaload, 1) := by decide +kernel
theorem dX2_bring_14 : decode cX2_bring 14 = .ok (.istore_n 3, 1) := by decide +kernel
theorem dX2_bring_15 : decode cX2_bring 15 = .ok (.aload_n 0, 1) := by decide +kernel
theorem dX2_bring_16 : decode cX2_bring 16 = .ok (.getfield 35, 3) := by decide +kernel
theorem dX2_bring_19 : decode cX2_bring 19 = .ok (.iload_n 1, 1) := by decide +kernel
theorem dX2_bring_20 : decode cX2_bring 20 = .ok (.aload_n 0, 1) := by decide +kernel
theorem dX2_bring_21 : decode cX2_bring 21 = .ok (.getfield 35, 3) := by decide +kernel
theorem dX2_bring_24 : decode cX2_bring 24 = .ok (.aload_n 0, 1) := by decide +kernel
theorem dX2_bring_25 : decode cX2_bring 25 = .ok (.getfield 54, 3) := by decide +kernel
theorem dX2_bring_28 : decode cX2_bring 28 = .ok (.iaload, 1) := by decide +kernel
theorem dX2_bring_29 : decode cX2_bring 29 = .ok (.iastore, 1) := by decide +kernel
theorem dX2_bring_30 : decode cX2_bring 30 = .ok (.aload_n 0, 1) := by decide +kernel
theorem dX2_bring_31 : decode cX2_bring 31 = .ok (.getfield 35, 3) := by decide +kernel
theorem dX2_bring_34 : decode cX2_bring 34 = .ok (.aload_n 0, 1) := by decide +kernel
theorem dX2_bring_35 : decode cX2_bring 35 = .ok (.getfield 54, 3) := by decide +kernel
theorem dX2_bring_38 : decode cX2_bring 38 = .ok (.iload_n 3, 1) := by decide +kernel
theorem dX2_bring_39 : decode cX2_bring 39 = .ok (.iastore, 1) := by decide +kernel
theorem dX2_bring_40 : decode cX2_bring 40 = .ok (.aload_n 0, 1) := by decide +kernel
theorem dX2_bring_41 : decode cX2_bring 41 = .ok (.aload_n 0, 1) := by decide +kernel
theorem dX2_bring_42 : decode cX2_bring 42 = .ok (.getfield 73, 3) := by decide +kernel
theorem dX2_bring_45 : decode cX2_bring 45 = .ok (.ifCond .ne 7, 3) := by decide +kernel
theorem dX2_bring_48 : decode cX2_bring 48 = .ok (.iconst 1, 1) := by decide +kernel
theorem dX2_bring_49 : decode cX2_bring 49 = .ok (.goto 4, 3) := by decide +kernel
theorem dX2_bring_52 : decode cX2_bring 52 = .ok (.iconst 0, 1) := by decide +kernel
theorem dX2_bring_53 : decode cX2_bring 53 = .ok (.putfield 73, 3) := by decide +kernel
theorem dX2_bring_56 : decode cX2_bring 56 = .ok (.aload_n 0, 1) := by decide +kernel
theorem dX2_bring_57 : decode cX2_bring 57 = .ok (.getfield 39, 3) := by decide +kernel
theorem dX2_bring_60 : decode cX2_bring 60 = .ok (.aload_n 0, 1) := by decide +kernel
theorem dX2_bring_61 : decode cX2_bring 61 = .ok (.getfield 54, 3) := by decide +kernel
theorem dX2_bring_64 : decode cX2_bring 64 = .ok (.iload_n 2, 1) := by decide +kernel
theorem dX2_bring_65 : decode cX2_bring 65 = .ok (.iastore, 1) := by decide +kernel
theorem dX2_bring_66 : decode cX2_bring 66 = .ok (.aload_n 0, 1) := by decide +kernel
theorem dX2_bring_67 : decode cX2_bring 67 = .ok (.dup, 1) := by decide +kernel
theorem dX2_bring_68 : decode cX2_bring 68 = .ok (.getfield 54, 3) := by decide +kernel
theorem dX2_bring_71 : decode cX2_bring 71 = .ok (.iconst 1, 1) := by decide +kernel
theorem dX2_bring_72 : decode cX2_bring 72 = .ok (.iadd, 1) := by decide +kernel
theorem dX2_bring_73 : decode cX2_bring 73 = .ok (.putfield 54, 3) := by decide +kernel
theorem dX2_bring_76 : decode cX2_bring 76 = .ok (.return_, 1) := by decide +kernel
theorem dX2_clearColumn_0 : decode cX2_clearColumn 0 = .ok (.aload_n 0, 1) := by decide +kernel
theorem dX2_clearColumn_1 : decode cX2_clearColumn 1 = .ok (.getfield 54, 3) := by decide +kernel
theorem dX2_clearColumn_4 : decode cX2_clearColumn 4 = .ok (.iconst 1, 1) := by decide +kernel
theorem dX2_clearColumn_5 : decode cX2_clearColumn 5 = .ok (.isub, 1) := by decide +kernel
theorem dX2_clearColumn_6 : decode cX2_clearColumn 6 = .ok (.istore 4, 2) := by decide +kernel
theorem dX2_clearColumn_8 : decode cX2_clearColumn 8 = .ok (.aload_n 0, 1) := by decide +kernel
theorem dX2_clearColumn_9 : decode cX2_clearColumn 9 = .ok (.getfield 23, 3) := by decide +kernel
theorem dX2_clearColumn_12 : decode cX2_clearColumn 12 = .ok (.aload_n 0, 1) := by decide +kernel
theorem dX2_clearColumn_13 : decode cX2_clearColumn 13 = .ok (.iload_n 1, 1) := by decide +kernel
theorem dX2_clearColumn_14 : decode cX2_clearColumn 14 = .ok (.iload_n 2, 1) := by decide +kernel
theorem dX2_clearColumn_15 : decode cX2_clearColumn 15 = .ok (.invokevirtual 57, 3) := by decide +kernel
theorem dX2_clearColumn_18 : decode cX2_clearColumn 18 = .ok (.aload_n 0, 1) := by decide +kernel
theorem dX2_clearColumn_19 : decode cX2_clearColumn 19 = .ok (.iload 4, 2) := by decide +kernel
theorem dX2_clearColumn_21 : decode cX2_clearColumn 21 = .ok (.iload_n 2, 1) := by decide +kernel
theorem dX2_clearColumn_22 : decode cX2_clearColumn 22 = .ok (.invokevirtual 57, 3) := by decide +kernel
theorem dX2_clearColumn_25 : decode cX2_clearColumn 25 = .ok (.iconst 1, 1) := by decide +kernel
theorem dX2_clearColumn_26 : decode cX2_clearColumn 26 = .ok (.aload_n 0, 1) := by decide +kernel
theorem dX2_clearColumn_27 : decode cX2_clearColumn 27 = .ok (.getfield 10, 3) := by decide +kernel
theorem dX2_clearColumn_30 : decode cX2_clearColumn 30 = .ok (.invokevirtual 81, 3) := by decide +kernel
theorem dX2_clearColumn_33 : decode cX2_clearColumn 33 = .ok (.ifCond .ne 5, 3) := by decide +kernel
theorem dX2_clearColumn_36 : decode cX2_clearColumn 36 = .ok (.iconst 0, 1) := by decide +kernel
theorem dX2_clearColumn_37 : decode cX2_clearColumn 37 = .ok (.ireturn, 1) := by decide +kernel
theorem dX2_clearColumn_38 : decode cX2_clearColumn 38 = .ok (.iload_n 2, 1) := by decide +kernel
theorem dX2_clearColumn_39 : decode cX2_clearColumn 39 = .ok (.iconst 1, 1) := by decide +kernel
theorem dX2_clearColumn_40 : decode cX2_clearColumn 40 = .ok (.iadd, 1) := by decide +kernel
theorem dX2_clearColumn_41 : decode cX2_clearColumn 41 = .ok (.istore 5, 2) := by decide +kernel
theorem dX2_clearColumn_43 : decode cX2_clearColumn 43 = .ok (.iload 5, 2) := by decide +kernel
theorem dX2_clearColumn_45 : decode cX2_clearColumn 45 = .ok (.iload_n 3, 1) := by decide +kernel
theorem dX2_clearColumn_46 : decode cX2_clearColumn 46 = .ok (.if_icmp .ge 66, 3) := by decide +kernel
theorem dX2_clearColumn_49 : decode cX2_clearColumn 49 = .ok (.aload_n 0, 1) := by decide +kernel
theorem dX2_clearColumn_50 : decode cX2_clearColumn 50 = .ok (.iload_n 1, 1) := by decide +kernel
theorem dX2_clearColumn_51 : decode cX2_clearColumn 51 = .ok (.iload 5, 2) := by decide +kernel
theorem dX2_clearColumn_53 : decode cX2_clearColumn 53 = .ok (.invokevirtual 57, 3) := by decide +kernel
theorem dX2_clearColumn_56 : decode cX2_clearColumn 56 = .ok (.astore 6, 2) := by decide +kernel
theorem dX2_clearColumn_58 : decode cX2_clearColumn 58 = .ok (.aload_n 0, 1) := by decide +kernel
theorem dX2_clearColumn_59 : decode cX2_clearColumn 59 = .ok (.getfield 23, 3) := by decide +kernel
theorem dX2_clearColumn_62 : decode cX2_clearColumn 62 = .ok (.aload_n 0, 1) := by decide +kernel
theorem dX2_clearColumn_63 : decode cX2_clearColumn 63 = .ok (.getfield 10, 3) := by decide +kernel
theorem dX2_clearColumn_66 : decode cX2_clearColumn 66 = .ok (.aload_n 0, 1) := by decide +kernel
theorem dX2_clearColumn_67 : decode cX2_clearColumn 67 = .ok (.iload 4, 2) := by decide +kernel
theorem dX2_clearColumn_69 : decode cX2_clearColumn 69 = .ok (.iload 5, 2) := by decide +kernel
theorem dX2_clearColumn_71 : decode cX2_clearColumn 71 = .ok (.invokevirtual 57, 3) := by decide +kernel
theorem dX2_clearColumn_74 : decode cX2_clearColumn 74 = .ok (.iconst 0, 1) := by decide +kernel
theorem dX2_clearColumn_75 : decode cX2_clearColumn 75 = .ok (.aload_n 0, 1) := by decide +kernel
theorem dX2_clearColumn_76 : decode cX2_clearColumn 76 = .ok (.getfield 16, 3) := by decide +kernel
theorem dX2_clearColumn_79 : decode cX2_clearColumn 79 = .ok (.invokevirtual 81, 3) := by decide +kernel
theorem dX2_clearColumn_82 : decode cX2_clearColumn 82 = .ok (.ifCond .eq 22, 3) := by decide +kernel
theorem dX2_clearColumn_85 : decode cX2_clearColumn 85 = .ok (.aload_n 0, 1) := by decide +kernel
theorem dX2_clearColumn_86 : decode cX2_clearColumn 86 = .ok (.getfield 23, 3) := by decide +kernel
theorem dX2_clearColumn_89 : decode cX2_clearColumn 89 = .ok (.aload 6, 2) := by decide +kernel
theorem dX2_clearColumn_91 : decode cX2_clearColumn 91 = .ok (.aload_n 0, 1) := by decide +kernel
theorem dX2_clearColumn_92 : decode cX2_clearColumn 92 = .ok (.getfield 16, 3) := by decide +kernel
theorem dX2_clearColumn_95 : decode cX2_clearColumn 95 = .ok (.iconst 1, 1) := by decide +kernel
theorem dX2_clearColumn_96 : decode cX2_clearColumn 96 = .ok (.aload 6, 2) := by decide +kernel
theorem dX2_clearColumn_98 : decode cX2_clearColumn 98 = .ok (.invokevirtual 87, 3) := by decide +kernel
theorem dX2_clearColumn_101 : decode cX2_clearColumn 101 = .ok (.ifCond .ne 5, 3) := by decide +kernel
theorem dX2_clearColumn_104 : decode cX2_clearColumn 104 = .ok (.iconst 0, 1) := by decide +kernel
theorem dX2_clearColumn_105 : decode cX2_clearColumn 105 = .ok (.ireturn, 1) := by decide +kernel
theorem dX2_clearColumn_106 : decode cX2_clearColumn 106 = .ok (.iinc 5 1, 3) := by decide +kernel
theorem dX2_clearColumn_109 : decode cX2_clearColumn 109 = .ok (.goto (-66), 3) := by decide +kernel
theorem dX2_clearColumn_112 : decode cX2_clearColumn 112 = .ok (.aload_n 0, 1) := by decide +kernel
theorem dX2_clearColumn_113 : decode cX2_clearColumn 113 = .ok (.iload_n 1, 1) := by decide +kernel
theorem dX2_clearColumn_114 : decode cX2_clearColumn 114 = .ok (.iload_n 2, 1) := by decide +kernel
theorem dX2_clearColumn_115 : decode cX2_clearColumn 115 = .ok (.invokevirtual 57, 3) := by decide +kernel
theorem dX2_clearColumn_118 : decode cX2_clearColumn 118 = .ok (.invokevirtual 90, 3) := by decide +kernel
theorem dX2_clearColumn_121 : decode cX2_clearColumn 121 = .ok (.iconst 1, 1) := by decide +kernel
theorem dX2_clearColumn_122 : decode cX2_clearColumn 122 = .ok (.ireturn, 1) := by decide +kernel
theorem dX2_hasAnswers_0 : decode cX2_hasAnswers 0 = .ok (.aload_n 0, 1) := by decide +kernel
theorem dX2_hasAnswers_1 : decode cX2_hasAnswers 1 = .ok (.getfield 54, 3) := by decide +kernel
theorem dX2_hasAnswers_4 : decode cX2_hasAnswers 4 = .ok (.istore_n 1, 1) := by decide +kernel
theorem dX2_hasAnswers_5 : decode cX2_hasAnswers 5 = .ok (.iload_n 1, 1) := by decide +kernel
theorem dX2_hasAnswers_6 : decode cX2_hasAnswers 6 = .ok (.aload_n 0, 1) := by decide +kernel
theorem dX2_hasAnswers_7 : decode cX2_hasAnswers 7 = .ok (.getfield 19, 3) := by decide +kernel
theorem dX2_hasAnswers_10 : decode cX2_hasAnswers 10 = .ok (.if_icmp .ge 26, 3) := by decide +kernel
theorem dX2_hasAnswers_13 : decode cX2_hasAnswers 13 = .ok (.aload_n 0, 1) := by decide +kernel
theorem dX2_hasAnswers_14 : decode cX2_hasAnswers 14 = .ok (.iload_n 1, 1) := by decide +kernel
theorem dX2_hasAnswers_15 : decode cX2_hasAnswers 15 = .ok (.aload_n 0, 1) := by decide +kernel
theorem dX2_hasAnswers_16 : decode cX2_hasAnswers 16 = .ok (.getfield 19, 3) := by decide +kernel
theorem dX2_hasAnswers_19 : decode cX2_hasAnswers 19 = .ok (.invokevirtual 57, 3) := by decide +kernel
theorem dX2_hasAnswers_22 : decode cX2_hasAnswers 22 = .ok (.invokevirtual 61, 3) := by decide +kernel
theorem dX2_hasAnswers_25 : decode cX2_hasAnswers 25 = .ok (.ifCond .ne 5, 3) := by decide +kernel
theorem dX2_hasAnswers_28 : decode cX2_hasAnswers 28 = .ok (.iconst 0, 1) := by decide +kernel
theorem dX2_hasAnswers_29 : decode cX2_hasAnswers 29 = .ok (.ireturn, 1) := by decide +kernel
theorem dX2_hasAnswers_30 : decode cX2_hasAnswers 30 = .ok (.iinc 1 1, 3) := by decide +kernel
theorem dX2_hasAnswers_33 : decode cX2_hasAnswers 33 = .ok (.goto (-28), 3) := by decide +kernel
theorem dX2_hasAnswers_36 : decode cX2_hasAnswers 36 = .ok (.iconst 1, 1) := by decide +kernel
theorem dX2_hasAnswers_37 : decode cX2_hasAnswers 37 = .ok (.ireturn, 1) := by decide +kernel
theorem dX2_findUnknowns_0 : decode cX2_findUnknowns 0 = .ok (.iconst 0, 1) := by decide +kernel
theorem dX2_findUnknowns_1 : decode cX2_findUnknowns 1 = .ok (.istore_n 2, 1) := by decide +kernel
theorem dX2_findUnknowns_2 : decode cX2_findUnknowns 2 = .ok (.iload_n 2, 1) := by decide +kernel
theorem dX2_findUnknowns_3 : decode cX2_findUnknowns 3 = .ok (.aload_n 0, 1) := by decide +kernel
theorem dX2_findUnknowns_4 : decode cX2_findUnknowns 4 = .ok (.getfield 19, 3) := by decide +kernel
theorem dX2_findUnknowns_7 : decode cX2_findUnknowns 7 = .ok (.if_icmp .ge 15, 3) := by decide +kernel
theorem dX2_findUnknowns_10 : decode cX2_findUnknowns 10 = .ok (.aload_n 1, 1) := by decide +kernel
theorem dX2_findUnknowns_11 : decode cX2_findUnknowns 11 = .ok (.iload_n 2, 1) := by decide +kernel
theorem dX2_findUnknowns_12 : decode cX2_findUnknowns 12 = .ok (.aaload, 1) := by decide +kernel
theorem dX2_findUnknowns_13 : decode cX2_findUnknowns 13 = .ok (.invokevirtual 90, 3) := by decide +kernel
theorem dX2_findUnknowns_16 : decode cX2_findUnknowns 16 = .ok (.iinc 2 1, 3) := by decide +kernel
theorem dX2_findUnknowns_19 : decode cX2_findUnknowns 19 = .ok (.goto (-17), 3) := by decide +kernel
theorem dX2_findUnknowns_22 : decode cX2_findUnknowns 22 = .ok (.aload_n 0, 1) := by decide +kernel
theorem dX2_findUnknowns_23 : decode cX2_findUnknowns 23 = .ok (.getfield 54, 3) := by decide +kernel
theorem dX2_findUnknowns_26 : decode cX2_findUnknowns 26 = .ok (.iconst 1, 1) := by decide +kernel
theorem dX2_findUnknowns_27 : decode cX2_findUnknowns 27 = .ok (.isub, 1) := by decide +kernel
theorem dX2_findUnknowns_28 : decode cX2_findUnknowns 28 = .ok (.istore_n 2, 1) := by decide +kernel
theorem dX2_findUnknowns_29 : decode cX2_findUnknowns 29 = .ok (.iload_n 2, 1) := by decide +kernel
theorem dX2_findUnknowns_30 : decode cX2_findUnknowns 30 = .ok (.ifCond .lt 125, 3) := by decide +kernel
theorem dX2_findUnknowns_33 : decode cX2_findUnknowns 33 = .ok (.aload_n 0, 1) := by decide +kernel
theorem dX2_findUnknowns_34 : decode cX2_findUnknowns 34 = .ok (.getfield 39, 3) := by decide +kernel
theorem dX2_findUnknowns_37 : decode cX2_findUnknowns 37 = .ok (.iload_n 2, 1) := by decide +kernel
theorem dX2_findUnknowns_38 : decode cX2_findUnknowns 38 = .ok (.iaload, 1) := by decide +kernel
theorem dX2_findUnknowns_39 : decode cX2_findUnknowns 39 = .ok (.istore_n 3, 1) := by decide +kernel
theorem dX2_findUnknowns_40 : decode cX2_findUnknowns 40 = .ok (.aload_n 1, 1) := by decide +kernel
theorem dX2_findUnknowns_41 : decode cX2_findUnknowns 41 = .ok (.iload_n 3, 1) := by decide +kernel
theorem dX2_findUnknowns_42 : decode cX2_findUnknowns 42 = .ok (.aaload, 1) := by decide +kernel
theorem dX2_findUnknowns_43 : decode cX2_findUnknowns 43 = .ok (.astore 4, 2) := by decide +kernel
theorem dX2_findUnknowns_45 : decode cX2_findUnknowns 45 = .ok (.aload 4, 2) := by decide +kernel
theorem dX2_findUnknowns_47 : decode cX2_findUnknowns 47 = .ok (.aload_n 0, 1) := by decide +kernel
theorem dX2_findUnknowns_48 : decode cX2_findUnknowns 48 = .ok (.iload_n 2, 1) := by decide +kernel
theorem dX2_findUnknowns_49 : decode cX2_findUnknowns 49 = .ok (.aload_n 0, 1) := by decide +kernel
theorem dX2_findUnknowns_50 : decode cX2_findUnknowns 50 = .ok (.getfield 19, 3) := by decide +kernel
theorem dX2_findUnknowns_53 : decode cX2_findUnknowns 53 = .ok (.invokevirtual 57, 3) := by decide +kernel
theorem dX2_findUnknowns_56 : decode cX2_findUnknowns 56 = .ok (.invokevirtual 69, 3) := by decide +kernel
theorem dX2_findUnknowns_59 : decode cX2_findUnknowns 59 = .ok (.iload_n 3, 1) := by decide +kernel
theorem dX2_findUnknowns_60 : decode cX2_findUnknowns 60 = .ok (.iconst 1, 1) := by decide +kernel
theorem dX2_findUnknowns_61 : decode cX2_findUnknowns 61 = .ok (.iadd, 1) := by decide +kernel
theorem dX2_findUnknowns_62 : decode cX2_findUnknowns 62 = .ok (.istore 5, 2) := by decide +kernel
theorem dX2_findUnknowns_64 : decode cX2_findUnknowns 64 = .ok (.iload 5, 2) := by decide +kernel
theorem dX2_findUnknowns_66 : decode cX2_findUnknowns 66 = .ok (.aload_n 0, 1) := by decide +kernel
theorem dX2_findUnknowns_67 : decode cX2_findUnknowns 67 = .ok (.getfield 19, 3) := by decide +kernel
theorem dX2_findUnknowns_70 : decode cX2_findUnknowns 70 = .ok (.if_icmp .ge 56, 3) := by decide +kernel
theorem dX2_findUnknowns_73 : decode cX2_findUnknowns 73 = .ok (.aload_n 0, 1) := by decide +kernel
theorem dX2_findUnknowns_74 : decode cX2_findUnknowns 74 = .ok (.getfield 23, 3) := by decide +kernel
theorem dX2_findUnknowns_77 : decode cX2_findUnknowns 77 = .ok (.aload_n 0, 1) := by decide +kernel
theorem dX2_findUnknowns_78 : decode cX2_findUnknowns 78 = .ok (.iload_n 2, 1) := by decide +kernel
theorem dX2_findUnknowns_79 : decode cX2_findUnknowns 79 = .ok (.iload 5, 2) := by decide +kernel
theorem dX2_findUnknowns_81 : decode cX2_findUnknowns 81 = .ok (.invokevirtual 57, 3) := by decide +kernel
theorem dX2_findUnknowns_84 : decode cX2_findUnknowns 84 = .ok (.aload_n 1, 1) := by decide +kernel
theorem dX2_findUnknowns_85 : decode cX2_findUnknowns 85 = .ok (.iload 5, 2) := by decide +kernel
theorem dX2_findUnknowns_87 : decode cX2_findUnknowns 87 = .ok (.aaload, 1) := by decide +kernel
theorem dX2_findUnknowns_88 : decode cX2_findUnknowns 88 = .ok (.iconst 0, 1) := by decide +kernel
theorem dX2_findUnknowns_89 : decode cX2_findUnknowns 89 = .ok (.aload_n 0, 1) := by decide +kernel
theorem dX2_findUnknowns_90 : decode cX2_findUnknowns 90 = .ok (.getfield 16, 3) := by decide +kernel
theorem dX2_findUnknowns_93 : decode cX2_findUnknowns 93 = .ok (.invokevirtual 81, 3) := by decide +kernel
theorem dX2_findUnknowns_96 : decode cX2_findUnknowns 96 = .ok (.ifCond .eq 22, 3) := by decide +kernel
theorem dX2_findUnknowns_99 : decode cX2_findUnknowns 99 = .ok (.aload_n 0, 1) := by decide +kernel
theorem dX2_findUnknowns_100 : decode cX2_findUnknowns 100 = .ok (.getfield 23, 3) := by decide +kernel
theorem dX2_findUnknowns_103 : decode cX2_findUnknowns 103 = .ok (.aload 4, 2) := by decide +kernel
theorem dX2_findUnknowns_105 : decode cX2_findUnknowns 105 = .ok (.aload_n 0, 1) := by decide +kernel
theorem dX2_findUnknowns_106 : decode cX2_findUnknowns 106 = .ok (.getfield 16, 3) := by decide +kernel
theorem dX2_findUnknowns_109 : decode cX2_findUnknowns 109 = .ok (.iconst 1, 1) := by decide +kernel
theorem dX2_findUnknowns_110 : decode cX2_findUnknowns 110 = .ok (.aload 4, 2) := by decide +kernel
theorem dX2_findUnknowns_112 : decode cX2_findUnknowns 112 = .ok (.invokevirtual 87, 3) := by decide +kernel
theorem dX2_findUnknowns_115 : decode cX2_findUnknowns 115 = .ok (.ifCond .ne 5, 3) := by decide +kernel
theorem dX2_findUnknowns_118 : decode cX2_findUnknowns 118 = .ok (.iconst 0, 1) := by decide +kernel
theorem dX2_findUnknowns_119 : decode cX2_findUnknowns 119 = .ok (.ireturn, 1) := by decide +kernel
theorem dX2_findUnknowns_120 : decode cX2_findUnknowns 120 = .ok (.iinc 5 1, 3) := by decide +kernel
theorem dX2_findUnknowns_123 : decode cX2_findUnknowns 123 = .ok (.goto (-59), 3) := by decide +kernel
theorem dX2_findUnknowns_126 : decode cX2_findUnknowns 126 = .ok (.aload_n 0, 1) := by decide +kernel
theorem dX2_findUnknowns_127 : decode cX2_findUnknowns 127 = .ok (.getfield 23, 3) := by decide +kernel
theorem dX2_findUnknowns_130 : decode cX2_findUnknowns 130 = .ok (.aload 4, 2) := by decide +kernel
theorem dX2_findUnknowns_132 : decode cX2_findUnknowns 132 = .ok (.aload_n 0, 1) := by decide +kernel
theorem dX2_findUnknowns_133 : decode cX2_findUnknowns 133 = .ok (.iload_n 2, 1) := by decide +kernel
theorem dX2_findUnknowns_134 : decode cX2_findUnknowns 134 = .ok (.iload_n 3, 1) := by decide +kernel
theorem dX2_findUnknowns_135 : decode cX2_findUnknowns 135 = .ok (.invokevirtual 57, 3) := by decide +kernel
theorem dX2_findUnknowns_138 : decode cX2_findUnknowns 138 = .ok (.iconst 1, 1) := by decide +kernel
theorem dX2_findUnknowns_139 : decode cX2_findUnknowns 139 = .ok (.aload 4, 2) := by decide +kernel
theorem dX2_findUnknowns_141 : decode cX2_findUnknowns 141 = .ok (.invokevirtual 81, 3) := by decide +kernel
theorem dX2_findUnknowns_144 : decode cX2_findUnknowns 144 = .ok (.ifCond .ne 5, 3) := by decide +kernel
theorem dX2_findUnknowns_147 : decode cX2_findUnknowns 147 = .ok (.iconst 0, 1) := by decide +kernel
theorem dX2_findUnknowns_148 : decode cX2_findUnknowns 148 = .ok (.ireturn, 1) := by decide +kernel
theorem dX2_findUnknowns_149 : decode cX2_findUnknowns 149 = .ok (.iinc 2 (-1), 3) := by decide +kernel
theorem dX2_findUnknowns_152 : decode cX2_findUnknowns 152 = .ok (.goto (-123), 3) := by decide +kernel
theorem dX2_findUnknowns_155 : decode cX2_findUnknowns 155 = .ok (.iconst 1, 1) := by decide +kernel
theorem dX2_findUnknowns_156 : decode cX2_findUnknowns 156 = .ok (.ireturn, 1) := by decide +kernel
theorem dX3_init_0 : decode cX3_init 0 = .ok (.aload_n 0, 1) := by decide +kernel
theorem dX3_init_1 : decode cX3_init 1 = .ok (.invokespecial 1, 3) := by decide +kernel
theorem dX3_init_4 : decode cX3_init 4 = .ok (.aload_n 0, 1) := by decide +kernel
theorem dX3_init_5 : decode cX3_init 5 = .ok (.new 7, 3) := by decide +kernel
theorem dX3_init_8 : decode cX3_init 8 = .ok (.dup, 1) := by decide +kernel
theorem dX3_init_9 : decode cX3_init 9 = .ok (.invokespecial 9, 3) := by decide +kernel
theorem dX3_init_12 : decode cX3_init 12 = .ok (.putfield 10, 3) := by decide +kernel
theorem dX3_init_15 : decode cX3_init 15 = .ok (.aload_n 0, 1) := by decide +kernel
theorem dX3_init_16 : decode cX3_init 16 = .ok (.new 7, 3) := by decide +kernel
theorem dX3_init_19 : decode cX3_init 19 = .ok (.dup, 1) := by decide +kernel
theorem dX3_init_20 : decode cX3_init 20 = .ok (.invokespecial 9, 3) := by decide +kernel
theorem dX3_init_23 : decode cX3_init 23 = .ok (.putfield 16, 3) := by decide +kernel
theorem dX3_init_26 : decode cX3_init 26 = .ok (.aload_n 0, 1) := by decide +kernel
theorem dX3_init_27 : decode cX3_init 27 = .ok (.getfield 16, 3) := by decide +kernel
theorem dX3_init_30 : decode cX3_init 30 = .ok (.lconst 1, 1) := by decide +kernel
theorem dX3_init_31 : decode cX3_init 31 = .ok (.invokevirtual 19, 3) := by decide +kernel
theorem dX3_init_34 : decode cX3_init 34 = .ok (.return_, 1) := by decide +kernel
theorem dX3_zeros_0 : decode cX3_zeros 0 = .ok (.iconst 0, 1) := by decide +kernel
theorem dX3_zeros_1 : decode cX3_zeros 1 = .ok (.iload_n 0, 1) := by decide +kernel
theorem dX3_zeros_2 : decode cX3_zeros 2 = .ok (.invokestatic 23, 3) := by decide +kernel
theorem dX3_zeros_5 : decode cX3_zeros 5 = .ok (.anewarray 11, 3) := by decide +kernel
theorem dX3_zeros_8 : decode cX3_zeros 8 = .ok (.astore_n 1, 1) := by decide +kernel
theorem dX3_zeros_9 : decode cX3_zeros 9 = .ok (.iconst 0, 1) := by decide +kernel
theorem dX3_zeros_10 : decode cX3_zeros 10 = .ok (.istore_n 2, 1) := by decide +kernel
theorem dX3_zeros_11 : decode cX3_zeros 11 = .ok (.iload_n 2, 1) := by decide +kernel
theorem dX3_zeros_12 : decode cX3_zeros 12 = .ok (.aload_n 1, 1) := by decide +kernel
theorem dX3_zeros_13 : decode cX3_zeros 13 = .ok (.arraylength, 1) := by decide +kernel
theorem dX3_zeros_14 : decode cX3_zeros 14 = .ok (.if_icmp .ge 19, 3) := by decide +kernel
theorem dX3_zeros_17 : decode cX3_zeros 17 = .ok (.aload_n 1, 1) := by decide +kernel
theorem dX3_zeros_18 : decode cX3_zeros 18 = .ok (.iload_n 2, 1) := by decide +kernel
theorem dX3_zeros_19 : decode cX3_zeros 19 = .ok (.new 11, 3) := by decide +kernel
theorem dX3_zeros_22 : decode cX3_zeros 22 = .ok (.dup, 1) := by decide +kernel
theorem dX3_zeros_23 : decode cX3_zeros 23 = .ok (.invokespecial 29, 3) := by decide +kernel
theorem dX3_zeros_26 : decode cX3_zeros 26 = .ok (.aastore, 1) := by decide +kernel
theorem dX3_zeros_27 : decode cX3_zeros 27 = .ok (.iinc 2 1, 3) := by decide +kernel
theorem dX3_zeros_30 : decode cX3_zeros 30 = .ok (.goto (-19), 3) := by decide +kernel
theorem dX3_zeros_33 : decode cX3_zeros 33 = .ok (.aload_n 1, 1) := by decide +kernel
theorem dX3_zeros_34 : decode cX3_zeros 34 = .ok (.areturn, 1) := by decide +kernel
theorem dX3_isZero_0 : decode cX3_isZero 0 = .ok (.aload_n 0, 1) := by decide +kernel
theorem dX3_isZero_1 : decode cX3_isZero 1 = .ok (.getfield 10, 3) := by decide +kernel
theorem dX3_isZero_4 : decode cX3_isZero 4 = .ok (.invokevirtual 30, 3) := by decide +kernel
theorem dX3_isZero_7 : decode cX3_isZero 7 = .ok (.ireturn, 1) := by decide +kernel
theorem dX3_size_0 : decode cX3_size 0 = .ok (.aload_n 0, 1) := by decide +kernel
theorem dX3_size_1 : decode cX3_size 1 = .ok (.getfield 10, 3) := by decide +kernel
theorem dX3_size_4 : decode cX3_size 4 = .ok (.invokevirtual 34, 3) := by decide +kernel
theorem dX3_size_7 : decode cX3_size 7 = .ok (.aload_n 0, 1) := by decide +kernel
theorem dX3_size_8 : decode cX3_size 8 = .ok (.getfield 16, 3) := by decide +kernel
theorem dX3_size_11 : decode cX3_size 11 = .ok (.invokevirtual 34, 3) := by decide +kernel
theorem dX3_size_14 : decode cX3_size 14 = .ok (.iadd, 1) := by decide +kernel
theorem dX3_size_15 : decode cX3_size 15 = .ok (.ireturn, 1) := by decide +kernel
theorem dX3_setZero_0 : decode cX3_setZero 0 = .ok (.aload_n 0, 1) := by decide +kernel
theorem dX3_setZero_1 : decode cX3_setZero 1 = .ok (.iconst 0, 1) := by decide +kernel
theorem dX3_setZero_2 : decode cX3_setZero 2 = .ok (.putfield 38, 3) := by decide +kernel
theorem dX3_setZero_5 : decode cX3_setZero 5 = .ok (.aload_n 0, 1) := by decide +kernel
theorem dX3_setZero_6 : decode cX3_setZero 6 = .ok (.getfield 10, 3) := by decide +kernel
theorem dX3_setZero_9 : decode cX3_setZero 9 = .ok (.lconst 0, 1) := by decide +kernel
theorem dX3_setZero_10 : decode cX3_setZero 10 = .ok (.invokevirtual 19, 3) := by decide +kernel
theorem dX3_setZero_13 : decode cX3_setZero 13 = .ok (.aload_n 0, 1) := by decide +kernel
theorem dX3_setZero_14 : decode cX3_setZero 14 = .ok (.getfield 16, 3) := by decide +kernel
theorem dX3_setZero_17 : decode cX3_setZero 17 = .ok (.lconst 1, 1) := by decide +kernel
theorem dX3_setZero_18 : decode cX3_setZero 18 = .ok (.invokevirtual 19, 3) := by decide +kernel
theorem dX3_setZero_21 : decode cX3_setZero 21 = .ok (.return_, 1) := by decide +kernel
theorem dX3_setWhole_0 : decode cX3_setWhole 0 = .ok (.aload_n 0, 1) := by decide +kernel
theorem dX3_setWhole_1 : decode cX3_setWhole 1 = .ok (.iconst 0, 1) := by decide +kernel
theorem dX3_setWhole_2 : decode cX3_setWhole 2 = .ok (.putfield 38, 3) := by decide +kernel
theorem dX3_setWhole_5 : decode cX3_setWhole 5 = .ok (.aload_n 0, 1) := by decide +kernel
theorem dX3_setWhole_6 : decode cX3_setWhole 6 = .ok (.getfield 10, 3) := by decide +kernel
theorem dX3_setWhole_9 : decode cX3_setWhole 9 = .ok (.aload_n 1, 1) := by decide +kernel
theorem dX3_setWhole_10 : decode cX3_setWhole 10 = .ok (.invokevirtual 42, 3) := by decide +kernel
theorem dX3_setWhole_13 : decode cX3_setWhole 13 = .ok (.aload_n 0, 1) := by decide +kernel
theorem dX3_setWhole_14 : decode cX3_setWhole 14 = .ok (.getfield 16, 3) := by decide +kernel
theorem dX3_setWhole_17 : decode cX3_setWhole 17 = .ok (.lconst 1, 1) := by decide +kernel
theorem dX3_setWhole_18 : decode cX3_setWhole 18 = .ok (.invokevirtual 19, 3) := by decide +kernel
theorem dX3_setWhole_21 : decode cX3_setWhole 21 = .ok (.return_, 1) := by decide +kernel
theorem dX3_copy_0 : decode cX3_copy 0 = .ok (.aload_n 0, 1) := by decide +kernel
theorem dX3_copy_1 : decode cX3_copy 1 = .ok (.aload_n 1, 1) := by decide +kernel
theorem dX3_copy_2 : decode cX3_copy 2 = .ok (.getfield 38, 3) := by decide +kernel
theorem dX3_copy_5 : decode cX3_copy 5 = .ok (.aload_n 1, 1) := by decide +kernel
theorem dX3_copy_6 : decode cX3_copy 6 = .ok (.getfield 10, 3) := by decide +kernel
theorem dX3_copy_9 : decode cX3_copy 9 = .ok (.aload_n 1, 1) := by decide +kernel
theorem dX3_copy_10 : decode cX3_copy 10 = .ok (.getfield 16, 3) := by decide +kernel
theorem dX3_copy_13 : decode cX3_copy 13 = .ok (.invokevirtual 46, 3) := by decide +kernel
theorem dX3_copy_16 : decode cX3_copy 16 = .ok (.return_, 1) := by decide +kernel
theorem dX3_set_0 : decode cX3_set 0 = .ok (.aload_n 0, 1) := by decide +kernel
theorem dX3_set_1 : decode cX3_set 1 = .ok (.iload_n 1, 1) := by decide +kernel
theorem dX3_set_2 : decode cX3_set 2 = .ok (.ifCond .eq 14, 3) := by decide +kernel
theorem dX3_set_5 : decode cX3_set 5 = .ok (.aload_n 2, 1) := by decide +kernel
theorem dX3_set_6 : decode cX3_set 6 = .ok (.invokevirtual 30, 3) := by decide +kernel
theorem dX3_set_9 : decode cX3_set 9 = .ok (.ifCond .ne 7, 3) := by decide +kernel
theorem dX3_set_12 : decode cX3_set 12 = .ok (.iconst 1, 1) := by decide +kernel
theorem dX3_set_13 : decode cX3_set 13 = .ok (.goto 4, 3) := by decide +kernel
theorem dX3_set_16 : decode cX3_set 16 = .ok (.iconst 0, 1) := by decide +kernel
theorem dX3_set_17 : decode cX3_set 17 = .ok (.putfield 38, 3) := by decide +kernel
theorem dX3_set_20 : decode cX3_set 20 = .ok (.aload_n 0, 1) := by decide +kernel
theorem dX3_set_21 : decode cX3_set 21 = .ok (.getfield 10, 3) := by decide +kernel
theorem dX3_set_24 : decode cX3_set 24 = .ok (.aload_n 2, 1) := by decide +kernel
theorem dX3_set_25 : decode cX3_set 25 = .ok (.invokevirtual 42, 3) := by decide +kernel
theorem dX3_set_28 : decode cX3_set 28 = .ok (.aload_n 0, 1) := by decide +kernel
theorem dX3_set_29 : decode cX3_set 29 = .ok (.getfield 16, 3) := by decide +kernel
theorem dX3_set_32 : decode cX3_set 32 = .ok (.aload_n 3, 1) := by decide +kernel
theorem dX3_set_33 : decode cX3_set 33 = .ok (.invokevirtual 42, 3) := by decide +kernel
theorem dX3_set_36 : decode cX3_set 36 = .ok (.return_, 1) := by decide +kernel
theorem dX3_negate_0 : decode cX3_negate 0 = .ok (.aload_n 0, 1) := by decide +kernel
theorem dX3_negate_1 : decode cX3_negate 1 = .ok (.aload_n 0, 1) := by decide +kernel
theorem dX3_negate_2 : decode cX3_negate 2 = .ok (.getfield 38, 3) := by decide +kernel
theorem dX3_negate_5 : decode cX3_negate 5 = .ok (.ifCond .ne 17, 3) := by decide +kernel
theorem dX3_negate_8 : decode cX3_negate 8 = .ok (.aload_n 0, 1) := by decide +kernel
theorem dX3_negate_9 : decode cX3_negate 9 = .ok (.getfield 10, 3) := by decide +kernel
theorem dX3_negate_12 : decode cX3_negate 12 = .ok (.invokevirtual 30, 3) := by decide +kernel
theorem dX3_negate_15 : decode cX3_negate 15 = .ok (.ifCond .ne 7, 3) := by decide +kernel
theorem dX3_negate_18 : decode cX3_negate 18 = .ok (.iconst 1, 1) := by decide +kernel
theorem dX3_negate_19 : decode cX3_negate 19 = .ok (.goto 4, 3) := by decide +kernel
theorem dX3_negate_22 : decode cX3_negate 22 = .ok (.iconst 0, 1) := by decide +kernel
theorem dX3_negate_23 : decode cX3_negate 23 = .ok (.putfield 38, 3) := by decide +kernel
theorem dX3_negate_26 : decode cX3_negate 26 = .ok (.return_, 1) := by decide +kernel
theorem dX4_init_0 : decode cX4_init 0 = .ok (.aload_n 0, 1) := by decide +kernel
theorem dX4_init_1 : decode cX4_init 1 = .ok (.invokespecial 1, 3) := by decide +kernel
theorem dX4_init_4 : decode cX4_init 4 = .ok (.aload_n 0, 1) := by decide +kernel
theorem dX4_init_5 : decode cX4_init 5 = .ok (.new 7, 3) := by decide +kernel
theorem dX4_init_8 : decode cX4_init 8 = .ok (.dup, 1) := by decide +kernel
theorem dX4_init_9 : decode cX4_init 9 = .ok (.invokespecial 9, 3) := by decide +kernel
theorem dX4_init_12 : decode cX4_init 12 = .ok (.putfield 10, 3) := by decide +kernel
theorem dX4_init_15 : decode cX4_init 15 = .ok (.aload_n 0, 1) := by decide +kernel
theorem dX4_init_16 : decode cX4_init 16 = .ok (.new 7, 3) := by decide +kernel
theorem dX4_init_19 : decode cX4_init 19 = .ok (.dup, 1) := by decide +kernel
theorem dX4_init_20 : decode cX4_init 20 = .ok (.invokespecial 9, 3) := by decide +kernel
theorem dX4_init_23 : decode cX4_init 23 = .ok (.putfield 16, 3) := by decide +kernel
theorem dX4_init_26 : decode cX4_init 26 = .ok (.aload_n 0, 1) := by decide +kernel
theorem dX4_init_27 : decode cX4_init 27 = .ok (.new 7, 3) := by decide +kernel
theorem dX4_init_30 : decode cX4_init 30 = .ok (.dup, 1) := by decide +kernel
theorem dX4_init_31 : decode cX4_init 31 = .ok (.invokespecial 9, 3) := by decide +kernel
theorem dX4_init_34 : decode cX4_init 34 = .ok (.putfield 19, 3) := by decide +kernel
theorem dX4_init_37 : decode cX4_init 37 = .ok (.aload_n 0, 1) := by decide +kernel
theorem dX4_init_38 : decode cX4_init 38 = .ok (.new 7, 3) := by decide +kernel
theorem dX4_init_41 : decode cX4_init 41 = .ok (.dup, 1) := by decide +kernel
theorem dX4_init_42 : decode cX4_init 42 = .ok (.invokespecial 9, 3) := by decide +kernel
theorem dX4_init_45 : decode cX4_init 45 = .ok (.putfield 22, 3) := by decide +kernel
theorem dX4_init_48 : decode cX4_init 48 = .ok (.aload_n 0, 1) := by decide +kernel
theorem dX4_init_49 : decode cX4_init 49 = .ok (.new 7, 3) := by decide +kernel
theorem dX4_init_52 : decode cX4_init 52 = .ok (.dup, 1) := by decide +kernel
theorem dX4_init_53 : decode cX4_init 53 = .ok (.invokespecial 9, 3) := by decide +kernel
theorem dX4_init_56 : decode cX4_init 56 = .ok (.putfield 25, 3) := by decide +kernel
theorem dX4_init_59 : decode cX4_init 59 = .ok (.aload_n 0, 1) := by decide +kernel
theorem dX4_init_60 : decode cX4_init 60 = .ok (.new 7, 3) := by decide +kernel
theorem dX4_init_63 : decode cX4_init 63 = .ok (.dup, 1) := by decide +kernel
theorem dX4_init_64 : decode cX4_init 64 = .ok (.invokespecial 9, 3) := by decide +kernel
theorem dX4_init_67 : decode cX4_init 67 = .ok (.putfield 28, 3) := by decide +kernel
theorem dX4_init_70 : decode cX4_init 70 = .ok (.aload_n 0, 1) := by decide +kernel
theorem dX4_init_71 : decode cX4_init 71 = .ok (.new 7, 3) := by decide +kernel
theorem dX4_init_74 : decode cX4_init 74 = .ok (.dup, 1) := by decide +kernel
theorem dX4_init_75 : decode cX4_init 75 = .ok (.invokespecial 9, 3) := by decide +kernel
theorem dX4_init_78 : decode cX4_init 78 = .ok (.putfield 31, 3) := by decide +kernel
theorem dX4_init_81 : decode cX4_init 81 = .ok (.aload_n 0, 1) := by decide +kernel
theorem dX4_init_82 : decode cX4_init 82 = .ok (.new 7, 3) := by decide +kernel
theorem dX4_init_85 : decode cX4_init 85 = .ok (.dup, 1) := by decide +kernel
theorem dX4_init_86 : decode cX4_init 86 = .ok (.invokespecial 9, 3) := by decide +kernel
theorem dX4_init_89 : decode cX4_init 89 = .ok (.putfield 34, 3) := by decide +kernel
theorem dX4_init_92 : decode cX4_init 92 = .ok (.aload_n 0, 1) := by decide +kernel
theorem dX4_init_93 : decode cX4_init 93 = .ok (.aload_n 1, 1) := by decide +kernel
theorem dX4_init_94 : decode cX4_init 94 = .ok (.putfield 37, 3) := by decide +kernel
theorem dX4_init_97 : decode cX4_init 97 = .ok (.aload_n 0, 1) := by decide +kernel
theorem dX4_init_98 : decode cX4_init 98 = .ok (.getfield 16, 3) := by decide +kernel
theorem dX4_init_101 : decode cX4_init 101 = .ok (.lconst 1, 1) := by decide +kernel
theorem dX4_init_102 : decode cX4_init 102 = .ok (.invokevirtual 41, 3) := by decide +kernel
theorem dX4_init_105 : decode cX4_init 105 = .ok (.return_, 1) := by decide +kernel
theorem dX4_forget_0 : decode cX4_forget 0 = .ok (.aload_n 0, 1) := by decide +kernel
theorem dX4_forget_1 : decode cX4_forget 1 = .ok (.getfield 10, 3) := by decide +kernel
theorem dX4_forget_4 : decode cX4_forget 4 = .ok (.lconst 0, 1) := by decide +kernel
theorem dX4_forget_5 : decode cX4_forget 5 = .ok (.invokevirtual 41, 3) := by decide +kernel
theorem dX4_forget_8 : decode cX4_forget 8 = .ok (.aload_n 0, 1) := by decide +kernel
theorem dX4_forget_9 : decode cX4_forget 9 = .ok (.getfield 16, 3) := by decide +kernel
theorem dX4_forget_12 : decode cX4_forget 12 = .ok (.lconst 1, 1) := by decide +kernel
theorem dX4_forget_13 : decode cX4_forget 13 = .ok (.invokevirtual 41, 3) := by decide +kernel
theorem dX4_forget_16 : decode cX4_forget 16 = .ok (.aload_n 0, 1) := by decide +kernel
theorem dX4_forget_17 : decode cX4_forget 17 = .ok (.iconst 0, 1) := by decide +kernel
theorem dX4_forget_18 : decode cX4_forget 18 = .ok (.putfield 45, 3) := by decide +kernel
theorem dX4_forget_21 : decode cX4_forget 21 = .ok (.return_, 1) := by decide +kernel
theorem dX4_has_0 : decode cX4_has 0 = .ok (.aload_n 0, 1) := by decide +kernel
theorem dX4_has_1 : decode cX4_has 1 = .ok (.getfield 16, 3) := by decide +kernel
theorem dX4_has_4 : decode cX4_has 4 = .ok (.iload_n 1, 1) := by decide +kernel
theorem dX4_has_5 : decode cX4_has 5 = .ok (.invokevirtual 49, 3) := by decide +kernel
theorem dX4_has_8 : decode cX4_has 8 = .ok (.ifCond .ne 7, 3) := by decide +kernel
theorem dX4_has_11 : decode cX4_has 11 = .ok (.iconst 1, 1) := by decide +kernel
theorem dX4_has_12 : decode cX4_has 12 = .ok (.goto 4, 3) := by decide +kernel
theorem dX4_has_15 : decode cX4_has 15 = .ok (.iconst 0, 1) := by decide +kernel
theorem dX4_has_16 : decode cX4_has 16 = .ok (.ireturn, 1) := by decide +kernel
theorem dX4_join_0 : decode cX4_join 0 = .ok (.aload_n 0, 1) := by decide +kernel
theorem dX4_join_1 : decode cX4_join 1 = .ok (.getfield 19, 3) := by decide +kernel
theorem dX4_join_4 : decode cX4_join 4 = .ok (.aload_n 0, 1) := by decide +kernel
theorem dX4_join_5 : decode cX4_join 5 = .ok (.getfield 16, 3) := by decide +kernel
theorem dX4_join_8 : decode cX4_join 8 = .ok (.invokevirtual 53, 3) := by decide +kernel
theorem dX4_join_11 : decode cX4_join 11 = .ok (.aload_n 0, 1) := by decide +kernel
theorem dX4_join_12 : decode cX4_join 12 = .ok (.getfield 19, 3) := by decide +kernel
theorem dX4_join_15 : decode cX4_join 15 = .ok (.iload_n 1, 1) := by decide +kernel
theorem dX4_join_16 : decode cX4_join 16 = .ok (.invokevirtual 57, 3) := by decide +kernel
theorem dX4_join_19 : decode cX4_join 19 = .ok (.aload_n 0, 1) := by decide +kernel
theorem dX4_join_20 : decode cX4_join 20 = .ok (.getfield 19, 3) := by decide +kernel
theorem dX4_join_23 : decode cX4_join 23 = .ok (.invokevirtual 61, 3) := by decide +kernel
theorem dX4_join_26 : decode cX4_join 26 = .ok (.ifCond .ne 5, 3) := by decide +kernel
theorem dX4_join_29 : decode cX4_join 29 = .ok (.iconst 0, 1) := by decide +kernel
theorem dX4_join_30 : decode cX4_join 30 = .ok (.ireturn, 1) := by decide +kernel
theorem dX4_join_31 : decode cX4_join 31 = .ok (.iload_n 2, 1) := by decide +kernel
theorem dX4_join_32 : decode cX4_join 32 = .ok (.i2l, 1) := by decide +kernel
theorem dX4_join_33 : decode cX4_join 33 = .ok (.aload_n 0, 1) := by decide +kernel
theorem dX4_join_34 : decode cX4_join 34 = .ok (.getfield 10, 3) := by decide +kernel
theorem dX4_join_37 : decode cX4_join 37 = .ok (.iload_n 1, 1) := by decide +kernel
theorem dX4_join_38 : decode cX4_join 38 = .ok (.invokevirtual 49, 3) := by decide +kernel
theorem dX4_join_41 : decode cX4_join 41 = .ok (.i2l, 1) := by decide +kernel
theorem dX4_join_42 : decode cX4_join 42 = .ok (.lsub, 1) := by decide +kernel
theorem dX4_join_43 : decode cX4_join 43 = .ok (.lstore_n 3, 1) := by decide +kernel
theorem dX4_join_44 : decode cX4_join 44 = .ok (.lload_n 3, 1) := by decide +kernel
theorem dX4_join_45 : decode cX4_join 45 = .ok (.lconst 0, 1) := by decide +kernel
theorem dX4_join_46 : decode cX4_join 46 = .ok (.lcmp, 1) := by decide +kernel
theorem dX4_join_47 : decode cX4_join 47 = .ok (.ifCond .ge 8, 3) := by decide +kernel
theorem dX4_join_50 : decode cX4_join 50 = .ok (.lload_n 3, 1) := by decide +kernel
theorem dX4_join_51 : decode cX4_join 51 = .ok (.iload_n 1, 1) := by decide +kernel
theorem dX4_join_52 : decode cX4_join 52 = .ok (.i2l, 1) := by decide +kernel
theorem dX4_join_53 : decode cX4_join 53 = .ok (.ladd, 1) := by decide +kernel
theorem dX4_join_54 : decode cX4_join 54 = .ok (.lstore_n 3, 1) := by decide +kernel
theorem dX4_join_55 : decode cX4_join 55 = .ok (.aload_n 0, 1) := by decide +kernel
theorem dX4_join_56 : decode cX4_join 56 = .ok (.getfield 16, 3) := by decide +kernel
theorem dX4_join_59 : decode cX4_join 59 = .ok (.lload_n 3, 1) := by decide +kernel
theorem dX4_join_60 : decode cX4_join 60 = .ok (.aload_n 0, 1) := by decide +kernel
theorem dX4_join_61 : decode cX4_join 61 = .ok (.getfield 16, 3) := by decide +kernel
theorem dX4_join_64 : decode cX4_join 64 = .ok (.iload_n 1, 1) := by decide +kernel
theorem dX4_join_65 : decode cX4_join 65 = .ok (.invokevirtual 49, 3) := by decide +kernel
theorem dX4_join_68 : decode cX4_join 68 = .ok (.iload_n 1, 1) := by decide +kernel
theorem dX4_join_69 : decode cX4_join 69 = .ok (.invokestatic 65, 3) := by decide +kernel
theorem dX4_join_72 : decode cX4_join 72 = .ok (.lmul, 1) := by decide +kernel
theorem dX4_join_73 : decode cX4_join 73 = .ok (.iload_n 1, 1) := by decide +kernel
theorem dX4_join_74 : decode cX4_join 74 = .ok (.i2l, 1) := by decide +kernel
theorem dX4_join_75 : decode cX4_join 75 = .ok (.lrem, 1) := by decide +kernel
theorem dX4_join_76 : decode cX4_join 76 = .ok (.l2i, 1) := by decide +kernel
theorem dX4_join_77 : decode cX4_join 77 = .ok (.invokevirtual 57, 3) := by decide +kernel
theorem dX4_join_80 : decode cX4_join 80 = .ok (.aload_n 0, 1) := by decide +kernel
theorem dX4_join_81 : decode cX4_join 81 = .ok (.getfield 10, 3) := by decide +kernel
theorem dX4_join_84 : decode cX4_join 84 = .ok (.aload_n 0, 1) := by decide +kernel
theorem dX4_join_85 : decode cX4_join 85 = .ok (.getfield 16, 3) := by decide +kernel
theorem dX4_join_88 : decode cX4_join 88 = .ok (.invokevirtual 71, 3) := by decide +kernel
theorem dX4_join_91 : decode cX4_join 91 = .ok (.aload_n 0, 1) := by decide +kernel
theorem dX4_join_92 : decode cX4_join 92 = .ok (.getfield 16, 3) := by decide +kernel
theorem dX4_join_95 : decode cX4_join 95 = .ok (.aload_n 0, 1) := by decide +kernel
theorem dX4_join_96 : decode cX4_join 96 = .ok (.getfield 19, 3) := by decide +kernel
theorem dX4_join_99 : decode cX4_join 99 = .ok (.invokevirtual 53, 3) := by decide +kernel
theorem dX4_join_102 : decode cX4_join 102 = .ok (.aload_n 0, 1) := by decide +kernel
theorem dX4_join_103 : decode cX4_join 103 = .ok (.dup, 1) := by decide +kernel
theorem dX4_join_104 : decode cX4_join 104 = .ok (.getfield 45, 3) := by decide +kernel
theorem dX4_join_107 : decode cX4_join 107 = .ok (.iconst 1, 1) := by decide +kernel
theorem dX4_join_108 : decode cX4_join 108 = .ok (.iadd, 1) := by decide +kernel
theorem dX4_join_109 : decode cX4_join 109 = .ok (.putfield 45, 3) := by decide +kernel
theorem dX4_join_112 : decode cX4_join 112 = .ok (.iconst 1, 1) := by decide +kernel
theorem dX4_join_113 : decode cX4_join 113 = .ok (.ireturn, 1) := by decide +kernel
theorem dX4_tell_0 : decode cX4_tell 0 = .ok (.aload_n 0, 1) := by decide +kernel
theorem dX4_tell_1 : decode cX4_tell 1 = .ok (.getfield 25, 3) := by decide +kernel
theorem dX4_tell_4 : decode cX4_tell 4 = .ok (.astore_n 2, 1) := by decide +kernel
theorem dX4_tell_5 : decode cX4_tell 5 = .ok (.aload_n 0, 1) := by decide +kernel
theorem dX4_tell_6 : decode cX4_tell 6 = .ok (.getfield 28, 3) := by decide +kernel
theorem dX4_tell_9 : decode cX4_tell 9 = .ok (.astore_n 3, 1) := by decide +kernel
theorem dX4_tell_10 : decode cX4_tell 10 = .ok (.aload_n 0, 1) := by decide +kernel
theorem dX4_tell_11 : decode cX4_tell 11 = .ok (.getfield 31, 3) := by decide +kernel
theorem dX4_tell_14 : decode cX4_tell 14 = .ok (.astore 4, 2) := by decide +kernel
theorem dX4_tell_16 : decode cX4_tell 16 = .ok (.aload_n 0, 1) := by decide +kernel
theorem dX4_tell_17 : decode cX4_tell 17 = .ok (.getfield 34, 3) := by decide +kernel
theorem dX4_tell_20 : decode cX4_tell 20 = .ok (.astore 5, 2) := by decide +kernel
theorem dX4_tell_22 : decode cX4_tell 22 = .ok (.aload_n 2, 1) := by decide +kernel
theorem dX4_tell_23 : decode cX4_tell 23 = .ok (.aload_n 0, 1) := by decide +kernel
theorem dX4_tell_24 : decode cX4_tell 24 = .ok (.getfield 16, 3) := by decide +kernel
theorem dX4_tell_27 : decode cX4_tell 27 = .ok (.invokevirtual 53, 3) := by decide +kernel
theorem dX4_tell_30 : decode cX4_tell 30 = .ok (.aload_n 3, 1) := by decide +kernel
theorem dX4_tell_31 : decode cX4_tell 31 = .ok (.aload_n 0, 1) := by decide +kernel
theorem dX4_tell_32 : decode cX4_tell 32 = .ok (.getfield 10, 3) := by decide +kernel
theorem dX4_tell_35 : decode cX4_tell 35 = .ok (.invokevirtual 53, 3) := by decide +kernel
theorem dX4_tell_38 : decode cX4_tell 38 = .ok (.aload 4, 2) := by decide +kernel
theorem dX4_tell_40 : decode cX4_tell 40 = .ok (.lconst 0, 1) := by decide +kernel
theorem dX4_tell_41 : decode cX4_tell 41 = .ok (.invokevirtual 41, 3) := by decide +kernel
theorem dX4_tell_44 : decode cX4_tell 44 = .ok (.aload 5, 2) := by decide +kernel
theorem dX4_tell_46 : decode cX4_tell 46 = .ok (.lconst 1, 1) := by decide +kernel
theorem dX4_tell_47 : decode cX4_tell 47 = .ok (.invokevirtual 41, 3) := by decide +kernel
theorem dX4_tell_50 : decode cX4_tell 50 = .ok (.iconst 0, 1) := by decide +kernel
theorem dX4_tell_51 : decode cX4_tell 51 = .ok (.istore 6, 2) := by decide +kernel
theorem dX4_tell_53 : decode cX4_tell 53 = .ok (.iconst 0, 1) := by decide +kernel
theorem dX4_tell_54 : decode cX4_tell 54 = .ok (.istore 7, 2) := by decide +kernel
theorem dX4_tell_56 : decode cX4_tell 56 = .ok (.iload 7, 2) := by decide +kernel
theorem dX4_tell_58 : decode cX4_tell 58 = .ok (.ldc 76, 2) := by decide +kernel
theorem dX4_tell_60 : decode cX4_tell 60 = .ok (.if_icmp .ge 84, 3) := by decide +kernel
theorem dX4_tell_63 : decode cX4_tell 63 = .ok (.aload_n 0, 1) := by decide +kernel
theorem dX4_tell_64 : decode cX4_tell 64 = .ok (.aload_n 3, 1) := by decide +kernel
theorem dX4_tell_65 : decode cX4_tell 65 = .ok (.invokevirtual 77, 3) := by decide +kernel
theorem dX4_tell_68 : decode cX4_tell 68 = .ok (.ifCond .ne 76, 3) := by decide +kernel
theorem dX4_tell_71 : decode cX4_tell 71 = .ok (.aload_n 0, 1) := by decide +kernel
theorem dX4_tell_72 : decode cX4_tell 72 = .ok (.getfield 37, 3) := by decide +kernel
theorem dX4_tell_75 : decode cX4_tell 75 = .ok (.aload_n 2, 1) := by decide +kernel
theorem dX4_tell_76 : decode cX4_tell 76 = .ok (.aload_n 3, 1) := by decide +kernel
theorem dX4_tell_77 : decode cX4_tell 77 = .ok (.aload_n 0, 1) := by decide +kernel
theorem dX4_tell_78 : decode cX4_tell 78 = .ok (.getfield 22, 3) := by decide +kernel
theorem dX4_tell_81 : decode cX4_tell 81 = .ok (.invokevirtual 81, 3) := by decide +kernel
theorem dX4_tell_84 : decode cX4_tell 84 = .ok (.aload_n 0, 1) := by decide +kernel
theorem dX4_tell_85 : decode cX4_tell 85 = .ok (.getfield 19, 3) := by decide +kernel
theorem dX4_tell_88 : decode cX4_tell 88 = .ok (.aload_n 0, 1) := by decide +kernel
theorem dX4_tell_89 : decode cX4_tell 89 = .ok (.getfield 22, 3) := by decide +kernel
theorem dX4_tell_92 : decode cX4_tell 92 = .ok (.aload 5, 2) := by decide +kernel
theorem dX4_tell_94 : decode cX4_tell 94 = .ok (.invokevirtual 85, 3) := by decide +kernel
theorem dX4_tell_97 : decode cX4_tell 97 = .ok (.aload 4, 2) := by decide +kernel
theorem dX4_tell_99 : decode cX4_tell 99 = .ok (.aload_n 0, 1) := by decide +kernel
theorem dX4_tell_100 : decode cX4_tell 100 = .ok (.getfield 19, 3) := by decide +kernel
theorem dX4_tell_103 : decode cX4_tell 103 = .ok (.invokevirtual 71, 3) := by decide +kernel
theorem dX4_tell_106 : decode cX4_tell 106 = .ok (.aload_n 2, 1) := by decide +kernel
theorem dX4_tell_107 : decode cX4_tell 107 = .ok (.astore 8, 2) := by decide +kernel
theorem dX4_tell_109 : decode cX4_tell 109 = .ok (.aload_n 3, 1) := by decide +kernel
theorem dX4_tell_110 : decode cX4_tell 110 = .ok (.astore_n 2, 1) := by decide +kernel
theorem dX4_tell_111 : decode cX4_tell 111 = .ok (.aload 8, 2) := by decide +kernel
theorem dX4_tell_113 : decode cX4_tell 113 = .ok (.astore_n 3, 1) := by decide +kernel
theorem dX4_tell_114 : decode cX4_tell 114 = .ok (.aload 4, 2) := by decide +kernel
theorem dX4_tell_116 : decode cX4_tell 116 = .ok (.astore 8, 2) := by decide +kernel
theorem dX4_tell_118 : decode cX4_tell 118 = .ok (.aload 5, 2) := by decide +kernel
theorem dX4_tell_120 : decode cX4_tell 120 = .ok (.astore 4, 2) := by decide +kernel
theorem dX4_tell_122 : decode cX4_tell 122 = .ok (.aload 8, 2) := by decide +kernel
theorem dX4_tell_124 : decode cX4_tell 124 = .ok (.astore 5, 2) := by decide +kernel
theorem dX4_tell_126 : decode cX4_tell 126 = .ok (.iload 6, 2) := by decide +kernel
theorem dX4_tell_128 : decode cX4_tell 128 = .ok (.ifCond .ne 7, 3) := by decide +kernel
theorem dX4_tell_131 : decode cX4_tell 131 = .ok (.iconst 1, 1) := by decide +kernel
theorem dX4_tell_132 : decode cX4_tell 132 = .ok (.goto 4, 3) := by decide +kernel
theorem dX4_tell_135 : decode cX4_tell 135 = .ok (.iconst 0, 1) := by decide +kernel
theorem dX4_tell_136 : decode cX4_tell 136 = .ok (.istore 6, 2) := by decide +kernel
end
section
theorem dX4_tell_138 : decode cX4_tell 138 = .ok (.iinc 7 1, 3) := by decide +kernel
theorem dX4_tell_141 : decode cX4_tell 141 = .ok (.goto (-85), 3) := by decide +kernel
theorem dX4_tell_144 : decode cX4_tell 144 = .ok (.aload_n 0, 1) := by decide +kernel
theorem dX4_tell_145 : decode cX4_tell 145 = .ok (.aload 5, 2) := by decide +kernel
theorem dX4_tell_147 : decode cX4_tell 147 = .ok (.invokevirtual 77, 3) := by decide +kernel
theorem dX4_tell_150 : decode cX4_tell 150 = .ok (.ifCond .eq 16, 3) := by decide +kernel
theorem dX4_tell_153 : decode cX4_tell 153 = .ok (.aload_n 0, 1) := by decide +kernel
theorem dX4_tell_154 : decode cX4_tell 154 = .ok (.getfield 37, 3) := by decide +kernel
theorem dX4_tell_157 : decode cX4_tell 157 = .ok (.aload_n 3, 1) := by decide +kernel
theorem dX4_tell_158 : decode cX4_tell 158 = .ok (.aload 5, 2) := by decide +kernel
theorem dX4_tell_160 : decode cX4_tell 160 = .ok (.invokevirtual 89, 3) := by decide +kernel
theorem dX4_tell_163 : decode cX4_tell 163 = .ok (.ifCond .ne 5, 3) := by decide +kernel
theorem dX4_tell_166 : decode cX4_tell 166 = .ok (.iconst 0, 1) := by decide +kernel
theorem dX4_tell_167 : decode cX4_tell 167 = .ok (.ireturn, 1) := by decide +kernel
theorem dX4_tell_168 : decode cX4_tell 168 = .ok (.aload_n 1, 1) := by decide +kernel
theorem dX4_tell_169 : decode cX4_tell 169 = .ok (.iload 6, 2) := by decide +kernel
theorem dX4_tell_171 : decode cX4_tell 171 = .ok (.aload_n 3, 1) := by decide +kernel
theorem dX4_tell_172 : decode cX4_tell 172 = .ok (.aload 5, 2) := by decide +kernel
theorem dX4_tell_174 : decode cX4_tell 174 = .ok (.invokevirtual 93, 3) := by decide +kernel
theorem dX4_tell_177 : decode cX4_tell 177 = .ok (.iconst 1, 1) := by decide +kernel
theorem dX4_tell_178 : decode cX4_tell 178 = .ok (.ireturn, 1) := by decide +kernel
theorem dX4_isLow_0 : decode cX4_isLow 0 = .ok (.aload_n 0, 1) := by decide +kernel
theorem dX4_isLow_1 : decode cX4_isLow 1 = .ok (.getfield 19, 3) := by decide +kernel
theorem dX4_isLow_4 : decode cX4_isLow 4 = .ok (.aload_n 1, 1) := by decide +kernel
theorem dX4_isLow_5 : decode cX4_isLow 5 = .ok (.aload_n 1, 1) := by decide +kernel
theorem dX4_isLow_6 : decode cX4_isLow 6 = .ok (.invokevirtual 85, 3) := by decide +kernel
theorem dX4_isLow_9 : decode cX4_isLow 9 = .ok (.aload_n 0, 1) := by decide +kernel
theorem dX4_isLow_10 : decode cX4_isLow 10 = .ok (.getfield 19, 3) := by decide +kernel
theorem dX4_isLow_13 : decode cX4_isLow 13 = .ok (.iconst 1, 1) := by decide +kernel
theorem dX4_isLow_14 : decode cX4_isLow 14 = .ok (.invokevirtual 99, 3) := by decide +kernel
theorem dX4_isLow_17 : decode cX4_isLow 17 = .ok (.aload_n 0, 1) := by decide +kernel
theorem dX4_isLow_18 : decode cX4_isLow 18 = .ok (.getfield 19, 3) := by decide +kernel
theorem dX4_isLow_21 : decode cX4_isLow 21 = .ok (.aload_n 0, 1) := by decide +kernel
theorem dX4_isLow_22 : decode cX4_isLow 22 = .ok (.getfield 16, 3) := by decide +kernel
theorem dX4_isLow_25 : decode cX4_isLow 25 = .ok (.invokevirtual 102, 3) := by decide +kernel
theorem dX4_isLow_28 : decode cX4_isLow 28 = .ok (.ifCond .ge 7, 3) := by decide +kernel
theorem dX4_isLow_31 : decode cX4_isLow 31 = .ok (.iconst 1, 1) := by decide +kernel
theorem dX4_isLow_32 : decode cX4_isLow 32 = .ok (.goto 4, 3) := by decide +kernel
theorem dX4_isLow_35 : decode cX4_isLow 35 = .ok (.iconst 0, 1) := by decide +kernel
theorem dX4_isLow_36 : decode cX4_isLow 36 = .ok (.ireturn, 1) := by decide +kernel
theorem dX5_isPrime_0 : decode cX5_isPrime 0 = .ok (.iload_n 0, 1) := by decide +kernel
theorem dX5_isPrime_1 : decode cX5_isPrime 1 = .ok (.iconst 2, 1) := by decide +kernel
theorem dX5_isPrime_2 : decode cX5_isPrime 2 = .ok (.if_icmp .ge 5, 3) := by decide +kernel
theorem dX5_isPrime_5 : decode cX5_isPrime 5 = .ok (.iconst 0, 1) := by decide +kernel
theorem dX5_isPrime_6 : decode cX5_isPrime 6 = .ok (.ireturn, 1) := by decide +kernel
theorem dX5_isPrime_7 : decode cX5_isPrime 7 = .ok (.iconst 0, 1) := by decide +kernel
theorem dX5_isPrime_8 : decode cX5_isPrime 8 = .ok (.istore_n 1, 1) := by decide +kernel
theorem dX5_isPrime_9 : decode cX5_isPrime 9 = .ok (.iload_n 1, 1) := by decide +kernel
theorem dX5_isPrime_10 : decode cX5_isPrime 10 = .ok (.getstatic 7, 3) := by decide +kernel
theorem dX5_isPrime_13 : decode cX5_isPrime 13 = .ok (.arraylength, 1) := by decide +kernel
theorem dX5_isPrime_14 : decode cX5_isPrime 14 = .ok (.if_icmp .ge 34, 3) := by decide +kernel
theorem dX5_isPrime_17 : decode cX5_isPrime 17 = .ok (.iload_n 0, 1) := by decide +kernel
theorem dX5_isPrime_18 : decode cX5_isPrime 18 = .ok (.getstatic 7, 3) := by decide +kernel
theorem dX5_isPrime_21 : decode cX5_isPrime 21 = .ok (.iload_n 1, 1) := by decide +kernel
theorem dX5_isPrime_22 : decode cX5_isPrime 22 = .ok (.iaload, 1) := by decide +kernel
theorem dX5_isPrime_23 : decode cX5_isPrime 23 = .ok (.irem, 1) := by decide +kernel
theorem dX5_isPrime_24 : decode cX5_isPrime 24 = .ok (.ifCond .ne 18, 3) := by decide +kernel
theorem dX5_isPrime_27 : decode cX5_isPrime 27 = .ok (.iload_n 0, 1) := by decide +kernel
theorem dX5_isPrime_28 : decode cX5_isPrime 28 = .ok (.getstatic 7, 3) := by decide +kernel
theorem dX5_isPrime_31 : decode cX5_isPrime 31 = .ok (.iload_n 1, 1) := by decide +kernel
theorem dX5_isPrime_32 : decode cX5_isPrime 32 = .ok (.iaload, 1) := by decide +kernel
theorem dX5_isPrime_33 : decode cX5_isPrime 33 = .ok (.if_icmp .ne 7, 3) := by decide +kernel
theorem dX5_isPrime_36 : decode cX5_isPrime 36 = .ok (.iconst 1, 1) := by decide +kernel
theorem dX5_isPrime_37 : decode cX5_isPrime 37 = .ok (.goto 4, 3) := by decide +kernel
theorem dX5_isPrime_40 : decode cX5_isPrime 40 = .ok (.iconst 0, 1) := by decide +kernel
theorem dX5_isPrime_41 : decode cX5_isPrime 41 = .ok (.ireturn, 1) := by decide +kernel
theorem dX5_isPrime_42 : decode cX5_isPrime 42 = .ok (.iinc 1 1, 3) := by decide +kernel
theorem dX5_isPrime_45 : decode cX5_isPrime 45 = .ok (.goto (-36), 3) := by decide +kernel
theorem dX5_isPrime_48 : decode cX5_isPrime 48 = .ok (.iconst 0, 1) := by decide +kernel
theorem dX5_isPrime_49 : decode cX5_isPrime 49 = .ok (.istore_n 1, 1) := by decide +kernel
theorem dX5_isPrime_50 : decode cX5_isPrime 50 = .ok (.iload_n 1, 1) := by decide +kernel
theorem dX5_isPrime_51 : decode cX5_isPrime 51 = .ok (.getstatic 7, 3) := by decide +kernel
theorem dX5_isPrime_54 : decode cX5_isPrime 54 = .ok (.arraylength, 1) := by decide +kernel
theorem dX5_isPrime_55 : decode cX5_isPrime 55 = .ok (.if_icmp .ge 23, 3) := by decide +kernel
theorem dX5_isPrime_58 : decode cX5_isPrime 58 = .ok (.iload_n 0, 1) := by decide +kernel
theorem dX5_isPrime_59 : decode cX5_isPrime 59 = .ok (.getstatic 7, 3) := by decide +kernel
theorem dX5_isPrime_62 : decode cX5_isPrime 62 = .ok (.iload_n 1, 1) := by decide +kernel
theorem dX5_isPrime_63 : decode cX5_isPrime 63 = .ok (.iaload, 1) := by decide +kernel
theorem dX5_isPrime_64 : decode cX5_isPrime 64 = .ok (.invokestatic 13, 3) := by decide +kernel
theorem dX5_isPrime_67 : decode cX5_isPrime 67 = .ok (.ifCond .ne 5, 3) := by decide +kernel
theorem dX5_isPrime_70 : decode cX5_isPrime 70 = .ok (.iconst 0, 1) := by decide +kernel
theorem dX5_isPrime_71 : decode cX5_isPrime 71 = .ok (.ireturn, 1) := by decide +kernel
theorem dX5_isPrime_72 : decode cX5_isPrime 72 = .ok (.iinc 1 1, 3) := by decide +kernel
theorem dX5_isPrime_75 : decode cX5_isPrime 75 = .ok (.goto (-25), 3) := by decide +kernel
theorem dX5_isPrime_78 : decode cX5_isPrime 78 = .ok (.iconst 1, 1) := by decide +kernel
theorem dX5_isPrime_79 : decode cX5_isPrime 79 = .ok (.ireturn, 1) := by decide +kernel
theorem dX5_passes_0 : decode cX5_passes 0 = .ok (.iload_n 0, 1) := by decide +kernel
theorem dX5_passes_1 : decode cX5_passes 1 = .ok (.iconst 1, 1) := by decide +kernel
theorem dX5_passes_2 : decode cX5_passes 2 = .ok (.isub, 1) := by decide +kernel
theorem dX5_passes_3 : decode cX5_passes 3 = .ok (.invokestatic 17, 3) := by decide +kernel
theorem dX5_passes_6 : decode cX5_passes 6 = .ok (.istore_n 2, 1) := by decide +kernel
theorem dX5_passes_7 : decode cX5_passes 7 = .ok (.iload_n 1, 1) := by decide +kernel
theorem dX5_passes_8 : decode cX5_passes 8 = .ok (.i2l, 1) := by decide +kernel
theorem dX5_passes_9 : decode cX5_passes 9 = .ok (.iload_n 0, 1) := by decide +kernel
theorem dX5_passes_10 : decode cX5_passes 10 = .ok (.iconst 1, 1) := by decide +kernel
theorem dX5_passes_11 : decode cX5_passes 11 = .ok (.isub, 1) := by decide +kernel
theorem dX5_passes_12 : decode cX5_passes 12 = .ok (.iload_n 2, 1) := by decide +kernel
theorem dX5_passes_13 : decode cX5_passes 13 = .ok (.ishr, 1) := by decide +kernel
theorem dX5_passes_14 : decode cX5_passes 14 = .ok (.iload_n 0, 1) := by decide +kernel
theorem dX5_passes_15 : decode cX5_passes 15 = .ok (.invokestatic 23, 3) := by decide +kernel
theorem dX5_passes_18 : decode cX5_passes 18 = .ok (.lstore_n 3, 1) := by decide +kernel
theorem dX5_passes_19 : decode cX5_passes 19 = .ok (.lload_n 3, 1) := by decide +kernel
theorem dX5_passes_20 : decode cX5_passes 20 = .ok (.lconst 1, 1) := by decide +kernel
theorem dX5_passes_21 : decode cX5_passes 21 = .ok (.lcmp, 1) := by decide +kernel
theorem dX5_passes_22 : decode cX5_passes 22 = .ok (.ifCond .eq 12, 3) := by decide +kernel
theorem dX5_passes_25 : decode cX5_passes 25 = .ok (.lload_n 3, 1) := by decide +kernel
theorem dX5_passes_26 : decode cX5_passes 26 = .ok (.iload_n 0, 1) := by decide +kernel
theorem dX5_passes_27 : decode cX5_passes 27 = .ok (.iconst 1, 1) := by decide +kernel
theorem dX5_passes_28 : decode cX5_passes 28 = .ok (.isub, 1) := by decide +kernel
theorem dX5_passes_29 : decode cX5_passes 29 = .ok (.i2l, 1) := by decide +kernel
theorem dX5_passes_30 : decode cX5_passes 30 = .ok (.lcmp, 1) := by decide +kernel
theorem dX5_passes_31 : decode cX5_passes 31 = .ok (.ifCond .ne 5, 3) := by decide +kernel
theorem dX5_passes_34 : decode cX5_passes 34 = .ok (.iconst 1, 1) := by decide +kernel
theorem dX5_passes_35 : decode cX5_passes 35 = .ok (.ireturn, 1) := by decide +kernel
theorem dX5_passes_36 : decode cX5_passes 36 = .ok (.iconst 1, 1) := by decide +kernel
theorem dX5_passes_37 : decode cX5_passes 37 = .ok (.istore 5, 2) := by decide +kernel
theorem dX5_passes_39 : decode cX5_passes 39 = .ok (.iload 5, 2) := by decide +kernel
theorem dX5_passes_41 : decode cX5_passes 41 = .ok (.iload_n 2, 1) := by decide +kernel
theorem dX5_passes_42 : decode cX5_passes 42 = .ok (.if_icmp .ge 27, 3) := by decide +kernel
theorem dX5_passes_45 : decode cX5_passes 45 = .ok (.lload_n 3, 1) := by decide +kernel
theorem dX5_passes_46 : decode cX5_passes 46 = .ok (.lload_n 3, 1) := by decide +kernel
theorem dX5_passes_47 : decode cX5_passes 47 = .ok (.lmul, 1) := by decide +kernel
theorem dX5_passes_48 : decode cX5_passes 48 = .ok (.iload_n 0, 1) := by decide +kernel
theorem dX5_passes_49 : decode cX5_passes 49 = .ok (.i2l, 1) := by decide +kernel
theorem dX5_passes_50 : decode cX5_passes 50 = .ok (.lrem, 1) := by decide +kernel
theorem dX5_passes_51 : decode cX5_passes 51 = .ok (.lstore_n 3, 1) := by decide +kernel
theorem dX5_passes_52 : decode cX5_passes 52 = .ok (.lload_n 3, 1) := by decide +kernel
theorem dX5_passes_53 : decode cX5_passes 53 = .ok (.iload_n 0, 1) := by decide +kernel
theorem dX5_passes_54 : decode cX5_passes 54 = .ok (.iconst 1, 1) := by decide +kernel
theorem dX5_passes_55 : decode cX5_passes 55 = .ok (.isub, 1) := by decide +kernel
theorem dX5_passes_56 : decode cX5_passes 56 = .ok (.i2l, 1) := by decide +kernel
theorem dX5_passes_57 : decode cX5_passes 57 = .ok (.lcmp, 1) := by decide +kernel
theorem dX5_passes_58 : decode cX5_passes 58 = .ok (.ifCond .ne 5, 3) := by decide +kernel
theorem dX5_passes_61 : decode cX5_passes 61 = .ok (.iconst 1, 1) := by decide +kernel
theorem dX5_passes_62 : decode cX5_passes 62 = .ok (.ireturn, 1) := by decide +kernel
theorem dX5_passes_63 : decode cX5_passes 63 = .ok (.iinc 5 1, 3) := by decide +kernel
theorem dX5_passes_66 : decode cX5_passes 66 = .ok (.goto (-27), 3) := by decide +kernel
theorem dX5_passes_69 : decode cX5_passes 69 = .ok (.iconst 0, 1) := by decide +kernel
theorem dX5_passes_70 : decode cX5_passes 70 = .ok (.ireturn, 1) := by decide +kernel
theorem dX5_power_0 : decode cX5_power 0 = .ok (.lconst 1, 1) := by decide +kernel
theorem dX5_power_1 : decode cX5_power 1 = .ok (.lstore 4, 2) := by decide +kernel
theorem dX5_power_3 : decode cX5_power 3 = .ok (.lload_n 0, 1) := by decide +kernel
theorem dX5_power_4 : decode cX5_power 4 = .ok (.lstore 6, 2) := by decide +kernel
theorem dX5_power_6 : decode cX5_power 6 = .ok (.iload_n 2, 1) := by decide +kernel
theorem dX5_power_7 : decode cX5_power 7 = .ok (.istore 8, 2) := by decide +kernel
theorem dX5_power_9 : decode cX5_power 9 = .ok (.iload 8, 2) := by decide +kernel
theorem dX5_power_11 : decode cX5_power 11 = .ok (.ifCond .le 40, 3) := by decide +kernel
theorem dX5_power_14 : decode cX5_power 14 = .ok (.iload 8, 2) := by decide +kernel
theorem dX5_power_16 : decode cX5_power 16 = .ok (.iconst 1, 1) := by decide +kernel
theorem dX5_power_17 : decode cX5_power 17 = .ok (.iand, 1) := by decide +kernel
theorem dX5_power_18 : decode cX5_power 18 = .ok (.iconst 1, 1) := by decide +kernel
theorem dX5_power_19 : decode cX5_power 19 = .ok (.if_icmp .ne 13, 3) := by decide +kernel
theorem dX5_power_22 : decode cX5_power 22 = .ok (.lload 4, 2) := by decide +kernel
theorem dX5_power_24 : decode cX5_power 24 = .ok (.lload 6, 2) := by decide +kernel
theorem dX5_power_26 : decode cX5_power 26 = .ok (.lmul, 1) := by decide +kernel
theorem dX5_power_27 : decode cX5_power 27 = .ok (.iload_n 3, 1) := by decide +kernel
theorem dX5_power_28 : decode cX5_power 28 = .ok (.i2l, 1) := by decide +kernel
theorem dX5_power_29 : decode cX5_power 29 = .ok (.lrem, 1) := by decide +kernel
theorem dX5_power_30 : decode cX5_power 30 = .ok (.lstore 4, 2) := by decide +kernel
theorem dX5_power_32 : decode cX5_power 32 = .ok (.lload 6, 2) := by decide +kernel
theorem dX5_power_34 : decode cX5_power 34 = .ok (.lload 6, 2) := by decide +kernel
theorem dX5_power_36 : decode cX5_power 36 = .ok (.lmul, 1) := by decide +kernel
theorem dX5_power_37 : decode cX5_power 37 = .ok (.iload_n 3, 1) := by decide +kernel
theorem dX5_power_38 : decode cX5_power 38 = .ok (.i2l, 1) := by decide +kernel
theorem dX5_power_39 : decode cX5_power 39 = .ok (.lrem, 1) := by decide +kernel
theorem dX5_power_40 : decode cX5_power 40 = .ok (.lstore 6, 2) := by decide +kernel
theorem dX5_power_42 : decode cX5_power 42 = .ok (.iload 8, 2) := by decide +kernel
theorem dX5_power_44 : decode cX5_power 44 = .ok (.iconst 1, 1) := by decide +kernel
theorem dX5_power_45 : decode cX5_power 45 = .ok (.ishr, 1) := by decide +kernel
theorem dX5_power_46 : decode cX5_power 46 = .ok (.istore 8, 2) := by decide +kernel
theorem dX5_power_48 : decode cX5_power 48 = .ok (.goto (-39), 3) := by decide +kernel
theorem dX5_power_51 : decode cX5_power 51 = .ok (.lload 4, 2) := by decide +kernel
theorem dX5_power_53 : decode cX5_power 53 = .ok (.lreturn, 1) := by decide +kernel
theorem dX5_inverse_0 : decode cX5_inverse 0 = .ok (.iload_n 0, 1) := by decide +kernel
theorem dX5_inverse_1 : decode cX5_inverse 1 = .ok (.i2l, 1) := by decide +kernel
theorem dX5_inverse_2 : decode cX5_inverse 2 = .ok (.iload_n 1, 1) := by decide +kernel
theorem dX5_inverse_3 : decode cX5_inverse 3 = .ok (.iconst 2, 1) := by decide +kernel
theorem dX5_inverse_4 : decode cX5_inverse 4 = .ok (.isub, 1) := by decide +kernel
theorem dX5_inverse_5 : decode cX5_inverse 5 = .ok (.iload_n 1, 1) := by decide +kernel
theorem dX5_inverse_6 : decode cX5_inverse 6 = .ok (.invokestatic 23, 3) := by decide +kernel
theorem dX5_inverse_9 : decode cX5_inverse 9 = .ok (.lreturn, 1) := by decide +kernel
theorem dX6_init_0 : decode cX6_init 0 = .ok (.aload_n 0, 1) := by decide +kernel
theorem dX6_init_1 : decode cX6_init 1 = .ok (.invokespecial 1, 3) := by decide +kernel
theorem dX6_init_4 : decode cX6_init 4 = .ok (.aload_n 0, 1) := by decide +kernel
theorem dX6_init_5 : decode cX6_init 5 = .ok (.new 7, 3) := by decide +kernel
theorem dX6_init_8 : decode cX6_init 8 = .ok (.dup, 1) := by decide +kernel
theorem dX6_init_9 : decode cX6_init 9 = .ok (.invokespecial 9, 3) := by decide +kernel
theorem dX6_init_12 : decode cX6_init 12 = .ok (.putfield 10, 3) := by decide +kernel
theorem dX6_init_15 : decode cX6_init 15 = .ok (.aload_n 0, 1) := by decide +kernel
theorem dX6_init_16 : decode cX6_init 16 = .ok (.new 7, 3) := by decide +kernel
theorem dX6_init_19 : decode cX6_init 19 = .ok (.dup, 1) := by decide +kernel
theorem dX6_init_20 : decode cX6_init 20 = .ok (.invokespecial 9, 3) := by decide +kernel
theorem dX6_init_23 : decode cX6_init 23 = .ok (.putfield 16, 3) := by decide +kernel
theorem dX6_init_26 : decode cX6_init 26 = .ok (.aload_n 0, 1) := by decide +kernel
theorem dX6_init_27 : decode cX6_init 27 = .ok (.iload_n 1, 1) := by decide +kernel
theorem dX6_init_28 : decode cX6_init 28 = .ok (.putfield 19, 3) := by decide +kernel
theorem dX6_init_31 : decode cX6_init 31 = .ok (.aload_n 0, 1) := by decide +kernel
theorem dX6_init_32 : decode cX6_init 32 = .ok (.aload_n 2, 1) := by decide +kernel
theorem dX6_init_33 : decode cX6_init 33 = .ok (.putfield 23, 3) := by decide +kernel
theorem dX6_init_36 : decode cX6_init 36 = .ok (.aload_n 0, 1) := by decide +kernel
theorem dX6_init_37 : decode cX6_init 37 = .ok (.iload_n 1, 1) := by decide +kernel
theorem dX6_init_38 : decode cX6_init 38 = .ok (.newarray .int, 2) := by decide +kernel
theorem dX6_init_40 : decode cX6_init 40 = .ok (.putfield 27, 3) := by decide +kernel
theorem dX6_init_43 : decode cX6_init 43 = .ok (.aload_n 0, 1) := by decide +kernel
theorem dX6_init_44 : decode cX6_init 44 = .ok (.iload_n 1, 1) := by decide +kernel
theorem dX6_init_45 : decode cX6_init 45 = .ok (.newarray .int, 2) := by decide +kernel
theorem dX6_init_47 : decode cX6_init 47 = .ok (.putfield 31, 3) := by decide +kernel
theorem dX6_init_50 : decode cX6_init 50 = .ok (.aload_n 0, 1) := by decide +kernel
theorem dX6_init_51 : decode cX6_init 51 = .ok (.iload_n 1, 1) := by decide +kernel
theorem dX6_init_52 : decode cX6_init 52 = .ok (.newarray .int, 2) := by decide +kernel
theorem dX6_init_54 : decode cX6_init 54 = .ok (.putfield 34, 3) := by decide +kernel
theorem dX6_init_57 : decode cX6_init 57 = .ok (.aload_n 0, 1) := by decide +kernel
theorem dX6_init_58 : decode cX6_init 58 = .ok (.iload_n 1, 1) := by decide +kernel
theorem dX6_init_59 : decode cX6_init 59 = .ok (.invokestatic 37, 3) := by decide +kernel
theorem dX6_init_62 : decode cX6_init 62 = .ok (.putfield 41, 3) := by decide +kernel
theorem dX6_init_65 : decode cX6_init 65 = .ok (.return_, 1) := by decide +kernel
theorem dX6_forget_0 : decode cX6_forget 0 = .ok (.aload_n 0, 1) := by decide +kernel
theorem dX6_forget_1 : decode cX6_forget 1 = .ok (.iconst 0, 1) := by decide +kernel
theorem dX6_forget_2 : decode cX6_forget 2 = .ok (.putfield 45, 3) := by decide +kernel
theorem dX6_forget_5 : decode cX6_forget 5 = .ok (.return_, 1) := by decide +kernel
theorem dX6_fill_0 : decode cX6_fill 0 = .ok (.aload_n 0, 1) := by decide +kernel
theorem dX6_fill_1 : decode cX6_fill 1 = .ok (.aload_n 1, 1) := by decide +kernel
theorem dX6_fill_2 : decode cX6_fill 2 = .ok (.getfield 49, 3) := by decide +kernel
theorem dX6_fill_5 : decode cX6_fill 5 = .ok (.putfield 54, 3) := by decide +kernel
theorem dX6_fill_8 : decode cX6_fill 8 = .ok (.iconst 0, 1) := by decide +kernel
theorem dX6_fill_9 : decode cX6_fill 9 = .ok (.istore_n 2, 1) := by decide +kernel
theorem dX6_fill_10 : decode cX6_fill 10 = .ok (.iload_n 2, 1) := by decide +kernel
theorem dX6_fill_11 : decode cX6_fill 11 = .ok (.aload_n 0, 1) := by decide +kernel
theorem dX6_fill_12 : decode cX6_fill 12 = .ok (.getfield 54, 3) := by decide +kernel
theorem dX6_fill_15 : decode cX6_fill 15 = .ok (.if_icmp .ge 47, 3) := by decide +kernel
theorem dX6_fill_18 : decode cX6_fill 18 = .ok (.aload_n 0, 1) := by decide +kernel
theorem dX6_fill_19 : decode cX6_fill 19 = .ok (.getfield 27, 3) := by decide +kernel
theorem dX6_fill_22 : decode cX6_fill 22 = .ok (.iload_n 2, 1) := by decide +kernel
theorem dX6_fill_23 : decode cX6_fill 23 = .ok (.aload_n 1, 1) := by decide +kernel
theorem dX6_fill_24 : decode cX6_fill 24 = .ok (.getfield 55, 3) := by decide +kernel
theorem dX6_fill_27 : decode cX6_fill 27 = .ok (.iload_n 2, 1) := by decide +kernel
theorem dX6_fill_28 : decode cX6_fill 28 = .ok (.iaload, 1) := by decide +kernel
theorem dX6_fill_29 : decode cX6_fill 29 = .ok (.iastore, 1) := by decide +kernel
theorem dX6_fill_30 : decode cX6_fill 30 = .ok (.aload_n 0, 1) := by decide +kernel
theorem dX6_fill_31 : decode cX6_fill 31 = .ok (.getfield 31, 3) := by decide +kernel
theorem dX6_fill_34 : decode cX6_fill 34 = .ok (.iload_n 2, 1) := by decide +kernel
theorem dX6_fill_35 : decode cX6_fill 35 = .ok (.aload_n 1, 1) := by decide +kernel
theorem dX6_fill_36 : decode cX6_fill 36 = .ok (.getfield 58, 3) := by decide +kernel
theorem dX6_fill_39 : decode cX6_fill 39 = .ok (.iload_n 2, 1) := by decide +kernel
theorem dX6_fill_40 : decode cX6_fill 40 = .ok (.iaload, 1) := by decide +kernel
theorem dX6_fill_41 : decode cX6_fill 41 = .ok (.iastore, 1) := by decide +kernel
theorem dX6_fill_42 : decode cX6_fill 42 = .ok (.aload_n 0, 1) := by decide +kernel
theorem dX6_fill_43 : decode cX6_fill 43 = .ok (.getfield 34, 3) := by decide +kernel
theorem dX6_fill_46 : decode cX6_fill 46 = .ok (.iload_n 2, 1) := by decide +kernel
theorem dX6_fill_47 : decode cX6_fill 47 = .ok (.aload_n 1, 1) := by decide +kernel
theorem dX6_fill_48 : decode cX6_fill 48 = .ok (.iload_n 2, 1) := by decide +kernel
theorem dX6_fill_49 : decode cX6_fill 49 = .ok (.invokevirtual 61, 3) := by decide +kernel
theorem dX6_fill_52 : decode cX6_fill 52 = .ok (.invokevirtual 65, 3) := by decide +kernel
theorem dX6_fill_55 : decode cX6_fill 55 = .ok (.iastore, 1) := by decide +kernel
theorem dX6_fill_56 : decode cX6_fill 56 = .ok (.iinc 2 1, 3) := by decide +kernel
theorem dX6_fill_59 : decode cX6_fill 59 = .ok (.goto (-49), 3) := by decide +kernel
theorem dX6_fill_62 : decode cX6_fill 62 = .ok (.aload_n 0, 1) := by decide +kernel
theorem dX6_fill_63 : decode cX6_fill 63 = .ok (.aload_n 1, 1) := by decide +kernel
theorem dX6_fill_64 : decode cX6_fill 64 = .ok (.invokevirtual 69, 3) := by decide +kernel
theorem dX6_fill_67 : decode cX6_fill 67 = .ok (.putfield 73, 3) := by decide +kernel
theorem dX6_fill_70 : decode cX6_fill 70 = .ok (.aload_n 0, 1) := by decide +kernel
theorem dX6_fill_71 : decode cX6_fill 71 = .ok (.aload_n 0, 1) := by decide +kernel
theorem dX6_fill_72 : decode cX6_fill 72 = .ok (.getfield 73, 3) := by decide +kernel
theorem dX6_fill_75 : decode cX6_fill 75 = .ok (.ifCond .eq 14, 3) := by decide +kernel
theorem dX6_fill_78 : decode cX6_fill 78 = .ok (.aload_n 1, 1) := by decide +kernel
theorem dX6_fill_79 : decode cX6_fill 79 = .ok (.aload_n 0, 1) := by decide +kernel
theorem dX6_fill_80 : decode cX6_fill 80 = .ok (.getfield 41, 3) := by decide +kernel
theorem dX6_fill_83 : decode cX6_fill 83 = .ok (.invokevirtual 75, 3) := by decide +kernel
theorem dX6_fill_86 : decode cX6_fill 86 = .ok (.ifCond .eq 7, 3) := by decide +kernel
theorem dX6_fill_89 : decode cX6_fill 89 = .ok (.iconst 1, 1) := by decide +kernel
theorem dX6_fill_90 : decode cX6_fill 90 = .ok (.goto 4, 3) := by decide +kernel
theorem dX6_fill_93 : decode cX6_fill 93 = .ok (.iconst 0, 1) := by decide +kernel
theorem dX6_fill_94 : decode cX6_fill 94 = .ok (.putfield 45, 3) := by decide +kernel
theorem dX6_fill_97 : decode cX6_fill 97 = .ok (.aload_n 0, 1) := by decide +kernel
theorem dX6_fill_98 : decode cX6_fill 98 = .ok (.getfield 45, 3) := by decide +kernel
theorem dX6_fill_101 : decode cX6_fill 101 = .ok (.ireturn, 1) := by decide +kernel
theorem dX6_tellsUnknowns_0 : decode cX6_tellsUnknowns 0 = .ok (.aload_n 0, 1) := by decide +kernel
theorem dX6_tellsUnknowns_1 : decode cX6_tellsUnknowns 1 = .ok (.getfield 45, 3) := by decide +kernel
theorem dX6_tellsUnknowns_4 : decode cX6_tellsUnknowns 4 = .ok (.ifCond .eq 14, 3) := by decide +kernel
theorem dX6_tellsUnknowns_7 : decode cX6_tellsUnknowns 7 = .ok (.aload_n 0, 1) := by decide +kernel
theorem dX6_tellsUnknowns_8 : decode cX6_tellsUnknowns 8 = .ok (.getfield 73, 3) := by decide +kernel
theorem dX6_tellsUnknowns_11 : decode cX6_tellsUnknowns 11 = .ok (.ifCond .eq 7, 3) := by decide +kernel
theorem dX6_tellsUnknowns_14 : decode cX6_tellsUnknowns 14 = .ok (.iconst 1, 1) := by decide +kernel
theorem dX6_tellsUnknowns_15 : decode cX6_tellsUnknowns 15 = .ok (.goto 4, 3) := by decide +kernel
theorem dX6_tellsUnknowns_18 : decode cX6_tellsUnknowns 18 = .ok (.iconst 0, 1) := by decide +kernel
theorem dX6_tellsUnknowns_19 : decode cX6_tellsUnknowns 19 = .ok (.ireturn, 1) := by decide +kernel
theorem dX6_addUp_0 : decode cX6_addUp 0 = .ok (.aload_n 0, 1) := by decide +kernel
theorem dX6_addUp_1 : decode cX6_addUp 1 = .ok (.getfield 16, 3) := by decide +kernel
theorem dX6_addUp_4 : decode cX6_addUp 4 = .ok (.invokevirtual 79, 3) := by decide +kernel
theorem dX6_addUp_7 : decode cX6_addUp 7 = .ok (.iconst 0, 1) := by decide +kernel
theorem dX6_addUp_8 : decode cX6_addUp 8 = .ok (.istore_n 3, 1) := by decide +kernel
theorem dX6_addUp_9 : decode cX6_addUp 9 = .ok (.iload_n 3, 1) := by decide +kernel
theorem dX6_addUp_10 : decode cX6_addUp 10 = .ok (.aload_n 0, 1) := by decide +kernel
theorem dX6_addUp_11 : decode cX6_addUp 11 = .ok (.getfield 19, 3) := by decide +kernel
theorem dX6_addUp_14 : decode cX6_addUp 14 = .ok (.if_icmp .ge 71, 3) := by decide +kernel
theorem dX6_addUp_17 : decode cX6_addUp 17 = .ok (.aload_n 1, 1) := by decide +kernel
theorem dX6_addUp_18 : decode cX6_addUp 18 = .ok (.iload_n 2, 1) := by decide +kernel
theorem dX6_addUp_19 : decode cX6_addUp 19 = .ok (.aload_n 0, 1) := by decide +kernel
theorem dX6_addUp_20 : decode cX6_addUp 20 = .ok (.getfield 19, 3) := by decide +kernel
theorem dX6_addUp_23 : decode cX6_addUp 23 = .ok (.iconst 1, 1) := by decide +kernel
theorem dX6_addUp_24 : decode cX6_addUp 24 = .ok (.iadd, 1) := by decide +kernel
theorem dX6_addUp_25 : decode cX6_addUp 25 = .ok (.imul, 1) := by decide +kernel
theorem dX6_addUp_26 : decode cX6_addUp 26 = .ok (.iload_n 3, 1) := by decide +kernel
theorem dX6_addUp_27 : decode cX6_addUp 27 = .ok (.iadd, 1) := by decide +kernel
theorem dX6_addUp_28 : decode cX6_addUp 28 = .ok (.aaload, 1) := by decide +kernel
theorem dX6_addUp_29 : decode cX6_addUp 29 = .ok (.astore 4, 2) := by decide +kernel
theorem dX6_addUp_31 : decode cX6_addUp 31 = .ok (.aload_n 0, 1) := by decide +kernel
theorem dX6_addUp_32 : decode cX6_addUp 32 = .ok (.getfield 23, 3) := by decide +kernel
theorem dX6_addUp_35 : decode cX6_addUp 35 = .ok (.aload 4, 2) := by decide +kernel
theorem dX6_addUp_37 : decode cX6_addUp 37 = .ok (.aload_n 0, 1) := by decide +kernel
theorem dX6_addUp_38 : decode cX6_addUp 38 = .ok (.getfield 41, 3) := by decide +kernel
theorem dX6_addUp_41 : decode cX6_addUp 41 = .ok (.iload_n 3, 1) := by decide +kernel
theorem dX6_addUp_42 : decode cX6_addUp 42 = .ok (.aaload, 1) := by decide +kernel
theorem dX6_addUp_43 : decode cX6_addUp 43 = .ok (.iconst 0, 1) := by decide +kernel
theorem dX6_addUp_44 : decode cX6_addUp 44 = .ok (.aload_n 0, 1) := by decide +kernel
theorem dX6_addUp_45 : decode cX6_addUp 45 = .ok (.getfield 10, 3) := by decide +kernel
theorem dX6_addUp_48 : decode cX6_addUp 48 = .ok (.invokevirtual 82, 3) := by decide +kernel
theorem dX6_addUp_51 : decode cX6_addUp 51 = .ok (.ifCond .eq 26, 3) := by decide +kernel
theorem dX6_addUp_54 : decode cX6_addUp 54 = .ok (.aload_n 0, 1) := by decide +kernel
theorem dX6_addUp_55 : decode cX6_addUp 55 = .ok (.getfield 23, 3) := by decide +kernel
theorem dX6_addUp_58 : decode cX6_addUp 58 = .ok (.aload_n 0, 1) := by decide +kernel
theorem dX6_addUp_59 : decode cX6_addUp 59 = .ok (.getfield 16, 3) := by decide +kernel
theorem dX6_addUp_62 : decode cX6_addUp 62 = .ok (.aload_n 0, 1) := by decide +kernel
theorem dX6_addUp_63 : decode cX6_addUp 63 = .ok (.getfield 10, 3) := by decide +kernel
theorem dX6_addUp_66 : decode cX6_addUp 66 = .ok (.iconst 0, 1) := by decide +kernel
theorem dX6_addUp_67 : decode cX6_addUp 67 = .ok (.aload_n 0, 1) := by decide +kernel
theorem dX6_addUp_68 : decode cX6_addUp 68 = .ok (.getfield 16, 3) := by decide +kernel
theorem dX6_addUp_71 : decode cX6_addUp 71 = .ok (.invokevirtual 88, 3) := by decide +kernel
theorem dX6_addUp_74 : decode cX6_addUp 74 = .ok (.ifCond .ne 5, 3) := by decide +kernel
theorem dX6_addUp_77 : decode cX6_addUp 77 = .ok (.iconst 0, 1) := by decide +kernel
theorem dX6_addUp_78 : decode cX6_addUp 78 = .ok (.ireturn, 1) := by decide +kernel
theorem dX6_addUp_79 : decode cX6_addUp 79 = .ok (.iinc 3 1, 3) := by decide +kernel
theorem dX6_addUp_82 : decode cX6_addUp 82 = .ok (.goto (-73), 3) := by decide +kernel
theorem dX6_addUp_85 : decode cX6_addUp 85 = .ok (.iconst 1, 1) := by decide +kernel
theorem dX6_addUp_86 : decode cX6_addUp 86 = .ok (.ireturn, 1) := by decide +kernel
theorem dX7_init_0 : decode cX7_init 0 = .ok (.aload_n 0, 1) := by decide +kernel
theorem dX7_init_1 : decode cX7_init 1 = .ok (.invokespecial 1, 3) := by decide +kernel
theorem dX7_init_4 : decode cX7_init 4 = .ok (.aload_n 0, 1) := by decide +kernel
theorem dX7_init_5 : decode cX7_init 5 = .ok (.new 7, 3) := by decide +kernel
theorem dX7_init_8 : decode cX7_init 8 = .ok (.dup, 1) := by decide +kernel
theorem dX7_init_9 : decode cX7_init 9 = .ok (.invokespecial 9, 3) := by decide +kernel
theorem dX7_init_12 : decode cX7_init 12 = .ok (.putfield 10, 3) := by decide +kernel
theorem dX7_init_15 : decode cX7_init 15 = .ok (.aload_n 0, 1) := by decide +kernel
theorem dX7_init_16 : decode cX7_init 16 = .ok (.new 7, 3) := by decide +kernel
theorem dX7_init_19 : decode cX7_init 19 = .ok (.dup, 1) := by decide +kernel
theorem dX7_init_20 : decode cX7_init 20 = .ok (.invokespecial 9, 3) := by decide +kernel
theorem dX7_init_23 : decode cX7_init 23 = .ok (.putfield 16, 3) := by decide +kernel
theorem dX7_init_26 : decode cX7_init 26 = .ok (.aload_n 0, 1) := by decide +kernel
theorem dX7_init_27 : decode cX7_init 27 = .ok (.new 7, 3) := by decide +kernel
theorem dX7_init_30 : decode cX7_init 30 = .ok (.dup, 1) := by decide +kernel
theorem dX7_init_31 : decode cX7_init 31 = .ok (.invokespecial 9, 3) := by decide +kernel
theorem dX7_init_34 : decode cX7_init 34 = .ok (.putfield 19, 3) := by decide +kernel
theorem dX7_init_37 : decode cX7_init 37 = .ok (.aload_n 0, 1) := by decide +kernel
theorem dX7_init_38 : decode cX7_init 38 = .ok (.bipush 90, 2) := by decide +kernel
theorem dX7_init_40 : decode cX7_init 40 = .ok (.newarray .byte, 2) := by decide +kernel
theorem dX7_init_42 : decode cX7_init 42 = .ok (.putfield 22, 3) := by decide +kernel
theorem dX7_init_45 : decode cX7_init 45 = .ok (.aload_n 0, 1) := by decide +kernel
theorem dX7_init_46 : decode cX7_init 46 = .ok (.aload_n 1, 1) := by decide +kernel
theorem dX7_init_47 : decode cX7_init 47 = .ok (.putfield 26, 3) := by decide +kernel
theorem dX7_init_50 : decode cX7_init 50 = .ok (.aload_n 0, 1) := by decide +kernel
theorem dX7_init_51 : decode cX7_init 51 = .ok (.getfield 10, 3) := by decide +kernel
theorem dX7_init_54 : decode cX7_init 54 = .ok (.lconst 1, 1) := by decide +kernel
theorem dX7_init_55 : decode cX7_init 55 = .ok (.invokevirtual 30, 3) := by decide +kernel
theorem dX7_init_58 : decode cX7_init 58 = .ok (.return_, 1) := by decide +kernel
theorem dX7_write_0 : decode cX7_write 0 = .ok (.aload_n 0, 1) := by decide +kernel
theorem dX7_write_1 : decode cX7_write 1 = .ok (.getfield 16, 3) := by decide +kernel
theorem dX7_write_4 : decode cX7_write 4 = .ok (.aload_n 1, 1) := by decide +kernel
theorem dX7_write_5 : decode cX7_write 5 = .ok (.getfield 34, 3) := by decide +kernel
theorem dX7_write_8 : decode cX7_write 8 = .ok (.invokevirtual 39, 3) := by decide +kernel
theorem dX7_write_11 : decode cX7_write 11 = .ok (.iconst 0, 1) := by decide +kernel
theorem dX7_write_12 : decode cX7_write 12 = .ok (.istore 4, 2) := by decide +kernel
theorem dX7_write_14 : decode cX7_write 14 = .ok (.iload 4, 2) := by decide +kernel
theorem dX7_write_16 : decode cX7_write 16 = .ok (.iload_n 2, 1) := by decide +kernel
theorem dX7_write_17 : decode cX7_write 17 = .ok (.if_icmp .ge 18, 3) := by decide +kernel
theorem dX7_write_20 : decode cX7_write 20 = .ok (.aload_n 0, 1) := by decide +kernel
theorem dX7_write_21 : decode cX7_write 21 = .ok (.getfield 16, 3) := by decide +kernel
theorem dX7_write_24 : decode cX7_write 24 = .ok (.bipush 10, 2) := by decide +kernel
theorem dX7_write_26 : decode cX7_write 26 = .ok (.invokevirtual 43, 3) := by decide +kernel
theorem dX7_write_29 : decode cX7_write 29 = .ok (.iinc 4 1, 3) := by decide +kernel
theorem dX7_write_32 : decode cX7_write 32 = .ok (.goto (-18), 3) := by decide +kernel
theorem dX7_write_35 : decode cX7_write 35 = .ok (.aload_n 0, 1) := by decide +kernel
theorem dX7_write_36 : decode cX7_write 36 = .ok (.getfield 26, 3) := by decide +kernel
theorem dX7_write_39 : decode cX7_write 39 = .ok (.aload_n 0, 1) := by decide +kernel
theorem dX7_write_40 : decode cX7_write 40 = .ok (.getfield 16, 3) := by decide +kernel
theorem dX7_write_43 : decode cX7_write 43 = .ok (.aload_n 1, 1) := by decide +kernel
theorem dX7_write_44 : decode cX7_write 44 = .ok (.getfield 47, 3) := by decide +kernel
theorem dX7_write_47 : decode cX7_write 47 = .ok (.aload_n 0, 1) := by decide +kernel
theorem dX7_write_48 : decode cX7_write 48 = .ok (.getfield 19, 3) := by decide +kernel
theorem dX7_write_51 : decode cX7_write 51 = .ok (.invokevirtual 50, 3) := by decide +kernel
theorem dX7_write_54 : decode cX7_write 54 = .ok (.aload_n 0, 1) := by decide +kernel
theorem dX7_write_55 : decode cX7_write 55 = .ok (.getfield 16, 3) := by decide +kernel
theorem dX7_write_58 : decode cX7_write 58 = .ok (.invokevirtual 56, 3) := by decide +kernel
theorem dX7_write_61 : decode cX7_write 61 = .ok (.ifCond .ne 22, 3) := by decide +kernel
theorem dX7_write_64 : decode cX7_write 64 = .ok (.iload_n 3, 1) := by decide +kernel
theorem dX7_write_65 : decode cX7_write 65 = .ok (.aload_n 1, 1) := by decide +kernel
theorem dX7_write_66 : decode cX7_write 66 = .ok (.getfield 60, 3) := by decide +kernel
theorem dX7_write_69 : decode cX7_write 69 = .ok (.if_icmp .eq 14, 3) := by decide +kernel
theorem dX7_write_72 : decode cX7_write 72 = .ok (.aload_n 0, 1) := by decide +kernel
theorem dX7_write_73 : decode cX7_write 73 = .ok (.getfield 19, 3) := by decide +kernel
theorem dX7_write_76 : decode cX7_write 76 = .ok (.aload_n 0, 1) := by decide +kernel
theorem dX7_write_77 : decode cX7_write 77 = .ok (.getfield 10, 3) := by decide +kernel
theorem dX7_write_80 : decode cX7_write 80 = .ok (.invokevirtual 64, 3) := by decide +kernel
theorem dX7_write_83 : decode cX7_write 83 = .ok (.aload_n 1, 1) := by decide +kernel
theorem dX7_write_84 : decode cX7_write 84 = .ok (.getfield 60, 3) := by decide +kernel
theorem dX7_write_87 : decode cX7_write 87 = .ok (.ifCond .eq 17, 3) := by decide +kernel
theorem dX7_write_90 : decode cX7_write 90 = .ok (.aload_n 0, 1) := by decide +kernel
theorem dX7_write_91 : decode cX7_write 91 = .ok (.getfield 19, 3) := by decide +kernel
theorem dX7_write_94 : decode cX7_write 94 = .ok (.invokevirtual 56, 3) := by decide +kernel
theorem dX7_write_97 : decode cX7_write 97 = .ok (.ifCond .ne 7, 3) := by decide +kernel
theorem dX7_write_100 : decode cX7_write 100 = .ok (.iconst 1, 1) := by decide +kernel
theorem dX7_write_101 : decode cX7_write 101 = .ok (.goto 4, 3) := by decide +kernel
theorem dX7_write_104 : decode cX7_write 104 = .ok (.iconst 0, 1) := by decide +kernel
theorem dX7_write_105 : decode cX7_write 105 = .ok (.istore 4, 2) := by decide +kernel
theorem dX7_write_107 : decode cX7_write 107 = .ok (.aload_n 0, 1) := by decide +kernel
theorem dX7_write_108 : decode cX7_write 108 = .ok (.iconst 0, 1) := by decide +kernel
theorem dX7_write_109 : decode cX7_write 109 = .ok (.putfield 67, 3) := by decide +kernel
theorem dX7_write_112 : decode cX7_write 112 = .ok (.iconst 0, 1) := by decide +kernel
theorem dX7_write_113 : decode cX7_write 113 = .ok (.istore 5, 2) := by decide +kernel
theorem dX7_write_115 : decode cX7_write 115 = .ok (.iload 5, 2) := by decide +kernel
theorem dX7_write_117 : decode cX7_write 117 = .ok (.bipush 88, 2) := by decide +kernel
theorem dX7_write_119 : decode cX7_write 119 = .ok (.if_icmp .ge 57, 3) := by decide +kernel
theorem dX7_write_122 : decode cX7_write 122 = .ok (.iload 5, 2) := by decide +kernel
theorem dX7_write_124 : decode cX7_write 124 = .ok (.iload_n 2, 1) := by decide +kernel
theorem dX7_write_125 : decode cX7_write 125 = .ok (.if_icmp .le 13, 3) := by decide +kernel
theorem dX7_write_128 : decode cX7_write 128 = .ok (.aload_n 0, 1) := by decide +kernel
theorem dX7_write_129 : decode cX7_write 129 = .ok (.getfield 19, 3) := by decide +kernel
theorem dX7_write_132 : decode cX7_write 132 = .ok (.invokevirtual 56, 3) := by decide +kernel
theorem dX7_write_135 : decode cX7_write 135 = .ok (.ifCond .ne 41, 3) := by decide +kernel
theorem dX7_write_138 : decode cX7_write 138 = .ok (.iload 5, 2) := by decide +kernel
theorem dX7_write_140 : decode cX7_write 140 = .ok (.iload_n 2, 1) := by decide +kernel
theorem dX7_write_141 : decode cX7_write 141 = .ok (.if_icmp .ne 13, 3) := by decide +kernel
theorem dX7_write_144 : decode cX7_write 144 = .ok (.iload_n 2, 1) := by decide +kernel
theorem dX7_write_145 : decode cX7_write 145 = .ok (.ifCond .le 9, 3) := by decide +kernel
theorem dX7_write_148 : decode cX7_write 148 = .ok (.aload_n 0, 1) := by decide +kernel
theorem dX7_write_149 : decode cX7_write 149 = .ok (.bipush 46, 2) := by decide +kernel
theorem dX7_write_151 : decode cX7_write 151 = .ok (.invokevirtual 71, 3) := by decide +kernel
theorem dX7_write_154 : decode cX7_write 154 = .ok (.aload_n 0, 1) := by decide +kernel
theorem dX7_write_155 : decode cX7_write 155 = .ok (.bipush 48, 2) := by decide +kernel
theorem dX7_write_157 : decode cX7_write 157 = .ok (.aload_n 0, 1) := by decide +kernel
theorem dX7_write_158 : decode cX7_write 158 = .ok (.getfield 19, 3) := by decide +kernel
theorem dX7_write_161 : decode cX7_write 161 = .ok (.bipush 10, 2) := by decide +kernel
theorem dX7_write_163 : decode cX7_write 163 = .ok (.invokevirtual 74, 3) := by decide +kernel
theorem dX7_write_166 : decode cX7_write 166 = .ok (.iadd, 1) := by decide +kernel
theorem dX7_write_167 : decode cX7_write 167 = .ok (.invokevirtual 71, 3) := by decide +kernel
theorem dX7_write_170 : decode cX7_write 170 = .ok (.iinc 5 1, 3) := by decide +kernel
theorem dX7_write_173 : decode cX7_write 173 = .ok (.goto (-58), 3) := by decide +kernel
theorem dX7_write_176 : decode cX7_write 176 = .ok (.iload 4, 2) := by decide +kernel
theorem dX7_write_178 : decode cX7_write 178 = .ok (.ifCond .eq 9, 3) := by decide +kernel
theorem dX7_write_181 : decode cX7_write 181 = .ok (.aload_n 0, 1) := by decide +kernel
theorem dX7_write_182 : decode cX7_write 182 = .ok (.bipush 45, 2) := by decide +kernel
theorem dX7_write_184 : decode cX7_write 184 = .ok (.invokevirtual 71, 3) := by decide +kernel
theorem dX7_write_187 : decode cX7_write 187 = .ok (.return_, 1) := by decide +kernel
theorem dX7_append_0 : decode cX7_append 0 = .ok (.aload_n 0, 1) := by decide +kernel
theorem dX7_append_1 : decode cX7_append 1 = .ok (.getfield 67, 3) := by decide +kernel
theorem dX7_append_4 : decode cX7_append 4 = .ok (.aload_n 0, 1) := by decide +kernel
theorem dX7_append_5 : decode cX7_append 5 = .ok (.getfield 22, 3) := by decide +kernel
theorem dX7_append_8 : decode cX7_append 8 = .ok (.arraylength, 1) := by decide +kernel
theorem dX7_append_9 : decode cX7_append 9 = .ok (.if_icmp .ge 24, 3) := by decide +kernel
theorem dX7_append_12 : decode cX7_append 12 = .ok (.aload_n 0, 1) := by decide +kernel
theorem dX7_append_13 : decode cX7_append 13 = .ok (.getfield 22, 3) := by decide +kernel
theorem dX7_append_16 : decode cX7_append 16 = .ok (.aload_n 0, 1) := by decide +kernel
theorem dX7_append_17 : decode cX7_append 17 = .ok (.getfield 67, 3) := by decide +kernel
theorem dX7_append_20 : decode cX7_append 20 = .ok (.iload_n 1, 1) := by decide +kernel
theorem dX7_append_21 : decode cX7_append 21 = .ok (.i2b, 1) := by decide +kernel
theorem dX7_append_22 : decode cX7_append 22 = .ok (.bastore, 1) := by decide +kernel
theorem dX7_append_23 : decode cX7_append 23 = .ok (.aload_n 0, 1) := by decide +kernel
theorem dX7_append_24 : decode cX7_append 24 = .ok (.dup, 1) := by decide +kernel
theorem dX7_append_25 : decode cX7_append 25 = .ok (.getfield 67, 3) := by decide +kernel
theorem dX7_append_28 : decode cX7_append 28 = .ok (.iconst 1, 1) := by decide +kernel
theorem dX7_append_29 : decode cX7_append 29 = .ok (.iadd, 1) := by decide +kernel
theorem dX7_append_30 : decode cX7_append 30 = .ok (.putfield 67, 3) := by decide +kernel
theorem dX7_append_33 : decode cX7_append 33 = .ok (.return_, 1) := by decide +kernel
theorem dX8_init_0 : decode cX8_init 0 = .ok (.aload_n 0, 1) := by decide +kernel
theorem dX8_init_1 : decode cX8_init 1 = .ok (.invokespecial 1, 3) := by decide +kernel
theorem dX8_init_4 : decode cX8_init 4 = .ok (.aload_n 0, 1) := by decide +kernel
theorem dX8_init_5 : decode cX8_init 5 = .ok (.bipush 16, 2) := by decide +kernel
theorem dX8_init_7 : decode cX8_init 7 = .ok (.newarray .int, 2) := by decide +kernel
theorem dX8_init_9 : decode cX8_init 9 = .ok (.putfield 9, 3) := by decide +kernel
theorem dX8_init_12 : decode cX8_init 12 = .ok (.return_, 1) := by decide +kernel
theorem dX8_copy_0 : decode cX8_copy 0 = .ok (.aload_n 1, 1) := by decide +kernel
theorem dX8_copy_1 : decode cX8_copy 1 = .ok (.getfield 9, 3) := by decide +kernel
theorem dX8_copy_4 : decode cX8_copy 4 = .ok (.iconst 0, 1) := by decide +kernel
theorem dX8_copy_5 : decode cX8_copy 5 = .ok (.aload_n 0, 1) := by decide +kernel
theorem dX8_copy_6 : decode cX8_copy 6 = .ok (.getfield 9, 3) := by decide +kernel
theorem dX8_copy_9 : decode cX8_copy 9 = .ok (.iconst 0, 1) := by decide +kernel
theorem dX8_copy_10 : decode cX8_copy 10 = .ok (.bipush 16, 2) := by decide +kernel
theorem dX8_copy_12 : decode cX8_copy 12 = .ok (.invokestatic 13, 3) := by decide +kernel
theorem dX8_copy_15 : decode cX8_copy 15 = .ok (.aload_n 0, 1) := by decide +kernel
theorem dX8_copy_16 : decode cX8_copy 16 = .ok (.aload_n 1, 1) := by decide +kernel
theorem dX8_copy_17 : decode cX8_copy 17 = .ok (.getfield 19, 3) := by decide +kernel
theorem dX8_copy_20 : decode cX8_copy 20 = .ok (.putfield 19, 3) := by decide +kernel
theorem dX8_copy_23 : decode cX8_copy 23 = .ok (.return_, 1) := by decide +kernel
theorem dX8_setBits_0 : decode cX8_setBits 0 = .ok (.iconst 2, 1) := by decide +kernel
theorem dX8_setBits_1 : decode cX8_setBits 1 = .ok (.istore_n 3, 1) := by decide +kernel
theorem dX8_setBits_2 : decode cX8_setBits 2 = .ok (.iload_n 3, 1) := by decide +kernel
theorem dX8_setBits_3 : decode cX8_setBits 3 = .ok (.aload_n 0, 1) := by decide +kernel
theorem dX8_setBits_4 : decode cX8_setBits 4 = .ok (.getfield 19, 3) := by decide +kernel
theorem dX8_setBits_7 : decode cX8_setBits 7 = .ok (.if_icmp .ge 16, 3) := by decide +kernel
theorem dX8_setBits_10 : decode cX8_setBits 10 = .ok (.aload_n 0, 1) := by decide +kernel
theorem dX8_setBits_11 : decode cX8_setBits 11 = .ok (.getfield 9, 3) := by decide +kernel
theorem dX8_setBits_14 : decode cX8_setBits 14 = .ok (.iload_n 3, 1) := by decide +kernel
theorem dX8_setBits_15 : decode cX8_setBits 15 = .ok (.iconst 0, 1) := by decide +kernel
theorem dX8_setBits_16 : decode cX8_setBits 16 = .ok (.iastore, 1) := by decide +kernel
theorem dX8_setBits_17 : decode cX8_setBits 17 = .ok (.iinc 3 1, 3) := by decide +kernel
theorem dX8_setBits_20 : decode cX8_setBits 20 = .ok (.goto (-18), 3) := by decide +kernel
theorem dX8_setBits_23 : decode cX8_setBits 23 = .ok (.aload_n 0, 1) := by decide +kernel
theorem dX8_setBits_24 : decode cX8_setBits 24 = .ok (.getfield 9, 3) := by decide +kernel
theorem dX8_setBits_27 : decode cX8_setBits 27 = .ok (.iconst 0, 1) := by decide +kernel
theorem dX8_setBits_28 : decode cX8_setBits 28 = .ok (.lload_n 1, 1) := by decide +kernel
theorem dX8_setBits_29 : decode cX8_setBits 29 = .ok (.l2i, 1) := by decide +kernel
theorem dX8_setBits_30 : decode cX8_setBits 30 = .ok (.iastore, 1) := by decide +kernel
theorem dX8_setBits_31 : decode cX8_setBits 31 = .ok (.aload_n 0, 1) := by decide +kernel
theorem dX8_setBits_32 : decode cX8_setBits 32 = .ok (.getfield 9, 3) := by decide +kernel
theorem dX8_setBits_35 : decode cX8_setBits 35 = .ok (.iconst 1, 1) := by decide +kernel
theorem dX8_setBits_36 : decode cX8_setBits 36 = .ok (.lload_n 1, 1) := by decide +kernel
theorem dX8_setBits_37 : decode cX8_setBits 37 = .ok (.bipush 32, 2) := by decide +kernel
theorem dX8_setBits_39 : decode cX8_setBits 39 = .ok (.lushr, 1) := by decide +kernel
theorem dX8_setBits_40 : decode cX8_setBits 40 = .ok (.l2i, 1) := by decide +kernel
theorem dX8_setBits_41 : decode cX8_setBits 41 = .ok (.iastore, 1) := by decide +kernel
theorem dX8_setBits_42 : decode cX8_setBits 42 = .ok (.aload_n 0, 1) := by decide +kernel
theorem dX8_setBits_43 : decode cX8_setBits 43 = .ok (.aload_n 0, 1) := by decide +kernel
theorem dX8_setBits_44 : decode cX8_setBits 44 = .ok (.getfield 9, 3) := by decide +kernel
theorem dX8_setBits_47 : decode cX8_setBits 47 = .ok (.iconst 1, 1) := by decide +kernel
theorem dX8_setBits_48 : decode cX8_setBits 48 = .ok (.iaload, 1) := by decide +kernel
theorem dX8_setBits_49 : decode cX8_setBits 49 = .ok (.ifCond .eq 7, 3) := by decide +kernel
theorem dX8_setBits_52 : decode cX8_setBits 52 = .ok (.iconst 2, 1) := by decide +kernel
theorem dX8_setBits_53 : decode cX8_setBits 53 = .ok (.goto 17, 3) := by decide +kernel
theorem dX8_setBits_56 : decode cX8_setBits 56 = .ok (.aload_n 0, 1) := by decide +kernel
theorem dX8_setBits_57 : decode cX8_setBits 57 = .ok (.getfield 9, 3) := by decide +kernel
theorem dX8_setBits_60 : decode cX8_setBits 60 = .ok (.iconst 0, 1) := by decide +kernel
theorem dX8_setBits_61 : decode cX8_setBits 61 = .ok (.iaload, 1) := by decide +kernel
theorem dX8_setBits_62 : decode cX8_setBits 62 = .ok (.ifCond .eq 7, 3) := by decide +kernel
theorem dX8_setBits_65 : decode cX8_setBits 65 = .ok (.iconst 1, 1) := by decide +kernel
theorem dX8_setBits_66 : decode cX8_setBits 66 = .ok (.goto 4, 3) := by decide +kernel
theorem dX8_setBits_69 : decode cX8_setBits 69 = .ok (.iconst 0, 1) := by decide +kernel
theorem dX8_setBits_70 : decode cX8_setBits 70 = .ok (.putfield 19, 3) := by decide +kernel
theorem dX8_setBits_73 : decode cX8_setBits 73 = .ok (.return_, 1) := by decide +kernel
theorem dX8_isZero_0 : decode cX8_isZero 0 = .ok (.aload_n 0, 1) := by decide +kernel
theorem dX8_isZero_1 : decode cX8_isZero 1 = .ok (.getfield 19, 3) := by decide +kernel
theorem dX8_isZero_4 : decode cX8_isZero 4 = .ok (.ifCond .ne 7, 3) := by decide +kernel
theorem dX8_isZero_7 : decode cX8_isZero 7 = .ok (.iconst 1, 1) := by decide +kernel
theorem dX8_isZero_8 : decode cX8_isZero 8 = .ok (.goto 4, 3) := by decide +kernel
theorem dX8_isZero_11 : decode cX8_isZero 11 = .ok (.iconst 0, 1) := by decide +kernel
theorem dX8_isZero_12 : decode cX8_isZero 12 = .ok (.ireturn, 1) := by decide +kernel
theorem dX8_isOne_0 : decode cX8_isOne 0 = .ok (.aload_n 0, 1) := by decide +kernel
theorem dX8_isOne_1 : decode cX8_isOne 1 = .ok (.getfield 19, 3) := by decide +kernel
theorem dX8_isOne_4 : decode cX8_isOne 4 = .ok (.iconst 1, 1) := by decide +kernel
theorem dX8_isOne_5 : decode cX8_isOne 5 = .ok (.if_icmp .ne 17, 3) := by decide +kernel
theorem dX8_isOne_8 : decode cX8_isOne 8 = .ok (.aload_n 0, 1) := by decide +kernel
theorem dX8_isOne_9 : decode cX8_isOne 9 = .ok (.getfield 9, 3) := by decide +kernel
theorem dX8_isOne_12 : decode cX8_isOne 12 = .ok (.iconst 0, 1) := by decide +kernel
theorem dX8_isOne_13 : decode cX8_isOne 13 = .ok (.iaload, 1) := by decide +kernel
theorem dX8_isOne_14 : decode cX8_isOne 14 = .ok (.iconst 1, 1) := by decide +kernel
theorem dX8_isOne_15 : decode cX8_isOne 15 = .ok (.if_icmp .ne 7, 3) := by decide +kernel
theorem dX8_isOne_18 : decode cX8_isOne 18 = .ok (.iconst 1, 1) := by decide +kernel
theorem dX8_isOne_19 : decode cX8_isOne 19 = .ok (.goto 4, 3) := by decide +kernel
theorem dX8_isOne_22 : decode cX8_isOne 22 = .ok (.iconst 0, 1) := by decide +kernel
theorem dX8_isOne_23 : decode cX8_isOne 23 = .ok (.ireturn, 1) := by decide +kernel
theorem dX8_isWide_0 : decode cX8_isWide 0 = .ok (.aload_n 0, 1) := by decide +kernel
theorem dX8_isWide_1 : decode cX8_isWide 1 = .ok (.getfield 19, 3) := by decide +kernel
theorem dX8_isWide_4 : decode cX8_isWide 4 = .ok (.bipush 6, 2) := by decide +kernel
theorem dX8_isWide_6 : decode cX8_isWide 6 = .ok (.if_icmp .gt 7, 3) := by decide +kernel
theorem dX8_isWide_9 : decode cX8_isWide 9 = .ok (.iconst 1, 1) := by decide +kernel
theorem dX8_isWide_10 : decode cX8_isWide 10 = .ok (.goto 4, 3) := by decide +kernel
theorem dX8_isWide_13 : decode cX8_isWide 13 = .ok (.iconst 0, 1) := by decide +kernel
theorem dX8_isWide_14 : decode cX8_isWide 14 = .ok (.ireturn, 1) := by decide +kernel
theorem dX8_fitsLong_0 : decode cX8_fitsLong 0 = .ok (.aload_n 0, 1) := by decide +kernel
theorem dX8_fitsLong_1 : decode cX8_fitsLong 1 = .ok (.getfield 19, 3) := by decide +kernel
theorem dX8_fitsLong_4 : decode cX8_fitsLong 4 = .ok (.iconst 2, 1) := by decide +kernel
theorem dX8_fitsLong_5 : decode cX8_fitsLong 5 = .ok (.if_icmp .lt 20, 3) := by decide +kernel
theorem dX8_fitsLong_8 : decode cX8_fitsLong 8 = .ok (.aload_n 0, 1) := by decide +kernel
theorem dX8_fitsLong_9 : decode cX8_fitsLong 9 = .ok (.getfield 19, 3) := by decide +kernel
theorem dX8_fitsLong_12 : decode cX8_fitsLong 12 = .ok (.iconst 2, 1) := by decide +kernel
theorem dX8_fitsLong_13 : decode cX8_fitsLong 13 = .ok (.if_icmp .ne 16, 3) := by decide +kernel
theorem dX8_fitsLong_16 : decode cX8_fitsLong 16 = .ok (.aload_n 0, 1) := by decide +kernel
theorem dX8_fitsLong_17 : decode cX8_fitsLong 17 = .ok (.getfield 9, 3) := by decide +kernel
theorem dX8_fitsLong_20 : decode cX8_fitsLong 20 = .ok (.iconst 1, 1) := by decide +kernel
theorem dX8_fitsLong_21 : decode cX8_fitsLong 21 = .ok (.iaload, 1) := by decide +kernel
theorem dX8_fitsLong_22 : decode cX8_fitsLong 22 = .ok (.ifCond .lt 7, 3) := by decide +kernel
theorem dX8_fitsLong_25 : decode cX8_fitsLong 25 = .ok (.iconst 1, 1) := by decide +kernel
theorem dX8_fitsLong_26 : decode cX8_fitsLong 26 = .ok (.goto 4, 3) := by decide +kernel
theorem dX8_fitsLong_29 : decode cX8_fitsLong 29 = .ok (.iconst 0, 1) := by decide +kernel
theorem dX8_fitsLong_30 : decode cX8_fitsLong 30 = .ok (.ireturn, 1) := by decide +kernel
theorem dX8_toLong_0 : decode cX8_toLong 0 = .ok (.aload_n 0, 1) := by decide +kernel
theorem dX8_toLong_1 : decode cX8_toLong 1 = .ok (.getfield 9, 3) := by decide +kernel
theorem dX8_toLong_4 : decode cX8_toLong 4 = .ok (.iconst 1, 1) := by decide +kernel
theorem dX8_toLong_5 : decode cX8_toLong 5 = .ok (.iaload, 1) := by decide +kernel
theorem dX8_toLong_6 : decode cX8_toLong 6 = .ok (.i2l, 1) := by decide +kernel
theorem dX8_toLong_7 : decode cX8_toLong 7 = .ok (.ldc2_w 23, 3) := by decide +kernel
theorem dX8_toLong_10 : decode cX8_toLong 10 = .ok (.land, 1) := by decide +kernel
theorem dX8_toLong_11 : decode cX8_toLong 11 = .ok (.bipush 32, 2) := by decide +kernel
theorem dX8_toLong_13 : decode cX8_toLong 13 = .ok (.lshl, 1) := by decide +kernel
theorem dX8_toLong_14 : decode cX8_toLong 14 = .ok (.aload_n 0, 1) := by decide +kernel
theorem dX8_toLong_15 : decode cX8_toLong 15 = .ok (.getfield 9, 3) := by decide +kernel
theorem dX8_toLong_18 : decode cX8_toLong 18 = .ok (.iconst 0, 1) := by decide +kernel
theorem dX8_toLong_19 : decode cX8_toLong 19 = .ok (.iaload, 1) := by decide +kernel
theorem dX8_toLong_20 : decode cX8_toLong 20 = .ok (.i2l, 1) := by decide +kernel
theorem dX8_toLong_21 : decode cX8_toLong 21 = .ok (.ldc2_w 23, 3) := by decide +kernel
theorem dX8_toLong_24 : decode cX8_toLong 24 = .ok (.land, 1) := by decide +kernel
theorem dX8_toLong_25 : decode cX8_toLong 25 = .ok (.lor, 1) := by decide +kernel
theorem dX8_toLong_26 : decode cX8_toLong 26 = .ok (.lreturn, 1) := by decide +kernel
theorem dX8_bits_0 : decode cX8_bits 0 = .ok (.aload_n 0, 1) := by decide +kernel
theorem dX8_bits_1 : decode cX8_bits 1 = .ok (.getfield 19, 3) := by decide +kernel
theorem dX8_bits_4 : decode cX8_bits 4 = .ok (.ifCond .ne 7, 3) := by decide +kernel
theorem dX8_bits_7 : decode cX8_bits 7 = .ok (.iconst 0, 1) := by decide +kernel
theorem dX8_bits_8 : decode cX8_bits 8 = .ok (.goto 25, 3) := by decide +kernel
theorem dX8_bits_11 : decode cX8_bits 11 = .ok (.bipush 32, 2) := by decide +kernel
theorem dX8_bits_13 : decode cX8_bits 13 = .ok (.aload_n 0, 1) := by decide +kernel
theorem dX8_bits_14 : decode cX8_bits 14 = .ok (.getfield 19, 3) := by decide +kernel
theorem dX8_bits_17 : decode cX8_bits 17 = .ok (.imul, 1) := by decide +kernel
theorem dX8_bits_18 : decode cX8_bits 18 = .ok (.aload_n 0, 1) := by decide +kernel
theorem dX8_bits_19 : decode cX8_bits 19 = .ok (.getfield 9, 3) := by decide +kernel
theorem dX8_bits_22 : decode cX8_bits 22 = .ok (.aload_n 0, 1) := by decide +kernel
theorem dX8_bits_23 : decode cX8_bits 23 = .ok (.getfield 19, 3) := by decide +kernel
theorem dX8_bits_26 : decode cX8_bits 26 = .ok (.iconst 1, 1) := by decide +kernel
theorem dX8_bits_27 : decode cX8_bits 27 = .ok (.isub, 1) := by decide +kernel
theorem dX8_bits_28 : decode cX8_bits 28 = .ok (.iaload, 1) := by decide +kernel
theorem dX8_bits_29 : decode cX8_bits 29 = .ok (.invokestatic 25, 3) := by decide +kernel
theorem dX8_bits_32 : decode cX8_bits 32 = .ok (.isub, 1) := by decide +kernel
theorem dX8_bits_33 : decode cX8_bits 33 = .ok (.ireturn, 1) := by decide +kernel
theorem dX8_against_0 : decode cX8_against 0 = .ok (.aload_n 0, 1) := by decide +kernel
theorem dX8_against_1 : decode cX8_against 1 = .ok (.getfield 19, 3) := by decide +kernel
theorem dX8_against_4 : decode cX8_against 4 = .ok (.aload_n 1, 1) := by decide +kernel
theorem dX8_against_5 : decode cX8_against 5 = .ok (.getfield 19, 3) := by decide +kernel
theorem dX8_against_8 : decode cX8_against 8 = .ok (.if_icmp .eq 20, 3) := by decide +kernel
theorem dX8_against_11 : decode cX8_against 11 = .ok (.aload_n 0, 1) := by decide +kernel
theorem dX8_against_12 : decode cX8_against 12 = .ok (.getfield 19, 3) := by decide +kernel
theorem dX8_against_15 : decode cX8_against 15 = .ok (.aload_n 1, 1) := by decide +kernel
theorem dX8_against_16 : decode cX8_against 16 = .ok (.getfield 19, 3) := by decide +kernel
theorem dX8_against_19 : decode cX8_against 19 = .ok (.if_icmp .ge 7, 3) := by decide +kernel
theorem dX8_against_22 : decode cX8_against 22 = .ok (.iconst (-1), 1) := by decide +kernel
theorem dX8_against_23 : decode cX8_against 23 = .ok (.goto 4, 3) := by decide +kernel
theorem dX8_against_26 : decode cX8_against 26 = .ok (.iconst 1, 1) := by decide +kernel
theorem dX8_against_27 : decode cX8_against 27 = .ok (.ireturn, 1) := by decide +kernel
theorem dX8_against_28 : decode cX8_against 28 = .ok (.aload_n 0, 1) := by decide +kernel
theorem dX8_against_29 : decode cX8_against 29 = .ok (.getfield 19, 3) := by decide +kernel
theorem dX8_against_32 : decode cX8_against 32 = .ok (.iconst 1, 1) := by decide +kernel
theorem dX8_against_33 : decode cX8_against 33 = .ok (.isub, 1) := by decide +kernel
theorem dX8_against_34 : decode cX8_against 34 = .ok (.istore_n 2, 1) := by decide +kernel
theorem dX8_against_35 : decode cX8_against 35 = .ok (.iload_n 2, 1) := by decide +kernel
theorem dX8_against_36 : decode cX8_against 36 = .ok (.ifCond .lt 56, 3) := by decide +kernel
theorem dX8_against_39 : decode cX8_against 39 = .ok (.aload_n 0, 1) := by decide +kernel
theorem dX8_against_40 : decode cX8_against 40 = .ok (.getfield 9, 3) := by decide +kernel
theorem dX8_against_43 : decode cX8_against 43 = .ok (.iload_n 2, 1) := by decide +kernel
theorem dX8_against_44 : decode cX8_against 44 = .ok (.iaload, 1) := by decide +kernel
theorem dX8_against_45 : decode cX8_against 45 = .ok (.aload_n 1, 1) := by decide +kernel
theorem dX8_against_46 : decode cX8_against 46 = .ok (.getfield 9, 3) := by decide +kernel
theorem dX8_against_49 : decode cX8_against 49 = .ok (.iload_n 2, 1) := by decide +kernel
theorem dX8_against_50 : decode cX8_against 50 = .ok (.iaload, 1) := by decide +kernel
theorem dX8_against_51 : decode cX8_against 51 = .ok (.if_icmp .eq 35, 3) := by decide +kernel
theorem dX8_against_54 : decode cX8_against 54 = .ok (.aload_n 0, 1) := by decide +kernel
theorem dX8_against_55 : decode cX8_against 55 = .ok (.getfield 9, 3) := by decide +kernel
theorem dX8_against_58 : decode cX8_against 58 = .ok (.iload_n 2, 1) := by decide +kernel
theorem dX8_against_59 : decode cX8_against 59 = .ok (.iaload, 1) := by decide +kernel
theorem dX8_against_60 : decode cX8_against 60 = .ok (.i2l, 1) := by decide +kernel
theorem dX8_against_61 : decode cX8_against 61 = .ok (.ldc2_w 23, 3) := by decide +kernel
theorem dX8_against_64 : decode cX8_against 64 = .ok (.land, 1) := by decide +kernel
theorem dX8_against_65 : decode cX8_against 65 = .ok (.aload_n 1, 1) := by decide +kernel
theorem dX8_against_66 : decode cX8_against 66 = .ok (.getfield 9, 3) := by decide +kernel
theorem dX8_against_69 : decode cX8_against 69 = .ok (.iload_n 2, 1) := by decide +kernel
theorem dX8_against_70 : decode cX8_against 70 = .ok (.iaload, 1) := by decide +kernel
theorem dX8_against_71 : decode cX8_against 71 = .ok (.i2l, 1) := by decide +kernel
theorem dX8_against_72 : decode cX8_against 72 = .ok (.ldc2_w 23, 3) := by decide +kernel
theorem dX8_against_75 : decode cX8_against 75 = .ok (.land, 1) := by decide +kernel
theorem dX8_against_76 : decode cX8_against 76 = .ok (.lcmp, 1) := by decide +kernel
theorem dX8_against_77 : decode cX8_against 77 = .ok (.ifCond .ge 7, 3) := by decide +kernel
theorem dX8_against_80 : decode cX8_against 80 = .ok (.iconst (-1), 1) := by decide +kernel
theorem dX8_against_81 : decode cX8_against 81 = .ok (.goto 4, 3) := by decide +kernel
theorem dX8_against_84 : decode cX8_against 84 = .ok (.iconst 1, 1) := by decide +kernel
theorem dX8_against_85 : decode cX8_against 85 = .ok (.ireturn, 1) := by decide +kernel
theorem dX8_against_86 : decode cX8_against 86 = .ok (.iinc 2 (-1), 3) := by decide +kernel
theorem dX8_against_89 : decode cX8_against 89 = .ok (.goto (-54), 3) := by decide +kernel
theorem dX8_against_92 : decode cX8_against 92 = .ok (.iconst 0, 1) := by decide +kernel
theorem dX8_against_93 : decode cX8_against 93 = .ok (.ireturn, 1) := by decide +kernel
theorem dX8_increase_0 : decode cX8_increase 0 = .ok (.aload_n 0, 1) := by decide +kernel
theorem dX8_increase_1 : decode cX8_increase 1 = .ok (.getfield 19, 3) := by decide +kernel
theorem dX8_increase_4 : decode cX8_increase 4 = .ok (.aload_n 1, 1) := by decide +kernel
theorem dX8_increase_5 : decode cX8_increase 5 = .ok (.getfield 19, 3) := by decide +kernel
theorem dX8_increase_8 : decode cX8_increase 8 = .ok (.invokestatic 31, 3) := by decide +kernel
theorem dX8_increase_11 : decode cX8_increase 11 = .ok (.istore_n 2, 1) := by decide +kernel
theorem dX8_increase_12 : decode cX8_increase 12 = .ok (.lconst 0, 1) := by decide +kernel
theorem dX8_increase_13 : decode cX8_increase 13 = .ok (.lstore_n 3, 1) := by decide +kernel
theorem dX8_increase_14 : decode cX8_increase 14 = .ok (.iconst 0, 1) := by decide +kernel
theorem dX8_increase_15 : decode cX8_increase 15 = .ok (.istore 5, 2) := by decide +kernel
theorem dX8_increase_17 : decode cX8_increase 17 = .ok (.iload 5, 2) := by decide +kernel
theorem dX8_increase_19 : decode cX8_increase 19 = .ok (.iload_n 2, 1) := by decide +kernel
theorem dX8_increase_20 : decode cX8_increase 20 = .ok (.if_icmp .ge 51, 3) := by decide +kernel
theorem dX8_increase_23 : decode cX8_increase 23 = .ok (.lload_n 3, 1) := by decide +kernel
theorem dX8_increase_24 : decode cX8_increase 24 = .ok (.aload_n 0, 1) := by decide +kernel
theorem dX8_increase_25 : decode cX8_increase 25 = .ok (.getfield 9, 3) := by decide +kernel
theorem dX8_increase_28 : decode cX8_increase 28 = .ok (.iload 5, 2) := by decide +kernel
theorem dX8_increase_30 : decode cX8_increase 30 = .ok (.iaload, 1) := by decide +kernel
theorem dX8_increase_31 : decode cX8_increase 31 = .ok (.i2l, 1) := by decide +kernel
theorem dX8_increase_32 : decode cX8_increase 32 = .ok (.ldc2_w 23, 3) := by decide +kernel
theorem dX8_increase_35 : decode cX8_increase 35 = .ok (.land, 1) := by decide +kernel
theorem dX8_increase_36 : decode cX8_increase 36 = .ok (.aload_n 1, 1) := by decide +kernel
theorem dX8_increase_37 : decode cX8_increase 37 = .ok (.getfield 9, 3) := by decide +kernel
theorem dX8_increase_40 : decode cX8_increase 40 = .ok (.iload 5, 2) := by decide +kernel
theorem dX8_increase_42 : decode cX8_increase 42 = .ok (.iaload, 1) := by decide +kernel
theorem dX8_increase_43 : decode cX8_increase 43 = .ok (.i2l, 1) := by decide +kernel
theorem dX8_increase_44 : decode cX8_increase 44 = .ok (.ldc2_w 23, 3) := by decide +kernel
theorem dX8_increase_47 : decode cX8_increase 47 = .ok (.land, 1) := by decide +kernel
theorem dX8_increase_48 : decode cX8_increase 48 = .ok (.ladd, 1) := by decide +kernel
theorem dX8_increase_49 : decode cX8_increase 49 = .ok (.ladd, 1) := by decide +kernel
theorem dX8_increase_50 : decode cX8_increase 50 = .ok (.lstore_n 3, 1) := by decide +kernel
theorem dX8_increase_51 : decode cX8_increase 51 = .ok (.aload_n 0, 1) := by decide +kernel
theorem dX8_increase_52 : decode cX8_increase 52 = .ok (.getfield 9, 3) := by decide +kernel
theorem dX8_increase_55 : decode cX8_increase 55 = .ok (.iload 5, 2) := by decide +kernel
theorem dX8_increase_57 : decode cX8_increase 57 = .ok (.lload_n 3, 1) := by decide +kernel
theorem dX8_increase_58 : decode cX8_increase 58 = .ok (.l2i, 1) := by decide +kernel
theorem dX8_increase_59 : decode cX8_increase 59 = .ok (.iastore, 1) := by decide +kernel
theorem dX8_increase_60 : decode cX8_increase 60 = .ok (.lload_n 3, 1) := by decide +kernel
theorem dX8_increase_61 : decode cX8_increase 61 = .ok (.bipush 32, 2) := by decide +kernel
theorem dX8_increase_63 : decode cX8_increase 63 = .ok (.lushr, 1) := by decide +kernel
theorem dX8_increase_64 : decode cX8_increase 64 = .ok (.lstore_n 3, 1) := by decide +kernel
theorem dX8_increase_65 : decode cX8_increase 65 = .ok (.iinc 5 1, 3) := by decide +kernel
theorem dX8_increase_68 : decode cX8_increase 68 = .ok (.goto (-51), 3) := by decide +kernel
theorem dX8_increase_71 : decode cX8_increase 71 = .ok (.aload_n 0, 1) := by decide +kernel
theorem dX8_increase_72 : decode cX8_increase 72 = .ok (.iload_n 2, 1) := by decide +kernel
theorem dX8_increase_73 : decode cX8_increase 73 = .ok (.putfield 19, 3) := by decide +kernel
theorem dX8_increase_76 : decode cX8_increase 76 = .ok (.aload_n 0, 1) := by decide +kernel
theorem dX8_increase_77 : decode cX8_increase 77 = .ok (.lload_n 3, 1) := by decide +kernel
theorem dX8_increase_78 : decode cX8_increase 78 = .ok (.l2i, 1) := by decide +kernel
theorem dX8_increase_79 : decode cX8_increase 79 = .ok (.invokevirtual 37, 3) := by decide +kernel
theorem dX8_increase_82 : decode cX8_increase 82 = .ok (.return_, 1) := by decide +kernel
theorem dX8_decrease_0 : decode cX8_decrease 0 = .ok (.lconst 0, 1) := by decide +kernel
theorem dX8_decrease_1 : decode cX8_decrease 1 = .ok (.lstore_n 2, 1) := by decide +kernel
theorem dX8_decrease_2 : decode cX8_decrease 2 = .ok (.iconst 0, 1) := by decide +kernel
theorem dX8_decrease_3 : decode cX8_decrease 3 = .ok (.istore 4, 2) := by decide +kernel
theorem dX8_decrease_5 : decode cX8_decrease 5 = .ok (.iload 4, 2) := by decide +kernel
theorem dX8_decrease_7 : decode cX8_decrease 7 = .ok (.aload_n 0, 1) := by decide +kernel
theorem dX8_decrease_8 : decode cX8_decrease 8 = .ok (.getfield 19, 3) := by decide +kernel
theorem dX8_decrease_11 : decode cX8_decrease 11 = .ok (.if_icmp .ge 51, 3) := by decide +kernel
theorem dX8_decrease_14 : decode cX8_decrease 14 = .ok (.lload_n 2, 1) := by decide +kernel
theorem dX8_decrease_15 : decode cX8_decrease 15 = .ok (.aload_n 0, 1) := by decide +kernel
theorem dX8_decrease_16 : decode cX8_decrease 16 = .ok (.getfield 9, 3) := by decide +kernel
theorem dX8_decrease_19 : decode cX8_decrease 19 = .ok (.iload 4, 2) := by decide +kernel
theorem dX8_decrease_21 : decode cX8_decrease 21 = .ok (.iaload, 1) := by decide +kernel
theorem dX8_decrease_22 : decode cX8_decrease 22 = .ok (.i2l, 1) := by decide +kernel
theorem dX8_decrease_23 : decode cX8_decrease 23 = .ok (.ldc2_w 23, 3) := by decide +kernel
theorem dX8_decrease_26 : decode cX8_decrease 26 = .ok (.land, 1) := by decide +kernel
theorem dX8_decrease_27 : decode cX8_decrease 27 = .ok (.aload_n 1, 1) := by decide +kernel
theorem dX8_decrease_28 : decode cX8_decrease 28 = .ok (.getfield 9, 3) := by decide +kernel
theorem dX8_decrease_31 : decode cX8_decrease 31 = .ok (.iload 4, 2) := by decide +kernel
theorem dX8_decrease_33 : decode cX8_decrease 33 = .ok (.iaload, 1) := by decide +kernel
theorem dX8_decrease_34 : decode cX8_decrease 34 = .ok (.i2l, 1) := by decide +kernel
theorem dX8_decrease_35 : decode cX8_decrease 35 = .ok (.ldc2_w 23, 3) := by decide +kernel
theorem dX8_decrease_38 : decode cX8_decrease 38 = .ok (.land, 1) := by decide +kernel
theorem dX8_decrease_39 : decode cX8_decrease 39 = .ok (.lsub, 1) := by decide +kernel
theorem dX8_decrease_40 : decode cX8_decrease 40 = .ok (.ladd, 1) := by decide +kernel
theorem dX8_decrease_41 : decode cX8_decrease 41 = .ok (.lstore_n 2, 1) := by decide +kernel
theorem dX8_decrease_42 : decode cX8_decrease 42 = .ok (.aload_n 0, 1) := by decide +kernel
theorem dX8_decrease_43 : decode cX8_decrease 43 = .ok (.getfield 9, 3) := by decide +kernel
theorem dX8_decrease_46 : decode cX8_decrease 46 = .ok (.iload 4, 2) := by decide +kernel
theorem dX8_decrease_48 : decode cX8_decrease 48 = .ok (.lload_n 2, 1) := by decide +kernel
theorem dX8_decrease_49 : decode cX8_decrease 49 = .ok (.l2i, 1) := by decide +kernel
theorem dX8_decrease_50 : decode cX8_decrease 50 = .ok (.iastore, 1) := by decide +kernel
theorem dX8_decrease_51 : decode cX8_decrease 51 = .ok (.lload_n 2, 1) := by decide +kernel
theorem dX8_decrease_52 : decode cX8_decrease 52 = .ok (.bipush 32, 2) := by decide +kernel
theorem dX8_decrease_54 : decode cX8_decrease 54 = .ok (.lshr, 1) := by decide +kernel
theorem dX8_decrease_55 : decode cX8_decrease 55 = .ok (.lstore_n 2, 1) := by decide +kernel
theorem dX8_decrease_56 : decode cX8_decrease 56 = .ok (.iinc 4 1, 3) := by decide +kernel
theorem dX8_decrease_59 : decode cX8_decrease 59 = .ok (.goto (-54), 3) := by decide +kernel
theorem dX8_decrease_62 : decode cX8_decrease 62 = .ok (.aload_n 0, 1) := by decide +kernel
theorem dX8_decrease_63 : decode cX8_decrease 63 = .ok (.invokevirtual 41, 3) := by decide +kernel
theorem dX8_decrease_66 : decode cX8_decrease 66 = .ok (.return_, 1) := by decide +kernel
theorem dX8_setProduct_0 : decode cX8_setProduct 0 = .ok (.aload_n 0, 1) := by decide +kernel
theorem dX8_setProduct_1 : decode cX8_setProduct 1 = .ok (.lconst 0, 1) := by decide +kernel
theorem dX8_setProduct_2 : decode cX8_setProduct 2 = .ok (.invokevirtual 44, 3) := by decide +kernel
theorem dX8_setProduct_5 : decode cX8_setProduct 5 = .ok (.aload_n 1, 1) := by decide +kernel
theorem dX8_setProduct_6 : decode cX8_setProduct 6 = .ok (.getfield 19, 3) := by decide +kernel
theorem dX8_setProduct_9 : decode cX8_setProduct 9 = .ok (.aload_n 2, 1) := by decide +kernel
theorem dX8_setProduct_10 : decode cX8_setProduct 10 = .ok (.getfield 19, 3) := by decide +kernel
theorem dX8_setProduct_13 : decode cX8_setProduct 13 = .ok (.iadd, 1) := by decide +kernel
theorem dX8_setProduct_14 : decode cX8_setProduct 14 = .ok (.bipush 16, 2) := by decide +kernel
theorem dX8_setProduct_16 : decode cX8_setProduct 16 = .ok (.if_icmp .le 4, 3) := by decide +kernel
theorem dX8_setProduct_19 : decode cX8_setProduct 19 = .ok (.return_, 1) := by decide +kernel
theorem dX8_setProduct_20 : decode cX8_setProduct 20 = .ok (.iconst 0, 1) := by decide +kernel
theorem dX8_setProduct_21 : decode cX8_setProduct 21 = .ok (.istore_n 3, 1) := by decide +kernel
theorem dX8_setProduct_22 : decode cX8_setProduct 22 = .ok (.iload_n 3, 1) := by decide +kernel
theorem dX8_setProduct_23 : decode cX8_setProduct 23 = .ok (.aload_n 1, 1) := by decide +kernel
theorem dX8_setProduct_24 : decode cX8_setProduct 24 = .ok (.getfield 19, 3) := by decide +kernel
theorem dX8_setProduct_27 : decode cX8_setProduct 27 = .ok (.if_icmp .ge 111, 3) := by decide +kernel
theorem dX8_setProduct_30 : decode cX8_setProduct 30 = .ok (.aload_n 1, 1) := by decide +kernel
theorem dX8_setProduct_31 : decode cX8_setProduct 31 = .ok (.getfield 9, 3) := by decide +kernel
theorem dX8_setProduct_34 : decode cX8_setProduct 34 = .ok (.iload_n 3, 1) := by decide +kernel
theorem dX8_setProduct_35 : decode cX8_setProduct 35 = .ok (.iaload, 1) := by decide +kernel
theorem dX8_setProduct_36 : decode cX8_setProduct 36 = .ok (.i2l, 1) := by decide +kernel
theorem dX8_setProduct_37 : decode cX8_setProduct 37 = .ok (.ldc2_w 23, 3) := by decide +kernel
theorem dX8_setProduct_40 : decode cX8_setProduct 40 = .ok (.land, 1) := by decide +kernel
theorem dX8_setProduct_41 : decode cX8_setProduct 41 = .ok (.lstore 4, 2) := by decide +kernel
theorem dX8_setProduct_43 : decode cX8_setProduct 43 = .ok (.lconst 0, 1) := by decide +kernel
theorem dX8_setProduct_44 : decode cX8_setProduct 44 = .ok (.lstore 6, 2) := by decide +kernel
theorem dX8_setProduct_46 : decode cX8_setProduct 46 = .ok (.iconst 0, 1) := by decide +kernel
theorem dX8_setProduct_47 : decode cX8_setProduct 47 = .ok (.istore 8, 2) := by decide +kernel
theorem dX8_setProduct_49 : decode cX8_setProduct 49 = .ok (.iload 8, 2) := by decide +kernel
theorem dX8_setProduct_51 : decode cX8_setProduct 51 = .ok (.aload_n 2, 1) := by decide +kernel
theorem dX8_setProduct_52 : decode cX8_setProduct 52 = .ok (.getfield 19, 3) := by decide +kernel
theorem dX8_setProduct_55 : decode cX8_setProduct 55 = .ok (.if_icmp .ge 63, 3) := by decide +kernel
theorem dX8_setProduct_58 : decode cX8_setProduct 58 = .ok (.lload 6, 2) := by decide +kernel
theorem dX8_setProduct_60 : decode cX8_setProduct 60 = .ok (.lload 4, 2) := by decide +kernel
theorem dX8_setProduct_62 : decode cX8_setProduct 62 = .ok (.aload_n 2, 1) := by decide +kernel
theorem dX8_setProduct_63 : decode cX8_setProduct 63 = .ok (.getfield 9, 3) := by decide +kernel
theorem dX8_setProduct_66 : decode cX8_setProduct 66 = .ok (.iload 8, 2) := by decide +kernel
theorem dX8_setProduct_68 : decode cX8_setProduct 68 = .ok (.iaload, 1) := by decide +kernel
theorem dX8_setProduct_69 : decode cX8_setProduct 69 = .ok (.i2l, 1) := by decide +kernel
theorem dX8_setProduct_70 : decode cX8_setProduct 70 = .ok (.ldc2_w 23, 3) := by decide +kernel
theorem dX8_setProduct_73 : decode cX8_setProduct 73 = .ok (.land, 1) := by decide +kernel
theorem dX8_setProduct_74 : decode cX8_setProduct 74 = .ok (.lmul, 1) := by decide +kernel
theorem dX8_setProduct_75 : decode cX8_setProduct 75 = .ok (.aload_n 0, 1) := by decide +kernel
theorem dX8_setProduct_76 : decode cX8_setProduct 76 = .ok (.getfield 9, 3) := by decide +kernel
theorem dX8_setProduct_79 : decode cX8_setProduct 79 = .ok (.iload_n 3, 1) := by decide +kernel
theorem dX8_setProduct_80 : decode cX8_setProduct 80 = .ok (.iload 8, 2) := by decide +kernel
theorem dX8_setProduct_82 : decode cX8_setProduct 82 = .ok (.iadd, 1) := by decide +kernel
theorem dX8_setProduct_83 : decode cX8_setProduct 83 = .ok (.iaload, 1) := by decide +kernel
theorem dX8_setProduct_84 : decode cX8_setProduct 84 = .ok (.i2l, 1) := by decide +kernel
theorem dX8_setProduct_85 : decode cX8_setProduct 85 = .ok (.ldc2_w 23, 3) := by decide +kernel
theorem dX8_setProduct_88 : decode cX8_setProduct 88 = .ok (.land, 1) := by decide +kernel
theorem dX8_setProduct_89 : decode cX8_setProduct 89 = .ok (.ladd, 1) := by decide +kernel
theorem dX8_setProduct_90 : decode cX8_setProduct 90 = .ok (.ladd, 1) := by decide +kernel
theorem dX8_setProduct_91 : decode cX8_setProduct 91 = .ok (.lstore 6, 2) := by decide +kernel
theorem dX8_setProduct_93 : decode cX8_setProduct 93 = .ok (.aload_n 0, 1) := by decide +kernel
theorem dX8_setProduct_94 : decode cX8_setProduct 94 = .ok (.getfield 9, 3) := by decide +kernel
theorem dX8_setProduct_97 : decode cX8_setProduct 97 = .ok (.iload_n 3, 1) := by decide +kernel
theorem dX8_setProduct_98 : decode cX8_setProduct 98 = .ok (.iload 8, 2) := by decide +kernel
theorem dX8_setProduct_100 : decode cX8_setProduct 100 = .ok (.iadd, 1) := by decide +kernel
theorem dX8_setProduct_101 : decode cX8_setProduct 101 = .ok (.lload 6, 2) := by decide +kernel
theorem dX8_setProduct_103 : decode cX8_setProduct 103 = .ok (.l2i, 1) := by decide +kernel
theorem dX8_setProduct_104 : decode cX8_setProduct 104 = .ok (.iastore, 1) := by decide +kernel
theorem dX8_setProduct_105 : decode cX8_setProduct 105 = .ok (.lload 6, 2) := by decide +kernel
theorem dX8_setProduct_107 : decode cX8_setProduct 107 = .ok (.bipush 32, 2) := by decide +kernel
theorem dX8_setProduct_109 : decode cX8_setProduct 109 = .ok (.lushr, 1) := by decide +kernel
theorem dX8_setProduct_110 : decode cX8_setProduct 110 = .ok (.lstore 6, 2) := by decide +kernel
theorem dX8_setProduct_112 : decode cX8_setProduct 112 = .ok (.iinc 8 1, 3) := by decide +kernel
theorem dX8_setProduct_115 : decode cX8_setProduct 115 = .ok (.goto (-66), 3) := by decide +kernel
theorem dX8_setProduct_118 : decode cX8_setProduct 118 = .ok (.aload_n 0, 1) := by decide +kernel
theorem dX8_setProduct_119 : decode cX8_setProduct 119 = .ok (.getfield 9, 3) := by decide +kernel
theorem dX8_setProduct_122 : decode cX8_setProduct 122 = .ok (.iload_n 3, 1) := by decide +kernel
theorem dX8_setProduct_123 : decode cX8_setProduct 123 = .ok (.aload_n 2, 1) := by decide +kernel
theorem dX8_setProduct_124 : decode cX8_setProduct 124 = .ok (.getfield 19, 3) := by decide +kernel
theorem dX8_setProduct_127 : decode cX8_setProduct 127 = .ok (.iadd, 1) := by decide +kernel
theorem dX8_setProduct_128 : decode cX8_setProduct 128 = .ok (.lload 6, 2) := by decide +kernel
theorem dX8_setProduct_130 : decode cX8_setProduct 130 = .ok (.l2i, 1) := by decide +kernel
theorem dX8_setProduct_131 : decode cX8_setProduct 131 = .ok (.iastore, 1) := by decide +kernel
theorem dX8_setProduct_132 : decode cX8_setProduct 132 = .ok (.iinc 3 1, 3) := by decide +kernel
theorem dX8_setProduct_135 : decode cX8_setProduct 135 = .ok (.goto (-113), 3) := by decide +kernel
theorem dX8_setProduct_138 : decode cX8_setProduct 138 = .ok (.aload_n 0, 1) := by decide +kernel
theorem dX8_setProduct_139 : decode cX8_setProduct 139 = .ok (.aload_n 1, 1) := by decide +kernel
theorem dX8_setProduct_140 : decode cX8_setProduct 140 = .ok (.getfield 19, 3) := by decide +kernel
theorem dX8_setProduct_143 : decode cX8_setProduct 143 = .ok (.aload_n 2, 1) := by decide +kernel
theorem dX8_setProduct_144 : decode cX8_setProduct 144 = .ok (.getfield 19, 3) := by decide +kernel
theorem dX8_setProduct_147 : decode cX8_setProduct 147 = .ok (.iadd, 1) := by decide +kernel
theorem dX8_setProduct_148 : decode cX8_setProduct 148 = .ok (.putfield 19, 3) := by decide +kernel
theorem dX8_setProduct_151 : decode cX8_setProduct 151 = .ok (.aload_n 0, 1) := by decide +kernel
theorem dX8_setProduct_152 : decode cX8_setProduct 152 = .ok (.invokevirtual 41, 3) := by decide +kernel
theorem dX8_setProduct_155 : decode cX8_setProduct 155 = .ok (.return_, 1) := by decide +kernel
theorem dX8_scale_0 : decode cX8_scale 0 = .ok (.lconst 0, 1) := by decide +kernel
theorem dX8_scale_1 : decode cX8_scale 1 = .ok (.lstore_n 2, 1) := by decide +kernel
theorem dX8_scale_2 : decode cX8_scale 2 = .ok (.iconst 0, 1) := by decide +kernel
theorem dX8_scale_3 : decode cX8_scale 3 = .ok (.istore 4, 2) := by decide +kernel
theorem dX8_scale_5 : decode cX8_scale 5 = .ok (.iload 4, 2) := by decide +kernel
theorem dX8_scale_7 : decode cX8_scale 7 = .ok (.aload_n 0, 1) := by decide +kernel
theorem dX8_scale_8 : decode cX8_scale 8 = .ok (.getfield 19, 3) := by decide +kernel
theorem dX8_scale_11 : decode cX8_scale 11 = .ok (.if_icmp .ge 41, 3) := by decide +kernel
theorem dX8_scale_14 : decode cX8_scale 14 = .ok (.lload_n 2, 1) := by decide +kernel
theorem dX8_scale_15 : decode cX8_scale 15 = .ok (.iload_n 1, 1) := by decide +kernel
theorem dX8_scale_16 : decode cX8_scale 16 = .ok (.i2l, 1) := by decide +kernel
theorem dX8_scale_17 : decode cX8_scale 17 = .ok (.aload_n 0, 1) := by decide +kernel
theorem dX8_scale_18 : decode cX8_scale 18 = .ok (.getfield 9, 3) := by decide +kernel
theorem dX8_scale_21 : decode cX8_scale 21 = .ok (.iload 4, 2) := by decide +kernel
theorem dX8_scale_23 : decode cX8_scale 23 = .ok (.iaload, 1) := by decide +kernel
theorem dX8_scale_24 : decode cX8_scale 24 = .ok (.i2l, 1) := by decide +kernel
theorem dX8_scale_25 : decode cX8_scale 25 = .ok (.ldc2_w 23, 3) := by decide +kernel
theorem dX8_scale_28 : decode cX8_scale 28 = .ok (.land, 1) := by decide +kernel
theorem dX8_scale_29 : decode cX8_scale 29 = .ok (.lmul, 1) := by decide +kernel
theorem dX8_scale_30 : decode cX8_scale 30 = .ok (.ladd, 1) := by decide +kernel
theorem dX8_scale_31 : decode cX8_scale 31 = .ok (.lstore_n 2, 1) := by decide +kernel
theorem dX8_scale_32 : decode cX8_scale 32 = .ok (.aload_n 0, 1) := by decide +kernel
theorem dX8_scale_33 : decode cX8_scale 33 = .ok (.getfield 9, 3) := by decide +kernel
theorem dX8_scale_36 : decode cX8_scale 36 = .ok (.iload 4, 2) := by decide +kernel
theorem dX8_scale_38 : decode cX8_scale 38 = .ok (.lload_n 2, 1) := by decide +kernel
theorem dX8_scale_39 : decode cX8_scale 39 = .ok (.l2i, 1) := by decide +kernel
theorem dX8_scale_40 : decode cX8_scale 40 = .ok (.iastore, 1) := by decide +kernel
theorem dX8_scale_41 : decode cX8_scale 41 = .ok (.lload_n 2, 1) := by decide +kernel
theorem dX8_scale_42 : decode cX8_scale 42 = .ok (.bipush 32, 2) := by decide +kernel
theorem dX8_scale_44 : decode cX8_scale 44 = .ok (.lushr, 1) := by decide +kernel
theorem dX8_scale_45 : decode cX8_scale 45 = .ok (.lstore_n 2, 1) := by decide +kernel
theorem dX8_scale_46 : decode cX8_scale 46 = .ok (.iinc 4 1, 3) := by decide +kernel
theorem dX8_scale_49 : decode cX8_scale 49 = .ok (.goto (-44), 3) := by decide +kernel
theorem dX8_scale_52 : decode cX8_scale 52 = .ok (.aload_n 0, 1) := by decide +kernel
theorem dX8_scale_53 : decode cX8_scale 53 = .ok (.lload_n 2, 1) := by decide +kernel
theorem dX8_scale_54 : decode cX8_scale 54 = .ok (.l2i, 1) := by decide +kernel
theorem dX8_scale_55 : decode cX8_scale 55 = .ok (.invokevirtual 37, 3) := by decide +kernel
theorem dX8_scale_58 : decode cX8_scale 58 = .ok (.aload_n 0, 1) := by decide +kernel
theorem dX8_scale_59 : decode cX8_scale 59 = .ok (.invokevirtual 41, 3) := by decide +kernel
theorem dX8_scale_62 : decode cX8_scale 62 = .ok (.return_, 1) := by decide +kernel
theorem dX8_shiftLeft_0 : decode cX8_shiftLeft 0 = .ok (.lconst 0, 1) := by decide +kernel
theorem dX8_shiftLeft_1 : decode cX8_shiftLeft 1 = .ok (.lstore_n 2, 1) := by decide +kernel
theorem dX8_shiftLeft_2 : decode cX8_shiftLeft 2 = .ok (.iconst 0, 1) := by decide +kernel
theorem dX8_shiftLeft_3 : decode cX8_shiftLeft 3 = .ok (.istore 4, 2) := by decide +kernel
theorem dX8_shiftLeft_5 : decode cX8_shiftLeft 5 = .ok (.iload 4, 2) := by decide +kernel
theorem dX8_shiftLeft_7 : decode cX8_shiftLeft 7 = .ok (.aload_n 0, 1) := by decide +kernel
theorem dX8_shiftLeft_8 : decode cX8_shiftLeft 8 = .ok (.getfield 19, 3) := by decide +kernel
theorem dX8_shiftLeft_11 : decode cX8_shiftLeft 11 = .ok (.if_icmp .ge 40, 3) := by decide +kernel
theorem dX8_shiftLeft_14 : decode cX8_shiftLeft 14 = .ok (.lload_n 2, 1) := by decide +kernel
theorem dX8_shiftLeft_15 : decode cX8_shiftLeft 15 = .ok (.aload_n 0, 1) := by decide +kernel
theorem dX8_shiftLeft_16 : decode cX8_shiftLeft 16 = .ok (.getfield 9, 3) := by decide +kernel
theorem dX8_shiftLeft_19 : decode cX8_shiftLeft 19 = .ok (.iload 4, 2) := by decide +kernel
theorem dX8_shiftLeft_21 : decode cX8_shiftLeft 21 = .ok (.iaload, 1) := by decide +kernel
theorem dX8_shiftLeft_22 : decode cX8_shiftLeft 22 = .ok (.i2l, 1) := by decide +kernel
theorem dX8_shiftLeft_23 : decode cX8_shiftLeft 23 = .ok (.ldc2_w 23, 3) := by decide +kernel
theorem dX8_shiftLeft_26 : decode cX8_shiftLeft 26 = .ok (.land, 1) := by decide +kernel
theorem dX8_shiftLeft_27 : decode cX8_shiftLeft 27 = .ok (.iload_n 1, 1) := by decide +kernel
theorem dX8_shiftLeft_28 : decode cX8_shiftLeft 28 = .ok (.lshl, 1) := by decide +kernel
theorem dX8_shiftLeft_29 : decode cX8_shiftLeft 29 = .ok (.lor, 1) := by decide +kernel
theorem dX8_shiftLeft_30 : decode cX8_shiftLeft 30 = .ok (.lstore_n 2, 1) := by decide +kernel
theorem dX8_shiftLeft_31 : decode cX8_shiftLeft 31 = .ok (.aload_n 0, 1) := by decide +kernel
theorem dX8_shiftLeft_32 : decode cX8_shiftLeft 32 = .ok (.getfield 9, 3) := by decide +kernel
theorem dX8_shiftLeft_35 : decode cX8_shiftLeft 35 = .ok (.iload 4, 2) := by decide +kernel
theorem dX8_shiftLeft_37 : decode cX8_shiftLeft 37 = .ok (.lload_n 2, 1) := by decide +kernel
theorem dX8_shiftLeft_38 : decode cX8_shiftLeft 38 = .ok (.l2i, 1) := by decide +kernel
theorem dX8_shiftLeft_39 : decode cX8_shiftLeft 39 = .ok (.iastore, 1) := by decide +kernel
theorem dX8_shiftLeft_40 : decode cX8_shiftLeft 40 = .ok (.lload_n 2, 1) := by decide +kernel
theorem dX8_shiftLeft_41 : decode cX8_shiftLeft 41 = .ok (.bipush 32, 2) := by decide +kernel
theorem dX8_shiftLeft_43 : decode cX8_shiftLeft 43 = .ok (.lushr, 1) := by decide +kernel
theorem dX8_shiftLeft_44 : decode cX8_shiftLeft 44 = .ok (.lstore_n 2, 1) := by decide +kernel
theorem dX8_shiftLeft_45 : decode cX8_shiftLeft 45 = .ok (.iinc 4 1, 3) := by decide +kernel
theorem dX8_shiftLeft_48 : decode cX8_shiftLeft 48 = .ok (.goto (-43), 3) := by decide +kernel
theorem dX8_shiftLeft_51 : decode cX8_shiftLeft 51 = .ok (.lload_n 2, 1) := by decide +kernel
theorem dX8_shiftLeft_52 : decode cX8_shiftLeft 52 = .ok (.lconst 0, 1) := by decide +kernel
theorem dX8_shiftLeft_53 : decode cX8_shiftLeft 53 = .ok (.lcmp, 1) := by decide +kernel
theorem dX8_shiftLeft_54 : decode cX8_shiftLeft 54 = .ok (.ifCond .eq 33, 3) := by decide +kernel
theorem dX8_shiftLeft_57 : decode cX8_shiftLeft 57 = .ok (.aload_n 0, 1) := by decide +kernel
theorem dX8_shiftLeft_58 : decode cX8_shiftLeft 58 = .ok (.getfield 19, 3) := by decide +kernel
theorem dX8_shiftLeft_61 : decode cX8_shiftLeft 61 = .ok (.bipush 16, 2) := by decide +kernel
theorem dX8_shiftLeft_63 : decode cX8_shiftLeft 63 = .ok (.if_icmp .ge 24, 3) := by decide +kernel
theorem dX8_shiftLeft_66 : decode cX8_shiftLeft 66 = .ok (.aload_n 0, 1) := by decide +kernel
theorem dX8_shiftLeft_67 : decode cX8_shiftLeft 67 = .ok (.getfield 9, 3) := by decide +kernel
theorem dX8_shiftLeft_70 : decode cX8_shiftLeft 70 = .ok (.aload_n 0, 1) := by decide +kernel
theorem dX8_shiftLeft_71 : decode cX8_shiftLeft 71 = .ok (.getfield 19, 3) := by decide +kernel
theorem dX8_shiftLeft_74 : decode cX8_shiftLeft 74 = .ok (.lload_n 2, 1) := by decide +kernel
theorem dX8_shiftLeft_75 : decode cX8_shiftLeft 75 = .ok (.l2i, 1) := by decide +kernel
theorem dX8_shiftLeft_76 : decode cX8_shiftLeft 76 = .ok (.iastore, 1) := by decide +kernel
theorem dX8_shiftLeft_77 : decode cX8_shiftLeft 77 = .ok (.aload_n 0, 1) := by decide +kernel
theorem dX8_shiftLeft_78 : decode cX8_shiftLeft 78 = .ok (.dup, 1) := by decide +kernel
theorem dX8_shiftLeft_79 : decode cX8_shiftLeft 79 = .ok (.getfield 19, 3) := by decide +kernel
theorem dX8_shiftLeft_82 : decode cX8_shiftLeft 82 = .ok (.iconst 1, 1) := by decide +kernel
theorem dX8_shiftLeft_83 : decode cX8_shiftLeft 83 = .ok (.iadd, 1) := by decide +kernel
theorem dX8_shiftLeft_84 : decode cX8_shiftLeft 84 = .ok (.putfield 19, 3) := by decide +kernel
theorem dX8_shiftLeft_87 : decode cX8_shiftLeft 87 = .ok (.return_, 1) := by decide +kernel
theorem dX8_shiftRight_0 : decode cX8_shiftRight 0 = .ok (.lconst 0, 1) := by decide +kernel
theorem dX8_shiftRight_1 : decode cX8_shiftRight 1 = .ok (.lstore_n 2, 1) := by decide +kernel
theorem dX8_shiftRight_2 : decode cX8_shiftRight 2 = .ok (.aload_n 0, 1) := by decide +kernel
theorem dX8_shiftRight_3 : decode cX8_shiftRight 3 = .ok (.getfield 19, 3) := by decide +kernel
theorem dX8_shiftRight_6 : decode cX8_shiftRight 6 = .ok (.iconst 1, 1) := by decide +kernel
theorem dX8_shiftRight_7 : decode cX8_shiftRight 7 = .ok (.isub, 1) := by decide +kernel
theorem dX8_shiftRight_8 : decode cX8_shiftRight 8 = .ok (.istore 4, 2) := by decide +kernel
theorem dX8_shiftRight_10 : decode cX8_shiftRight 10 = .ok (.iload 4, 2) := by decide +kernel
theorem dX8_shiftRight_12 : decode cX8_shiftRight 12 = .ok (.ifCond .lt 43, 3) := by decide +kernel
theorem dX8_shiftRight_15 : decode cX8_shiftRight 15 = .ok (.aload_n 0, 1) := by decide +kernel
theorem dX8_shiftRight_16 : decode cX8_shiftRight 16 = .ok (.getfield 9, 3) := by decide +kernel
theorem dX8_shiftRight_19 : decode cX8_shiftRight 19 = .ok (.iload 4, 2) := by decide +kernel
theorem dX8_shiftRight_21 : decode cX8_shiftRight 21 = .ok (.iaload, 1) := by decide +kernel
theorem dX8_shiftRight_22 : decode cX8_shiftRight 22 = .ok (.i2l, 1) := by decide +kernel
theorem dX8_shiftRight_23 : decode cX8_shiftRight 23 = .ok (.ldc2_w 23, 3) := by decide +kernel
theorem dX8_shiftRight_26 : decode cX8_shiftRight 26 = .ok (.land, 1) := by decide +kernel
theorem dX8_shiftRight_27 : decode cX8_shiftRight 27 = .ok (.lstore 5, 2) := by decide +kernel
theorem dX8_shiftRight_29 : decode cX8_shiftRight 29 = .ok (.aload_n 0, 1) := by decide +kernel
theorem dX8_shiftRight_30 : decode cX8_shiftRight 30 = .ok (.getfield 9, 3) := by decide +kernel
theorem dX8_shiftRight_33 : decode cX8_shiftRight 33 = .ok (.iload 4, 2) := by decide +kernel
theorem dX8_shiftRight_35 : decode cX8_shiftRight 35 = .ok (.lload_n 2, 1) := by decide +kernel
theorem dX8_shiftRight_36 : decode cX8_shiftRight 36 = .ok (.bipush 32, 2) := by decide +kernel
theorem dX8_shiftRight_38 : decode cX8_shiftRight 38 = .ok (.lshl, 1) := by decide +kernel
theorem dX8_shiftRight_39 : decode cX8_shiftRight 39 = .ok (.lload 5, 2) := by decide +kernel
theorem dX8_shiftRight_41 : decode cX8_shiftRight 41 = .ok (.lor, 1) := by decide +kernel
theorem dX8_shiftRight_42 : decode cX8_shiftRight 42 = .ok (.iload_n 1, 1) := by decide +kernel
theorem dX8_shiftRight_43 : decode cX8_shiftRight 43 = .ok (.lushr, 1) := by decide +kernel
theorem dX8_shiftRight_44 : decode cX8_shiftRight 44 = .ok (.l2i, 1) := by decide +kernel
theorem dX8_shiftRight_45 : decode cX8_shiftRight 45 = .ok (.iastore, 1) := by decide +kernel
theorem dX8_shiftRight_46 : decode cX8_shiftRight 46 = .ok (.lload 5, 2) := by decide +kernel
theorem dX8_shiftRight_48 : decode cX8_shiftRight 48 = .ok (.lstore_n 2, 1) := by decide +kernel
theorem dX8_shiftRight_49 : decode cX8_shiftRight 49 = .ok (.iinc 4 (-1), 3) := by decide +kernel
theorem dX8_shiftRight_52 : decode cX8_shiftRight 52 = .ok (.goto (-42), 3) := by decide +kernel
theorem dX8_shiftRight_55 : decode cX8_shiftRight 55 = .ok (.return_, 1) := by decide +kernel
theorem dX8_restBy_0 : decode cX8_restBy 0 = .ok (.lconst 0, 1) := by decide +kernel
theorem dX8_restBy_1 : decode cX8_restBy 1 = .ok (.lstore_n 2, 1) := by decide +kernel
theorem dX8_restBy_2 : decode cX8_restBy 2 = .ok (.aload_n 0, 1) := by decide +kernel
theorem dX8_restBy_3 : decode cX8_restBy 3 = .ok (.getfield 19, 3) := by decide +kernel
theorem dX8_restBy_6 : decode cX8_restBy 6 = .ok (.iconst 1, 1) := by decide +kernel
theorem dX8_restBy_7 : decode cX8_restBy 7 = .ok (.isub, 1) := by decide +kernel
theorem dX8_restBy_8 : decode cX8_restBy 8 = .ok (.istore 4, 2) := by decide +kernel
theorem dX8_restBy_10 : decode cX8_restBy 10 = .ok (.iload 4, 2) := by decide +kernel
theorem dX8_restBy_12 : decode cX8_restBy 12 = .ok (.ifCond .lt 34, 3) := by decide +kernel
theorem dX8_restBy_15 : decode cX8_restBy 15 = .ok (.iload_n 1, 1) := by decide +kernel
theorem dX8_restBy_16 : decode cX8_restBy 16 = .ok (.ifCond .le 30, 3) := by decide +kernel
theorem dX8_restBy_19 : decode cX8_restBy 19 = .ok (.lload_n 2, 1) := by decide +kernel
theorem dX8_restBy_20 : decode cX8_restBy 20 = .ok (.bipush 32, 2) := by decide +kernel
theorem dX8_restBy_22 : decode cX8_restBy 22 = .ok (.lshl, 1) := by decide +kernel
theorem dX8_restBy_23 : decode cX8_restBy 23 = .ok (.aload_n 0, 1) := by decide +kernel
theorem dX8_restBy_24 : decode cX8_restBy 24 = .ok (.getfield 9, 3) := by decide +kernel
theorem dX8_restBy_27 : decode cX8_restBy 27 = .ok (.iload 4, 2) := by decide +kernel
theorem dX8_restBy_29 : decode cX8_restBy 29 = .ok (.iaload, 1) := by decide +kernel
theorem dX8_restBy_30 : decode cX8_restBy 30 = .ok (.i2l, 1) := by decide +kernel
theorem dX8_restBy_31 : decode cX8_restBy 31 = .ok (.ldc2_w 23, 3) := by decide +kernel
theorem dX8_restBy_34 : decode cX8_restBy 34 = .ok (.land, 1) := by decide +kernel
theorem dX8_restBy_35 : decode cX8_restBy 35 = .ok (.lor, 1) := by decide +kernel
theorem dX8_restBy_36 : decode cX8_restBy 36 = .ok (.iload_n 1, 1) := by decide +kernel
theorem dX8_restBy_37 : decode cX8_restBy 37 = .ok (.i2l, 1) := by decide +kernel
theorem dX8_restBy_38 : decode cX8_restBy 38 = .ok (.lrem, 1) := by decide +kernel
theorem dX8_restBy_39 : decode cX8_restBy 39 = .ok (.lstore_n 2, 1) := by decide +kernel
theorem dX8_restBy_40 : decode cX8_restBy 40 = .ok (.iinc 4 (-1), 3) := by decide +kernel
theorem dX8_restBy_43 : decode cX8_restBy 43 = .ok (.goto (-33), 3) := by decide +kernel
theorem dX8_restBy_46 : decode cX8_restBy 46 = .ok (.lload_n 2, 1) := by decide +kernel
theorem dX8_restBy_47 : decode cX8_restBy 47 = .ok (.l2i, 1) := by decide +kernel
theorem dX8_restBy_48 : decode cX8_restBy 48 = .ok (.ireturn, 1) := by decide +kernel
theorem dX8_shrinkBy_0 : decode cX8_shrinkBy 0 = .ok (.lconst 0, 1) := by decide +kernel
theorem dX8_shrinkBy_1 : decode cX8_shrinkBy 1 = .ok (.lstore_n 2, 1) := by decide +kernel
theorem dX8_shrinkBy_2 : decode cX8_shrinkBy 2 = .ok (.aload_n 0, 1) := by decide +kernel
theorem dX8_shrinkBy_3 : decode cX8_shrinkBy 3 = .ok (.getfield 19, 3) := by decide +kernel
theorem dX8_shrinkBy_6 : decode cX8_shrinkBy 6 = .ok (.iconst 1, 1) := by decide +kernel
theorem dX8_shrinkBy_7 : decode cX8_shrinkBy 7 = .ok (.isub, 1) := by decide +kernel
theorem dX8_shrinkBy_8 : decode cX8_shrinkBy 8 = .ok (.istore 4, 2) := by decide +kernel
theorem dX8_shrinkBy_10 : decode cX8_shrinkBy 10 = .ok (.iload 4, 2) := by decide +kernel
theorem dX8_shrinkBy_12 : decode cX8_shrinkBy 12 = .ok (.ifCond .lt 48, 3) := by decide +kernel
theorem dX8_shrinkBy_15 : decode cX8_shrinkBy 15 = .ok (.iload_n 1, 1) := by decide +kernel
theorem dX8_shrinkBy_16 : decode cX8_shrinkBy 16 = .ok (.ifCond .le 44, 3) := by decide +kernel
theorem dX8_shrinkBy_19 : decode cX8_shrinkBy 19 = .ok (.lload_n 2, 1) := by decide +kernel
theorem dX8_shrinkBy_20 : decode cX8_shrinkBy 20 = .ok (.bipush 32, 2) := by decide +kernel
theorem dX8_shrinkBy_22 : decode cX8_shrinkBy 22 = .ok (.lshl, 1) := by decide +kernel
theorem dX8_shrinkBy_23 : decode cX8_shrinkBy 23 = .ok (.aload_n 0, 1) := by decide +kernel
theorem dX8_shrinkBy_24 : decode cX8_shrinkBy 24 = .ok (.getfield 9, 3) := by decide +kernel
theorem dX8_shrinkBy_27 : decode cX8_shrinkBy 27 = .ok (.iload 4, 2) := by decide +kernel
theorem dX8_shrinkBy_29 : decode cX8_shrinkBy 29 = .ok (.iaload, 1) := by decide +kernel
theorem dX8_shrinkBy_30 : decode cX8_shrinkBy 30 = .ok (.i2l, 1) := by decide +kernel
theorem dX8_shrinkBy_31 : decode cX8_shrinkBy 31 = .ok (.ldc2_w 23, 3) := by decide +kernel
theorem dX8_shrinkBy_34 : decode cX8_shrinkBy 34 = .ok (.land, 1) := by decide +kernel
theorem dX8_shrinkBy_35 : decode cX8_shrinkBy 35 = .ok (.lor, 1) := by decide +kernel
theorem dX8_shrinkBy_36 : decode cX8_shrinkBy 36 = .ok (.lstore_n 2, 1) := by decide +kernel
theorem dX8_shrinkBy_37 : decode cX8_shrinkBy 37 = .ok (.aload_n 0, 1) := by decide +kernel
theorem dX8_shrinkBy_38 : decode cX8_shrinkBy 38 = .ok (.getfield 9, 3) := by decide +kernel
theorem dX8_shrinkBy_41 : decode cX8_shrinkBy 41 = .ok (.iload 4, 2) := by decide +kernel
theorem dX8_shrinkBy_43 : decode cX8_shrinkBy 43 = .ok (.lload_n 2, 1) := by decide +kernel
theorem dX8_shrinkBy_44 : decode cX8_shrinkBy 44 = .ok (.iload_n 1, 1) := by decide +kernel
theorem dX8_shrinkBy_45 : decode cX8_shrinkBy 45 = .ok (.i2l, 1) := by decide +kernel
theorem dX8_shrinkBy_46 : decode cX8_shrinkBy 46 = .ok (.ldiv, 1) := by decide +kernel
theorem dX8_shrinkBy_47 : decode cX8_shrinkBy 47 = .ok (.l2i, 1) := by decide +kernel
theorem dX8_shrinkBy_48 : decode cX8_shrinkBy 48 = .ok (.iastore, 1) := by decide +kernel
theorem dX8_shrinkBy_49 : decode cX8_shrinkBy 49 = .ok (.lload_n 2, 1) := by decide +kernel
theorem dX8_shrinkBy_50 : decode cX8_shrinkBy 50 = .ok (.iload_n 1, 1) := by decide +kernel
theorem dX8_shrinkBy_51 : decode cX8_shrinkBy 51 = .ok (.i2l, 1) := by decide +kernel
theorem dX8_shrinkBy_52 : decode cX8_shrinkBy 52 = .ok (.lrem, 1) := by decide +kernel
theorem dX8_shrinkBy_53 : decode cX8_shrinkBy 53 = .ok (.lstore_n 2, 1) := by decide +kernel
theorem dX8_shrinkBy_54 : decode cX8_shrinkBy 54 = .ok (.iinc 4 (-1), 3) := by decide +kernel
theorem dX8_shrinkBy_57 : decode cX8_shrinkBy 57 = .ok (.goto (-47), 3) := by decide +kernel
theorem dX8_shrinkBy_60 : decode cX8_shrinkBy 60 = .ok (.aload_n 0, 1) := by decide +kernel
theorem dX8_shrinkBy_61 : decode cX8_shrinkBy 61 = .ok (.invokevirtual 41, 3) := by decide +kernel
theorem dX8_shrinkBy_64 : decode cX8_shrinkBy 64 = .ok (.lload_n 2, 1) := by decide +kernel
theorem dX8_shrinkBy_65 : decode cX8_shrinkBy 65 = .ok (.l2i, 1) := by decide +kernel
theorem dX8_shrinkBy_66 : decode cX8_shrinkBy 66 = .ok (.ireturn, 1) := by decide +kernel
theorem dX8_takeTimes_0 : decode cX8_takeTimes 0 = .ok (.lconst 0, 1) := by decide +kernel
theorem dX8_takeTimes_1 : decode cX8_takeTimes 1 = .ok (.lstore 5, 2) := by decide +kernel
theorem dX8_takeTimes_3 : decode cX8_takeTimes 3 = .ok (.iconst 0, 1) := by decide +kernel
theorem dX8_takeTimes_4 : decode cX8_takeTimes 4 = .ok (.istore 7, 2) := by decide +kernel
theorem dX8_takeTimes_6 : decode cX8_takeTimes 6 = .ok (.iload 7, 2) := by decide +kernel
theorem dX8_takeTimes_8 : decode cX8_takeTimes 8 = .ok (.aload_n 3, 1) := by decide +kernel
theorem dX8_takeTimes_9 : decode cX8_takeTimes 9 = .ok (.getfield 19, 3) := by decide +kernel
theorem dX8_takeTimes_12 : decode cX8_takeTimes 12 = .ok (.if_icmp .ge 78, 3) := by decide +kernel
theorem dX8_takeTimes_15 : decode cX8_takeTimes 15 = .ok (.lload_n 1, 1) := by decide +kernel
theorem dX8_takeTimes_16 : decode cX8_takeTimes 16 = .ok (.aload_n 3, 1) := by decide +kernel
theorem dX8_takeTimes_17 : decode cX8_takeTimes 17 = .ok (.getfield 9, 3) := by decide +kernel
theorem dX8_takeTimes_20 : decode cX8_takeTimes 20 = .ok (.iload 7, 2) := by decide +kernel
theorem dX8_takeTimes_22 : decode cX8_takeTimes 22 = .ok (.iaload, 1) := by decide +kernel
theorem dX8_takeTimes_23 : decode cX8_takeTimes 23 = .ok (.i2l, 1) := by decide +kernel
theorem dX8_takeTimes_24 : decode cX8_takeTimes 24 = .ok (.ldc2_w 23, 3) := by decide +kernel
theorem dX8_takeTimes_27 : decode cX8_takeTimes 27 = .ok (.land, 1) := by decide +kernel
theorem dX8_takeTimes_28 : decode cX8_takeTimes 28 = .ok (.lmul, 1) := by decide +kernel
theorem dX8_takeTimes_29 : decode cX8_takeTimes 29 = .ok (.lload 5, 2) := by decide +kernel
theorem dX8_takeTimes_31 : decode cX8_takeTimes 31 = .ok (.ladd, 1) := by decide +kernel
theorem dX8_takeTimes_32 : decode cX8_takeTimes 32 = .ok (.lstore 8, 2) := by decide +kernel
theorem dX8_takeTimes_34 : decode cX8_takeTimes 34 = .ok (.aload_n 0, 1) := by decide +kernel
theorem dX8_takeTimes_35 : decode cX8_takeTimes 35 = .ok (.getfield 9, 3) := by decide +kernel
theorem dX8_takeTimes_38 : decode cX8_takeTimes 38 = .ok (.iload 4, 2) := by decide +kernel
theorem dX8_takeTimes_40 : decode cX8_takeTimes 40 = .ok (.iload 7, 2) := by decide +kernel
theorem dX8_takeTimes_42 : decode cX8_takeTimes 42 = .ok (.iadd, 1) := by decide +kernel
theorem dX8_takeTimes_43 : decode cX8_takeTimes 43 = .ok (.iaload, 1) := by decide +kernel
theorem dX8_takeTimes_44 : decode cX8_takeTimes 44 = .ok (.i2l, 1) := by decide +kernel
theorem dX8_takeTimes_45 : decode cX8_takeTimes 45 = .ok (.ldc2_w 23, 3) := by decide +kernel
theorem dX8_takeTimes_48 : decode cX8_takeTimes 48 = .ok (.land, 1) := by decide +kernel
theorem dX8_takeTimes_49 : decode cX8_takeTimes 49 = .ok (.lload 8, 2) := by decide +kernel
theorem dX8_takeTimes_51 : decode cX8_takeTimes 51 = .ok (.ldc2_w 23, 3) := by decide +kernel
theorem dX8_takeTimes_54 : decode cX8_takeTimes 54 = .ok (.land, 1) := by decide +kernel
theorem dX8_takeTimes_55 : decode cX8_takeTimes 55 = .ok (.lsub, 1) := by decide +kernel
theorem dX8_takeTimes_56 : decode cX8_takeTimes 56 = .ok (.lstore 10, 2) := by decide +kernel
theorem dX8_takeTimes_58 : decode cX8_takeTimes 58 = .ok (.aload_n 0, 1) := by decide +kernel
theorem dX8_takeTimes_59 : decode cX8_takeTimes 59 = .ok (.getfield 9, 3) := by decide +kernel
theorem dX8_takeTimes_62 : decode cX8_takeTimes 62 = .ok (.iload 4, 2) := by decide +kernel
theorem dX8_takeTimes_64 : decode cX8_takeTimes 64 = .ok (.iload 7, 2) := by decide +kernel
theorem dX8_takeTimes_66 : decode cX8_takeTimes 66 = .ok (.iadd, 1) := by decide +kernel
theorem dX8_takeTimes_67 : decode cX8_takeTimes 67 = .ok (.lload 10, 2) := by decide +kernel
theorem dX8_takeTimes_69 : decode cX8_takeTimes 69 = .ok (.l2i, 1) := by decide +kernel
theorem dX8_takeTimes_70 : decode cX8_takeTimes 70 = .ok (.iastore, 1) := by decide +kernel
theorem dX8_takeTimes_71 : decode cX8_takeTimes 71 = .ok (.lload 8, 2) := by decide +kernel
theorem dX8_takeTimes_73 : decode cX8_takeTimes 73 = .ok (.bipush 32, 2) := by decide +kernel
theorem dX8_takeTimes_75 : decode cX8_takeTimes 75 = .ok (.lushr, 1) := by decide +kernel
theorem dX8_takeTimes_76 : decode cX8_takeTimes 76 = .ok (.lload 10, 2) := by decide +kernel
theorem dX8_takeTimes_78 : decode cX8_takeTimes 78 = .ok (.bipush 63, 2) := by decide +kernel
theorem dX8_takeTimes_80 : decode cX8_takeTimes 80 = .ok (.lushr, 1) := by decide +kernel
theorem dX8_takeTimes_81 : decode cX8_takeTimes 81 = .ok (.ladd, 1) := by decide +kernel
theorem dX8_takeTimes_82 : decode cX8_takeTimes 82 = .ok (.lstore 5, 2) := by decide +kernel
theorem dX8_takeTimes_84 : decode cX8_takeTimes 84 = .ok (.iinc 7 1, 3) := by decide +kernel
theorem dX8_takeTimes_87 : decode cX8_takeTimes 87 = .ok (.goto (-81), 3) := by decide +kernel
theorem dX8_takeTimes_90 : decode cX8_takeTimes 90 = .ok (.aload_n 0, 1) := by decide +kernel
theorem dX8_takeTimes_91 : decode cX8_takeTimes 91 = .ok (.getfield 9, 3) := by decide +kernel
theorem dX8_takeTimes_94 : decode cX8_takeTimes 94 = .ok (.iload 4, 2) := by decide +kernel
theorem dX8_takeTimes_96 : decode cX8_takeTimes 96 = .ok (.aload_n 3, 1) := by decide +kernel
theorem dX8_takeTimes_97 : decode cX8_takeTimes 97 = .ok (.getfield 19, 3) := by decide +kernel
theorem dX8_takeTimes_100 : decode cX8_takeTimes 100 = .ok (.iadd, 1) := by decide +kernel
theorem dX8_takeTimes_101 : decode cX8_takeTimes 101 = .ok (.iaload, 1) := by decide +kernel
theorem dX8_takeTimes_102 : decode cX8_takeTimes 102 = .ok (.i2l, 1) := by decide +kernel
theorem dX8_takeTimes_103 : decode cX8_takeTimes 103 = .ok (.ldc2_w 23, 3) := by decide +kernel
theorem dX8_takeTimes_106 : decode cX8_takeTimes 106 = .ok (.land, 1) := by decide +kernel
theorem dX8_takeTimes_107 : decode cX8_takeTimes 107 = .ok (.lload 5, 2) := by decide +kernel
theorem dX8_takeTimes_109 : decode cX8_takeTimes 109 = .ok (.lsub, 1) := by decide +kernel
theorem dX8_takeTimes_110 : decode cX8_takeTimes 110 = .ok (.lstore 7, 2) := by decide +kernel
theorem dX8_takeTimes_112 : decode cX8_takeTimes 112 = .ok (.aload_n 0, 1) := by decide +kernel
theorem dX8_takeTimes_113 : decode cX8_takeTimes 113 = .ok (.getfield 9, 3) := by decide +kernel
theorem dX8_takeTimes_116 : decode cX8_takeTimes 116 = .ok (.iload 4, 2) := by decide +kernel
theorem dX8_takeTimes_118 : decode cX8_takeTimes 118 = .ok (.aload_n 3, 1) := by decide +kernel
theorem dX8_takeTimes_119 : decode cX8_takeTimes 119 = .ok (.getfield 19, 3) := by decide +kernel
theorem dX8_takeTimes_122 : decode cX8_takeTimes 122 = .ok (.iadd, 1) := by decide +kernel
theorem dX8_takeTimes_123 : decode cX8_takeTimes 123 = .ok (.lload 7, 2) := by decide +kernel
theorem dX8_takeTimes_125 : decode cX8_takeTimes 125 = .ok (.l2i, 1) := by decide +kernel
theorem dX8_takeTimes_126 : decode cX8_takeTimes 126 = .ok (.iastore, 1) := by decide +kernel
theorem dX8_takeTimes_127 : decode cX8_takeTimes 127 = .ok (.lload 7, 2) := by decide +kernel
theorem dX8_takeTimes_129 : decode cX8_takeTimes 129 = .ok (.lconst 0, 1) := by decide +kernel
theorem dX8_takeTimes_130 : decode cX8_takeTimes 130 = .ok (.lcmp, 1) := by decide +kernel
theorem dX8_takeTimes_131 : decode cX8_takeTimes 131 = .ok (.ifCond .ge 7, 3) := by decide +kernel
theorem dX8_takeTimes_134 : decode cX8_takeTimes 134 = .ok (.iconst 1, 1) := by decide +kernel
theorem dX8_takeTimes_135 : decode cX8_takeTimes 135 = .ok (.goto 4, 3) := by decide +kernel
theorem dX8_takeTimes_138 : decode cX8_takeTimes 138 = .ok (.iconst 0, 1) := by decide +kernel
theorem dX8_takeTimes_139 : decode cX8_takeTimes 139 = .ok (.ireturn, 1) := by decide +kernel
theorem dX8_giveBack_0 : decode cX8_giveBack 0 = .ok (.lconst 0, 1) := by decide +kernel
theorem dX8_giveBack_1 : decode cX8_giveBack 1 = .ok (.lstore_n 3, 1) := by decide +kernel
theorem dX8_giveBack_2 : decode cX8_giveBack 2 = .ok (.iconst 0, 1) := by decide +kernel
theorem dX8_giveBack_3 : decode cX8_giveBack 3 = .ok (.istore 5, 2) := by decide +kernel
theorem dX8_giveBack_5 : decode cX8_giveBack 5 = .ok (.iload 5, 2) := by decide +kernel
theorem dX8_giveBack_7 : decode cX8_giveBack 7 = .ok (.aload_n 1, 1) := by decide +kernel
theorem dX8_giveBack_8 : decode cX8_giveBack 8 = .ok (.getfield 19, 3) := by decide +kernel
theorem dX8_giveBack_11 : decode cX8_giveBack 11 = .ok (.if_icmp .ge 55, 3) := by decide +kernel
theorem dX8_giveBack_14 : decode cX8_giveBack 14 = .ok (.lload_n 3, 1) := by decide +kernel
theorem dX8_giveBack_15 : decode cX8_giveBack 15 = .ok (.aload_n 0, 1) := by decide +kernel
theorem dX8_giveBack_16 : decode cX8_giveBack 16 = .ok (.getfield 9, 3) := by decide +kernel
theorem dX8_giveBack_19 : decode cX8_giveBack 19 = .ok (.iload_n 2, 1) := by decide +kernel
theorem dX8_giveBack_20 : decode cX8_giveBack 20 = .ok (.iload 5, 2) := by decide +kernel
theorem dX8_giveBack_22 : decode cX8_giveBack 22 = .ok (.iadd, 1) := by decide +kernel
theorem dX8_giveBack_23 : decode cX8_giveBack 23 = .ok (.iaload, 1) := by decide +kernel
theorem dX8_giveBack_24 : decode cX8_giveBack 24 = .ok (.i2l, 1) := by decide +kernel
theorem dX8_giveBack_25 : decode cX8_giveBack 25 = .ok (.ldc2_w 23, 3) := by decide +kernel
theorem dX8_giveBack_28 : decode cX8_giveBack 28 = .ok (.land, 1) := by decide +kernel
theorem dX8_giveBack_29 : decode cX8_giveBack 29 = .ok (.aload_n 1, 1) := by decide +kernel
theorem dX8_giveBack_30 : decode cX8_giveBack 30 = .ok (.getfield 9, 3) := by decide +kernel
theorem dX8_giveBack_33 : decode cX8_giveBack 33 = .ok (.iload 5, 2) := by decide +kernel
theorem dX8_giveBack_35 : decode cX8_giveBack 35 = .ok (.iaload, 1) := by decide +kernel
theorem dX8_giveBack_36 : decode cX8_giveBack 36 = .ok (.i2l, 1) := by decide +kernel
theorem dX8_giveBack_37 : decode cX8_giveBack 37 = .ok (.ldc2_w 23, 3) := by decide +kernel
theorem dX8_giveBack_40 : decode cX8_giveBack 40 = .ok (.land, 1) := by decide +kernel
theorem dX8_giveBack_41 : decode cX8_giveBack 41 = .ok (.ladd, 1) := by decide +kernel
theorem dX8_giveBack_42 : decode cX8_giveBack 42 = .ok (.ladd, 1) := by decide +kernel
theorem dX8_giveBack_43 : decode cX8_giveBack 43 = .ok (.lstore_n 3, 1) := by decide +kernel
theorem dX8_giveBack_44 : decode cX8_giveBack 44 = .ok (.aload_n 0, 1) := by decide +kernel
theorem dX8_giveBack_45 : decode cX8_giveBack 45 = .ok (.getfield 9, 3) := by decide +kernel
theorem dX8_giveBack_48 : decode cX8_giveBack 48 = .ok (.iload_n 2, 1) := by decide +kernel
theorem dX8_giveBack_49 : decode cX8_giveBack 49 = .ok (.iload 5, 2) := by decide +kernel
theorem dX8_giveBack_51 : decode cX8_giveBack 51 = .ok (.iadd, 1) := by decide +kernel
theorem dX8_giveBack_52 : decode cX8_giveBack 52 = .ok (.lload_n 3, 1) := by decide +kernel
theorem dX8_giveBack_53 : decode cX8_giveBack 53 = .ok (.l2i, 1) := by decide +kernel
theorem dX8_giveBack_54 : decode cX8_giveBack 54 = .ok (.iastore, 1) := by decide +kernel
theorem dX8_giveBack_55 : decode cX8_giveBack 55 = .ok (.lload_n 3, 1) := by decide +kernel
theorem dX8_giveBack_56 : decode cX8_giveBack 56 = .ok (.bipush 32, 2) := by decide +kernel
theorem dX8_giveBack_58 : decode cX8_giveBack 58 = .ok (.lushr, 1) := by decide +kernel
theorem dX8_giveBack_59 : decode cX8_giveBack 59 = .ok (.lstore_n 3, 1) := by decide +kernel
theorem dX8_giveBack_60 : decode cX8_giveBack 60 = .ok (.iinc 5 1, 3) := by decide +kernel
theorem dX8_giveBack_63 : decode cX8_giveBack 63 = .ok (.goto (-58), 3) := by decide +kernel
theorem dX8_giveBack_66 : decode cX8_giveBack 66 = .ok (.lload_n 3, 1) := by decide +kernel
theorem dX8_giveBack_67 : decode cX8_giveBack 67 = .ok (.aload_n 0, 1) := by decide +kernel
theorem dX8_giveBack_68 : decode cX8_giveBack 68 = .ok (.getfield 9, 3) := by decide +kernel
theorem dX8_giveBack_71 : decode cX8_giveBack 71 = .ok (.iload_n 2, 1) := by decide +kernel
theorem dX8_giveBack_72 : decode cX8_giveBack 72 = .ok (.aload_n 1, 1) := by decide +kernel
theorem dX8_giveBack_73 : decode cX8_giveBack 73 = .ok (.getfield 19, 3) := by decide +kernel
theorem dX8_giveBack_76 : decode cX8_giveBack 76 = .ok (.iadd, 1) := by decide +kernel
theorem dX8_giveBack_77 : decode cX8_giveBack 77 = .ok (.iaload, 1) := by decide +kernel
theorem dX8_giveBack_78 : decode cX8_giveBack 78 = .ok (.i2l, 1) := by decide +kernel
theorem dX8_giveBack_79 : decode cX8_giveBack 79 = .ok (.ldc2_w 23, 3) := by decide +kernel
theorem dX8_giveBack_82 : decode cX8_giveBack 82 = .ok (.land, 1) := by decide +kernel
theorem dX8_giveBack_83 : decode cX8_giveBack 83 = .ok (.ladd, 1) := by decide +kernel
theorem dX8_giveBack_84 : decode cX8_giveBack 84 = .ok (.lstore_n 3, 1) := by decide +kernel
theorem dX8_giveBack_85 : decode cX8_giveBack 85 = .ok (.aload_n 0, 1) := by decide +kernel
theorem dX8_giveBack_86 : decode cX8_giveBack 86 = .ok (.getfield 9, 3) := by decide +kernel
theorem dX8_giveBack_89 : decode cX8_giveBack 89 = .ok (.iload_n 2, 1) := by decide +kernel
theorem dX8_giveBack_90 : decode cX8_giveBack 90 = .ok (.aload_n 1, 1) := by decide +kernel
theorem dX8_giveBack_91 : decode cX8_giveBack 91 = .ok (.getfield 19, 3) := by decide +kernel
theorem dX8_giveBack_94 : decode cX8_giveBack 94 = .ok (.iadd, 1) := by decide +kernel
theorem dX8_giveBack_95 : decode cX8_giveBack 95 = .ok (.lload_n 3, 1) := by decide +kernel
theorem dX8_giveBack_96 : decode cX8_giveBack 96 = .ok (.l2i, 1) := by decide +kernel
theorem dX8_giveBack_97 : decode cX8_giveBack 97 = .ok (.iastore, 1) := by decide +kernel
theorem dX8_giveBack_98 : decode cX8_giveBack 98 = .ok (.lload_n 3, 1) := by decide +kernel
theorem dX8_giveBack_99 : decode cX8_giveBack 99 = .ok (.bipush 32, 2) := by decide +kernel
theorem dX8_giveBack_101 : decode cX8_giveBack 101 = .ok (.lushr, 1) := by decide +kernel
theorem dX8_giveBack_102 : decode cX8_giveBack 102 = .ok (.lconst 0, 1) := by decide +kernel
theorem dX8_giveBack_103 : decode cX8_giveBack 103 = .ok (.lcmp, 1) := by decide +kernel
theorem dX8_giveBack_104 : decode cX8_giveBack 104 = .ok (.ifCond .ne 7, 3) := by decide +kernel
theorem dX8_giveBack_107 : decode cX8_giveBack 107 = .ok (.iconst 1, 1) := by decide +kernel
theorem dX8_giveBack_108 : decode cX8_giveBack 108 = .ok (.goto 4, 3) := by decide +kernel
theorem dX8_giveBack_111 : decode cX8_giveBack 111 = .ok (.iconst 0, 1) := by decide +kernel
theorem dX8_giveBack_112 : decode cX8_giveBack 112 = .ok (.ireturn, 1) := by decide +kernel
theorem dX8_trim_0 : decode cX8_trim 0 = .ok (.aload_n 0, 1) := by decide +kernel
theorem dX8_trim_1 : decode cX8_trim 1 = .ok (.getfield 19, 3) := by decide +kernel
theorem dX8_trim_4 : decode cX8_trim 4 = .ok (.ifCond .le 30, 3) := by decide +kernel
theorem dX8_trim_7 : decode cX8_trim 7 = .ok (.aload_n 0, 1) := by decide +kernel
theorem dX8_trim_8 : decode cX8_trim 8 = .ok (.getfield 9, 3) := by decide +kernel
theorem dX8_trim_11 : decode cX8_trim 11 = .ok (.aload_n 0, 1) := by decide +kernel
theorem dX8_trim_12 : decode cX8_trim 12 = .ok (.getfield 19, 3) := by decide +kernel
theorem dX8_trim_15 : decode cX8_trim 15 = .ok (.iconst 1, 1) := by decide +kernel
theorem dX8_trim_16 : decode cX8_trim 16 = .ok (.isub, 1) := by decide +kernel
theorem dX8_trim_17 : decode cX8_trim 17 = .ok (.iaload, 1) := by decide +kernel
theorem dX8_trim_18 : decode cX8_trim 18 = .ok (.ifCond .ne 16, 3) := by decide +kernel
theorem dX8_trim_21 : decode cX8_trim 21 = .ok (.aload_n 0, 1) := by decide +kernel
theorem dX8_trim_22 : decode cX8_trim 22 = .ok (.dup, 1) := by decide +kernel
theorem dX8_trim_23 : decode cX8_trim 23 = .ok (.getfield 19, 3) := by decide +kernel
theorem dX8_trim_26 : decode cX8_trim 26 = .ok (.iconst 1, 1) := by decide +kernel
theorem dX8_trim_27 : decode cX8_trim 27 = .ok (.isub, 1) := by decide +kernel
theorem dX8_trim_28 : decode cX8_trim 28 = .ok (.putfield 19, 3) := by decide +kernel
theorem dX8_trim_31 : decode cX8_trim 31 = .ok (.goto (-31), 3) := by decide +kernel
theorem dX8_trim_34 : decode cX8_trim 34 = .ok (.return_, 1) := by decide +kernel
theorem dX8_append_0 : decode cX8_append 0 = .ok (.iload_n 1, 1) := by decide +kernel
theorem dX8_append_1 : decode cX8_append 1 = .ok (.ifCond .eq 32, 3) := by decide +kernel
theorem dX8_append_4 : decode cX8_append 4 = .ok (.aload_n 0, 1) := by decide +kernel
theorem dX8_append_5 : decode cX8_append 5 = .ok (.getfield 19, 3) := by decide +kernel
theorem dX8_append_8 : decode cX8_append 8 = .ok (.bipush 16, 2) := by decide +kernel
theorem dX8_append_10 : decode cX8_append 10 = .ok (.if_icmp .ge 23, 3) := by decide +kernel
theorem dX8_append_13 : decode cX8_append 13 = .ok (.aload_n 0, 1) := by decide +kernel
theorem dX8_append_14 : decode cX8_append 14 = .ok (.getfield 9, 3) := by decide +kernel
theorem dX8_append_17 : decode cX8_append 17 = .ok (.aload_n 0, 1) := by decide +kernel
theorem dX8_append_18 : decode cX8_append 18 = .ok (.getfield 19, 3) := by decide +kernel
theorem dX8_append_21 : decode cX8_append 21 = .ok (.iload_n 1, 1) := by decide +kernel
theorem dX8_append_22 : decode cX8_append 22 = .ok (.iastore, 1) := by decide +kernel
theorem dX8_append_23 : decode cX8_append 23 = .ok (.aload_n 0, 1) := by decide +kernel
theorem dX8_append_24 : decode cX8_append 24 = .ok (.dup, 1) := by decide +kernel
theorem dX8_append_25 : decode cX8_append 25 = .ok (.getfield 19, 3) := by decide +kernel
theorem dX8_append_28 : decode cX8_append 28 = .ok (.iconst 1, 1) := by decide +kernel
theorem dX8_append_29 : decode cX8_append 29 = .ok (.iadd, 1) := by decide +kernel
theorem dX8_append_30 : decode cX8_append 30 = .ok (.putfield 19, 3) := by decide +kernel
theorem dX8_append_33 : decode cX8_append 33 = .ok (.return_, 1) := by decide +kernel
theorem dX9_init_0 : decode cX9_init 0 = .ok (.aload_n 0, 1) := by decide +kernel
theorem dX9_init_1 : decode cX9_init 1 = .ok (.invokespecial 1, 3) := by decide +kernel
theorem dX9_init_4 : decode cX9_init 4 = .ok (.iconst 1, 1) := by decide +kernel
theorem dX9_init_5 : decode cX9_init 5 = .ok (.iconst 5, 1) := by decide +kernel
theorem dX9_init_6 : decode cX9_init 6 = .ok (.iload_n 1, 1) := by decide +kernel
theorem dX9_init_7 : decode cX9_init 7 = .ok (.invokestatic 9, 3) := by decide +kernel
theorem dX9_init_10 : decode cX9_init 10 = .ok (.invokestatic 15, 3) := by decide +kernel
theorem dX9_init_13 : decode cX9_init 13 = .ok (.istore_n 2, 1) := by decide +kernel
theorem dX9_init_14 : decode cX9_init 14 = .ok (.new 18, 3) := by decide +kernel
theorem dX9_init_17 : decode cX9_init 17 = .ok (.dup, 1) := by decide +kernel
theorem dX9_init_18 : decode cX9_init 18 = .ok (.invokespecial 20, 3) := by decide +kernel
theorem dX9_init_21 : decode cX9_init 21 = .ok (.astore_n 3, 1) := by decide +kernel
theorem dX9_init_22 : decode cX9_init 22 = .ok (.aload_n 0, 1) := by decide +kernel
theorem dX9_init_23 : decode cX9_init 23 = .ok (.iload_n 2, 1) := by decide +kernel
theorem dX9_init_24 : decode cX9_init 24 = .ok (.putfield 21, 3) := by decide +kernel
theorem dX9_init_27 : decode cX9_init 27 = .ok (.aload_n 0, 1) := by decide +kernel
theorem dX9_init_28 : decode cX9_init 28 = .ok (.aload_n 3, 1) := by decide +kernel
theorem dX9_init_29 : decode cX9_init 29 = .ok (.putfield 25, 3) := by decide +kernel
theorem dX9_init_32 : decode cX9_init 32 = .ok (.aload_n 0, 1) := by decide +kernel
theorem dX9_init_33 : decode cX9_init 33 = .ok (.bipush 40, 2) := by decide +kernel
theorem dX9_init_35 : decode cX9_init 35 = .ok (.invokestatic 29, 3) := by decide +kernel
theorem dX9_init_38 : decode cX9_init 38 = .ok (.putfield 35, 3) := by decide +kernel
theorem dX9_init_41 : decode cX9_init 41 = .ok (.aload_n 0, 1) := by decide +kernel
theorem dX9_init_42 : decode cX9_init 42 = .ok (.iload_n 2, 1) := by decide +kernel
theorem dX9_init_43 : decode cX9_init 43 = .ok (.iload_n 2, 1) := by decide +kernel
theorem dX9_init_44 : decode cX9_init 44 = .ok (.iconst 1, 1) := by decide +kernel
theorem dX9_init_45 : decode cX9_init 45 = .ok (.iadd, 1) := by decide +kernel
theorem dX9_init_46 : decode cX9_init 46 = .ok (.imul, 1) := by decide +kernel
theorem dX9_init_47 : decode cX9_init 47 = .ok (.invokestatic 29, 3) := by decide +kernel
theorem dX9_init_50 : decode cX9_init 50 = .ok (.putfield 39, 3) := by decide +kernel
theorem dX9_init_53 : decode cX9_init 53 = .ok (.aload_n 0, 1) := by decide +kernel
theorem dX9_init_54 : decode cX9_init 54 = .ok (.new 42, 3) := by decide +kernel
theorem dX9_init_57 : decode cX9_init 57 = .ok (.dup, 1) := by decide +kernel
theorem dX9_init_58 : decode cX9_init 58 = .ok (.iload_n 2, 1) := by decide +kernel
theorem dX9_init_59 : decode cX9_init 59 = .ok (.aload_n 3, 1) := by decide +kernel
theorem dX9_init_60 : decode cX9_init 60 = .ok (.invokespecial 44, 3) := by decide +kernel
theorem dX9_init_63 : decode cX9_init 63 = .ok (.putfield 47, 3) := by decide +kernel
theorem dX9_init_66 : decode cX9_init 66 = .ok (.aload_n 0, 1) := by decide +kernel
theorem dX9_init_67 : decode cX9_init 67 = .ok (.new 51, 3) := by decide +kernel
theorem dX9_init_70 : decode cX9_init 70 = .ok (.dup, 1) := by decide +kernel
theorem dX9_init_71 : decode cX9_init 71 = .ok (.iload_n 2, 1) := by decide +kernel
theorem dX9_init_72 : decode cX9_init 72 = .ok (.aload_n 3, 1) := by decide +kernel
theorem dX9_init_73 : decode cX9_init 73 = .ok (.invokespecial 53, 3) := by decide +kernel
theorem dX9_init_76 : decode cX9_init 76 = .ok (.putfield 54, 3) := by decide +kernel
theorem dX9_init_79 : decode cX9_init 79 = .ok (.aload_n 0, 1) := by decide +kernel
theorem dX9_init_80 : decode cX9_init 80 = .ok (.new 58, 3) := by decide +kernel
theorem dX9_init_83 : decode cX9_init 83 = .ok (.dup, 1) := by decide +kernel
theorem dX9_init_84 : decode cX9_init 84 = .ok (.iload_n 2, 1) := by decide +kernel
theorem dX9_init_85 : decode cX9_init 85 = .ok (.aload_n 3, 1) := by decide +kernel
theorem dX9_init_86 : decode cX9_init 86 = .ok (.invokespecial 60, 3) := by decide +kernel
theorem dX9_init_89 : decode cX9_init 89 = .ok (.putfield 61, 3) := by decide +kernel
theorem dX9_init_92 : decode cX9_init 92 = .ok (.aload_n 0, 1) := by decide +kernel
theorem dX9_init_93 : decode cX9_init 93 = .ok (.new 65, 3) := by decide +kernel
theorem dX9_init_96 : decode cX9_init 96 = .ok (.dup, 1) := by decide +kernel
theorem dX9_init_97 : decode cX9_init 97 = .ok (.aload_n 3, 1) := by decide +kernel
theorem dX9_init_98 : decode cX9_init 98 = .ok (.invokespecial 67, 3) := by decide +kernel
theorem dX9_init_101 : decode cX9_init 101 = .ok (.putfield 70, 3) := by decide +kernel
theorem dX9_init_104 : decode cX9_init 104 = .ok (.aload_n 0, 1) := by decide +kernel
theorem dX9_init_105 : decode cX9_init 105 = .ok (.new 74, 3) := by decide +kernel
theorem dX9_init_108 : decode cX9_init 108 = .ok (.dup, 1) := by decide +kernel
theorem dX9_init_109 : decode cX9_init 109 = .ok (.aload_n 3, 1) := by decide +kernel
theorem dX9_init_110 : decode cX9_init 110 = .ok (.invokespecial 76, 3) := by decide +kernel
theorem dX9_init_113 : decode cX9_init 113 = .ok (.putfield 77, 3) := by decide +kernel
theorem dX9_init_116 : decode cX9_init 116 = .ok (.return_, 1) := by decide +kernel
theorem dX9_value_0 : decode cX9_value 0 = .ok (.lload_n 3, 1) := by decide +kernel
theorem dX9_value_1 : decode cX9_value 1 = .ok (.lconst 0, 1) := by decide +kernel
theorem dX9_value_2 : decode cX9_value 2 = .ok (.lcmp, 1) := by decide +kernel
theorem dX9_value_3 : decode cX9_value 3 = .ok (.ifCond .ne 6, 3) := by decide +kernel
theorem dX9_value_6 : decode cX9_value 6 = .ok (.bipush (-2), 2) := by decide +kernel
theorem dX9_value_8 : decode cX9_value 8 = .ok (.ireturn, 1) := by decide +kernel
theorem dX9_value_9 : decode cX9_value 9 = .ok (.aload_n 0, 1) := by decide +kernel
theorem dX9_value_10 : decode cX9_value 10 = .ok (.invokevirtual 81, 3) := by decide +kernel
theorem dX9_value_13 : decode cX9_value 13 = .ok (.ifCond .eq 6, 3) := by decide +kernel
theorem dX9_value_16 : decode cX9_value 16 = .ok (.bipush (-4), 2) := by decide +kernel
theorem dX9_value_18 : decode cX9_value 18 = .ok (.ireturn, 1) := by decide +kernel
theorem dX9_value_19 : decode cX9_value 19 = .ok (.aload_n 0, 1) := by decide +kernel
theorem dX9_value_20 : decode cX9_value 20 = .ok (.getfield 25, 3) := by decide +kernel
theorem dX9_value_23 : decode cX9_value 23 = .ok (.lload_n 1, 1) := by decide +kernel
theorem dX9_value_24 : decode cX9_value 24 = .ok (.lload_n 3, 1) := by decide +kernel
theorem dX9_value_25 : decode cX9_value 25 = .ok (.aload_n 0, 1) := by decide +kernel
theorem dX9_value_26 : decode cX9_value 26 = .ok (.getfield 35, 3) := by decide +kernel
theorem dX9_value_29 : decode cX9_value 29 = .ok (.aload_n 0, 1) := by decide +kernel
theorem dX9_value_30 : decode cX9_value 30 = .ok (.getfield 85, 3) := by decide +kernel
theorem dX9_value_33 : decode cX9_value 33 = .ok (.aaload, 1) := by decide +kernel
theorem dX9_value_34 : decode cX9_value 34 = .ok (.invokevirtual 88, 3) := by decide +kernel
theorem dX9_value_37 : decode cX9_value 37 = .ok (.aload_n 0, 1) := by decide +kernel
theorem dX9_value_38 : decode cX9_value 38 = .ok (.iconst 1, 1) := by decide +kernel
theorem dX9_value_39 : decode cX9_value 39 = .ok (.invokevirtual 92, 3) := by decide +kernel
theorem dX9_value_42 : decode cX9_value 42 = .ok (.ireturn, 1) := by decide +kernel
theorem dX9_act_0 : decode cX9_act 0 = .ok (.iload_n 1, 1) := by decide +kernel
theorem dX9_act_1 : decode cX9_act 1 = .ok (.ifCond .lt 24, 3) := by decide +kernel
theorem dX9_act_4 : decode cX9_act 4 = .ok (.iload_n 1, 1) := by decide +kernel
theorem dX9_act_5 : decode cX9_act 5 = .ok (.iconst 3, 1) := by decide +kernel
theorem dX9_act_6 : decode cX9_act 6 = .ok (.if_icmp .gt 19, 3) := by decide +kernel
theorem dX9_act_9 : decode cX9_act 9 = .ok (.aload_n 0, 1) := by decide +kernel
theorem dX9_act_10 : decode cX9_act 10 = .ok (.iload_n 2, 1) := by decide +kernel
theorem dX9_act_11 : decode cX9_act 11 = .ok (.invokevirtual 96, 3) := by decide +kernel
theorem dX9_act_14 : decode cX9_act 14 = .ok (.ifCond .eq 11, 3) := by decide +kernel
theorem dX9_act_17 : decode cX9_act 17 = .ok (.aload_n 0, 1) := by decide +kernel
theorem dX9_act_18 : decode cX9_act 18 = .ok (.iload_n 3, 1) := by decide +kernel
theorem dX9_act_19 : decode cX9_act 19 = .ok (.invokevirtual 96, 3) := by decide +kernel
theorem dX9_act_22 : decode cX9_act 22 = .ok (.ifCond .ne 5, 3) := by decide +kernel
theorem dX9_act_25 : decode cX9_act 25 = .ok (.iconst (-1), 1) := by decide +kernel
theorem dX9_act_26 : decode cX9_act 26 = .ok (.ireturn, 1) := by decide +kernel
theorem dX9_act_27 : decode cX9_act 27 = .ok (.aload_n 0, 1) := by decide +kernel
theorem dX9_act_28 : decode cX9_act 28 = .ok (.invokevirtual 81, 3) := by decide +kernel
theorem dX9_act_31 : decode cX9_act 31 = .ok (.ifCond .eq 6, 3) := by decide +kernel
theorem dX9_act_34 : decode cX9_act 34 = .ok (.bipush (-4), 2) := by decide +kernel
theorem dX9_act_36 : decode cX9_act 36 = .ok (.ireturn, 1) := by decide +kernel
theorem dX9_act_37 : decode cX9_act 37 = .ok (.iload_n 1, 1) := by decide +kernel
theorem dX9_act_38 : decode cX9_act 38 = .ok (.iconst 3, 1) := by decide +kernel
theorem dX9_act_39 : decode cX9_act 39 = .ok (.if_icmp .ne 18, 3) := by decide +kernel
theorem dX9_act_42 : decode cX9_act 42 = .ok (.aload_n 0, 1) := by decide +kernel
theorem dX9_act_43 : decode cX9_act 43 = .ok (.getfield 35, 3) := by decide +kernel
theorem dX9_act_46 : decode cX9_act 46 = .ok (.iload_n 3, 1) := by decide +kernel
theorem dX9_act_47 : decode cX9_act 47 = .ok (.aaload, 1) := by decide +kernel
theorem dX9_act_48 : decode cX9_act 48 = .ok (.invokevirtual 100, 3) := by decide +kernel
theorem dX9_act_51 : decode cX9_act 51 = .ok (.ifCond .eq 6, 3) := by decide +kernel
theorem dX9_act_54 : decode cX9_act 54 = .ok (.bipush (-2), 2) := by decide +kernel
theorem dX9_act_56 : decode cX9_act 56 = .ok (.ireturn, 1) := by decide +kernel
theorem dX9_act_57 : decode cX9_act 57 = .ok (.aload_n 0, 1) := by decide +kernel
theorem dX9_act_58 : decode cX9_act 58 = .ok (.getfield 35, 3) := by decide +kernel
theorem dX9_act_61 : decode cX9_act 61 = .ok (.aload_n 0, 1) := by decide +kernel
theorem dX9_act_62 : decode cX9_act 62 = .ok (.getfield 85, 3) := by decide +kernel
theorem dX9_act_65 : decode cX9_act 65 = .ok (.aaload, 1) := by decide +kernel
theorem dX9_act_66 : decode cX9_act 66 = .ok (.astore 4, 2) := by decide +kernel
theorem dX9_act_68 : decode cX9_act 68 = .ok (.iload_n 1, 1) := by decide +kernel
theorem dX9_act_69 : decode cX9_act 69 = .ok (.iconst 2, 1) := by decide +kernel
theorem dX9_act_70 : decode cX9_act 70 = .ok (.if_icmp .ge 39, 3) := by decide +kernel
theorem dX9_act_73 : decode cX9_act 73 = .ok (.aload_n 0, 1) := by decide +kernel
theorem dX9_act_74 : decode cX9_act 74 = .ok (.aload_n 0, 1) := by decide +kernel
theorem dX9_act_75 : decode cX9_act 75 = .ok (.getfield 25, 3) := by decide +kernel
theorem dX9_act_78 : decode cX9_act 78 = .ok (.aload_n 0, 1) := by decide +kernel
theorem dX9_act_79 : decode cX9_act 79 = .ok (.getfield 35, 3) := by decide +kernel
theorem dX9_act_82 : decode cX9_act 82 = .ok (.iload_n 2, 1) := by decide +kernel
theorem dX9_act_83 : decode cX9_act 83 = .ok (.aaload, 1) := by decide +kernel
theorem dX9_act_84 : decode cX9_act 84 = .ok (.aload_n 0, 1) := by decide +kernel
theorem dX9_act_85 : decode cX9_act 85 = .ok (.getfield 35, 3) := by decide +kernel
theorem dX9_act_88 : decode cX9_act 88 = .ok (.iload_n 3, 1) := by decide +kernel
theorem dX9_act_89 : decode cX9_act 89 = .ok (.aaload, 1) := by decide +kernel
theorem dX9_act_90 : decode cX9_act 90 = .ok (.iload_n 1, 1) := by decide +kernel
theorem dX9_act_91 : decode cX9_act 91 = .ok (.iconst 1, 1) := by decide +kernel
theorem dX9_act_92 : decode cX9_act 92 = .ok (.if_icmp .ne 7, 3) := by decide +kernel
theorem dX9_act_95 : decode cX9_act 95 = .ok (.iconst 1, 1) := by decide +kernel
theorem dX9_act_96 : decode cX9_act 96 = .ok (.goto 4, 3) := by decide +kernel
theorem dX9_act_99 : decode cX9_act 99 = .ok (.iconst 0, 1) := by decide +kernel
theorem dX9_act_100 : decode cX9_act 100 = .ok (.aload 4, 2) := by decide +kernel
theorem dX9_act_102 : decode cX9_act 102 = .ok (.invokevirtual 103, 3) := by decide +kernel
theorem dX9_act_105 : decode cX9_act 105 = .ok (.invokevirtual 92, 3) := by decide +kernel
theorem dX9_act_108 : decode cX9_act 108 = .ok (.ireturn, 1) := by decide +kernel
theorem dX9_act_109 : decode cX9_act 109 = .ok (.aload_n 0, 1) := by decide +kernel
theorem dX9_act_110 : decode cX9_act 110 = .ok (.aload_n 0, 1) := by decide +kernel
theorem dX9_act_111 : decode cX9_act 111 = .ok (.getfield 25, 3) := by decide +kernel
theorem dX9_act_114 : decode cX9_act 114 = .ok (.aload_n 0, 1) := by decide +kernel
theorem dX9_act_115 : decode cX9_act 115 = .ok (.getfield 35, 3) := by decide +kernel
theorem dX9_act_118 : decode cX9_act 118 = .ok (.iload_n 2, 1) := by decide +kernel
theorem dX9_act_119 : decode cX9_act 119 = .ok (.aaload, 1) := by decide +kernel
theorem dX9_act_120 : decode cX9_act 120 = .ok (.aload_n 0, 1) := by decide +kernel
theorem dX9_act_121 : decode cX9_act 121 = .ok (.getfield 35, 3) := by decide +kernel
theorem dX9_act_124 : decode cX9_act 124 = .ok (.iload_n 3, 1) := by decide +kernel
theorem dX9_act_125 : decode cX9_act 125 = .ok (.aaload, 1) := by decide +kernel
theorem dX9_act_126 : decode cX9_act 126 = .ok (.iload_n 1, 1) := by decide +kernel
theorem dX9_act_127 : decode cX9_act 127 = .ok (.iconst 3, 1) := by decide +kernel
theorem dX9_act_128 : decode cX9_act 128 = .ok (.if_icmp .ne 7, 3) := by decide +kernel
theorem dX9_act_131 : decode cX9_act 131 = .ok (.iconst 1, 1) := by decide +kernel
theorem dX9_act_132 : decode cX9_act 132 = .ok (.goto 4, 3) := by decide +kernel
theorem dX9_act_135 : decode cX9_act 135 = .ok (.iconst 0, 1) := by decide +kernel
theorem dX9_act_136 : decode cX9_act 136 = .ok (.aload 4, 2) := by decide +kernel
theorem dX9_act_138 : decode cX9_act 138 = .ok (.invokevirtual 107, 3) := by decide +kernel
theorem dX9_act_141 : decode cX9_act 141 = .ok (.invokevirtual 92, 3) := by decide +kernel
theorem dX9_act_144 : decode cX9_act 144 = .ok (.ireturn, 1) := by decide +kernel
theorem dX9_quotient_0 : decode cX9_quotient 0 = .ok (.aload_n 0, 1) := by decide +kernel
theorem dX9_quotient_1 : decode cX9_quotient 1 = .ok (.iload_n 1, 1) := by decide +kernel
theorem dX9_quotient_2 : decode cX9_quotient 2 = .ok (.invokevirtual 96, 3) := by decide +kernel
theorem dX9_quotient_5 : decode cX9_quotient 5 = .ok (.ifCond .eq 11, 3) := by decide +kernel
theorem dX9_quotient_8 : decode cX9_quotient 8 = .ok (.aload_n 0, 1) := by decide +kernel
theorem dX9_quotient_9 : decode cX9_quotient 9 = .ok (.iload_n 2, 1) := by decide +kernel
theorem dX9_quotient_10 : decode cX9_quotient 10 = .ok (.invokevirtual 96, 3) := by decide +kernel
theorem dX9_quotient_13 : decode cX9_quotient 13 = .ok (.ifCond .ne 5, 3) := by decide +kernel
theorem dX9_quotient_16 : decode cX9_quotient 16 = .ok (.iconst (-1), 1) := by decide +kernel
theorem dX9_quotient_17 : decode cX9_quotient 17 = .ok (.ireturn, 1) := by decide +kernel
theorem dX9_quotient_18 : decode cX9_quotient 18 = .ok (.aload_n 0, 1) := by decide +kernel
theorem dX9_quotient_19 : decode cX9_quotient 19 = .ok (.invokevirtual 81, 3) := by decide +kernel
theorem dX9_quotient_22 : decode cX9_quotient 22 = .ok (.ifCond .eq 6, 3) := by decide +kernel
theorem dX9_quotient_25 : decode cX9_quotient 25 = .ok (.bipush (-4), 2) := by decide +kernel
theorem dX9_quotient_27 : decode cX9_quotient 27 = .ok (.ireturn, 1) := by decide +kernel
theorem dX9_quotient_28 : decode cX9_quotient 28 = .ok (.aload_n 0, 1) := by decide +kernel
theorem dX9_quotient_29 : decode cX9_quotient 29 = .ok (.getfield 35, 3) := by decide +kernel
theorem dX9_quotient_32 : decode cX9_quotient 32 = .ok (.iload_n 2, 1) := by decide +kernel
theorem dX9_quotient_33 : decode cX9_quotient 33 = .ok (.aaload, 1) := by decide +kernel
theorem dX9_quotient_34 : decode cX9_quotient 34 = .ok (.invokevirtual 100, 3) := by decide +kernel
theorem dX9_quotient_37 : decode cX9_quotient 37 = .ok (.ifCond .eq 13, 3) := by decide +kernel
theorem dX9_quotient_40 : decode cX9_quotient 40 = .ok (.new 110, 3) := by decide +kernel
theorem dX9_quotient_43 : decode cX9_quotient 43 = .ok (.dup, 1) := by decide +kernel
theorem dX9_quotient_44 : decode cX9_quotient 44 = .ok (.ldc 112, 2) := by decide +kernel
theorem dX9_quotient_46 : decode cX9_quotient 46 = .ok (.invokespecial 114, 3) := by decide +kernel
theorem dX9_quotient_49 : decode cX9_quotient 49 = .ok (.athrow, 1) := by decide +kernel
theorem dX9_quotient_50 : decode cX9_quotient 50 = .ok (.aload_n 0, 1) := by decide +kernel
theorem dX9_quotient_51 : decode cX9_quotient 51 = .ok (.aload_n 0, 1) := by decide +kernel
theorem dX9_quotient_52 : decode cX9_quotient 52 = .ok (.getfield 25, 3) := by decide +kernel
theorem dX9_quotient_55 : decode cX9_quotient 55 = .ok (.aload_n 0, 1) := by decide +kernel
theorem dX9_quotient_56 : decode cX9_quotient 56 = .ok (.getfield 35, 3) := by decide +kernel
theorem dX9_quotient_59 : decode cX9_quotient 59 = .ok (.iload_n 1, 1) := by decide +kernel
theorem dX9_quotient_60 : decode cX9_quotient 60 = .ok (.aaload, 1) := by decide +kernel
theorem dX9_quotient_61 : decode cX9_quotient 61 = .ok (.aload_n 0, 1) := by decide +kernel
theorem dX9_quotient_62 : decode cX9_quotient 62 = .ok (.getfield 35, 3) := by decide +kernel
theorem dX9_quotient_65 : decode cX9_quotient 65 = .ok (.iload_n 2, 1) := by decide +kernel
theorem dX9_quotient_66 : decode cX9_quotient 66 = .ok (.aaload, 1) := by decide +kernel
theorem dX9_quotient_67 : decode cX9_quotient 67 = .ok (.iconst 1, 1) := by decide +kernel
theorem dX9_quotient_68 : decode cX9_quotient 68 = .ok (.aload_n 0, 1) := by decide +kernel
theorem dX9_quotient_69 : decode cX9_quotient 69 = .ok (.getfield 35, 3) := by decide +kernel
theorem dX9_quotient_72 : decode cX9_quotient 72 = .ok (.aload_n 0, 1) := by decide +kernel
theorem dX9_quotient_73 : decode cX9_quotient 73 = .ok (.getfield 85, 3) := by decide +kernel
theorem dX9_quotient_76 : decode cX9_quotient 76 = .ok (.aaload, 1) := by decide +kernel
theorem dX9_quotient_77 : decode cX9_quotient 77 = .ok (.invokevirtual 107, 3) := by decide +kernel
theorem dX9_quotient_80 : decode cX9_quotient 80 = .ok (.invokevirtual 92, 3) := by decide +kernel
theorem dX9_quotient_83 : decode cX9_quotient 83 = .ok (.ireturn, 1) := by decide +kernel
theorem dX9_drop_0 : decode cX9_drop 0 = .ok (.aload_n 0, 1) := by decide +kernel
theorem dX9_drop_1 : decode cX9_drop 1 = .ok (.getfield 85, 3) := by decide +kernel
theorem dX9_drop_4 : decode cX9_drop 4 = .ok (.ifCond .ne 6, 3) := by decide +kernel
theorem dX9_drop_7 : decode cX9_drop 7 = .ok (.bipush (-5), 2) := by decide +kernel
theorem dX9_drop_9 : decode cX9_drop 9 = .ok (.ireturn, 1) := by decide +kernel
theorem dX9_drop_10 : decode cX9_drop 10 = .ok (.aload_n 0, 1) := by decide +kernel
theorem dX9_drop_11 : decode cX9_drop 11 = .ok (.dup, 1) := by decide +kernel
theorem dX9_drop_12 : decode cX9_drop 12 = .ok (.getfield 85, 3) := by decide +kernel
theorem dX9_drop_15 : decode cX9_drop 15 = .ok (.iconst 1, 1) := by decide +kernel
theorem dX9_drop_16 : decode cX9_drop 16 = .ok (.isub, 1) := by decide +kernel
theorem dX9_drop_17 : decode cX9_drop 17 = .ok (.putfield 85, 3) := by decide +kernel
theorem dX9_drop_20 : decode cX9_drop 20 = .ok (.aload_n 0, 1) := by decide +kernel
theorem dX9_drop_21 : decode cX9_drop 21 = .ok (.getfield 85, 3) := by decide +kernel
theorem dX9_drop_24 : decode cX9_drop 24 = .ok (.ireturn, 1) := by decide +kernel
theorem dX9_compare_0 : decode cX9_compare 0 = .ok (.aload_n 0, 1) := by decide +kernel
theorem dX9_compare_1 : decode cX9_compare 1 = .ok (.iload_n 1, 1) := by decide +kernel
theorem dX9_compare_2 : decode cX9_compare 2 = .ok (.invokevirtual 96, 3) := by decide +kernel
theorem dX9_compare_5 : decode cX9_compare 5 = .ok (.ifCond .eq 11, 3) := by decide +kernel
theorem dX9_compare_8 : decode cX9_compare 8 = .ok (.aload_n 0, 1) := by decide +kernel
theorem dX9_compare_9 : decode cX9_compare 9 = .ok (.iload_n 2, 1) := by decide +kernel
theorem dX9_compare_10 : decode cX9_compare 10 = .ok (.invokevirtual 96, 3) := by decide +kernel
theorem dX9_compare_13 : decode cX9_compare 13 = .ok (.ifCond .ne 6, 3) := by decide +kernel
theorem dX9_compare_16 : decode cX9_compare 16 = .ok (.bipush (-2), 2) := by decide +kernel
theorem dX9_compare_18 : decode cX9_compare 18 = .ok (.ireturn, 1) := by decide +kernel
theorem dX9_compare_19 : decode cX9_compare 19 = .ok (.aload_n 0, 1) := by decide +kernel
theorem dX9_compare_20 : decode cX9_compare 20 = .ok (.getfield 25, 3) := by decide +kernel
theorem dX9_compare_23 : decode cX9_compare 23 = .ok (.aload_n 0, 1) := by decide +kernel
theorem dX9_compare_24 : decode cX9_compare 24 = .ok (.getfield 35, 3) := by decide +kernel
theorem dX9_compare_27 : decode cX9_compare 27 = .ok (.iload_n 1, 1) := by decide +kernel
theorem dX9_compare_28 : decode cX9_compare 28 = .ok (.aaload, 1) := by decide +kernel
theorem dX9_compare_29 : decode cX9_compare 29 = .ok (.aload_n 0, 1) := by decide +kernel
theorem dX9_compare_30 : decode cX9_compare 30 = .ok (.getfield 35, 3) := by decide +kernel
theorem dX9_compare_33 : decode cX9_compare 33 = .ok (.iload_n 2, 1) := by decide +kernel
theorem dX9_compare_34 : decode cX9_compare 34 = .ok (.aaload, 1) := by decide +kernel
theorem dX9_compare_35 : decode cX9_compare 35 = .ok (.invokevirtual 117, 3) := by decide +kernel
theorem dX9_compare_38 : decode cX9_compare 38 = .ok (.ireturn, 1) := by decide +kernel
theorem dX9_about_0 : decode cX9_about 0 = .ok (.aload_n 0, 1) := by decide +kernel
theorem dX9_about_1 : decode cX9_about 1 = .ok (.iload_n 1, 1) := by decide +kernel
theorem dX9_about_2 : decode cX9_about 2 = .ok (.invokevirtual 96, 3) := by decide +kernel
theorem dX9_about_5 : decode cX9_about 5 = .ok (.ifCond .ne 5, 3) := by decide +kernel
theorem dX9_about_8 : decode cX9_about 8 = .ok (.iconst (-1), 1) := by decide +kernel
theorem dX9_about_9 : decode cX9_about 9 = .ok (.ireturn, 1) := by decide +kernel
theorem dX9_about_10 : decode cX9_about 10 = .ok (.aload_n 0, 1) := by decide +kernel
theorem dX9_about_11 : decode cX9_about 11 = .ok (.getfield 35, 3) := by decide +kernel
theorem dX9_about_14 : decode cX9_about 14 = .ok (.iload_n 1, 1) := by decide +kernel
theorem dX9_about_15 : decode cX9_about 15 = .ok (.aaload, 1) := by decide +kernel
theorem dX9_about_16 : decode cX9_about 16 = .ok (.astore_n 3, 1) := by decide +kernel
theorem dX9_about_17 : decode cX9_about 17 = .ok (.iload_n 2, 1) := by decide +kernel
theorem dX9_about_18 : decode cX9_about 18 = .ok (.tableswitch 64 0 3 #[30, 43, 51, 59], 30) := by decide +kernel
theorem dX9_about_48 : decode cX9_about 48 = .ok (.aload_n 3, 1) := by decide +kernel
theorem dX9_about_49 : decode cX9_about 49 = .ok (.getfield 121, 3) := by decide +kernel
theorem dX9_about_52 : decode cX9_about 52 = .ok (.ifCond .eq 7, 3) := by decide +kernel
theorem dX9_about_55 : decode cX9_about 55 = .ok (.iconst 1, 1) := by decide +kernel
theorem dX9_about_56 : decode cX9_about 56 = .ok (.goto 4, 3) := by decide +kernel
theorem dX9_about_59 : decode cX9_about 59 = .ok (.iconst 0, 1) := by decide +kernel
theorem dX9_about_60 : decode cX9_about 60 = .ok (.ireturn, 1) := by decide +kernel
theorem dX9_about_61 : decode cX9_about 61 = .ok (.aload_n 3, 1) := by decide +kernel
theorem dX9_about_62 : decode cX9_about 62 = .ok (.getfield 125, 3) := by decide +kernel
theorem dX9_about_65 : decode cX9_about 65 = .ok (.getfield 129, 3) := by decide +kernel
theorem dX9_about_68 : decode cX9_about 68 = .ok (.ireturn, 1) := by decide +kernel
theorem dX9_about_69 : decode cX9_about 69 = .ok (.aload_n 3, 1) := by decide +kernel
theorem dX9_about_70 : decode cX9_about 70 = .ok (.getfield 134, 3) := by decide +kernel
theorem dX9_about_73 : decode cX9_about 73 = .ok (.getfield 129, 3) := by decide +kernel
theorem dX9_about_76 : decode cX9_about 76 = .ok (.ireturn, 1) := by decide +kernel
theorem dX9_about_77 : decode cX9_about 77 = .ok (.aload_n 3, 1) := by decide +kernel
theorem dX9_about_78 : decode cX9_about 78 = .ok (.invokevirtual 137, 3) := by decide +kernel
theorem dX9_about_81 : decode cX9_about 81 = .ok (.ireturn, 1) := by decide +kernel
theorem dX9_about_82 : decode cX9_about 82 = .ok (.iconst (-1), 1) := by decide +kernel
theorem dX9_about_83 : decode cX9_about 83 = .ok (.ireturn, 1) := by decide +kernel
theorem dX9_limb_0 : decode cX9_limb 0 = .ok (.aload_n 0, 1) := by decide +kernel
theorem dX9_limb_1 : decode cX9_limb 1 = .ok (.iload_n 1, 1) := by decide +kernel
theorem dX9_limb_2 : decode cX9_limb 2 = .ok (.invokevirtual 96, 3) := by decide +kernel
theorem dX9_limb_5 : decode cX9_limb 5 = .ok (.ifCond .ne 13, 3) := by decide +kernel
theorem dX9_limb_8 : decode cX9_limb 8 = .ok (.new 141, 3) := by decide +kernel
theorem dX9_limb_11 : decode cX9_limb 11 = .ok (.dup, 1) := by decide +kernel
theorem dX9_limb_12 : decode cX9_limb 12 = .ok (.ldc 143, 2) := by decide +kernel
theorem dX9_limb_14 : decode cX9_limb 14 = .ok (.invokespecial 145, 3) := by decide +kernel
theorem dX9_limb_17 : decode cX9_limb 17 = .ok (.athrow, 1) := by decide +kernel
theorem dX9_limb_18 : decode cX9_limb 18 = .ok (.iload_n 2, 1) := by decide +kernel
theorem dX9_limb_19 : decode cX9_limb 19 = .ok (.ifCond .eq 18, 3) := by decide +kernel
theorem dX9_limb_22 : decode cX9_limb 22 = .ok (.iload_n 2, 1) := by decide +kernel
theorem dX9_limb_23 : decode cX9_limb 23 = .ok (.iconst 1, 1) := by decide +kernel
theorem dX9_limb_24 : decode cX9_limb 24 = .ok (.if_icmp .eq 13, 3) := by decide +kernel
theorem dX9_limb_27 : decode cX9_limb 27 = .ok (.new 141, 3) := by decide +kernel
theorem dX9_limb_30 : decode cX9_limb 30 = .ok (.dup, 1) := by decide +kernel
theorem dX9_limb_31 : decode cX9_limb 31 = .ok (.ldc 146, 2) := by decide +kernel
theorem dX9_limb_33 : decode cX9_limb 33 = .ok (.invokespecial 145, 3) := by decide +kernel
theorem dX9_limb_36 : decode cX9_limb 36 = .ok (.athrow, 1) := by decide +kernel
theorem dX9_limb_37 : decode cX9_limb 37 = .ok (.iload_n 2, 1) := by decide +kernel
theorem dX9_limb_38 : decode cX9_limb 38 = .ok (.ifCond .ne 15, 3) := by decide +kernel
theorem dX9_limb_41 : decode cX9_limb 41 = .ok (.aload_n 0, 1) := by decide +kernel
theorem dX9_limb_42 : decode cX9_limb 42 = .ok (.getfield 35, 3) := by decide +kernel
theorem dX9_limb_45 : decode cX9_limb 45 = .ok (.iload_n 1, 1) := by decide +kernel
theorem dX9_limb_46 : decode cX9_limb 46 = .ok (.aaload, 1) := by decide +kernel
theorem dX9_limb_47 : decode cX9_limb 47 = .ok (.getfield 125, 3) := by decide +kernel
theorem dX9_limb_50 : decode cX9_limb 50 = .ok (.goto 12, 3) := by decide +kernel
theorem dX9_limb_53 : decode cX9_limb 53 = .ok (.aload_n 0, 1) := by decide +kernel
theorem dX9_limb_54 : decode cX9_limb 54 = .ok (.getfield 35, 3) := by decide +kernel
theorem dX9_limb_57 : decode cX9_limb 57 = .ok (.iload_n 1, 1) := by decide +kernel
theorem dX9_limb_58 : decode cX9_limb 58 = .ok (.aaload, 1) := by decide +kernel
theorem dX9_limb_59 : decode cX9_limb 59 = .ok (.getfield 134, 3) := by decide +kernel
theorem dX9_limb_62 : decode cX9_limb 62 = .ok (.astore 4, 2) := by decide +kernel
theorem dX9_limb_64 : decode cX9_limb 64 = .ok (.iload_n 3, 1) := by decide +kernel
theorem dX9_limb_65 : decode cX9_limb 65 = .ok (.ifCond .lt 12, 3) := by decide +kernel
theorem dX9_limb_68 : decode cX9_limb 68 = .ok (.iload_n 3, 1) := by decide +kernel
theorem dX9_limb_69 : decode cX9_limb 69 = .ok (.aload 4, 2) := by decide +kernel
theorem dX9_limb_71 : decode cX9_limb 71 = .ok (.getfield 129, 3) := by decide +kernel
theorem dX9_limb_74 : decode cX9_limb 74 = .ok (.if_icmp .lt 13, 3) := by decide +kernel
theorem dX9_limb_77 : decode cX9_limb 77 = .ok (.new 141, 3) := by decide +kernel
theorem dX9_limb_80 : decode cX9_limb 80 = .ok (.dup, 1) := by decide +kernel
theorem dX9_limb_81 : decode cX9_limb 81 = .ok (.ldc 148, 2) := by decide +kernel
theorem dX9_limb_83 : decode cX9_limb 83 = .ok (.invokespecial 145, 3) := by decide +kernel
theorem dX9_limb_86 : decode cX9_limb 86 = .ok (.athrow, 1) := by decide +kernel
theorem dX9_limb_87 : decode cX9_limb 87 = .ok (.aload 4, 2) := by decide +kernel
theorem dX9_limb_89 : decode cX9_limb 89 = .ok (.getfield 150, 3) := by decide +kernel
theorem dX9_limb_92 : decode cX9_limb 92 = .ok (.iload_n 3, 1) := by decide +kernel
theorem dX9_limb_93 : decode cX9_limb 93 = .ok (.iaload, 1) := by decide +kernel
theorem dX9_limb_94 : decode cX9_limb 94 = .ok (.ireturn, 1) := by decide +kernel
theorem dX9_entry_0 : decode cX9_entry 0 = .ok (.aload_n 0, 1) := by decide +kernel
theorem dX9_entry_1 : decode cX9_entry 1 = .ok (.iload_n 1, 1) := by decide +kernel
theorem dX9_entry_2 : decode cX9_entry 2 = .ok (.iload_n 2, 1) := by decide +kernel
theorem dX9_entry_3 : decode cX9_entry 3 = .ok (.invokevirtual 154, 3) := by decide +kernel
theorem dX9_entry_6 : decode cX9_entry 6 = .ok (.ifCond .ne 5, 3) := by decide +kernel
theorem dX9_entry_9 : decode cX9_entry 9 = .ok (.iconst (-1), 1) := by decide +kernel
theorem dX9_entry_10 : decode cX9_entry 10 = .ok (.ireturn, 1) := by decide +kernel
theorem dX9_entry_11 : decode cX9_entry 11 = .ok (.lload 5, 2) := by decide +kernel
theorem dX9_entry_13 : decode cX9_entry 13 = .ok (.lconst 0, 1) := by decide +kernel
theorem dX9_entry_14 : decode cX9_entry 14 = .ok (.lcmp, 1) := by decide +kernel
theorem dX9_entry_15 : decode cX9_entry 15 = .ok (.ifCond .ne 6, 3) := by decide +kernel
theorem dX9_entry_18 : decode cX9_entry 18 = .ok (.bipush (-2), 2) := by decide +kernel
theorem dX9_entry_20 : decode cX9_entry 20 = .ok (.ireturn, 1) := by decide +kernel
theorem dX9_entry_21 : decode cX9_entry 21 = .ok (.aload_n 0, 1) := by decide +kernel
theorem dX9_entry_22 : decode cX9_entry 22 = .ok (.getfield 25, 3) := by decide +kernel
theorem dX9_entry_25 : decode cX9_entry 25 = .ok (.lload_n 3, 1) := by decide +kernel
theorem dX9_entry_26 : decode cX9_entry 26 = .ok (.lload 5, 2) := by decide +kernel
theorem dX9_entry_28 : decode cX9_entry 28 = .ok (.aload_n 0, 1) := by decide +kernel
theorem dX9_entry_29 : decode cX9_entry 29 = .ok (.iload_n 1, 1) := by decide +kernel
theorem dX9_entry_30 : decode cX9_entry 30 = .ok (.iload_n 2, 1) := by decide +kernel
theorem dX9_entry_31 : decode cX9_entry 31 = .ok (.invokevirtual 158, 3) := by decide +kernel
theorem dX9_entry_34 : decode cX9_entry 34 = .ok (.invokevirtual 88, 3) := by decide +kernel
theorem dX9_entry_37 : decode cX9_entry 37 = .ok (.iconst 1, 1) := by decide +kernel
theorem dX9_entry_38 : decode cX9_entry 38 = .ok (.ireturn, 1) := by decide +kernel
theorem dX9_put_0 : decode cX9_put 0 = .ok (.aload_n 0, 1) := by decide +kernel
theorem dX9_put_1 : decode cX9_put 1 = .ok (.iload_n 1, 1) := by decide +kernel
theorem dX9_put_2 : decode cX9_put 2 = .ok (.iload_n 2, 1) := by decide +kernel
theorem dX9_put_3 : decode cX9_put 3 = .ok (.invokevirtual 154, 3) := by decide +kernel
theorem dX9_put_6 : decode cX9_put 6 = .ok (.ifCond .eq 11, 3) := by decide +kernel
theorem dX9_put_9 : decode cX9_put 9 = .ok (.aload_n 0, 1) := by decide +kernel
theorem dX9_put_10 : decode cX9_put 10 = .ok (.iload_n 3, 1) := by decide +kernel
theorem dX9_put_11 : decode cX9_put 11 = .ok (.invokevirtual 96, 3) := by decide +kernel
theorem dX9_put_14 : decode cX9_put 14 = .ok (.ifCond .ne 5, 3) := by decide +kernel
theorem dX9_put_17 : decode cX9_put 17 = .ok (.iconst (-1), 1) := by decide +kernel
theorem dX9_put_18 : decode cX9_put 18 = .ok (.ireturn, 1) := by decide +kernel
theorem dX9_put_19 : decode cX9_put 19 = .ok (.aload_n 0, 1) := by decide +kernel
theorem dX9_put_20 : decode cX9_put 20 = .ok (.iload_n 1, 1) := by decide +kernel
theorem dX9_put_21 : decode cX9_put 21 = .ok (.iload_n 2, 1) := by decide +kernel
theorem dX9_put_22 : decode cX9_put 22 = .ok (.invokevirtual 158, 3) := by decide +kernel
theorem dX9_put_25 : decode cX9_put 25 = .ok (.aload_n 0, 1) := by decide +kernel
theorem dX9_put_26 : decode cX9_put 26 = .ok (.getfield 35, 3) := by decide +kernel
theorem dX9_put_29 : decode cX9_put 29 = .ok (.iload_n 3, 1) := by decide +kernel
theorem dX9_put_30 : decode cX9_put 30 = .ok (.aaload, 1) := by decide +kernel
theorem dX9_put_31 : decode cX9_put 31 = .ok (.invokevirtual 162, 3) := by decide +kernel
theorem dX9_put_34 : decode cX9_put 34 = .ok (.iconst 1, 1) := by decide +kernel
theorem dX9_put_35 : decode cX9_put 35 = .ok (.ireturn, 1) := by decide +kernel
theorem dX9_take_0 : decode cX9_take 0 = .ok (.aload_n 0, 1) := by decide +kernel
theorem dX9_take_1 : decode cX9_take 1 = .ok (.iload_n 1, 1) := by decide +kernel
theorem dX9_take_2 : decode cX9_take 2 = .ok (.iload_n 2, 1) := by decide +kernel
theorem dX9_take_3 : decode cX9_take 3 = .ok (.invokevirtual 154, 3) := by decide +kernel
theorem dX9_take_6 : decode cX9_take 6 = .ok (.ifCond .ne 5, 3) := by decide +kernel
theorem dX9_take_9 : decode cX9_take 9 = .ok (.iconst (-1), 1) := by decide +kernel
theorem dX9_take_10 : decode cX9_take 10 = .ok (.ireturn, 1) := by decide +kernel
theorem dX9_take_11 : decode cX9_take 11 = .ok (.aload_n 0, 1) := by decide +kernel
theorem dX9_take_12 : decode cX9_take 12 = .ok (.aload_n 0, 1) := by decide +kernel
theorem dX9_take_13 : decode cX9_take 13 = .ok (.iload_n 1, 1) := by decide +kernel
theorem dX9_take_14 : decode cX9_take 14 = .ok (.iload_n 2, 1) := by decide +kernel
theorem dX9_take_15 : decode cX9_take 15 = .ok (.invokevirtual 158, 3) := by decide +kernel
theorem dX9_take_18 : decode cX9_take 18 = .ok (.invokevirtual 166, 3) := by decide +kernel
theorem dX9_take_21 : decode cX9_take 21 = .ok (.ireturn, 1) := by decide +kernel
theorem dX9_solve_0 : decode cX9_solve 0 = .ok (.iload_n 1, 1) := by decide +kernel
theorem dX9_solve_1 : decode cX9_solve 1 = .ok (.ifCond .eq 10, 3) := by decide +kernel
theorem dX9_solve_4 : decode cX9_solve 4 = .ok (.iload_n 1, 1) := by decide +kernel
theorem dX9_solve_5 : decode cX9_solve 5 = .ok (.iconst 1, 1) := by decide +kernel
theorem dX9_solve_6 : decode cX9_solve 6 = .ok (.if_icmp .eq 5, 3) := by decide +kernel
theorem dX9_solve_9 : decode cX9_solve 9 = .ok (.iconst (-1), 1) := by decide +kernel
theorem dX9_solve_10 : decode cX9_solve 10 = .ok (.ireturn, 1) := by decide +kernel
theorem dX9_solve_11 : decode cX9_solve 11 = .ok (.aload_n 0, 1) := by decide +kernel
theorem dX9_solve_12 : decode cX9_solve 12 = .ok (.getfield 61, 3) := by decide +kernel
theorem dX9_solve_15 : decode cX9_solve 15 = .ok (.invokevirtual 170, 3) := by decide +kernel
theorem dX9_solve_18 : decode cX9_solve 18 = .ok (.aload_n 0, 1) := by decide +kernel
theorem dX9_solve_19 : decode cX9_solve 19 = .ok (.getfield 47, 3) := by decide +kernel
theorem dX9_solve_22 : decode cX9_solve 22 = .ok (.aload_n 0, 1) := by decide +kernel
theorem dX9_solve_23 : decode cX9_solve 23 = .ok (.getfield 39, 3) := by decide +kernel
theorem dX9_solve_26 : decode cX9_solve 26 = .ok (.iload_n 1, 1) := by decide +kernel
theorem dX9_solve_27 : decode cX9_solve 27 = .ok (.aload_n 0, 1) := by decide +kernel
theorem dX9_solve_28 : decode cX9_solve 28 = .ok (.getfield 21, 3) := by decide +kernel
theorem dX9_solve_31 : decode cX9_solve 31 = .ok (.iconst 1, 1) := by decide +kernel
theorem dX9_solve_32 : decode cX9_solve 32 = .ok (.iadd, 1) := by decide +kernel
theorem dX9_solve_33 : decode cX9_solve 33 = .ok (.invokevirtual 173, 3) := by decide +kernel
theorem dX9_solve_36 : decode cX9_solve 36 = .ok (.ifCond .eq 17, 3) := by decide +kernel
theorem dX9_solve_39 : decode cX9_solve 39 = .ok (.aload_n 0, 1) := by decide +kernel
theorem dX9_solve_40 : decode cX9_solve 40 = .ok (.getfield 61, 3) := by decide +kernel
theorem dX9_solve_43 : decode cX9_solve 43 = .ok (.aload_n 0, 1) := by decide +kernel
theorem dX9_solve_44 : decode cX9_solve 44 = .ok (.getfield 47, 3) := by decide +kernel
theorem dX9_solve_47 : decode cX9_solve 47 = .ok (.invokevirtual 177, 3) := by decide +kernel
theorem dX9_solve_50 : decode cX9_solve 50 = .ok (.ifCond .ne 8, 3) := by decide +kernel
theorem dX9_solve_53 : decode cX9_solve 53 = .ok (.aload_n 0, 1) := by decide +kernel
theorem dX9_solve_54 : decode cX9_solve 54 = .ok (.invokevirtual 181, 3) := by decide +kernel
theorem dX9_solve_57 : decode cX9_solve 57 = .ok (.ireturn, 1) := by decide +kernel
theorem dX9_solve_58 : decode cX9_solve 58 = .ok (.aload_n 0, 1) := by decide +kernel
theorem dX9_solve_59 : decode cX9_solve 59 = .ok (.getfield 61, 3) := by decide +kernel
theorem dX9_solve_62 : decode cX9_solve 62 = .ok (.getfield 184, 3) := by decide +kernel
theorem dX9_solve_65 : decode cX9_solve 65 = .ok (.ireturn, 1) := by decide +kernel
theorem dX9_answers_0 : decode cX9_answers 0 = .ok (.aload_n 0, 1) := by decide +kernel
theorem dX9_answers_1 : decode cX9_answers 1 = .ok (.getfield 61, 3) := by decide +kernel
theorem dX9_answers_4 : decode cX9_answers 4 = .ok (.getfield 187, 3) := by decide +kernel
theorem dX9_answers_7 : decode cX9_answers 7 = .ok (.ifCond .ne 6, 3) := by decide +kernel
theorem dX9_answers_10 : decode cX9_answers 10 = .ok (.bipush (-5), 2) := by decide +kernel
theorem dX9_answers_12 : decode cX9_answers 12 = .ok (.ireturn, 1) := by decide +kernel
theorem dX9_answers_13 : decode cX9_answers 13 = .ok (.aload_n 0, 1) := by decide +kernel
theorem dX9_answers_14 : decode cX9_answers 14 = .ok (.getfield 61, 3) := by decide +kernel
theorem dX9_answers_17 : decode cX9_answers 17 = .ok (.getfield 190, 3) := by decide +kernel
theorem dX9_answers_20 : decode cX9_answers 20 = .ok (.ifCond .ne 5, 3) := by decide +kernel
theorem dX9_answers_23 : decode cX9_answers 23 = .ok (.iconst 0, 1) := by decide +kernel
theorem dX9_answers_24 : decode cX9_answers 24 = .ok (.ireturn, 1) := by decide +kernel
theorem dX9_answers_25 : decode cX9_answers 25 = .ok (.aload_n 0, 1) := by decide +kernel
theorem dX9_answers_26 : decode cX9_answers 26 = .ok (.getfield 61, 3) := by decide +kernel
theorem dX9_answers_29 : decode cX9_answers 29 = .ok (.getfield 184, 3) := by decide +kernel
theorem dX9_answers_32 : decode cX9_answers 32 = .ok (.aload_n 0, 1) := by decide +kernel
theorem dX9_answers_33 : decode cX9_answers 33 = .ok (.getfield 21, 3) := by decide +kernel
theorem dX9_answers_36 : decode cX9_answers 36 = .ok (.if_icmp .ne 7, 3) := by decide +kernel
end
section
theorem dX9_answers_39 : decode cX9_answers 39 = .ok (.iconst 1, 1) := by decide +kernel
theorem dX9_answers_40 : decode cX9_answers 40 = .ok (.goto 4, 3) := by decide +kernel
theorem dX9_answers_43 : decode cX9_answers 43 = .ok (.iconst 2, 1) := by decide +kernel
theorem dX9_answers_44 : decode cX9_answers 44 = .ok (.ireturn, 1) := by decide +kernel
theorem dX9_unknown_0 : decode cX9_unknown 0 = .ok (.aload_n 0, 1) := by decide +kernel
theorem dX9_unknown_1 : decode cX9_unknown 1 = .ok (.getfield 61, 3) := by decide +kernel
theorem dX9_unknown_4 : decode cX9_unknown 4 = .ok (.invokevirtual 193, 3) := by decide +kernel
theorem dX9_unknown_7 : decode cX9_unknown 7 = .ok (.ifCond .ne 6, 3) := by decide +kernel
theorem dX9_unknown_10 : decode cX9_unknown 10 = .ok (.bipush (-5), 2) := by decide +kernel
theorem dX9_unknown_12 : decode cX9_unknown 12 = .ok (.ireturn, 1) := by decide +kernel
theorem dX9_unknown_13 : decode cX9_unknown 13 = .ok (.iload_n 1, 1) := by decide +kernel
theorem dX9_unknown_14 : decode cX9_unknown 14 = .ok (.ifCond .lt 11, 3) := by decide +kernel
theorem dX9_unknown_17 : decode cX9_unknown 17 = .ok (.iload_n 1, 1) := by decide +kernel
theorem dX9_unknown_18 : decode cX9_unknown 18 = .ok (.aload_n 0, 1) := by decide +kernel
theorem dX9_unknown_19 : decode cX9_unknown 19 = .ok (.getfield 21, 3) := by decide +kernel
theorem dX9_unknown_22 : decode cX9_unknown 22 = .ok (.if_icmp .lt 5, 3) := by decide +kernel
theorem dX9_unknown_25 : decode cX9_unknown 25 = .ok (.iconst (-1), 1) := by decide +kernel
theorem dX9_unknown_26 : decode cX9_unknown 26 = .ok (.ireturn, 1) := by decide +kernel
theorem dX9_unknown_27 : decode cX9_unknown 27 = .ok (.aload_n 0, 1) := by decide +kernel
theorem dX9_unknown_28 : decode cX9_unknown 28 = .ok (.aload_n 0, 1) := by decide +kernel
theorem dX9_unknown_29 : decode cX9_unknown 29 = .ok (.getfield 61, 3) := by decide +kernel
theorem dX9_unknown_32 : decode cX9_unknown 32 = .ok (.getfield 196, 3) := by decide +kernel
theorem dX9_unknown_35 : decode cX9_unknown 35 = .ok (.iload_n 1, 1) := by decide +kernel
theorem dX9_unknown_36 : decode cX9_unknown 36 = .ok (.aaload, 1) := by decide +kernel
theorem dX9_unknown_37 : decode cX9_unknown 37 = .ok (.invokevirtual 166, 3) := by decide +kernel
theorem dX9_unknown_40 : decode cX9_unknown 40 = .ok (.ireturn, 1) := by decide +kernel
theorem dX9_pivot_0 : decode cX9_pivot 0 = .ok (.aload_n 0, 1) := by decide +kernel
theorem dX9_pivot_1 : decode cX9_pivot 1 = .ok (.getfield 61, 3) := by decide +kernel
theorem dX9_pivot_4 : decode cX9_pivot 4 = .ok (.getfield 187, 3) := by decide +kernel
theorem dX9_pivot_7 : decode cX9_pivot 7 = .ok (.ifCond .ne 6, 3) := by decide +kernel
theorem dX9_pivot_10 : decode cX9_pivot 10 = .ok (.bipush (-5), 2) := by decide +kernel
theorem dX9_pivot_12 : decode cX9_pivot 12 = .ok (.ireturn, 1) := by decide +kernel
theorem dX9_pivot_13 : decode cX9_pivot 13 = .ok (.iload_n 1, 1) := by decide +kernel
theorem dX9_pivot_14 : decode cX9_pivot 14 = .ok (.ifCond .lt 14, 3) := by decide +kernel
theorem dX9_pivot_17 : decode cX9_pivot 17 = .ok (.iload_n 1, 1) := by decide +kernel
theorem dX9_pivot_18 : decode cX9_pivot 18 = .ok (.aload_n 0, 1) := by decide +kernel
theorem dX9_pivot_19 : decode cX9_pivot 19 = .ok (.getfield 61, 3) := by decide +kernel
theorem dX9_pivot_22 : decode cX9_pivot 22 = .ok (.getfield 184, 3) := by decide +kernel
theorem dX9_pivot_25 : decode cX9_pivot 25 = .ok (.if_icmp .lt 5, 3) := by decide +kernel
theorem dX9_pivot_28 : decode cX9_pivot 28 = .ok (.iconst (-1), 1) := by decide +kernel
theorem dX9_pivot_29 : decode cX9_pivot 29 = .ok (.ireturn, 1) := by decide +kernel
theorem dX9_pivot_30 : decode cX9_pivot 30 = .ok (.iload_n 2, 1) := by decide +kernel
theorem dX9_pivot_31 : decode cX9_pivot 31 = .ok (.tableswitch 55 0 2 #[25, 35, 45], 25) := by decide +kernel
theorem dX9_pivot_56 : decode cX9_pivot 56 = .ok (.aload_n 0, 1) := by decide +kernel
theorem dX9_pivot_57 : decode cX9_pivot 57 = .ok (.getfield 61, 3) := by decide +kernel
theorem dX9_pivot_60 : decode cX9_pivot 60 = .ok (.getfield 199, 3) := by decide +kernel
theorem dX9_pivot_63 : decode cX9_pivot 63 = .ok (.iload_n 1, 1) := by decide +kernel
theorem dX9_pivot_64 : decode cX9_pivot 64 = .ok (.iaload, 1) := by decide +kernel
theorem dX9_pivot_65 : decode cX9_pivot 65 = .ok (.ireturn, 1) := by decide +kernel
theorem dX9_pivot_66 : decode cX9_pivot 66 = .ok (.aload_n 0, 1) := by decide +kernel
theorem dX9_pivot_67 : decode cX9_pivot 67 = .ok (.getfield 61, 3) := by decide +kernel
theorem dX9_pivot_70 : decode cX9_pivot 70 = .ok (.getfield 202, 3) := by decide +kernel
theorem dX9_pivot_73 : decode cX9_pivot 73 = .ok (.iload_n 1, 1) := by decide +kernel
theorem dX9_pivot_74 : decode cX9_pivot 74 = .ok (.iaload, 1) := by decide +kernel
theorem dX9_pivot_75 : decode cX9_pivot 75 = .ok (.ireturn, 1) := by decide +kernel
theorem dX9_pivot_76 : decode cX9_pivot 76 = .ok (.aload_n 0, 1) := by decide +kernel
theorem dX9_pivot_77 : decode cX9_pivot 77 = .ok (.getfield 61, 3) := by decide +kernel
theorem dX9_pivot_80 : decode cX9_pivot 80 = .ok (.getfield 205, 3) := by decide +kernel
theorem dX9_pivot_83 : decode cX9_pivot 83 = .ok (.iload_n 1, 1) := by decide +kernel
theorem dX9_pivot_84 : decode cX9_pivot 84 = .ok (.iaload, 1) := by decide +kernel
theorem dX9_pivot_85 : decode cX9_pivot 85 = .ok (.ireturn, 1) := by decide +kernel
theorem dX9_pivot_86 : decode cX9_pivot 86 = .ok (.iconst (-1), 1) := by decide +kernel
theorem dX9_pivot_87 : decode cX9_pivot 87 = .ok (.ireturn, 1) := by decide +kernel
theorem dX9_holds_0 : decode cX9_holds 0 = .ok (.aload_n 0, 1) := by decide +kernel
theorem dX9_holds_1 : decode cX9_holds 1 = .ok (.getfield 61, 3) := by decide +kernel
theorem dX9_holds_4 : decode cX9_holds 4 = .ok (.invokevirtual 193, 3) := by decide +kernel
theorem dX9_holds_7 : decode cX9_holds 7 = .ok (.ifCond .ne 6, 3) := by decide +kernel
theorem dX9_holds_10 : decode cX9_holds 10 = .ok (.bipush (-5), 2) := by decide +kernel
theorem dX9_holds_12 : decode cX9_holds 12 = .ok (.ireturn, 1) := by decide +kernel
theorem dX9_holds_13 : decode cX9_holds 13 = .ok (.iload_n 1, 1) := by decide +kernel
theorem dX9_holds_14 : decode cX9_holds 14 = .ok (.ifCond .lt 11, 3) := by decide +kernel
theorem dX9_holds_17 : decode cX9_holds 17 = .ok (.iload_n 1, 1) := by decide +kernel
theorem dX9_holds_18 : decode cX9_holds 18 = .ok (.aload_n 0, 1) := by decide +kernel
theorem dX9_holds_19 : decode cX9_holds 19 = .ok (.getfield 21, 3) := by decide +kernel
theorem dX9_holds_22 : decode cX9_holds 22 = .ok (.if_icmp .lt 5, 3) := by decide +kernel
theorem dX9_holds_25 : decode cX9_holds 25 = .ok (.iconst (-1), 1) := by decide +kernel
theorem dX9_holds_26 : decode cX9_holds 26 = .ok (.ireturn, 1) := by decide +kernel
theorem dX9_holds_27 : decode cX9_holds 27 = .ok (.aload_n 0, 1) := by decide +kernel
theorem dX9_holds_28 : decode cX9_holds 28 = .ok (.getfield 61, 3) := by decide +kernel
theorem dX9_holds_31 : decode cX9_holds 31 = .ok (.aload_n 0, 1) := by decide +kernel
theorem dX9_holds_32 : decode cX9_holds 32 = .ok (.getfield 39, 3) := by decide +kernel
theorem dX9_holds_35 : decode cX9_holds 35 = .ok (.iload_n 1, 1) := by decide +kernel
theorem dX9_holds_36 : decode cX9_holds 36 = .ok (.invokevirtual 208, 3) := by decide +kernel
theorem dX9_holds_39 : decode cX9_holds 39 = .ok (.ifCond .ne 8, 3) := by decide +kernel
theorem dX9_holds_42 : decode cX9_holds 42 = .ok (.aload_n 0, 1) := by decide +kernel
theorem dX9_holds_43 : decode cX9_holds 43 = .ok (.invokevirtual 181, 3) := by decide +kernel
theorem dX9_holds_46 : decode cX9_holds 46 = .ok (.ireturn, 1) := by decide +kernel
theorem dX9_holds_47 : decode cX9_holds 47 = .ok (.aload_n 0, 1) := by decide +kernel
theorem dX9_holds_48 : decode cX9_holds 48 = .ok (.getfield 25, 3) := by decide +kernel
theorem dX9_holds_51 : decode cX9_holds 51 = .ok (.aload_n 0, 1) := by decide +kernel
theorem dX9_holds_52 : decode cX9_holds 52 = .ok (.getfield 61, 3) := by decide +kernel
theorem dX9_holds_55 : decode cX9_holds 55 = .ok (.getfield 212, 3) := by decide +kernel
theorem dX9_holds_58 : decode cX9_holds 58 = .ok (.aload_n 0, 1) := by decide +kernel
theorem dX9_holds_59 : decode cX9_holds 59 = .ok (.iload_n 1, 1) := by decide +kernel
theorem dX9_holds_60 : decode cX9_holds 60 = .ok (.aload_n 0, 1) := by decide +kernel
theorem dX9_holds_61 : decode cX9_holds 61 = .ok (.getfield 21, 3) := by decide +kernel
theorem dX9_holds_64 : decode cX9_holds 64 = .ok (.invokevirtual 158, 3) := by decide +kernel
theorem dX9_holds_67 : decode cX9_holds 67 = .ok (.invokevirtual 117, 3) := by decide +kernel
theorem dX9_holds_70 : decode cX9_holds 70 = .ok (.ifCond .ne 7, 3) := by decide +kernel
theorem dX9_holds_73 : decode cX9_holds 73 = .ok (.iconst 1, 1) := by decide +kernel
theorem dX9_holds_74 : decode cX9_holds 74 = .ok (.goto 4, 3) := by decide +kernel
theorem dX9_holds_77 : decode cX9_holds 77 = .ok (.iconst 0, 1) := by decide +kernel
theorem dX9_holds_78 : decode cX9_holds 78 = .ok (.ireturn, 1) := by decide +kernel
theorem dX9_determinant_0 : decode cX9_determinant 0 = .ok (.iload_n 1, 1) := by decide +kernel
theorem dX9_determinant_1 : decode cX9_determinant 1 = .ok (.ifCond .lt 8, 3) := by decide +kernel
theorem dX9_determinant_4 : decode cX9_determinant 4 = .ok (.iload_n 1, 1) := by decide +kernel
theorem dX9_determinant_5 : decode cX9_determinant 5 = .ok (.iconst 2, 1) := by decide +kernel
theorem dX9_determinant_6 : decode cX9_determinant 6 = .ok (.if_icmp .le 5, 3) := by decide +kernel
theorem dX9_determinant_9 : decode cX9_determinant 9 = .ok (.iconst (-1), 1) := by decide +kernel
theorem dX9_determinant_10 : decode cX9_determinant 10 = .ok (.ireturn, 1) := by decide +kernel
theorem dX9_determinant_11 : decode cX9_determinant 11 = .ok (.aload_n 0, 1) := by decide +kernel
theorem dX9_determinant_12 : decode cX9_determinant 12 = .ok (.invokevirtual 81, 3) := by decide +kernel
theorem dX9_determinant_15 : decode cX9_determinant 15 = .ok (.ifCond .eq 6, 3) := by decide +kernel
theorem dX9_determinant_18 : decode cX9_determinant 18 = .ok (.bipush (-4), 2) := by decide +kernel
theorem dX9_determinant_20 : decode cX9_determinant 20 = .ok (.ireturn, 1) := by decide +kernel
theorem dX9_determinant_21 : decode cX9_determinant 21 = .ok (.aload_n 0, 1) := by decide +kernel
theorem dX9_determinant_22 : decode cX9_determinant 22 = .ok (.getfield 35, 3) := by decide +kernel
theorem dX9_determinant_25 : decode cX9_determinant 25 = .ok (.aload_n 0, 1) := by decide +kernel
theorem dX9_determinant_26 : decode cX9_determinant 26 = .ok (.getfield 85, 3) := by decide +kernel
theorem dX9_determinant_29 : decode cX9_determinant 29 = .ok (.aaload, 1) := by decide +kernel
theorem dX9_determinant_30 : decode cX9_determinant 30 = .ok (.astore_n 2, 1) := by decide +kernel
theorem dX9_determinant_31 : decode cX9_determinant 31 = .ok (.iload_n 1, 1) := by decide +kernel
theorem dX9_determinant_32 : decode cX9_determinant 32 = .ok (.iconst 2, 1) := by decide +kernel
theorem dX9_determinant_33 : decode cX9_determinant 33 = .ok (.if_icmp .ne 20, 3) := by decide +kernel
theorem dX9_determinant_36 : decode cX9_determinant 36 = .ok (.aload_n 0, 1) := by decide +kernel
theorem dX9_determinant_37 : decode cX9_determinant 37 = .ok (.aload_n 0, 1) := by decide +kernel
theorem dX9_determinant_38 : decode cX9_determinant 38 = .ok (.getfield 54, 3) := by decide +kernel
theorem dX9_determinant_41 : decode cX9_determinant 41 = .ok (.aload_n 0, 1) := by decide +kernel
theorem dX9_determinant_42 : decode cX9_determinant 42 = .ok (.getfield 39, 3) := by decide +kernel
theorem dX9_determinant_45 : decode cX9_determinant 45 = .ok (.aload_n 2, 1) := by decide +kernel
theorem dX9_determinant_46 : decode cX9_determinant 46 = .ok (.invokevirtual 216, 3) := by decide +kernel
theorem dX9_determinant_49 : decode cX9_determinant 49 = .ok (.invokevirtual 92, 3) := by decide +kernel
theorem dX9_determinant_52 : decode cX9_determinant 52 = .ok (.ireturn, 1) := by decide +kernel
theorem dX9_determinant_53 : decode cX9_determinant 53 = .ok (.aload_n 0, 1) := by decide +kernel
theorem dX9_determinant_54 : decode cX9_determinant 54 = .ok (.aload_n 0, 1) := by decide +kernel
theorem dX9_determinant_55 : decode cX9_determinant 55 = .ok (.getfield 47, 3) := by decide +kernel
theorem dX9_determinant_58 : decode cX9_determinant 58 = .ok (.aload_n 0, 1) := by decide +kernel
theorem dX9_determinant_59 : decode cX9_determinant 59 = .ok (.getfield 39, 3) := by decide +kernel
theorem dX9_determinant_62 : decode cX9_determinant 62 = .ok (.iload_n 1, 1) := by decide +kernel
theorem dX9_determinant_63 : decode cX9_determinant 63 = .ok (.aload_n 0, 1) := by decide +kernel
theorem dX9_determinant_64 : decode cX9_determinant 64 = .ok (.getfield 21, 3) := by decide +kernel
theorem dX9_determinant_67 : decode cX9_determinant 67 = .ok (.invokevirtual 173, 3) := by decide +kernel
theorem dX9_determinant_70 : decode cX9_determinant 70 = .ok (.ifCond .eq 22, 3) := by decide +kernel
theorem dX9_determinant_73 : decode cX9_determinant 73 = .ok (.aload_n 0, 1) := by decide +kernel
theorem dX9_determinant_74 : decode cX9_determinant 74 = .ok (.getfield 54, 3) := by decide +kernel
theorem dX9_determinant_77 : decode cX9_determinant 77 = .ok (.aload_n 0, 1) := by decide +kernel
theorem dX9_determinant_78 : decode cX9_determinant 78 = .ok (.getfield 47, 3) := by decide +kernel
theorem dX9_determinant_81 : decode cX9_determinant 81 = .ok (.aload_n 2, 1) := by decide +kernel
theorem dX9_determinant_82 : decode cX9_determinant 82 = .ok (.invokevirtual 220, 3) := by decide +kernel
theorem dX9_determinant_85 : decode cX9_determinant 85 = .ok (.ifCond .eq 7, 3) := by decide +kernel
theorem dX9_determinant_88 : decode cX9_determinant 88 = .ok (.iconst 1, 1) := by decide +kernel
theorem dX9_determinant_89 : decode cX9_determinant 89 = .ok (.goto 4, 3) := by decide +kernel
theorem dX9_determinant_92 : decode cX9_determinant 92 = .ok (.iconst 0, 1) := by decide +kernel
theorem dX9_determinant_93 : decode cX9_determinant 93 = .ok (.invokevirtual 92, 3) := by decide +kernel
theorem dX9_determinant_96 : decode cX9_determinant 96 = .ok (.ireturn, 1) := by decide +kernel
theorem dX9_rest_0 : decode cX9_rest 0 = .ok (.aload_n 0, 1) := by decide +kernel
theorem dX9_rest_1 : decode cX9_rest 1 = .ok (.iload_n 1, 1) := by decide +kernel
theorem dX9_rest_2 : decode cX9_rest 2 = .ok (.invokevirtual 96, 3) := by decide +kernel
theorem dX9_rest_5 : decode cX9_rest 5 = .ok (.ifCond .eq 10, 3) := by decide +kernel
theorem dX9_rest_8 : decode cX9_rest 8 = .ok (.iload_n 2, 1) := by decide +kernel
theorem dX9_rest_9 : decode cX9_rest 9 = .ok (.invokestatic 224, 3) := by decide +kernel
theorem dX9_rest_12 : decode cX9_rest 12 = .ok (.ifCond .ne 5, 3) := by decide +kernel
theorem dX9_rest_15 : decode cX9_rest 15 = .ok (.iconst (-1), 1) := by decide +kernel
theorem dX9_rest_16 : decode cX9_rest 16 = .ok (.ireturn, 1) := by decide +kernel
theorem dX9_rest_17 : decode cX9_rest 17 = .ok (.aload_n 0, 1) := by decide +kernel
theorem dX9_rest_18 : decode cX9_rest 18 = .ok (.getfield 35, 3) := by decide +kernel
theorem dX9_rest_21 : decode cX9_rest 21 = .ok (.iload_n 1, 1) := by decide +kernel
theorem dX9_rest_22 : decode cX9_rest 22 = .ok (.aaload, 1) := by decide +kernel
theorem dX9_rest_23 : decode cX9_rest 23 = .ok (.getfield 134, 3) := by decide +kernel
theorem dX9_rest_26 : decode cX9_rest 26 = .ok (.iload_n 2, 1) := by decide +kernel
theorem dX9_rest_27 : decode cX9_rest 27 = .ok (.invokevirtual 229, 3) := by decide +kernel
theorem dX9_rest_30 : decode cX9_rest 30 = .ok (.istore_n 3, 1) := by decide +kernel
theorem dX9_rest_31 : decode cX9_rest 31 = .ok (.iload_n 3, 1) := by decide +kernel
theorem dX9_rest_32 : decode cX9_rest 32 = .ok (.ifCond .ne 6, 3) := by decide +kernel
theorem dX9_rest_35 : decode cX9_rest 35 = .ok (.bipush (-2), 2) := by decide +kernel
theorem dX9_rest_37 : decode cX9_rest 37 = .ok (.ireturn, 1) := by decide +kernel
theorem dX9_rest_38 : decode cX9_rest 38 = .ok (.aload_n 0, 1) := by decide +kernel
theorem dX9_rest_39 : decode cX9_rest 39 = .ok (.getfield 35, 3) := by decide +kernel
theorem dX9_rest_42 : decode cX9_rest 42 = .ok (.iload_n 1, 1) := by decide +kernel
theorem dX9_rest_43 : decode cX9_rest 43 = .ok (.aaload, 1) := by decide +kernel
theorem dX9_rest_44 : decode cX9_rest 44 = .ok (.getfield 125, 3) := by decide +kernel
theorem dX9_rest_47 : decode cX9_rest 47 = .ok (.iload_n 2, 1) := by decide +kernel
theorem dX9_rest_48 : decode cX9_rest 48 = .ok (.invokevirtual 229, 3) := by decide +kernel
theorem dX9_rest_51 : decode cX9_rest 51 = .ok (.istore 4, 2) := by decide +kernel
theorem dX9_rest_53 : decode cX9_rest 53 = .ok (.iload 4, 2) := by decide +kernel
theorem dX9_rest_55 : decode cX9_rest 55 = .ok (.i2l, 1) := by decide +kernel
theorem dX9_rest_56 : decode cX9_rest 56 = .ok (.iload_n 3, 1) := by decide +kernel
theorem dX9_rest_57 : decode cX9_rest 57 = .ok (.iload_n 2, 1) := by decide +kernel
theorem dX9_rest_58 : decode cX9_rest 58 = .ok (.invokestatic 233, 3) := by decide +kernel
theorem dX9_rest_61 : decode cX9_rest 61 = .ok (.lmul, 1) := by decide +kernel
theorem dX9_rest_62 : decode cX9_rest 62 = .ok (.iload_n 2, 1) := by decide +kernel
theorem dX9_rest_63 : decode cX9_rest 63 = .ok (.i2l, 1) := by decide +kernel
theorem dX9_rest_64 : decode cX9_rest 64 = .ok (.lrem, 1) := by decide +kernel
theorem dX9_rest_65 : decode cX9_rest 65 = .ok (.l2i, 1) := by decide +kernel
theorem dX9_rest_66 : decode cX9_rest 66 = .ok (.istore 5, 2) := by decide +kernel
theorem dX9_rest_68 : decode cX9_rest 68 = .ok (.aload_n 0, 1) := by decide +kernel
theorem dX9_rest_69 : decode cX9_rest 69 = .ok (.getfield 35, 3) := by decide +kernel
theorem dX9_rest_72 : decode cX9_rest 72 = .ok (.iload_n 1, 1) := by decide +kernel
theorem dX9_rest_73 : decode cX9_rest 73 = .ok (.aaload, 1) := by decide +kernel
theorem dX9_rest_74 : decode cX9_rest 74 = .ok (.getfield 121, 3) := by decide +kernel
theorem dX9_rest_77 : decode cX9_rest 77 = .ok (.ifCond .eq 15, 3) := by decide +kernel
theorem dX9_rest_80 : decode cX9_rest 80 = .ok (.iload 5, 2) := by decide +kernel
theorem dX9_rest_82 : decode cX9_rest 82 = .ok (.ifCond .eq 10, 3) := by decide +kernel
theorem dX9_rest_85 : decode cX9_rest 85 = .ok (.iload_n 2, 1) := by decide +kernel
theorem dX9_rest_86 : decode cX9_rest 86 = .ok (.iload 5, 2) := by decide +kernel
theorem dX9_rest_88 : decode cX9_rest 88 = .ok (.isub, 1) := by decide +kernel
theorem dX9_rest_89 : decode cX9_rest 89 = .ok (.goto 5, 3) := by decide +kernel
theorem dX9_rest_92 : decode cX9_rest 92 = .ok (.iload 5, 2) := by decide +kernel
theorem dX9_rest_94 : decode cX9_rest 94 = .ok (.ireturn, 1) := by decide +kernel
theorem dX9_meet_0 : decode cX9_meet 0 = .ok (.iload_n 1, 1) := by decide +kernel
theorem dX9_meet_1 : decode cX9_meet 1 = .ok (.invokestatic 224, 3) := by decide +kernel
theorem dX9_meet_4 : decode cX9_meet 4 = .ok (.ifCond .eq 12, 3) := by decide +kernel
theorem dX9_meet_7 : decode cX9_meet 7 = .ok (.iload_n 2, 1) := by decide +kernel
theorem dX9_meet_8 : decode cX9_meet 8 = .ok (.ifCond .lt 8, 3) := by decide +kernel
theorem dX9_meet_11 : decode cX9_meet 11 = .ok (.iload_n 2, 1) := by decide +kernel
theorem dX9_meet_12 : decode cX9_meet 12 = .ok (.iload_n 1, 1) := by decide +kernel
theorem dX9_meet_13 : decode cX9_meet 13 = .ok (.if_icmp .lt 5, 3) := by decide +kernel
theorem dX9_meet_16 : decode cX9_meet 16 = .ok (.iconst (-1), 1) := by decide +kernel
theorem dX9_meet_17 : decode cX9_meet 17 = .ok (.ireturn, 1) := by decide +kernel
theorem dX9_meet_18 : decode cX9_meet 18 = .ok (.aload_n 0, 1) := by decide +kernel
theorem dX9_meet_19 : decode cX9_meet 19 = .ok (.getfield 70, 3) := by decide +kernel
theorem dX9_meet_22 : decode cX9_meet 22 = .ok (.iload_n 1, 1) := by decide +kernel
theorem dX9_meet_23 : decode cX9_meet 23 = .ok (.invokevirtual 237, 3) := by decide +kernel
theorem dX9_meet_26 : decode cX9_meet 26 = .ok (.ifCond .eq 6, 3) := by decide +kernel
theorem dX9_meet_29 : decode cX9_meet 29 = .ok (.bipush (-5), 2) := by decide +kernel
theorem dX9_meet_31 : decode cX9_meet 31 = .ok (.ireturn, 1) := by decide +kernel
theorem dX9_meet_32 : decode cX9_meet 32 = .ok (.aload_n 0, 1) := by decide +kernel
theorem dX9_meet_33 : decode cX9_meet 33 = .ok (.getfield 70, 3) := by decide +kernel
theorem dX9_meet_36 : decode cX9_meet 36 = .ok (.iload_n 1, 1) := by decide +kernel
theorem dX9_meet_37 : decode cX9_meet 37 = .ok (.iload_n 2, 1) := by decide +kernel
theorem dX9_meet_38 : decode cX9_meet 38 = .ok (.invokevirtual 240, 3) := by decide +kernel
theorem dX9_meet_41 : decode cX9_meet 41 = .ok (.ifCond .eq 13, 3) := by decide +kernel
theorem dX9_meet_44 : decode cX9_meet 44 = .ok (.aload_n 0, 1) := by decide +kernel
theorem dX9_meet_45 : decode cX9_meet 45 = .ok (.getfield 70, 3) := by decide +kernel
theorem dX9_meet_48 : decode cX9_meet 48 = .ok (.getfield 243, 3) := by decide +kernel
theorem dX9_meet_51 : decode cX9_meet 51 = .ok (.goto 7, 3) := by decide +kernel
theorem dX9_meet_54 : decode cX9_meet 54 = .ok (.aload_n 0, 1) := by decide +kernel
theorem dX9_meet_55 : decode cX9_meet 55 = .ok (.invokevirtual 181, 3) := by decide +kernel
theorem dX9_meet_58 : decode cX9_meet 58 = .ok (.ireturn, 1) := by decide +kernel
theorem dX9_joined_0 : decode cX9_joined 0 = .ok (.iload_n 1, 1) := by decide +kernel
theorem dX9_joined_1 : decode cX9_joined 1 = .ok (.ifCond .eq 10, 3) := by decide +kernel
theorem dX9_joined_4 : decode cX9_joined 4 = .ok (.iload_n 1, 1) := by decide +kernel
theorem dX9_joined_5 : decode cX9_joined 5 = .ok (.iconst 1, 1) := by decide +kernel
theorem dX9_joined_6 : decode cX9_joined 6 = .ok (.if_icmp .eq 5, 3) := by decide +kernel
theorem dX9_joined_9 : decode cX9_joined 9 = .ok (.iconst (-1), 1) := by decide +kernel
theorem dX9_joined_10 : decode cX9_joined 10 = .ok (.ireturn, 1) := by decide +kernel
theorem dX9_joined_11 : decode cX9_joined 11 = .ok (.aload_n 0, 1) := by decide +kernel
theorem dX9_joined_12 : decode cX9_joined 12 = .ok (.invokevirtual 81, 3) := by decide +kernel
theorem dX9_joined_15 : decode cX9_joined 15 = .ok (.ifCond .eq 6, 3) := by decide +kernel
theorem dX9_joined_18 : decode cX9_joined 18 = .ok (.bipush (-4), 2) := by decide +kernel
theorem dX9_joined_20 : decode cX9_joined 20 = .ok (.ireturn, 1) := by decide +kernel
theorem dX9_joined_21 : decode cX9_joined 21 = .ok (.aload_n 0, 1) := by decide +kernel
theorem dX9_joined_22 : decode cX9_joined 22 = .ok (.getfield 35, 3) := by decide +kernel
theorem dX9_joined_25 : decode cX9_joined 25 = .ok (.aload_n 0, 1) := by decide +kernel
theorem dX9_joined_26 : decode cX9_joined 26 = .ok (.getfield 85, 3) := by decide +kernel
theorem dX9_joined_29 : decode cX9_joined 29 = .ok (.aaload, 1) := by decide +kernel
theorem dX9_joined_30 : decode cX9_joined 30 = .ok (.iload_n 1, 1) := by decide +kernel
theorem dX9_joined_31 : decode cX9_joined 31 = .ok (.ifCond .ne 13, 3) := by decide +kernel
theorem dX9_joined_34 : decode cX9_joined 34 = .ok (.aload_n 0, 1) := by decide +kernel
theorem dX9_joined_35 : decode cX9_joined 35 = .ok (.getfield 70, 3) := by decide +kernel
theorem dX9_joined_38 : decode cX9_joined 38 = .ok (.getfield 246, 3) := by decide +kernel
theorem dX9_joined_41 : decode cX9_joined 41 = .ok (.goto 10, 3) := by decide +kernel
theorem dX9_joined_44 : decode cX9_joined 44 = .ok (.aload_n 0, 1) := by decide +kernel
theorem dX9_joined_45 : decode cX9_joined 45 = .ok (.getfield 70, 3) := by decide +kernel
theorem dX9_joined_48 : decode cX9_joined 48 = .ok (.getfield 249, 3) := by decide +kernel
theorem dX9_joined_51 : decode cX9_joined 51 = .ok (.invokevirtual 252, 3) := by decide +kernel
theorem dX9_joined_54 : decode cX9_joined 54 = .ok (.aload_n 0, 1) := by decide +kernel
theorem dX9_joined_55 : decode cX9_joined 55 = .ok (.iconst 1, 1) := by decide +kernel
theorem dX9_joined_56 : decode cX9_joined 56 = .ok (.invokevirtual 92, 3) := by decide +kernel
theorem dX9_joined_59 : decode cX9_joined 59 = .ok (.ireturn, 1) := by decide +kernel
theorem dX9_recover_0 : decode cX9_recover 0 = .ok (.aload_n 0, 1) := by decide +kernel
theorem dX9_recover_1 : decode cX9_recover 1 = .ok (.invokevirtual 81, 3) := by decide +kernel
theorem dX9_recover_4 : decode cX9_recover 4 = .ok (.ifCond .eq 6, 3) := by decide +kernel
theorem dX9_recover_7 : decode cX9_recover 7 = .ok (.bipush (-4), 2) := by decide +kernel
theorem dX9_recover_9 : decode cX9_recover 9 = .ok (.ireturn, 1) := by decide +kernel
theorem dX9_recover_10 : decode cX9_recover 10 = .ok (.aload_n 0, 1) := by decide +kernel
theorem dX9_recover_11 : decode cX9_recover 11 = .ok (.getfield 70, 3) := by decide +kernel
theorem dX9_recover_14 : decode cX9_recover 14 = .ok (.aload_n 0, 1) := by decide +kernel
theorem dX9_recover_15 : decode cX9_recover 15 = .ok (.getfield 35, 3) := by decide +kernel
theorem dX9_recover_18 : decode cX9_recover 18 = .ok (.aload_n 0, 1) := by decide +kernel
theorem dX9_recover_19 : decode cX9_recover 19 = .ok (.getfield 85, 3) := by decide +kernel
theorem dX9_recover_22 : decode cX9_recover 22 = .ok (.aaload, 1) := by decide +kernel
theorem dX9_recover_23 : decode cX9_recover 23 = .ok (.invokevirtual 256, 3) := by decide +kernel
theorem dX9_recover_26 : decode cX9_recover 26 = .ok (.ifCond .eq 11, 3) := by decide +kernel
theorem dX9_recover_29 : decode cX9_recover 29 = .ok (.aload_n 0, 1) := by decide +kernel
theorem dX9_recover_30 : decode cX9_recover 30 = .ok (.iconst 1, 1) := by decide +kernel
theorem dX9_recover_31 : decode cX9_recover 31 = .ok (.invokevirtual 92, 3) := by decide +kernel
theorem dX9_recover_34 : decode cX9_recover 34 = .ok (.goto 5, 3) := by decide +kernel
theorem dX9_recover_37 : decode cX9_recover 37 = .ok (.bipush (-6), 2) := by decide +kernel
theorem dX9_recover_39 : decode cX9_recover 39 = .ok (.ireturn, 1) := by decide +kernel
theorem dX9_part_0 : decode cX9_part 0 = .ok (.aload_n 0, 1) := by decide +kernel
theorem dX9_part_1 : decode cX9_part 1 = .ok (.getfield 70, 3) := by decide +kernel
theorem dX9_part_4 : decode cX9_part 4 = .ok (.getfield 243, 3) := by decide +kernel
theorem dX9_part_7 : decode cX9_part 7 = .ok (.istore_n 1, 1) := by decide +kernel
theorem dX9_part_8 : decode cX9_part 8 = .ok (.aload_n 0, 1) := by decide +kernel
theorem dX9_part_9 : decode cX9_part 9 = .ok (.getfield 70, 3) := by decide +kernel
theorem dX9_part_12 : decode cX9_part 12 = .ok (.invokevirtual 260, 3) := by decide +kernel
theorem dX9_part_15 : decode cX9_part 15 = .ok (.iload_n 1, 1) := by decide +kernel
theorem dX9_part_16 : decode cX9_part 16 = .ok (.ireturn, 1) := by decide +kernel
theorem dX9_decimals_0 : decode cX9_decimals 0 = .ok (.aload_n 0, 1) := by decide +kernel
theorem dX9_decimals_1 : decode cX9_decimals 1 = .ok (.iload_n 1, 1) := by decide +kernel
theorem dX9_decimals_2 : decode cX9_decimals 2 = .ok (.invokevirtual 96, 3) := by decide +kernel
theorem dX9_decimals_5 : decode cX9_decimals 5 = .ok (.ifCond .eq 13, 3) := by decide +kernel
theorem dX9_decimals_8 : decode cX9_decimals 8 = .ok (.iload_n 2, 1) := by decide +kernel
theorem dX9_decimals_9 : decode cX9_decimals 9 = .ok (.ifCond .lt 9, 3) := by decide +kernel
theorem dX9_decimals_12 : decode cX9_decimals 12 = .ok (.iload_n 2, 1) := by decide +kernel
theorem dX9_decimals_13 : decode cX9_decimals 13 = .ok (.bipush 30, 2) := by decide +kernel
theorem dX9_decimals_15 : decode cX9_decimals 15 = .ok (.if_icmp .le 5, 3) := by decide +kernel
theorem dX9_decimals_18 : decode cX9_decimals 18 = .ok (.iconst (-1), 1) := by decide +kernel
theorem dX9_decimals_19 : decode cX9_decimals 19 = .ok (.ireturn, 1) := by decide +kernel
theorem dX9_decimals_20 : decode cX9_decimals 20 = .ok (.aload_n 0, 1) := by decide +kernel
theorem dX9_decimals_21 : decode cX9_decimals 21 = .ok (.getfield 77, 3) := by decide +kernel
theorem dX9_decimals_24 : decode cX9_decimals 24 = .ok (.aload_n 0, 1) := by decide +kernel
theorem dX9_decimals_25 : decode cX9_decimals 25 = .ok (.getfield 35, 3) := by decide +kernel
theorem dX9_decimals_28 : decode cX9_decimals 28 = .ok (.iload_n 1, 1) := by decide +kernel
theorem dX9_decimals_29 : decode cX9_decimals 29 = .ok (.aaload, 1) := by decide +kernel
theorem dX9_decimals_30 : decode cX9_decimals 30 = .ok (.iload_n 2, 1) := by decide +kernel
theorem dX9_decimals_31 : decode cX9_decimals 31 = .ok (.iload_n 3, 1) := by decide +kernel
theorem dX9_decimals_32 : decode cX9_decimals 32 = .ok (.invokevirtual 261, 3) := by decide +kernel
theorem dX9_decimals_35 : decode cX9_decimals 35 = .ok (.aload_n 0, 1) := by decide +kernel
theorem dX9_decimals_36 : decode cX9_decimals 36 = .ok (.getfield 77, 3) := by decide +kernel
theorem dX9_decimals_39 : decode cX9_decimals 39 = .ok (.getfield 265, 3) := by decide +kernel
theorem dX9_decimals_42 : decode cX9_decimals 42 = .ok (.ireturn, 1) := by decide +kernel
theorem dX9_sign_0 : decode cX9_sign 0 = .ok (.iload_n 1, 1) := by decide +kernel
theorem dX9_sign_1 : decode cX9_sign 1 = .ok (.ifCond .lt 14, 3) := by decide +kernel
theorem dX9_sign_4 : decode cX9_sign 4 = .ok (.iload_n 1, 1) := by decide +kernel
theorem dX9_sign_5 : decode cX9_sign 5 = .ok (.aload_n 0, 1) := by decide +kernel
theorem dX9_sign_6 : decode cX9_sign 6 = .ok (.getfield 77, 3) := by decide +kernel
theorem dX9_sign_9 : decode cX9_sign 9 = .ok (.getfield 265, 3) := by decide +kernel
theorem dX9_sign_12 : decode cX9_sign 12 = .ok (.if_icmp .lt 5, 3) := by decide +kernel
theorem dX9_sign_15 : decode cX9_sign 15 = .ok (.iconst (-1), 1) := by decide +kernel
theorem dX9_sign_16 : decode cX9_sign 16 = .ok (.ireturn, 1) := by decide +kernel
theorem dX9_sign_17 : decode cX9_sign 17 = .ok (.aload_n 0, 1) := by decide +kernel
theorem dX9_sign_18 : decode cX9_sign 18 = .ok (.getfield 77, 3) := by decide +kernel
theorem dX9_sign_21 : decode cX9_sign 21 = .ok (.getfield 266, 3) := by decide +kernel
theorem dX9_sign_24 : decode cX9_sign 24 = .ok (.aload_n 0, 1) := by decide +kernel
theorem dX9_sign_25 : decode cX9_sign 25 = .ok (.getfield 77, 3) := by decide +kernel
theorem dX9_sign_28 : decode cX9_sign 28 = .ok (.getfield 265, 3) := by decide +kernel
theorem dX9_sign_31 : decode cX9_sign 31 = .ok (.iconst 1, 1) := by decide +kernel
theorem dX9_sign_32 : decode cX9_sign 32 = .ok (.isub, 1) := by decide +kernel
theorem dX9_sign_33 : decode cX9_sign 33 = .ok (.iload_n 1, 1) := by decide +kernel
theorem dX9_sign_34 : decode cX9_sign 34 = .ok (.isub, 1) := by decide +kernel
theorem dX9_sign_35 : decode cX9_sign 35 = .ok (.baload, 1) := by decide +kernel
theorem dX9_sign_36 : decode cX9_sign 36 = .ok (.ireturn, 1) := by decide +kernel
theorem dX9_count_0 : decode cX9_count 0 = .ok (.iload_n 1, 1) := by decide +kernel
theorem dX9_count_1 : decode cX9_count 1 = .ok (.tableswitch 54 0 3 #[31, 36, 44, 49], 31) := by decide +kernel
theorem dX9_count_32 : decode cX9_count 32 = .ok (.aload_n 0, 1) := by decide +kernel
theorem dX9_count_33 : decode cX9_count 33 = .ok (.getfield 85, 3) := by decide +kernel
theorem dX9_count_36 : decode cX9_count 36 = .ok (.ireturn, 1) := by decide +kernel
theorem dX9_count_37 : decode cX9_count 37 = .ok (.aload_n 0, 1) := by decide +kernel
theorem dX9_count_38 : decode cX9_count 38 = .ok (.getfield 70, 3) := by decide +kernel
theorem dX9_count_41 : decode cX9_count 41 = .ok (.getfield 243, 3) := by decide +kernel
theorem dX9_count_44 : decode cX9_count 44 = .ok (.ireturn, 1) := by decide +kernel
theorem dX9_count_45 : decode cX9_count 45 = .ok (.aload_n 0, 1) := by decide +kernel
theorem dX9_count_46 : decode cX9_count 46 = .ok (.getfield 21, 3) := by decide +kernel
theorem dX9_count_49 : decode cX9_count 49 = .ok (.ireturn, 1) := by decide +kernel
theorem dX9_count_50 : decode cX9_count 50 = .ok (.aload_n 0, 1) := by decide +kernel
theorem dX9_count_51 : decode cX9_count 51 = .ok (.getfield 270, 3) := by decide +kernel
theorem dX9_count_54 : decode cX9_count 54 = .ok (.ireturn, 1) := by decide +kernel
theorem dX9_count_55 : decode cX9_count 55 = .ok (.iconst (-1), 1) := by decide +kernel
theorem dX9_count_56 : decode cX9_count 56 = .ok (.ireturn, 1) := by decide +kernel
theorem dX9_clear_0 : decode cX9_clear 0 = .ok (.aload_n 0, 1) := by decide +kernel
theorem dX9_clear_1 : decode cX9_clear 1 = .ok (.getfield 85, 3) := by decide +kernel
theorem dX9_clear_4 : decode cX9_clear 4 = .ok (.istore_n 1, 1) := by decide +kernel
theorem dX9_clear_5 : decode cX9_clear 5 = .ok (.aload_n 0, 1) := by decide +kernel
theorem dX9_clear_6 : decode cX9_clear 6 = .ok (.iconst 0, 1) := by decide +kernel
theorem dX9_clear_7 : decode cX9_clear 7 = .ok (.putfield 85, 3) := by decide +kernel
theorem dX9_clear_10 : decode cX9_clear 10 = .ok (.iconst 0, 1) := by decide +kernel
theorem dX9_clear_11 : decode cX9_clear 11 = .ok (.istore_n 2, 1) := by decide +kernel
theorem dX9_clear_12 : decode cX9_clear 12 = .ok (.iload_n 2, 1) := by decide +kernel
theorem dX9_clear_13 : decode cX9_clear 13 = .ok (.aload_n 0, 1) := by decide +kernel
theorem dX9_clear_14 : decode cX9_clear 14 = .ok (.getfield 39, 3) := by decide +kernel
theorem dX9_clear_17 : decode cX9_clear 17 = .ok (.arraylength, 1) := by decide +kernel
theorem dX9_clear_18 : decode cX9_clear 18 = .ok (.if_icmp .ge 18, 3) := by decide +kernel
theorem dX9_clear_21 : decode cX9_clear 21 = .ok (.aload_n 0, 1) := by decide +kernel
theorem dX9_clear_22 : decode cX9_clear 22 = .ok (.getfield 39, 3) := by decide +kernel
theorem dX9_clear_25 : decode cX9_clear 25 = .ok (.iload_n 2, 1) := by decide +kernel
theorem dX9_clear_26 : decode cX9_clear 26 = .ok (.aaload, 1) := by decide +kernel
theorem dX9_clear_27 : decode cX9_clear 27 = .ok (.invokevirtual 273, 3) := by decide +kernel
theorem dX9_clear_30 : decode cX9_clear 30 = .ok (.iinc 2 1, 3) := by decide +kernel
theorem dX9_clear_33 : decode cX9_clear 33 = .ok (.goto (-21), 3) := by decide +kernel
theorem dX9_clear_36 : decode cX9_clear 36 = .ok (.aload_n 0, 1) := by decide +kernel
theorem dX9_clear_37 : decode cX9_clear 37 = .ok (.getfield 61, 3) := by decide +kernel
theorem dX9_clear_40 : decode cX9_clear 40 = .ok (.invokevirtual 170, 3) := by decide +kernel
theorem dX9_clear_43 : decode cX9_clear 43 = .ok (.aload_n 0, 1) := by decide +kernel
theorem dX9_clear_44 : decode cX9_clear 44 = .ok (.getfield 70, 3) := by decide +kernel
theorem dX9_clear_47 : decode cX9_clear 47 = .ok (.invokevirtual 260, 3) := by decide +kernel
theorem dX9_clear_50 : decode cX9_clear 50 = .ok (.iload_n 1, 1) := by decide +kernel
theorem dX9_clear_51 : decode cX9_clear 51 = .ok (.ireturn, 1) := by decide +kernel
theorem dX9_isNumber_0 : decode cX9_isNumber 0 = .ok (.iload_n 1, 1) := by decide +kernel
theorem dX9_isNumber_1 : decode cX9_isNumber 1 = .ok (.ifCond .lt 15, 3) := by decide +kernel
theorem dX9_isNumber_4 : decode cX9_isNumber 4 = .ok (.iload_n 1, 1) := by decide +kernel
theorem dX9_isNumber_5 : decode cX9_isNumber 5 = .ok (.aload_n 0, 1) := by decide +kernel
theorem dX9_isNumber_6 : decode cX9_isNumber 6 = .ok (.getfield 85, 3) := by decide +kernel
theorem dX9_isNumber_9 : decode cX9_isNumber 9 = .ok (.if_icmp .ge 7, 3) := by decide +kernel
theorem dX9_isNumber_12 : decode cX9_isNumber 12 = .ok (.iconst 1, 1) := by decide +kernel
theorem dX9_isNumber_13 : decode cX9_isNumber 13 = .ok (.goto 4, 3) := by decide +kernel
theorem dX9_isNumber_16 : decode cX9_isNumber 16 = .ok (.iconst 0, 1) := by decide +kernel
theorem dX9_isNumber_17 : decode cX9_isNumber 17 = .ok (.ireturn, 1) := by decide +kernel
theorem dX9_isFull_0 : decode cX9_isFull 0 = .ok (.aload_n 0, 1) := by decide +kernel
theorem dX9_isFull_1 : decode cX9_isFull 1 = .ok (.getfield 85, 3) := by decide +kernel
theorem dX9_isFull_4 : decode cX9_isFull 4 = .ok (.bipush 40, 2) := by decide +kernel
theorem dX9_isFull_6 : decode cX9_isFull 6 = .ok (.if_icmp .lt 7, 3) := by decide +kernel
theorem dX9_isFull_9 : decode cX9_isFull 9 = .ok (.iconst 1, 1) := by decide +kernel
theorem dX9_isFull_10 : decode cX9_isFull 10 = .ok (.goto 4, 3) := by decide +kernel
theorem dX9_isFull_13 : decode cX9_isFull 13 = .ok (.iconst 0, 1) := by decide +kernel
theorem dX9_isFull_14 : decode cX9_isFull 14 = .ok (.ireturn, 1) := by decide +kernel
theorem dX9_isEntry_0 : decode cX9_isEntry 0 = .ok (.iload_n 1, 1) := by decide +kernel
theorem dX9_isEntry_1 : decode cX9_isEntry 1 = .ok (.ifCond .lt 27, 3) := by decide +kernel
theorem dX9_isEntry_4 : decode cX9_isEntry 4 = .ok (.iload_n 1, 1) := by decide +kernel
theorem dX9_isEntry_5 : decode cX9_isEntry 5 = .ok (.aload_n 0, 1) := by decide +kernel
theorem dX9_isEntry_6 : decode cX9_isEntry 6 = .ok (.getfield 21, 3) := by decide +kernel
theorem dX9_isEntry_9 : decode cX9_isEntry 9 = .ok (.if_icmp .ge 19, 3) := by decide +kernel
theorem dX9_isEntry_12 : decode cX9_isEntry 12 = .ok (.iload_n 2, 1) := by decide +kernel
theorem dX9_isEntry_13 : decode cX9_isEntry 13 = .ok (.ifCond .lt 15, 3) := by decide +kernel
theorem dX9_isEntry_16 : decode cX9_isEntry 16 = .ok (.iload_n 2, 1) := by decide +kernel
theorem dX9_isEntry_17 : decode cX9_isEntry 17 = .ok (.aload_n 0, 1) := by decide +kernel
theorem dX9_isEntry_18 : decode cX9_isEntry 18 = .ok (.getfield 21, 3) := by decide +kernel
theorem dX9_isEntry_21 : decode cX9_isEntry 21 = .ok (.if_icmp .gt 7, 3) := by decide +kernel
theorem dX9_isEntry_24 : decode cX9_isEntry 24 = .ok (.iconst 1, 1) := by decide +kernel
theorem dX9_isEntry_25 : decode cX9_isEntry 25 = .ok (.goto 4, 3) := by decide +kernel
theorem dX9_isEntry_28 : decode cX9_isEntry 28 = .ok (.iconst 0, 1) := by decide +kernel
theorem dX9_isEntry_29 : decode cX9_isEntry 29 = .ok (.ireturn, 1) := by decide +kernel
theorem dX9_entryAt_0 : decode cX9_entryAt 0 = .ok (.aload_n 0, 1) := by decide +kernel
theorem dX9_entryAt_1 : decode cX9_entryAt 1 = .ok (.getfield 39, 3) := by decide +kernel
theorem dX9_entryAt_4 : decode cX9_entryAt 4 = .ok (.iload_n 1, 1) := by decide +kernel
theorem dX9_entryAt_5 : decode cX9_entryAt 5 = .ok (.aload_n 0, 1) := by decide +kernel
theorem dX9_entryAt_6 : decode cX9_entryAt 6 = .ok (.getfield 21, 3) := by decide +kernel
theorem dX9_entryAt_9 : decode cX9_entryAt 9 = .ok (.iconst 1, 1) := by decide +kernel
theorem dX9_entryAt_10 : decode cX9_entryAt 10 = .ok (.iadd, 1) := by decide +kernel
theorem dX9_entryAt_11 : decode cX9_entryAt 11 = .ok (.imul, 1) := by decide +kernel
theorem dX9_entryAt_12 : decode cX9_entryAt 12 = .ok (.iload_n 2, 1) := by decide +kernel
theorem dX9_entryAt_13 : decode cX9_entryAt 13 = .ok (.iadd, 1) := by decide +kernel
theorem dX9_entryAt_14 : decode cX9_entryAt 14 = .ok (.aaload, 1) := by decide +kernel
theorem dX9_entryAt_15 : decode cX9_entryAt 15 = .ok (.areturn, 1) := by decide +kernel
theorem dX9_keep_0 : decode cX9_keep 0 = .ok (.iload_n 1, 1) := by decide +kernel
theorem dX9_keep_1 : decode cX9_keep 1 = .ok (.ifCond .ne 8, 3) := by decide +kernel
theorem dX9_keep_4 : decode cX9_keep 4 = .ok (.aload_n 0, 1) := by decide +kernel
theorem dX9_keep_5 : decode cX9_keep 5 = .ok (.invokevirtual 181, 3) := by decide +kernel
theorem dX9_keep_8 : decode cX9_keep 8 = .ok (.ireturn, 1) := by decide +kernel
theorem dX9_keep_9 : decode cX9_keep 9 = .ok (.aload_n 0, 1) := by decide +kernel
theorem dX9_keep_10 : decode cX9_keep 10 = .ok (.dup, 1) := by decide +kernel
theorem dX9_keep_11 : decode cX9_keep 11 = .ok (.getfield 85, 3) := by decide +kernel
theorem dX9_keep_14 : decode cX9_keep 14 = .ok (.iconst 1, 1) := by decide +kernel
theorem dX9_keep_15 : decode cX9_keep 15 = .ok (.iadd, 1) := by decide +kernel
theorem dX9_keep_16 : decode cX9_keep 16 = .ok (.putfield 85, 3) := by decide +kernel
theorem dX9_keep_19 : decode cX9_keep 19 = .ok (.aload_n 0, 1) := by decide +kernel
theorem dX9_keep_20 : decode cX9_keep 20 = .ok (.getfield 85, 3) := by decide +kernel
theorem dX9_keep_23 : decode cX9_keep 23 = .ok (.iconst 1, 1) := by decide +kernel
theorem dX9_keep_24 : decode cX9_keep 24 = .ok (.isub, 1) := by decide +kernel
theorem dX9_keep_25 : decode cX9_keep 25 = .ok (.ireturn, 1) := by decide +kernel
theorem dX9_keepCopy_0 : decode cX9_keepCopy 0 = .ok (.aload_n 0, 1) := by decide +kernel
theorem dX9_keepCopy_1 : decode cX9_keepCopy 1 = .ok (.invokevirtual 81, 3) := by decide +kernel
theorem dX9_keepCopy_4 : decode cX9_keepCopy 4 = .ok (.ifCond .eq 6, 3) := by decide +kernel
theorem dX9_keepCopy_7 : decode cX9_keepCopy 7 = .ok (.bipush (-4), 2) := by decide +kernel
theorem dX9_keepCopy_9 : decode cX9_keepCopy 9 = .ok (.ireturn, 1) := by decide +kernel
theorem dX9_keepCopy_10 : decode cX9_keepCopy 10 = .ok (.aload_n 0, 1) := by decide +kernel
theorem dX9_keepCopy_11 : decode cX9_keepCopy 11 = .ok (.getfield 35, 3) := by decide +kernel
theorem dX9_keepCopy_14 : decode cX9_keepCopy 14 = .ok (.aload_n 0, 1) := by decide +kernel
theorem dX9_keepCopy_15 : decode cX9_keepCopy 15 = .ok (.getfield 85, 3) := by decide +kernel
theorem dX9_keepCopy_18 : decode cX9_keepCopy 18 = .ok (.aaload, 1) := by decide +kernel
theorem dX9_keepCopy_19 : decode cX9_keepCopy 19 = .ok (.aload_n 1, 1) := by decide +kernel
theorem dX9_keepCopy_20 : decode cX9_keepCopy 20 = .ok (.invokevirtual 162, 3) := by decide +kernel
theorem dX9_keepCopy_23 : decode cX9_keepCopy 23 = .ok (.aload_n 0, 1) := by decide +kernel
theorem dX9_keepCopy_24 : decode cX9_keepCopy 24 = .ok (.iconst 1, 1) := by decide +kernel
theorem dX9_keepCopy_25 : decode cX9_keepCopy 25 = .ok (.invokevirtual 92, 3) := by decide +kernel
theorem dX9_keepCopy_28 : decode cX9_keepCopy 28 = .ok (.ireturn, 1) := by decide +kernel
theorem dX9_grew_0 : decode cX9_grew 0 = .ok (.aload_n 0, 1) := by decide +kernel
theorem dX9_grew_1 : decode cX9_grew 1 = .ok (.dup, 1) := by decide +kernel
theorem dX9_grew_2 : decode cX9_grew 2 = .ok (.getfield 270, 3) := by decide +kernel
theorem dX9_grew_5 : decode cX9_grew 5 = .ok (.iconst 1, 1) := by decide +kernel
theorem dX9_grew_6 : decode cX9_grew 6 = .ok (.iadd, 1) := by decide +kernel
theorem dX9_grew_7 : decode cX9_grew 7 = .ok (.putfield 270, 3) := by decide +kernel
theorem dX9_grew_10 : decode cX9_grew 10 = .ok (.bipush (-3), 2) := by decide +kernel
theorem dX9_grew_12 : decode cX9_grew 12 = .ok (.ireturn, 1) := by decide +kernel
theorem dX10_init_0 : decode cX10_init 0 = .ok (.aload_n 0, 1) := by decide +kernel
theorem dX10_init_1 : decode cX10_init 1 = .ok (.invokespecial 1, 3) := by decide +kernel
theorem dX10_init_4 : decode cX10_init 4 = .ok (.aload_n 0, 1) := by decide +kernel
theorem dX10_init_5 : decode cX10_init 5 = .ok (.sipush 3840, 3) := by decide +kernel
theorem dX10_init_8 : decode cX10_init 8 = .ok (.newarray .int, 2) := by decide +kernel
theorem dX10_init_10 : decode cX10_init 10 = .ok (.putfield 7, 3) := by decide +kernel
theorem dX10_init_13 : decode cX10_init 13 = .ok (.aload_n 0, 1) := by decide +kernel
theorem dX10_init_14 : decode cX10_init 14 = .ok (.bipush 112, 2) := by decide +kernel
theorem dX10_init_16 : decode cX10_init 16 = .ok (.newarray .boolean, 2) := by decide +kernel
theorem dX10_init_18 : decode cX10_init 18 = .ok (.putfield 13, 3) := by decide +kernel
theorem dX10_init_21 : decode cX10_init 21 = .ok (.aload_n 0, 1) := by decide +kernel
theorem dX10_init_22 : decode cX10_init 22 = .ok (.iconst 5, 1) := by decide +kernel
theorem dX10_init_23 : decode cX10_init 23 = .ok (.newarray .int, 2) := by decide +kernel
theorem dX10_init_25 : decode cX10_init 25 = .ok (.putfield 17, 3) := by decide +kernel
theorem dX10_init_28 : decode cX10_init 28 = .ok (.aload_n 0, 1) := by decide +kernel
theorem dX10_init_29 : decode cX10_init 29 = .ok (.iconst 5, 1) := by decide +kernel
theorem dX10_init_30 : decode cX10_init 30 = .ok (.newarray .int, 2) := by decide +kernel
theorem dX10_init_32 : decode cX10_init 32 = .ok (.putfield 20, 3) := by decide +kernel
theorem dX10_init_35 : decode cX10_init 35 = .ok (.aload_n 0, 1) := by decide +kernel
theorem dX10_init_36 : decode cX10_init 36 = .ok (.iconst 5, 1) := by decide +kernel
theorem dX10_init_37 : decode cX10_init 37 = .ok (.newarray .int, 2) := by decide +kernel
theorem dX10_init_39 : decode cX10_init 39 = .ok (.putfield 23, 3) := by decide +kernel
theorem dX10_init_42 : decode cX10_init 42 = .ok (.aload_n 0, 1) := by decide +kernel
theorem dX10_init_43 : decode cX10_init 43 = .ok (.iconst 5, 1) := by decide +kernel
theorem dX10_init_44 : decode cX10_init 44 = .ok (.newarray .int, 2) := by decide +kernel
theorem dX10_init_46 : decode cX10_init 46 = .ok (.putfield 26, 3) := by decide +kernel
theorem dX10_init_49 : decode cX10_init 49 = .ok (.aload_n 0, 1) := by decide +kernel
theorem dX10_init_50 : decode cX10_init 50 = .ok (.iconst 5, 1) := by decide +kernel
theorem dX10_init_51 : decode cX10_init 51 = .ok (.newarray .int, 2) := by decide +kernel
theorem dX10_init_53 : decode cX10_init 53 = .ok (.putfield 29, 3) := by decide +kernel
theorem dX10_init_56 : decode cX10_init 56 = .ok (.aload_n 0, 1) := by decide +kernel
theorem dX10_init_57 : decode cX10_init 57 = .ok (.iconst 5, 1) := by decide +kernel
theorem dX10_init_58 : decode cX10_init 58 = .ok (.newarray .int, 2) := by decide +kernel
theorem dX10_init_60 : decode cX10_init 60 = .ok (.putfield 32, 3) := by decide +kernel
theorem dX10_init_63 : decode cX10_init 63 = .ok (.aload_n 0, 1) := by decide +kernel
theorem dX10_init_64 : decode cX10_init 64 = .ok (.iconst 5, 1) := by decide +kernel
theorem dX10_init_65 : decode cX10_init 65 = .ok (.newarray .int, 2) := by decide +kernel
theorem dX10_init_67 : decode cX10_init 67 = .ok (.putfield 35, 3) := by decide +kernel
theorem dX10_init_70 : decode cX10_init 70 = .ok (.aload_n 0, 1) := by decide +kernel
theorem dX10_init_71 : decode cX10_init 71 = .ok (.bipush 120, 2) := by decide +kernel
theorem dX10_init_73 : decode cX10_init 73 = .ok (.newarray .int, 2) := by decide +kernel
theorem dX10_init_75 : decode cX10_init 75 = .ok (.putfield 38, 3) := by decide +kernel
theorem dX10_init_78 : decode cX10_init 78 = .ok (.aload_n 0, 1) := by decide +kernel
theorem dX10_init_79 : decode cX10_init 79 = .ok (.bipush 120, 2) := by decide +kernel
theorem dX10_init_81 : decode cX10_init 81 = .ok (.newarray .int, 2) := by decide +kernel
theorem dX10_init_83 : decode cX10_init 83 = .ok (.putfield 41, 3) := by decide +kernel
theorem dX10_init_86 : decode cX10_init 86 = .ok (.aload_n 0, 1) := by decide +kernel
theorem dX10_init_87 : decode cX10_init 87 = .ok (.iload_n 1, 1) := by decide +kernel
theorem dX10_init_88 : decode cX10_init 88 = .ok (.iconst 1, 1) := by decide +kernel
theorem dX10_init_89 : decode cX10_init 89 = .ok (.if_icmp .ge 7, 3) := by decide +kernel
theorem dX10_init_92 : decode cX10_init 92 = .ok (.iconst 1, 1) := by decide +kernel
theorem dX10_init_93 : decode cX10_init 93 = .ok (.goto 13, 3) := by decide +kernel
theorem dX10_init_96 : decode cX10_init 96 = .ok (.iload_n 1, 1) := by decide +kernel
theorem dX10_init_97 : decode cX10_init 97 = .ok (.iconst 5, 1) := by decide +kernel
theorem dX10_init_98 : decode cX10_init 98 = .ok (.if_icmp .le 7, 3) := by decide +kernel
theorem dX10_init_101 : decode cX10_init 101 = .ok (.iconst 5, 1) := by decide +kernel
theorem dX10_init_102 : decode cX10_init 102 = .ok (.goto 4, 3) := by decide +kernel
theorem dX10_init_105 : decode cX10_init 105 = .ok (.iload_n 1, 1) := by decide +kernel
theorem dX10_init_106 : decode cX10_init 106 = .ok (.putfield 44, 3) := by decide +kernel
theorem dX10_init_109 : decode cX10_init 109 = .ok (.iconst 0, 1) := by decide +kernel
theorem dX10_init_110 : decode cX10_init 110 = .ok (.istore_n 2, 1) := by decide +kernel
theorem dX10_init_111 : decode cX10_init 111 = .ok (.iload_n 2, 1) := by decide +kernel
theorem dX10_init_112 : decode cX10_init 112 = .ok (.bipush 112, 2) := by decide +kernel
theorem dX10_init_114 : decode cX10_init 114 = .ok (.if_icmp .ge 14, 3) := by decide +kernel
theorem dX10_init_117 : decode cX10_init 117 = .ok (.aload_n 0, 1) := by decide +kernel
theorem dX10_init_118 : decode cX10_init 118 = .ok (.iload_n 2, 1) := by decide +kernel
theorem dX10_init_119 : decode cX10_init 119 = .ok (.invokevirtual 48, 3) := by decide +kernel
theorem dX10_init_122 : decode cX10_init 122 = .ok (.iinc 2 1, 3) := by decide +kernel
theorem dX10_init_125 : decode cX10_init 125 = .ok (.goto (-14), 3) := by decide +kernel
theorem dX10_init_128 : decode cX10_init 128 = .ok (.return_, 1) := by decide +kernel
theorem dX10_thrown_0 : decode cX10_thrown 0 = .ok (.aload_n 0, 1) := by decide +kernel
theorem dX10_thrown_1 : decode cX10_thrown 1 = .ok (.getfield 52, 3) := by decide +kernel
theorem dX10_thrown_4 : decode cX10_thrown 4 = .ok (.ireturn, 1) := by decide +kernel
theorem dX10_topOf_0 : decode cX10_topOf 0 = .ok (.bipush 16, 2) := by decide +kernel
theorem dX10_topOf_2 : decode cX10_topOf 2 = .ok (.istore_n 2, 1) := by decide +kernel
theorem dX10_topOf_3 : decode cX10_topOf 3 = .ok (.iload_n 2, 1) := by decide +kernel
theorem dX10_topOf_4 : decode cX10_topOf 4 = .ok (.ifCond .le 25, 3) := by decide +kernel
theorem dX10_topOf_7 : decode cX10_topOf 7 = .ok (.aload_n 0, 1) := by decide +kernel
theorem dX10_topOf_8 : decode cX10_topOf 8 = .ok (.getfield 7, 3) := by decide +kernel
theorem dX10_topOf_11 : decode cX10_topOf 11 = .ok (.bipush 16, 2) := by decide +kernel
theorem dX10_topOf_13 : decode cX10_topOf 13 = .ok (.iload_n 1, 1) := by decide +kernel
theorem dX10_topOf_14 : decode cX10_topOf 14 = .ok (.imul, 1) := by decide +kernel
theorem dX10_topOf_15 : decode cX10_topOf 15 = .ok (.iload_n 2, 1) := by decide +kernel
theorem dX10_topOf_16 : decode cX10_topOf 16 = .ok (.iadd, 1) := by decide +kernel
theorem dX10_topOf_17 : decode cX10_topOf 17 = .ok (.iconst 1, 1) := by decide +kernel
theorem dX10_topOf_18 : decode cX10_topOf 18 = .ok (.isub, 1) := by decide +kernel
theorem dX10_topOf_19 : decode cX10_topOf 19 = .ok (.iaload, 1) := by decide +kernel
theorem dX10_topOf_20 : decode cX10_topOf 20 = .ok (.ifCond .ne 9, 3) := by decide +kernel
theorem dX10_topOf_23 : decode cX10_topOf 23 = .ok (.iinc 2 (-1), 3) := by decide +kernel
theorem dX10_topOf_26 : decode cX10_topOf 26 = .ok (.goto (-23), 3) := by decide +kernel
theorem dX10_topOf_29 : decode cX10_topOf 29 = .ok (.iload_n 2, 1) := by decide +kernel
theorem dX10_topOf_30 : decode cX10_topOf 30 = .ok (.ireturn, 1) := by decide +kernel
theorem dX10_wipe_0 : decode cX10_wipe 0 = .ok (.iconst 0, 1) := by decide +kernel
theorem dX10_wipe_1 : decode cX10_wipe 1 = .ok (.istore_n 2, 1) := by decide +kernel
theorem dX10_wipe_2 : decode cX10_wipe 2 = .ok (.iload_n 2, 1) := by decide +kernel
theorem dX10_wipe_3 : decode cX10_wipe 3 = .ok (.bipush 16, 2) := by decide +kernel
theorem dX10_wipe_5 : decode cX10_wipe 5 = .ok (.if_icmp .ge 21, 3) := by decide +kernel
theorem dX10_wipe_8 : decode cX10_wipe 8 = .ok (.aload_n 0, 1) := by decide +kernel
theorem dX10_wipe_9 : decode cX10_wipe 9 = .ok (.getfield 7, 3) := by decide +kernel
theorem dX10_wipe_12 : decode cX10_wipe 12 = .ok (.bipush 16, 2) := by decide +kernel
theorem dX10_wipe_14 : decode cX10_wipe 14 = .ok (.iload_n 1, 1) := by decide +kernel
theorem dX10_wipe_15 : decode cX10_wipe 15 = .ok (.imul, 1) := by decide +kernel
theorem dX10_wipe_16 : decode cX10_wipe 16 = .ok (.iload_n 2, 1) := by decide +kernel
theorem dX10_wipe_17 : decode cX10_wipe 17 = .ok (.iadd, 1) := by decide +kernel
theorem dX10_wipe_18 : decode cX10_wipe 18 = .ok (.iconst 0, 1) := by decide +kernel
theorem dX10_wipe_19 : decode cX10_wipe 19 = .ok (.iastore, 1) := by decide +kernel
theorem dX10_wipe_20 : decode cX10_wipe 20 = .ok (.iinc 2 1, 3) := by decide +kernel
theorem dX10_wipe_23 : decode cX10_wipe 23 = .ok (.goto (-21), 3) := by decide +kernel
theorem dX10_wipe_26 : decode cX10_wipe 26 = .ok (.return_, 1) := by decide +kernel
theorem dX10_carryOver_0 : decode cX10_carryOver 0 = .ok (.iconst 0, 1) := by decide +kernel
theorem dX10_carryOver_1 : decode cX10_carryOver 1 = .ok (.istore_n 3, 1) := by decide +kernel
theorem dX10_carryOver_2 : decode cX10_carryOver 2 = .ok (.iload_n 3, 1) := by decide +kernel
theorem dX10_carryOver_3 : decode cX10_carryOver 3 = .ok (.bipush 16, 2) := by decide +kernel
theorem dX10_carryOver_5 : decode cX10_carryOver 5 = .ok (.if_icmp .ge 31, 3) := by decide +kernel
theorem dX10_carryOver_8 : decode cX10_carryOver 8 = .ok (.aload_n 0, 1) := by decide +kernel
theorem dX10_carryOver_9 : decode cX10_carryOver 9 = .ok (.getfield 7, 3) := by decide +kernel
theorem dX10_carryOver_12 : decode cX10_carryOver 12 = .ok (.bipush 16, 2) := by decide +kernel
theorem dX10_carryOver_14 : decode cX10_carryOver 14 = .ok (.iload_n 2, 1) := by decide +kernel
theorem dX10_carryOver_15 : decode cX10_carryOver 15 = .ok (.imul, 1) := by decide +kernel
theorem dX10_carryOver_16 : decode cX10_carryOver 16 = .ok (.iload_n 3, 1) := by decide +kernel
theorem dX10_carryOver_17 : decode cX10_carryOver 17 = .ok (.iadd, 1) := by decide +kernel
theorem dX10_carryOver_18 : decode cX10_carryOver 18 = .ok (.aload_n 0, 1) := by decide +kernel
theorem dX10_carryOver_19 : decode cX10_carryOver 19 = .ok (.getfield 7, 3) := by decide +kernel
theorem dX10_carryOver_22 : decode cX10_carryOver 22 = .ok (.bipush 16, 2) := by decide +kernel
theorem dX10_carryOver_24 : decode cX10_carryOver 24 = .ok (.iload_n 1, 1) := by decide +kernel
theorem dX10_carryOver_25 : decode cX10_carryOver 25 = .ok (.imul, 1) := by decide +kernel
theorem dX10_carryOver_26 : decode cX10_carryOver 26 = .ok (.iload_n 3, 1) := by decide +kernel
theorem dX10_carryOver_27 : decode cX10_carryOver 27 = .ok (.iadd, 1) := by decide +kernel
theorem dX10_carryOver_28 : decode cX10_carryOver 28 = .ok (.iaload, 1) := by decide +kernel
theorem dX10_carryOver_29 : decode cX10_carryOver 29 = .ok (.iastore, 1) := by decide +kernel
theorem dX10_carryOver_30 : decode cX10_carryOver 30 = .ok (.iinc 3 1, 3) := by decide +kernel
theorem dX10_carryOver_33 : decode cX10_carryOver 33 = .ok (.goto (-31), 3) := by decide +kernel
theorem dX10_carryOver_36 : decode cX10_carryOver 36 = .ok (.return_, 1) := by decide +kernel
theorem dX10_setLong_0 : decode cX10_setLong 0 = .ok (.aload_n 0, 1) := by decide +kernel
theorem dX10_setLong_1 : decode cX10_setLong 1 = .ok (.iload_n 1, 1) := by decide +kernel
theorem dX10_setLong_2 : decode cX10_setLong 2 = .ok (.invokevirtual 55, 3) := by decide +kernel
theorem dX10_setLong_5 : decode cX10_setLong 5 = .ok (.lload_n 2, 1) := by decide +kernel
theorem dX10_setLong_6 : decode cX10_setLong 6 = .ok (.lconst 0, 1) := by decide +kernel
theorem dX10_setLong_7 : decode cX10_setLong 7 = .ok (.lcmp, 1) := by decide +kernel
theorem dX10_setLong_8 : decode cX10_setLong 8 = .ok (.ifCond .ge 8, 3) := by decide +kernel
theorem dX10_setLong_11 : decode cX10_setLong 11 = .ok (.lload_n 2, 1) := by decide +kernel
theorem dX10_setLong_12 : decode cX10_setLong 12 = .ok (.lneg, 1) := by decide +kernel
theorem dX10_setLong_13 : decode cX10_setLong 13 = .ok (.goto 4, 3) := by decide +kernel
theorem dX10_setLong_16 : decode cX10_setLong 16 = .ok (.lload_n 2, 1) := by decide +kernel
theorem dX10_setLong_17 : decode cX10_setLong 17 = .ok (.lstore 4, 2) := by decide +kernel
theorem dX10_setLong_19 : decode cX10_setLong 19 = .ok (.aload_n 0, 1) := by decide +kernel
theorem dX10_setLong_20 : decode cX10_setLong 20 = .ok (.getfield 7, 3) := by decide +kernel
theorem dX10_setLong_23 : decode cX10_setLong 23 = .ok (.bipush 16, 2) := by decide +kernel
theorem dX10_setLong_25 : decode cX10_setLong 25 = .ok (.iload_n 1, 1) := by decide +kernel
theorem dX10_setLong_26 : decode cX10_setLong 26 = .ok (.imul, 1) := by decide +kernel
theorem dX10_setLong_27 : decode cX10_setLong 27 = .ok (.lload 4, 2) := by decide +kernel
theorem dX10_setLong_29 : decode cX10_setLong 29 = .ok (.ldc2_w 58, 3) := by decide +kernel
theorem dX10_setLong_32 : decode cX10_setLong 32 = .ok (.land, 1) := by decide +kernel
theorem dX10_setLong_33 : decode cX10_setLong 33 = .ok (.l2i, 1) := by decide +kernel
theorem dX10_setLong_34 : decode cX10_setLong 34 = .ok (.iastore, 1) := by decide +kernel
theorem dX10_setLong_35 : decode cX10_setLong 35 = .ok (.aload_n 0, 1) := by decide +kernel
theorem dX10_setLong_36 : decode cX10_setLong 36 = .ok (.getfield 7, 3) := by decide +kernel
theorem dX10_setLong_39 : decode cX10_setLong 39 = .ok (.bipush 16, 2) := by decide +kernel
theorem dX10_setLong_41 : decode cX10_setLong 41 = .ok (.iload_n 1, 1) := by decide +kernel
theorem dX10_setLong_42 : decode cX10_setLong 42 = .ok (.imul, 1) := by decide +kernel
theorem dX10_setLong_43 : decode cX10_setLong 43 = .ok (.iconst 1, 1) := by decide +kernel
theorem dX10_setLong_44 : decode cX10_setLong 44 = .ok (.iadd, 1) := by decide +kernel
theorem dX10_setLong_45 : decode cX10_setLong 45 = .ok (.lload 4, 2) := by decide +kernel
theorem dX10_setLong_47 : decode cX10_setLong 47 = .ok (.bipush 28, 2) := by decide +kernel
theorem dX10_setLong_49 : decode cX10_setLong 49 = .ok (.lushr, 1) := by decide +kernel
theorem dX10_setLong_50 : decode cX10_setLong 50 = .ok (.ldc2_w 58, 3) := by decide +kernel
theorem dX10_setLong_53 : decode cX10_setLong 53 = .ok (.land, 1) := by decide +kernel
theorem dX10_setLong_54 : decode cX10_setLong 54 = .ok (.l2i, 1) := by decide +kernel
theorem dX10_setLong_55 : decode cX10_setLong 55 = .ok (.iastore, 1) := by decide +kernel
theorem dX10_setLong_56 : decode cX10_setLong 56 = .ok (.aload_n 0, 1) := by decide +kernel
theorem dX10_setLong_57 : decode cX10_setLong 57 = .ok (.getfield 7, 3) := by decide +kernel
theorem dX10_setLong_60 : decode cX10_setLong 60 = .ok (.bipush 16, 2) := by decide +kernel
theorem dX10_setLong_62 : decode cX10_setLong 62 = .ok (.iload_n 1, 1) := by decide +kernel
theorem dX10_setLong_63 : decode cX10_setLong 63 = .ok (.imul, 1) := by decide +kernel
theorem dX10_setLong_64 : decode cX10_setLong 64 = .ok (.iconst 2, 1) := by decide +kernel
theorem dX10_setLong_65 : decode cX10_setLong 65 = .ok (.iadd, 1) := by decide +kernel
theorem dX10_setLong_66 : decode cX10_setLong 66 = .ok (.lload 4, 2) := by decide +kernel
theorem dX10_setLong_68 : decode cX10_setLong 68 = .ok (.bipush 56, 2) := by decide +kernel
theorem dX10_setLong_70 : decode cX10_setLong 70 = .ok (.lushr, 1) := by decide +kernel
theorem dX10_setLong_71 : decode cX10_setLong 71 = .ok (.l2i, 1) := by decide +kernel
theorem dX10_setLong_72 : decode cX10_setLong 72 = .ok (.iastore, 1) := by decide +kernel
theorem dX10_setLong_73 : decode cX10_setLong 73 = .ok (.return_, 1) := by decide +kernel
theorem dX10_isOne_0 : decode cX10_isOne 0 = .ok (.aload_n 0, 1) := by decide +kernel
theorem dX10_isOne_1 : decode cX10_isOne 1 = .ok (.iload_n 1, 1) := by decide +kernel
theorem dX10_isOne_2 : decode cX10_isOne 2 = .ok (.invokevirtual 60, 3) := by decide +kernel
theorem dX10_isOne_5 : decode cX10_isOne 5 = .ok (.iconst 1, 1) := by decide +kernel
theorem dX10_isOne_6 : decode cX10_isOne 6 = .ok (.if_icmp .ne 20, 3) := by decide +kernel
theorem dX10_isOne_9 : decode cX10_isOne 9 = .ok (.aload_n 0, 1) := by decide +kernel
theorem dX10_isOne_10 : decode cX10_isOne 10 = .ok (.getfield 7, 3) := by decide +kernel
theorem dX10_isOne_13 : decode cX10_isOne 13 = .ok (.bipush 16, 2) := by decide +kernel
theorem dX10_isOne_15 : decode cX10_isOne 15 = .ok (.iload_n 1, 1) := by decide +kernel
theorem dX10_isOne_16 : decode cX10_isOne 16 = .ok (.imul, 1) := by decide +kernel
theorem dX10_isOne_17 : decode cX10_isOne 17 = .ok (.iaload, 1) := by decide +kernel
theorem dX10_isOne_18 : decode cX10_isOne 18 = .ok (.iconst 1, 1) := by decide +kernel
theorem dX10_isOne_19 : decode cX10_isOne 19 = .ok (.if_icmp .ne 7, 3) := by decide +kernel
theorem dX10_isOne_22 : decode cX10_isOne 22 = .ok (.iconst 1, 1) := by decide +kernel
theorem dX10_isOne_23 : decode cX10_isOne 23 = .ok (.goto 4, 3) := by decide +kernel
theorem dX10_isOne_26 : decode cX10_isOne 26 = .ok (.iconst 0, 1) := by decide +kernel
theorem dX10_isOne_27 : decode cX10_isOne 27 = .ok (.ireturn, 1) := by decide +kernel
theorem dX10_orderOf_0 : decode cX10_orderOf 0 = .ok (.bipush 15, 2) := by decide +kernel
theorem dX10_orderOf_2 : decode cX10_orderOf 2 = .ok (.istore_n 3, 1) := by decide +kernel
theorem dX10_orderOf_3 : decode cX10_orderOf 3 = .ok (.iload_n 3, 1) := by decide +kernel
theorem dX10_orderOf_4 : decode cX10_orderOf 4 = .ok (.ifCond .le 34, 3) := by decide +kernel
theorem dX10_orderOf_7 : decode cX10_orderOf 7 = .ok (.aload_n 0, 1) := by decide +kernel
theorem dX10_orderOf_8 : decode cX10_orderOf 8 = .ok (.getfield 7, 3) := by decide +kernel
theorem dX10_orderOf_11 : decode cX10_orderOf 11 = .ok (.bipush 16, 2) := by decide +kernel
theorem dX10_orderOf_13 : decode cX10_orderOf 13 = .ok (.iload_n 1, 1) := by decide +kernel
theorem dX10_orderOf_14 : decode cX10_orderOf 14 = .ok (.imul, 1) := by decide +kernel
theorem dX10_orderOf_15 : decode cX10_orderOf 15 = .ok (.iload_n 3, 1) := by decide +kernel
theorem dX10_orderOf_16 : decode cX10_orderOf 16 = .ok (.iadd, 1) := by decide +kernel
theorem dX10_orderOf_17 : decode cX10_orderOf 17 = .ok (.iaload, 1) := by decide +kernel
theorem dX10_orderOf_18 : decode cX10_orderOf 18 = .ok (.aload_n 0, 1) := by decide +kernel
theorem dX10_orderOf_19 : decode cX10_orderOf 19 = .ok (.getfield 7, 3) := by decide +kernel
theorem dX10_orderOf_22 : decode cX10_orderOf 22 = .ok (.bipush 16, 2) := by decide +kernel
theorem dX10_orderOf_24 : decode cX10_orderOf 24 = .ok (.iload_n 2, 1) := by decide +kernel
theorem dX10_orderOf_25 : decode cX10_orderOf 25 = .ok (.imul, 1) := by decide +kernel
theorem dX10_orderOf_26 : decode cX10_orderOf 26 = .ok (.iload_n 3, 1) := by decide +kernel
theorem dX10_orderOf_27 : decode cX10_orderOf 27 = .ok (.iadd, 1) := by decide +kernel
theorem dX10_orderOf_28 : decode cX10_orderOf 28 = .ok (.iaload, 1) := by decide +kernel
theorem dX10_orderOf_29 : decode cX10_orderOf 29 = .ok (.if_icmp .ne 9, 3) := by decide +kernel
theorem dX10_orderOf_32 : decode cX10_orderOf 32 = .ok (.iinc 3 (-1), 3) := by decide +kernel
theorem dX10_orderOf_35 : decode cX10_orderOf 35 = .ok (.goto (-32), 3) := by decide +kernel
theorem dX10_orderOf_38 : decode cX10_orderOf 38 = .ok (.aload_n 0, 1) := by decide +kernel
theorem dX10_orderOf_39 : decode cX10_orderOf 39 = .ok (.getfield 7, 3) := by decide +kernel
theorem dX10_orderOf_42 : decode cX10_orderOf 42 = .ok (.bipush 16, 2) := by decide +kernel
theorem dX10_orderOf_44 : decode cX10_orderOf 44 = .ok (.iload_n 1, 1) := by decide +kernel
theorem dX10_orderOf_45 : decode cX10_orderOf 45 = .ok (.imul, 1) := by decide +kernel
theorem dX10_orderOf_46 : decode cX10_orderOf 46 = .ok (.iload_n 3, 1) := by decide +kernel
theorem dX10_orderOf_47 : decode cX10_orderOf 47 = .ok (.iadd, 1) := by decide +kernel
theorem dX10_orderOf_48 : decode cX10_orderOf 48 = .ok (.iaload, 1) := by decide +kernel
theorem dX10_orderOf_49 : decode cX10_orderOf 49 = .ok (.istore 4, 2) := by decide +kernel
theorem dX10_orderOf_51 : decode cX10_orderOf 51 = .ok (.aload_n 0, 1) := by decide +kernel
theorem dX10_orderOf_52 : decode cX10_orderOf 52 = .ok (.getfield 7, 3) := by decide +kernel
theorem dX10_orderOf_55 : decode cX10_orderOf 55 = .ok (.bipush 16, 2) := by decide +kernel
theorem dX10_orderOf_57 : decode cX10_orderOf 57 = .ok (.iload_n 2, 1) := by decide +kernel
theorem dX10_orderOf_58 : decode cX10_orderOf 58 = .ok (.imul, 1) := by decide +kernel
theorem dX10_orderOf_59 : decode cX10_orderOf 59 = .ok (.iload_n 3, 1) := by decide +kernel
theorem dX10_orderOf_60 : decode cX10_orderOf 60 = .ok (.iadd, 1) := by decide +kernel
theorem dX10_orderOf_61 : decode cX10_orderOf 61 = .ok (.iaload, 1) := by decide +kernel
theorem dX10_orderOf_62 : decode cX10_orderOf 62 = .ok (.istore 5, 2) := by decide +kernel
theorem dX10_orderOf_64 : decode cX10_orderOf 64 = .ok (.iload 4, 2) := by decide +kernel
theorem dX10_orderOf_66 : decode cX10_orderOf 66 = .ok (.iload 5, 2) := by decide +kernel
theorem dX10_orderOf_68 : decode cX10_orderOf 68 = .ok (.if_icmp .ge 7, 3) := by decide +kernel
theorem dX10_orderOf_71 : decode cX10_orderOf 71 = .ok (.iconst (-1), 1) := by decide +kernel
theorem dX10_orderOf_72 : decode cX10_orderOf 72 = .ok (.goto 15, 3) := by decide +kernel
theorem dX10_orderOf_75 : decode cX10_orderOf 75 = .ok (.iload 4, 2) := by decide +kernel
theorem dX10_orderOf_77 : decode cX10_orderOf 77 = .ok (.iload 5, 2) := by decide +kernel
theorem dX10_orderOf_79 : decode cX10_orderOf 79 = .ok (.if_icmp .le 7, 3) := by decide +kernel
theorem dX10_orderOf_82 : decode cX10_orderOf 82 = .ok (.iconst 1, 1) := by decide +kernel
theorem dX10_orderOf_83 : decode cX10_orderOf 83 = .ok (.goto 4, 3) := by decide +kernel
theorem dX10_orderOf_86 : decode cX10_orderOf 86 = .ok (.iconst 0, 1) := by decide +kernel
theorem dX10_orderOf_87 : decode cX10_orderOf 87 = .ok (.ireturn, 1) := by decide +kernel
theorem dX10_plus_0 : decode cX10_plus 0 = .ok (.iconst 0, 1) := by decide +kernel
theorem dX10_plus_1 : decode cX10_plus 1 = .ok (.istore 4, 2) := by decide +kernel
theorem dX10_plus_3 : decode cX10_plus 3 = .ok (.iconst 0, 1) := by decide +kernel
theorem dX10_plus_4 : decode cX10_plus 4 = .ok (.istore 5, 2) := by decide +kernel
theorem dX10_plus_6 : decode cX10_plus 6 = .ok (.iload 5, 2) := by decide +kernel
theorem dX10_plus_8 : decode cX10_plus 8 = .ok (.bipush 16, 2) := by decide +kernel
theorem dX10_plus_10 : decode cX10_plus 10 = .ok (.if_icmp .ge 63, 3) := by decide +kernel
theorem dX10_plus_13 : decode cX10_plus 13 = .ok (.aload_n 0, 1) := by decide +kernel
theorem dX10_plus_14 : decode cX10_plus 14 = .ok (.getfield 7, 3) := by decide +kernel
theorem dX10_plus_17 : decode cX10_plus 17 = .ok (.bipush 16, 2) := by decide +kernel
theorem dX10_plus_19 : decode cX10_plus 19 = .ok (.iload_n 1, 1) := by decide +kernel
theorem dX10_plus_20 : decode cX10_plus 20 = .ok (.imul, 1) := by decide +kernel
theorem dX10_plus_21 : decode cX10_plus 21 = .ok (.iload 5, 2) := by decide +kernel
theorem dX10_plus_23 : decode cX10_plus 23 = .ok (.iadd, 1) := by decide +kernel
theorem dX10_plus_24 : decode cX10_plus 24 = .ok (.iaload, 1) := by decide +kernel
theorem dX10_plus_25 : decode cX10_plus 25 = .ok (.aload_n 0, 1) := by decide +kernel
theorem dX10_plus_26 : decode cX10_plus 26 = .ok (.getfield 7, 3) := by decide +kernel
theorem dX10_plus_29 : decode cX10_plus 29 = .ok (.bipush 16, 2) := by decide +kernel
theorem dX10_plus_31 : decode cX10_plus 31 = .ok (.iload_n 2, 1) := by decide +kernel
theorem dX10_plus_32 : decode cX10_plus 32 = .ok (.imul, 1) := by decide +kernel
theorem dX10_plus_33 : decode cX10_plus 33 = .ok (.iload 5, 2) := by decide +kernel
theorem dX10_plus_35 : decode cX10_plus 35 = .ok (.iadd, 1) := by decide +kernel
theorem dX10_plus_36 : decode cX10_plus 36 = .ok (.iaload, 1) := by decide +kernel
theorem dX10_plus_37 : decode cX10_plus 37 = .ok (.iadd, 1) := by decide +kernel
theorem dX10_plus_38 : decode cX10_plus 38 = .ok (.iload 4, 2) := by decide +kernel
theorem dX10_plus_40 : decode cX10_plus 40 = .ok (.iadd, 1) := by decide +kernel
theorem dX10_plus_41 : decode cX10_plus 41 = .ok (.istore 6, 2) := by decide +kernel
theorem dX10_plus_43 : decode cX10_plus 43 = .ok (.aload_n 0, 1) := by decide +kernel
theorem dX10_plus_44 : decode cX10_plus 44 = .ok (.getfield 7, 3) := by decide +kernel
theorem dX10_plus_47 : decode cX10_plus 47 = .ok (.bipush 16, 2) := by decide +kernel
theorem dX10_plus_49 : decode cX10_plus 49 = .ok (.iload_n 3, 1) := by decide +kernel
theorem dX10_plus_50 : decode cX10_plus 50 = .ok (.imul, 1) := by decide +kernel
theorem dX10_plus_51 : decode cX10_plus 51 = .ok (.iload 5, 2) := by decide +kernel
theorem dX10_plus_53 : decode cX10_plus 53 = .ok (.iadd, 1) := by decide +kernel
theorem dX10_plus_54 : decode cX10_plus 54 = .ok (.iload 6, 2) := by decide +kernel
theorem dX10_plus_56 : decode cX10_plus 56 = .ok (.ldc 64, 2) := by decide +kernel
theorem dX10_plus_58 : decode cX10_plus 58 = .ok (.iand, 1) := by decide +kernel
theorem dX10_plus_59 : decode cX10_plus 59 = .ok (.iastore, 1) := by decide +kernel
theorem dX10_plus_60 : decode cX10_plus 60 = .ok (.iload 6, 2) := by decide +kernel
theorem dX10_plus_62 : decode cX10_plus 62 = .ok (.bipush 28, 2) := by decide +kernel
theorem dX10_plus_64 : decode cX10_plus 64 = .ok (.ishr, 1) := by decide +kernel
theorem dX10_plus_65 : decode cX10_plus 65 = .ok (.istore 4, 2) := by decide +kernel
theorem dX10_plus_67 : decode cX10_plus 67 = .ok (.iinc 5 1, 3) := by decide +kernel
theorem dX10_plus_70 : decode cX10_plus 70 = .ok (.goto (-64), 3) := by decide +kernel
theorem dX10_plus_73 : decode cX10_plus 73 = .ok (.return_, 1) := by decide +kernel
theorem dX10_minus_0 : decode cX10_minus 0 = .ok (.aload_n 0, 1) := by decide +kernel
theorem dX10_minus_1 : decode cX10_minus 1 = .ok (.iload_n 1, 1) := by decide +kernel
theorem dX10_minus_2 : decode cX10_minus 2 = .ok (.invokevirtual 60, 3) := by decide +kernel
theorem dX10_minus_5 : decode cX10_minus 5 = .ok (.istore_n 3, 1) := by decide +kernel
theorem dX10_minus_6 : decode cX10_minus 6 = .ok (.iconst 0, 1) := by decide +kernel
theorem dX10_minus_7 : decode cX10_minus 7 = .ok (.istore 4, 2) := by decide +kernel
theorem dX10_minus_9 : decode cX10_minus 9 = .ok (.iconst 0, 1) := by decide +kernel
theorem dX10_minus_10 : decode cX10_minus 10 = .ok (.istore 5, 2) := by decide +kernel
theorem dX10_minus_12 : decode cX10_minus 12 = .ok (.iload 5, 2) := by decide +kernel
theorem dX10_minus_14 : decode cX10_minus 14 = .ok (.iload_n 3, 1) := by decide +kernel
theorem dX10_minus_15 : decode cX10_minus 15 = .ok (.if_icmp .ge 68, 3) := by decide +kernel
theorem dX10_minus_18 : decode cX10_minus 18 = .ok (.aload_n 0, 1) := by decide +kernel
theorem dX10_minus_19 : decode cX10_minus 19 = .ok (.getfield 7, 3) := by decide +kernel
theorem dX10_minus_22 : decode cX10_minus 22 = .ok (.bipush 16, 2) := by decide +kernel
theorem dX10_minus_24 : decode cX10_minus 24 = .ok (.iload_n 1, 1) := by decide +kernel
theorem dX10_minus_25 : decode cX10_minus 25 = .ok (.imul, 1) := by decide +kernel
theorem dX10_minus_26 : decode cX10_minus 26 = .ok (.iload 5, 2) := by decide +kernel
theorem dX10_minus_28 : decode cX10_minus 28 = .ok (.iadd, 1) := by decide +kernel
theorem dX10_minus_29 : decode cX10_minus 29 = .ok (.iaload, 1) := by decide +kernel
theorem dX10_minus_30 : decode cX10_minus 30 = .ok (.aload_n 0, 1) := by decide +kernel
theorem dX10_minus_31 : decode cX10_minus 31 = .ok (.getfield 7, 3) := by decide +kernel
theorem dX10_minus_34 : decode cX10_minus 34 = .ok (.bipush 16, 2) := by decide +kernel
theorem dX10_minus_36 : decode cX10_minus 36 = .ok (.iload_n 2, 1) := by decide +kernel
theorem dX10_minus_37 : decode cX10_minus 37 = .ok (.imul, 1) := by decide +kernel
theorem dX10_minus_38 : decode cX10_minus 38 = .ok (.iload 5, 2) := by decide +kernel
theorem dX10_minus_40 : decode cX10_minus 40 = .ok (.iadd, 1) := by decide +kernel
theorem dX10_minus_41 : decode cX10_minus 41 = .ok (.iaload, 1) := by decide +kernel
theorem dX10_minus_42 : decode cX10_minus 42 = .ok (.isub, 1) := by decide +kernel
theorem dX10_minus_43 : decode cX10_minus 43 = .ok (.iload 4, 2) := by decide +kernel
theorem dX10_minus_45 : decode cX10_minus 45 = .ok (.isub, 1) := by decide +kernel
theorem dX10_minus_46 : decode cX10_minus 46 = .ok (.istore 6, 2) := by decide +kernel
theorem dX10_minus_48 : decode cX10_minus 48 = .ok (.iload 6, 2) := by decide +kernel
theorem dX10_minus_50 : decode cX10_minus 50 = .ok (.ifCond .ge 7, 3) := by decide +kernel
theorem dX10_minus_53 : decode cX10_minus 53 = .ok (.iconst 1, 1) := by decide +kernel
theorem dX10_minus_54 : decode cX10_minus 54 = .ok (.goto 4, 3) := by decide +kernel
theorem dX10_minus_57 : decode cX10_minus 57 = .ok (.iconst 0, 1) := by decide +kernel
theorem dX10_minus_58 : decode cX10_minus 58 = .ok (.istore 4, 2) := by decide +kernel
theorem dX10_minus_60 : decode cX10_minus 60 = .ok (.aload_n 0, 1) := by decide +kernel
theorem dX10_minus_61 : decode cX10_minus 61 = .ok (.getfield 7, 3) := by decide +kernel
theorem dX10_minus_64 : decode cX10_minus 64 = .ok (.bipush 16, 2) := by decide +kernel
theorem dX10_minus_66 : decode cX10_minus 66 = .ok (.iload_n 1, 1) := by decide +kernel
theorem dX10_minus_67 : decode cX10_minus 67 = .ok (.imul, 1) := by decide +kernel
theorem dX10_minus_68 : decode cX10_minus 68 = .ok (.iload 5, 2) := by decide +kernel
theorem dX10_minus_70 : decode cX10_minus 70 = .ok (.iadd, 1) := by decide +kernel
theorem dX10_minus_71 : decode cX10_minus 71 = .ok (.iload 6, 2) := by decide +kernel
theorem dX10_minus_73 : decode cX10_minus 73 = .ok (.ldc 64, 2) := by decide +kernel
theorem dX10_minus_75 : decode cX10_minus 75 = .ok (.iand, 1) := by decide +kernel
theorem dX10_minus_76 : decode cX10_minus 76 = .ok (.iastore, 1) := by decide +kernel
theorem dX10_minus_77 : decode cX10_minus 77 = .ok (.iinc 5 1, 3) := by decide +kernel
theorem dX10_minus_80 : decode cX10_minus 80 = .ok (.goto (-68), 3) := by decide +kernel
theorem dX10_minus_83 : decode cX10_minus 83 = .ok (.return_, 1) := by decide +kernel
theorem dX10_times_0 : decode cX10_times 0 = .ok (.aload_n 0, 1) := by decide +kernel
theorem dX10_times_1 : decode cX10_times 1 = .ok (.iload_n 3, 1) := by decide +kernel
theorem dX10_times_2 : decode cX10_times 2 = .ok (.invokevirtual 55, 3) := by decide +kernel
theorem dX10_times_5 : decode cX10_times 5 = .ok (.aload_n 0, 1) := by decide +kernel
theorem dX10_times_6 : decode cX10_times 6 = .ok (.iload_n 1, 1) := by decide +kernel
theorem dX10_times_7 : decode cX10_times 7 = .ok (.invokevirtual 60, 3) := by decide +kernel
theorem dX10_times_10 : decode cX10_times 10 = .ok (.istore 4, 2) := by decide +kernel
theorem dX10_times_12 : decode cX10_times 12 = .ok (.aload_n 0, 1) := by decide +kernel
theorem dX10_times_13 : decode cX10_times 13 = .ok (.iload_n 2, 1) := by decide +kernel
theorem dX10_times_14 : decode cX10_times 14 = .ok (.invokevirtual 60, 3) := by decide +kernel
theorem dX10_times_17 : decode cX10_times 17 = .ok (.istore 5, 2) := by decide +kernel
theorem dX10_times_19 : decode cX10_times 19 = .ok (.iconst 0, 1) := by decide +kernel
theorem dX10_times_20 : decode cX10_times 20 = .ok (.istore 6, 2) := by decide +kernel
theorem dX10_times_22 : decode cX10_times 22 = .ok (.iload 6, 2) := by decide +kernel
theorem dX10_times_24 : decode cX10_times 24 = .ok (.iload 4, 2) := by decide +kernel
theorem dX10_times_26 : decode cX10_times 26 = .ok (.if_icmp .ge 138, 3) := by decide +kernel
theorem dX10_times_29 : decode cX10_times 29 = .ok (.aload_n 0, 1) := by decide +kernel
theorem dX10_times_30 : decode cX10_times 30 = .ok (.getfield 7, 3) := by decide +kernel
theorem dX10_times_33 : decode cX10_times 33 = .ok (.bipush 16, 2) := by decide +kernel
theorem dX10_times_35 : decode cX10_times 35 = .ok (.iload_n 1, 1) := by decide +kernel
theorem dX10_times_36 : decode cX10_times 36 = .ok (.imul, 1) := by decide +kernel
theorem dX10_times_37 : decode cX10_times 37 = .ok (.iload 6, 2) := by decide +kernel
theorem dX10_times_39 : decode cX10_times 39 = .ok (.iadd, 1) := by decide +kernel
theorem dX10_times_40 : decode cX10_times 40 = .ok (.iaload, 1) := by decide +kernel
theorem dX10_times_41 : decode cX10_times 41 = .ok (.i2l, 1) := by decide +kernel
theorem dX10_times_42 : decode cX10_times 42 = .ok (.lstore 7, 2) := by decide +kernel
theorem dX10_times_44 : decode cX10_times 44 = .ok (.lconst 0, 1) := by decide +kernel
theorem dX10_times_45 : decode cX10_times 45 = .ok (.lstore 9, 2) := by decide +kernel
theorem dX10_times_47 : decode cX10_times 47 = .ok (.iconst 0, 1) := by decide +kernel
theorem dX10_times_48 : decode cX10_times 48 = .ok (.istore 11, 2) := by decide +kernel
theorem dX10_times_50 : decode cX10_times 50 = .ok (.iload 6, 2) := by decide +kernel
theorem dX10_times_52 : decode cX10_times 52 = .ok (.iload 11, 2) := by decide +kernel
theorem dX10_times_54 : decode cX10_times 54 = .ok (.iadd, 1) := by decide +kernel
theorem dX10_times_55 : decode cX10_times 55 = .ok (.bipush 16, 2) := by decide +kernel
theorem dX10_times_57 : decode cX10_times 57 = .ok (.if_icmp .ge 101, 3) := by decide +kernel
theorem dX10_times_60 : decode cX10_times 60 = .ok (.iload 11, 2) := by decide +kernel
theorem dX10_times_62 : decode cX10_times 62 = .ok (.iload 5, 2) := by decide +kernel
theorem dX10_times_64 : decode cX10_times 64 = .ok (.if_icmp .lt 10, 3) := by decide +kernel
theorem dX10_times_67 : decode cX10_times 67 = .ok (.lload 9, 2) := by decide +kernel
theorem dX10_times_69 : decode cX10_times 69 = .ok (.lconst 0, 1) := by decide +kernel
theorem dX10_times_70 : decode cX10_times 70 = .ok (.lcmp, 1) := by decide +kernel
theorem dX10_times_71 : decode cX10_times 71 = .ok (.ifCond .eq 87, 3) := by decide +kernel
theorem dX10_times_74 : decode cX10_times 74 = .ok (.aload_n 0, 1) := by decide +kernel
theorem dX10_times_75 : decode cX10_times 75 = .ok (.getfield 7, 3) := by decide +kernel
theorem dX10_times_78 : decode cX10_times 78 = .ok (.bipush 16, 2) := by decide +kernel
theorem dX10_times_80 : decode cX10_times 80 = .ok (.iload_n 3, 1) := by decide +kernel
theorem dX10_times_81 : decode cX10_times 81 = .ok (.imul, 1) := by decide +kernel
theorem dX10_times_82 : decode cX10_times 82 = .ok (.iload 6, 2) := by decide +kernel
theorem dX10_times_84 : decode cX10_times 84 = .ok (.iadd, 1) := by decide +kernel
theorem dX10_times_85 : decode cX10_times 85 = .ok (.iload 11, 2) := by decide +kernel
theorem dX10_times_87 : decode cX10_times 87 = .ok (.iadd, 1) := by decide +kernel
theorem dX10_times_88 : decode cX10_times 88 = .ok (.iaload, 1) := by decide +kernel
theorem dX10_times_89 : decode cX10_times 89 = .ok (.i2l, 1) := by decide +kernel
theorem dX10_times_90 : decode cX10_times 90 = .ok (.lload 9, 2) := by decide +kernel
theorem dX10_times_92 : decode cX10_times 92 = .ok (.ladd, 1) := by decide +kernel
theorem dX10_times_93 : decode cX10_times 93 = .ok (.iload 11, 2) := by decide +kernel
theorem dX10_times_95 : decode cX10_times 95 = .ok (.iload 5, 2) := by decide +kernel
theorem dX10_times_97 : decode cX10_times 97 = .ok (.if_icmp .ge 22, 3) := by decide +kernel
theorem dX10_times_100 : decode cX10_times 100 = .ok (.lload 7, 2) := by decide +kernel
theorem dX10_times_102 : decode cX10_times 102 = .ok (.aload_n 0, 1) := by decide +kernel
theorem dX10_times_103 : decode cX10_times 103 = .ok (.getfield 7, 3) := by decide +kernel
theorem dX10_times_106 : decode cX10_times 106 = .ok (.bipush 16, 2) := by decide +kernel
theorem dX10_times_108 : decode cX10_times 108 = .ok (.iload_n 2, 1) := by decide +kernel
theorem dX10_times_109 : decode cX10_times 109 = .ok (.imul, 1) := by decide +kernel
theorem dX10_times_110 : decode cX10_times 110 = .ok (.iload 11, 2) := by decide +kernel
theorem dX10_times_112 : decode cX10_times 112 = .ok (.iadd, 1) := by decide +kernel
theorem dX10_times_113 : decode cX10_times 113 = .ok (.iaload, 1) := by decide +kernel
theorem dX10_times_114 : decode cX10_times 114 = .ok (.i2l, 1) := by decide +kernel
theorem dX10_times_115 : decode cX10_times 115 = .ok (.lmul, 1) := by decide +kernel
theorem dX10_times_116 : decode cX10_times 116 = .ok (.goto 4, 3) := by decide +kernel
theorem dX10_times_119 : decode cX10_times 119 = .ok (.lconst 0, 1) := by decide +kernel
theorem dX10_times_120 : decode cX10_times 120 = .ok (.ladd, 1) := by decide +kernel
theorem dX10_times_121 : decode cX10_times 121 = .ok (.lstore 12, 2) := by decide +kernel
theorem dX10_times_123 : decode cX10_times 123 = .ok (.aload_n 0, 1) := by decide +kernel
theorem dX10_times_124 : decode cX10_times 124 = .ok (.getfield 7, 3) := by decide +kernel
theorem dX10_times_127 : decode cX10_times 127 = .ok (.bipush 16, 2) := by decide +kernel
theorem dX10_times_129 : decode cX10_times 129 = .ok (.iload_n 3, 1) := by decide +kernel
theorem dX10_times_130 : decode cX10_times 130 = .ok (.imul, 1) := by decide +kernel
theorem dX10_times_131 : decode cX10_times 131 = .ok (.iload 6, 2) := by decide +kernel
theorem dX10_times_133 : decode cX10_times 133 = .ok (.iadd, 1) := by decide +kernel
theorem dX10_times_134 : decode cX10_times 134 = .ok (.iload 11, 2) := by decide +kernel
theorem dX10_times_136 : decode cX10_times 136 = .ok (.iadd, 1) := by decide +kernel
theorem dX10_times_137 : decode cX10_times 137 = .ok (.lload 12, 2) := by decide +kernel
theorem dX10_times_139 : decode cX10_times 139 = .ok (.ldc2_w 58, 3) := by decide +kernel
theorem dX10_times_142 : decode cX10_times 142 = .ok (.land, 1) := by decide +kernel
theorem dX10_times_143 : decode cX10_times 143 = .ok (.l2i, 1) := by decide +kernel
theorem dX10_times_144 : decode cX10_times 144 = .ok (.iastore, 1) := by decide +kernel
theorem dX10_times_145 : decode cX10_times 145 = .ok (.lload 12, 2) := by decide +kernel
theorem dX10_times_147 : decode cX10_times 147 = .ok (.bipush 28, 2) := by decide +kernel
theorem dX10_times_149 : decode cX10_times 149 = .ok (.lshr, 1) := by decide +kernel
theorem dX10_times_150 : decode cX10_times 150 = .ok (.lstore 9, 2) := by decide +kernel
theorem dX10_times_152 : decode cX10_times 152 = .ok (.iinc 11 1, 3) := by decide +kernel
theorem dX10_times_155 : decode cX10_times 155 = .ok (.goto (-105), 3) := by decide +kernel
theorem dX10_times_158 : decode cX10_times 158 = .ok (.iinc 6 1, 3) := by decide +kernel
theorem dX10_times_161 : decode cX10_times 161 = .ok (.goto (-139), 3) := by decide +kernel
theorem dX10_times_164 : decode cX10_times 164 = .ok (.return_, 1) := by decide +kernel
theorem dX10_bitsOf_0 : decode cX10_bitsOf 0 = .ok (.aload_n 0, 1) := by decide +kernel
theorem dX10_bitsOf_1 : decode cX10_bitsOf 1 = .ok (.iload_n 1, 1) := by decide +kernel
theorem dX10_bitsOf_2 : decode cX10_bitsOf 2 = .ok (.invokevirtual 60, 3) := by decide +kernel
theorem dX10_bitsOf_5 : decode cX10_bitsOf 5 = .ok (.istore_n 2, 1) := by decide +kernel
theorem dX10_bitsOf_6 : decode cX10_bitsOf 6 = .ok (.iload_n 2, 1) := by decide +kernel
theorem dX10_bitsOf_7 : decode cX10_bitsOf 7 = .ok (.ifCond .ne 7, 3) := by decide +kernel
theorem dX10_bitsOf_10 : decode cX10_bitsOf 10 = .ok (.iconst 0, 1) := by decide +kernel
theorem dX10_bitsOf_11 : decode cX10_bitsOf 11 = .ok (.goto 9, 3) := by decide +kernel
theorem dX10_bitsOf_14 : decode cX10_bitsOf 14 = .ok (.bipush 28, 2) := by decide +kernel
theorem dX10_bitsOf_16 : decode cX10_bitsOf 16 = .ok (.iload_n 2, 1) := by decide +kernel
theorem dX10_bitsOf_17 : decode cX10_bitsOf 17 = .ok (.iconst 1, 1) := by decide +kernel
theorem dX10_bitsOf_18 : decode cX10_bitsOf 18 = .ok (.isub, 1) := by decide +kernel
theorem dX10_bitsOf_19 : decode cX10_bitsOf 19 = .ok (.imul, 1) := by decide +kernel
theorem dX10_bitsOf_20 : decode cX10_bitsOf 20 = .ok (.istore_n 3, 1) := by decide +kernel
theorem dX10_bitsOf_21 : decode cX10_bitsOf 21 = .ok (.iload_n 2, 1) := by decide +kernel
theorem dX10_bitsOf_22 : decode cX10_bitsOf 22 = .ok (.ifCond .ne 7, 3) := by decide +kernel
theorem dX10_bitsOf_25 : decode cX10_bitsOf 25 = .ok (.iconst 0, 1) := by decide +kernel
theorem dX10_bitsOf_26 : decode cX10_bitsOf 26 = .ok (.goto 16, 3) := by decide +kernel
theorem dX10_bitsOf_29 : decode cX10_bitsOf 29 = .ok (.aload_n 0, 1) := by decide +kernel
theorem dX10_bitsOf_30 : decode cX10_bitsOf 30 = .ok (.getfield 7, 3) := by decide +kernel
theorem dX10_bitsOf_33 : decode cX10_bitsOf 33 = .ok (.bipush 16, 2) := by decide +kernel
theorem dX10_bitsOf_35 : decode cX10_bitsOf 35 = .ok (.iload_n 1, 1) := by decide +kernel
theorem dX10_bitsOf_36 : decode cX10_bitsOf 36 = .ok (.imul, 1) := by decide +kernel
theorem dX10_bitsOf_37 : decode cX10_bitsOf 37 = .ok (.iload_n 2, 1) := by decide +kernel
theorem dX10_bitsOf_38 : decode cX10_bitsOf 38 = .ok (.iadd, 1) := by decide +kernel
theorem dX10_bitsOf_39 : decode cX10_bitsOf 39 = .ok (.iconst 1, 1) := by decide +kernel
theorem dX10_bitsOf_40 : decode cX10_bitsOf 40 = .ok (.isub, 1) := by decide +kernel
theorem dX10_bitsOf_41 : decode cX10_bitsOf 41 = .ok (.iaload, 1) := by decide +kernel
theorem dX10_bitsOf_42 : decode cX10_bitsOf 42 = .ok (.istore 4, 2) := by decide +kernel
theorem dX10_bitsOf_44 : decode cX10_bitsOf 44 = .ok (.iload 4, 2) := by decide +kernel
theorem dX10_bitsOf_46 : decode cX10_bitsOf 46 = .ok (.ifCond .le 15, 3) := by decide +kernel
theorem dX10_bitsOf_49 : decode cX10_bitsOf 49 = .ok (.iload 4, 2) := by decide +kernel
theorem dX10_bitsOf_51 : decode cX10_bitsOf 51 = .ok (.iconst 1, 1) := by decide +kernel
theorem dX10_bitsOf_52 : decode cX10_bitsOf 52 = .ok (.ishr, 1) := by decide +kernel
theorem dX10_bitsOf_53 : decode cX10_bitsOf 53 = .ok (.istore 4, 2) := by decide +kernel
theorem dX10_bitsOf_55 : decode cX10_bitsOf 55 = .ok (.iinc 3 1, 3) := by decide +kernel
theorem dX10_bitsOf_58 : decode cX10_bitsOf 58 = .ok (.goto (-14), 3) := by decide +kernel
theorem dX10_bitsOf_61 : decode cX10_bitsOf 61 = .ok (.iload_n 3, 1) := by decide +kernel
theorem dX10_bitsOf_62 : decode cX10_bitsOf 62 = .ok (.ireturn, 1) := by decide +kernel
theorem dX10_bitAt_0 : decode cX10_bitAt 0 = .ok (.aload_n 0, 1) := by decide +kernel
theorem dX10_bitAt_1 : decode cX10_bitAt 1 = .ok (.getfield 7, 3) := by decide +kernel
theorem dX10_bitAt_4 : decode cX10_bitAt 4 = .ok (.bipush 16, 2) := by decide +kernel
theorem dX10_bitAt_6 : decode cX10_bitAt 6 = .ok (.iload_n 1, 1) := by decide +kernel
theorem dX10_bitAt_7 : decode cX10_bitAt 7 = .ok (.imul, 1) := by decide +kernel
theorem dX10_bitAt_8 : decode cX10_bitAt 8 = .ok (.iload_n 2, 1) := by decide +kernel
theorem dX10_bitAt_9 : decode cX10_bitAt 9 = .ok (.bipush 28, 2) := by decide +kernel
theorem dX10_bitAt_11 : decode cX10_bitAt 11 = .ok (.idiv, 1) := by decide +kernel
theorem dX10_bitAt_12 : decode cX10_bitAt 12 = .ok (.iadd, 1) := by decide +kernel
theorem dX10_bitAt_13 : decode cX10_bitAt 13 = .ok (.iaload, 1) := by decide +kernel
theorem dX10_bitAt_14 : decode cX10_bitAt 14 = .ok (.iload_n 2, 1) := by decide +kernel
theorem dX10_bitAt_15 : decode cX10_bitAt 15 = .ok (.bipush 28, 2) := by decide +kernel
theorem dX10_bitAt_17 : decode cX10_bitAt 17 = .ok (.irem, 1) := by decide +kernel
theorem dX10_bitAt_18 : decode cX10_bitAt 18 = .ok (.ishr, 1) := by decide +kernel
theorem dX10_bitAt_19 : decode cX10_bitAt 19 = .ok (.iconst 1, 1) := by decide +kernel
theorem dX10_bitAt_20 : decode cX10_bitAt 20 = .ok (.iand, 1) := by decide +kernel
theorem dX10_bitAt_21 : decode cX10_bitAt 21 = .ok (.ireturn, 1) := by decide +kernel
theorem dX10_halved_0 : decode cX10_halved 0 = .ok (.iconst 0, 1) := by decide +kernel
theorem dX10_halved_1 : decode cX10_halved 1 = .ok (.istore_n 2, 1) := by decide +kernel
theorem dX10_halved_2 : decode cX10_halved 2 = .ok (.aload_n 0, 1) := by decide +kernel
theorem dX10_halved_3 : decode cX10_halved 3 = .ok (.getfield 7, 3) := by decide +kernel
theorem dX10_halved_6 : decode cX10_halved 6 = .ok (.bipush 16, 2) := by decide +kernel
theorem dX10_halved_8 : decode cX10_halved 8 = .ok (.iload_n 1, 1) := by decide +kernel
theorem dX10_halved_9 : decode cX10_halved 9 = .ok (.imul, 1) := by decide +kernel
theorem dX10_halved_10 : decode cX10_halved 10 = .ok (.iload_n 2, 1) := by decide +kernel
theorem dX10_halved_11 : decode cX10_halved 11 = .ok (.iadd, 1) := by decide +kernel
theorem dX10_halved_12 : decode cX10_halved 12 = .ok (.iaload, 1) := by decide +kernel
theorem dX10_halved_13 : decode cX10_halved 13 = .ok (.ifCond .ne 9, 3) := by decide +kernel
theorem dX10_halved_16 : decode cX10_halved 16 = .ok (.iinc 2 1, 3) := by decide +kernel
theorem dX10_halved_19 : decode cX10_halved 19 = .ok (.goto (-17), 3) := by decide +kernel
theorem dX10_halved_22 : decode cX10_halved 22 = .ok (.iconst 0, 1) := by decide +kernel
theorem dX10_halved_23 : decode cX10_halved 23 = .ok (.istore_n 3, 1) := by decide +kernel
theorem dX10_halved_24 : decode cX10_halved 24 = .ok (.aload_n 0, 1) := by decide +kernel
theorem dX10_halved_25 : decode cX10_halved 25 = .ok (.getfield 7, 3) := by decide +kernel
theorem dX10_halved_28 : decode cX10_halved 28 = .ok (.bipush 16, 2) := by decide +kernel
theorem dX10_halved_30 : decode cX10_halved 30 = .ok (.iload_n 1, 1) := by decide +kernel
theorem dX10_halved_31 : decode cX10_halved 31 = .ok (.imul, 1) := by decide +kernel
theorem dX10_halved_32 : decode cX10_halved 32 = .ok (.iload_n 2, 1) := by decide +kernel
theorem dX10_halved_33 : decode cX10_halved 33 = .ok (.iadd, 1) := by decide +kernel
theorem dX10_halved_34 : decode cX10_halved 34 = .ok (.iaload, 1) := by decide +kernel
theorem dX10_halved_35 : decode cX10_halved 35 = .ok (.iload_n 3, 1) := by decide +kernel
theorem dX10_halved_36 : decode cX10_halved 36 = .ok (.ishr, 1) := by decide +kernel
theorem dX10_halved_37 : decode cX10_halved 37 = .ok (.iconst 1, 1) := by decide +kernel
theorem dX10_halved_38 : decode cX10_halved 38 = .ok (.iand, 1) := by decide +kernel
theorem dX10_halved_39 : decode cX10_halved 39 = .ok (.ifCond .ne 9, 3) := by decide +kernel
theorem dX10_halved_42 : decode cX10_halved 42 = .ok (.iinc 3 1, 3) := by decide +kernel
theorem dX10_halved_45 : decode cX10_halved 45 = .ok (.goto (-21), 3) := by decide +kernel
theorem dX10_halved_48 : decode cX10_halved 48 = .ok (.aload_n 0, 1) := by decide +kernel
theorem dX10_halved_49 : decode cX10_halved 49 = .ok (.iload_n 1, 1) := by decide +kernel
theorem dX10_halved_50 : decode cX10_halved 50 = .ok (.invokevirtual 60, 3) := by decide +kernel
theorem dX10_halved_53 : decode cX10_halved 53 = .ok (.istore 4, 2) := by decide +kernel
theorem dX10_halved_55 : decode cX10_halved 55 = .ok (.iconst 0, 1) := by decide +kernel
theorem dX10_halved_56 : decode cX10_halved 56 = .ok (.istore 5, 2) := by decide +kernel
theorem dX10_halved_58 : decode cX10_halved 58 = .ok (.iload 5, 2) := by decide +kernel
theorem dX10_halved_60 : decode cX10_halved 60 = .ok (.iload 4, 2) := by decide +kernel
theorem dX10_halved_62 : decode cX10_halved 62 = .ok (.if_icmp .ge 101, 3) := by decide +kernel
theorem dX10_halved_65 : decode cX10_halved 65 = .ok (.iload 5, 2) := by decide +kernel
theorem dX10_halved_67 : decode cX10_halved 67 = .ok (.iload_n 2, 1) := by decide +kernel
theorem dX10_halved_68 : decode cX10_halved 68 = .ok (.iadd, 1) := by decide +kernel
theorem dX10_halved_69 : decode cX10_halved 69 = .ok (.bipush 16, 2) := by decide +kernel
theorem dX10_halved_71 : decode cX10_halved 71 = .ok (.if_icmp .ge 20, 3) := by decide +kernel
theorem dX10_halved_74 : decode cX10_halved 74 = .ok (.aload_n 0, 1) := by decide +kernel
theorem dX10_halved_75 : decode cX10_halved 75 = .ok (.getfield 7, 3) := by decide +kernel
theorem dX10_halved_78 : decode cX10_halved 78 = .ok (.bipush 16, 2) := by decide +kernel
theorem dX10_halved_80 : decode cX10_halved 80 = .ok (.iload_n 1, 1) := by decide +kernel
theorem dX10_halved_81 : decode cX10_halved 81 = .ok (.imul, 1) := by decide +kernel
theorem dX10_halved_82 : decode cX10_halved 82 = .ok (.iload 5, 2) := by decide +kernel
theorem dX10_halved_84 : decode cX10_halved 84 = .ok (.iadd, 1) := by decide +kernel
theorem dX10_halved_85 : decode cX10_halved 85 = .ok (.iload_n 2, 1) := by decide +kernel
theorem dX10_halved_86 : decode cX10_halved 86 = .ok (.iadd, 1) := by decide +kernel
theorem dX10_halved_87 : decode cX10_halved 87 = .ok (.iaload, 1) := by decide +kernel
theorem dX10_halved_88 : decode cX10_halved 88 = .ok (.goto 4, 3) := by decide +kernel
theorem dX10_halved_91 : decode cX10_halved 91 = .ok (.iconst 0, 1) := by decide +kernel
theorem dX10_halved_92 : decode cX10_halved 92 = .ok (.istore 6, 2) := by decide +kernel
theorem dX10_halved_94 : decode cX10_halved 94 = .ok (.iload 5, 2) := by decide +kernel
theorem dX10_halved_96 : decode cX10_halved 96 = .ok (.iload_n 2, 1) := by decide +kernel
theorem dX10_halved_97 : decode cX10_halved 97 = .ok (.iadd, 1) := by decide +kernel
theorem dX10_halved_98 : decode cX10_halved 98 = .ok (.iconst 1, 1) := by decide +kernel
theorem dX10_halved_99 : decode cX10_halved 99 = .ok (.iadd, 1) := by decide +kernel
theorem dX10_halved_100 : decode cX10_halved 100 = .ok (.bipush 16, 2) := by decide +kernel
theorem dX10_halved_102 : decode cX10_halved 102 = .ok (.if_icmp .ge 22, 3) := by decide +kernel
theorem dX10_halved_105 : decode cX10_halved 105 = .ok (.aload_n 0, 1) := by decide +kernel
theorem dX10_halved_106 : decode cX10_halved 106 = .ok (.getfield 7, 3) := by decide +kernel
theorem dX10_halved_109 : decode cX10_halved 109 = .ok (.bipush 16, 2) := by decide +kernel
theorem dX10_halved_111 : decode cX10_halved 111 = .ok (.iload_n 1, 1) := by decide +kernel
theorem dX10_halved_112 : decode cX10_halved 112 = .ok (.imul, 1) := by decide +kernel
theorem dX10_halved_113 : decode cX10_halved 113 = .ok (.iload 5, 2) := by decide +kernel
theorem dX10_halved_115 : decode cX10_halved 115 = .ok (.iadd, 1) := by decide +kernel
theorem dX10_halved_116 : decode cX10_halved 116 = .ok (.iload_n 2, 1) := by decide +kernel
theorem dX10_halved_117 : decode cX10_halved 117 = .ok (.iadd, 1) := by decide +kernel
theorem dX10_halved_118 : decode cX10_halved 118 = .ok (.iconst 1, 1) := by decide +kernel
theorem dX10_halved_119 : decode cX10_halved 119 = .ok (.iadd, 1) := by decide +kernel
theorem dX10_halved_120 : decode cX10_halved 120 = .ok (.iaload, 1) := by decide +kernel
theorem dX10_halved_121 : decode cX10_halved 121 = .ok (.goto 4, 3) := by decide +kernel
theorem dX10_halved_124 : decode cX10_halved 124 = .ok (.iconst 0, 1) := by decide +kernel
theorem dX10_halved_125 : decode cX10_halved 125 = .ok (.istore 7, 2) := by decide +kernel
theorem dX10_halved_127 : decode cX10_halved 127 = .ok (.aload_n 0, 1) := by decide +kernel
theorem dX10_halved_128 : decode cX10_halved 128 = .ok (.getfield 7, 3) := by decide +kernel
theorem dX10_halved_131 : decode cX10_halved 131 = .ok (.bipush 16, 2) := by decide +kernel
theorem dX10_halved_133 : decode cX10_halved 133 = .ok (.iload_n 1, 1) := by decide +kernel
theorem dX10_halved_134 : decode cX10_halved 134 = .ok (.imul, 1) := by decide +kernel
theorem dX10_halved_135 : decode cX10_halved 135 = .ok (.iload 5, 2) := by decide +kernel
theorem dX10_halved_137 : decode cX10_halved 137 = .ok (.iadd, 1) := by decide +kernel
theorem dX10_halved_138 : decode cX10_halved 138 = .ok (.iload 6, 2) := by decide +kernel
theorem dX10_halved_140 : decode cX10_halved 140 = .ok (.iload_n 3, 1) := by decide +kernel
theorem dX10_halved_141 : decode cX10_halved 141 = .ok (.ishr, 1) := by decide +kernel
theorem dX10_halved_142 : decode cX10_halved 142 = .ok (.iload 7, 2) := by decide +kernel
theorem dX10_halved_144 : decode cX10_halved 144 = .ok (.i2l, 1) := by decide +kernel
theorem dX10_halved_145 : decode cX10_halved 145 = .ok (.bipush 28, 2) := by decide +kernel
theorem dX10_halved_147 : decode cX10_halved 147 = .ok (.iload_n 3, 1) := by decide +kernel
theorem dX10_halved_148 : decode cX10_halved 148 = .ok (.isub, 1) := by decide +kernel
theorem dX10_halved_149 : decode cX10_halved 149 = .ok (.lshl, 1) := by decide +kernel
theorem dX10_halved_150 : decode cX10_halved 150 = .ok (.ldc2_w 58, 3) := by decide +kernel
theorem dX10_halved_153 : decode cX10_halved 153 = .ok (.land, 1) := by decide +kernel
theorem dX10_halved_154 : decode cX10_halved 154 = .ok (.l2i, 1) := by decide +kernel
theorem dX10_halved_155 : decode cX10_halved 155 = .ok (.iadd, 1) := by decide +kernel
theorem dX10_halved_156 : decode cX10_halved 156 = .ok (.iastore, 1) := by decide +kernel
theorem dX10_halved_157 : decode cX10_halved 157 = .ok (.iinc 5 1, 3) := by decide +kernel
theorem dX10_halved_160 : decode cX10_halved 160 = .ok (.goto (-102), 3) := by decide +kernel
theorem dX10_halved_163 : decode cX10_halved 163 = .ok (.bipush 28, 2) := by decide +kernel
theorem dX10_halved_165 : decode cX10_halved 165 = .ok (.iload_n 2, 1) := by decide +kernel
theorem dX10_halved_166 : decode cX10_halved 166 = .ok (.imul, 1) := by decide +kernel
theorem dX10_halved_167 : decode cX10_halved 167 = .ok (.iload_n 3, 1) := by decide +kernel
theorem dX10_halved_168 : decode cX10_halved 168 = .ok (.iadd, 1) := by decide +kernel
theorem dX10_halved_169 : decode cX10_halved 169 = .ok (.ireturn, 1) := by decide +kernel
theorem dX10_twice_0 : decode cX10_twice 0 = .ok (.iload_n 2, 1) := by decide +kernel
theorem dX10_twice_1 : decode cX10_twice 1 = .ok (.istore_n 3, 1) := by decide +kernel
theorem dX10_twice_2 : decode cX10_twice 2 = .ok (.aload_n 0, 1) := by decide +kernel
theorem dX10_twice_3 : decode cX10_twice 3 = .ok (.iload_n 1, 1) := by decide +kernel
theorem dX10_twice_4 : decode cX10_twice 4 = .ok (.invokevirtual 60, 3) := by decide +kernel
theorem dX10_twice_7 : decode cX10_twice 7 = .ok (.istore 4, 2) := by decide +kernel
theorem dX10_twice_9 : decode cX10_twice 9 = .ok (.iconst 0, 1) := by decide +kernel
theorem dX10_twice_10 : decode cX10_twice 10 = .ok (.istore 5, 2) := by decide +kernel
theorem dX10_twice_12 : decode cX10_twice 12 = .ok (.iload 5, 2) := by decide +kernel
theorem dX10_twice_14 : decode cX10_twice 14 = .ok (.iload 4, 2) := by decide +kernel
theorem dX10_twice_16 : decode cX10_twice 16 = .ok (.if_icmp .lt 7, 3) := by decide +kernel
theorem dX10_twice_19 : decode cX10_twice 19 = .ok (.iload_n 3, 1) := by decide +kernel
theorem dX10_twice_20 : decode cX10_twice 20 = .ok (.ifCond .eq 50, 3) := by decide +kernel
theorem dX10_twice_23 : decode cX10_twice 23 = .ok (.iconst 2, 1) := by decide +kernel
theorem dX10_twice_24 : decode cX10_twice 24 = .ok (.aload_n 0, 1) := by decide +kernel
theorem dX10_twice_25 : decode cX10_twice 25 = .ok (.getfield 7, 3) := by decide +kernel
theorem dX10_twice_28 : decode cX10_twice 28 = .ok (.bipush 16, 2) := by decide +kernel
theorem dX10_twice_30 : decode cX10_twice 30 = .ok (.iload_n 1, 1) := by decide +kernel
theorem dX10_twice_31 : decode cX10_twice 31 = .ok (.imul, 1) := by decide +kernel
theorem dX10_twice_32 : decode cX10_twice 32 = .ok (.iload 5, 2) := by decide +kernel
theorem dX10_twice_34 : decode cX10_twice 34 = .ok (.iadd, 1) := by decide +kernel
theorem dX10_twice_35 : decode cX10_twice 35 = .ok (.iaload, 1) := by decide +kernel
theorem dX10_twice_36 : decode cX10_twice 36 = .ok (.imul, 1) := by decide +kernel
theorem dX10_twice_37 : decode cX10_twice 37 = .ok (.iload_n 3, 1) := by decide +kernel
theorem dX10_twice_38 : decode cX10_twice 38 = .ok (.iadd, 1) := by decide +kernel
theorem dX10_twice_39 : decode cX10_twice 39 = .ok (.istore 6, 2) := by decide +kernel
theorem dX10_twice_41 : decode cX10_twice 41 = .ok (.aload_n 0, 1) := by decide +kernel
theorem dX10_twice_42 : decode cX10_twice 42 = .ok (.getfield 7, 3) := by decide +kernel
theorem dX10_twice_45 : decode cX10_twice 45 = .ok (.bipush 16, 2) := by decide +kernel
theorem dX10_twice_47 : decode cX10_twice 47 = .ok (.iload_n 1, 1) := by decide +kernel
theorem dX10_twice_48 : decode cX10_twice 48 = .ok (.imul, 1) := by decide +kernel
theorem dX10_twice_49 : decode cX10_twice 49 = .ok (.iload 5, 2) := by decide +kernel
theorem dX10_twice_51 : decode cX10_twice 51 = .ok (.iadd, 1) := by decide +kernel
theorem dX10_twice_52 : decode cX10_twice 52 = .ok (.iload 6, 2) := by decide +kernel
theorem dX10_twice_54 : decode cX10_twice 54 = .ok (.ldc 64, 2) := by decide +kernel
theorem dX10_twice_56 : decode cX10_twice 56 = .ok (.iand, 1) := by decide +kernel
theorem dX10_twice_57 : decode cX10_twice 57 = .ok (.iastore, 1) := by decide +kernel
theorem dX10_twice_58 : decode cX10_twice 58 = .ok (.iload 6, 2) := by decide +kernel
theorem dX10_twice_60 : decode cX10_twice 60 = .ok (.bipush 28, 2) := by decide +kernel
theorem dX10_twice_62 : decode cX10_twice 62 = .ok (.ishr, 1) := by decide +kernel
theorem dX10_twice_63 : decode cX10_twice 63 = .ok (.istore_n 3, 1) := by decide +kernel
theorem dX10_twice_64 : decode cX10_twice 64 = .ok (.iinc 5 1, 3) := by decide +kernel
theorem dX10_twice_67 : decode cX10_twice 67 = .ok (.goto (-55), 3) := by decide +kernel
theorem dX10_twice_70 : decode cX10_twice 70 = .ok (.return_, 1) := by decide +kernel
theorem dX10_divide_0 : decode cX10_divide 0 = .ok (.aload_n 0, 1) := by decide +kernel
theorem dX10_divide_1 : decode cX10_divide 1 = .ok (.iload_n 3, 1) := by decide +kernel
theorem dX10_divide_2 : decode cX10_divide 2 = .ok (.invokevirtual 55, 3) := by decide +kernel
theorem dX10_divide_5 : decode cX10_divide 5 = .ok (.aload_n 0, 1) := by decide +kernel
theorem dX10_divide_6 : decode cX10_divide 6 = .ok (.iload 4, 2) := by decide +kernel
theorem dX10_divide_8 : decode cX10_divide 8 = .ok (.invokevirtual 55, 3) := by decide +kernel
theorem dX10_divide_11 : decode cX10_divide 11 = .ok (.aload_n 0, 1) := by decide +kernel
theorem dX10_divide_12 : decode cX10_divide 12 = .ok (.iload_n 1, 1) := by decide +kernel
theorem dX10_divide_13 : decode cX10_divide 13 = .ok (.invokevirtual 65, 3) := by decide +kernel
theorem dX10_divide_16 : decode cX10_divide 16 = .ok (.iconst 1, 1) := by decide +kernel
theorem dX10_divide_17 : decode cX10_divide 17 = .ok (.isub, 1) := by decide +kernel
theorem dX10_divide_18 : decode cX10_divide 18 = .ok (.istore 5, 2) := by decide +kernel
theorem dX10_divide_20 : decode cX10_divide 20 = .ok (.iload 5, 2) := by decide +kernel
theorem dX10_divide_22 : decode cX10_divide 22 = .ok (.ifCond .lt 64, 3) := by decide +kernel
theorem dX10_divide_25 : decode cX10_divide 25 = .ok (.aload_n 0, 1) := by decide +kernel
theorem dX10_divide_26 : decode cX10_divide 26 = .ok (.iload 4, 2) := by decide +kernel
theorem dX10_divide_28 : decode cX10_divide 28 = .ok (.aload_n 0, 1) := by decide +kernel
theorem dX10_divide_29 : decode cX10_divide 29 = .ok (.iload_n 1, 1) := by decide +kernel
theorem dX10_divide_30 : decode cX10_divide 30 = .ok (.iload 5, 2) := by decide +kernel
theorem dX10_divide_32 : decode cX10_divide 32 = .ok (.invokevirtual 68, 3) := by decide +kernel
theorem dX10_divide_35 : decode cX10_divide 35 = .ok (.invokevirtual 72, 3) := by decide +kernel
theorem dX10_divide_38 : decode cX10_divide 38 = .ok (.aload_n 0, 1) := by decide +kernel
theorem dX10_divide_39 : decode cX10_divide 39 = .ok (.iload 4, 2) := by decide +kernel
theorem dX10_divide_41 : decode cX10_divide 41 = .ok (.iload_n 2, 1) := by decide +kernel
theorem dX10_divide_42 : decode cX10_divide 42 = .ok (.invokevirtual 76, 3) := by decide +kernel
theorem dX10_divide_45 : decode cX10_divide 45 = .ok (.ifCond .lt 35, 3) := by decide +kernel
theorem dX10_divide_48 : decode cX10_divide 48 = .ok (.aload_n 0, 1) := by decide +kernel
theorem dX10_divide_49 : decode cX10_divide 49 = .ok (.iload 4, 2) := by decide +kernel
theorem dX10_divide_51 : decode cX10_divide 51 = .ok (.iload_n 2, 1) := by decide +kernel
theorem dX10_divide_52 : decode cX10_divide 52 = .ok (.invokevirtual 79, 3) := by decide +kernel
theorem dX10_divide_55 : decode cX10_divide 55 = .ok (.aload_n 0, 1) := by decide +kernel
theorem dX10_divide_56 : decode cX10_divide 56 = .ok (.getfield 7, 3) := by decide +kernel
theorem dX10_divide_59 : decode cX10_divide 59 = .ok (.bipush 16, 2) := by decide +kernel
theorem dX10_divide_61 : decode cX10_divide 61 = .ok (.iload_n 3, 1) := by decide +kernel
theorem dX10_divide_62 : decode cX10_divide 62 = .ok (.imul, 1) := by decide +kernel
theorem dX10_divide_63 : decode cX10_divide 63 = .ok (.iload 5, 2) := by decide +kernel
theorem dX10_divide_65 : decode cX10_divide 65 = .ok (.bipush 28, 2) := by decide +kernel
theorem dX10_divide_67 : decode cX10_divide 67 = .ok (.idiv, 1) := by decide +kernel
theorem dX10_divide_68 : decode cX10_divide 68 = .ok (.iadd, 1) := by decide +kernel
theorem dX10_divide_69 : decode cX10_divide 69 = .ok (.dup2, 1) := by decide +kernel
theorem dX10_divide_70 : decode cX10_divide 70 = .ok (.iaload, 1) := by decide +kernel
theorem dX10_divide_71 : decode cX10_divide 71 = .ok (.iconst 1, 1) := by decide +kernel
theorem dX10_divide_72 : decode cX10_divide 72 = .ok (.iload 5, 2) := by decide +kernel
theorem dX10_divide_74 : decode cX10_divide 74 = .ok (.bipush 28, 2) := by decide +kernel
theorem dX10_divide_76 : decode cX10_divide 76 = .ok (.irem, 1) := by decide +kernel
theorem dX10_divide_77 : decode cX10_divide 77 = .ok (.ishl, 1) := by decide +kernel
theorem dX10_divide_78 : decode cX10_divide 78 = .ok (.ior, 1) := by decide +kernel
theorem dX10_divide_79 : decode cX10_divide 79 = .ok (.iastore, 1) := by decide +kernel
theorem dX10_divide_80 : decode cX10_divide 80 = .ok (.iinc 5 (-1), 3) := by decide +kernel
theorem dX10_divide_83 : decode cX10_divide 83 = .ok (.goto (-63), 3) := by decide +kernel
theorem dX10_divide_86 : decode cX10_divide 86 = .ok (.return_, 1) := by decide +kernel
theorem dX10_divisor_0 : decode cX10_divisor 0 = .ok (.aload_n 0, 1) := by decide +kernel
theorem dX10_divisor_1 : decode cX10_divisor 1 = .ok (.iload_n 1, 1) := by decide +kernel
theorem dX10_divisor_2 : decode cX10_divisor 2 = .ok (.sipush 227, 3) := by decide +kernel
theorem dX10_divisor_5 : decode cX10_divisor 5 = .ok (.invokevirtual 82, 3) := by decide +kernel
theorem dX10_divisor_8 : decode cX10_divisor 8 = .ok (.aload_n 0, 1) := by decide +kernel
theorem dX10_divisor_9 : decode cX10_divisor 9 = .ok (.iload_n 2, 1) := by decide +kernel
theorem dX10_divisor_10 : decode cX10_divisor 10 = .ok (.sipush 228, 3) := by decide +kernel
theorem dX10_divisor_13 : decode cX10_divisor 13 = .ok (.invokevirtual 82, 3) := by decide +kernel
theorem dX10_divisor_16 : decode cX10_divisor 16 = .ok (.aload_n 0, 1) := by decide +kernel
theorem dX10_divisor_17 : decode cX10_divisor 17 = .ok (.sipush 227, 3) := by decide +kernel
theorem dX10_divisor_20 : decode cX10_divisor 20 = .ok (.invokevirtual 85, 3) := by decide +kernel
theorem dX10_divisor_23 : decode cX10_divisor 23 = .ok (.istore_n 3, 1) := by decide +kernel
theorem dX10_divisor_24 : decode cX10_divisor 24 = .ok (.aload_n 0, 1) := by decide +kernel
theorem dX10_divisor_25 : decode cX10_divisor 25 = .ok (.sipush 228, 3) := by decide +kernel
theorem dX10_divisor_28 : decode cX10_divisor 28 = .ok (.invokevirtual 85, 3) := by decide +kernel
theorem dX10_divisor_31 : decode cX10_divisor 31 = .ok (.istore 4, 2) := by decide +kernel
theorem dX10_divisor_33 : decode cX10_divisor 33 = .ok (.iload_n 3, 1) := by decide +kernel
theorem dX10_divisor_34 : decode cX10_divisor 34 = .ok (.iload 4, 2) := by decide +kernel
theorem dX10_divisor_36 : decode cX10_divisor 36 = .ok (.if_icmp .ge 7, 3) := by decide +kernel
theorem dX10_divisor_39 : decode cX10_divisor 39 = .ok (.iload_n 3, 1) := by decide +kernel
theorem dX10_divisor_40 : decode cX10_divisor 40 = .ok (.goto 5, 3) := by decide +kernel
theorem dX10_divisor_43 : decode cX10_divisor 43 = .ok (.iload 4, 2) := by decide +kernel
theorem dX10_divisor_45 : decode cX10_divisor 45 = .ok (.istore 4, 2) := by decide +kernel
theorem dX10_divisor_47 : decode cX10_divisor 47 = .ok (.sipush 227, 3) := by decide +kernel
theorem dX10_divisor_50 : decode cX10_divisor 50 = .ok (.istore 5, 2) := by decide +kernel
theorem dX10_divisor_52 : decode cX10_divisor 52 = .ok (.sipush 228, 3) := by decide +kernel
theorem dX10_divisor_55 : decode cX10_divisor 55 = .ok (.istore 6, 2) := by decide +kernel
theorem dX10_divisor_57 : decode cX10_divisor 57 = .ok (.iconst 1, 1) := by decide +kernel
theorem dX10_divisor_58 : decode cX10_divisor 58 = .ok (.istore 7, 2) := by decide +kernel
theorem dX10_divisor_60 : decode cX10_divisor 60 = .ok (.iload 7, 2) := by decide +kernel
theorem dX10_divisor_62 : decode cX10_divisor 62 = .ok (.ifCond .eq 79, 3) := by decide +kernel
theorem dX10_divisor_65 : decode cX10_divisor 65 = .ok (.aload_n 0, 1) := by decide +kernel
theorem dX10_divisor_66 : decode cX10_divisor 66 = .ok (.iload 5, 2) := by decide +kernel
theorem dX10_divisor_68 : decode cX10_divisor 68 = .ok (.invokevirtual 88, 3) := by decide +kernel
theorem dX10_divisor_71 : decode cX10_divisor 71 = .ok (.ifCond .eq 7, 3) := by decide +kernel
theorem dX10_divisor_74 : decode cX10_divisor 74 = .ok (.iconst 0, 1) := by decide +kernel
theorem dX10_divisor_75 : decode cX10_divisor 75 = .ok (.goto 11, 3) := by decide +kernel
theorem dX10_divisor_78 : decode cX10_divisor 78 = .ok (.aload_n 0, 1) := by decide +kernel
theorem dX10_divisor_79 : decode cX10_divisor 79 = .ok (.iload 5, 2) := by decide +kernel
theorem dX10_divisor_81 : decode cX10_divisor 81 = .ok (.iload 6, 2) := by decide +kernel
theorem dX10_divisor_83 : decode cX10_divisor 83 = .ok (.invokevirtual 76, 3) := by decide +kernel
theorem dX10_divisor_86 : decode cX10_divisor 86 = .ok (.istore 8, 2) := by decide +kernel
theorem dX10_divisor_88 : decode cX10_divisor 88 = .ok (.iload 8, 2) := by decide +kernel
theorem dX10_divisor_90 : decode cX10_divisor 90 = .ok (.ifCond .le 15, 3) := by decide +kernel
theorem dX10_divisor_93 : decode cX10_divisor 93 = .ok (.iload 5, 2) := by decide +kernel
theorem dX10_divisor_95 : decode cX10_divisor 95 = .ok (.istore 9, 2) := by decide +kernel
theorem dX10_divisor_97 : decode cX10_divisor 97 = .ok (.iload 6, 2) := by decide +kernel
theorem dX10_divisor_99 : decode cX10_divisor 99 = .ok (.istore 5, 2) := by decide +kernel
theorem dX10_divisor_101 : decode cX10_divisor 101 = .ok (.iload 9, 2) := by decide +kernel
theorem dX10_divisor_103 : decode cX10_divisor 103 = .ok (.istore 6, 2) := by decide +kernel
theorem dX10_divisor_105 : decode cX10_divisor 105 = .ok (.iload 8, 2) := by decide +kernel
theorem dX10_divisor_107 : decode cX10_divisor 107 = .ok (.ifCond .eq 7, 3) := by decide +kernel
theorem dX10_divisor_110 : decode cX10_divisor 110 = .ok (.iconst 1, 1) := by decide +kernel
theorem dX10_divisor_111 : decode cX10_divisor 111 = .ok (.goto 4, 3) := by decide +kernel
theorem dX10_divisor_114 : decode cX10_divisor 114 = .ok (.iconst 0, 1) := by decide +kernel
theorem dX10_divisor_115 : decode cX10_divisor 115 = .ok (.istore 7, 2) := by decide +kernel
theorem dX10_divisor_117 : decode cX10_divisor 117 = .ok (.iload 7, 2) := by decide +kernel
theorem dX10_divisor_119 : decode cX10_divisor 119 = .ok (.ifCond .eq 19, 3) := by decide +kernel
theorem dX10_divisor_122 : decode cX10_divisor 122 = .ok (.aload_n 0, 1) := by decide +kernel
theorem dX10_divisor_123 : decode cX10_divisor 123 = .ok (.iload 6, 2) := by decide +kernel
theorem dX10_divisor_125 : decode cX10_divisor 125 = .ok (.iload 5, 2) := by decide +kernel
theorem dX10_divisor_127 : decode cX10_divisor 127 = .ok (.invokevirtual 79, 3) := by decide +kernel
theorem dX10_divisor_130 : decode cX10_divisor 130 = .ok (.aload_n 0, 1) := by decide +kernel
theorem dX10_divisor_131 : decode cX10_divisor 131 = .ok (.iload 6, 2) := by decide +kernel
theorem dX10_divisor_133 : decode cX10_divisor 133 = .ok (.invokevirtual 85, 3) := by decide +kernel
theorem dX10_divisor_136 : decode cX10_divisor 136 = .ok (.istore 9, 2) := by decide +kernel
theorem dX10_divisor_138 : decode cX10_divisor 138 = .ok (.goto (-78), 3) := by decide +kernel
theorem dX10_divisor_141 : decode cX10_divisor 141 = .ok (.aload_n 0, 1) := by decide +kernel
theorem dX10_divisor_142 : decode cX10_divisor 142 = .ok (.iload 5, 2) := by decide +kernel
theorem dX10_divisor_144 : decode cX10_divisor 144 = .ok (.sipush 235, 3) := by decide +kernel
theorem dX10_divisor_147 : decode cX10_divisor 147 = .ok (.invokevirtual 82, 3) := by decide +kernel
theorem dX10_divisor_150 : decode cX10_divisor 150 = .ok (.iconst 0, 1) := by decide +kernel
theorem dX10_divisor_151 : decode cX10_divisor 151 = .ok (.istore 8, 2) := by decide +kernel
theorem dX10_divisor_153 : decode cX10_divisor 153 = .ok (.iload 8, 2) := by decide +kernel
theorem dX10_divisor_155 : decode cX10_divisor 155 = .ok (.iload 4, 2) := by decide +kernel
theorem dX10_divisor_157 : decode cX10_divisor 157 = .ok (.if_icmp .ge 17, 3) := by decide +kernel
theorem dX10_divisor_160 : decode cX10_divisor 160 = .ok (.aload_n 0, 1) := by decide +kernel
theorem dX10_divisor_161 : decode cX10_divisor 161 = .ok (.sipush 235, 3) := by decide +kernel
theorem dX10_divisor_164 : decode cX10_divisor 164 = .ok (.iconst 0, 1) := by decide +kernel
theorem dX10_divisor_165 : decode cX10_divisor 165 = .ok (.invokevirtual 72, 3) := by decide +kernel
theorem dX10_divisor_168 : decode cX10_divisor 168 = .ok (.iinc 8 1, 3) := by decide +kernel
theorem dX10_divisor_171 : decode cX10_divisor 171 = .ok (.goto (-18), 3) := by decide +kernel
theorem dX10_divisor_174 : decode cX10_divisor 174 = .ok (.return_, 1) := by decide +kernel
theorem dX10_restBy_0 : decode cX10_restBy 0 = .ok (.lconst 0, 1) := by decide +kernel
theorem dX10_restBy_1 : decode cX10_restBy 1 = .ok (.lstore_n 3, 1) := by decide +kernel
theorem dX10_restBy_2 : decode cX10_restBy 2 = .ok (.bipush 15, 2) := by decide +kernel
theorem dX10_restBy_4 : decode cX10_restBy 4 = .ok (.istore 5, 2) := by decide +kernel
theorem dX10_restBy_6 : decode cX10_restBy 6 = .ok (.iload 5, 2) := by decide +kernel
theorem dX10_restBy_8 : decode cX10_restBy 8 = .ok (.ifCond .lt 31, 3) := by decide +kernel
theorem dX10_restBy_11 : decode cX10_restBy 11 = .ok (.lload_n 3, 1) := by decide +kernel
theorem dX10_restBy_12 : decode cX10_restBy 12 = .ok (.bipush 28, 2) := by decide +kernel
theorem dX10_restBy_14 : decode cX10_restBy 14 = .ok (.lshl, 1) := by decide +kernel
theorem dX10_restBy_15 : decode cX10_restBy 15 = .ok (.aload_n 0, 1) := by decide +kernel
theorem dX10_restBy_16 : decode cX10_restBy 16 = .ok (.getfield 7, 3) := by decide +kernel
theorem dX10_restBy_19 : decode cX10_restBy 19 = .ok (.bipush 16, 2) := by decide +kernel
theorem dX10_restBy_21 : decode cX10_restBy 21 = .ok (.iload_n 1, 1) := by decide +kernel
theorem dX10_restBy_22 : decode cX10_restBy 22 = .ok (.imul, 1) := by decide +kernel
theorem dX10_restBy_23 : decode cX10_restBy 23 = .ok (.iload 5, 2) := by decide +kernel
theorem dX10_restBy_25 : decode cX10_restBy 25 = .ok (.iadd, 1) := by decide +kernel
theorem dX10_restBy_26 : decode cX10_restBy 26 = .ok (.iaload, 1) := by decide +kernel
theorem dX10_restBy_27 : decode cX10_restBy 27 = .ok (.i2l, 1) := by decide +kernel
theorem dX10_restBy_28 : decode cX10_restBy 28 = .ok (.ladd, 1) := by decide +kernel
theorem dX10_restBy_29 : decode cX10_restBy 29 = .ok (.iload_n 2, 1) := by decide +kernel
theorem dX10_restBy_30 : decode cX10_restBy 30 = .ok (.i2l, 1) := by decide +kernel
theorem dX10_restBy_31 : decode cX10_restBy 31 = .ok (.lrem, 1) := by decide +kernel
theorem dX10_restBy_32 : decode cX10_restBy 32 = .ok (.lstore_n 3, 1) := by decide +kernel
theorem dX10_restBy_33 : decode cX10_restBy 33 = .ok (.iinc 5 (-1), 3) := by decide +kernel
theorem dX10_restBy_36 : decode cX10_restBy 36 = .ok (.goto (-30), 3) := by decide +kernel
theorem dX10_restBy_39 : decode cX10_restBy 39 = .ok (.lload_n 3, 1) := by decide +kernel
theorem dX10_restBy_40 : decode cX10_restBy 40 = .ok (.l2i, 1) := by decide +kernel
theorem dX10_restBy_41 : decode cX10_restBy 41 = .ok (.ireturn, 1) := by decide +kernel
theorem dX10_nothing_0 : decode cX10_nothing 0 = .ok (.aload_n 0, 1) := by decide +kernel
theorem dX10_nothing_1 : decode cX10_nothing 1 = .ok (.iconst 2, 1) := by decide +kernel
theorem dX10_nothing_2 : decode cX10_nothing 2 = .ok (.iload_n 1, 1) := by decide +kernel
theorem dX10_nothing_3 : decode cX10_nothing 3 = .ok (.imul, 1) := by decide +kernel
theorem dX10_nothing_4 : decode cX10_nothing 4 = .ok (.invokevirtual 55, 3) := by decide +kernel
theorem dX10_nothing_7 : decode cX10_nothing 7 = .ok (.aload_n 0, 1) := by decide +kernel
theorem dX10_nothing_8 : decode cX10_nothing 8 = .ok (.iconst 2, 1) := by decide +kernel
theorem dX10_nothing_9 : decode cX10_nothing 9 = .ok (.iload_n 1, 1) := by decide +kernel
theorem dX10_nothing_10 : decode cX10_nothing 10 = .ok (.imul, 1) := by decide +kernel
theorem dX10_nothing_11 : decode cX10_nothing 11 = .ok (.iconst 1, 1) := by decide +kernel
theorem dX10_nothing_12 : decode cX10_nothing 12 = .ok (.iadd, 1) := by decide +kernel
theorem dX10_nothing_13 : decode cX10_nothing 13 = .ok (.invokevirtual 55, 3) := by decide +kernel
theorem dX10_nothing_16 : decode cX10_nothing 16 = .ok (.aload_n 0, 1) := by decide +kernel
theorem dX10_nothing_17 : decode cX10_nothing 17 = .ok (.getfield 7, 3) := by decide +kernel
theorem dX10_nothing_20 : decode cX10_nothing 20 = .ok (.bipush 16, 2) := by decide +kernel
theorem dX10_nothing_22 : decode cX10_nothing 22 = .ok (.iconst 2, 1) := by decide +kernel
theorem dX10_nothing_23 : decode cX10_nothing 23 = .ok (.iload_n 1, 1) := by decide +kernel
theorem dX10_nothing_24 : decode cX10_nothing 24 = .ok (.imul, 1) := by decide +kernel
theorem dX10_nothing_25 : decode cX10_nothing 25 = .ok (.iconst 1, 1) := by decide +kernel
theorem dX10_nothing_26 : decode cX10_nothing 26 = .ok (.iadd, 1) := by decide +kernel
theorem dX10_nothing_27 : decode cX10_nothing 27 = .ok (.imul, 1) := by decide +kernel
theorem dX10_nothing_28 : decode cX10_nothing 28 = .ok (.iconst 1, 1) := by decide +kernel
theorem dX10_nothing_29 : decode cX10_nothing 29 = .ok (.iastore, 1) := by decide +kernel
theorem dX10_nothing_30 : decode cX10_nothing 30 = .ok (.aload_n 0, 1) := by decide +kernel
theorem dX10_nothing_31 : decode cX10_nothing 31 = .ok (.getfield 13, 3) := by decide +kernel
theorem dX10_nothing_34 : decode cX10_nothing 34 = .ok (.iload_n 1, 1) := by decide +kernel
theorem dX10_nothing_35 : decode cX10_nothing 35 = .ok (.iconst 0, 1) := by decide +kernel
theorem dX10_nothing_36 : decode cX10_nothing 36 = .ok (.bastore, 1) := by decide +kernel
theorem dX10_nothing_37 : decode cX10_nothing 37 = .ok (.return_, 1) := by decide +kernel
theorem dX10_isZero_0 : decode cX10_isZero 0 = .ok (.aload_n 0, 1) := by decide +kernel
theorem dX10_isZero_1 : decode cX10_isZero 1 = .ok (.iconst 2, 1) := by decide +kernel
theorem dX10_isZero_2 : decode cX10_isZero 2 = .ok (.iload_n 1, 1) := by decide +kernel
theorem dX10_isZero_3 : decode cX10_isZero 3 = .ok (.imul, 1) := by decide +kernel
theorem dX10_isZero_4 : decode cX10_isZero 4 = .ok (.invokevirtual 60, 3) := by decide +kernel
theorem dX10_isZero_7 : decode cX10_isZero 7 = .ok (.ifCond .ne 7, 3) := by decide +kernel
theorem dX10_isZero_10 : decode cX10_isZero 10 = .ok (.iconst 1, 1) := by decide +kernel
theorem dX10_isZero_11 : decode cX10_isZero 11 = .ok (.goto 4, 3) := by decide +kernel
theorem dX10_isZero_14 : decode cX10_isZero 14 = .ok (.iconst 0, 1) := by decide +kernel
theorem dX10_isZero_15 : decode cX10_isZero 15 = .ok (.ireturn, 1) := by decide +kernel
theorem dX10_same_0 : decode cX10_same 0 = .ok (.aload_n 0, 1) := by decide +kernel
theorem dX10_same_1 : decode cX10_same 1 = .ok (.iconst 2, 1) := by decide +kernel
theorem dX10_same_2 : decode cX10_same 2 = .ok (.iload_n 1, 1) := by decide +kernel
theorem dX10_same_3 : decode cX10_same 3 = .ok (.imul, 1) := by decide +kernel
theorem dX10_same_4 : decode cX10_same 4 = .ok (.iconst 2, 1) := by decide +kernel
theorem dX10_same_5 : decode cX10_same 5 = .ok (.iload_n 2, 1) := by decide +kernel
theorem dX10_same_6 : decode cX10_same 6 = .ok (.imul, 1) := by decide +kernel
theorem dX10_same_7 : decode cX10_same 7 = .ok (.invokevirtual 82, 3) := by decide +kernel
theorem dX10_same_10 : decode cX10_same 10 = .ok (.aload_n 0, 1) := by decide +kernel
theorem dX10_same_11 : decode cX10_same 11 = .ok (.iconst 2, 1) := by decide +kernel
theorem dX10_same_12 : decode cX10_same 12 = .ok (.iload_n 1, 1) := by decide +kernel
theorem dX10_same_13 : decode cX10_same 13 = .ok (.imul, 1) := by decide +kernel
theorem dX10_same_14 : decode cX10_same 14 = .ok (.iconst 1, 1) := by decide +kernel
theorem dX10_same_15 : decode cX10_same 15 = .ok (.iadd, 1) := by decide +kernel
theorem dX10_same_16 : decode cX10_same 16 = .ok (.iconst 2, 1) := by decide +kernel
theorem dX10_same_17 : decode cX10_same 17 = .ok (.iload_n 2, 1) := by decide +kernel
theorem dX10_same_18 : decode cX10_same 18 = .ok (.imul, 1) := by decide +kernel
theorem dX10_same_19 : decode cX10_same 19 = .ok (.iconst 1, 1) := by decide +kernel
theorem dX10_same_20 : decode cX10_same 20 = .ok (.iadd, 1) := by decide +kernel
theorem dX10_same_21 : decode cX10_same 21 = .ok (.invokevirtual 82, 3) := by decide +kernel
theorem dX10_same_24 : decode cX10_same 24 = .ok (.aload_n 0, 1) := by decide +kernel
theorem dX10_same_25 : decode cX10_same 25 = .ok (.getfield 13, 3) := by decide +kernel
theorem dX10_same_28 : decode cX10_same 28 = .ok (.iload_n 2, 1) := by decide +kernel
theorem dX10_same_29 : decode cX10_same 29 = .ok (.aload_n 0, 1) := by decide +kernel
theorem dX10_same_30 : decode cX10_same 30 = .ok (.getfield 13, 3) := by decide +kernel
theorem dX10_same_33 : decode cX10_same 33 = .ok (.iload_n 1, 1) := by decide +kernel
theorem dX10_same_34 : decode cX10_same 34 = .ok (.baload, 1) := by decide +kernel
theorem dX10_same_35 : decode cX10_same 35 = .ok (.bastore, 1) := by decide +kernel
theorem dX10_same_36 : decode cX10_same 36 = .ok (.return_, 1) := by decide +kernel
theorem dX10_sizeOf_0 : decode cX10_sizeOf 0 = .ok (.aload_n 0, 1) := by decide +kernel
theorem dX10_sizeOf_1 : decode cX10_sizeOf 1 = .ok (.iconst 2, 1) := by decide +kernel
theorem dX10_sizeOf_2 : decode cX10_sizeOf 2 = .ok (.iload_n 1, 1) := by decide +kernel
theorem dX10_sizeOf_3 : decode cX10_sizeOf 3 = .ok (.imul, 1) := by decide +kernel
theorem dX10_sizeOf_4 : decode cX10_sizeOf 4 = .ok (.invokevirtual 65, 3) := by decide +kernel
theorem dX10_sizeOf_7 : decode cX10_sizeOf 7 = .ok (.aload_n 0, 1) := by decide +kernel
theorem dX10_sizeOf_8 : decode cX10_sizeOf 8 = .ok (.iconst 2, 1) := by decide +kernel
theorem dX10_sizeOf_9 : decode cX10_sizeOf 9 = .ok (.iload_n 1, 1) := by decide +kernel
theorem dX10_sizeOf_10 : decode cX10_sizeOf 10 = .ok (.imul, 1) := by decide +kernel
theorem dX10_sizeOf_11 : decode cX10_sizeOf 11 = .ok (.iconst 1, 1) := by decide +kernel
theorem dX10_sizeOf_12 : decode cX10_sizeOf 12 = .ok (.iadd, 1) := by decide +kernel
theorem dX10_sizeOf_13 : decode cX10_sizeOf 13 = .ok (.invokevirtual 65, 3) := by decide +kernel
theorem dX10_sizeOf_16 : decode cX10_sizeOf 16 = .ok (.iadd, 1) := by decide +kernel
theorem dX10_sizeOf_17 : decode cX10_sizeOf 17 = .ok (.ireturn, 1) := by decide +kernel
theorem dX10_lowest_0 : decode cX10_lowest 0 = .ok (.aload_n 0, 1) := by decide +kernel
theorem dX10_lowest_1 : decode cX10_lowest 1 = .ok (.iload_n 1, 1) := by decide +kernel
theorem dX10_lowest_2 : decode cX10_lowest 2 = .ok (.invokevirtual 92, 3) := by decide +kernel
theorem dX10_lowest_5 : decode cX10_lowest 5 = .ok (.ifCond .eq 10, 3) := by decide +kernel
theorem dX10_lowest_8 : decode cX10_lowest 8 = .ok (.aload_n 0, 1) := by decide +kernel
theorem dX10_lowest_9 : decode cX10_lowest 9 = .ok (.iload_n 1, 1) := by decide +kernel
theorem dX10_lowest_10 : decode cX10_lowest 10 = .ok (.invokevirtual 48, 3) := by decide +kernel
theorem dX10_lowest_13 : decode cX10_lowest 13 = .ok (.iconst 1, 1) := by decide +kernel
theorem dX10_lowest_14 : decode cX10_lowest 14 = .ok (.ireturn, 1) := by decide +kernel
theorem dX10_lowest_15 : decode cX10_lowest 15 = .ok (.aload_n 0, 1) := by decide +kernel
theorem dX10_lowest_16 : decode cX10_lowest 16 = .ok (.iconst 2, 1) := by decide +kernel
theorem dX10_lowest_17 : decode cX10_lowest 17 = .ok (.iload_n 1, 1) := by decide +kernel
theorem dX10_lowest_18 : decode cX10_lowest 18 = .ok (.imul, 1) := by decide +kernel
theorem dX10_lowest_19 : decode cX10_lowest 19 = .ok (.iconst 1, 1) := by decide +kernel
theorem dX10_lowest_20 : decode cX10_lowest 20 = .ok (.iadd, 1) := by decide +kernel
theorem dX10_lowest_21 : decode cX10_lowest 21 = .ok (.invokevirtual 88, 3) := by decide +kernel
theorem dX10_lowest_24 : decode cX10_lowest 24 = .ok (.ifCond .ne 15, 3) := by decide +kernel
theorem dX10_lowest_27 : decode cX10_lowest 27 = .ok (.aload_n 0, 1) := by decide +kernel
theorem dX10_lowest_28 : decode cX10_lowest 28 = .ok (.iconst 2, 1) := by decide +kernel
theorem dX10_lowest_29 : decode cX10_lowest 29 = .ok (.iload_n 1, 1) := by decide +kernel
theorem dX10_lowest_30 : decode cX10_lowest 30 = .ok (.imul, 1) := by decide +kernel
theorem dX10_lowest_31 : decode cX10_lowest 31 = .ok (.iconst 2, 1) := by decide +kernel
theorem dX10_lowest_32 : decode cX10_lowest 32 = .ok (.iload_n 1, 1) := by decide +kernel
theorem dX10_lowest_33 : decode cX10_lowest 33 = .ok (.imul, 1) := by decide +kernel
theorem dX10_lowest_34 : decode cX10_lowest 34 = .ok (.iconst 1, 1) := by decide +kernel
theorem dX10_lowest_35 : decode cX10_lowest 35 = .ok (.iadd, 1) := by decide +kernel
theorem dX10_lowest_36 : decode cX10_lowest 36 = .ok (.invokevirtual 95, 3) := by decide +kernel
theorem dX10_lowest_39 : decode cX10_lowest 39 = .ok (.aload_n 0, 1) := by decide +kernel
theorem dX10_lowest_40 : decode cX10_lowest 40 = .ok (.iconst 2, 1) := by decide +kernel
theorem dX10_lowest_41 : decode cX10_lowest 41 = .ok (.iload_n 1, 1) := by decide +kernel
theorem dX10_lowest_42 : decode cX10_lowest 42 = .ok (.imul, 1) := by decide +kernel
theorem dX10_lowest_43 : decode cX10_lowest 43 = .ok (.iconst 1, 1) := by decide +kernel
theorem dX10_lowest_44 : decode cX10_lowest 44 = .ok (.iadd, 1) := by decide +kernel
theorem dX10_lowest_45 : decode cX10_lowest 45 = .ok (.invokevirtual 88, 3) := by decide +kernel
theorem dX10_lowest_48 : decode cX10_lowest 48 = .ok (.ifCond .ne 69, 3) := by decide +kernel
theorem dX10_lowest_51 : decode cX10_lowest 51 = .ok (.aload_n 0, 1) := by decide +kernel
theorem dX10_lowest_52 : decode cX10_lowest 52 = .ok (.sipush 235, 3) := by decide +kernel
theorem dX10_lowest_55 : decode cX10_lowest 55 = .ok (.invokevirtual 88, 3) := by decide +kernel
theorem dX10_lowest_58 : decode cX10_lowest 58 = .ok (.ifCond .ne 59, 3) := by decide +kernel
theorem dX10_lowest_61 : decode cX10_lowest 61 = .ok (.aload_n 0, 1) := by decide +kernel
theorem dX10_lowest_62 : decode cX10_lowest 62 = .ok (.iconst 2, 1) := by decide +kernel
theorem dX10_lowest_63 : decode cX10_lowest 63 = .ok (.iload_n 1, 1) := by decide +kernel
theorem dX10_lowest_64 : decode cX10_lowest 64 = .ok (.imul, 1) := by decide +kernel
theorem dX10_lowest_65 : decode cX10_lowest 65 = .ok (.sipush 235, 3) := by decide +kernel
theorem dX10_lowest_68 : decode cX10_lowest 68 = .ok (.sipush 229, 3) := by decide +kernel
theorem dX10_lowest_71 : decode cX10_lowest 71 = .ok (.sipush 230, 3) := by decide +kernel
theorem dX10_lowest_74 : decode cX10_lowest 74 = .ok (.invokevirtual 98, 3) := by decide +kernel
theorem dX10_lowest_77 : decode cX10_lowest 77 = .ok (.aload_n 0, 1) := by decide +kernel
theorem dX10_lowest_78 : decode cX10_lowest 78 = .ok (.sipush 229, 3) := by decide +kernel
theorem dX10_lowest_81 : decode cX10_lowest 81 = .ok (.iconst 2, 1) := by decide +kernel
theorem dX10_lowest_82 : decode cX10_lowest 82 = .ok (.iload_n 1, 1) := by decide +kernel
theorem dX10_lowest_83 : decode cX10_lowest 83 = .ok (.imul, 1) := by decide +kernel
theorem dX10_lowest_84 : decode cX10_lowest 84 = .ok (.invokevirtual 82, 3) := by decide +kernel
theorem dX10_lowest_87 : decode cX10_lowest 87 = .ok (.aload_n 0, 1) := by decide +kernel
theorem dX10_lowest_88 : decode cX10_lowest 88 = .ok (.iconst 2, 1) := by decide +kernel
theorem dX10_lowest_89 : decode cX10_lowest 89 = .ok (.iload_n 1, 1) := by decide +kernel
theorem dX10_lowest_90 : decode cX10_lowest 90 = .ok (.imul, 1) := by decide +kernel
theorem dX10_lowest_91 : decode cX10_lowest 91 = .ok (.iconst 1, 1) := by decide +kernel
theorem dX10_lowest_92 : decode cX10_lowest 92 = .ok (.iadd, 1) := by decide +kernel
theorem dX10_lowest_93 : decode cX10_lowest 93 = .ok (.sipush 235, 3) := by decide +kernel
theorem dX10_lowest_96 : decode cX10_lowest 96 = .ok (.sipush 229, 3) := by decide +kernel
theorem dX10_lowest_99 : decode cX10_lowest 99 = .ok (.sipush 230, 3) := by decide +kernel
theorem dX10_lowest_102 : decode cX10_lowest 102 = .ok (.invokevirtual 98, 3) := by decide +kernel
theorem dX10_lowest_105 : decode cX10_lowest 105 = .ok (.aload_n 0, 1) := by decide +kernel
theorem dX10_lowest_106 : decode cX10_lowest 106 = .ok (.sipush 229, 3) := by decide +kernel
theorem dX10_lowest_109 : decode cX10_lowest 109 = .ok (.iconst 2, 1) := by decide +kernel
theorem dX10_lowest_110 : decode cX10_lowest 110 = .ok (.iload_n 1, 1) := by decide +kernel
theorem dX10_lowest_111 : decode cX10_lowest 111 = .ok (.imul, 1) := by decide +kernel
theorem dX10_lowest_112 : decode cX10_lowest 112 = .ok (.iconst 1, 1) := by decide +kernel
theorem dX10_lowest_113 : decode cX10_lowest 113 = .ok (.iadd, 1) := by decide +kernel
theorem dX10_lowest_114 : decode cX10_lowest 114 = .ok (.invokevirtual 82, 3) := by decide +kernel
theorem dX10_lowest_117 : decode cX10_lowest 117 = .ok (.aload_n 0, 1) := by decide +kernel
theorem dX10_lowest_118 : decode cX10_lowest 118 = .ok (.iconst 2, 1) := by decide +kernel
theorem dX10_lowest_119 : decode cX10_lowest 119 = .ok (.iload_n 1, 1) := by decide +kernel
theorem dX10_lowest_120 : decode cX10_lowest 120 = .ok (.imul, 1) := by decide +kernel
theorem dX10_lowest_121 : decode cX10_lowest 121 = .ok (.invokevirtual 65, 3) := by decide +kernel
theorem dX10_lowest_124 : decode cX10_lowest 124 = .ok (.sipush 192, 3) := by decide +kernel
theorem dX10_lowest_127 : decode cX10_lowest 127 = .ok (.if_icmp .gt 22, 3) := by decide +kernel
theorem dX10_lowest_130 : decode cX10_lowest 130 = .ok (.aload_n 0, 1) := by decide +kernel
theorem dX10_lowest_131 : decode cX10_lowest 131 = .ok (.iconst 2, 1) := by decide +kernel
theorem dX10_lowest_132 : decode cX10_lowest 132 = .ok (.iload_n 1, 1) := by decide +kernel
theorem dX10_lowest_133 : decode cX10_lowest 133 = .ok (.imul, 1) := by decide +kernel
theorem dX10_lowest_134 : decode cX10_lowest 134 = .ok (.iconst 1, 1) := by decide +kernel
theorem dX10_lowest_135 : decode cX10_lowest 135 = .ok (.iadd, 1) := by decide +kernel
theorem dX10_lowest_136 : decode cX10_lowest 136 = .ok (.invokevirtual 65, 3) := by decide +kernel
theorem dX10_lowest_139 : decode cX10_lowest 139 = .ok (.sipush 192, 3) := by decide +kernel
theorem dX10_lowest_142 : decode cX10_lowest 142 = .ok (.if_icmp .gt 7, 3) := by decide +kernel
theorem dX10_lowest_145 : decode cX10_lowest 145 = .ok (.iconst 1, 1) := by decide +kernel
theorem dX10_lowest_146 : decode cX10_lowest 146 = .ok (.goto 4, 3) := by decide +kernel
theorem dX10_lowest_149 : decode cX10_lowest 149 = .ok (.iconst 0, 1) := by decide +kernel
theorem dX10_lowest_150 : decode cX10_lowest 150 = .ok (.ireturn, 1) := by decide +kernel
theorem dX10_total_0 : decode cX10_total 0 = .ok (.aload_n 0, 1) := by decide +kernel
theorem dX10_total_1 : decode cX10_total 1 = .ok (.iconst 2, 1) := by decide +kernel
theorem dX10_total_2 : decode cX10_total 2 = .ok (.iload_n 1, 1) := by decide +kernel
theorem dX10_total_3 : decode cX10_total 3 = .ok (.imul, 1) := by decide +kernel
theorem dX10_total_4 : decode cX10_total 4 = .ok (.iconst 2, 1) := by decide +kernel
theorem dX10_total_5 : decode cX10_total 5 = .ok (.iload_n 2, 1) := by decide +kernel
theorem dX10_total_6 : decode cX10_total 6 = .ok (.imul, 1) := by decide +kernel
theorem dX10_total_7 : decode cX10_total 7 = .ok (.iconst 1, 1) := by decide +kernel
theorem dX10_total_8 : decode cX10_total 8 = .ok (.iadd, 1) := by decide +kernel
theorem dX10_total_9 : decode cX10_total 9 = .ok (.sipush 224, 3) := by decide +kernel
theorem dX10_total_12 : decode cX10_total 12 = .ok (.invokevirtual 102, 3) := by decide +kernel
theorem dX10_total_15 : decode cX10_total 15 = .ok (.aload_n 0, 1) := by decide +kernel
theorem dX10_total_16 : decode cX10_total 16 = .ok (.iconst 2, 1) := by decide +kernel
theorem dX10_total_17 : decode cX10_total 17 = .ok (.iload_n 2, 1) := by decide +kernel
theorem dX10_total_18 : decode cX10_total 18 = .ok (.imul, 1) := by decide +kernel
theorem dX10_total_19 : decode cX10_total 19 = .ok (.iconst 2, 1) := by decide +kernel
theorem dX10_total_20 : decode cX10_total 20 = .ok (.iload_n 1, 1) := by decide +kernel
theorem dX10_total_21 : decode cX10_total 21 = .ok (.imul, 1) := by decide +kernel
theorem dX10_total_22 : decode cX10_total 22 = .ok (.iconst 1, 1) := by decide +kernel
theorem dX10_total_23 : decode cX10_total 23 = .ok (.iadd, 1) := by decide +kernel
theorem dX10_total_24 : decode cX10_total 24 = .ok (.sipush 225, 3) := by decide +kernel
theorem dX10_total_27 : decode cX10_total 27 = .ok (.invokevirtual 102, 3) := by decide +kernel
theorem dX10_total_30 : decode cX10_total 30 = .ok (.aload_n 0, 1) := by decide +kernel
theorem dX10_total_31 : decode cX10_total 31 = .ok (.iconst 2, 1) := by decide +kernel
theorem dX10_total_32 : decode cX10_total 32 = .ok (.iload_n 1, 1) := by decide +kernel
theorem dX10_total_33 : decode cX10_total 33 = .ok (.imul, 1) := by decide +kernel
theorem dX10_total_34 : decode cX10_total 34 = .ok (.iconst 1, 1) := by decide +kernel
theorem dX10_total_35 : decode cX10_total 35 = .ok (.iadd, 1) := by decide +kernel
theorem dX10_total_36 : decode cX10_total 36 = .ok (.iconst 2, 1) := by decide +kernel
theorem dX10_total_37 : decode cX10_total 37 = .ok (.iload_n 2, 1) := by decide +kernel
theorem dX10_total_38 : decode cX10_total 38 = .ok (.imul, 1) := by decide +kernel
theorem dX10_total_39 : decode cX10_total 39 = .ok (.iconst 1, 1) := by decide +kernel
theorem dX10_total_40 : decode cX10_total 40 = .ok (.iadd, 1) := by decide +kernel
theorem dX10_total_41 : decode cX10_total 41 = .ok (.sipush 226, 3) := by decide +kernel
theorem dX10_total_44 : decode cX10_total 44 = .ok (.invokevirtual 102, 3) := by decide +kernel
theorem dX10_total_47 : decode cX10_total 47 = .ok (.aload_n 0, 1) := by decide +kernel
theorem dX10_total_48 : decode cX10_total 48 = .ok (.getfield 13, 3) := by decide +kernel
theorem dX10_total_51 : decode cX10_total 51 = .ok (.iload_n 2, 1) := by decide +kernel
theorem dX10_total_52 : decode cX10_total 52 = .ok (.baload, 1) := by decide +kernel
theorem dX10_total_53 : decode cX10_total 53 = .ok (.iload 4, 2) := by decide +kernel
theorem dX10_total_55 : decode cX10_total 55 = .ok (.if_icmp .eq 7, 3) := by decide +kernel
theorem dX10_total_58 : decode cX10_total 58 = .ok (.iconst 1, 1) := by decide +kernel
theorem dX10_total_59 : decode cX10_total 59 = .ok (.goto 4, 3) := by decide +kernel
theorem dX10_total_62 : decode cX10_total 62 = .ok (.iconst 0, 1) := by decide +kernel
theorem dX10_total_63 : decode cX10_total 63 = .ok (.istore 5, 2) := by decide +kernel
theorem dX10_total_65 : decode cX10_total 65 = .ok (.aload_n 0, 1) := by decide +kernel
theorem dX10_total_66 : decode cX10_total 66 = .ok (.getfield 13, 3) := by decide +kernel
theorem dX10_total_69 : decode cX10_total 69 = .ok (.iload_n 1, 1) := by decide +kernel
theorem dX10_total_70 : decode cX10_total 70 = .ok (.baload, 1) := by decide +kernel
theorem dX10_total_71 : decode cX10_total 71 = .ok (.istore 6, 2) := by decide +kernel
theorem dX10_total_73 : decode cX10_total 73 = .ok (.iload 6, 2) := by decide +kernel
theorem dX10_total_75 : decode cX10_total 75 = .ok (.iload 5, 2) := by decide +kernel
theorem dX10_total_77 : decode cX10_total 77 = .ok (.if_icmp .ne 19, 3) := by decide +kernel
theorem dX10_total_80 : decode cX10_total 80 = .ok (.aload_n 0, 1) := by decide +kernel
theorem dX10_total_81 : decode cX10_total 81 = .ok (.sipush 224, 3) := by decide +kernel
theorem dX10_total_84 : decode cX10_total 84 = .ok (.sipush 225, 3) := by decide +kernel
theorem dX10_total_87 : decode cX10_total 87 = .ok (.sipush 224, 3) := by decide +kernel
theorem dX10_total_90 : decode cX10_total 90 = .ok (.invokevirtual 106, 3) := by decide +kernel
theorem dX10_total_93 : decode cX10_total 93 = .ok (.goto 53, 3) := by decide +kernel
theorem dX10_total_96 : decode cX10_total 96 = .ok (.aload_n 0, 1) := by decide +kernel
theorem dX10_total_97 : decode cX10_total 97 = .ok (.sipush 224, 3) := by decide +kernel
theorem dX10_total_100 : decode cX10_total 100 = .ok (.sipush 225, 3) := by decide +kernel
theorem dX10_total_103 : decode cX10_total 103 = .ok (.invokevirtual 76, 3) := by decide +kernel
theorem dX10_total_106 : decode cX10_total 106 = .ok (.ifCond .lt 16, 3) := by decide +kernel
theorem dX10_total_109 : decode cX10_total 109 = .ok (.aload_n 0, 1) := by decide +kernel
theorem dX10_total_110 : decode cX10_total 110 = .ok (.sipush 224, 3) := by decide +kernel
theorem dX10_total_113 : decode cX10_total 113 = .ok (.sipush 225, 3) := by decide +kernel
theorem dX10_total_116 : decode cX10_total 116 = .ok (.invokevirtual 79, 3) := by decide +kernel
theorem dX10_total_119 : decode cX10_total 119 = .ok (.goto 27, 3) := by decide +kernel
theorem dX10_total_122 : decode cX10_total 122 = .ok (.aload_n 0, 1) := by decide +kernel
theorem dX10_total_123 : decode cX10_total 123 = .ok (.sipush 225, 3) := by decide +kernel
theorem dX10_total_126 : decode cX10_total 126 = .ok (.sipush 224, 3) := by decide +kernel
theorem dX10_total_129 : decode cX10_total 129 = .ok (.invokevirtual 79, 3) := by decide +kernel
theorem dX10_total_132 : decode cX10_total 132 = .ok (.aload_n 0, 1) := by decide +kernel
theorem dX10_total_133 : decode cX10_total 133 = .ok (.sipush 225, 3) := by decide +kernel
theorem dX10_total_136 : decode cX10_total 136 = .ok (.sipush 224, 3) := by decide +kernel
theorem dX10_total_139 : decode cX10_total 139 = .ok (.invokevirtual 82, 3) := by decide +kernel
theorem dX10_total_142 : decode cX10_total 142 = .ok (.iload 5, 2) := by decide +kernel
theorem dX10_total_144 : decode cX10_total 144 = .ok (.istore 6, 2) := by decide +kernel
theorem dX10_total_146 : decode cX10_total 146 = .ok (.aload_n 0, 1) := by decide +kernel
theorem dX10_total_147 : decode cX10_total 147 = .ok (.sipush 224, 3) := by decide +kernel
theorem dX10_total_150 : decode cX10_total 150 = .ok (.iconst 2, 1) := by decide +kernel
theorem dX10_total_151 : decode cX10_total 151 = .ok (.iload_n 3, 1) := by decide +kernel
theorem dX10_total_152 : decode cX10_total 152 = .ok (.imul, 1) := by decide +kernel
theorem dX10_total_153 : decode cX10_total 153 = .ok (.invokevirtual 82, 3) := by decide +kernel
theorem dX10_total_156 : decode cX10_total 156 = .ok (.aload_n 0, 1) := by decide +kernel
theorem dX10_total_157 : decode cX10_total 157 = .ok (.sipush 226, 3) := by decide +kernel
theorem dX10_total_160 : decode cX10_total 160 = .ok (.iconst 2, 1) := by decide +kernel
theorem dX10_total_161 : decode cX10_total 161 = .ok (.iload_n 3, 1) := by decide +kernel
theorem dX10_total_162 : decode cX10_total 162 = .ok (.imul, 1) := by decide +kernel
theorem dX10_total_163 : decode cX10_total 163 = .ok (.iconst 1, 1) := by decide +kernel
theorem dX10_total_164 : decode cX10_total 164 = .ok (.iadd, 1) := by decide +kernel
theorem dX10_total_165 : decode cX10_total 165 = .ok (.invokevirtual 82, 3) := by decide +kernel
theorem dX10_total_168 : decode cX10_total 168 = .ok (.aload_n 0, 1) := by decide +kernel
theorem dX10_total_169 : decode cX10_total 169 = .ok (.getfield 13, 3) := by decide +kernel
theorem dX10_total_172 : decode cX10_total 172 = .ok (.iload_n 3, 1) := by decide +kernel
theorem dX10_total_173 : decode cX10_total 173 = .ok (.iload 6, 2) := by decide +kernel
theorem dX10_total_175 : decode cX10_total 175 = .ok (.bastore, 1) := by decide +kernel
theorem dX10_total_176 : decode cX10_total 176 = .ok (.aload_n 0, 1) := by decide +kernel
theorem dX10_total_177 : decode cX10_total 177 = .ok (.iload_n 3, 1) := by decide +kernel
theorem dX10_total_178 : decode cX10_total 178 = .ok (.invokevirtual 109, 3) := by decide +kernel
theorem dX10_total_181 : decode cX10_total 181 = .ok (.ireturn, 1) := by decide +kernel
theorem dX10_product_0 : decode cX10_product 0 = .ok (.aload_n 0, 1) := by decide +kernel
theorem dX10_product_1 : decode cX10_product 1 = .ok (.iconst 2, 1) := by decide +kernel
theorem dX10_product_2 : decode cX10_product 2 = .ok (.iload_n 1, 1) := by decide +kernel
theorem dX10_product_3 : decode cX10_product 3 = .ok (.imul, 1) := by decide +kernel
theorem dX10_product_4 : decode cX10_product 4 = .ok (.iconst 2, 1) := by decide +kernel
theorem dX10_product_5 : decode cX10_product 5 = .ok (.iload_n 2, 1) := by decide +kernel
theorem dX10_product_6 : decode cX10_product 6 = .ok (.imul, 1) := by decide +kernel
theorem dX10_product_7 : decode cX10_product 7 = .ok (.sipush 224, 3) := by decide +kernel
theorem dX10_product_10 : decode cX10_product 10 = .ok (.invokevirtual 102, 3) := by decide +kernel
theorem dX10_product_13 : decode cX10_product 13 = .ok (.aload_n 0, 1) := by decide +kernel
theorem dX10_product_14 : decode cX10_product 14 = .ok (.iconst 2, 1) := by decide +kernel
theorem dX10_product_15 : decode cX10_product 15 = .ok (.iload_n 1, 1) := by decide +kernel
theorem dX10_product_16 : decode cX10_product 16 = .ok (.imul, 1) := by decide +kernel
theorem dX10_product_17 : decode cX10_product 17 = .ok (.iconst 1, 1) := by decide +kernel
theorem dX10_product_18 : decode cX10_product 18 = .ok (.iadd, 1) := by decide +kernel
theorem dX10_product_19 : decode cX10_product 19 = .ok (.iconst 2, 1) := by decide +kernel
theorem dX10_product_20 : decode cX10_product 20 = .ok (.iload_n 2, 1) := by decide +kernel
theorem dX10_product_21 : decode cX10_product 21 = .ok (.imul, 1) := by decide +kernel
theorem dX10_product_22 : decode cX10_product 22 = .ok (.iconst 1, 1) := by decide +kernel
theorem dX10_product_23 : decode cX10_product 23 = .ok (.iadd, 1) := by decide +kernel
theorem dX10_product_24 : decode cX10_product 24 = .ok (.sipush 225, 3) := by decide +kernel
theorem dX10_product_27 : decode cX10_product 27 = .ok (.invokevirtual 102, 3) := by decide +kernel
theorem dX10_product_30 : decode cX10_product 30 = .ok (.aload_n 0, 1) := by decide +kernel
theorem dX10_product_31 : decode cX10_product 31 = .ok (.getfield 13, 3) := by decide +kernel
theorem dX10_product_34 : decode cX10_product 34 = .ok (.iload_n 1, 1) := by decide +kernel
theorem dX10_product_35 : decode cX10_product 35 = .ok (.baload, 1) := by decide +kernel
theorem dX10_product_36 : decode cX10_product 36 = .ok (.aload_n 0, 1) := by decide +kernel
theorem dX10_product_37 : decode cX10_product 37 = .ok (.getfield 13, 3) := by decide +kernel
theorem dX10_product_40 : decode cX10_product 40 = .ok (.iload_n 2, 1) := by decide +kernel
theorem dX10_product_41 : decode cX10_product 41 = .ok (.baload, 1) := by decide +kernel
theorem dX10_product_42 : decode cX10_product 42 = .ok (.if_icmp .eq 7, 3) := by decide +kernel
theorem dX10_product_45 : decode cX10_product 45 = .ok (.iconst 1, 1) := by decide +kernel
theorem dX10_product_46 : decode cX10_product 46 = .ok (.goto 4, 3) := by decide +kernel
theorem dX10_product_49 : decode cX10_product 49 = .ok (.iconst 0, 1) := by decide +kernel
theorem dX10_product_50 : decode cX10_product 50 = .ok (.istore 4, 2) := by decide +kernel
theorem dX10_product_52 : decode cX10_product 52 = .ok (.aload_n 0, 1) := by decide +kernel
theorem dX10_product_53 : decode cX10_product 53 = .ok (.sipush 224, 3) := by decide +kernel
theorem dX10_product_56 : decode cX10_product 56 = .ok (.iconst 2, 1) := by decide +kernel
theorem dX10_product_57 : decode cX10_product 57 = .ok (.iload_n 3, 1) := by decide +kernel
theorem dX10_product_58 : decode cX10_product 58 = .ok (.imul, 1) := by decide +kernel
theorem dX10_product_59 : decode cX10_product 59 = .ok (.invokevirtual 82, 3) := by decide +kernel
theorem dX10_product_62 : decode cX10_product 62 = .ok (.aload_n 0, 1) := by decide +kernel
theorem dX10_product_63 : decode cX10_product 63 = .ok (.sipush 225, 3) := by decide +kernel
theorem dX10_product_66 : decode cX10_product 66 = .ok (.iconst 2, 1) := by decide +kernel
theorem dX10_product_67 : decode cX10_product 67 = .ok (.iload_n 3, 1) := by decide +kernel
theorem dX10_product_68 : decode cX10_product 68 = .ok (.imul, 1) := by decide +kernel
theorem dX10_product_69 : decode cX10_product 69 = .ok (.iconst 1, 1) := by decide +kernel
theorem dX10_product_70 : decode cX10_product 70 = .ok (.iadd, 1) := by decide +kernel
theorem dX10_product_71 : decode cX10_product 71 = .ok (.invokevirtual 82, 3) := by decide +kernel
theorem dX10_product_74 : decode cX10_product 74 = .ok (.aload_n 0, 1) := by decide +kernel
theorem dX10_product_75 : decode cX10_product 75 = .ok (.getfield 13, 3) := by decide +kernel
theorem dX10_product_78 : decode cX10_product 78 = .ok (.iload_n 3, 1) := by decide +kernel
theorem dX10_product_79 : decode cX10_product 79 = .ok (.iload 4, 2) := by decide +kernel
theorem dX10_product_81 : decode cX10_product 81 = .ok (.bastore, 1) := by decide +kernel
theorem dX10_product_82 : decode cX10_product 82 = .ok (.aload_n 0, 1) := by decide +kernel
theorem dX10_product_83 : decode cX10_product 83 = .ok (.iload_n 3, 1) := by decide +kernel
theorem dX10_product_84 : decode cX10_product 84 = .ok (.invokevirtual 109, 3) := by decide +kernel
theorem dX10_product_87 : decode cX10_product 87 = .ok (.ireturn, 1) := by decide +kernel
theorem dX10_ratio_0 : decode cX10_ratio 0 = .ok (.aload_n 0, 1) := by decide +kernel
theorem dX10_ratio_1 : decode cX10_ratio 1 = .ok (.iconst 2, 1) := by decide +kernel
theorem dX10_ratio_2 : decode cX10_ratio 2 = .ok (.iload_n 1, 1) := by decide +kernel
theorem dX10_ratio_3 : decode cX10_ratio 3 = .ok (.imul, 1) := by decide +kernel
theorem dX10_ratio_4 : decode cX10_ratio 4 = .ok (.iconst 2, 1) := by decide +kernel
theorem dX10_ratio_5 : decode cX10_ratio 5 = .ok (.iload_n 2, 1) := by decide +kernel
theorem dX10_ratio_6 : decode cX10_ratio 6 = .ok (.imul, 1) := by decide +kernel
theorem dX10_ratio_7 : decode cX10_ratio 7 = .ok (.iconst 1, 1) := by decide +kernel
theorem dX10_ratio_8 : decode cX10_ratio 8 = .ok (.iadd, 1) := by decide +kernel
theorem dX10_ratio_9 : decode cX10_ratio 9 = .ok (.sipush 224, 3) := by decide +kernel
theorem dX10_ratio_12 : decode cX10_ratio 12 = .ok (.invokevirtual 102, 3) := by decide +kernel
theorem dX10_ratio_15 : decode cX10_ratio 15 = .ok (.aload_n 0, 1) := by decide +kernel
theorem dX10_ratio_16 : decode cX10_ratio 16 = .ok (.iconst 2, 1) := by decide +kernel
theorem dX10_ratio_17 : decode cX10_ratio 17 = .ok (.iload_n 1, 1) := by decide +kernel
theorem dX10_ratio_18 : decode cX10_ratio 18 = .ok (.imul, 1) := by decide +kernel
theorem dX10_ratio_19 : decode cX10_ratio 19 = .ok (.iconst 1, 1) := by decide +kernel
theorem dX10_ratio_20 : decode cX10_ratio 20 = .ok (.iadd, 1) := by decide +kernel
theorem dX10_ratio_21 : decode cX10_ratio 21 = .ok (.iconst 2, 1) := by decide +kernel
theorem dX10_ratio_22 : decode cX10_ratio 22 = .ok (.iload_n 2, 1) := by decide +kernel
theorem dX10_ratio_23 : decode cX10_ratio 23 = .ok (.imul, 1) := by decide +kernel
theorem dX10_ratio_24 : decode cX10_ratio 24 = .ok (.sipush 225, 3) := by decide +kernel
theorem dX10_ratio_27 : decode cX10_ratio 27 = .ok (.invokevirtual 102, 3) := by decide +kernel
theorem dX10_ratio_30 : decode cX10_ratio 30 = .ok (.aload_n 0, 1) := by decide +kernel
theorem dX10_ratio_31 : decode cX10_ratio 31 = .ok (.getfield 13, 3) := by decide +kernel
theorem dX10_ratio_34 : decode cX10_ratio 34 = .ok (.iload_n 1, 1) := by decide +kernel
theorem dX10_ratio_35 : decode cX10_ratio 35 = .ok (.baload, 1) := by decide +kernel
theorem dX10_ratio_36 : decode cX10_ratio 36 = .ok (.aload_n 0, 1) := by decide +kernel
theorem dX10_ratio_37 : decode cX10_ratio 37 = .ok (.getfield 13, 3) := by decide +kernel
theorem dX10_ratio_40 : decode cX10_ratio 40 = .ok (.iload_n 2, 1) := by decide +kernel
theorem dX10_ratio_41 : decode cX10_ratio 41 = .ok (.baload, 1) := by decide +kernel
theorem dX10_ratio_42 : decode cX10_ratio 42 = .ok (.if_icmp .eq 7, 3) := by decide +kernel
theorem dX10_ratio_45 : decode cX10_ratio 45 = .ok (.iconst 1, 1) := by decide +kernel
theorem dX10_ratio_46 : decode cX10_ratio 46 = .ok (.goto 4, 3) := by decide +kernel
theorem dX10_ratio_49 : decode cX10_ratio 49 = .ok (.iconst 0, 1) := by decide +kernel
theorem dX10_ratio_50 : decode cX10_ratio 50 = .ok (.istore 4, 2) := by decide +kernel
theorem dX10_ratio_52 : decode cX10_ratio 52 = .ok (.aload_n 0, 1) := by decide +kernel
theorem dX10_ratio_53 : decode cX10_ratio 53 = .ok (.sipush 224, 3) := by decide +kernel
theorem dX10_ratio_56 : decode cX10_ratio 56 = .ok (.iconst 2, 1) := by decide +kernel
theorem dX10_ratio_57 : decode cX10_ratio 57 = .ok (.iload_n 3, 1) := by decide +kernel
theorem dX10_ratio_58 : decode cX10_ratio 58 = .ok (.imul, 1) := by decide +kernel
theorem dX10_ratio_59 : decode cX10_ratio 59 = .ok (.invokevirtual 82, 3) := by decide +kernel
theorem dX10_ratio_62 : decode cX10_ratio 62 = .ok (.aload_n 0, 1) := by decide +kernel
theorem dX10_ratio_63 : decode cX10_ratio 63 = .ok (.sipush 225, 3) := by decide +kernel
theorem dX10_ratio_66 : decode cX10_ratio 66 = .ok (.iconst 2, 1) := by decide +kernel
theorem dX10_ratio_67 : decode cX10_ratio 67 = .ok (.iload_n 3, 1) := by decide +kernel
theorem dX10_ratio_68 : decode cX10_ratio 68 = .ok (.imul, 1) := by decide +kernel
theorem dX10_ratio_69 : decode cX10_ratio 69 = .ok (.iconst 1, 1) := by decide +kernel
theorem dX10_ratio_70 : decode cX10_ratio 70 = .ok (.iadd, 1) := by decide +kernel
theorem dX10_ratio_71 : decode cX10_ratio 71 = .ok (.invokevirtual 82, 3) := by decide +kernel
theorem dX10_ratio_74 : decode cX10_ratio 74 = .ok (.aload_n 0, 1) := by decide +kernel
theorem dX10_ratio_75 : decode cX10_ratio 75 = .ok (.getfield 13, 3) := by decide +kernel
theorem dX10_ratio_78 : decode cX10_ratio 78 = .ok (.iload_n 3, 1) := by decide +kernel
theorem dX10_ratio_79 : decode cX10_ratio 79 = .ok (.iload 4, 2) := by decide +kernel
theorem dX10_ratio_81 : decode cX10_ratio 81 = .ok (.bastore, 1) := by decide +kernel
theorem dX10_ratio_82 : decode cX10_ratio 82 = .ok (.aload_n 0, 1) := by decide +kernel
theorem dX10_ratio_83 : decode cX10_ratio 83 = .ok (.iload_n 3, 1) := by decide +kernel
theorem dX10_ratio_84 : decode cX10_ratio 84 = .ok (.invokevirtual 109, 3) := by decide +kernel
theorem dX10_ratio_87 : decode cX10_ratio 87 = .ok (.ireturn, 1) := by decide +kernel
theorem dX10_setFraction_0 : decode cX10_setFraction 0 = .ok (.aload_n 0, 1) := by decide +kernel
theorem dX10_setFraction_1 : decode cX10_setFraction 1 = .ok (.iconst 2, 1) := by decide +kernel
theorem dX10_setFraction_2 : decode cX10_setFraction 2 = .ok (.iload_n 1, 1) := by decide +kernel
theorem dX10_setFraction_3 : decode cX10_setFraction 3 = .ok (.imul, 1) := by decide +kernel
theorem dX10_setFraction_4 : decode cX10_setFraction 4 = .ok (.lload_n 2, 1) := by decide +kernel
theorem dX10_setFraction_5 : decode cX10_setFraction 5 = .ok (.invokevirtual 112, 3) := by decide +kernel
theorem dX10_setFraction_8 : decode cX10_setFraction 8 = .ok (.aload_n 0, 1) := by decide +kernel
theorem dX10_setFraction_9 : decode cX10_setFraction 9 = .ok (.iconst 2, 1) := by decide +kernel
theorem dX10_setFraction_10 : decode cX10_setFraction 10 = .ok (.iload_n 1, 1) := by decide +kernel
theorem dX10_setFraction_11 : decode cX10_setFraction 11 = .ok (.imul, 1) := by decide +kernel
theorem dX10_setFraction_12 : decode cX10_setFraction 12 = .ok (.iconst 1, 1) := by decide +kernel
theorem dX10_setFraction_13 : decode cX10_setFraction 13 = .ok (.iadd, 1) := by decide +kernel
theorem dX10_setFraction_14 : decode cX10_setFraction 14 = .ok (.lload 4, 2) := by decide +kernel
theorem dX10_setFraction_16 : decode cX10_setFraction 16 = .ok (.invokevirtual 112, 3) := by decide +kernel
theorem dX10_setFraction_19 : decode cX10_setFraction 19 = .ok (.aload_n 0, 1) := by decide +kernel
theorem dX10_setFraction_20 : decode cX10_setFraction 20 = .ok (.getfield 13, 3) := by decide +kernel
theorem dX10_setFraction_23 : decode cX10_setFraction 23 = .ok (.iload_n 1, 1) := by decide +kernel
theorem dX10_setFraction_24 : decode cX10_setFraction 24 = .ok (.lload_n 2, 1) := by decide +kernel
theorem dX10_setFraction_25 : decode cX10_setFraction 25 = .ok (.lconst 0, 1) := by decide +kernel
theorem dX10_setFraction_26 : decode cX10_setFraction 26 = .ok (.lcmp, 1) := by decide +kernel
end
section
theorem dX10_setFraction_27 : decode cX10_setFraction 27 = .ok (.ifCond .ge 7, 3) := by decide +kernel
theorem dX10_setFraction_30 : decode cX10_setFraction 30 = .ok (.iconst 1, 1) := by decide +kernel
theorem dX10_setFraction_31 : decode cX10_setFraction 31 = .ok (.goto 4, 3) := by decide +kernel
theorem dX10_setFraction_34 : decode cX10_setFraction 34 = .ok (.iconst 0, 1) := by decide +kernel
theorem dX10_setFraction_35 : decode cX10_setFraction 35 = .ok (.lload 4, 2) := by decide +kernel
theorem dX10_setFraction_37 : decode cX10_setFraction 37 = .ok (.lconst 0, 1) := by decide +kernel
theorem dX10_setFraction_38 : decode cX10_setFraction 38 = .ok (.lcmp, 1) := by decide +kernel
theorem dX10_setFraction_39 : decode cX10_setFraction 39 = .ok (.ifCond .ge 7, 3) := by decide +kernel
theorem dX10_setFraction_42 : decode cX10_setFraction 42 = .ok (.iconst 1, 1) := by decide +kernel
theorem dX10_setFraction_43 : decode cX10_setFraction 43 = .ok (.goto 4, 3) := by decide +kernel
theorem dX10_setFraction_46 : decode cX10_setFraction 46 = .ok (.iconst 0, 1) := by decide +kernel
theorem dX10_setFraction_47 : decode cX10_setFraction 47 = .ok (.if_icmp .eq 7, 3) := by decide +kernel
theorem dX10_setFraction_50 : decode cX10_setFraction 50 = .ok (.iconst 1, 1) := by decide +kernel
theorem dX10_setFraction_51 : decode cX10_setFraction 51 = .ok (.goto 4, 3) := by decide +kernel
theorem dX10_setFraction_54 : decode cX10_setFraction 54 = .ok (.iconst 0, 1) := by decide +kernel
theorem dX10_setFraction_55 : decode cX10_setFraction 55 = .ok (.bastore, 1) := by decide +kernel
theorem dX10_setFraction_56 : decode cX10_setFraction 56 = .ok (.aload_n 0, 1) := by decide +kernel
theorem dX10_setFraction_57 : decode cX10_setFraction 57 = .ok (.iload_n 1, 1) := by decide +kernel
theorem dX10_setFraction_58 : decode cX10_setFraction 58 = .ok (.invokevirtual 109, 3) := by decide +kernel
theorem dX10_setFraction_61 : decode cX10_setFraction 61 = .ok (.istore 6, 2) := by decide +kernel
theorem dX10_setFraction_63 : decode cX10_setFraction 63 = .ok (.return_, 1) := by decide +kernel
theorem dX10_isIn_0 : decode cX10_isIn 0 = .ok (.iload_n 0, 1) := by decide +kernel
theorem dX10_isIn_1 : decode cX10_isIn 1 = .ok (.iload_n 1, 1) := by decide +kernel
theorem dX10_isIn_2 : decode cX10_isIn 2 = .ok (.if_icmp .lt 12, 3) := by decide +kernel
theorem dX10_isIn_5 : decode cX10_isIn 5 = .ok (.iload_n 0, 1) := by decide +kernel
theorem dX10_isIn_6 : decode cX10_isIn 6 = .ok (.iload_n 2, 1) := by decide +kernel
theorem dX10_isIn_7 : decode cX10_isIn 7 = .ok (.if_icmp .gt 7, 3) := by decide +kernel
theorem dX10_isIn_10 : decode cX10_isIn 10 = .ok (.iconst 1, 1) := by decide +kernel
theorem dX10_isIn_11 : decode cX10_isIn 11 = .ok (.goto 4, 3) := by decide +kernel
theorem dX10_isIn_14 : decode cX10_isIn 14 = .ok (.iconst 0, 1) := by decide +kernel
theorem dX10_isIn_15 : decode cX10_isIn 15 = .ok (.ireturn, 1) := by decide +kernel
theorem dX10_isNumber_0 : decode cX10_isNumber 0 = .ok (.iload_n 1, 1) := by decide +kernel
theorem dX10_isNumber_1 : decode cX10_isNumber 1 = .ok (.iconst 0, 1) := by decide +kernel
theorem dX10_isNumber_2 : decode cX10_isNumber 2 = .ok (.aload_n 0, 1) := by decide +kernel
theorem dX10_isNumber_3 : decode cX10_isNumber 3 = .ok (.getfield 116, 3) := by decide +kernel
theorem dX10_isNumber_6 : decode cX10_isNumber 6 = .ok (.iconst 1, 1) := by decide +kernel
theorem dX10_isNumber_7 : decode cX10_isNumber 7 = .ok (.isub, 1) := by decide +kernel
theorem dX10_isNumber_8 : decode cX10_isNumber 8 = .ok (.invokestatic 119, 3) := by decide +kernel
theorem dX10_isNumber_11 : decode cX10_isNumber 11 = .ok (.ireturn, 1) := by decide +kernel
theorem dX10_grew_0 : decode cX10_grew 0 = .ok (.aload_n 0, 1) := by decide +kernel
theorem dX10_grew_1 : decode cX10_grew 1 = .ok (.dup, 1) := by decide +kernel
theorem dX10_grew_2 : decode cX10_grew 2 = .ok (.getfield 123, 3) := by decide +kernel
theorem dX10_grew_5 : decode cX10_grew 5 = .ok (.iconst 1, 1) := by decide +kernel
theorem dX10_grew_6 : decode cX10_grew 6 = .ok (.iadd, 1) := by decide +kernel
theorem dX10_grew_7 : decode cX10_grew 7 = .ok (.putfield 123, 3) := by decide +kernel
theorem dX10_grew_10 : decode cX10_grew 10 = .ok (.bipush (-3), 2) := by decide +kernel
theorem dX10_grew_12 : decode cX10_grew 12 = .ok (.ireturn, 1) := by decide +kernel
theorem dX10_kept_0 : decode cX10_kept 0 = .ok (.aload_n 0, 1) := by decide +kernel
theorem dX10_kept_1 : decode cX10_kept 1 = .ok (.dup, 1) := by decide +kernel
theorem dX10_kept_2 : decode cX10_kept 2 = .ok (.getfield 116, 3) := by decide +kernel
theorem dX10_kept_5 : decode cX10_kept 5 = .ok (.iconst 1, 1) := by decide +kernel
theorem dX10_kept_6 : decode cX10_kept 6 = .ok (.iadd, 1) := by decide +kernel
theorem dX10_kept_7 : decode cX10_kept 7 = .ok (.putfield 116, 3) := by decide +kernel
theorem dX10_kept_10 : decode cX10_kept 10 = .ok (.aload_n 0, 1) := by decide +kernel
theorem dX10_kept_11 : decode cX10_kept 11 = .ok (.getfield 116, 3) := by decide +kernel
theorem dX10_kept_14 : decode cX10_kept 14 = .ok (.iconst 1, 1) := by decide +kernel
theorem dX10_kept_15 : decode cX10_kept 15 = .ok (.isub, 1) := by decide +kernel
theorem dX10_kept_16 : decode cX10_kept 16 = .ok (.ireturn, 1) := by decide +kernel
theorem dX10_asNumber_0 : decode cX10_asNumber 0 = .ok (.aload_n 0, 1) := by decide +kernel
theorem dX10_asNumber_1 : decode cX10_asNumber 1 = .ok (.iload_n 1, 1) := by decide +kernel
theorem dX10_asNumber_2 : decode cX10_asNumber 2 = .ok (.aload_n 0, 1) := by decide +kernel
theorem dX10_asNumber_3 : decode cX10_asNumber 3 = .ok (.getfield 116, 3) := by decide +kernel
theorem dX10_asNumber_6 : decode cX10_asNumber 6 = .ok (.invokevirtual 126, 3) := by decide +kernel
theorem dX10_asNumber_9 : decode cX10_asNumber 9 = .ok (.aload_n 0, 1) := by decide +kernel
theorem dX10_asNumber_10 : decode cX10_asNumber 10 = .ok (.invokevirtual 129, 3) := by decide +kernel
theorem dX10_asNumber_13 : decode cX10_asNumber 13 = .ok (.ireturn, 1) := by decide +kernel
theorem dX10_value_0 : decode cX10_value 0 = .ok (.aload_n 0, 1) := by decide +kernel
theorem dX10_value_1 : decode cX10_value 1 = .ok (.iconst 0, 1) := by decide +kernel
theorem dX10_value_2 : decode cX10_value 2 = .ok (.putfield 52, 3) := by decide +kernel
theorem dX10_value_5 : decode cX10_value 5 = .ok (.lload_n 3, 1) := by decide +kernel
theorem dX10_value_6 : decode cX10_value 6 = .ok (.lconst 0, 1) := by decide +kernel
theorem dX10_value_7 : decode cX10_value 7 = .ok (.lcmp, 1) := by decide +kernel
theorem dX10_value_8 : decode cX10_value 8 = .ok (.ifCond .ne 6, 3) := by decide +kernel
theorem dX10_value_11 : decode cX10_value 11 = .ok (.bipush (-2), 2) := by decide +kernel
theorem dX10_value_13 : decode cX10_value 13 = .ok (.ireturn, 1) := by decide +kernel
theorem dX10_value_14 : decode cX10_value 14 = .ok (.aload_n 0, 1) := by decide +kernel
theorem dX10_value_15 : decode cX10_value 15 = .ok (.getfield 116, 3) := by decide +kernel
theorem dX10_value_18 : decode cX10_value 18 = .ok (.bipush 40, 2) := by decide +kernel
theorem dX10_value_20 : decode cX10_value 20 = .ok (.if_icmp .ne 6, 3) := by decide +kernel
theorem dX10_value_23 : decode cX10_value 23 = .ok (.bipush (-4), 2) := by decide +kernel
theorem dX10_value_25 : decode cX10_value 25 = .ok (.ireturn, 1) := by decide +kernel
theorem dX10_value_26 : decode cX10_value 26 = .ok (.aload_n 0, 1) := by decide +kernel
theorem dX10_value_27 : decode cX10_value 27 = .ok (.aload_n 0, 1) := by decide +kernel
theorem dX10_value_28 : decode cX10_value 28 = .ok (.getfield 116, 3) := by decide +kernel
theorem dX10_value_31 : decode cX10_value 31 = .ok (.lload_n 1, 1) := by decide +kernel
theorem dX10_value_32 : decode cX10_value 32 = .ok (.lload_n 3, 1) := by decide +kernel
theorem dX10_value_33 : decode cX10_value 33 = .ok (.invokevirtual 133, 3) := by decide +kernel
theorem dX10_value_36 : decode cX10_value 36 = .ok (.aload_n 0, 1) := by decide +kernel
theorem dX10_value_37 : decode cX10_value 37 = .ok (.invokevirtual 129, 3) := by decide +kernel
theorem dX10_value_40 : decode cX10_value 40 = .ok (.ireturn, 1) := by decide +kernel
theorem dX10_act_0 : decode cX10_act 0 = .ok (.aload_n 0, 1) := by decide +kernel
theorem dX10_act_1 : decode cX10_act 1 = .ok (.iconst 0, 1) := by decide +kernel
theorem dX10_act_2 : decode cX10_act 2 = .ok (.putfield 52, 3) := by decide +kernel
theorem dX10_act_5 : decode cX10_act 5 = .ok (.iload_n 1, 1) := by decide +kernel
theorem dX10_act_6 : decode cX10_act 6 = .ok (.iconst 0, 1) := by decide +kernel
theorem dX10_act_7 : decode cX10_act 7 = .ok (.iconst 3, 1) := by decide +kernel
theorem dX10_act_8 : decode cX10_act 8 = .ok (.invokestatic 119, 3) := by decide +kernel
theorem dX10_act_11 : decode cX10_act 11 = .ok (.ifCond .eq 19, 3) := by decide +kernel
theorem dX10_act_14 : decode cX10_act 14 = .ok (.aload_n 0, 1) := by decide +kernel
theorem dX10_act_15 : decode cX10_act 15 = .ok (.iload_n 2, 1) := by decide +kernel
theorem dX10_act_16 : decode cX10_act 16 = .ok (.invokevirtual 137, 3) := by decide +kernel
theorem dX10_act_19 : decode cX10_act 19 = .ok (.ifCond .eq 11, 3) := by decide +kernel
theorem dX10_act_22 : decode cX10_act 22 = .ok (.aload_n 0, 1) := by decide +kernel
theorem dX10_act_23 : decode cX10_act 23 = .ok (.iload_n 3, 1) := by decide +kernel
theorem dX10_act_24 : decode cX10_act 24 = .ok (.invokevirtual 137, 3) := by decide +kernel
theorem dX10_act_27 : decode cX10_act 27 = .ok (.ifCond .ne 5, 3) := by decide +kernel
theorem dX10_act_30 : decode cX10_act 30 = .ok (.iconst (-1), 1) := by decide +kernel
theorem dX10_act_31 : decode cX10_act 31 = .ok (.ireturn, 1) := by decide +kernel
theorem dX10_act_32 : decode cX10_act 32 = .ok (.aload_n 0, 1) := by decide +kernel
theorem dX10_act_33 : decode cX10_act 33 = .ok (.getfield 116, 3) := by decide +kernel
theorem dX10_act_36 : decode cX10_act 36 = .ok (.bipush 40, 2) := by decide +kernel
theorem dX10_act_38 : decode cX10_act 38 = .ok (.if_icmp .ne 6, 3) := by decide +kernel
theorem dX10_act_41 : decode cX10_act 41 = .ok (.bipush (-4), 2) := by decide +kernel
theorem dX10_act_43 : decode cX10_act 43 = .ok (.ireturn, 1) := by decide +kernel
theorem dX10_act_44 : decode cX10_act 44 = .ok (.iload_n 1, 1) := by decide +kernel
theorem dX10_act_45 : decode cX10_act 45 = .ok (.iconst 3, 1) := by decide +kernel
theorem dX10_act_46 : decode cX10_act 46 = .ok (.if_icmp .ne 14, 3) := by decide +kernel
theorem dX10_act_49 : decode cX10_act 49 = .ok (.aload_n 0, 1) := by decide +kernel
theorem dX10_act_50 : decode cX10_act 50 = .ok (.iload_n 3, 1) := by decide +kernel
theorem dX10_act_51 : decode cX10_act 51 = .ok (.invokevirtual 92, 3) := by decide +kernel
theorem dX10_act_54 : decode cX10_act 54 = .ok (.ifCond .eq 6, 3) := by decide +kernel
theorem dX10_act_57 : decode cX10_act 57 = .ok (.bipush (-2), 2) := by decide +kernel
theorem dX10_act_59 : decode cX10_act 59 = .ok (.ireturn, 1) := by decide +kernel
theorem dX10_act_60 : decode cX10_act 60 = .ok (.iload_n 1, 1) := by decide +kernel
theorem dX10_act_61 : decode cX10_act 61 = .ok (.iconst 2, 1) := by decide +kernel
theorem dX10_act_62 : decode cX10_act 62 = .ok (.if_icmp .ge 24, 3) := by decide +kernel
theorem dX10_act_65 : decode cX10_act 65 = .ok (.aload_n 0, 1) := by decide +kernel
theorem dX10_act_66 : decode cX10_act 66 = .ok (.iload_n 2, 1) := by decide +kernel
theorem dX10_act_67 : decode cX10_act 67 = .ok (.iload_n 3, 1) := by decide +kernel
theorem dX10_act_68 : decode cX10_act 68 = .ok (.bipush 105, 2) := by decide +kernel
theorem dX10_act_70 : decode cX10_act 70 = .ok (.iload_n 1, 1) := by decide +kernel
theorem dX10_act_71 : decode cX10_act 71 = .ok (.iconst 1, 1) := by decide +kernel
theorem dX10_act_72 : decode cX10_act 72 = .ok (.if_icmp .ne 7, 3) := by decide +kernel
theorem dX10_act_75 : decode cX10_act 75 = .ok (.iconst 1, 1) := by decide +kernel
theorem dX10_act_76 : decode cX10_act 76 = .ok (.goto 4, 3) := by decide +kernel
theorem dX10_act_79 : decode cX10_act 79 = .ok (.iconst 0, 1) := by decide +kernel
theorem dX10_act_80 : decode cX10_act 80 = .ok (.invokevirtual 140, 3) := by decide +kernel
theorem dX10_act_83 : decode cX10_act 83 = .ok (.goto 27, 3) := by decide +kernel
theorem dX10_act_86 : decode cX10_act 86 = .ok (.iload_n 1, 1) := by decide +kernel
theorem dX10_act_87 : decode cX10_act 87 = .ok (.iconst 2, 1) := by decide +kernel
theorem dX10_act_88 : decode cX10_act 88 = .ok (.if_icmp .ne 14, 3) := by decide +kernel
theorem dX10_act_91 : decode cX10_act 91 = .ok (.aload_n 0, 1) := by decide +kernel
theorem dX10_act_92 : decode cX10_act 92 = .ok (.iload_n 2, 1) := by decide +kernel
theorem dX10_act_93 : decode cX10_act 93 = .ok (.iload_n 3, 1) := by decide +kernel
theorem dX10_act_94 : decode cX10_act 94 = .ok (.bipush 105, 2) := by decide +kernel
theorem dX10_act_96 : decode cX10_act 96 = .ok (.invokevirtual 144, 3) := by decide +kernel
theorem dX10_act_99 : decode cX10_act 99 = .ok (.goto 11, 3) := by decide +kernel
theorem dX10_act_102 : decode cX10_act 102 = .ok (.aload_n 0, 1) := by decide +kernel
theorem dX10_act_103 : decode cX10_act 103 = .ok (.iload_n 2, 1) := by decide +kernel
theorem dX10_act_104 : decode cX10_act 104 = .ok (.iload_n 3, 1) := by decide +kernel
theorem dX10_act_105 : decode cX10_act 105 = .ok (.bipush 105, 2) := by decide +kernel
theorem dX10_act_107 : decode cX10_act 107 = .ok (.invokevirtual 147, 3) := by decide +kernel
theorem dX10_act_110 : decode cX10_act 110 = .ok (.istore 4, 2) := by decide +kernel
theorem dX10_act_112 : decode cX10_act 112 = .ok (.iload 4, 2) := by decide +kernel
theorem dX10_act_114 : decode cX10_act 114 = .ok (.ifCond .eq 12, 3) := by decide +kernel
theorem dX10_act_117 : decode cX10_act 117 = .ok (.aload_n 0, 1) := by decide +kernel
theorem dX10_act_118 : decode cX10_act 118 = .ok (.bipush 105, 2) := by decide +kernel
theorem dX10_act_120 : decode cX10_act 120 = .ok (.invokevirtual 150, 3) := by decide +kernel
theorem dX10_act_123 : decode cX10_act 123 = .ok (.goto 7, 3) := by decide +kernel
theorem dX10_act_126 : decode cX10_act 126 = .ok (.aload_n 0, 1) := by decide +kernel
theorem dX10_act_127 : decode cX10_act 127 = .ok (.invokevirtual 153, 3) := by decide +kernel
theorem dX10_act_130 : decode cX10_act 130 = .ok (.ireturn, 1) := by decide +kernel
theorem dX10_quotient_0 : decode cX10_quotient 0 = .ok (.aload_n 0, 1) := by decide +kernel
theorem dX10_quotient_1 : decode cX10_quotient 1 = .ok (.iconst 0, 1) := by decide +kernel
theorem dX10_quotient_2 : decode cX10_quotient 2 = .ok (.putfield 52, 3) := by decide +kernel
theorem dX10_quotient_5 : decode cX10_quotient 5 = .ok (.aload_n 0, 1) := by decide +kernel
theorem dX10_quotient_6 : decode cX10_quotient 6 = .ok (.iload_n 1, 1) := by decide +kernel
theorem dX10_quotient_7 : decode cX10_quotient 7 = .ok (.invokevirtual 137, 3) := by decide +kernel
theorem dX10_quotient_10 : decode cX10_quotient 10 = .ok (.ifCond .eq 11, 3) := by decide +kernel
theorem dX10_quotient_13 : decode cX10_quotient 13 = .ok (.aload_n 0, 1) := by decide +kernel
theorem dX10_quotient_14 : decode cX10_quotient 14 = .ok (.iload_n 2, 1) := by decide +kernel
theorem dX10_quotient_15 : decode cX10_quotient 15 = .ok (.invokevirtual 137, 3) := by decide +kernel
theorem dX10_quotient_18 : decode cX10_quotient 18 = .ok (.ifCond .ne 5, 3) := by decide +kernel
theorem dX10_quotient_21 : decode cX10_quotient 21 = .ok (.iconst (-1), 1) := by decide +kernel
theorem dX10_quotient_22 : decode cX10_quotient 22 = .ok (.ireturn, 1) := by decide +kernel
theorem dX10_quotient_23 : decode cX10_quotient 23 = .ok (.aload_n 0, 1) := by decide +kernel
theorem dX10_quotient_24 : decode cX10_quotient 24 = .ok (.getfield 116, 3) := by decide +kernel
theorem dX10_quotient_27 : decode cX10_quotient 27 = .ok (.bipush 40, 2) := by decide +kernel
theorem dX10_quotient_29 : decode cX10_quotient 29 = .ok (.if_icmp .ne 6, 3) := by decide +kernel
theorem dX10_quotient_32 : decode cX10_quotient 32 = .ok (.bipush (-4), 2) := by decide +kernel
theorem dX10_quotient_34 : decode cX10_quotient 34 = .ok (.ireturn, 1) := by decide +kernel
theorem dX10_quotient_35 : decode cX10_quotient 35 = .ok (.aload_n 0, 1) := by decide +kernel
theorem dX10_quotient_36 : decode cX10_quotient 36 = .ok (.iload_n 2, 1) := by decide +kernel
theorem dX10_quotient_37 : decode cX10_quotient 37 = .ok (.invokevirtual 92, 3) := by decide +kernel
theorem dX10_quotient_40 : decode cX10_quotient 40 = .ok (.ifCond .eq 10, 3) := by decide +kernel
theorem dX10_quotient_43 : decode cX10_quotient 43 = .ok (.aload_n 0, 1) := by decide +kernel
theorem dX10_quotient_44 : decode cX10_quotient 44 = .ok (.iconst 1, 1) := by decide +kernel
theorem dX10_quotient_45 : decode cX10_quotient 45 = .ok (.putfield 52, 3) := by decide +kernel
theorem dX10_quotient_48 : decode cX10_quotient 48 = .ok (.iconst 0, 1) := by decide +kernel
theorem dX10_quotient_49 : decode cX10_quotient 49 = .ok (.ireturn, 1) := by decide +kernel
theorem dX10_quotient_50 : decode cX10_quotient 50 = .ok (.aload_n 0, 1) := by decide +kernel
theorem dX10_quotient_51 : decode cX10_quotient 51 = .ok (.iload_n 1, 1) := by decide +kernel
theorem dX10_quotient_52 : decode cX10_quotient 52 = .ok (.iload_n 2, 1) := by decide +kernel
theorem dX10_quotient_53 : decode cX10_quotient 53 = .ok (.bipush 105, 2) := by decide +kernel
theorem dX10_quotient_55 : decode cX10_quotient 55 = .ok (.invokevirtual 147, 3) := by decide +kernel
theorem dX10_quotient_58 : decode cX10_quotient 58 = .ok (.ifCond .eq 12, 3) := by decide +kernel
theorem dX10_quotient_61 : decode cX10_quotient 61 = .ok (.aload_n 0, 1) := by decide +kernel
theorem dX10_quotient_62 : decode cX10_quotient 62 = .ok (.bipush 105, 2) := by decide +kernel
theorem dX10_quotient_64 : decode cX10_quotient 64 = .ok (.invokevirtual 150, 3) := by decide +kernel
theorem dX10_quotient_67 : decode cX10_quotient 67 = .ok (.goto 7, 3) := by decide +kernel
theorem dX10_quotient_70 : decode cX10_quotient 70 = .ok (.aload_n 0, 1) := by decide +kernel
theorem dX10_quotient_71 : decode cX10_quotient 71 = .ok (.invokevirtual 153, 3) := by decide +kernel
theorem dX10_quotient_74 : decode cX10_quotient 74 = .ok (.ireturn, 1) := by decide +kernel
theorem dX10_drop_0 : decode cX10_drop 0 = .ok (.aload_n 0, 1) := by decide +kernel
theorem dX10_drop_1 : decode cX10_drop 1 = .ok (.iconst 0, 1) := by decide +kernel
theorem dX10_drop_2 : decode cX10_drop 2 = .ok (.putfield 52, 3) := by decide +kernel
theorem dX10_drop_5 : decode cX10_drop 5 = .ok (.aload_n 0, 1) := by decide +kernel
theorem dX10_drop_6 : decode cX10_drop 6 = .ok (.getfield 116, 3) := by decide +kernel
theorem dX10_drop_9 : decode cX10_drop 9 = .ok (.ifCond .ne 6, 3) := by decide +kernel
theorem dX10_drop_12 : decode cX10_drop 12 = .ok (.bipush (-5), 2) := by decide +kernel
theorem dX10_drop_14 : decode cX10_drop 14 = .ok (.ireturn, 1) := by decide +kernel
theorem dX10_drop_15 : decode cX10_drop 15 = .ok (.aload_n 0, 1) := by decide +kernel
theorem dX10_drop_16 : decode cX10_drop 16 = .ok (.dup, 1) := by decide +kernel
theorem dX10_drop_17 : decode cX10_drop 17 = .ok (.getfield 116, 3) := by decide +kernel
theorem dX10_drop_20 : decode cX10_drop 20 = .ok (.iconst 1, 1) := by decide +kernel
theorem dX10_drop_21 : decode cX10_drop 21 = .ok (.isub, 1) := by decide +kernel
theorem dX10_drop_22 : decode cX10_drop 22 = .ok (.putfield 116, 3) := by decide +kernel
theorem dX10_drop_25 : decode cX10_drop 25 = .ok (.aload_n 0, 1) := by decide +kernel
theorem dX10_drop_26 : decode cX10_drop 26 = .ok (.getfield 116, 3) := by decide +kernel
theorem dX10_drop_29 : decode cX10_drop 29 = .ok (.ireturn, 1) := by decide +kernel
theorem dX10_compare_0 : decode cX10_compare 0 = .ok (.aload_n 0, 1) := by decide +kernel
theorem dX10_compare_1 : decode cX10_compare 1 = .ok (.iconst 0, 1) := by decide +kernel
theorem dX10_compare_2 : decode cX10_compare 2 = .ok (.putfield 52, 3) := by decide +kernel
theorem dX10_compare_5 : decode cX10_compare 5 = .ok (.aload_n 0, 1) := by decide +kernel
theorem dX10_compare_6 : decode cX10_compare 6 = .ok (.iload_n 1, 1) := by decide +kernel
theorem dX10_compare_7 : decode cX10_compare 7 = .ok (.invokevirtual 137, 3) := by decide +kernel
theorem dX10_compare_10 : decode cX10_compare 10 = .ok (.ifCond .eq 11, 3) := by decide +kernel
theorem dX10_compare_13 : decode cX10_compare 13 = .ok (.aload_n 0, 1) := by decide +kernel
theorem dX10_compare_14 : decode cX10_compare 14 = .ok (.iload_n 2, 1) := by decide +kernel
theorem dX10_compare_15 : decode cX10_compare 15 = .ok (.invokevirtual 137, 3) := by decide +kernel
theorem dX10_compare_18 : decode cX10_compare 18 = .ok (.ifCond .ne 6, 3) := by decide +kernel
theorem dX10_compare_21 : decode cX10_compare 21 = .ok (.bipush (-2), 2) := by decide +kernel
theorem dX10_compare_23 : decode cX10_compare 23 = .ok (.ireturn, 1) := by decide +kernel
theorem dX10_compare_24 : decode cX10_compare 24 = .ok (.aload_n 0, 1) := by decide +kernel
theorem dX10_compare_25 : decode cX10_compare 25 = .ok (.getfield 13, 3) := by decide +kernel
theorem dX10_compare_28 : decode cX10_compare 28 = .ok (.iload_n 1, 1) := by decide +kernel
theorem dX10_compare_29 : decode cX10_compare 29 = .ok (.baload, 1) := by decide +kernel
theorem dX10_compare_30 : decode cX10_compare 30 = .ok (.aload_n 0, 1) := by decide +kernel
theorem dX10_compare_31 : decode cX10_compare 31 = .ok (.getfield 13, 3) := by decide +kernel
theorem dX10_compare_34 : decode cX10_compare 34 = .ok (.iload_n 2, 1) := by decide +kernel
theorem dX10_compare_35 : decode cX10_compare 35 = .ok (.baload, 1) := by decide +kernel
theorem dX10_compare_36 : decode cX10_compare 36 = .ok (.if_icmp .eq 18, 3) := by decide +kernel
theorem dX10_compare_39 : decode cX10_compare 39 = .ok (.aload_n 0, 1) := by decide +kernel
theorem dX10_compare_40 : decode cX10_compare 40 = .ok (.getfield 13, 3) := by decide +kernel
theorem dX10_compare_43 : decode cX10_compare 43 = .ok (.iload_n 1, 1) := by decide +kernel
theorem dX10_compare_44 : decode cX10_compare 44 = .ok (.baload, 1) := by decide +kernel
theorem dX10_compare_45 : decode cX10_compare 45 = .ok (.ifCond .eq 7, 3) := by decide +kernel
theorem dX10_compare_48 : decode cX10_compare 48 = .ok (.iconst (-1), 1) := by decide +kernel
theorem dX10_compare_49 : decode cX10_compare 49 = .ok (.goto 4, 3) := by decide +kernel
theorem dX10_compare_52 : decode cX10_compare 52 = .ok (.iconst 1, 1) := by decide +kernel
theorem dX10_compare_53 : decode cX10_compare 53 = .ok (.ireturn, 1) := by decide +kernel
theorem dX10_compare_54 : decode cX10_compare 54 = .ok (.aload_n 0, 1) := by decide +kernel
theorem dX10_compare_55 : decode cX10_compare 55 = .ok (.iconst 2, 1) := by decide +kernel
theorem dX10_compare_56 : decode cX10_compare 56 = .ok (.iload_n 1, 1) := by decide +kernel
theorem dX10_compare_57 : decode cX10_compare 57 = .ok (.imul, 1) := by decide +kernel
theorem dX10_compare_58 : decode cX10_compare 58 = .ok (.iconst 2, 1) := by decide +kernel
theorem dX10_compare_59 : decode cX10_compare 59 = .ok (.iload_n 2, 1) := by decide +kernel
theorem dX10_compare_60 : decode cX10_compare 60 = .ok (.imul, 1) := by decide +kernel
theorem dX10_compare_61 : decode cX10_compare 61 = .ok (.iconst 1, 1) := by decide +kernel
theorem dX10_compare_62 : decode cX10_compare 62 = .ok (.iadd, 1) := by decide +kernel
theorem dX10_compare_63 : decode cX10_compare 63 = .ok (.sipush 224, 3) := by decide +kernel
theorem dX10_compare_66 : decode cX10_compare 66 = .ok (.invokevirtual 102, 3) := by decide +kernel
theorem dX10_compare_69 : decode cX10_compare 69 = .ok (.aload_n 0, 1) := by decide +kernel
theorem dX10_compare_70 : decode cX10_compare 70 = .ok (.iconst 2, 1) := by decide +kernel
theorem dX10_compare_71 : decode cX10_compare 71 = .ok (.iload_n 2, 1) := by decide +kernel
theorem dX10_compare_72 : decode cX10_compare 72 = .ok (.imul, 1) := by decide +kernel
theorem dX10_compare_73 : decode cX10_compare 73 = .ok (.iconst 2, 1) := by decide +kernel
theorem dX10_compare_74 : decode cX10_compare 74 = .ok (.iload_n 1, 1) := by decide +kernel
theorem dX10_compare_75 : decode cX10_compare 75 = .ok (.imul, 1) := by decide +kernel
theorem dX10_compare_76 : decode cX10_compare 76 = .ok (.iconst 1, 1) := by decide +kernel
theorem dX10_compare_77 : decode cX10_compare 77 = .ok (.iadd, 1) := by decide +kernel
theorem dX10_compare_78 : decode cX10_compare 78 = .ok (.sipush 225, 3) := by decide +kernel
theorem dX10_compare_81 : decode cX10_compare 81 = .ok (.invokevirtual 102, 3) := by decide +kernel
theorem dX10_compare_84 : decode cX10_compare 84 = .ok (.aload_n 0, 1) := by decide +kernel
theorem dX10_compare_85 : decode cX10_compare 85 = .ok (.getfield 13, 3) := by decide +kernel
theorem dX10_compare_88 : decode cX10_compare 88 = .ok (.iload_n 1, 1) := by decide +kernel
theorem dX10_compare_89 : decode cX10_compare 89 = .ok (.baload, 1) := by decide +kernel
theorem dX10_compare_90 : decode cX10_compare 90 = .ok (.ifCond .eq 17, 3) := by decide +kernel
theorem dX10_compare_93 : decode cX10_compare 93 = .ok (.aload_n 0, 1) := by decide +kernel
theorem dX10_compare_94 : decode cX10_compare 94 = .ok (.sipush 224, 3) := by decide +kernel
theorem dX10_compare_97 : decode cX10_compare 97 = .ok (.sipush 225, 3) := by decide +kernel
theorem dX10_compare_100 : decode cX10_compare 100 = .ok (.invokevirtual 76, 3) := by decide +kernel
theorem dX10_compare_103 : decode cX10_compare 103 = .ok (.ineg, 1) := by decide +kernel
theorem dX10_compare_104 : decode cX10_compare 104 = .ok (.goto 13, 3) := by decide +kernel
theorem dX10_compare_107 : decode cX10_compare 107 = .ok (.aload_n 0, 1) := by decide +kernel
theorem dX10_compare_108 : decode cX10_compare 108 = .ok (.sipush 224, 3) := by decide +kernel
theorem dX10_compare_111 : decode cX10_compare 111 = .ok (.sipush 225, 3) := by decide +kernel
theorem dX10_compare_114 : decode cX10_compare 114 = .ok (.invokevirtual 76, 3) := by decide +kernel
theorem dX10_compare_117 : decode cX10_compare 117 = .ok (.ireturn, 1) := by decide +kernel
theorem dX10_about_0 : decode cX10_about 0 = .ok (.aload_n 0, 1) := by decide +kernel
theorem dX10_about_1 : decode cX10_about 1 = .ok (.iconst 0, 1) := by decide +kernel
theorem dX10_about_2 : decode cX10_about 2 = .ok (.putfield 52, 3) := by decide +kernel
theorem dX10_about_5 : decode cX10_about 5 = .ok (.aload_n 0, 1) := by decide +kernel
theorem dX10_about_6 : decode cX10_about 6 = .ok (.iload_n 1, 1) := by decide +kernel
theorem dX10_about_7 : decode cX10_about 7 = .ok (.invokevirtual 137, 3) := by decide +kernel
theorem dX10_about_10 : decode cX10_about 10 = .ok (.ifCond .eq 12, 3) := by decide +kernel
theorem dX10_about_13 : decode cX10_about 13 = .ok (.iload_n 2, 1) := by decide +kernel
theorem dX10_about_14 : decode cX10_about 14 = .ok (.iconst 0, 1) := by decide +kernel
theorem dX10_about_15 : decode cX10_about 15 = .ok (.iconst 3, 1) := by decide +kernel
theorem dX10_about_16 : decode cX10_about 16 = .ok (.invokestatic 119, 3) := by decide +kernel
theorem dX10_about_19 : decode cX10_about 19 = .ok (.ifCond .ne 5, 3) := by decide +kernel
theorem dX10_about_22 : decode cX10_about 22 = .ok (.iconst (-1), 1) := by decide +kernel
theorem dX10_about_23 : decode cX10_about 23 = .ok (.ireturn, 1) := by decide +kernel
theorem dX10_about_24 : decode cX10_about 24 = .ok (.iload_n 2, 1) := by decide +kernel
theorem dX10_about_25 : decode cX10_about 25 = .ok (.ifCond .ne 20, 3) := by decide +kernel
theorem dX10_about_28 : decode cX10_about 28 = .ok (.aload_n 0, 1) := by decide +kernel
theorem dX10_about_29 : decode cX10_about 29 = .ok (.getfield 13, 3) := by decide +kernel
theorem dX10_about_32 : decode cX10_about 32 = .ok (.iload_n 1, 1) := by decide +kernel
theorem dX10_about_33 : decode cX10_about 33 = .ok (.baload, 1) := by decide +kernel
theorem dX10_about_34 : decode cX10_about 34 = .ok (.ifCond .eq 7, 3) := by decide +kernel
theorem dX10_about_37 : decode cX10_about 37 = .ok (.iconst 1, 1) := by decide +kernel
theorem dX10_about_38 : decode cX10_about 38 = .ok (.goto 37, 3) := by decide +kernel
theorem dX10_about_41 : decode cX10_about 41 = .ok (.iconst 0, 1) := by decide +kernel
theorem dX10_about_42 : decode cX10_about 42 = .ok (.goto 33, 3) := by decide +kernel
theorem dX10_about_45 : decode cX10_about 45 = .ok (.iload_n 2, 1) := by decide +kernel
theorem dX10_about_46 : decode cX10_about 46 = .ok (.iconst 3, 1) := by decide +kernel
theorem dX10_about_47 : decode cX10_about 47 = .ok (.if_icmp .ne 11, 3) := by decide +kernel
theorem dX10_about_50 : decode cX10_about 50 = .ok (.aload_n 0, 1) := by decide +kernel
theorem dX10_about_51 : decode cX10_about 51 = .ok (.iload_n 1, 1) := by decide +kernel
theorem dX10_about_52 : decode cX10_about 52 = .ok (.invokevirtual 156, 3) := by decide +kernel
theorem dX10_about_55 : decode cX10_about 55 = .ok (.goto 20, 3) := by decide +kernel
theorem dX10_about_58 : decode cX10_about 58 = .ok (.aload_n 0, 1) := by decide +kernel
theorem dX10_about_59 : decode cX10_about 59 = .ok (.iconst 2, 1) := by decide +kernel
theorem dX10_about_60 : decode cX10_about 60 = .ok (.iload_n 1, 1) := by decide +kernel
theorem dX10_about_61 : decode cX10_about 61 = .ok (.imul, 1) := by decide +kernel
theorem dX10_about_62 : decode cX10_about 62 = .ok (.iload_n 2, 1) := by decide +kernel
theorem dX10_about_63 : decode cX10_about 63 = .ok (.iadd, 1) := by decide +kernel
theorem dX10_about_64 : decode cX10_about 64 = .ok (.iconst 1, 1) := by decide +kernel
theorem dX10_about_65 : decode cX10_about 65 = .ok (.isub, 1) := by decide +kernel
theorem dX10_about_66 : decode cX10_about 66 = .ok (.invokevirtual 65, 3) := by decide +kernel
theorem dX10_about_69 : decode cX10_about 69 = .ok (.bipush 31, 2) := by decide +kernel
theorem dX10_about_71 : decode cX10_about 71 = .ok (.iadd, 1) := by decide +kernel
theorem dX10_about_72 : decode cX10_about 72 = .ok (.bipush 32, 2) := by decide +kernel
theorem dX10_about_74 : decode cX10_about 74 = .ok (.idiv, 1) := by decide +kernel
theorem dX10_about_75 : decode cX10_about 75 = .ok (.ireturn, 1) := by decide +kernel
theorem dX10_limb_0 : decode cX10_limb 0 = .ok (.aload_n 0, 1) := by decide +kernel
theorem dX10_limb_1 : decode cX10_limb 1 = .ok (.iconst 0, 1) := by decide +kernel
theorem dX10_limb_2 : decode cX10_limb 2 = .ok (.putfield 52, 3) := by decide +kernel
theorem dX10_limb_5 : decode cX10_limb 5 = .ok (.aload_n 0, 1) := by decide +kernel
theorem dX10_limb_6 : decode cX10_limb 6 = .ok (.iload_n 1, 1) := by decide +kernel
theorem dX10_limb_7 : decode cX10_limb 7 = .ok (.invokevirtual 137, 3) := by decide +kernel
theorem dX10_limb_10 : decode cX10_limb 10 = .ok (.ifCond .eq 37, 3) := by decide +kernel
theorem dX10_limb_13 : decode cX10_limb 13 = .ok (.iload_n 2, 1) := by decide +kernel
theorem dX10_limb_14 : decode cX10_limb 14 = .ok (.iconst 0, 1) := by decide +kernel
theorem dX10_limb_15 : decode cX10_limb 15 = .ok (.iconst 1, 1) := by decide +kernel
theorem dX10_limb_16 : decode cX10_limb 16 = .ok (.invokestatic 119, 3) := by decide +kernel
theorem dX10_limb_19 : decode cX10_limb 19 = .ok (.ifCond .eq 28, 3) := by decide +kernel
theorem dX10_limb_22 : decode cX10_limb 22 = .ok (.iload_n 3, 1) := by decide +kernel
theorem dX10_limb_23 : decode cX10_limb 23 = .ok (.iconst 0, 1) := by decide +kernel
theorem dX10_limb_24 : decode cX10_limb 24 = .ok (.aload_n 0, 1) := by decide +kernel
theorem dX10_limb_25 : decode cX10_limb 25 = .ok (.iconst 2, 1) := by decide +kernel
theorem dX10_limb_26 : decode cX10_limb 26 = .ok (.iload_n 1, 1) := by decide +kernel
theorem dX10_limb_27 : decode cX10_limb 27 = .ok (.imul, 1) := by decide +kernel
theorem dX10_limb_28 : decode cX10_limb 28 = .ok (.iload_n 2, 1) := by decide +kernel
theorem dX10_limb_29 : decode cX10_limb 29 = .ok (.iadd, 1) := by decide +kernel
theorem dX10_limb_30 : decode cX10_limb 30 = .ok (.invokevirtual 65, 3) := by decide +kernel
theorem dX10_limb_33 : decode cX10_limb 33 = .ok (.bipush 31, 2) := by decide +kernel
theorem dX10_limb_35 : decode cX10_limb 35 = .ok (.iadd, 1) := by decide +kernel
theorem dX10_limb_36 : decode cX10_limb 36 = .ok (.bipush 32, 2) := by decide +kernel
theorem dX10_limb_38 : decode cX10_limb 38 = .ok (.idiv, 1) := by decide +kernel
theorem dX10_limb_39 : decode cX10_limb 39 = .ok (.iconst 1, 1) := by decide +kernel
theorem dX10_limb_40 : decode cX10_limb 40 = .ok (.isub, 1) := by decide +kernel
theorem dX10_limb_41 : decode cX10_limb 41 = .ok (.invokestatic 119, 3) := by decide +kernel
theorem dX10_limb_44 : decode cX10_limb 44 = .ok (.ifCond .ne 10, 3) := by decide +kernel
theorem dX10_limb_47 : decode cX10_limb 47 = .ok (.aload_n 0, 1) := by decide +kernel
theorem dX10_limb_48 : decode cX10_limb 48 = .ok (.iconst 1, 1) := by decide +kernel
theorem dX10_limb_49 : decode cX10_limb 49 = .ok (.putfield 52, 3) := by decide +kernel
theorem dX10_limb_52 : decode cX10_limb 52 = .ok (.iconst 0, 1) := by decide +kernel
theorem dX10_limb_53 : decode cX10_limb 53 = .ok (.ireturn, 1) := by decide +kernel
theorem dX10_limb_54 : decode cX10_limb 54 = .ok (.iconst 0, 1) := by decide +kernel
theorem dX10_limb_55 : decode cX10_limb 55 = .ok (.istore 4, 2) := by decide +kernel
theorem dX10_limb_57 : decode cX10_limb 57 = .ok (.iconst 0, 1) := by decide +kernel
theorem dX10_limb_58 : decode cX10_limb 58 = .ok (.istore 5, 2) := by decide +kernel
theorem dX10_limb_60 : decode cX10_limb 60 = .ok (.iload 5, 2) := by decide +kernel
theorem dX10_limb_62 : decode cX10_limb 62 = .ok (.bipush 32, 2) := by decide +kernel
theorem dX10_limb_64 : decode cX10_limb 64 = .ok (.if_icmp .ge 33, 3) := by decide +kernel
theorem dX10_limb_67 : decode cX10_limb 67 = .ok (.iload 4, 2) := by decide +kernel
theorem dX10_limb_69 : decode cX10_limb 69 = .ok (.aload_n 0, 1) := by decide +kernel
theorem dX10_limb_70 : decode cX10_limb 70 = .ok (.iconst 2, 1) := by decide +kernel
theorem dX10_limb_71 : decode cX10_limb 71 = .ok (.iload_n 1, 1) := by decide +kernel
theorem dX10_limb_72 : decode cX10_limb 72 = .ok (.imul, 1) := by decide +kernel
theorem dX10_limb_73 : decode cX10_limb 73 = .ok (.iload_n 2, 1) := by decide +kernel
theorem dX10_limb_74 : decode cX10_limb 74 = .ok (.iadd, 1) := by decide +kernel
theorem dX10_limb_75 : decode cX10_limb 75 = .ok (.bipush 32, 2) := by decide +kernel
theorem dX10_limb_77 : decode cX10_limb 77 = .ok (.iload_n 3, 1) := by decide +kernel
theorem dX10_limb_78 : decode cX10_limb 78 = .ok (.imul, 1) := by decide +kernel
theorem dX10_limb_79 : decode cX10_limb 79 = .ok (.iload 5, 2) := by decide +kernel
theorem dX10_limb_81 : decode cX10_limb 81 = .ok (.iadd, 1) := by decide +kernel
theorem dX10_limb_82 : decode cX10_limb 82 = .ok (.invokevirtual 68, 3) := by decide +kernel
theorem dX10_limb_85 : decode cX10_limb 85 = .ok (.iload 5, 2) := by decide +kernel
theorem dX10_limb_87 : decode cX10_limb 87 = .ok (.ishl, 1) := by decide +kernel
theorem dX10_limb_88 : decode cX10_limb 88 = .ok (.ior, 1) := by decide +kernel
theorem dX10_limb_89 : decode cX10_limb 89 = .ok (.istore 4, 2) := by decide +kernel
theorem dX10_limb_91 : decode cX10_limb 91 = .ok (.iinc 5 1, 3) := by decide +kernel
theorem dX10_limb_94 : decode cX10_limb 94 = .ok (.goto (-34), 3) := by decide +kernel
theorem dX10_limb_97 : decode cX10_limb 97 = .ok (.iload 4, 2) := by decide +kernel
theorem dX10_limb_99 : decode cX10_limb 99 = .ok (.ireturn, 1) := by decide +kernel
theorem dX10_isEntry_0 : decode cX10_isEntry 0 = .ok (.iload_n 1, 1) := by decide +kernel
theorem dX10_isEntry_1 : decode cX10_isEntry 1 = .ok (.iconst 0, 1) := by decide +kernel
theorem dX10_isEntry_2 : decode cX10_isEntry 2 = .ok (.aload_n 0, 1) := by decide +kernel
theorem dX10_isEntry_3 : decode cX10_isEntry 3 = .ok (.getfield 44, 3) := by decide +kernel
theorem dX10_isEntry_6 : decode cX10_isEntry 6 = .ok (.iconst 1, 1) := by decide +kernel
theorem dX10_isEntry_7 : decode cX10_isEntry 7 = .ok (.isub, 1) := by decide +kernel
theorem dX10_isEntry_8 : decode cX10_isEntry 8 = .ok (.invokestatic 119, 3) := by decide +kernel
theorem dX10_isEntry_11 : decode cX10_isEntry 11 = .ok (.ifCond .eq 19, 3) := by decide +kernel
theorem dX10_isEntry_14 : decode cX10_isEntry 14 = .ok (.iload_n 2, 1) := by decide +kernel
theorem dX10_isEntry_15 : decode cX10_isEntry 15 = .ok (.iconst 0, 1) := by decide +kernel
theorem dX10_isEntry_16 : decode cX10_isEntry 16 = .ok (.aload_n 0, 1) := by decide +kernel
theorem dX10_isEntry_17 : decode cX10_isEntry 17 = .ok (.getfield 44, 3) := by decide +kernel
theorem dX10_isEntry_20 : decode cX10_isEntry 20 = .ok (.invokestatic 119, 3) := by decide +kernel
theorem dX10_isEntry_23 : decode cX10_isEntry 23 = .ok (.ifCond .eq 7, 3) := by decide +kernel
theorem dX10_isEntry_26 : decode cX10_isEntry 26 = .ok (.iconst 1, 1) := by decide +kernel
theorem dX10_isEntry_27 : decode cX10_isEntry 27 = .ok (.goto 4, 3) := by decide +kernel
theorem dX10_isEntry_30 : decode cX10_isEntry 30 = .ok (.iconst 0, 1) := by decide +kernel
theorem dX10_isEntry_31 : decode cX10_isEntry 31 = .ok (.ireturn, 1) := by decide +kernel
theorem dX10_entry_0 : decode cX10_entry 0 = .ok (.aload_n 0, 1) := by decide +kernel
theorem dX10_entry_1 : decode cX10_entry 1 = .ok (.iconst 0, 1) := by decide +kernel
theorem dX10_entry_2 : decode cX10_entry 2 = .ok (.putfield 52, 3) := by decide +kernel
theorem dX10_entry_5 : decode cX10_entry 5 = .ok (.aload_n 0, 1) := by decide +kernel
theorem dX10_entry_6 : decode cX10_entry 6 = .ok (.iload_n 1, 1) := by decide +kernel
theorem dX10_entry_7 : decode cX10_entry 7 = .ok (.iload_n 2, 1) := by decide +kernel
theorem dX10_entry_8 : decode cX10_entry 8 = .ok (.invokevirtual 159, 3) := by decide +kernel
theorem dX10_entry_11 : decode cX10_entry 11 = .ok (.ifCond .ne 5, 3) := by decide +kernel
theorem dX10_entry_14 : decode cX10_entry 14 = .ok (.iconst (-1), 1) := by decide +kernel
theorem dX10_entry_15 : decode cX10_entry 15 = .ok (.ireturn, 1) := by decide +kernel
theorem dX10_entry_16 : decode cX10_entry 16 = .ok (.lload 5, 2) := by decide +kernel
theorem dX10_entry_18 : decode cX10_entry 18 = .ok (.lconst 0, 1) := by decide +kernel
theorem dX10_entry_19 : decode cX10_entry 19 = .ok (.lcmp, 1) := by decide +kernel
theorem dX10_entry_20 : decode cX10_entry 20 = .ok (.ifCond .ne 6, 3) := by decide +kernel
theorem dX10_entry_23 : decode cX10_entry 23 = .ok (.bipush (-2), 2) := by decide +kernel
theorem dX10_entry_25 : decode cX10_entry 25 = .ok (.ireturn, 1) := by decide +kernel
theorem dX10_entry_26 : decode cX10_entry 26 = .ok (.aload_n 0, 1) := by decide +kernel
theorem dX10_entry_27 : decode cX10_entry 27 = .ok (.bipush 40, 2) := by decide +kernel
theorem dX10_entry_29 : decode cX10_entry 29 = .ok (.bipush 6, 2) := by decide +kernel
theorem dX10_entry_31 : decode cX10_entry 31 = .ok (.iload_n 1, 1) := by decide +kernel
theorem dX10_entry_32 : decode cX10_entry 32 = .ok (.imul, 1) := by decide +kernel
theorem dX10_entry_33 : decode cX10_entry 33 = .ok (.iadd, 1) := by decide +kernel
theorem dX10_entry_34 : decode cX10_entry 34 = .ok (.iload_n 2, 1) := by decide +kernel
theorem dX10_entry_35 : decode cX10_entry 35 = .ok (.iadd, 1) := by decide +kernel
theorem dX10_entry_36 : decode cX10_entry 36 = .ok (.lload_n 3, 1) := by decide +kernel
theorem dX10_entry_37 : decode cX10_entry 37 = .ok (.lload 5, 2) := by decide +kernel
theorem dX10_entry_39 : decode cX10_entry 39 = .ok (.invokevirtual 133, 3) := by decide +kernel
theorem dX10_entry_42 : decode cX10_entry 42 = .ok (.iconst 1, 1) := by decide +kernel
theorem dX10_entry_43 : decode cX10_entry 43 = .ok (.ireturn, 1) := by decide +kernel
theorem dX10_put_0 : decode cX10_put 0 = .ok (.aload_n 0, 1) := by decide +kernel
theorem dX10_put_1 : decode cX10_put 1 = .ok (.iconst 0, 1) := by decide +kernel
theorem dX10_put_2 : decode cX10_put 2 = .ok (.putfield 52, 3) := by decide +kernel
theorem dX10_put_5 : decode cX10_put 5 = .ok (.aload_n 0, 1) := by decide +kernel
theorem dX10_put_6 : decode cX10_put 6 = .ok (.iload_n 1, 1) := by decide +kernel
theorem dX10_put_7 : decode cX10_put 7 = .ok (.iload_n 2, 1) := by decide +kernel
theorem dX10_put_8 : decode cX10_put 8 = .ok (.invokevirtual 159, 3) := by decide +kernel
theorem dX10_put_11 : decode cX10_put 11 = .ok (.ifCond .eq 11, 3) := by decide +kernel
theorem dX10_put_14 : decode cX10_put 14 = .ok (.aload_n 0, 1) := by decide +kernel
theorem dX10_put_15 : decode cX10_put 15 = .ok (.iload_n 3, 1) := by decide +kernel
theorem dX10_put_16 : decode cX10_put 16 = .ok (.invokevirtual 137, 3) := by decide +kernel
theorem dX10_put_19 : decode cX10_put 19 = .ok (.ifCond .ne 5, 3) := by decide +kernel
theorem dX10_put_22 : decode cX10_put 22 = .ok (.iconst (-1), 1) := by decide +kernel
theorem dX10_put_23 : decode cX10_put 23 = .ok (.ireturn, 1) := by decide +kernel
theorem dX10_put_24 : decode cX10_put 24 = .ok (.aload_n 0, 1) := by decide +kernel
theorem dX10_put_25 : decode cX10_put 25 = .ok (.iload_n 3, 1) := by decide +kernel
theorem dX10_put_26 : decode cX10_put 26 = .ok (.bipush 40, 2) := by decide +kernel
theorem dX10_put_28 : decode cX10_put 28 = .ok (.bipush 6, 2) := by decide +kernel
theorem dX10_put_30 : decode cX10_put 30 = .ok (.iload_n 1, 1) := by decide +kernel
theorem dX10_put_31 : decode cX10_put 31 = .ok (.imul, 1) := by decide +kernel
theorem dX10_put_32 : decode cX10_put 32 = .ok (.iadd, 1) := by decide +kernel
theorem dX10_put_33 : decode cX10_put 33 = .ok (.iload_n 2, 1) := by decide +kernel
theorem dX10_put_34 : decode cX10_put 34 = .ok (.iadd, 1) := by decide +kernel
theorem dX10_put_35 : decode cX10_put 35 = .ok (.invokevirtual 126, 3) := by decide +kernel
theorem dX10_put_38 : decode cX10_put 38 = .ok (.iconst 1, 1) := by decide +kernel
theorem dX10_put_39 : decode cX10_put 39 = .ok (.ireturn, 1) := by decide +kernel
theorem dX10_take_0 : decode cX10_take 0 = .ok (.aload_n 0, 1) := by decide +kernel
theorem dX10_take_1 : decode cX10_take 1 = .ok (.iconst 0, 1) := by decide +kernel
theorem dX10_take_2 : decode cX10_take 2 = .ok (.putfield 52, 3) := by decide +kernel
theorem dX10_take_5 : decode cX10_take 5 = .ok (.aload_n 0, 1) := by decide +kernel
theorem dX10_take_6 : decode cX10_take 6 = .ok (.iload_n 1, 1) := by decide +kernel
theorem dX10_take_7 : decode cX10_take 7 = .ok (.iload_n 2, 1) := by decide +kernel
theorem dX10_take_8 : decode cX10_take 8 = .ok (.invokevirtual 159, 3) := by decide +kernel
theorem dX10_take_11 : decode cX10_take 11 = .ok (.ifCond .ne 5, 3) := by decide +kernel
theorem dX10_take_14 : decode cX10_take 14 = .ok (.iconst (-1), 1) := by decide +kernel
theorem dX10_take_15 : decode cX10_take 15 = .ok (.ireturn, 1) := by decide +kernel
theorem dX10_take_16 : decode cX10_take 16 = .ok (.aload_n 0, 1) := by decide +kernel
theorem dX10_take_17 : decode cX10_take 17 = .ok (.getfield 116, 3) := by decide +kernel
theorem dX10_take_20 : decode cX10_take 20 = .ok (.bipush 40, 2) := by decide +kernel
theorem dX10_take_22 : decode cX10_take 22 = .ok (.if_icmp .ne 8, 3) := by decide +kernel
theorem dX10_take_25 : decode cX10_take 25 = .ok (.bipush (-4), 2) := by decide +kernel
theorem dX10_take_27 : decode cX10_take 27 = .ok (.goto 16, 3) := by decide +kernel
theorem dX10_take_30 : decode cX10_take 30 = .ok (.aload_n 0, 1) := by decide +kernel
theorem dX10_take_31 : decode cX10_take 31 = .ok (.bipush 40, 2) := by decide +kernel
theorem dX10_take_33 : decode cX10_take 33 = .ok (.bipush 6, 2) := by decide +kernel
theorem dX10_take_35 : decode cX10_take 35 = .ok (.iload_n 1, 1) := by decide +kernel
theorem dX10_take_36 : decode cX10_take 36 = .ok (.imul, 1) := by decide +kernel
theorem dX10_take_37 : decode cX10_take 37 = .ok (.iadd, 1) := by decide +kernel
theorem dX10_take_38 : decode cX10_take 38 = .ok (.iload_n 2, 1) := by decide +kernel
theorem dX10_take_39 : decode cX10_take 39 = .ok (.iadd, 1) := by decide +kernel
theorem dX10_take_40 : decode cX10_take 40 = .ok (.invokevirtual 150, 3) := by decide +kernel
theorem dX10_take_43 : decode cX10_take 43 = .ok (.ireturn, 1) := by decide +kernel
theorem dX10_taken_0 : decode cX10_taken 0 = .ok (.bipush (-6), 2) := by decide +kernel
theorem dX10_taken_2 : decode cX10_taken 2 = .ok (.istore 4, 2) := by decide +kernel
theorem dX10_taken_4 : decode cX10_taken 4 = .ok (.iload_n 2, 1) := by decide +kernel
theorem dX10_taken_5 : decode cX10_taken 5 = .ok (.istore 5, 2) := by decide +kernel
theorem dX10_taken_7 : decode cX10_taken 7 = .ok (.iload 5, 2) := by decide +kernel
theorem dX10_taken_9 : decode cX10_taken 9 = .ok (.aload_n 0, 1) := by decide +kernel
theorem dX10_taken_10 : decode cX10_taken 10 = .ok (.getfield 44, 3) := by decide +kernel
theorem dX10_taken_13 : decode cX10_taken 13 = .ok (.if_icmp .ge 73, 3) := by decide +kernel
theorem dX10_taken_16 : decode cX10_taken 16 = .ok (.aload_n 0, 1) := by decide +kernel
theorem dX10_taken_17 : decode cX10_taken 17 = .ok (.bipush 70, 2) := by decide +kernel
theorem dX10_taken_19 : decode cX10_taken 19 = .ok (.bipush 6, 2) := by decide +kernel
theorem dX10_taken_21 : decode cX10_taken 21 = .ok (.iload 5, 2) := by decide +kernel
theorem dX10_taken_23 : decode cX10_taken 23 = .ok (.imul, 1) := by decide +kernel
theorem dX10_taken_24 : decode cX10_taken 24 = .ok (.iadd, 1) := by decide +kernel
theorem dX10_taken_25 : decode cX10_taken 25 = .ok (.iload_n 3, 1) := by decide +kernel
theorem dX10_taken_26 : decode cX10_taken 26 = .ok (.iadd, 1) := by decide +kernel
theorem dX10_taken_27 : decode cX10_taken 27 = .ok (.invokevirtual 92, 3) := by decide +kernel
theorem dX10_taken_30 : decode cX10_taken 30 = .ok (.ifCond .ne 50, 3) := by decide +kernel
theorem dX10_taken_33 : decode cX10_taken 33 = .ok (.iload 4, 2) := by decide +kernel
theorem dX10_taken_35 : decode cX10_taken 35 = .ok (.bipush (-6), 2) := by decide +kernel
theorem dX10_taken_37 : decode cX10_taken 37 = .ok (.if_icmp .eq 39, 3) := by decide +kernel
theorem dX10_taken_40 : decode cX10_taken 40 = .ok (.iload_n 1, 1) := by decide +kernel
theorem dX10_taken_41 : decode cX10_taken 41 = .ok (.iconst 1, 1) := by decide +kernel
theorem dX10_taken_42 : decode cX10_taken 42 = .ok (.if_icmp .ne 38, 3) := by decide +kernel
theorem dX10_taken_45 : decode cX10_taken 45 = .ok (.aload_n 0, 1) := by decide +kernel
theorem dX10_taken_46 : decode cX10_taken 46 = .ok (.bipush 70, 2) := by decide +kernel
theorem dX10_taken_48 : decode cX10_taken 48 = .ok (.bipush 6, 2) := by decide +kernel
theorem dX10_taken_50 : decode cX10_taken 50 = .ok (.iload 5, 2) := by decide +kernel
theorem dX10_taken_52 : decode cX10_taken 52 = .ok (.imul, 1) := by decide +kernel
theorem dX10_taken_53 : decode cX10_taken 53 = .ok (.iadd, 1) := by decide +kernel
theorem dX10_taken_54 : decode cX10_taken 54 = .ok (.iload_n 3, 1) := by decide +kernel
theorem dX10_taken_55 : decode cX10_taken 55 = .ok (.iadd, 1) := by decide +kernel
theorem dX10_taken_56 : decode cX10_taken 56 = .ok (.invokevirtual 156, 3) := by decide +kernel
theorem dX10_taken_59 : decode cX10_taken 59 = .ok (.aload_n 0, 1) := by decide +kernel
theorem dX10_taken_60 : decode cX10_taken 60 = .ok (.bipush 70, 2) := by decide +kernel
theorem dX10_taken_62 : decode cX10_taken 62 = .ok (.bipush 6, 2) := by decide +kernel
theorem dX10_taken_64 : decode cX10_taken 64 = .ok (.iload 4, 2) := by decide +kernel
theorem dX10_taken_66 : decode cX10_taken 66 = .ok (.imul, 1) := by decide +kernel
theorem dX10_taken_67 : decode cX10_taken 67 = .ok (.iadd, 1) := by decide +kernel
theorem dX10_taken_68 : decode cX10_taken 68 = .ok (.iload_n 3, 1) := by decide +kernel
theorem dX10_taken_69 : decode cX10_taken 69 = .ok (.iadd, 1) := by decide +kernel
theorem dX10_taken_70 : decode cX10_taken 70 = .ok (.invokevirtual 156, 3) := by decide +kernel
theorem dX10_taken_73 : decode cX10_taken 73 = .ok (.if_icmp .ge 7, 3) := by decide +kernel
theorem dX10_taken_76 : decode cX10_taken 76 = .ok (.iload 5, 2) := by decide +kernel
theorem dX10_taken_78 : decode cX10_taken 78 = .ok (.istore 4, 2) := by decide +kernel
theorem dX10_taken_80 : decode cX10_taken 80 = .ok (.iinc 5 1, 3) := by decide +kernel
theorem dX10_taken_83 : decode cX10_taken 83 = .ok (.goto (-76), 3) := by decide +kernel
theorem dX10_taken_86 : decode cX10_taken 86 = .ok (.iload 4, 2) := by decide +kernel
theorem dX10_taken_88 : decode cX10_taken 88 = .ok (.ireturn, 1) := by decide +kernel
theorem dX10_exchange_0 : decode cX10_exchange 0 = .ok (.iconst 0, 1) := by decide +kernel
theorem dX10_exchange_1 : decode cX10_exchange 1 = .ok (.istore_n 3, 1) := by decide +kernel
theorem dX10_exchange_2 : decode cX10_exchange 2 = .ok (.iload_n 3, 1) := by decide +kernel
theorem dX10_exchange_3 : decode cX10_exchange 3 = .ok (.aload_n 0, 1) := by decide +kernel
theorem dX10_exchange_4 : decode cX10_exchange 4 = .ok (.getfield 44, 3) := by decide +kernel
theorem dX10_exchange_7 : decode cX10_exchange 7 = .ok (.if_icmp .gt 61, 3) := by decide +kernel
theorem dX10_exchange_10 : decode cX10_exchange 10 = .ok (.aload_n 0, 1) := by decide +kernel
theorem dX10_exchange_11 : decode cX10_exchange 11 = .ok (.bipush 70, 2) := by decide +kernel
theorem dX10_exchange_13 : decode cX10_exchange 13 = .ok (.bipush 6, 2) := by decide +kernel
theorem dX10_exchange_15 : decode cX10_exchange 15 = .ok (.iload_n 1, 1) := by decide +kernel
theorem dX10_exchange_16 : decode cX10_exchange 16 = .ok (.imul, 1) := by decide +kernel
theorem dX10_exchange_17 : decode cX10_exchange 17 = .ok (.iadd, 1) := by decide +kernel
theorem dX10_exchange_18 : decode cX10_exchange 18 = .ok (.iload_n 3, 1) := by decide +kernel
theorem dX10_exchange_19 : decode cX10_exchange 19 = .ok (.iadd, 1) := by decide +kernel
theorem dX10_exchange_20 : decode cX10_exchange 20 = .ok (.bipush 106, 2) := by decide +kernel
theorem dX10_exchange_22 : decode cX10_exchange 22 = .ok (.invokevirtual 126, 3) := by decide +kernel
theorem dX10_exchange_25 : decode cX10_exchange 25 = .ok (.aload_n 0, 1) := by decide +kernel
theorem dX10_exchange_26 : decode cX10_exchange 26 = .ok (.bipush 70, 2) := by decide +kernel
theorem dX10_exchange_28 : decode cX10_exchange 28 = .ok (.bipush 6, 2) := by decide +kernel
theorem dX10_exchange_30 : decode cX10_exchange 30 = .ok (.iload_n 2, 1) := by decide +kernel
theorem dX10_exchange_31 : decode cX10_exchange 31 = .ok (.imul, 1) := by decide +kernel
theorem dX10_exchange_32 : decode cX10_exchange 32 = .ok (.iadd, 1) := by decide +kernel
theorem dX10_exchange_33 : decode cX10_exchange 33 = .ok (.iload_n 3, 1) := by decide +kernel
theorem dX10_exchange_34 : decode cX10_exchange 34 = .ok (.iadd, 1) := by decide +kernel
theorem dX10_exchange_35 : decode cX10_exchange 35 = .ok (.bipush 70, 2) := by decide +kernel
theorem dX10_exchange_37 : decode cX10_exchange 37 = .ok (.bipush 6, 2) := by decide +kernel
theorem dX10_exchange_39 : decode cX10_exchange 39 = .ok (.iload_n 1, 1) := by decide +kernel
theorem dX10_exchange_40 : decode cX10_exchange 40 = .ok (.imul, 1) := by decide +kernel
theorem dX10_exchange_41 : decode cX10_exchange 41 = .ok (.iadd, 1) := by decide +kernel
theorem dX10_exchange_42 : decode cX10_exchange 42 = .ok (.iload_n 3, 1) := by decide +kernel
theorem dX10_exchange_43 : decode cX10_exchange 43 = .ok (.iadd, 1) := by decide +kernel
theorem dX10_exchange_44 : decode cX10_exchange 44 = .ok (.invokevirtual 126, 3) := by decide +kernel
theorem dX10_exchange_47 : decode cX10_exchange 47 = .ok (.aload_n 0, 1) := by decide +kernel
theorem dX10_exchange_48 : decode cX10_exchange 48 = .ok (.bipush 106, 2) := by decide +kernel
theorem dX10_exchange_50 : decode cX10_exchange 50 = .ok (.bipush 70, 2) := by decide +kernel
theorem dX10_exchange_52 : decode cX10_exchange 52 = .ok (.bipush 6, 2) := by decide +kernel
theorem dX10_exchange_54 : decode cX10_exchange 54 = .ok (.iload_n 2, 1) := by decide +kernel
theorem dX10_exchange_55 : decode cX10_exchange 55 = .ok (.imul, 1) := by decide +kernel
theorem dX10_exchange_56 : decode cX10_exchange 56 = .ok (.iadd, 1) := by decide +kernel
theorem dX10_exchange_57 : decode cX10_exchange 57 = .ok (.iload_n 3, 1) := by decide +kernel
theorem dX10_exchange_58 : decode cX10_exchange 58 = .ok (.iadd, 1) := by decide +kernel
theorem dX10_exchange_59 : decode cX10_exchange 59 = .ok (.invokevirtual 126, 3) := by decide +kernel
theorem dX10_exchange_62 : decode cX10_exchange 62 = .ok (.iinc 3 1, 3) := by decide +kernel
theorem dX10_exchange_65 : decode cX10_exchange 65 = .ok (.goto (-63), 3) := by decide +kernel
theorem dX10_exchange_68 : decode cX10_exchange 68 = .ok (.aload_n 0, 1) := by decide +kernel
theorem dX10_exchange_69 : decode cX10_exchange 69 = .ok (.getfield 35, 3) := by decide +kernel
theorem dX10_exchange_72 : decode cX10_exchange 72 = .ok (.iload_n 1, 1) := by decide +kernel
theorem dX10_exchange_73 : decode cX10_exchange 73 = .ok (.iaload, 1) := by decide +kernel
theorem dX10_exchange_74 : decode cX10_exchange 74 = .ok (.istore_n 3, 1) := by decide +kernel
theorem dX10_exchange_75 : decode cX10_exchange 75 = .ok (.aload_n 0, 1) := by decide +kernel
theorem dX10_exchange_76 : decode cX10_exchange 76 = .ok (.getfield 35, 3) := by decide +kernel
theorem dX10_exchange_79 : decode cX10_exchange 79 = .ok (.iload_n 1, 1) := by decide +kernel
theorem dX10_exchange_80 : decode cX10_exchange 80 = .ok (.aload_n 0, 1) := by decide +kernel
theorem dX10_exchange_81 : decode cX10_exchange 81 = .ok (.getfield 35, 3) := by decide +kernel
theorem dX10_exchange_84 : decode cX10_exchange 84 = .ok (.iload_n 2, 1) := by decide +kernel
theorem dX10_exchange_85 : decode cX10_exchange 85 = .ok (.iaload, 1) := by decide +kernel
theorem dX10_exchange_86 : decode cX10_exchange 86 = .ok (.iastore, 1) := by decide +kernel
theorem dX10_exchange_87 : decode cX10_exchange 87 = .ok (.aload_n 0, 1) := by decide +kernel
theorem dX10_exchange_88 : decode cX10_exchange 88 = .ok (.getfield 35, 3) := by decide +kernel
theorem dX10_exchange_91 : decode cX10_exchange 91 = .ok (.iload_n 2, 1) := by decide +kernel
theorem dX10_exchange_92 : decode cX10_exchange 92 = .ok (.iload_n 3, 1) := by decide +kernel
theorem dX10_exchange_93 : decode cX10_exchange 93 = .ok (.iastore, 1) := by decide +kernel
theorem dX10_exchange_94 : decode cX10_exchange 94 = .ok (.return_, 1) := by decide +kernel
theorem dX10_cleared_0 : decode cX10_cleared 0 = .ok (.iload_n 1, 1) := by decide +kernel
theorem dX10_cleared_1 : decode cX10_cleared 1 = .ok (.iconst 1, 1) := by decide +kernel
theorem dX10_cleared_2 : decode cX10_cleared 2 = .ok (.iadd, 1) := by decide +kernel
theorem dX10_cleared_3 : decode cX10_cleared 3 = .ok (.istore 4, 2) := by decide +kernel
theorem dX10_cleared_5 : decode cX10_cleared 5 = .ok (.iload 4, 2) := by decide +kernel
theorem dX10_cleared_7 : decode cX10_cleared 7 = .ok (.aload_n 0, 1) := by decide +kernel
theorem dX10_cleared_8 : decode cX10_cleared 8 = .ok (.getfield 44, 3) := by decide +kernel
theorem dX10_cleared_11 : decode cX10_cleared 11 = .ok (.if_icmp .ge 142, 3) := by decide +kernel
theorem dX10_cleared_14 : decode cX10_cleared 14 = .ok (.aload_n 0, 1) := by decide +kernel
theorem dX10_cleared_15 : decode cX10_cleared 15 = .ok (.bipush 70, 2) := by decide +kernel
theorem dX10_cleared_17 : decode cX10_cleared 17 = .ok (.bipush 6, 2) := by decide +kernel
theorem dX10_cleared_19 : decode cX10_cleared 19 = .ok (.iload 4, 2) := by decide +kernel
theorem dX10_cleared_21 : decode cX10_cleared 21 = .ok (.imul, 1) := by decide +kernel
theorem dX10_cleared_22 : decode cX10_cleared 22 = .ok (.iadd, 1) := by decide +kernel
theorem dX10_cleared_23 : decode cX10_cleared 23 = .ok (.iload_n 2, 1) := by decide +kernel
theorem dX10_cleared_24 : decode cX10_cleared 24 = .ok (.iadd, 1) := by decide +kernel
theorem dX10_cleared_25 : decode cX10_cleared 25 = .ok (.invokevirtual 92, 3) := by decide +kernel
theorem dX10_cleared_28 : decode cX10_cleared 28 = .ok (.ifCond .ne 119, 3) := by decide +kernel
theorem dX10_cleared_31 : decode cX10_cleared 31 = .ok (.aload_n 0, 1) := by decide +kernel
theorem dX10_cleared_32 : decode cX10_cleared 32 = .ok (.bipush 70, 2) := by decide +kernel
theorem dX10_cleared_34 : decode cX10_cleared 34 = .ok (.bipush 6, 2) := by decide +kernel
theorem dX10_cleared_36 : decode cX10_cleared 36 = .ok (.iload 4, 2) := by decide +kernel
theorem dX10_cleared_38 : decode cX10_cleared 38 = .ok (.imul, 1) := by decide +kernel
theorem dX10_cleared_39 : decode cX10_cleared 39 = .ok (.iadd, 1) := by decide +kernel
theorem dX10_cleared_40 : decode cX10_cleared 40 = .ok (.iload_n 2, 1) := by decide +kernel
theorem dX10_cleared_41 : decode cX10_cleared 41 = .ok (.iadd, 1) := by decide +kernel
theorem dX10_cleared_42 : decode cX10_cleared 42 = .ok (.bipush 70, 2) := by decide +kernel
theorem dX10_cleared_44 : decode cX10_cleared 44 = .ok (.bipush 6, 2) := by decide +kernel
theorem dX10_cleared_46 : decode cX10_cleared 46 = .ok (.iload_n 1, 1) := by decide +kernel
theorem dX10_cleared_47 : decode cX10_cleared 47 = .ok (.imul, 1) := by decide +kernel
theorem dX10_cleared_48 : decode cX10_cleared 48 = .ok (.iadd, 1) := by decide +kernel
theorem dX10_cleared_49 : decode cX10_cleared 49 = .ok (.iload_n 2, 1) := by decide +kernel
theorem dX10_cleared_50 : decode cX10_cleared 50 = .ok (.iadd, 1) := by decide +kernel
theorem dX10_cleared_51 : decode cX10_cleared 51 = .ok (.bipush 106, 2) := by decide +kernel
theorem dX10_cleared_53 : decode cX10_cleared 53 = .ok (.invokevirtual 147, 3) := by decide +kernel
theorem dX10_cleared_56 : decode cX10_cleared 56 = .ok (.ifCond .ne 5, 3) := by decide +kernel
theorem dX10_cleared_59 : decode cX10_cleared 59 = .ok (.iconst 0, 1) := by decide +kernel
theorem dX10_cleared_60 : decode cX10_cleared 60 = .ok (.ireturn, 1) := by decide +kernel
theorem dX10_cleared_61 : decode cX10_cleared 61 = .ok (.iload_n 2, 1) := by decide +kernel
theorem dX10_cleared_62 : decode cX10_cleared 62 = .ok (.iconst 1, 1) := by decide +kernel
theorem dX10_cleared_63 : decode cX10_cleared 63 = .ok (.iadd, 1) := by decide +kernel
theorem dX10_cleared_64 : decode cX10_cleared 64 = .ok (.istore 5, 2) := by decide +kernel
theorem dX10_cleared_66 : decode cX10_cleared 66 = .ok (.iload 5, 2) := by decide +kernel
theorem dX10_cleared_68 : decode cX10_cleared 68 = .ok (.iload_n 3, 1) := by decide +kernel
theorem dX10_cleared_69 : decode cX10_cleared 69 = .ok (.if_icmp .gt 64, 3) := by decide +kernel
theorem dX10_cleared_72 : decode cX10_cleared 72 = .ok (.aload_n 0, 1) := by decide +kernel
theorem dX10_cleared_73 : decode cX10_cleared 73 = .ok (.bipush 106, 2) := by decide +kernel
theorem dX10_cleared_75 : decode cX10_cleared 75 = .ok (.bipush 70, 2) := by decide +kernel
theorem dX10_cleared_77 : decode cX10_cleared 77 = .ok (.bipush 6, 2) := by decide +kernel
theorem dX10_cleared_79 : decode cX10_cleared 79 = .ok (.iload_n 1, 1) := by decide +kernel
theorem dX10_cleared_80 : decode cX10_cleared 80 = .ok (.imul, 1) := by decide +kernel
theorem dX10_cleared_81 : decode cX10_cleared 81 = .ok (.iadd, 1) := by decide +kernel
theorem dX10_cleared_82 : decode cX10_cleared 82 = .ok (.iload 5, 2) := by decide +kernel
theorem dX10_cleared_84 : decode cX10_cleared 84 = .ok (.iadd, 1) := by decide +kernel
theorem dX10_cleared_85 : decode cX10_cleared 85 = .ok (.bipush 107, 2) := by decide +kernel
theorem dX10_cleared_87 : decode cX10_cleared 87 = .ok (.invokevirtual 144, 3) := by decide +kernel
theorem dX10_cleared_90 : decode cX10_cleared 90 = .ok (.ifCond .eq 35, 3) := by decide +kernel
theorem dX10_cleared_93 : decode cX10_cleared 93 = .ok (.aload_n 0, 1) := by decide +kernel
theorem dX10_cleared_94 : decode cX10_cleared 94 = .ok (.bipush 70, 2) := by decide +kernel
theorem dX10_cleared_96 : decode cX10_cleared 96 = .ok (.bipush 6, 2) := by decide +kernel
theorem dX10_cleared_98 : decode cX10_cleared 98 = .ok (.iload 4, 2) := by decide +kernel
theorem dX10_cleared_100 : decode cX10_cleared 100 = .ok (.imul, 1) := by decide +kernel
theorem dX10_cleared_101 : decode cX10_cleared 101 = .ok (.iadd, 1) := by decide +kernel
theorem dX10_cleared_102 : decode cX10_cleared 102 = .ok (.iload 5, 2) := by decide +kernel
theorem dX10_cleared_104 : decode cX10_cleared 104 = .ok (.iadd, 1) := by decide +kernel
theorem dX10_cleared_105 : decode cX10_cleared 105 = .ok (.bipush 107, 2) := by decide +kernel
theorem dX10_cleared_107 : decode cX10_cleared 107 = .ok (.bipush 70, 2) := by decide +kernel
theorem dX10_cleared_109 : decode cX10_cleared 109 = .ok (.bipush 6, 2) := by decide +kernel
theorem dX10_cleared_111 : decode cX10_cleared 111 = .ok (.iload 4, 2) := by decide +kernel
theorem dX10_cleared_113 : decode cX10_cleared 113 = .ok (.imul, 1) := by decide +kernel
theorem dX10_cleared_114 : decode cX10_cleared 114 = .ok (.iadd, 1) := by decide +kernel
theorem dX10_cleared_115 : decode cX10_cleared 115 = .ok (.iload 5, 2) := by decide +kernel
theorem dX10_cleared_117 : decode cX10_cleared 117 = .ok (.iadd, 1) := by decide +kernel
theorem dX10_cleared_118 : decode cX10_cleared 118 = .ok (.iconst 1, 1) := by decide +kernel
theorem dX10_cleared_119 : decode cX10_cleared 119 = .ok (.invokevirtual 140, 3) := by decide +kernel
theorem dX10_cleared_122 : decode cX10_cleared 122 = .ok (.ifCond .ne 5, 3) := by decide +kernel
theorem dX10_cleared_125 : decode cX10_cleared 125 = .ok (.iconst 0, 1) := by decide +kernel
theorem dX10_cleared_126 : decode cX10_cleared 126 = .ok (.ireturn, 1) := by decide +kernel
theorem dX10_cleared_127 : decode cX10_cleared 127 = .ok (.iinc 5 1, 3) := by decide +kernel
theorem dX10_cleared_130 : decode cX10_cleared 130 = .ok (.goto (-64), 3) := by decide +kernel
theorem dX10_cleared_133 : decode cX10_cleared 133 = .ok (.aload_n 0, 1) := by decide +kernel
theorem dX10_cleared_134 : decode cX10_cleared 134 = .ok (.bipush 70, 2) := by decide +kernel
theorem dX10_cleared_136 : decode cX10_cleared 136 = .ok (.bipush 6, 2) := by decide +kernel
theorem dX10_cleared_138 : decode cX10_cleared 138 = .ok (.iload 4, 2) := by decide +kernel
theorem dX10_cleared_140 : decode cX10_cleared 140 = .ok (.imul, 1) := by decide +kernel
theorem dX10_cleared_141 : decode cX10_cleared 141 = .ok (.iadd, 1) := by decide +kernel
theorem dX10_cleared_142 : decode cX10_cleared 142 = .ok (.iload_n 2, 1) := by decide +kernel
theorem dX10_cleared_143 : decode cX10_cleared 143 = .ok (.iadd, 1) := by decide +kernel
theorem dX10_cleared_144 : decode cX10_cleared 144 = .ok (.invokevirtual 48, 3) := by decide +kernel
theorem dX10_cleared_147 : decode cX10_cleared 147 = .ok (.iinc 4 1, 3) := by decide +kernel
theorem dX10_cleared_150 : decode cX10_cleared 150 = .ok (.goto (-145), 3) := by decide +kernel
theorem dX10_cleared_153 : decode cX10_cleared 153 = .ok (.iconst 1, 1) := by decide +kernel
theorem dX10_cleared_154 : decode cX10_cleared 154 = .ok (.ireturn, 1) := by decide +kernel
theorem dX10_eliminated_0 : decode cX10_eliminated 0 = .ok (.iconst 0, 1) := by decide +kernel
theorem dX10_eliminated_1 : decode cX10_eliminated 1 = .ok (.istore_n 3, 1) := by decide +kernel
theorem dX10_eliminated_2 : decode cX10_eliminated 2 = .ok (.iload_n 3, 1) := by decide +kernel
theorem dX10_eliminated_3 : decode cX10_eliminated 3 = .ok (.aload_n 0, 1) := by decide +kernel
theorem dX10_eliminated_4 : decode cX10_eliminated 4 = .ok (.getfield 44, 3) := by decide +kernel
theorem dX10_eliminated_7 : decode cX10_eliminated 7 = .ok (.if_icmp .ge 58, 3) := by decide +kernel
theorem dX10_eliminated_10 : decode cX10_eliminated 10 = .ok (.aload_n 0, 1) := by decide +kernel
theorem dX10_eliminated_11 : decode cX10_eliminated 11 = .ok (.getfield 35, 3) := by decide +kernel
theorem dX10_eliminated_14 : decode cX10_eliminated 14 = .ok (.iload_n 3, 1) := by decide +kernel
theorem dX10_eliminated_15 : decode cX10_eliminated 15 = .ok (.iload_n 3, 1) := by decide +kernel
theorem dX10_eliminated_16 : decode cX10_eliminated 16 = .ok (.iastore, 1) := by decide +kernel
theorem dX10_eliminated_17 : decode cX10_eliminated 17 = .ok (.iconst 0, 1) := by decide +kernel
theorem dX10_eliminated_18 : decode cX10_eliminated 18 = .ok (.istore 4, 2) := by decide +kernel
theorem dX10_eliminated_20 : decode cX10_eliminated 20 = .ok (.iload 4, 2) := by decide +kernel
theorem dX10_eliminated_22 : decode cX10_eliminated 22 = .ok (.aload_n 0, 1) := by decide +kernel
theorem dX10_eliminated_23 : decode cX10_eliminated 23 = .ok (.getfield 44, 3) := by decide +kernel
theorem dX10_eliminated_26 : decode cX10_eliminated 26 = .ok (.if_icmp .gt 33, 3) := by decide +kernel
theorem dX10_eliminated_29 : decode cX10_eliminated 29 = .ok (.aload_n 0, 1) := by decide +kernel
theorem dX10_eliminated_30 : decode cX10_eliminated 30 = .ok (.bipush 40, 2) := by decide +kernel
theorem dX10_eliminated_32 : decode cX10_eliminated 32 = .ok (.bipush 6, 2) := by decide +kernel
theorem dX10_eliminated_34 : decode cX10_eliminated 34 = .ok (.iload_n 3, 1) := by decide +kernel
theorem dX10_eliminated_35 : decode cX10_eliminated 35 = .ok (.imul, 1) := by decide +kernel
theorem dX10_eliminated_36 : decode cX10_eliminated 36 = .ok (.iadd, 1) := by decide +kernel
theorem dX10_eliminated_37 : decode cX10_eliminated 37 = .ok (.iload 4, 2) := by decide +kernel
theorem dX10_eliminated_39 : decode cX10_eliminated 39 = .ok (.iadd, 1) := by decide +kernel
theorem dX10_eliminated_40 : decode cX10_eliminated 40 = .ok (.bipush 70, 2) := by decide +kernel
theorem dX10_eliminated_42 : decode cX10_eliminated 42 = .ok (.bipush 6, 2) := by decide +kernel
theorem dX10_eliminated_44 : decode cX10_eliminated 44 = .ok (.iload_n 3, 1) := by decide +kernel
theorem dX10_eliminated_45 : decode cX10_eliminated 45 = .ok (.imul, 1) := by decide +kernel
theorem dX10_eliminated_46 : decode cX10_eliminated 46 = .ok (.iadd, 1) := by decide +kernel
theorem dX10_eliminated_47 : decode cX10_eliminated 47 = .ok (.iload 4, 2) := by decide +kernel
theorem dX10_eliminated_49 : decode cX10_eliminated 49 = .ok (.iadd, 1) := by decide +kernel
theorem dX10_eliminated_50 : decode cX10_eliminated 50 = .ok (.invokevirtual 126, 3) := by decide +kernel
theorem dX10_eliminated_53 : decode cX10_eliminated 53 = .ok (.iinc 4 1, 3) := by decide +kernel
theorem dX10_eliminated_56 : decode cX10_eliminated 56 = .ok (.goto (-36), 3) := by decide +kernel
theorem dX10_eliminated_59 : decode cX10_eliminated 59 = .ok (.iinc 3 1, 3) := by decide +kernel
theorem dX10_eliminated_62 : decode cX10_eliminated 62 = .ok (.goto (-60), 3) := by decide +kernel
theorem dX10_eliminated_65 : decode cX10_eliminated 65 = .ok (.aload_n 0, 1) := by decide +kernel
theorem dX10_eliminated_66 : decode cX10_eliminated 66 = .ok (.iconst 0, 1) := by decide +kernel
theorem dX10_eliminated_67 : decode cX10_eliminated 67 = .ok (.putfield 163, 3) := by decide +kernel
theorem dX10_eliminated_70 : decode cX10_eliminated 70 = .ok (.aload_n 0, 1) := by decide +kernel
theorem dX10_eliminated_71 : decode cX10_eliminated 71 = .ok (.iconst 0, 1) := by decide +kernel
theorem dX10_eliminated_72 : decode cX10_eliminated 72 = .ok (.putfield 167, 3) := by decide +kernel
theorem dX10_eliminated_75 : decode cX10_eliminated 75 = .ok (.iconst 0, 1) := by decide +kernel
theorem dX10_eliminated_76 : decode cX10_eliminated 76 = .ok (.istore_n 3, 1) := by decide +kernel
theorem dX10_eliminated_77 : decode cX10_eliminated 77 = .ok (.iconst 0, 1) := by decide +kernel
theorem dX10_eliminated_78 : decode cX10_eliminated 78 = .ok (.istore 4, 2) := by decide +kernel
theorem dX10_eliminated_80 : decode cX10_eliminated 80 = .ok (.iload 4, 2) := by decide +kernel
theorem dX10_eliminated_82 : decode cX10_eliminated 82 = .ok (.aload_n 0, 1) := by decide +kernel
theorem dX10_eliminated_83 : decode cX10_eliminated 83 = .ok (.getfield 44, 3) := by decide +kernel
theorem dX10_eliminated_86 : decode cX10_eliminated 86 = .ok (.if_icmp .ge 122, 3) := by decide +kernel
theorem dX10_eliminated_89 : decode cX10_eliminated 89 = .ok (.aload_n 0, 1) := by decide +kernel
theorem dX10_eliminated_90 : decode cX10_eliminated 90 = .ok (.iload_n 1, 1) := by decide +kernel
theorem dX10_eliminated_91 : decode cX10_eliminated 91 = .ok (.iload_n 3, 1) := by decide +kernel
theorem dX10_eliminated_92 : decode cX10_eliminated 92 = .ok (.iload 4, 2) := by decide +kernel
theorem dX10_eliminated_94 : decode cX10_eliminated 94 = .ok (.invokevirtual 170, 3) := by decide +kernel
theorem dX10_eliminated_97 : decode cX10_eliminated 97 = .ok (.istore 5, 2) := by decide +kernel
theorem dX10_eliminated_99 : decode cX10_eliminated 99 = .ok (.iload 5, 2) := by decide +kernel
theorem dX10_eliminated_101 : decode cX10_eliminated 101 = .ok (.bipush (-6), 2) := by decide +kernel
theorem dX10_eliminated_103 : decode cX10_eliminated 103 = .ok (.if_icmp .ne 11, 3) := by decide +kernel
theorem dX10_eliminated_106 : decode cX10_eliminated 106 = .ok (.aload_n 0, 1) := by decide +kernel
theorem dX10_eliminated_107 : decode cX10_eliminated 107 = .ok (.iconst 1, 1) := by decide +kernel
theorem dX10_eliminated_108 : decode cX10_eliminated 108 = .ok (.putfield 167, 3) := by decide +kernel
theorem dX10_eliminated_111 : decode cX10_eliminated 111 = .ok (.goto 91, 3) := by decide +kernel
theorem dX10_eliminated_114 : decode cX10_eliminated 114 = .ok (.aload_n 0, 1) := by decide +kernel
theorem dX10_eliminated_115 : decode cX10_eliminated 115 = .ok (.getfield 26, 3) := by decide +kernel
theorem dX10_eliminated_118 : decode cX10_eliminated 118 = .ok (.iload_n 3, 1) := by decide +kernel
theorem dX10_eliminated_119 : decode cX10_eliminated 119 = .ok (.iload 4, 2) := by decide +kernel
theorem dX10_eliminated_121 : decode cX10_eliminated 121 = .ok (.iastore, 1) := by decide +kernel
theorem dX10_eliminated_122 : decode cX10_eliminated 122 = .ok (.aload_n 0, 1) := by decide +kernel
theorem dX10_eliminated_123 : decode cX10_eliminated 123 = .ok (.getfield 29, 3) := by decide +kernel
theorem dX10_eliminated_126 : decode cX10_eliminated 126 = .ok (.iload_n 3, 1) := by decide +kernel
theorem dX10_eliminated_127 : decode cX10_eliminated 127 = .ok (.aload_n 0, 1) := by decide +kernel
theorem dX10_eliminated_128 : decode cX10_eliminated 128 = .ok (.getfield 35, 3) := by decide +kernel
theorem dX10_eliminated_131 : decode cX10_eliminated 131 = .ok (.iload 5, 2) := by decide +kernel
theorem dX10_eliminated_133 : decode cX10_eliminated 133 = .ok (.iaload, 1) := by decide +kernel
theorem dX10_eliminated_134 : decode cX10_eliminated 134 = .ok (.iastore, 1) := by decide +kernel
theorem dX10_eliminated_135 : decode cX10_eliminated 135 = .ok (.aload_n 0, 1) := by decide +kernel
theorem dX10_eliminated_136 : decode cX10_eliminated 136 = .ok (.getfield 32, 3) := by decide +kernel
theorem dX10_eliminated_139 : decode cX10_eliminated 139 = .ok (.iload_n 3, 1) := by decide +kernel
theorem dX10_eliminated_140 : decode cX10_eliminated 140 = .ok (.aload_n 0, 1) := by decide +kernel
theorem dX10_eliminated_141 : decode cX10_eliminated 141 = .ok (.bipush 70, 2) := by decide +kernel
theorem dX10_eliminated_143 : decode cX10_eliminated 143 = .ok (.bipush 6, 2) := by decide +kernel
theorem dX10_eliminated_145 : decode cX10_eliminated 145 = .ok (.iload 5, 2) := by decide +kernel
theorem dX10_eliminated_147 : decode cX10_eliminated 147 = .ok (.imul, 1) := by decide +kernel
theorem dX10_eliminated_148 : decode cX10_eliminated 148 = .ok (.iadd, 1) := by decide +kernel
theorem dX10_eliminated_149 : decode cX10_eliminated 149 = .ok (.iload 4, 2) := by decide +kernel
theorem dX10_eliminated_151 : decode cX10_eliminated 151 = .ok (.iadd, 1) := by decide +kernel
theorem dX10_eliminated_152 : decode cX10_eliminated 152 = .ok (.invokevirtual 156, 3) := by decide +kernel
theorem dX10_eliminated_155 : decode cX10_eliminated 155 = .ok (.iastore, 1) := by decide +kernel
theorem dX10_eliminated_156 : decode cX10_eliminated 156 = .ok (.iload 5, 2) := by decide +kernel
theorem dX10_eliminated_158 : decode cX10_eliminated 158 = .ok (.iload_n 3, 1) := by decide +kernel
theorem dX10_eliminated_159 : decode cX10_eliminated 159 = .ok (.if_icmp .eq 26, 3) := by decide +kernel
theorem dX10_eliminated_162 : decode cX10_eliminated 162 = .ok (.aload_n 0, 1) := by decide +kernel
theorem dX10_eliminated_163 : decode cX10_eliminated 163 = .ok (.iload 5, 2) := by decide +kernel
theorem dX10_eliminated_165 : decode cX10_eliminated 165 = .ok (.iload_n 3, 1) := by decide +kernel
theorem dX10_eliminated_166 : decode cX10_eliminated 166 = .ok (.invokevirtual 174, 3) := by decide +kernel
theorem dX10_eliminated_169 : decode cX10_eliminated 169 = .ok (.aload_n 0, 1) := by decide +kernel
theorem dX10_eliminated_170 : decode cX10_eliminated 170 = .ok (.aload_n 0, 1) := by decide +kernel
theorem dX10_eliminated_171 : decode cX10_eliminated 171 = .ok (.getfield 163, 3) := by decide +kernel
theorem dX10_eliminated_174 : decode cX10_eliminated 174 = .ok (.ifCond .ne 7, 3) := by decide +kernel
theorem dX10_eliminated_177 : decode cX10_eliminated 177 = .ok (.iconst 1, 1) := by decide +kernel
theorem dX10_eliminated_178 : decode cX10_eliminated 178 = .ok (.goto 4, 3) := by decide +kernel
theorem dX10_eliminated_181 : decode cX10_eliminated 181 = .ok (.iconst 0, 1) := by decide +kernel
theorem dX10_eliminated_182 : decode cX10_eliminated 182 = .ok (.putfield 163, 3) := by decide +kernel
theorem dX10_eliminated_185 : decode cX10_eliminated 185 = .ok (.aload_n 0, 1) := by decide +kernel
theorem dX10_eliminated_186 : decode cX10_eliminated 186 = .ok (.iload_n 3, 1) := by decide +kernel
theorem dX10_eliminated_187 : decode cX10_eliminated 187 = .ok (.iload 4, 2) := by decide +kernel
theorem dX10_eliminated_189 : decode cX10_eliminated 189 = .ok (.iload_n 2, 1) := by decide +kernel
theorem dX10_eliminated_190 : decode cX10_eliminated 190 = .ok (.invokevirtual 177, 3) := by decide +kernel
theorem dX10_eliminated_193 : decode cX10_eliminated 193 = .ok (.ifCond .ne 6, 3) := by decide +kernel
theorem dX10_eliminated_196 : decode cX10_eliminated 196 = .ok (.bipush (-3), 2) := by decide +kernel
theorem dX10_eliminated_198 : decode cX10_eliminated 198 = .ok (.ireturn, 1) := by decide +kernel
theorem dX10_eliminated_199 : decode cX10_eliminated 199 = .ok (.iinc 3 1, 3) := by decide +kernel
theorem dX10_eliminated_202 : decode cX10_eliminated 202 = .ok (.iinc 4 1, 3) := by decide +kernel
theorem dX10_eliminated_205 : decode cX10_eliminated 205 = .ok (.goto (-125), 3) := by decide +kernel
theorem dX10_eliminated_208 : decode cX10_eliminated 208 = .ok (.iload_n 3, 1) := by decide +kernel
theorem dX10_eliminated_209 : decode cX10_eliminated 209 = .ok (.ireturn, 1) := by decide +kernel
theorem dX10_answered_0 : decode cX10_answered 0 = .ok (.iconst 0, 1) := by decide +kernel
theorem dX10_answered_1 : decode cX10_answered 1 = .ok (.istore_n 2, 1) := by decide +kernel
theorem dX10_answered_2 : decode cX10_answered 2 = .ok (.iload_n 2, 1) := by decide +kernel
theorem dX10_answered_3 : decode cX10_answered 3 = .ok (.aload_n 0, 1) := by decide +kernel
theorem dX10_answered_4 : decode cX10_answered 4 = .ok (.getfield 44, 3) := by decide +kernel
theorem dX10_answered_7 : decode cX10_answered 7 = .ok (.if_icmp .ge 17, 3) := by decide +kernel
theorem dX10_answered_10 : decode cX10_answered 10 = .ok (.aload_n 0, 1) := by decide +kernel
theorem dX10_answered_11 : decode cX10_answered 11 = .ok (.bipush 100, 2) := by decide +kernel
theorem dX10_answered_13 : decode cX10_answered 13 = .ok (.iload_n 2, 1) := by decide +kernel
theorem dX10_answered_14 : decode cX10_answered 14 = .ok (.iadd, 1) := by decide +kernel
theorem dX10_answered_15 : decode cX10_answered 15 = .ok (.invokevirtual 48, 3) := by decide +kernel
theorem dX10_answered_18 : decode cX10_answered 18 = .ok (.iinc 2 1, 3) := by decide +kernel
theorem dX10_answered_21 : decode cX10_answered 21 = .ok (.goto (-19), 3) := by decide +kernel
theorem dX10_answered_24 : decode cX10_answered 24 = .ok (.iload_n 1, 1) := by decide +kernel
theorem dX10_answered_25 : decode cX10_answered 25 = .ok (.iconst 1, 1) := by decide +kernel
theorem dX10_answered_26 : decode cX10_answered 26 = .ok (.isub, 1) := by decide +kernel
theorem dX10_answered_27 : decode cX10_answered 27 = .ok (.istore_n 2, 1) := by decide +kernel
theorem dX10_answered_28 : decode cX10_answered 28 = .ok (.iload_n 2, 1) := by decide +kernel
theorem dX10_answered_29 : decode cX10_answered 29 = .ok (.ifCond .lt 118, 3) := by decide +kernel
theorem dX10_answered_32 : decode cX10_answered 32 = .ok (.aload_n 0, 1) := by decide +kernel
theorem dX10_answered_33 : decode cX10_answered 33 = .ok (.getfield 26, 3) := by decide +kernel
theorem dX10_answered_36 : decode cX10_answered 36 = .ok (.iload_n 2, 1) := by decide +kernel
theorem dX10_answered_37 : decode cX10_answered 37 = .ok (.iaload, 1) := by decide +kernel
theorem dX10_answered_38 : decode cX10_answered 38 = .ok (.istore_n 3, 1) := by decide +kernel
theorem dX10_answered_39 : decode cX10_answered 39 = .ok (.aload_n 0, 1) := by decide +kernel
theorem dX10_answered_40 : decode cX10_answered 40 = .ok (.bipush 70, 2) := by decide +kernel
theorem dX10_answered_42 : decode cX10_answered 42 = .ok (.bipush 6, 2) := by decide +kernel
theorem dX10_answered_44 : decode cX10_answered 44 = .ok (.iload_n 2, 1) := by decide +kernel
theorem dX10_answered_45 : decode cX10_answered 45 = .ok (.imul, 1) := by decide +kernel
theorem dX10_answered_46 : decode cX10_answered 46 = .ok (.iadd, 1) := by decide +kernel
theorem dX10_answered_47 : decode cX10_answered 47 = .ok (.aload_n 0, 1) := by decide +kernel
theorem dX10_answered_48 : decode cX10_answered 48 = .ok (.getfield 44, 3) := by decide +kernel
theorem dX10_answered_51 : decode cX10_answered 51 = .ok (.iadd, 1) := by decide +kernel
theorem dX10_answered_52 : decode cX10_answered 52 = .ok (.bipush 108, 2) := by decide +kernel
theorem dX10_answered_54 : decode cX10_answered 54 = .ok (.invokevirtual 126, 3) := by decide +kernel
theorem dX10_answered_57 : decode cX10_answered 57 = .ok (.iload_n 3, 1) := by decide +kernel
theorem dX10_answered_58 : decode cX10_answered 58 = .ok (.iconst 1, 1) := by decide +kernel
theorem dX10_answered_59 : decode cX10_answered 59 = .ok (.iadd, 1) := by decide +kernel
theorem dX10_answered_60 : decode cX10_answered 60 = .ok (.istore 4, 2) := by decide +kernel
theorem dX10_answered_62 : decode cX10_answered 62 = .ok (.iload 4, 2) := by decide +kernel
theorem dX10_answered_64 : decode cX10_answered 64 = .ok (.aload_n 0, 1) := by decide +kernel
theorem dX10_answered_65 : decode cX10_answered 65 = .ok (.getfield 44, 3) := by decide +kernel
theorem dX10_answered_68 : decode cX10_answered 68 = .ok (.if_icmp .ge 49, 3) := by decide +kernel
theorem dX10_answered_71 : decode cX10_answered 71 = .ok (.aload_n 0, 1) := by decide +kernel
theorem dX10_answered_72 : decode cX10_answered 72 = .ok (.bipush 70, 2) := by decide +kernel
theorem dX10_answered_74 : decode cX10_answered 74 = .ok (.bipush 6, 2) := by decide +kernel
theorem dX10_answered_76 : decode cX10_answered 76 = .ok (.iload_n 2, 1) := by decide +kernel
theorem dX10_answered_77 : decode cX10_answered 77 = .ok (.imul, 1) := by decide +kernel
theorem dX10_answered_78 : decode cX10_answered 78 = .ok (.iadd, 1) := by decide +kernel
theorem dX10_answered_79 : decode cX10_answered 79 = .ok (.iload 4, 2) := by decide +kernel
theorem dX10_answered_81 : decode cX10_answered 81 = .ok (.iadd, 1) := by decide +kernel
theorem dX10_answered_82 : decode cX10_answered 82 = .ok (.bipush 100, 2) := by decide +kernel
theorem dX10_answered_84 : decode cX10_answered 84 = .ok (.iload 4, 2) := by decide +kernel
theorem dX10_answered_86 : decode cX10_answered 86 = .ok (.iadd, 1) := by decide +kernel
theorem dX10_answered_87 : decode cX10_answered 87 = .ok (.bipush 107, 2) := by decide +kernel
theorem dX10_answered_89 : decode cX10_answered 89 = .ok (.invokevirtual 144, 3) := by decide +kernel
theorem dX10_answered_92 : decode cX10_answered 92 = .ok (.ifCond .eq 17, 3) := by decide +kernel
theorem dX10_answered_95 : decode cX10_answered 95 = .ok (.aload_n 0, 1) := by decide +kernel
theorem dX10_answered_96 : decode cX10_answered 96 = .ok (.bipush 108, 2) := by decide +kernel
theorem dX10_answered_98 : decode cX10_answered 98 = .ok (.bipush 107, 2) := by decide +kernel
theorem dX10_answered_100 : decode cX10_answered 100 = .ok (.bipush 108, 2) := by decide +kernel
theorem dX10_answered_102 : decode cX10_answered 102 = .ok (.iconst 1, 1) := by decide +kernel
theorem dX10_answered_103 : decode cX10_answered 103 = .ok (.invokevirtual 140, 3) := by decide +kernel
theorem dX10_answered_106 : decode cX10_answered 106 = .ok (.ifCond .ne 5, 3) := by decide +kernel
theorem dX10_answered_109 : decode cX10_answered 109 = .ok (.iconst 0, 1) := by decide +kernel
theorem dX10_answered_110 : decode cX10_answered 110 = .ok (.ireturn, 1) := by decide +kernel
theorem dX10_answered_111 : decode cX10_answered 111 = .ok (.iinc 4 1, 3) := by decide +kernel
theorem dX10_answered_114 : decode cX10_answered 114 = .ok (.goto (-52), 3) := by decide +kernel
theorem dX10_answered_117 : decode cX10_answered 117 = .ok (.aload_n 0, 1) := by decide +kernel
theorem dX10_answered_118 : decode cX10_answered 118 = .ok (.bipush 108, 2) := by decide +kernel
theorem dX10_answered_120 : decode cX10_answered 120 = .ok (.bipush 70, 2) := by decide +kernel
theorem dX10_answered_122 : decode cX10_answered 122 = .ok (.bipush 6, 2) := by decide +kernel
theorem dX10_answered_124 : decode cX10_answered 124 = .ok (.iload_n 2, 1) := by decide +kernel
theorem dX10_answered_125 : decode cX10_answered 125 = .ok (.imul, 1) := by decide +kernel
theorem dX10_answered_126 : decode cX10_answered 126 = .ok (.iadd, 1) := by decide +kernel
theorem dX10_answered_127 : decode cX10_answered 127 = .ok (.iload_n 3, 1) := by decide +kernel
theorem dX10_answered_128 : decode cX10_answered 128 = .ok (.iadd, 1) := by decide +kernel
theorem dX10_answered_129 : decode cX10_answered 129 = .ok (.bipush 100, 2) := by decide +kernel
theorem dX10_answered_131 : decode cX10_answered 131 = .ok (.iload_n 3, 1) := by decide +kernel
theorem dX10_answered_132 : decode cX10_answered 132 = .ok (.iadd, 1) := by decide +kernel
theorem dX10_answered_133 : decode cX10_answered 133 = .ok (.invokevirtual 147, 3) := by decide +kernel
theorem dX10_answered_136 : decode cX10_answered 136 = .ok (.ifCond .ne 5, 3) := by decide +kernel
theorem dX10_answered_139 : decode cX10_answered 139 = .ok (.iconst 0, 1) := by decide +kernel
theorem dX10_answered_140 : decode cX10_answered 140 = .ok (.ireturn, 1) := by decide +kernel
theorem dX10_answered_141 : decode cX10_answered 141 = .ok (.iinc 2 (-1), 3) := by decide +kernel
theorem dX10_answered_144 : decode cX10_answered 144 = .ok (.goto (-116), 3) := by decide +kernel
theorem dX10_answered_147 : decode cX10_answered 147 = .ok (.iconst 1, 1) := by decide +kernel
theorem dX10_answered_148 : decode cX10_answered 148 = .ok (.ireturn, 1) := by decide +kernel
theorem dX10_solve_0 : decode cX10_solve 0 = .ok (.aload_n 0, 1) := by decide +kernel
theorem dX10_solve_1 : decode cX10_solve 1 = .ok (.iconst 0, 1) := by decide +kernel
theorem dX10_solve_2 : decode cX10_solve 2 = .ok (.putfield 52, 3) := by decide +kernel
theorem dX10_solve_5 : decode cX10_solve 5 = .ok (.iload_n 1, 1) := by decide +kernel
theorem dX10_solve_6 : decode cX10_solve 6 = .ok (.iconst 0, 1) := by decide +kernel
theorem dX10_solve_7 : decode cX10_solve 7 = .ok (.iconst 1, 1) := by decide +kernel
theorem dX10_solve_8 : decode cX10_solve 8 = .ok (.invokestatic 119, 3) := by decide +kernel
theorem dX10_solve_11 : decode cX10_solve 11 = .ok (.ifCond .ne 5, 3) := by decide +kernel
theorem dX10_solve_14 : decode cX10_solve 14 = .ok (.iconst (-1), 1) := by decide +kernel
theorem dX10_solve_15 : decode cX10_solve 15 = .ok (.ireturn, 1) := by decide +kernel
theorem dX10_solve_16 : decode cX10_solve 16 = .ok (.aload_n 0, 1) := by decide +kernel
theorem dX10_solve_17 : decode cX10_solve 17 = .ok (.iconst 0, 1) := by decide +kernel
theorem dX10_solve_18 : decode cX10_solve 18 = .ok (.putfield 180, 3) := by decide +kernel
theorem dX10_solve_21 : decode cX10_solve 21 = .ok (.aload_n 0, 1) := by decide +kernel
theorem dX10_solve_22 : decode cX10_solve 22 = .ok (.iload_n 1, 1) := by decide +kernel
theorem dX10_solve_23 : decode cX10_solve 23 = .ok (.aload_n 0, 1) := by decide +kernel
theorem dX10_solve_24 : decode cX10_solve 24 = .ok (.getfield 44, 3) := by decide +kernel
theorem dX10_solve_27 : decode cX10_solve 27 = .ok (.invokevirtual 183, 3) := by decide +kernel
theorem dX10_solve_30 : decode cX10_solve 30 = .ok (.istore_n 2, 1) := by decide +kernel
theorem dX10_solve_31 : decode cX10_solve 31 = .ok (.iload_n 2, 1) := by decide +kernel
theorem dX10_solve_32 : decode cX10_solve 32 = .ok (.bipush (-3), 2) := by decide +kernel
theorem dX10_solve_34 : decode cX10_solve 34 = .ok (.if_icmp .ne 8, 3) := by decide +kernel
theorem dX10_solve_37 : decode cX10_solve 37 = .ok (.aload_n 0, 1) := by decide +kernel
theorem dX10_solve_38 : decode cX10_solve 38 = .ok (.invokevirtual 153, 3) := by decide +kernel
theorem dX10_solve_41 : decode cX10_solve 41 = .ok (.ireturn, 1) := by decide +kernel
theorem dX10_solve_42 : decode cX10_solve 42 = .ok (.aload_n 0, 1) := by decide +kernel
theorem dX10_solve_43 : decode cX10_solve 43 = .ok (.iconst 0, 1) := by decide +kernel
theorem dX10_solve_44 : decode cX10_solve 44 = .ok (.putfield 186, 3) := by decide +kernel
theorem dX10_solve_47 : decode cX10_solve 47 = .ok (.iload_n 2, 1) := by decide +kernel
theorem dX10_solve_48 : decode cX10_solve 48 = .ok (.istore_n 3, 1) := by decide +kernel
theorem dX10_solve_49 : decode cX10_solve 49 = .ok (.iload_n 3, 1) := by decide +kernel
theorem dX10_solve_50 : decode cX10_solve 50 = .ok (.aload_n 0, 1) := by decide +kernel
theorem dX10_solve_51 : decode cX10_solve 51 = .ok (.getfield 44, 3) := by decide +kernel
theorem dX10_solve_54 : decode cX10_solve 54 = .ok (.if_icmp .ge 44, 3) := by decide +kernel
theorem dX10_solve_57 : decode cX10_solve 57 = .ok (.aload_n 0, 1) := by decide +kernel
theorem dX10_solve_58 : decode cX10_solve 58 = .ok (.aload_n 0, 1) := by decide +kernel
theorem dX10_solve_59 : decode cX10_solve 59 = .ok (.getfield 186, 3) := by decide +kernel
theorem dX10_solve_62 : decode cX10_solve 62 = .ok (.ifCond .ne 22, 3) := by decide +kernel
theorem dX10_solve_65 : decode cX10_solve 65 = .ok (.aload_n 0, 1) := by decide +kernel
theorem dX10_solve_66 : decode cX10_solve 66 = .ok (.bipush 70, 2) := by decide +kernel
theorem dX10_solve_68 : decode cX10_solve 68 = .ok (.bipush 6, 2) := by decide +kernel
theorem dX10_solve_70 : decode cX10_solve 70 = .ok (.iload_n 3, 1) := by decide +kernel
theorem dX10_solve_71 : decode cX10_solve 71 = .ok (.imul, 1) := by decide +kernel
theorem dX10_solve_72 : decode cX10_solve 72 = .ok (.iadd, 1) := by decide +kernel
theorem dX10_solve_73 : decode cX10_solve 73 = .ok (.aload_n 0, 1) := by decide +kernel
theorem dX10_solve_74 : decode cX10_solve 74 = .ok (.getfield 44, 3) := by decide +kernel
theorem dX10_solve_77 : decode cX10_solve 77 = .ok (.iadd, 1) := by decide +kernel
theorem dX10_solve_78 : decode cX10_solve 78 = .ok (.invokevirtual 92, 3) := by decide +kernel
theorem dX10_solve_81 : decode cX10_solve 81 = .ok (.ifCond .ne 7, 3) := by decide +kernel
theorem dX10_solve_84 : decode cX10_solve 84 = .ok (.iconst 1, 1) := by decide +kernel
theorem dX10_solve_85 : decode cX10_solve 85 = .ok (.goto 4, 3) := by decide +kernel
theorem dX10_solve_88 : decode cX10_solve 88 = .ok (.iconst 0, 1) := by decide +kernel
theorem dX10_solve_89 : decode cX10_solve 89 = .ok (.putfield 186, 3) := by decide +kernel
theorem dX10_solve_92 : decode cX10_solve 92 = .ok (.iinc 3 1, 3) := by decide +kernel
theorem dX10_solve_95 : decode cX10_solve 95 = .ok (.goto (-46), 3) := by decide +kernel
theorem dX10_solve_98 : decode cX10_solve 98 = .ok (.aload_n 0, 1) := by decide +kernel
theorem dX10_solve_99 : decode cX10_solve 99 = .ok (.getfield 186, 3) := by decide +kernel
theorem dX10_solve_102 : decode cX10_solve 102 = .ok (.ifCond .ne 16, 3) := by decide +kernel
theorem dX10_solve_105 : decode cX10_solve 105 = .ok (.aload_n 0, 1) := by decide +kernel
theorem dX10_solve_106 : decode cX10_solve 106 = .ok (.iload_n 2, 1) := by decide +kernel
theorem dX10_solve_107 : decode cX10_solve 107 = .ok (.invokevirtual 189, 3) := by decide +kernel
theorem dX10_solve_110 : decode cX10_solve 110 = .ok (.ifCond .ne 8, 3) := by decide +kernel
theorem dX10_solve_113 : decode cX10_solve 113 = .ok (.aload_n 0, 1) := by decide +kernel
theorem dX10_solve_114 : decode cX10_solve 114 = .ok (.invokevirtual 153, 3) := by decide +kernel
theorem dX10_solve_117 : decode cX10_solve 117 = .ok (.ireturn, 1) := by decide +kernel
theorem dX10_solve_118 : decode cX10_solve 118 = .ok (.iconst 0, 1) := by decide +kernel
theorem dX10_solve_119 : decode cX10_solve 119 = .ok (.istore_n 3, 1) := by decide +kernel
theorem dX10_solve_120 : decode cX10_solve 120 = .ok (.iload_n 3, 1) := by decide +kernel
theorem dX10_solve_121 : decode cX10_solve 121 = .ok (.iload_n 2, 1) := by decide +kernel
theorem dX10_solve_122 : decode cX10_solve 122 = .ok (.if_icmp .ge 45, 3) := by decide +kernel
theorem dX10_solve_125 : decode cX10_solve 125 = .ok (.aload_n 0, 1) := by decide +kernel
theorem dX10_solve_126 : decode cX10_solve 126 = .ok (.getfield 17, 3) := by decide +kernel
theorem dX10_solve_129 : decode cX10_solve 129 = .ok (.iload_n 3, 1) := by decide +kernel
theorem dX10_solve_130 : decode cX10_solve 130 = .ok (.aload_n 0, 1) := by decide +kernel
theorem dX10_solve_131 : decode cX10_solve 131 = .ok (.getfield 26, 3) := by decide +kernel
theorem dX10_solve_134 : decode cX10_solve 134 = .ok (.iload_n 3, 1) := by decide +kernel
theorem dX10_solve_135 : decode cX10_solve 135 = .ok (.iaload, 1) := by decide +kernel
theorem dX10_solve_136 : decode cX10_solve 136 = .ok (.iastore, 1) := by decide +kernel
theorem dX10_solve_137 : decode cX10_solve 137 = .ok (.aload_n 0, 1) := by decide +kernel
theorem dX10_solve_138 : decode cX10_solve 138 = .ok (.getfield 20, 3) := by decide +kernel
theorem dX10_solve_141 : decode cX10_solve 141 = .ok (.iload_n 3, 1) := by decide +kernel
theorem dX10_solve_142 : decode cX10_solve 142 = .ok (.aload_n 0, 1) := by decide +kernel
theorem dX10_solve_143 : decode cX10_solve 143 = .ok (.getfield 29, 3) := by decide +kernel
theorem dX10_solve_146 : decode cX10_solve 146 = .ok (.iload_n 3, 1) := by decide +kernel
theorem dX10_solve_147 : decode cX10_solve 147 = .ok (.iaload, 1) := by decide +kernel
theorem dX10_solve_148 : decode cX10_solve 148 = .ok (.iastore, 1) := by decide +kernel
theorem dX10_solve_149 : decode cX10_solve 149 = .ok (.aload_n 0, 1) := by decide +kernel
theorem dX10_solve_150 : decode cX10_solve 150 = .ok (.getfield 23, 3) := by decide +kernel
theorem dX10_solve_153 : decode cX10_solve 153 = .ok (.iload_n 3, 1) := by decide +kernel
theorem dX10_solve_154 : decode cX10_solve 154 = .ok (.aload_n 0, 1) := by decide +kernel
theorem dX10_solve_155 : decode cX10_solve 155 = .ok (.getfield 32, 3) := by decide +kernel
theorem dX10_solve_158 : decode cX10_solve 158 = .ok (.iload_n 3, 1) := by decide +kernel
theorem dX10_solve_159 : decode cX10_solve 159 = .ok (.iaload, 1) := by decide +kernel
theorem dX10_solve_160 : decode cX10_solve 160 = .ok (.iastore, 1) := by decide +kernel
theorem dX10_solve_161 : decode cX10_solve 161 = .ok (.iinc 3 1, 3) := by decide +kernel
theorem dX10_solve_164 : decode cX10_solve 164 = .ok (.goto (-44), 3) := by decide +kernel
theorem dX10_solve_167 : decode cX10_solve 167 = .ok (.aload_n 0, 1) := by decide +kernel
theorem dX10_solve_168 : decode cX10_solve 168 = .ok (.iload_n 2, 1) := by decide +kernel
theorem dX10_solve_169 : decode cX10_solve 169 = .ok (.putfield 192, 3) := by decide +kernel
theorem dX10_solve_172 : decode cX10_solve 172 = .ok (.aload_n 0, 1) := by decide +kernel
theorem dX10_solve_173 : decode cX10_solve 173 = .ok (.iconst 1, 1) := by decide +kernel
theorem dX10_solve_174 : decode cX10_solve 174 = .ok (.putfield 180, 3) := by decide +kernel
theorem dX10_solve_177 : decode cX10_solve 177 = .ok (.aload_n 0, 1) := by decide +kernel
theorem dX10_solve_178 : decode cX10_solve 178 = .ok (.getfield 192, 3) := by decide +kernel
theorem dX10_solve_181 : decode cX10_solve 181 = .ok (.ireturn, 1) := by decide +kernel
theorem dX10_answers_0 : decode cX10_answers 0 = .ok (.aload_n 0, 1) := by decide +kernel
theorem dX10_answers_1 : decode cX10_answers 1 = .ok (.iconst 0, 1) := by decide +kernel
theorem dX10_answers_2 : decode cX10_answers 2 = .ok (.putfield 52, 3) := by decide +kernel
theorem dX10_answers_5 : decode cX10_answers 5 = .ok (.aload_n 0, 1) := by decide +kernel
theorem dX10_answers_6 : decode cX10_answers 6 = .ok (.getfield 180, 3) := by decide +kernel
theorem dX10_answers_9 : decode cX10_answers 9 = .ok (.ifCond .ne 8, 3) := by decide +kernel
theorem dX10_answers_12 : decode cX10_answers 12 = .ok (.bipush (-5), 2) := by decide +kernel
theorem dX10_answers_14 : decode cX10_answers 14 = .ok (.goto 30, 3) := by decide +kernel
theorem dX10_answers_17 : decode cX10_answers 17 = .ok (.aload_n 0, 1) := by decide +kernel
theorem dX10_answers_18 : decode cX10_answers 18 = .ok (.getfield 186, 3) := by decide +kernel
theorem dX10_answers_21 : decode cX10_answers 21 = .ok (.ifCond .eq 7, 3) := by decide +kernel
theorem dX10_answers_24 : decode cX10_answers 24 = .ok (.iconst 0, 1) := by decide +kernel
theorem dX10_answers_25 : decode cX10_answers 25 = .ok (.goto 19, 3) := by decide +kernel
theorem dX10_answers_28 : decode cX10_answers 28 = .ok (.aload_n 0, 1) := by decide +kernel
theorem dX10_answers_29 : decode cX10_answers 29 = .ok (.getfield 192, 3) := by decide +kernel
theorem dX10_answers_32 : decode cX10_answers 32 = .ok (.aload_n 0, 1) := by decide +kernel
theorem dX10_answers_33 : decode cX10_answers 33 = .ok (.getfield 44, 3) := by decide +kernel
theorem dX10_answers_36 : decode cX10_answers 36 = .ok (.if_icmp .ne 7, 3) := by decide +kernel
theorem dX10_answers_39 : decode cX10_answers 39 = .ok (.iconst 1, 1) := by decide +kernel
theorem dX10_answers_40 : decode cX10_answers 40 = .ok (.goto 4, 3) := by decide +kernel
theorem dX10_answers_43 : decode cX10_answers 43 = .ok (.iconst 2, 1) := by decide +kernel
theorem dX10_answers_44 : decode cX10_answers 44 = .ok (.ireturn, 1) := by decide +kernel
theorem dX10_unknown_0 : decode cX10_unknown 0 = .ok (.aload_n 0, 1) := by decide +kernel
theorem dX10_unknown_1 : decode cX10_unknown 1 = .ok (.iconst 0, 1) := by decide +kernel
theorem dX10_unknown_2 : decode cX10_unknown 2 = .ok (.putfield 52, 3) := by decide +kernel
theorem dX10_unknown_5 : decode cX10_unknown 5 = .ok (.aload_n 0, 1) := by decide +kernel
theorem dX10_unknown_6 : decode cX10_unknown 6 = .ok (.getfield 180, 3) := by decide +kernel
theorem dX10_unknown_9 : decode cX10_unknown 9 = .ok (.ifCond .eq 10, 3) := by decide +kernel
theorem dX10_unknown_12 : decode cX10_unknown 12 = .ok (.aload_n 0, 1) := by decide +kernel
theorem dX10_unknown_13 : decode cX10_unknown 13 = .ok (.getfield 186, 3) := by decide +kernel
theorem dX10_unknown_16 : decode cX10_unknown 16 = .ok (.ifCond .eq 6, 3) := by decide +kernel
theorem dX10_unknown_19 : decode cX10_unknown 19 = .ok (.bipush (-5), 2) := by decide +kernel
theorem dX10_unknown_21 : decode cX10_unknown 21 = .ok (.ireturn, 1) := by decide +kernel
theorem dX10_unknown_22 : decode cX10_unknown 22 = .ok (.iload_n 1, 1) := by decide +kernel
theorem dX10_unknown_23 : decode cX10_unknown 23 = .ok (.iconst 0, 1) := by decide +kernel
theorem dX10_unknown_24 : decode cX10_unknown 24 = .ok (.aload_n 0, 1) := by decide +kernel
theorem dX10_unknown_25 : decode cX10_unknown 25 = .ok (.getfield 44, 3) := by decide +kernel
theorem dX10_unknown_28 : decode cX10_unknown 28 = .ok (.iconst 1, 1) := by decide +kernel
theorem dX10_unknown_29 : decode cX10_unknown 29 = .ok (.isub, 1) := by decide +kernel
theorem dX10_unknown_30 : decode cX10_unknown 30 = .ok (.invokestatic 119, 3) := by decide +kernel
theorem dX10_unknown_33 : decode cX10_unknown 33 = .ok (.ifCond .ne 5, 3) := by decide +kernel
theorem dX10_unknown_36 : decode cX10_unknown 36 = .ok (.iconst (-1), 1) := by decide +kernel
theorem dX10_unknown_37 : decode cX10_unknown 37 = .ok (.ireturn, 1) := by decide +kernel
theorem dX10_unknown_38 : decode cX10_unknown 38 = .ok (.aload_n 0, 1) := by decide +kernel
theorem dX10_unknown_39 : decode cX10_unknown 39 = .ok (.getfield 116, 3) := by decide +kernel
theorem dX10_unknown_42 : decode cX10_unknown 42 = .ok (.bipush 40, 2) := by decide +kernel
theorem dX10_unknown_44 : decode cX10_unknown 44 = .ok (.if_icmp .ne 8, 3) := by decide +kernel
theorem dX10_unknown_47 : decode cX10_unknown 47 = .ok (.bipush (-4), 2) := by decide +kernel
theorem dX10_unknown_49 : decode cX10_unknown 49 = .ok (.goto 11, 3) := by decide +kernel
theorem dX10_unknown_52 : decode cX10_unknown 52 = .ok (.aload_n 0, 1) := by decide +kernel
theorem dX10_unknown_53 : decode cX10_unknown 53 = .ok (.bipush 100, 2) := by decide +kernel
theorem dX10_unknown_55 : decode cX10_unknown 55 = .ok (.iload_n 1, 1) := by decide +kernel
theorem dX10_unknown_56 : decode cX10_unknown 56 = .ok (.iadd, 1) := by decide +kernel
theorem dX10_unknown_57 : decode cX10_unknown 57 = .ok (.invokevirtual 150, 3) := by decide +kernel
theorem dX10_unknown_60 : decode cX10_unknown 60 = .ok (.ireturn, 1) := by decide +kernel
theorem dX10_pivot_0 : decode cX10_pivot 0 = .ok (.aload_n 0, 1) := by decide +kernel
theorem dX10_pivot_1 : decode cX10_pivot 1 = .ok (.iconst 0, 1) := by decide +kernel
theorem dX10_pivot_2 : decode cX10_pivot 2 = .ok (.putfield 52, 3) := by decide +kernel
theorem dX10_pivot_5 : decode cX10_pivot 5 = .ok (.aload_n 0, 1) := by decide +kernel
theorem dX10_pivot_6 : decode cX10_pivot 6 = .ok (.getfield 180, 3) := by decide +kernel
theorem dX10_pivot_9 : decode cX10_pivot 9 = .ok (.ifCond .ne 6, 3) := by decide +kernel
theorem dX10_pivot_12 : decode cX10_pivot 12 = .ok (.bipush (-5), 2) := by decide +kernel
theorem dX10_pivot_14 : decode cX10_pivot 14 = .ok (.ireturn, 1) := by decide +kernel
theorem dX10_pivot_15 : decode cX10_pivot 15 = .ok (.iload_n 1, 1) := by decide +kernel
theorem dX10_pivot_16 : decode cX10_pivot 16 = .ok (.iconst 0, 1) := by decide +kernel
theorem dX10_pivot_17 : decode cX10_pivot 17 = .ok (.aload_n 0, 1) := by decide +kernel
theorem dX10_pivot_18 : decode cX10_pivot 18 = .ok (.getfield 192, 3) := by decide +kernel
theorem dX10_pivot_21 : decode cX10_pivot 21 = .ok (.iconst 1, 1) := by decide +kernel
theorem dX10_pivot_22 : decode cX10_pivot 22 = .ok (.isub, 1) := by decide +kernel
theorem dX10_pivot_23 : decode cX10_pivot 23 = .ok (.invokestatic 119, 3) := by decide +kernel
theorem dX10_pivot_26 : decode cX10_pivot 26 = .ok (.ifCond .eq 12, 3) := by decide +kernel
theorem dX10_pivot_29 : decode cX10_pivot 29 = .ok (.iload_n 2, 1) := by decide +kernel
theorem dX10_pivot_30 : decode cX10_pivot 30 = .ok (.iconst 0, 1) := by decide +kernel
theorem dX10_pivot_31 : decode cX10_pivot 31 = .ok (.iconst 2, 1) := by decide +kernel
theorem dX10_pivot_32 : decode cX10_pivot 32 = .ok (.invokestatic 119, 3) := by decide +kernel
theorem dX10_pivot_35 : decode cX10_pivot 35 = .ok (.ifCond .ne 5, 3) := by decide +kernel
theorem dX10_pivot_38 : decode cX10_pivot 38 = .ok (.iconst (-1), 1) := by decide +kernel
theorem dX10_pivot_39 : decode cX10_pivot 39 = .ok (.ireturn, 1) := by decide +kernel
theorem dX10_pivot_40 : decode cX10_pivot 40 = .ok (.iload_n 2, 1) := by decide +kernel
theorem dX10_pivot_41 : decode cX10_pivot 41 = .ok (.ifCond .ne 12, 3) := by decide +kernel
theorem dX10_pivot_44 : decode cX10_pivot 44 = .ok (.aload_n 0, 1) := by decide +kernel
theorem dX10_pivot_45 : decode cX10_pivot 45 = .ok (.getfield 17, 3) := by decide +kernel
theorem dX10_pivot_48 : decode cX10_pivot 48 = .ok (.iload_n 1, 1) := by decide +kernel
theorem dX10_pivot_49 : decode cX10_pivot 49 = .ok (.iaload, 1) := by decide +kernel
theorem dX10_pivot_50 : decode cX10_pivot 50 = .ok (.goto 23, 3) := by decide +kernel
theorem dX10_pivot_53 : decode cX10_pivot 53 = .ok (.iload_n 2, 1) := by decide +kernel
theorem dX10_pivot_54 : decode cX10_pivot 54 = .ok (.iconst 1, 1) := by decide +kernel
theorem dX10_pivot_55 : decode cX10_pivot 55 = .ok (.if_icmp .ne 12, 3) := by decide +kernel
theorem dX10_pivot_58 : decode cX10_pivot 58 = .ok (.aload_n 0, 1) := by decide +kernel
theorem dX10_pivot_59 : decode cX10_pivot 59 = .ok (.getfield 20, 3) := by decide +kernel
theorem dX10_pivot_62 : decode cX10_pivot 62 = .ok (.iload_n 1, 1) := by decide +kernel
theorem dX10_pivot_63 : decode cX10_pivot 63 = .ok (.iaload, 1) := by decide +kernel
theorem dX10_pivot_64 : decode cX10_pivot 64 = .ok (.goto 9, 3) := by decide +kernel
theorem dX10_pivot_67 : decode cX10_pivot 67 = .ok (.aload_n 0, 1) := by decide +kernel
theorem dX10_pivot_68 : decode cX10_pivot 68 = .ok (.getfield 23, 3) := by decide +kernel
theorem dX10_pivot_71 : decode cX10_pivot 71 = .ok (.iload_n 1, 1) := by decide +kernel
theorem dX10_pivot_72 : decode cX10_pivot 72 = .ok (.iaload, 1) := by decide +kernel
theorem dX10_pivot_73 : decode cX10_pivot 73 = .ok (.ireturn, 1) := by decide +kernel
theorem dX10_holds_0 : decode cX10_holds 0 = .ok (.aload_n 0, 1) := by decide +kernel
theorem dX10_holds_1 : decode cX10_holds 1 = .ok (.iconst 0, 1) := by decide +kernel
theorem dX10_holds_2 : decode cX10_holds 2 = .ok (.putfield 52, 3) := by decide +kernel
theorem dX10_holds_5 : decode cX10_holds 5 = .ok (.aload_n 0, 1) := by decide +kernel
theorem dX10_holds_6 : decode cX10_holds 6 = .ok (.getfield 180, 3) := by decide +kernel
theorem dX10_holds_9 : decode cX10_holds 9 = .ok (.ifCond .eq 10, 3) := by decide +kernel
theorem dX10_holds_12 : decode cX10_holds 12 = .ok (.aload_n 0, 1) := by decide +kernel
theorem dX10_holds_13 : decode cX10_holds 13 = .ok (.getfield 186, 3) := by decide +kernel
theorem dX10_holds_16 : decode cX10_holds 16 = .ok (.ifCond .eq 6, 3) := by decide +kernel
theorem dX10_holds_19 : decode cX10_holds 19 = .ok (.bipush (-5), 2) := by decide +kernel
theorem dX10_holds_21 : decode cX10_holds 21 = .ok (.ireturn, 1) := by decide +kernel
theorem dX10_holds_22 : decode cX10_holds 22 = .ok (.iload_n 1, 1) := by decide +kernel
theorem dX10_holds_23 : decode cX10_holds 23 = .ok (.iconst 0, 1) := by decide +kernel
theorem dX10_holds_24 : decode cX10_holds 24 = .ok (.aload_n 0, 1) := by decide +kernel
theorem dX10_holds_25 : decode cX10_holds 25 = .ok (.getfield 44, 3) := by decide +kernel
theorem dX10_holds_28 : decode cX10_holds 28 = .ok (.iconst 1, 1) := by decide +kernel
theorem dX10_holds_29 : decode cX10_holds 29 = .ok (.isub, 1) := by decide +kernel
theorem dX10_holds_30 : decode cX10_holds 30 = .ok (.invokestatic 119, 3) := by decide +kernel
theorem dX10_holds_33 : decode cX10_holds 33 = .ok (.ifCond .ne 5, 3) := by decide +kernel
theorem dX10_holds_36 : decode cX10_holds 36 = .ok (.iconst (-1), 1) := by decide +kernel
theorem dX10_holds_37 : decode cX10_holds 37 = .ok (.ireturn, 1) := by decide +kernel
theorem dX10_holds_38 : decode cX10_holds 38 = .ok (.aload_n 0, 1) := by decide +kernel
theorem dX10_holds_39 : decode cX10_holds 39 = .ok (.bipush 108, 2) := by decide +kernel
theorem dX10_holds_41 : decode cX10_holds 41 = .ok (.invokevirtual 48, 3) := by decide +kernel
theorem dX10_holds_44 : decode cX10_holds 44 = .ok (.iconst 0, 1) := by decide +kernel
theorem dX10_holds_45 : decode cX10_holds 45 = .ok (.istore_n 2, 1) := by decide +kernel
theorem dX10_holds_46 : decode cX10_holds 46 = .ok (.iload_n 2, 1) := by decide +kernel
theorem dX10_holds_47 : decode cX10_holds 47 = .ok (.aload_n 0, 1) := by decide +kernel
theorem dX10_holds_48 : decode cX10_holds 48 = .ok (.getfield 44, 3) := by decide +kernel
theorem dX10_holds_51 : decode cX10_holds 51 = .ok (.if_icmp .ge 50, 3) := by decide +kernel
theorem dX10_holds_54 : decode cX10_holds 54 = .ok (.aload_n 0, 1) := by decide +kernel
theorem dX10_holds_55 : decode cX10_holds 55 = .ok (.bipush 40, 2) := by decide +kernel
theorem dX10_holds_57 : decode cX10_holds 57 = .ok (.bipush 6, 2) := by decide +kernel
theorem dX10_holds_59 : decode cX10_holds 59 = .ok (.iload_n 1, 1) := by decide +kernel
theorem dX10_holds_60 : decode cX10_holds 60 = .ok (.imul, 1) := by decide +kernel
theorem dX10_holds_61 : decode cX10_holds 61 = .ok (.iadd, 1) := by decide +kernel
theorem dX10_holds_62 : decode cX10_holds 62 = .ok (.iload_n 2, 1) := by decide +kernel
theorem dX10_holds_63 : decode cX10_holds 63 = .ok (.iadd, 1) := by decide +kernel
theorem dX10_holds_64 : decode cX10_holds 64 = .ok (.bipush 100, 2) := by decide +kernel
theorem dX10_holds_66 : decode cX10_holds 66 = .ok (.iload_n 2, 1) := by decide +kernel
theorem dX10_holds_67 : decode cX10_holds 67 = .ok (.iadd, 1) := by decide +kernel
theorem dX10_holds_68 : decode cX10_holds 68 = .ok (.bipush 107, 2) := by decide +kernel
theorem dX10_holds_70 : decode cX10_holds 70 = .ok (.invokevirtual 144, 3) := by decide +kernel
theorem dX10_holds_73 : decode cX10_holds 73 = .ok (.ifCond .eq 17, 3) := by decide +kernel
theorem dX10_holds_76 : decode cX10_holds 76 = .ok (.aload_n 0, 1) := by decide +kernel
theorem dX10_holds_77 : decode cX10_holds 77 = .ok (.bipush 108, 2) := by decide +kernel
theorem dX10_holds_79 : decode cX10_holds 79 = .ok (.bipush 107, 2) := by decide +kernel
theorem dX10_holds_81 : decode cX10_holds 81 = .ok (.bipush 108, 2) := by decide +kernel
theorem dX10_holds_83 : decode cX10_holds 83 = .ok (.iconst 0, 1) := by decide +kernel
theorem dX10_holds_84 : decode cX10_holds 84 = .ok (.invokevirtual 140, 3) := by decide +kernel
theorem dX10_holds_87 : decode cX10_holds 87 = .ok (.ifCond .ne 8, 3) := by decide +kernel
theorem dX10_holds_90 : decode cX10_holds 90 = .ok (.aload_n 0, 1) := by decide +kernel
theorem dX10_holds_91 : decode cX10_holds 91 = .ok (.invokevirtual 153, 3) := by decide +kernel
theorem dX10_holds_94 : decode cX10_holds 94 = .ok (.ireturn, 1) := by decide +kernel
theorem dX10_holds_95 : decode cX10_holds 95 = .ok (.iinc 2 1, 3) := by decide +kernel
theorem dX10_holds_98 : decode cX10_holds 98 = .ok (.goto (-52), 3) := by decide +kernel
theorem dX10_holds_101 : decode cX10_holds 101 = .ok (.bipush 40, 2) := by decide +kernel
theorem dX10_holds_103 : decode cX10_holds 103 = .ok (.bipush 6, 2) := by decide +kernel
theorem dX10_holds_105 : decode cX10_holds 105 = .ok (.iload_n 1, 1) := by decide +kernel
theorem dX10_holds_106 : decode cX10_holds 106 = .ok (.imul, 1) := by decide +kernel
theorem dX10_holds_107 : decode cX10_holds 107 = .ok (.iadd, 1) := by decide +kernel
theorem dX10_holds_108 : decode cX10_holds 108 = .ok (.aload_n 0, 1) := by decide +kernel
theorem dX10_holds_109 : decode cX10_holds 109 = .ok (.getfield 44, 3) := by decide +kernel
theorem dX10_holds_112 : decode cX10_holds 112 = .ok (.iadd, 1) := by decide +kernel
theorem dX10_holds_113 : decode cX10_holds 113 = .ok (.istore_n 2, 1) := by decide +kernel
theorem dX10_holds_114 : decode cX10_holds 114 = .ok (.aload_n 0, 1) := by decide +kernel
theorem dX10_holds_115 : decode cX10_holds 115 = .ok (.getfield 13, 3) := by decide +kernel
theorem dX10_holds_118 : decode cX10_holds 118 = .ok (.iload_n 2, 1) := by decide +kernel
theorem dX10_holds_119 : decode cX10_holds 119 = .ok (.baload, 1) := by decide +kernel
theorem dX10_holds_120 : decode cX10_holds 120 = .ok (.aload_n 0, 1) := by decide +kernel
theorem dX10_holds_121 : decode cX10_holds 121 = .ok (.getfield 13, 3) := by decide +kernel
theorem dX10_holds_124 : decode cX10_holds 124 = .ok (.bipush 108, 2) := by decide +kernel
theorem dX10_holds_126 : decode cX10_holds 126 = .ok (.baload, 1) := by decide +kernel
theorem dX10_holds_127 : decode cX10_holds 127 = .ok (.if_icmp .ne 35, 3) := by decide +kernel
theorem dX10_holds_130 : decode cX10_holds 130 = .ok (.aload_n 0, 1) := by decide +kernel
theorem dX10_holds_131 : decode cX10_holds 131 = .ok (.iconst 2, 1) := by decide +kernel
theorem dX10_holds_132 : decode cX10_holds 132 = .ok (.iload_n 2, 1) := by decide +kernel
theorem dX10_holds_133 : decode cX10_holds 133 = .ok (.imul, 1) := by decide +kernel
theorem dX10_holds_134 : decode cX10_holds 134 = .ok (.sipush 216, 3) := by decide +kernel
theorem dX10_holds_137 : decode cX10_holds 137 = .ok (.invokevirtual 76, 3) := by decide +kernel
theorem dX10_holds_140 : decode cX10_holds 140 = .ok (.ifCond .ne 22, 3) := by decide +kernel
theorem dX10_holds_143 : decode cX10_holds 143 = .ok (.aload_n 0, 1) := by decide +kernel
theorem dX10_holds_144 : decode cX10_holds 144 = .ok (.iconst 2, 1) := by decide +kernel
theorem dX10_holds_145 : decode cX10_holds 145 = .ok (.iload_n 2, 1) := by decide +kernel
theorem dX10_holds_146 : decode cX10_holds 146 = .ok (.imul, 1) := by decide +kernel
theorem dX10_holds_147 : decode cX10_holds 147 = .ok (.iconst 1, 1) := by decide +kernel
theorem dX10_holds_148 : decode cX10_holds 148 = .ok (.iadd, 1) := by decide +kernel
theorem dX10_holds_149 : decode cX10_holds 149 = .ok (.sipush 217, 3) := by decide +kernel
theorem dX10_holds_152 : decode cX10_holds 152 = .ok (.invokevirtual 76, 3) := by decide +kernel
theorem dX10_holds_155 : decode cX10_holds 155 = .ok (.ifCond .ne 7, 3) := by decide +kernel
theorem dX10_holds_158 : decode cX10_holds 158 = .ok (.iconst 1, 1) := by decide +kernel
theorem dX10_holds_159 : decode cX10_holds 159 = .ok (.goto 4, 3) := by decide +kernel
theorem dX10_holds_162 : decode cX10_holds 162 = .ok (.iconst 0, 1) := by decide +kernel
theorem dX10_holds_163 : decode cX10_holds 163 = .ok (.ireturn, 1) := by decide +kernel
theorem dX10_determinant_0 : decode cX10_determinant 0 = .ok (.aload_n 0, 1) := by decide +kernel
theorem dX10_determinant_1 : decode cX10_determinant 1 = .ok (.iconst 0, 1) := by decide +kernel
theorem dX10_determinant_2 : decode cX10_determinant 2 = .ok (.putfield 52, 3) := by decide +kernel
theorem dX10_determinant_5 : decode cX10_determinant 5 = .ok (.iload_n 1, 1) := by decide +kernel
theorem dX10_determinant_6 : decode cX10_determinant 6 = .ok (.iconst 0, 1) := by decide +kernel
theorem dX10_determinant_7 : decode cX10_determinant 7 = .ok (.iconst 2, 1) := by decide +kernel
theorem dX10_determinant_8 : decode cX10_determinant 8 = .ok (.invokestatic 119, 3) := by decide +kernel
theorem dX10_determinant_11 : decode cX10_determinant 11 = .ok (.ifCond .ne 5, 3) := by decide +kernel
theorem dX10_determinant_14 : decode cX10_determinant 14 = .ok (.iconst (-1), 1) := by decide +kernel
theorem dX10_determinant_15 : decode cX10_determinant 15 = .ok (.ireturn, 1) := by decide +kernel
theorem dX10_determinant_16 : decode cX10_determinant 16 = .ok (.aload_n 0, 1) := by decide +kernel
theorem dX10_determinant_17 : decode cX10_determinant 17 = .ok (.getfield 116, 3) := by decide +kernel
theorem dX10_determinant_20 : decode cX10_determinant 20 = .ok (.bipush 40, 2) := by decide +kernel
theorem dX10_determinant_22 : decode cX10_determinant 22 = .ok (.if_icmp .ne 6, 3) := by decide +kernel
theorem dX10_determinant_25 : decode cX10_determinant 25 = .ok (.bipush (-4), 2) := by decide +kernel
theorem dX10_determinant_27 : decode cX10_determinant 27 = .ok (.ireturn, 1) := by decide +kernel
theorem dX10_determinant_28 : decode cX10_determinant 28 = .ok (.iload_n 1, 1) := by decide +kernel
theorem dX10_determinant_29 : decode cX10_determinant 29 = .ok (.iconst 2, 1) := by decide +kernel
theorem dX10_determinant_30 : decode cX10_determinant 30 = .ok (.if_icmp .ne 10, 3) := by decide +kernel
theorem dX10_determinant_33 : decode cX10_determinant 33 = .ok (.aload_n 0, 1) := by decide +kernel
theorem dX10_determinant_34 : decode cX10_determinant 34 = .ok (.invokevirtual 195, 3) := by decide +kernel
theorem dX10_determinant_37 : decode cX10_determinant 37 = .ok (.goto 8, 3) := by decide +kernel
theorem dX10_determinant_40 : decode cX10_determinant 40 = .ok (.aload_n 0, 1) := by decide +kernel
theorem dX10_determinant_41 : decode cX10_determinant 41 = .ok (.iload_n 1, 1) := by decide +kernel
theorem dX10_determinant_42 : decode cX10_determinant 42 = .ok (.invokevirtual 199, 3) := by decide +kernel
theorem dX10_determinant_45 : decode cX10_determinant 45 = .ok (.istore_n 2, 1) := by decide +kernel
theorem dX10_determinant_46 : decode cX10_determinant 46 = .ok (.iload_n 2, 1) := by decide +kernel
theorem dX10_determinant_47 : decode cX10_determinant 47 = .ok (.ifCond .eq 12, 3) := by decide +kernel
theorem dX10_determinant_50 : decode cX10_determinant 50 = .ok (.aload_n 0, 1) := by decide +kernel
theorem dX10_determinant_51 : decode cX10_determinant 51 = .ok (.bipush 105, 2) := by decide +kernel
theorem dX10_determinant_53 : decode cX10_determinant 53 = .ok (.invokevirtual 150, 3) := by decide +kernel
theorem dX10_determinant_56 : decode cX10_determinant 56 = .ok (.goto 7, 3) := by decide +kernel
theorem dX10_determinant_59 : decode cX10_determinant 59 = .ok (.aload_n 0, 1) := by decide +kernel
theorem dX10_determinant_60 : decode cX10_determinant 60 = .ok (.invokevirtual 153, 3) := by decide +kernel
theorem dX10_determinant_63 : decode cX10_determinant 63 = .ok (.ireturn, 1) := by decide +kernel
theorem dX10_byPivots_0 : decode cX10_byPivots 0 = .ok (.aload_n 0, 1) := by decide +kernel
theorem dX10_byPivots_1 : decode cX10_byPivots 1 = .ok (.iload_n 1, 1) := by decide +kernel
theorem dX10_byPivots_2 : decode cX10_byPivots 2 = .ok (.aload_n 0, 1) := by decide +kernel
theorem dX10_byPivots_3 : decode cX10_byPivots 3 = .ok (.getfield 44, 3) := by decide +kernel
theorem dX10_byPivots_6 : decode cX10_byPivots 6 = .ok (.iconst 1, 1) := by decide +kernel
theorem dX10_byPivots_7 : decode cX10_byPivots 7 = .ok (.isub, 1) := by decide +kernel
theorem dX10_byPivots_8 : decode cX10_byPivots 8 = .ok (.invokevirtual 183, 3) := by decide +kernel
theorem dX10_byPivots_11 : decode cX10_byPivots 11 = .ok (.istore_n 2, 1) := by decide +kernel
theorem dX10_byPivots_12 : decode cX10_byPivots 12 = .ok (.iload_n 2, 1) := by decide +kernel
theorem dX10_byPivots_13 : decode cX10_byPivots 13 = .ok (.bipush (-3), 2) := by decide +kernel
theorem dX10_byPivots_15 : decode cX10_byPivots 15 = .ok (.if_icmp .ne 5, 3) := by decide +kernel
theorem dX10_byPivots_18 : decode cX10_byPivots 18 = .ok (.iconst 0, 1) := by decide +kernel
theorem dX10_byPivots_19 : decode cX10_byPivots 19 = .ok (.ireturn, 1) := by decide +kernel
theorem dX10_byPivots_20 : decode cX10_byPivots 20 = .ok (.aload_n 0, 1) := by decide +kernel
theorem dX10_byPivots_21 : decode cX10_byPivots 21 = .ok (.getfield 167, 3) := by decide +kernel
theorem dX10_byPivots_24 : decode cX10_byPivots 24 = .ok (.ifCond .eq 11, 3) := by decide +kernel
theorem dX10_byPivots_27 : decode cX10_byPivots 27 = .ok (.aload_n 0, 1) := by decide +kernel
theorem dX10_byPivots_28 : decode cX10_byPivots 28 = .ok (.bipush 105, 2) := by decide +kernel
theorem dX10_byPivots_30 : decode cX10_byPivots 30 = .ok (.invokevirtual 48, 3) := by decide +kernel
theorem dX10_byPivots_33 : decode cX10_byPivots 33 = .ok (.iconst 1, 1) := by decide +kernel
theorem dX10_byPivots_34 : decode cX10_byPivots 34 = .ok (.ireturn, 1) := by decide +kernel
theorem dX10_byPivots_35 : decode cX10_byPivots 35 = .ok (.aload_n 0, 1) := by decide +kernel
theorem dX10_byPivots_36 : decode cX10_byPivots 36 = .ok (.bipush 70, 2) := by decide +kernel
theorem dX10_byPivots_38 : decode cX10_byPivots 38 = .ok (.bipush 105, 2) := by decide +kernel
theorem dX10_byPivots_40 : decode cX10_byPivots 40 = .ok (.invokevirtual 126, 3) := by decide +kernel
theorem dX10_byPivots_43 : decode cX10_byPivots 43 = .ok (.iconst 1, 1) := by decide +kernel
theorem dX10_byPivots_44 : decode cX10_byPivots 44 = .ok (.istore_n 3, 1) := by decide +kernel
theorem dX10_byPivots_45 : decode cX10_byPivots 45 = .ok (.iload_n 3, 1) := by decide +kernel
theorem dX10_byPivots_46 : decode cX10_byPivots 46 = .ok (.aload_n 0, 1) := by decide +kernel
theorem dX10_byPivots_47 : decode cX10_byPivots 47 = .ok (.getfield 44, 3) := by decide +kernel
theorem dX10_byPivots_50 : decode cX10_byPivots 50 = .ok (.if_icmp .ge 29, 3) := by decide +kernel
theorem dX10_byPivots_53 : decode cX10_byPivots 53 = .ok (.aload_n 0, 1) := by decide +kernel
theorem dX10_byPivots_54 : decode cX10_byPivots 54 = .ok (.bipush 105, 2) := by decide +kernel
theorem dX10_byPivots_56 : decode cX10_byPivots 56 = .ok (.bipush 70, 2) := by decide +kernel
theorem dX10_byPivots_58 : decode cX10_byPivots 58 = .ok (.bipush 7, 2) := by decide +kernel
theorem dX10_byPivots_60 : decode cX10_byPivots 60 = .ok (.iload_n 3, 1) := by decide +kernel
theorem dX10_byPivots_61 : decode cX10_byPivots 61 = .ok (.imul, 1) := by decide +kernel
theorem dX10_byPivots_62 : decode cX10_byPivots 62 = .ok (.iadd, 1) := by decide +kernel
theorem dX10_byPivots_63 : decode cX10_byPivots 63 = .ok (.bipush 105, 2) := by decide +kernel
theorem dX10_byPivots_65 : decode cX10_byPivots 65 = .ok (.invokevirtual 144, 3) := by decide +kernel
theorem dX10_byPivots_68 : decode cX10_byPivots 68 = .ok (.ifCond .ne 5, 3) := by decide +kernel
theorem dX10_byPivots_71 : decode cX10_byPivots 71 = .ok (.iconst 0, 1) := by decide +kernel
theorem dX10_byPivots_72 : decode cX10_byPivots 72 = .ok (.ireturn, 1) := by decide +kernel
theorem dX10_byPivots_73 : decode cX10_byPivots 73 = .ok (.iinc 3 1, 3) := by decide +kernel
theorem dX10_byPivots_76 : decode cX10_byPivots 76 = .ok (.goto (-31), 3) := by decide +kernel
theorem dX10_byPivots_79 : decode cX10_byPivots 79 = .ok (.aload_n 0, 1) := by decide +kernel
theorem dX10_byPivots_80 : decode cX10_byPivots 80 = .ok (.getfield 13, 3) := by decide +kernel
theorem dX10_byPivots_83 : decode cX10_byPivots 83 = .ok (.bipush 105, 2) := by decide +kernel
theorem dX10_byPivots_85 : decode cX10_byPivots 85 = .ok (.aload_n 0, 1) := by decide +kernel
theorem dX10_byPivots_86 : decode cX10_byPivots 86 = .ok (.getfield 13, 3) := by decide +kernel
theorem dX10_byPivots_89 : decode cX10_byPivots 89 = .ok (.bipush 105, 2) := by decide +kernel
theorem dX10_byPivots_91 : decode cX10_byPivots 91 = .ok (.baload, 1) := by decide +kernel
theorem dX10_byPivots_92 : decode cX10_byPivots 92 = .ok (.aload_n 0, 1) := by decide +kernel
theorem dX10_byPivots_93 : decode cX10_byPivots 93 = .ok (.getfield 163, 3) := by decide +kernel
theorem dX10_byPivots_96 : decode cX10_byPivots 96 = .ok (.if_icmp .eq 7, 3) := by decide +kernel
theorem dX10_byPivots_99 : decode cX10_byPivots 99 = .ok (.iconst 1, 1) := by decide +kernel
theorem dX10_byPivots_100 : decode cX10_byPivots 100 = .ok (.goto 4, 3) := by decide +kernel
theorem dX10_byPivots_103 : decode cX10_byPivots 103 = .ok (.iconst 0, 1) := by decide +kernel
theorem dX10_byPivots_104 : decode cX10_byPivots 104 = .ok (.bastore, 1) := by decide +kernel
theorem dX10_byPivots_105 : decode cX10_byPivots 105 = .ok (.iconst 1, 1) := by decide +kernel
theorem dX10_byPivots_106 : decode cX10_byPivots 106 = .ok (.ireturn, 1) := by decide +kernel
theorem dX10_byOrders_0 : decode cX10_byOrders 0 = .ok (.iconst 0, 1) := by decide +kernel
theorem dX10_byOrders_1 : decode cX10_byOrders 1 = .ok (.istore_n 1, 1) := by decide +kernel
theorem dX10_byOrders_2 : decode cX10_byOrders 2 = .ok (.iload_n 1, 1) := by decide +kernel
theorem dX10_byOrders_3 : decode cX10_byOrders 3 = .ok (.aload_n 0, 1) := by decide +kernel
theorem dX10_byOrders_4 : decode cX10_byOrders 4 = .ok (.getfield 44, 3) := by decide +kernel
theorem dX10_byOrders_7 : decode cX10_byOrders 7 = .ok (.if_icmp .ge 16, 3) := by decide +kernel
theorem dX10_byOrders_10 : decode cX10_byOrders 10 = .ok (.aload_n 0, 1) := by decide +kernel
theorem dX10_byOrders_11 : decode cX10_byOrders 11 = .ok (.getfield 35, 3) := by decide +kernel
theorem dX10_byOrders_14 : decode cX10_byOrders 14 = .ok (.iload_n 1, 1) := by decide +kernel
theorem dX10_byOrders_15 : decode cX10_byOrders 15 = .ok (.iload_n 1, 1) := by decide +kernel
theorem dX10_byOrders_16 : decode cX10_byOrders 16 = .ok (.iastore, 1) := by decide +kernel
theorem dX10_byOrders_17 : decode cX10_byOrders 17 = .ok (.iinc 1 1, 3) := by decide +kernel
theorem dX10_byOrders_20 : decode cX10_byOrders 20 = .ok (.goto (-18), 3) := by decide +kernel
theorem dX10_byOrders_23 : decode cX10_byOrders 23 = .ok (.aload_n 0, 1) := by decide +kernel
theorem dX10_byOrders_24 : decode cX10_byOrders 24 = .ok (.bipush 108, 2) := by decide +kernel
theorem dX10_byOrders_26 : decode cX10_byOrders 26 = .ok (.invokevirtual 48, 3) := by decide +kernel
theorem dX10_byOrders_29 : decode cX10_byOrders 29 = .ok (.iconst 1, 1) := by decide +kernel
theorem dX10_byOrders_30 : decode cX10_byOrders 30 = .ok (.istore_n 1, 1) := by decide +kernel
theorem dX10_byOrders_31 : decode cX10_byOrders 31 = .ok (.iload_n 1, 1) := by decide +kernel
theorem dX10_byOrders_32 : decode cX10_byOrders 32 = .ok (.ifCond .eq 73, 3) := by decide +kernel
theorem dX10_byOrders_35 : decode cX10_byOrders 35 = .ok (.iconst 1, 1) := by decide +kernel
theorem dX10_byOrders_36 : decode cX10_byOrders 36 = .ok (.istore_n 2, 1) := by decide +kernel
theorem dX10_byOrders_37 : decode cX10_byOrders 37 = .ok (.iconst 0, 1) := by decide +kernel
theorem dX10_byOrders_38 : decode cX10_byOrders 38 = .ok (.istore_n 3, 1) := by decide +kernel
theorem dX10_byOrders_39 : decode cX10_byOrders 39 = .ok (.iload_n 3, 1) := by decide +kernel
theorem dX10_byOrders_40 : decode cX10_byOrders 40 = .ok (.aload_n 0, 1) := by decide +kernel
theorem dX10_byOrders_41 : decode cX10_byOrders 41 = .ok (.getfield 44, 3) := by decide +kernel
theorem dX10_byOrders_44 : decode cX10_byOrders 44 = .ok (.if_icmp .ge 40, 3) := by decide +kernel
theorem dX10_byOrders_47 : decode cX10_byOrders 47 = .ok (.iload_n 2, 1) := by decide +kernel
theorem dX10_byOrders_48 : decode cX10_byOrders 48 = .ok (.ifCond .eq 28, 3) := by decide +kernel
theorem dX10_byOrders_51 : decode cX10_byOrders 51 = .ok (.aload_n 0, 1) := by decide +kernel
theorem dX10_byOrders_52 : decode cX10_byOrders 52 = .ok (.bipush 40, 2) := by decide +kernel
theorem dX10_byOrders_54 : decode cX10_byOrders 54 = .ok (.bipush 6, 2) := by decide +kernel
theorem dX10_byOrders_56 : decode cX10_byOrders 56 = .ok (.iload_n 3, 1) := by decide +kernel
theorem dX10_byOrders_57 : decode cX10_byOrders 57 = .ok (.imul, 1) := by decide +kernel
theorem dX10_byOrders_58 : decode cX10_byOrders 58 = .ok (.iadd, 1) := by decide +kernel
theorem dX10_byOrders_59 : decode cX10_byOrders 59 = .ok (.aload_n 0, 1) := by decide +kernel
theorem dX10_byOrders_60 : decode cX10_byOrders 60 = .ok (.getfield 35, 3) := by decide +kernel
theorem dX10_byOrders_63 : decode cX10_byOrders 63 = .ok (.iload_n 3, 1) := by decide +kernel
theorem dX10_byOrders_64 : decode cX10_byOrders 64 = .ok (.iaload, 1) := by decide +kernel
theorem dX10_byOrders_65 : decode cX10_byOrders 65 = .ok (.iadd, 1) := by decide +kernel
theorem dX10_byOrders_66 : decode cX10_byOrders 66 = .ok (.invokevirtual 92, 3) := by decide +kernel
theorem dX10_byOrders_69 : decode cX10_byOrders 69 = .ok (.ifCond .ne 7, 3) := by decide +kernel
theorem dX10_byOrders_72 : decode cX10_byOrders 72 = .ok (.iconst 1, 1) := by decide +kernel
theorem dX10_byOrders_73 : decode cX10_byOrders 73 = .ok (.goto 4, 3) := by decide +kernel
theorem dX10_byOrders_76 : decode cX10_byOrders 76 = .ok (.iconst 0, 1) := by decide +kernel
theorem dX10_byOrders_77 : decode cX10_byOrders 77 = .ok (.istore_n 2, 1) := by decide +kernel
theorem dX10_byOrders_78 : decode cX10_byOrders 78 = .ok (.iinc 3 1, 3) := by decide +kernel
theorem dX10_byOrders_81 : decode cX10_byOrders 81 = .ok (.goto (-42), 3) := by decide +kernel
theorem dX10_byOrders_84 : decode cX10_byOrders 84 = .ok (.iload_n 2, 1) := by decide +kernel
theorem dX10_byOrders_85 : decode cX10_byOrders 85 = .ok (.ifCond .eq 12, 3) := by decide +kernel
theorem dX10_byOrders_88 : decode cX10_byOrders 88 = .ok (.aload_n 0, 1) := by decide +kernel
theorem dX10_byOrders_89 : decode cX10_byOrders 89 = .ok (.invokevirtual 202, 3) := by decide +kernel
theorem dX10_byOrders_92 : decode cX10_byOrders 92 = .ok (.ifCond .ne 5, 3) := by decide +kernel
theorem dX10_byOrders_95 : decode cX10_byOrders 95 = .ok (.iconst 0, 1) := by decide +kernel
theorem dX10_byOrders_96 : decode cX10_byOrders 96 = .ok (.ireturn, 1) := by decide +kernel
theorem dX10_byOrders_97 : decode cX10_byOrders 97 = .ok (.aload_n 0, 1) := by decide +kernel
theorem dX10_byOrders_98 : decode cX10_byOrders 98 = .ok (.invokevirtual 205, 3) := by decide +kernel
theorem dX10_byOrders_101 : decode cX10_byOrders 101 = .ok (.istore_n 1, 1) := by decide +kernel
theorem dX10_byOrders_102 : decode cX10_byOrders 102 = .ok (.goto (-71), 3) := by decide +kernel
theorem dX10_byOrders_105 : decode cX10_byOrders 105 = .ok (.aload_n 0, 1) := by decide +kernel
theorem dX10_byOrders_106 : decode cX10_byOrders 106 = .ok (.bipush 108, 2) := by decide +kernel
theorem dX10_byOrders_108 : decode cX10_byOrders 108 = .ok (.bipush 105, 2) := by decide +kernel
theorem dX10_byOrders_110 : decode cX10_byOrders 110 = .ok (.invokevirtual 126, 3) := by decide +kernel
theorem dX10_byOrders_113 : decode cX10_byOrders 113 = .ok (.iconst 1, 1) := by decide +kernel
theorem dX10_byOrders_114 : decode cX10_byOrders 114 = .ok (.ireturn, 1) := by decide +kernel
theorem dX10_added_0 : decode cX10_added 0 = .ok (.aload_n 0, 1) := by decide +kernel
theorem dX10_added_1 : decode cX10_added 1 = .ok (.bipush 40, 2) := by decide +kernel
theorem dX10_added_3 : decode cX10_added 3 = .ok (.aload_n 0, 1) := by decide +kernel
theorem dX10_added_4 : decode cX10_added 4 = .ok (.getfield 35, 3) := by decide +kernel
theorem dX10_added_7 : decode cX10_added 7 = .ok (.iconst 0, 1) := by decide +kernel
theorem dX10_added_8 : decode cX10_added 8 = .ok (.iaload, 1) := by decide +kernel
theorem dX10_added_9 : decode cX10_added 9 = .ok (.iadd, 1) := by decide +kernel
theorem dX10_added_10 : decode cX10_added 10 = .ok (.bipush 107, 2) := by decide +kernel
theorem dX10_added_12 : decode cX10_added 12 = .ok (.invokevirtual 126, 3) := by decide +kernel
theorem dX10_added_15 : decode cX10_added 15 = .ok (.iconst 0, 1) := by decide +kernel
theorem dX10_added_16 : decode cX10_added 16 = .ok (.istore_n 1, 1) := by decide +kernel
theorem dX10_added_17 : decode cX10_added 17 = .ok (.iconst 1, 1) := by decide +kernel
theorem dX10_added_18 : decode cX10_added 18 = .ok (.istore_n 2, 1) := by decide +kernel
theorem dX10_added_19 : decode cX10_added 19 = .ok (.iload_n 2, 1) := by decide +kernel
theorem dX10_added_20 : decode cX10_added 20 = .ok (.aload_n 0, 1) := by decide +kernel
theorem dX10_added_21 : decode cX10_added 21 = .ok (.getfield 44, 3) := by decide +kernel
theorem dX10_added_24 : decode cX10_added 24 = .ok (.if_icmp .ge 79, 3) := by decide +kernel
theorem dX10_added_27 : decode cX10_added 27 = .ok (.aload_n 0, 1) := by decide +kernel
theorem dX10_added_28 : decode cX10_added 28 = .ok (.bipush 107, 2) := by decide +kernel
theorem dX10_added_30 : decode cX10_added 30 = .ok (.bipush 40, 2) := by decide +kernel
theorem dX10_added_32 : decode cX10_added 32 = .ok (.bipush 6, 2) := by decide +kernel
theorem dX10_added_34 : decode cX10_added 34 = .ok (.iload_n 2, 1) := by decide +kernel
theorem dX10_added_35 : decode cX10_added 35 = .ok (.imul, 1) := by decide +kernel
theorem dX10_added_36 : decode cX10_added 36 = .ok (.iadd, 1) := by decide +kernel
theorem dX10_added_37 : decode cX10_added 37 = .ok (.aload_n 0, 1) := by decide +kernel
theorem dX10_added_38 : decode cX10_added 38 = .ok (.getfield 35, 3) := by decide +kernel
theorem dX10_added_41 : decode cX10_added 41 = .ok (.iload_n 2, 1) := by decide +kernel
theorem dX10_added_42 : decode cX10_added 42 = .ok (.iaload, 1) := by decide +kernel
theorem dX10_added_43 : decode cX10_added 43 = .ok (.iadd, 1) := by decide +kernel
theorem dX10_added_44 : decode cX10_added 44 = .ok (.bipush 107, 2) := by decide +kernel
theorem dX10_added_46 : decode cX10_added 46 = .ok (.invokevirtual 144, 3) := by decide +kernel
theorem dX10_added_49 : decode cX10_added 49 = .ok (.ifCond .ne 5, 3) := by decide +kernel
theorem dX10_added_52 : decode cX10_added 52 = .ok (.iconst 0, 1) := by decide +kernel
theorem dX10_added_53 : decode cX10_added 53 = .ok (.ireturn, 1) := by decide +kernel
theorem dX10_added_54 : decode cX10_added 54 = .ok (.iconst 0, 1) := by decide +kernel
theorem dX10_added_55 : decode cX10_added 55 = .ok (.istore_n 3, 1) := by decide +kernel
theorem dX10_added_56 : decode cX10_added 56 = .ok (.iload_n 3, 1) := by decide +kernel
theorem dX10_added_57 : decode cX10_added 57 = .ok (.iload_n 2, 1) := by decide +kernel
theorem dX10_added_58 : decode cX10_added 58 = .ok (.if_icmp .ge 39, 3) := by decide +kernel
theorem dX10_added_61 : decode cX10_added 61 = .ok (.iload_n 1, 1) := by decide +kernel
theorem dX10_added_62 : decode cX10_added 62 = .ok (.aload_n 0, 1) := by decide +kernel
theorem dX10_added_63 : decode cX10_added 63 = .ok (.getfield 35, 3) := by decide +kernel
theorem dX10_added_66 : decode cX10_added 66 = .ok (.iload_n 3, 1) := by decide +kernel
theorem dX10_added_67 : decode cX10_added 67 = .ok (.iaload, 1) := by decide +kernel
theorem dX10_added_68 : decode cX10_added 68 = .ok (.aload_n 0, 1) := by decide +kernel
theorem dX10_added_69 : decode cX10_added 69 = .ok (.getfield 35, 3) := by decide +kernel
theorem dX10_added_72 : decode cX10_added 72 = .ok (.iload_n 2, 1) := by decide +kernel
theorem dX10_added_73 : decode cX10_added 73 = .ok (.iaload, 1) := by decide +kernel
theorem dX10_added_74 : decode cX10_added 74 = .ok (.if_icmp .le 7, 3) := by decide +kernel
theorem dX10_added_77 : decode cX10_added 77 = .ok (.iconst 1, 1) := by decide +kernel
theorem dX10_added_78 : decode cX10_added 78 = .ok (.goto 4, 3) := by decide +kernel
theorem dX10_added_81 : decode cX10_added 81 = .ok (.iconst 0, 1) := by decide +kernel
theorem dX10_added_82 : decode cX10_added 82 = .ok (.if_icmp .eq 7, 3) := by decide +kernel
theorem dX10_added_85 : decode cX10_added 85 = .ok (.iconst 1, 1) := by decide +kernel
theorem dX10_added_86 : decode cX10_added 86 = .ok (.goto 4, 3) := by decide +kernel
theorem dX10_added_89 : decode cX10_added 89 = .ok (.iconst 0, 1) := by decide +kernel
theorem dX10_added_90 : decode cX10_added 90 = .ok (.istore_n 1, 1) := by decide +kernel
theorem dX10_added_91 : decode cX10_added 91 = .ok (.iinc 3 1, 3) := by decide +kernel
theorem dX10_added_94 : decode cX10_added 94 = .ok (.goto (-38), 3) := by decide +kernel
theorem dX10_added_97 : decode cX10_added 97 = .ok (.iinc 2 1, 3) := by decide +kernel
theorem dX10_added_100 : decode cX10_added 100 = .ok (.goto (-81), 3) := by decide +kernel
theorem dX10_added_103 : decode cX10_added 103 = .ok (.aload_n 0, 1) := by decide +kernel
theorem dX10_added_104 : decode cX10_added 104 = .ok (.bipush 108, 2) := by decide +kernel
theorem dX10_added_106 : decode cX10_added 106 = .ok (.bipush 107, 2) := by decide +kernel
theorem dX10_added_108 : decode cX10_added 108 = .ok (.bipush 108, 2) := by decide +kernel
theorem dX10_added_110 : decode cX10_added 110 = .ok (.iload_n 1, 1) := by decide +kernel
theorem dX10_added_111 : decode cX10_added 111 = .ok (.invokevirtual 140, 3) := by decide +kernel
theorem dX10_added_114 : decode cX10_added 114 = .ok (.ireturn, 1) := by decide +kernel
theorem dX10_isNext_0 : decode cX10_isNext 0 = .ok (.aload_n 0, 1) := by decide +kernel
theorem dX10_isNext_1 : decode cX10_isNext 1 = .ok (.getfield 44, 3) := by decide +kernel
theorem dX10_isNext_4 : decode cX10_isNext 4 = .ok (.iconst 2, 1) := by decide +kernel
theorem dX10_isNext_5 : decode cX10_isNext 5 = .ok (.isub, 1) := by decide +kernel
theorem dX10_isNext_6 : decode cX10_isNext 6 = .ok (.istore_n 1, 1) := by decide +kernel
theorem dX10_isNext_7 : decode cX10_isNext 7 = .ok (.iload_n 1, 1) := by decide +kernel
theorem dX10_isNext_8 : decode cX10_isNext 8 = .ok (.ifCond .lt 26, 3) := by decide +kernel
theorem dX10_isNext_11 : decode cX10_isNext 11 = .ok (.aload_n 0, 1) := by decide +kernel
theorem dX10_isNext_12 : decode cX10_isNext 12 = .ok (.getfield 35, 3) := by decide +kernel
theorem dX10_isNext_15 : decode cX10_isNext 15 = .ok (.iload_n 1, 1) := by decide +kernel
theorem dX10_isNext_16 : decode cX10_isNext 16 = .ok (.iaload, 1) := by decide +kernel
theorem dX10_isNext_17 : decode cX10_isNext 17 = .ok (.aload_n 0, 1) := by decide +kernel
theorem dX10_isNext_18 : decode cX10_isNext 18 = .ok (.getfield 35, 3) := by decide +kernel
theorem dX10_isNext_21 : decode cX10_isNext 21 = .ok (.iload_n 1, 1) := by decide +kernel
theorem dX10_isNext_22 : decode cX10_isNext 22 = .ok (.iconst 1, 1) := by decide +kernel
theorem dX10_isNext_23 : decode cX10_isNext 23 = .ok (.iadd, 1) := by decide +kernel
theorem dX10_isNext_24 : decode cX10_isNext 24 = .ok (.iaload, 1) := by decide +kernel
theorem dX10_isNext_25 : decode cX10_isNext 25 = .ok (.if_icmp .le 9, 3) := by decide +kernel
theorem dX10_isNext_28 : decode cX10_isNext 28 = .ok (.iinc 1 (-1), 3) := by decide +kernel
theorem dX10_isNext_31 : decode cX10_isNext 31 = .ok (.goto (-24), 3) := by decide +kernel
theorem dX10_isNext_34 : decode cX10_isNext 34 = .ok (.iload_n 1, 1) := by decide +kernel
theorem dX10_isNext_35 : decode cX10_isNext 35 = .ok (.ifCond .ge 5, 3) := by decide +kernel
theorem dX10_isNext_38 : decode cX10_isNext 38 = .ok (.iconst 0, 1) := by decide +kernel
theorem dX10_isNext_39 : decode cX10_isNext 39 = .ok (.ireturn, 1) := by decide +kernel
theorem dX10_isNext_40 : decode cX10_isNext 40 = .ok (.aload_n 0, 1) := by decide +kernel
theorem dX10_isNext_41 : decode cX10_isNext 41 = .ok (.getfield 44, 3) := by decide +kernel
theorem dX10_isNext_44 : decode cX10_isNext 44 = .ok (.iconst 1, 1) := by decide +kernel
theorem dX10_isNext_45 : decode cX10_isNext 45 = .ok (.isub, 1) := by decide +kernel
theorem dX10_isNext_46 : decode cX10_isNext 46 = .ok (.istore_n 2, 1) := by decide +kernel
theorem dX10_isNext_47 : decode cX10_isNext 47 = .ok (.aload_n 0, 1) := by decide +kernel
theorem dX10_isNext_48 : decode cX10_isNext 48 = .ok (.getfield 35, 3) := by decide +kernel
theorem dX10_isNext_51 : decode cX10_isNext 51 = .ok (.iload_n 2, 1) := by decide +kernel
theorem dX10_isNext_52 : decode cX10_isNext 52 = .ok (.iaload, 1) := by decide +kernel
theorem dX10_isNext_53 : decode cX10_isNext 53 = .ok (.aload_n 0, 1) := by decide +kernel
theorem dX10_isNext_54 : decode cX10_isNext 54 = .ok (.getfield 35, 3) := by decide +kernel
theorem dX10_isNext_57 : decode cX10_isNext 57 = .ok (.iload_n 1, 1) := by decide +kernel
theorem dX10_isNext_58 : decode cX10_isNext 58 = .ok (.iaload, 1) := by decide +kernel
theorem dX10_isNext_59 : decode cX10_isNext 59 = .ok (.if_icmp .ge 9, 3) := by decide +kernel
theorem dX10_isNext_62 : decode cX10_isNext 62 = .ok (.iinc 2 (-1), 3) := by decide +kernel
theorem dX10_isNext_65 : decode cX10_isNext 65 = .ok (.goto (-18), 3) := by decide +kernel
theorem dX10_isNext_68 : decode cX10_isNext 68 = .ok (.aload_n 0, 1) := by decide +kernel
theorem dX10_isNext_69 : decode cX10_isNext 69 = .ok (.getfield 35, 3) := by decide +kernel
theorem dX10_isNext_72 : decode cX10_isNext 72 = .ok (.iload_n 1, 1) := by decide +kernel
theorem dX10_isNext_73 : decode cX10_isNext 73 = .ok (.iaload, 1) := by decide +kernel
theorem dX10_isNext_74 : decode cX10_isNext 74 = .ok (.istore_n 3, 1) := by decide +kernel
theorem dX10_isNext_75 : decode cX10_isNext 75 = .ok (.aload_n 0, 1) := by decide +kernel
theorem dX10_isNext_76 : decode cX10_isNext 76 = .ok (.getfield 35, 3) := by decide +kernel
theorem dX10_isNext_79 : decode cX10_isNext 79 = .ok (.iload_n 1, 1) := by decide +kernel
theorem dX10_isNext_80 : decode cX10_isNext 80 = .ok (.aload_n 0, 1) := by decide +kernel
theorem dX10_isNext_81 : decode cX10_isNext 81 = .ok (.getfield 35, 3) := by decide +kernel
theorem dX10_isNext_84 : decode cX10_isNext 84 = .ok (.iload_n 2, 1) := by decide +kernel
theorem dX10_isNext_85 : decode cX10_isNext 85 = .ok (.iaload, 1) := by decide +kernel
theorem dX10_isNext_86 : decode cX10_isNext 86 = .ok (.iastore, 1) := by decide +kernel
theorem dX10_isNext_87 : decode cX10_isNext 87 = .ok (.aload_n 0, 1) := by decide +kernel
theorem dX10_isNext_88 : decode cX10_isNext 88 = .ok (.getfield 35, 3) := by decide +kernel
theorem dX10_isNext_91 : decode cX10_isNext 91 = .ok (.iload_n 2, 1) := by decide +kernel
theorem dX10_isNext_92 : decode cX10_isNext 92 = .ok (.iload_n 3, 1) := by decide +kernel
theorem dX10_isNext_93 : decode cX10_isNext 93 = .ok (.iastore, 1) := by decide +kernel
theorem dX10_isNext_94 : decode cX10_isNext 94 = .ok (.iload_n 1, 1) := by decide +kernel
theorem dX10_isNext_95 : decode cX10_isNext 95 = .ok (.iconst 1, 1) := by decide +kernel
theorem dX10_isNext_96 : decode cX10_isNext 96 = .ok (.iadd, 1) := by decide +kernel
theorem dX10_isNext_97 : decode cX10_isNext 97 = .ok (.istore 4, 2) := by decide +kernel
theorem dX10_isNext_99 : decode cX10_isNext 99 = .ok (.aload_n 0, 1) := by decide +kernel
theorem dX10_isNext_100 : decode cX10_isNext 100 = .ok (.getfield 44, 3) := by decide +kernel
theorem dX10_isNext_103 : decode cX10_isNext 103 = .ok (.iconst 1, 1) := by decide +kernel
theorem dX10_isNext_104 : decode cX10_isNext 104 = .ok (.isub, 1) := by decide +kernel
theorem dX10_isNext_105 : decode cX10_isNext 105 = .ok (.istore 5, 2) := by decide +kernel
theorem dX10_isNext_107 : decode cX10_isNext 107 = .ok (.iload 4, 2) := by decide +kernel
theorem dX10_isNext_109 : decode cX10_isNext 109 = .ok (.iload 5, 2) := by decide +kernel
theorem dX10_isNext_111 : decode cX10_isNext 111 = .ok (.if_icmp .ge 42, 3) := by decide +kernel
theorem dX10_isNext_114 : decode cX10_isNext 114 = .ok (.aload_n 0, 1) := by decide +kernel
theorem dX10_isNext_115 : decode cX10_isNext 115 = .ok (.getfield 35, 3) := by decide +kernel
theorem dX10_isNext_118 : decode cX10_isNext 118 = .ok (.iload 4, 2) := by decide +kernel
theorem dX10_isNext_120 : decode cX10_isNext 120 = .ok (.iaload, 1) := by decide +kernel
theorem dX10_isNext_121 : decode cX10_isNext 121 = .ok (.istore_n 3, 1) := by decide +kernel
theorem dX10_isNext_122 : decode cX10_isNext 122 = .ok (.aload_n 0, 1) := by decide +kernel
theorem dX10_isNext_123 : decode cX10_isNext 123 = .ok (.getfield 35, 3) := by decide +kernel
theorem dX10_isNext_126 : decode cX10_isNext 126 = .ok (.iload 4, 2) := by decide +kernel
theorem dX10_isNext_128 : decode cX10_isNext 128 = .ok (.aload_n 0, 1) := by decide +kernel
theorem dX10_isNext_129 : decode cX10_isNext 129 = .ok (.getfield 35, 3) := by decide +kernel
theorem dX10_isNext_132 : decode cX10_isNext 132 = .ok (.iload 5, 2) := by decide +kernel
theorem dX10_isNext_134 : decode cX10_isNext 134 = .ok (.iaload, 1) := by decide +kernel
theorem dX10_isNext_135 : decode cX10_isNext 135 = .ok (.iastore, 1) := by decide +kernel
theorem dX10_isNext_136 : decode cX10_isNext 136 = .ok (.aload_n 0, 1) := by decide +kernel
theorem dX10_isNext_137 : decode cX10_isNext 137 = .ok (.getfield 35, 3) := by decide +kernel
theorem dX10_isNext_140 : decode cX10_isNext 140 = .ok (.iload 5, 2) := by decide +kernel
theorem dX10_isNext_142 : decode cX10_isNext 142 = .ok (.iload_n 3, 1) := by decide +kernel
theorem dX10_isNext_143 : decode cX10_isNext 143 = .ok (.iastore, 1) := by decide +kernel
theorem dX10_isNext_144 : decode cX10_isNext 144 = .ok (.iinc 4 1, 3) := by decide +kernel
theorem dX10_isNext_147 : decode cX10_isNext 147 = .ok (.iinc 5 (-1), 3) := by decide +kernel
theorem dX10_isNext_150 : decode cX10_isNext 150 = .ok (.goto (-43), 3) := by decide +kernel
theorem dX10_isNext_153 : decode cX10_isNext 153 = .ok (.iconst 1, 1) := by decide +kernel
theorem dX10_isNext_154 : decode cX10_isNext 154 = .ok (.ireturn, 1) := by decide +kernel
theorem dX10_isPrime_0 : decode cX10_isPrime 0 = .ok (.iload_n 0, 1) := by decide +kernel
theorem dX10_isPrime_1 : decode cX10_isPrime 1 = .ok (.iconst 2, 1) := by decide +kernel
theorem dX10_isPrime_2 : decode cX10_isPrime 2 = .ok (.if_icmp .ge 5, 3) := by decide +kernel
theorem dX10_isPrime_5 : decode cX10_isPrime 5 = .ok (.iconst 0, 1) := by decide +kernel
theorem dX10_isPrime_6 : decode cX10_isPrime 6 = .ok (.ireturn, 1) := by decide +kernel
theorem dX10_isPrime_7 : decode cX10_isPrime 7 = .ok (.ldc2_w 208, 3) := by decide +kernel
theorem dX10_isPrime_10 : decode cX10_isPrime 10 = .ok (.lstore_n 1, 1) := by decide +kernel
theorem dX10_isPrime_11 : decode cX10_isPrime 11 = .ok (.lload_n 1, 1) := by decide +kernel
theorem dX10_isPrime_12 : decode cX10_isPrime 12 = .ok (.lload_n 1, 1) := by decide +kernel
theorem dX10_isPrime_13 : decode cX10_isPrime 13 = .ok (.lmul, 1) := by decide +kernel
theorem dX10_isPrime_14 : decode cX10_isPrime 14 = .ok (.iload_n 0, 1) := by decide +kernel
theorem dX10_isPrime_15 : decode cX10_isPrime 15 = .ok (.i2l, 1) := by decide +kernel
theorem dX10_isPrime_16 : decode cX10_isPrime 16 = .ok (.lcmp, 1) := by decide +kernel
theorem dX10_isPrime_17 : decode cX10_isPrime 17 = .ok (.ifCond .gt 21, 3) := by decide +kernel
theorem dX10_isPrime_20 : decode cX10_isPrime 20 = .ok (.iload_n 0, 1) := by decide +kernel
theorem dX10_isPrime_21 : decode cX10_isPrime 21 = .ok (.i2l, 1) := by decide +kernel
theorem dX10_isPrime_22 : decode cX10_isPrime 22 = .ok (.lload_n 1, 1) := by decide +kernel
theorem dX10_isPrime_23 : decode cX10_isPrime 23 = .ok (.lrem, 1) := by decide +kernel
theorem dX10_isPrime_24 : decode cX10_isPrime 24 = .ok (.lconst 0, 1) := by decide +kernel
theorem dX10_isPrime_25 : decode cX10_isPrime 25 = .ok (.lcmp, 1) := by decide +kernel
theorem dX10_isPrime_26 : decode cX10_isPrime 26 = .ok (.ifCond .ne 5, 3) := by decide +kernel
theorem dX10_isPrime_29 : decode cX10_isPrime 29 = .ok (.iconst 0, 1) := by decide +kernel
theorem dX10_isPrime_30 : decode cX10_isPrime 30 = .ok (.ireturn, 1) := by decide +kernel
theorem dX10_isPrime_31 : decode cX10_isPrime 31 = .ok (.lload_n 1, 1) := by decide +kernel
theorem dX10_isPrime_32 : decode cX10_isPrime 32 = .ok (.lconst 1, 1) := by decide +kernel
theorem dX10_isPrime_33 : decode cX10_isPrime 33 = .ok (.ladd, 1) := by decide +kernel
theorem dX10_isPrime_34 : decode cX10_isPrime 34 = .ok (.lstore_n 1, 1) := by decide +kernel
theorem dX10_isPrime_35 : decode cX10_isPrime 35 = .ok (.goto (-24), 3) := by decide +kernel
theorem dX10_isPrime_38 : decode cX10_isPrime 38 = .ok (.iconst 1, 1) := by decide +kernel
theorem dX10_isPrime_39 : decode cX10_isPrime 39 = .ok (.ireturn, 1) := by decide +kernel
theorem dX10_inverse_0 : decode cX10_inverse 0 = .ok (.lconst 1, 1) := by decide +kernel
theorem dX10_inverse_1 : decode cX10_inverse 1 = .ok (.lstore_n 2, 1) := by decide +kernel
theorem dX10_inverse_2 : decode cX10_inverse 2 = .ok (.iload_n 0, 1) := by decide +kernel
theorem dX10_inverse_3 : decode cX10_inverse 3 = .ok (.i2l, 1) := by decide +kernel
theorem dX10_inverse_4 : decode cX10_inverse 4 = .ok (.lstore 4, 2) := by decide +kernel
theorem dX10_inverse_6 : decode cX10_inverse 6 = .ok (.iload_n 1, 1) := by decide +kernel
theorem dX10_inverse_7 : decode cX10_inverse 7 = .ok (.iconst 2, 1) := by decide +kernel
theorem dX10_inverse_8 : decode cX10_inverse 8 = .ok (.isub, 1) := by decide +kernel
theorem dX10_inverse_9 : decode cX10_inverse 9 = .ok (.istore 6, 2) := by decide +kernel
theorem dX10_inverse_11 : decode cX10_inverse 11 = .ok (.iload 6, 2) := by decide +kernel
theorem dX10_inverse_13 : decode cX10_inverse 13 = .ok (.ifCond .le 38, 3) := by decide +kernel
theorem dX10_inverse_16 : decode cX10_inverse 16 = .ok (.iload 6, 2) := by decide +kernel
theorem dX10_inverse_18 : decode cX10_inverse 18 = .ok (.iconst 1, 1) := by decide +kernel
theorem dX10_inverse_19 : decode cX10_inverse 19 = .ok (.iand, 1) := by decide +kernel
theorem dX10_inverse_20 : decode cX10_inverse 20 = .ok (.iconst 1, 1) := by decide +kernel
theorem dX10_inverse_21 : decode cX10_inverse 21 = .ok (.if_icmp .ne 11, 3) := by decide +kernel
theorem dX10_inverse_24 : decode cX10_inverse 24 = .ok (.lload_n 2, 1) := by decide +kernel
theorem dX10_inverse_25 : decode cX10_inverse 25 = .ok (.lload 4, 2) := by decide +kernel
theorem dX10_inverse_27 : decode cX10_inverse 27 = .ok (.lmul, 1) := by decide +kernel
theorem dX10_inverse_28 : decode cX10_inverse 28 = .ok (.iload_n 1, 1) := by decide +kernel
theorem dX10_inverse_29 : decode cX10_inverse 29 = .ok (.i2l, 1) := by decide +kernel
theorem dX10_inverse_30 : decode cX10_inverse 30 = .ok (.lrem, 1) := by decide +kernel
theorem dX10_inverse_31 : decode cX10_inverse 31 = .ok (.lstore_n 2, 1) := by decide +kernel
theorem dX10_inverse_32 : decode cX10_inverse 32 = .ok (.lload 4, 2) := by decide +kernel
theorem dX10_inverse_34 : decode cX10_inverse 34 = .ok (.lload 4, 2) := by decide +kernel
theorem dX10_inverse_36 : decode cX10_inverse 36 = .ok (.lmul, 1) := by decide +kernel
theorem dX10_inverse_37 : decode cX10_inverse 37 = .ok (.iload_n 1, 1) := by decide +kernel
theorem dX10_inverse_38 : decode cX10_inverse 38 = .ok (.i2l, 1) := by decide +kernel
theorem dX10_inverse_39 : decode cX10_inverse 39 = .ok (.lrem, 1) := by decide +kernel
theorem dX10_inverse_40 : decode cX10_inverse 40 = .ok (.lstore 4, 2) := by decide +kernel
theorem dX10_inverse_42 : decode cX10_inverse 42 = .ok (.iload 6, 2) := by decide +kernel
theorem dX10_inverse_44 : decode cX10_inverse 44 = .ok (.iconst 1, 1) := by decide +kernel
theorem dX10_inverse_45 : decode cX10_inverse 45 = .ok (.ishr, 1) := by decide +kernel
theorem dX10_inverse_46 : decode cX10_inverse 46 = .ok (.istore 6, 2) := by decide +kernel
theorem dX10_inverse_48 : decode cX10_inverse 48 = .ok (.goto (-37), 3) := by decide +kernel
theorem dX10_inverse_51 : decode cX10_inverse 51 = .ok (.lload_n 2, 1) := by decide +kernel
theorem dX10_inverse_52 : decode cX10_inverse 52 = .ok (.l2i, 1) := by decide +kernel
theorem dX10_inverse_53 : decode cX10_inverse 53 = .ok (.ireturn, 1) := by decide +kernel
theorem dX10_rest_0 : decode cX10_rest 0 = .ok (.aload_n 0, 1) := by decide +kernel
theorem dX10_rest_1 : decode cX10_rest 1 = .ok (.iconst 0, 1) := by decide +kernel
theorem dX10_rest_2 : decode cX10_rest 2 = .ok (.putfield 52, 3) := by decide +kernel
theorem dX10_rest_5 : decode cX10_rest 5 = .ok (.aload_n 0, 1) := by decide +kernel
theorem dX10_rest_6 : decode cX10_rest 6 = .ok (.iload_n 1, 1) := by decide +kernel
theorem dX10_rest_7 : decode cX10_rest 7 = .ok (.invokevirtual 137, 3) := by decide +kernel
theorem dX10_rest_10 : decode cX10_rest 10 = .ok (.ifCond .eq 10, 3) := by decide +kernel
theorem dX10_rest_13 : decode cX10_rest 13 = .ok (.iload_n 2, 1) := by decide +kernel
theorem dX10_rest_14 : decode cX10_rest 14 = .ok (.invokestatic 210, 3) := by decide +kernel
theorem dX10_rest_17 : decode cX10_rest 17 = .ok (.ifCond .ne 5, 3) := by decide +kernel
theorem dX10_rest_20 : decode cX10_rest 20 = .ok (.iconst (-1), 1) := by decide +kernel
theorem dX10_rest_21 : decode cX10_rest 21 = .ok (.ireturn, 1) := by decide +kernel
theorem dX10_rest_22 : decode cX10_rest 22 = .ok (.aload_n 0, 1) := by decide +kernel
theorem dX10_rest_23 : decode cX10_rest 23 = .ok (.iconst 2, 1) := by decide +kernel
theorem dX10_rest_24 : decode cX10_rest 24 = .ok (.iload_n 1, 1) := by decide +kernel
theorem dX10_rest_25 : decode cX10_rest 25 = .ok (.imul, 1) := by decide +kernel
theorem dX10_rest_26 : decode cX10_rest 26 = .ok (.iconst 1, 1) := by decide +kernel
theorem dX10_rest_27 : decode cX10_rest 27 = .ok (.iadd, 1) := by decide +kernel
theorem dX10_rest_28 : decode cX10_rest 28 = .ok (.iload_n 2, 1) := by decide +kernel
theorem dX10_rest_29 : decode cX10_rest 29 = .ok (.invokevirtual 213, 3) := by decide +kernel
theorem dX10_rest_32 : decode cX10_rest 32 = .ok (.istore_n 3, 1) := by decide +kernel
theorem dX10_rest_33 : decode cX10_rest 33 = .ok (.iload_n 3, 1) := by decide +kernel
theorem dX10_rest_34 : decode cX10_rest 34 = .ok (.ifCond .ne 6, 3) := by decide +kernel
theorem dX10_rest_37 : decode cX10_rest 37 = .ok (.bipush (-2), 2) := by decide +kernel
theorem dX10_rest_39 : decode cX10_rest 39 = .ok (.ireturn, 1) := by decide +kernel
theorem dX10_rest_40 : decode cX10_rest 40 = .ok (.aload_n 0, 1) := by decide +kernel
theorem dX10_rest_41 : decode cX10_rest 41 = .ok (.iconst 2, 1) := by decide +kernel
theorem dX10_rest_42 : decode cX10_rest 42 = .ok (.iload_n 1, 1) := by decide +kernel
theorem dX10_rest_43 : decode cX10_rest 43 = .ok (.imul, 1) := by decide +kernel
theorem dX10_rest_44 : decode cX10_rest 44 = .ok (.iload_n 2, 1) := by decide +kernel
theorem dX10_rest_45 : decode cX10_rest 45 = .ok (.invokevirtual 213, 3) := by decide +kernel
theorem dX10_rest_48 : decode cX10_rest 48 = .ok (.i2l, 1) := by decide +kernel
theorem dX10_rest_49 : decode cX10_rest 49 = .ok (.iload_n 3, 1) := by decide +kernel
theorem dX10_rest_50 : decode cX10_rest 50 = .ok (.iload_n 2, 1) := by decide +kernel
theorem dX10_rest_51 : decode cX10_rest 51 = .ok (.invokestatic 216, 3) := by decide +kernel
theorem dX10_rest_54 : decode cX10_rest 54 = .ok (.i2l, 1) := by decide +kernel
theorem dX10_rest_55 : decode cX10_rest 55 = .ok (.lmul, 1) := by decide +kernel
theorem dX10_rest_56 : decode cX10_rest 56 = .ok (.iload_n 2, 1) := by decide +kernel
theorem dX10_rest_57 : decode cX10_rest 57 = .ok (.i2l, 1) := by decide +kernel
theorem dX10_rest_58 : decode cX10_rest 58 = .ok (.lrem, 1) := by decide +kernel
theorem dX10_rest_59 : decode cX10_rest 59 = .ok (.lstore 4, 2) := by decide +kernel
theorem dX10_rest_61 : decode cX10_rest 61 = .ok (.aload_n 0, 1) := by decide +kernel
theorem dX10_rest_62 : decode cX10_rest 62 = .ok (.getfield 13, 3) := by decide +kernel
theorem dX10_rest_65 : decode cX10_rest 65 = .ok (.iload_n 1, 1) := by decide +kernel
theorem dX10_rest_66 : decode cX10_rest 66 = .ok (.baload, 1) := by decide +kernel
theorem dX10_rest_67 : decode cX10_rest 67 = .ok (.ifCond .eq 18, 3) := by decide +kernel
theorem dX10_rest_70 : decode cX10_rest 70 = .ok (.lload 4, 2) := by decide +kernel
theorem dX10_rest_72 : decode cX10_rest 72 = .ok (.lconst 0, 1) := by decide +kernel
theorem dX10_rest_73 : decode cX10_rest 73 = .ok (.lcmp, 1) := by decide +kernel
theorem dX10_rest_74 : decode cX10_rest 74 = .ok (.ifCond .le 11, 3) := by decide +kernel
theorem dX10_rest_77 : decode cX10_rest 77 = .ok (.iload_n 2, 1) := by decide +kernel
theorem dX10_rest_78 : decode cX10_rest 78 = .ok (.i2l, 1) := by decide +kernel
theorem dX10_rest_79 : decode cX10_rest 79 = .ok (.lload 4, 2) := by decide +kernel
theorem dX10_rest_81 : decode cX10_rest 81 = .ok (.lsub, 1) := by decide +kernel
theorem dX10_rest_82 : decode cX10_rest 82 = .ok (.goto 5, 3) := by decide +kernel
theorem dX10_rest_85 : decode cX10_rest 85 = .ok (.lload 4, 2) := by decide +kernel
theorem dX10_rest_87 : decode cX10_rest 87 = .ok (.l2i, 1) := by decide +kernel
theorem dX10_rest_88 : decode cX10_rest 88 = .ok (.ireturn, 1) := by decide +kernel
theorem dX10_meet_0 : decode cX10_meet 0 = .ok (.aload_n 0, 1) := by decide +kernel
theorem dX10_meet_1 : decode cX10_meet 1 = .ok (.iconst 0, 1) := by decide +kernel
theorem dX10_meet_2 : decode cX10_meet 2 = .ok (.putfield 52, 3) := by decide +kernel
theorem dX10_meet_5 : decode cX10_meet 5 = .ok (.iload_n 1, 1) := by decide +kernel
theorem dX10_meet_6 : decode cX10_meet 6 = .ok (.invokestatic 210, 3) := by decide +kernel
theorem dX10_meet_9 : decode cX10_meet 9 = .ok (.ifCond .eq 14, 3) := by decide +kernel
theorem dX10_meet_12 : decode cX10_meet 12 = .ok (.iload_n 2, 1) := by decide +kernel
theorem dX10_meet_13 : decode cX10_meet 13 = .ok (.iconst 0, 1) := by decide +kernel
theorem dX10_meet_14 : decode cX10_meet 14 = .ok (.iload_n 1, 1) := by decide +kernel
theorem dX10_meet_15 : decode cX10_meet 15 = .ok (.iconst 1, 1) := by decide +kernel
theorem dX10_meet_16 : decode cX10_meet 16 = .ok (.isub, 1) := by decide +kernel
theorem dX10_meet_17 : decode cX10_meet 17 = .ok (.invokestatic 119, 3) := by decide +kernel
theorem dX10_meet_20 : decode cX10_meet 20 = .ok (.ifCond .ne 5, 3) := by decide +kernel
theorem dX10_meet_23 : decode cX10_meet 23 = .ok (.iconst (-1), 1) := by decide +kernel
theorem dX10_meet_24 : decode cX10_meet 24 = .ok (.ireturn, 1) := by decide +kernel
theorem dX10_meet_25 : decode cX10_meet 25 = .ok (.aload_n 0, 1) := by decide +kernel
theorem dX10_meet_26 : decode cX10_meet 26 = .ok (.sipush 223, 3) := by decide +kernel
theorem dX10_meet_29 : decode cX10_meet 29 = .ok (.iload_n 1, 1) := by decide +kernel
theorem dX10_meet_30 : decode cX10_meet 30 = .ok (.invokevirtual 213, 3) := by decide +kernel
theorem dX10_meet_33 : decode cX10_meet 33 = .ok (.istore_n 3, 1) := by decide +kernel
theorem dX10_meet_34 : decode cX10_meet 34 = .ok (.iload_n 3, 1) := by decide +kernel
theorem dX10_meet_35 : decode cX10_meet 35 = .ok (.ifCond .ne 6, 3) := by decide +kernel
theorem dX10_meet_38 : decode cX10_meet 38 = .ok (.bipush (-5), 2) := by decide +kernel
theorem dX10_meet_40 : decode cX10_meet 40 = .ok (.ireturn, 1) := by decide +kernel
theorem dX10_meet_41 : decode cX10_meet 41 = .ok (.aload_n 0, 1) := by decide +kernel
theorem dX10_meet_42 : decode cX10_meet 42 = .ok (.sipush 224, 3) := by decide +kernel
theorem dX10_meet_45 : decode cX10_meet 45 = .ok (.iload_n 1, 1) := by decide +kernel
theorem dX10_meet_46 : decode cX10_meet 46 = .ok (.i2l, 1) := by decide +kernel
theorem dX10_meet_47 : decode cX10_meet 47 = .ok (.invokevirtual 112, 3) := by decide +kernel
theorem dX10_meet_50 : decode cX10_meet 50 = .ok (.aload_n 0, 1) := by decide +kernel
theorem dX10_meet_51 : decode cX10_meet 51 = .ok (.sipush 223, 3) := by decide +kernel
theorem dX10_meet_54 : decode cX10_meet 54 = .ok (.sipush 224, 3) := by decide +kernel
theorem dX10_meet_57 : decode cX10_meet 57 = .ok (.sipush 226, 3) := by decide +kernel
theorem dX10_meet_60 : decode cX10_meet 60 = .ok (.invokevirtual 102, 3) := by decide +kernel
theorem dX10_meet_63 : decode cX10_meet 63 = .ok (.aload_n 0, 1) := by decide +kernel
theorem dX10_meet_64 : decode cX10_meet 64 = .ok (.sipush 226, 3) := by decide +kernel
theorem dX10_meet_67 : decode cX10_meet 67 = .ok (.invokevirtual 65, 3) := by decide +kernel
theorem dX10_meet_70 : decode cX10_meet 70 = .ok (.sipush 192, 3) := by decide +kernel
theorem dX10_meet_73 : decode cX10_meet 73 = .ok (.if_icmp .le 8, 3) := by decide +kernel
theorem dX10_meet_76 : decode cX10_meet 76 = .ok (.aload_n 0, 1) := by decide +kernel
theorem dX10_meet_77 : decode cX10_meet 77 = .ok (.invokevirtual 153, 3) := by decide +kernel
theorem dX10_meet_80 : decode cX10_meet 80 = .ok (.ireturn, 1) := by decide +kernel
theorem dX10_meet_81 : decode cX10_meet 81 = .ok (.iload_n 2, 1) := by decide +kernel
theorem dX10_meet_82 : decode cX10_meet 82 = .ok (.i2l, 1) := by decide +kernel
theorem dX10_meet_83 : decode cX10_meet 83 = .ok (.aload_n 0, 1) := by decide +kernel
theorem dX10_meet_84 : decode cX10_meet 84 = .ok (.sipush 222, 3) := by decide +kernel
theorem dX10_meet_87 : decode cX10_meet 87 = .ok (.iload_n 1, 1) := by decide +kernel
end
section
theorem dX10_meet_88 : decode cX10_meet 88 = .ok (.invokevirtual 213, 3) := by decide +kernel
theorem dX10_meet_91 : decode cX10_meet 91 = .ok (.i2l, 1) := by decide +kernel
theorem dX10_meet_92 : decode cX10_meet 92 = .ok (.lsub, 1) := by decide +kernel
theorem dX10_meet_93 : decode cX10_meet 93 = .ok (.iload_n 1, 1) := by decide +kernel
theorem dX10_meet_94 : decode cX10_meet 94 = .ok (.i2l, 1) := by decide +kernel
theorem dX10_meet_95 : decode cX10_meet 95 = .ok (.ladd, 1) := by decide +kernel
theorem dX10_meet_96 : decode cX10_meet 96 = .ok (.iload_n 1, 1) := by decide +kernel
theorem dX10_meet_97 : decode cX10_meet 97 = .ok (.i2l, 1) := by decide +kernel
theorem dX10_meet_98 : decode cX10_meet 98 = .ok (.lrem, 1) := by decide +kernel
theorem dX10_meet_99 : decode cX10_meet 99 = .ok (.lstore 4, 2) := by decide +kernel
theorem dX10_meet_101 : decode cX10_meet 101 = .ok (.aload_n 0, 1) := by decide +kernel
theorem dX10_meet_102 : decode cX10_meet 102 = .ok (.sipush 224, 3) := by decide +kernel
theorem dX10_meet_105 : decode cX10_meet 105 = .ok (.lload 4, 2) := by decide +kernel
theorem dX10_meet_107 : decode cX10_meet 107 = .ok (.iload_n 3, 1) := by decide +kernel
theorem dX10_meet_108 : decode cX10_meet 108 = .ok (.iload_n 1, 1) := by decide +kernel
theorem dX10_meet_109 : decode cX10_meet 109 = .ok (.invokestatic 216, 3) := by decide +kernel
theorem dX10_meet_112 : decode cX10_meet 112 = .ok (.i2l, 1) := by decide +kernel
theorem dX10_meet_113 : decode cX10_meet 113 = .ok (.lmul, 1) := by decide +kernel
theorem dX10_meet_114 : decode cX10_meet 114 = .ok (.iload_n 1, 1) := by decide +kernel
theorem dX10_meet_115 : decode cX10_meet 115 = .ok (.i2l, 1) := by decide +kernel
theorem dX10_meet_116 : decode cX10_meet 116 = .ok (.lrem, 1) := by decide +kernel
theorem dX10_meet_117 : decode cX10_meet 117 = .ok (.invokevirtual 112, 3) := by decide +kernel
theorem dX10_meet_120 : decode cX10_meet 120 = .ok (.aload_n 0, 1) := by decide +kernel
theorem dX10_meet_121 : decode cX10_meet 121 = .ok (.sipush 223, 3) := by decide +kernel
theorem dX10_meet_124 : decode cX10_meet 124 = .ok (.sipush 224, 3) := by decide +kernel
theorem dX10_meet_127 : decode cX10_meet 127 = .ok (.sipush 225, 3) := by decide +kernel
theorem dX10_meet_130 : decode cX10_meet 130 = .ok (.invokevirtual 102, 3) := by decide +kernel
theorem dX10_meet_133 : decode cX10_meet 133 = .ok (.aload_n 0, 1) := by decide +kernel
theorem dX10_meet_134 : decode cX10_meet 134 = .ok (.sipush 222, 3) := by decide +kernel
theorem dX10_meet_137 : decode cX10_meet 137 = .ok (.sipush 225, 3) := by decide +kernel
theorem dX10_meet_140 : decode cX10_meet 140 = .ok (.sipush 222, 3) := by decide +kernel
theorem dX10_meet_143 : decode cX10_meet 143 = .ok (.invokevirtual 106, 3) := by decide +kernel
theorem dX10_meet_146 : decode cX10_meet 146 = .ok (.aload_n 0, 1) := by decide +kernel
theorem dX10_meet_147 : decode cX10_meet 147 = .ok (.sipush 226, 3) := by decide +kernel
theorem dX10_meet_150 : decode cX10_meet 150 = .ok (.sipush 223, 3) := by decide +kernel
theorem dX10_meet_153 : decode cX10_meet 153 = .ok (.invokevirtual 82, 3) := by decide +kernel
theorem dX10_meet_156 : decode cX10_meet 156 = .ok (.aload_n 0, 1) := by decide +kernel
theorem dX10_meet_157 : decode cX10_meet 157 = .ok (.dup, 1) := by decide +kernel
theorem dX10_meet_158 : decode cX10_meet 158 = .ok (.getfield 219, 3) := by decide +kernel
theorem dX10_meet_161 : decode cX10_meet 161 = .ok (.iconst 1, 1) := by decide +kernel
theorem dX10_meet_162 : decode cX10_meet 162 = .ok (.iadd, 1) := by decide +kernel
theorem dX10_meet_163 : decode cX10_meet 163 = .ok (.putfield 219, 3) := by decide +kernel
theorem dX10_meet_166 : decode cX10_meet 166 = .ok (.aload_n 0, 1) := by decide +kernel
theorem dX10_meet_167 : decode cX10_meet 167 = .ok (.getfield 219, 3) := by decide +kernel
theorem dX10_meet_170 : decode cX10_meet 170 = .ok (.ireturn, 1) := by decide +kernel
theorem dX10_joined_0 : decode cX10_joined 0 = .ok (.aload_n 0, 1) := by decide +kernel
theorem dX10_joined_1 : decode cX10_joined 1 = .ok (.iconst 0, 1) := by decide +kernel
theorem dX10_joined_2 : decode cX10_joined 2 = .ok (.putfield 52, 3) := by decide +kernel
theorem dX10_joined_5 : decode cX10_joined 5 = .ok (.iload_n 1, 1) := by decide +kernel
theorem dX10_joined_6 : decode cX10_joined 6 = .ok (.iconst 0, 1) := by decide +kernel
theorem dX10_joined_7 : decode cX10_joined 7 = .ok (.iconst 1, 1) := by decide +kernel
theorem dX10_joined_8 : decode cX10_joined 8 = .ok (.invokestatic 119, 3) := by decide +kernel
theorem dX10_joined_11 : decode cX10_joined 11 = .ok (.ifCond .ne 5, 3) := by decide +kernel
theorem dX10_joined_14 : decode cX10_joined 14 = .ok (.iconst (-1), 1) := by decide +kernel
theorem dX10_joined_15 : decode cX10_joined 15 = .ok (.ireturn, 1) := by decide +kernel
theorem dX10_joined_16 : decode cX10_joined 16 = .ok (.aload_n 0, 1) := by decide +kernel
theorem dX10_joined_17 : decode cX10_joined 17 = .ok (.getfield 116, 3) := by decide +kernel
theorem dX10_joined_20 : decode cX10_joined 20 = .ok (.bipush 40, 2) := by decide +kernel
theorem dX10_joined_22 : decode cX10_joined 22 = .ok (.if_icmp .ne 6, 3) := by decide +kernel
theorem dX10_joined_25 : decode cX10_joined 25 = .ok (.bipush (-4), 2) := by decide +kernel
theorem dX10_joined_27 : decode cX10_joined 27 = .ok (.ireturn, 1) := by decide +kernel
theorem dX10_joined_28 : decode cX10_joined 28 = .ok (.aload_n 0, 1) := by decide +kernel
theorem dX10_joined_29 : decode cX10_joined 29 = .ok (.bipush 105, 2) := by decide +kernel
theorem dX10_joined_31 : decode cX10_joined 31 = .ok (.invokevirtual 48, 3) := by decide +kernel
theorem dX10_joined_34 : decode cX10_joined 34 = .ok (.aload_n 0, 1) := by decide +kernel
theorem dX10_joined_35 : decode cX10_joined 35 = .ok (.sipush 222, 3) := by decide +kernel
theorem dX10_joined_38 : decode cX10_joined 38 = .ok (.iload_n 1, 1) := by decide +kernel
theorem dX10_joined_39 : decode cX10_joined 39 = .ok (.iadd, 1) := by decide +kernel
theorem dX10_joined_40 : decode cX10_joined 40 = .ok (.sipush 210, 3) := by decide +kernel
theorem dX10_joined_43 : decode cX10_joined 43 = .ok (.invokevirtual 82, 3) := by decide +kernel
theorem dX10_joined_46 : decode cX10_joined 46 = .ok (.aload_n 0, 1) := by decide +kernel
theorem dX10_joined_47 : decode cX10_joined 47 = .ok (.bipush 105, 2) := by decide +kernel
theorem dX10_joined_49 : decode cX10_joined 49 = .ok (.invokevirtual 150, 3) := by decide +kernel
theorem dX10_joined_52 : decode cX10_joined 52 = .ok (.ireturn, 1) := by decide +kernel
theorem dX10_isSmall_0 : decode cX10_isSmall 0 = .ok (.aload_n 0, 1) := by decide +kernel
theorem dX10_isSmall_1 : decode cX10_isSmall 1 = .ok (.iload_n 1, 1) := by decide +kernel
theorem dX10_isSmall_2 : decode cX10_isSmall 2 = .ok (.iload_n 1, 1) := by decide +kernel
theorem dX10_isSmall_3 : decode cX10_isSmall 3 = .ok (.sipush 224, 3) := by decide +kernel
theorem dX10_isSmall_6 : decode cX10_isSmall 6 = .ok (.invokevirtual 102, 3) := by decide +kernel
theorem dX10_isSmall_9 : decode cX10_isSmall 9 = .ok (.aload_n 0, 1) := by decide +kernel
theorem dX10_isSmall_10 : decode cX10_isSmall 10 = .ok (.sipush 224, 3) := by decide +kernel
theorem dX10_isSmall_13 : decode cX10_isSmall 13 = .ok (.sipush 224, 3) := by decide +kernel
theorem dX10_isSmall_16 : decode cX10_isSmall 16 = .ok (.sipush 224, 3) := by decide +kernel
theorem dX10_isSmall_19 : decode cX10_isSmall 19 = .ok (.invokevirtual 106, 3) := by decide +kernel
theorem dX10_isSmall_22 : decode cX10_isSmall 22 = .ok (.aload_n 0, 1) := by decide +kernel
theorem dX10_isSmall_23 : decode cX10_isSmall 23 = .ok (.sipush 224, 3) := by decide +kernel
theorem dX10_isSmall_26 : decode cX10_isSmall 26 = .ok (.sipush 223, 3) := by decide +kernel
theorem dX10_isSmall_29 : decode cX10_isSmall 29 = .ok (.invokevirtual 76, 3) := by decide +kernel
theorem dX10_isSmall_32 : decode cX10_isSmall 32 = .ok (.ifCond .ge 7, 3) := by decide +kernel
theorem dX10_isSmall_35 : decode cX10_isSmall 35 = .ok (.iconst 1, 1) := by decide +kernel
theorem dX10_isSmall_36 : decode cX10_isSmall 36 = .ok (.goto 4, 3) := by decide +kernel
theorem dX10_isSmall_39 : decode cX10_isSmall 39 = .ok (.iconst 0, 1) := by decide +kernel
theorem dX10_isSmall_40 : decode cX10_isSmall 40 = .ok (.ireturn, 1) := by decide +kernel
theorem dX10_recover_0 : decode cX10_recover 0 = .ok (.aload_n 0, 1) := by decide +kernel
theorem dX10_recover_1 : decode cX10_recover 1 = .ok (.iconst 0, 1) := by decide +kernel
theorem dX10_recover_2 : decode cX10_recover 2 = .ok (.putfield 52, 3) := by decide +kernel
theorem dX10_recover_5 : decode cX10_recover 5 = .ok (.aload_n 0, 1) := by decide +kernel
theorem dX10_recover_6 : decode cX10_recover 6 = .ok (.getfield 116, 3) := by decide +kernel
theorem dX10_recover_9 : decode cX10_recover 9 = .ok (.bipush 40, 2) := by decide +kernel
theorem dX10_recover_11 : decode cX10_recover 11 = .ok (.if_icmp .ne 6, 3) := by decide +kernel
theorem dX10_recover_14 : decode cX10_recover 14 = .ok (.bipush (-4), 2) := by decide +kernel
theorem dX10_recover_16 : decode cX10_recover 16 = .ok (.ireturn, 1) := by decide +kernel
theorem dX10_recover_17 : decode cX10_recover 17 = .ok (.aload_n 0, 1) := by decide +kernel
theorem dX10_recover_18 : decode cX10_recover 18 = .ok (.sipush 223, 3) := by decide +kernel
theorem dX10_recover_21 : decode cX10_recover 21 = .ok (.sipush 231, 3) := by decide +kernel
theorem dX10_recover_24 : decode cX10_recover 24 = .ok (.invokevirtual 82, 3) := by decide +kernel
theorem dX10_recover_27 : decode cX10_recover 27 = .ok (.aload_n 0, 1) := by decide +kernel
theorem dX10_recover_28 : decode cX10_recover 28 = .ok (.sipush 222, 3) := by decide +kernel
theorem dX10_recover_31 : decode cX10_recover 31 = .ok (.sipush 232, 3) := by decide +kernel
theorem dX10_recover_34 : decode cX10_recover 34 = .ok (.invokevirtual 82, 3) := by decide +kernel
theorem dX10_recover_37 : decode cX10_recover 37 = .ok (.aload_n 0, 1) := by decide +kernel
theorem dX10_recover_38 : decode cX10_recover 38 = .ok (.sipush 233, 3) := by decide +kernel
theorem dX10_recover_41 : decode cX10_recover 41 = .ok (.invokevirtual 55, 3) := by decide +kernel
theorem dX10_recover_44 : decode cX10_recover 44 = .ok (.aload_n 0, 1) := by decide +kernel
theorem dX10_recover_45 : decode cX10_recover 45 = .ok (.sipush 234, 3) := by decide +kernel
theorem dX10_recover_48 : decode cX10_recover 48 = .ok (.lconst 1, 1) := by decide +kernel
theorem dX10_recover_49 : decode cX10_recover 49 = .ok (.invokevirtual 112, 3) := by decide +kernel
theorem dX10_recover_52 : decode cX10_recover 52 = .ok (.iconst 0, 1) := by decide +kernel
theorem dX10_recover_53 : decode cX10_recover 53 = .ok (.istore_n 1, 1) := by decide +kernel
theorem dX10_recover_54 : decode cX10_recover 54 = .ok (.aload_n 0, 1) := by decide +kernel
theorem dX10_recover_55 : decode cX10_recover 55 = .ok (.sipush 232, 3) := by decide +kernel
theorem dX10_recover_58 : decode cX10_recover 58 = .ok (.invokevirtual 222, 3) := by decide +kernel
theorem dX10_recover_61 : decode cX10_recover 61 = .ok (.ifCond .ne 98, 3) := by decide +kernel
theorem dX10_recover_64 : decode cX10_recover 64 = .ok (.aload_n 0, 1) := by decide +kernel
theorem dX10_recover_65 : decode cX10_recover 65 = .ok (.sipush 231, 3) := by decide +kernel
theorem dX10_recover_68 : decode cX10_recover 68 = .ok (.sipush 232, 3) := by decide +kernel
theorem dX10_recover_71 : decode cX10_recover 71 = .ok (.sipush 229, 3) := by decide +kernel
theorem dX10_recover_74 : decode cX10_recover 74 = .ok (.sipush 230, 3) := by decide +kernel
theorem dX10_recover_77 : decode cX10_recover 77 = .ok (.invokevirtual 98, 3) := by decide +kernel
theorem dX10_recover_80 : decode cX10_recover 80 = .ok (.aload_n 0, 1) := by decide +kernel
theorem dX10_recover_81 : decode cX10_recover 81 = .ok (.sipush 232, 3) := by decide +kernel
theorem dX10_recover_84 : decode cX10_recover 84 = .ok (.sipush 231, 3) := by decide +kernel
theorem dX10_recover_87 : decode cX10_recover 87 = .ok (.invokevirtual 82, 3) := by decide +kernel
theorem dX10_recover_90 : decode cX10_recover 90 = .ok (.aload_n 0, 1) := by decide +kernel
theorem dX10_recover_91 : decode cX10_recover 91 = .ok (.sipush 230, 3) := by decide +kernel
theorem dX10_recover_94 : decode cX10_recover 94 = .ok (.sipush 232, 3) := by decide +kernel
theorem dX10_recover_97 : decode cX10_recover 97 = .ok (.invokevirtual 82, 3) := by decide +kernel
theorem dX10_recover_100 : decode cX10_recover 100 = .ok (.aload_n 0, 1) := by decide +kernel
theorem dX10_recover_101 : decode cX10_recover 101 = .ok (.sipush 229, 3) := by decide +kernel
theorem dX10_recover_104 : decode cX10_recover 104 = .ok (.sipush 234, 3) := by decide +kernel
theorem dX10_recover_107 : decode cX10_recover 107 = .ok (.sipush 236, 3) := by decide +kernel
theorem dX10_recover_110 : decode cX10_recover 110 = .ok (.invokevirtual 102, 3) := by decide +kernel
theorem dX10_recover_113 : decode cX10_recover 113 = .ok (.aload_n 0, 1) := by decide +kernel
theorem dX10_recover_114 : decode cX10_recover 114 = .ok (.sipush 236, 3) := by decide +kernel
theorem dX10_recover_117 : decode cX10_recover 117 = .ok (.sipush 233, 3) := by decide +kernel
theorem dX10_recover_120 : decode cX10_recover 120 = .ok (.sipush 236, 3) := by decide +kernel
theorem dX10_recover_123 : decode cX10_recover 123 = .ok (.invokevirtual 106, 3) := by decide +kernel
theorem dX10_recover_126 : decode cX10_recover 126 = .ok (.aload_n 0, 1) := by decide +kernel
theorem dX10_recover_127 : decode cX10_recover 127 = .ok (.sipush 234, 3) := by decide +kernel
theorem dX10_recover_130 : decode cX10_recover 130 = .ok (.sipush 233, 3) := by decide +kernel
theorem dX10_recover_133 : decode cX10_recover 133 = .ok (.invokevirtual 82, 3) := by decide +kernel
theorem dX10_recover_136 : decode cX10_recover 136 = .ok (.aload_n 0, 1) := by decide +kernel
theorem dX10_recover_137 : decode cX10_recover 137 = .ok (.sipush 236, 3) := by decide +kernel
theorem dX10_recover_140 : decode cX10_recover 140 = .ok (.sipush 234, 3) := by decide +kernel
theorem dX10_recover_143 : decode cX10_recover 143 = .ok (.invokevirtual 82, 3) := by decide +kernel
theorem dX10_recover_146 : decode cX10_recover 146 = .ok (.iload_n 1, 1) := by decide +kernel
theorem dX10_recover_147 : decode cX10_recover 147 = .ok (.ifCond .ne 7, 3) := by decide +kernel
theorem dX10_recover_150 : decode cX10_recover 150 = .ok (.iconst 1, 1) := by decide +kernel
theorem dX10_recover_151 : decode cX10_recover 151 = .ok (.goto 4, 3) := by decide +kernel
theorem dX10_recover_154 : decode cX10_recover 154 = .ok (.iconst 0, 1) := by decide +kernel
theorem dX10_recover_155 : decode cX10_recover 155 = .ok (.istore_n 1, 1) := by decide +kernel
theorem dX10_recover_156 : decode cX10_recover 156 = .ok (.goto (-102), 3) := by decide +kernel
theorem dX10_recover_159 : decode cX10_recover 159 = .ok (.aload_n 0, 1) := by decide +kernel
theorem dX10_recover_160 : decode cX10_recover 160 = .ok (.sipush 234, 3) := by decide +kernel
theorem dX10_recover_163 : decode cX10_recover 163 = .ok (.invokevirtual 222, 3) := by decide +kernel
theorem dX10_recover_166 : decode cX10_recover 166 = .ok (.ifCond .ne 6, 3) := by decide +kernel
theorem dX10_recover_169 : decode cX10_recover 169 = .ok (.bipush (-6), 2) := by decide +kernel
theorem dX10_recover_171 : decode cX10_recover 171 = .ok (.ireturn, 1) := by decide +kernel
theorem dX10_recover_172 : decode cX10_recover 172 = .ok (.aload_n 0, 1) := by decide +kernel
theorem dX10_recover_173 : decode cX10_recover 173 = .ok (.sipush 232, 3) := by decide +kernel
theorem dX10_recover_176 : decode cX10_recover 176 = .ok (.invokevirtual 60, 3) := by decide +kernel
theorem dX10_recover_179 : decode cX10_recover 179 = .ok (.ifCond .le 16, 3) := by decide +kernel
theorem dX10_recover_182 : decode cX10_recover 182 = .ok (.aload_n 0, 1) := by decide +kernel
theorem dX10_recover_183 : decode cX10_recover 183 = .ok (.sipush 232, 3) := by decide +kernel
theorem dX10_recover_186 : decode cX10_recover 186 = .ok (.sipush 234, 3) := by decide +kernel
theorem dX10_recover_189 : decode cX10_recover 189 = .ok (.invokevirtual 95, 3) := by decide +kernel
theorem dX10_recover_192 : decode cX10_recover 192 = .ok (.goto 13, 3) := by decide +kernel
theorem dX10_recover_195 : decode cX10_recover 195 = .ok (.aload_n 0, 1) := by decide +kernel
theorem dX10_recover_196 : decode cX10_recover 196 = .ok (.sipush 234, 3) := by decide +kernel
theorem dX10_recover_199 : decode cX10_recover 199 = .ok (.sipush 235, 3) := by decide +kernel
theorem dX10_recover_202 : decode cX10_recover 202 = .ok (.invokevirtual 82, 3) := by decide +kernel
theorem dX10_recover_205 : decode cX10_recover 205 = .ok (.aload_n 0, 1) := by decide +kernel
theorem dX10_recover_206 : decode cX10_recover 206 = .ok (.sipush 235, 3) := by decide +kernel
theorem dX10_recover_209 : decode cX10_recover 209 = .ok (.invokevirtual 88, 3) := by decide +kernel
theorem dX10_recover_212 : decode cX10_recover 212 = .ok (.ifCond .ne 6, 3) := by decide +kernel
theorem dX10_recover_215 : decode cX10_recover 215 = .ok (.bipush (-6), 2) := by decide +kernel
theorem dX10_recover_217 : decode cX10_recover 217 = .ok (.ireturn, 1) := by decide +kernel
theorem dX10_recover_218 : decode cX10_recover 218 = .ok (.aload_n 0, 1) := by decide +kernel
theorem dX10_recover_219 : decode cX10_recover 219 = .ok (.sipush 232, 3) := by decide +kernel
theorem dX10_recover_222 : decode cX10_recover 222 = .ok (.sipush 210, 3) := by decide +kernel
theorem dX10_recover_225 : decode cX10_recover 225 = .ok (.invokevirtual 82, 3) := by decide +kernel
theorem dX10_recover_228 : decode cX10_recover 228 = .ok (.aload_n 0, 1) := by decide +kernel
theorem dX10_recover_229 : decode cX10_recover 229 = .ok (.sipush 234, 3) := by decide +kernel
theorem dX10_recover_232 : decode cX10_recover 232 = .ok (.sipush 211, 3) := by decide +kernel
theorem dX10_recover_235 : decode cX10_recover 235 = .ok (.invokevirtual 82, 3) := by decide +kernel
theorem dX10_recover_238 : decode cX10_recover 238 = .ok (.aload_n 0, 1) := by decide +kernel
theorem dX10_recover_239 : decode cX10_recover 239 = .ok (.getfield 13, 3) := by decide +kernel
theorem dX10_recover_242 : decode cX10_recover 242 = .ok (.bipush 105, 2) := by decide +kernel
theorem dX10_recover_244 : decode cX10_recover 244 = .ok (.iload_n 1, 1) := by decide +kernel
theorem dX10_recover_245 : decode cX10_recover 245 = .ok (.ifCond .eq 17, 3) := by decide +kernel
theorem dX10_recover_248 : decode cX10_recover 248 = .ok (.aload_n 0, 1) := by decide +kernel
theorem dX10_recover_249 : decode cX10_recover 249 = .ok (.sipush 232, 3) := by decide +kernel
theorem dX10_recover_252 : decode cX10_recover 252 = .ok (.invokevirtual 60, 3) := by decide +kernel
theorem dX10_recover_255 : decode cX10_recover 255 = .ok (.ifCond .le 7, 3) := by decide +kernel
theorem dX10_recover_258 : decode cX10_recover 258 = .ok (.iconst 1, 1) := by decide +kernel
theorem dX10_recover_259 : decode cX10_recover 259 = .ok (.goto 4, 3) := by decide +kernel
theorem dX10_recover_262 : decode cX10_recover 262 = .ok (.iconst 0, 1) := by decide +kernel
theorem dX10_recover_263 : decode cX10_recover 263 = .ok (.bastore, 1) := by decide +kernel
theorem dX10_recover_264 : decode cX10_recover 264 = .ok (.aload_n 0, 1) := by decide +kernel
theorem dX10_recover_265 : decode cX10_recover 265 = .ok (.bipush 105, 2) := by decide +kernel
theorem dX10_recover_267 : decode cX10_recover 267 = .ok (.invokevirtual 150, 3) := by decide +kernel
theorem dX10_recover_270 : decode cX10_recover 270 = .ok (.ireturn, 1) := by decide +kernel
theorem dX10_part_0 : decode cX10_part 0 = .ok (.aload_n 0, 1) := by decide +kernel
theorem dX10_part_1 : decode cX10_part 1 = .ok (.iconst 0, 1) := by decide +kernel
theorem dX10_part_2 : decode cX10_part 2 = .ok (.putfield 52, 3) := by decide +kernel
theorem dX10_part_5 : decode cX10_part 5 = .ok (.aload_n 0, 1) := by decide +kernel
theorem dX10_part_6 : decode cX10_part 6 = .ok (.getfield 219, 3) := by decide +kernel
theorem dX10_part_9 : decode cX10_part 9 = .ok (.istore_n 1, 1) := by decide +kernel
theorem dX10_part_10 : decode cX10_part 10 = .ok (.aload_n 0, 1) := by decide +kernel
theorem dX10_part_11 : decode cX10_part 11 = .ok (.iconst 0, 1) := by decide +kernel
theorem dX10_part_12 : decode cX10_part 12 = .ok (.putfield 219, 3) := by decide +kernel
theorem dX10_part_15 : decode cX10_part 15 = .ok (.aload_n 0, 1) := by decide +kernel
theorem dX10_part_16 : decode cX10_part 16 = .ok (.bipush 111, 2) := by decide +kernel
theorem dX10_part_18 : decode cX10_part 18 = .ok (.invokevirtual 48, 3) := by decide +kernel
theorem dX10_part_21 : decode cX10_part 21 = .ok (.iload_n 1, 1) := by decide +kernel
theorem dX10_part_22 : decode cX10_part 22 = .ok (.ireturn, 1) := by decide +kernel
theorem dX10_tenfold_0 : decode cX10_tenfold 0 = .ok (.iconst 0, 1) := by decide +kernel
theorem dX10_tenfold_1 : decode cX10_tenfold 1 = .ok (.istore_n 2, 1) := by decide +kernel
theorem dX10_tenfold_2 : decode cX10_tenfold 2 = .ok (.iconst 0, 1) := by decide +kernel
theorem dX10_tenfold_3 : decode cX10_tenfold 3 = .ok (.istore_n 3, 1) := by decide +kernel
theorem dX10_tenfold_4 : decode cX10_tenfold 4 = .ok (.iload_n 3, 1) := by decide +kernel
theorem dX10_tenfold_5 : decode cX10_tenfold 5 = .ok (.bipush 16, 2) := by decide +kernel
theorem dX10_tenfold_7 : decode cX10_tenfold 7 = .ok (.if_icmp .ge 55, 3) := by decide +kernel
theorem dX10_tenfold_10 : decode cX10_tenfold 10 = .ok (.ldc2_w 225, 3) := by decide +kernel
theorem dX10_tenfold_13 : decode cX10_tenfold 13 = .ok (.aload_n 0, 1) := by decide +kernel
theorem dX10_tenfold_14 : decode cX10_tenfold 14 = .ok (.getfield 7, 3) := by decide +kernel
theorem dX10_tenfold_17 : decode cX10_tenfold 17 = .ok (.bipush 16, 2) := by decide +kernel
theorem dX10_tenfold_19 : decode cX10_tenfold 19 = .ok (.iload_n 1, 1) := by decide +kernel
theorem dX10_tenfold_20 : decode cX10_tenfold 20 = .ok (.imul, 1) := by decide +kernel
theorem dX10_tenfold_21 : decode cX10_tenfold 21 = .ok (.iload_n 3, 1) := by decide +kernel
theorem dX10_tenfold_22 : decode cX10_tenfold 22 = .ok (.iadd, 1) := by decide +kernel
theorem dX10_tenfold_23 : decode cX10_tenfold 23 = .ok (.iaload, 1) := by decide +kernel
theorem dX10_tenfold_24 : decode cX10_tenfold 24 = .ok (.i2l, 1) := by decide +kernel
theorem dX10_tenfold_25 : decode cX10_tenfold 25 = .ok (.lmul, 1) := by decide +kernel
theorem dX10_tenfold_26 : decode cX10_tenfold 26 = .ok (.iload_n 2, 1) := by decide +kernel
theorem dX10_tenfold_27 : decode cX10_tenfold 27 = .ok (.i2l, 1) := by decide +kernel
theorem dX10_tenfold_28 : decode cX10_tenfold 28 = .ok (.ladd, 1) := by decide +kernel
theorem dX10_tenfold_29 : decode cX10_tenfold 29 = .ok (.lstore 4, 2) := by decide +kernel
theorem dX10_tenfold_31 : decode cX10_tenfold 31 = .ok (.aload_n 0, 1) := by decide +kernel
theorem dX10_tenfold_32 : decode cX10_tenfold 32 = .ok (.getfield 7, 3) := by decide +kernel
theorem dX10_tenfold_35 : decode cX10_tenfold 35 = .ok (.bipush 16, 2) := by decide +kernel
theorem dX10_tenfold_37 : decode cX10_tenfold 37 = .ok (.iload_n 1, 1) := by decide +kernel
theorem dX10_tenfold_38 : decode cX10_tenfold 38 = .ok (.imul, 1) := by decide +kernel
theorem dX10_tenfold_39 : decode cX10_tenfold 39 = .ok (.iload_n 3, 1) := by decide +kernel
theorem dX10_tenfold_40 : decode cX10_tenfold 40 = .ok (.iadd, 1) := by decide +kernel
theorem dX10_tenfold_41 : decode cX10_tenfold 41 = .ok (.lload 4, 2) := by decide +kernel
theorem dX10_tenfold_43 : decode cX10_tenfold 43 = .ok (.ldc2_w 58, 3) := by decide +kernel
theorem dX10_tenfold_46 : decode cX10_tenfold 46 = .ok (.land, 1) := by decide +kernel
theorem dX10_tenfold_47 : decode cX10_tenfold 47 = .ok (.l2i, 1) := by decide +kernel
theorem dX10_tenfold_48 : decode cX10_tenfold 48 = .ok (.iastore, 1) := by decide +kernel
theorem dX10_tenfold_49 : decode cX10_tenfold 49 = .ok (.lload 4, 2) := by decide +kernel
theorem dX10_tenfold_51 : decode cX10_tenfold 51 = .ok (.bipush 28, 2) := by decide +kernel
theorem dX10_tenfold_53 : decode cX10_tenfold 53 = .ok (.lshr, 1) := by decide +kernel
theorem dX10_tenfold_54 : decode cX10_tenfold 54 = .ok (.l2i, 1) := by decide +kernel
theorem dX10_tenfold_55 : decode cX10_tenfold 55 = .ok (.istore_n 2, 1) := by decide +kernel
theorem dX10_tenfold_56 : decode cX10_tenfold 56 = .ok (.iinc 3 1, 3) := by decide +kernel
theorem dX10_tenfold_59 : decode cX10_tenfold 59 = .ok (.goto (-55), 3) := by decide +kernel
theorem dX10_tenfold_62 : decode cX10_tenfold 62 = .ok (.return_, 1) := by decide +kernel
theorem dX10_tenth_0 : decode cX10_tenth 0 = .ok (.lconst 0, 1) := by decide +kernel
theorem dX10_tenth_1 : decode cX10_tenth 1 = .ok (.lstore_n 2, 1) := by decide +kernel
theorem dX10_tenth_2 : decode cX10_tenth 2 = .ok (.bipush 15, 2) := by decide +kernel
theorem dX10_tenth_4 : decode cX10_tenth 4 = .ok (.istore 4, 2) := by decide +kernel
theorem dX10_tenth_6 : decode cX10_tenth 6 = .ok (.iload 4, 2) := by decide +kernel
theorem dX10_tenth_8 : decode cX10_tenth 8 = .ok (.ifCond .lt 55, 3) := by decide +kernel
theorem dX10_tenth_11 : decode cX10_tenth 11 = .ok (.lload_n 2, 1) := by decide +kernel
theorem dX10_tenth_12 : decode cX10_tenth 12 = .ok (.bipush 28, 2) := by decide +kernel
theorem dX10_tenth_14 : decode cX10_tenth 14 = .ok (.lshl, 1) := by decide +kernel
theorem dX10_tenth_15 : decode cX10_tenth 15 = .ok (.aload_n 0, 1) := by decide +kernel
theorem dX10_tenth_16 : decode cX10_tenth 16 = .ok (.getfield 7, 3) := by decide +kernel
theorem dX10_tenth_19 : decode cX10_tenth 19 = .ok (.bipush 16, 2) := by decide +kernel
theorem dX10_tenth_21 : decode cX10_tenth 21 = .ok (.iload_n 1, 1) := by decide +kernel
theorem dX10_tenth_22 : decode cX10_tenth 22 = .ok (.imul, 1) := by decide +kernel
theorem dX10_tenth_23 : decode cX10_tenth 23 = .ok (.iload 4, 2) := by decide +kernel
theorem dX10_tenth_25 : decode cX10_tenth 25 = .ok (.iadd, 1) := by decide +kernel
theorem dX10_tenth_26 : decode cX10_tenth 26 = .ok (.iaload, 1) := by decide +kernel
theorem dX10_tenth_27 : decode cX10_tenth 27 = .ok (.i2l, 1) := by decide +kernel
theorem dX10_tenth_28 : decode cX10_tenth 28 = .ok (.ladd, 1) := by decide +kernel
theorem dX10_tenth_29 : decode cX10_tenth 29 = .ok (.lstore 5, 2) := by decide +kernel
theorem dX10_tenth_31 : decode cX10_tenth 31 = .ok (.aload_n 0, 1) := by decide +kernel
theorem dX10_tenth_32 : decode cX10_tenth 32 = .ok (.getfield 7, 3) := by decide +kernel
theorem dX10_tenth_35 : decode cX10_tenth 35 = .ok (.bipush 16, 2) := by decide +kernel
theorem dX10_tenth_37 : decode cX10_tenth 37 = .ok (.iload_n 1, 1) := by decide +kernel
theorem dX10_tenth_38 : decode cX10_tenth 38 = .ok (.imul, 1) := by decide +kernel
theorem dX10_tenth_39 : decode cX10_tenth 39 = .ok (.iload 4, 2) := by decide +kernel
theorem dX10_tenth_41 : decode cX10_tenth 41 = .ok (.iadd, 1) := by decide +kernel
theorem dX10_tenth_42 : decode cX10_tenth 42 = .ok (.lload 5, 2) := by decide +kernel
theorem dX10_tenth_44 : decode cX10_tenth 44 = .ok (.ldc2_w 225, 3) := by decide +kernel
theorem dX10_tenth_47 : decode cX10_tenth 47 = .ok (.ldiv, 1) := by decide +kernel
theorem dX10_tenth_48 : decode cX10_tenth 48 = .ok (.l2i, 1) := by decide +kernel
theorem dX10_tenth_49 : decode cX10_tenth 49 = .ok (.iastore, 1) := by decide +kernel
theorem dX10_tenth_50 : decode cX10_tenth 50 = .ok (.lload 5, 2) := by decide +kernel
theorem dX10_tenth_52 : decode cX10_tenth 52 = .ok (.ldc2_w 225, 3) := by decide +kernel
theorem dX10_tenth_55 : decode cX10_tenth 55 = .ok (.lrem, 1) := by decide +kernel
theorem dX10_tenth_56 : decode cX10_tenth 56 = .ok (.lstore_n 2, 1) := by decide +kernel
theorem dX10_tenth_57 : decode cX10_tenth 57 = .ok (.iinc 4 (-1), 3) := by decide +kernel
theorem dX10_tenth_60 : decode cX10_tenth 60 = .ok (.goto (-54), 3) := by decide +kernel
theorem dX10_tenth_63 : decode cX10_tenth 63 = .ok (.lload_n 2, 1) := by decide +kernel
theorem dX10_tenth_64 : decode cX10_tenth 64 = .ok (.l2i, 1) := by decide +kernel
theorem dX10_tenth_65 : decode cX10_tenth 65 = .ok (.ireturn, 1) := by decide +kernel
theorem dX10_say_0 : decode cX10_say 0 = .ok (.aload_n 0, 1) := by decide +kernel
theorem dX10_say_1 : decode cX10_say 1 = .ok (.getfield 38, 3) := by decide +kernel
theorem dX10_say_4 : decode cX10_say 4 = .ok (.aload_n 0, 1) := by decide +kernel
theorem dX10_say_5 : decode cX10_say 5 = .ok (.getfield 227, 3) := by decide +kernel
theorem dX10_say_8 : decode cX10_say 8 = .ok (.iload_n 1, 1) := by decide +kernel
theorem dX10_say_9 : decode cX10_say 9 = .ok (.iastore, 1) := by decide +kernel
theorem dX10_say_10 : decode cX10_say 10 = .ok (.aload_n 0, 1) := by decide +kernel
theorem dX10_say_11 : decode cX10_say 11 = .ok (.dup, 1) := by decide +kernel
theorem dX10_say_12 : decode cX10_say 12 = .ok (.getfield 227, 3) := by decide +kernel
theorem dX10_say_15 : decode cX10_say 15 = .ok (.iconst 1, 1) := by decide +kernel
theorem dX10_say_16 : decode cX10_say 16 = .ok (.iadd, 1) := by decide +kernel
theorem dX10_say_17 : decode cX10_say 17 = .ok (.putfield 227, 3) := by decide +kernel
theorem dX10_say_20 : decode cX10_say 20 = .ok (.return_, 1) := by decide +kernel
theorem dX10_decimals_0 : decode cX10_decimals 0 = .ok (.aload_n 0, 1) := by decide +kernel
theorem dX10_decimals_1 : decode cX10_decimals 1 = .ok (.iconst 0, 1) := by decide +kernel
theorem dX10_decimals_2 : decode cX10_decimals 2 = .ok (.putfield 52, 3) := by decide +kernel
theorem dX10_decimals_5 : decode cX10_decimals 5 = .ok (.aload_n 0, 1) := by decide +kernel
theorem dX10_decimals_6 : decode cX10_decimals 6 = .ok (.iload_n 1, 1) := by decide +kernel
theorem dX10_decimals_7 : decode cX10_decimals 7 = .ok (.invokevirtual 137, 3) := by decide +kernel
theorem dX10_decimals_10 : decode cX10_decimals 10 = .ok (.ifCond .eq 13, 3) := by decide +kernel
theorem dX10_decimals_13 : decode cX10_decimals 13 = .ok (.iload_n 2, 1) := by decide +kernel
theorem dX10_decimals_14 : decode cX10_decimals 14 = .ok (.iconst 0, 1) := by decide +kernel
theorem dX10_decimals_15 : decode cX10_decimals 15 = .ok (.bipush 30, 2) := by decide +kernel
theorem dX10_decimals_17 : decode cX10_decimals 17 = .ok (.invokestatic 119, 3) := by decide +kernel
theorem dX10_decimals_20 : decode cX10_decimals 20 = .ok (.ifCond .ne 5, 3) := by decide +kernel
theorem dX10_decimals_23 : decode cX10_decimals 23 = .ok (.iconst (-1), 1) := by decide +kernel
theorem dX10_decimals_24 : decode cX10_decimals 24 = .ok (.ireturn, 1) := by decide +kernel
theorem dX10_decimals_25 : decode cX10_decimals 25 = .ok (.aload_n 0, 1) := by decide +kernel
theorem dX10_decimals_26 : decode cX10_decimals 26 = .ok (.iconst 2, 1) := by decide +kernel
theorem dX10_decimals_27 : decode cX10_decimals 27 = .ok (.iload_n 1, 1) := by decide +kernel
theorem dX10_decimals_28 : decode cX10_decimals 28 = .ok (.imul, 1) := by decide +kernel
theorem dX10_decimals_29 : decode cX10_decimals 29 = .ok (.sipush 224, 3) := by decide +kernel
theorem dX10_decimals_32 : decode cX10_decimals 32 = .ok (.invokevirtual 82, 3) := by decide +kernel
theorem dX10_decimals_35 : decode cX10_decimals 35 = .ok (.iconst 0, 1) := by decide +kernel
theorem dX10_decimals_36 : decode cX10_decimals 36 = .ok (.istore 4, 2) := by decide +kernel
theorem dX10_decimals_38 : decode cX10_decimals 38 = .ok (.iload 4, 2) := by decide +kernel
theorem dX10_decimals_40 : decode cX10_decimals 40 = .ok (.iload_n 2, 1) := by decide +kernel
theorem dX10_decimals_41 : decode cX10_decimals 41 = .ok (.if_icmp .ge 16, 3) := by decide +kernel
theorem dX10_decimals_44 : decode cX10_decimals 44 = .ok (.aload_n 0, 1) := by decide +kernel
theorem dX10_decimals_45 : decode cX10_decimals 45 = .ok (.sipush 224, 3) := by decide +kernel
theorem dX10_decimals_48 : decode cX10_decimals 48 = .ok (.invokevirtual 230, 3) := by decide +kernel
theorem dX10_decimals_51 : decode cX10_decimals 51 = .ok (.iinc 4 1, 3) := by decide +kernel
theorem dX10_decimals_54 : decode cX10_decimals 54 = .ok (.goto (-16), 3) := by decide +kernel
theorem dX10_decimals_57 : decode cX10_decimals 57 = .ok (.aload_n 0, 1) := by decide +kernel
theorem dX10_decimals_58 : decode cX10_decimals 58 = .ok (.sipush 224, 3) := by decide +kernel
theorem dX10_decimals_61 : decode cX10_decimals 61 = .ok (.iconst 2, 1) := by decide +kernel
theorem dX10_decimals_62 : decode cX10_decimals 62 = .ok (.iload_n 1, 1) := by decide +kernel
theorem dX10_decimals_63 : decode cX10_decimals 63 = .ok (.imul, 1) := by decide +kernel
theorem dX10_decimals_64 : decode cX10_decimals 64 = .ok (.iconst 1, 1) := by decide +kernel
theorem dX10_decimals_65 : decode cX10_decimals 65 = .ok (.iadd, 1) := by decide +kernel
theorem dX10_decimals_66 : decode cX10_decimals 66 = .ok (.sipush 229, 3) := by decide +kernel
theorem dX10_decimals_69 : decode cX10_decimals 69 = .ok (.sipush 230, 3) := by decide +kernel
theorem dX10_decimals_72 : decode cX10_decimals 72 = .ok (.invokevirtual 98, 3) := by decide +kernel
theorem dX10_decimals_75 : decode cX10_decimals 75 = .ok (.aload_n 0, 1) := by decide +kernel
theorem dX10_decimals_76 : decode cX10_decimals 76 = .ok (.sipush 230, 3) := by decide +kernel
theorem dX10_decimals_79 : decode cX10_decimals 79 = .ok (.invokevirtual 60, 3) := by decide +kernel
theorem dX10_decimals_82 : decode cX10_decimals 82 = .ok (.ifCond .le 34, 3) := by decide +kernel
theorem dX10_decimals_85 : decode cX10_decimals 85 = .ok (.aload_n 0, 1) := by decide +kernel
theorem dX10_decimals_86 : decode cX10_decimals 86 = .ok (.getfield 13, 3) := by decide +kernel
theorem dX10_decimals_89 : decode cX10_decimals 89 = .ok (.iload_n 1, 1) := by decide +kernel
theorem dX10_decimals_90 : decode cX10_decimals 90 = .ok (.baload, 1) := by decide +kernel
theorem dX10_decimals_91 : decode cX10_decimals 91 = .ok (.iload_n 3, 1) := by decide +kernel
theorem dX10_decimals_92 : decode cX10_decimals 92 = .ok (.if_icmp .eq 24, 3) := by decide +kernel
theorem dX10_decimals_95 : decode cX10_decimals 95 = .ok (.aload_n 0, 1) := by decide +kernel
theorem dX10_decimals_96 : decode cX10_decimals 96 = .ok (.sipush 225, 3) := by decide +kernel
theorem dX10_decimals_99 : decode cX10_decimals 99 = .ok (.lconst 1, 1) := by decide +kernel
theorem dX10_decimals_100 : decode cX10_decimals 100 = .ok (.invokevirtual 112, 3) := by decide +kernel
theorem dX10_decimals_103 : decode cX10_decimals 103 = .ok (.aload_n 0, 1) := by decide +kernel
theorem dX10_decimals_104 : decode cX10_decimals 104 = .ok (.sipush 229, 3) := by decide +kernel
theorem dX10_decimals_107 : decode cX10_decimals 107 = .ok (.sipush 225, 3) := by decide +kernel
theorem dX10_decimals_110 : decode cX10_decimals 110 = .ok (.sipush 229, 3) := by decide +kernel
theorem dX10_decimals_113 : decode cX10_decimals 113 = .ok (.invokevirtual 106, 3) := by decide +kernel
theorem dX10_decimals_116 : decode cX10_decimals 116 = .ok (.aload_n 0, 1) := by decide +kernel
theorem dX10_decimals_117 : decode cX10_decimals 117 = .ok (.iconst 0, 1) := by decide +kernel
theorem dX10_decimals_118 : decode cX10_decimals 118 = .ok (.putfield 227, 3) := by decide +kernel
theorem dX10_decimals_121 : decode cX10_decimals 121 = .ok (.aload_n 0, 1) := by decide +kernel
theorem dX10_decimals_122 : decode cX10_decimals 122 = .ok (.getfield 13, 3) := by decide +kernel
theorem dX10_decimals_125 : decode cX10_decimals 125 = .ok (.iload_n 1, 1) := by decide +kernel
theorem dX10_decimals_126 : decode cX10_decimals 126 = .ok (.baload, 1) := by decide +kernel
theorem dX10_decimals_127 : decode cX10_decimals 127 = .ok (.ifCond .eq 19, 3) := by decide +kernel
theorem dX10_decimals_130 : decode cX10_decimals 130 = .ok (.aload_n 0, 1) := by decide +kernel
theorem dX10_decimals_131 : decode cX10_decimals 131 = .ok (.sipush 229, 3) := by decide +kernel
theorem dX10_decimals_134 : decode cX10_decimals 134 = .ok (.invokevirtual 60, 3) := by decide +kernel
theorem dX10_decimals_137 : decode cX10_decimals 137 = .ok (.ifCond .le 9, 3) := by decide +kernel
theorem dX10_decimals_140 : decode cX10_decimals 140 = .ok (.aload_n 0, 1) := by decide +kernel
theorem dX10_decimals_141 : decode cX10_decimals 141 = .ok (.bipush 45, 2) := by decide +kernel
theorem dX10_decimals_143 : decode cX10_decimals 143 = .ok (.invokevirtual 233, 3) := by decide +kernel
theorem dX10_decimals_146 : decode cX10_decimals 146 = .ok (.iconst 0, 1) := by decide +kernel
theorem dX10_decimals_147 : decode cX10_decimals 147 = .ok (.istore 4, 2) := by decide +kernel
theorem dX10_decimals_149 : decode cX10_decimals 149 = .ok (.aload_n 0, 1) := by decide +kernel
theorem dX10_decimals_150 : decode cX10_decimals 150 = .ok (.sipush 229, 3) := by decide +kernel
theorem dX10_decimals_153 : decode cX10_decimals 153 = .ok (.invokevirtual 60, 3) := by decide +kernel
theorem dX10_decimals_156 : decode cX10_decimals 156 = .ok (.ifCond .gt 9, 3) := by decide +kernel
theorem dX10_decimals_159 : decode cX10_decimals 159 = .ok (.iload 4, 2) := by decide +kernel
theorem dX10_decimals_161 : decode cX10_decimals 161 = .ok (.iload_n 2, 1) := by decide +kernel
theorem dX10_decimals_162 : decode cX10_decimals 162 = .ok (.if_icmp .gt 23, 3) := by decide +kernel
theorem dX10_decimals_165 : decode cX10_decimals 165 = .ok (.aload_n 0, 1) := by decide +kernel
theorem dX10_decimals_166 : decode cX10_decimals 166 = .ok (.getfield 41, 3) := by decide +kernel
theorem dX10_decimals_169 : decode cX10_decimals 169 = .ok (.iload 4, 2) := by decide +kernel
theorem dX10_decimals_171 : decode cX10_decimals 171 = .ok (.aload_n 0, 1) := by decide +kernel
theorem dX10_decimals_172 : decode cX10_decimals 172 = .ok (.sipush 229, 3) := by decide +kernel
theorem dX10_decimals_175 : decode cX10_decimals 175 = .ok (.invokevirtual 236, 3) := by decide +kernel
theorem dX10_decimals_178 : decode cX10_decimals 178 = .ok (.iastore, 1) := by decide +kernel
theorem dX10_decimals_179 : decode cX10_decimals 179 = .ok (.iinc 4 1, 3) := by decide +kernel
theorem dX10_decimals_182 : decode cX10_decimals 182 = .ok (.goto (-33), 3) := by decide +kernel
theorem dX10_decimals_185 : decode cX10_decimals 185 = .ok (.iload 4, 2) := by decide +kernel
theorem dX10_decimals_187 : decode cX10_decimals 187 = .ok (.iconst 1, 1) := by decide +kernel
theorem dX10_decimals_188 : decode cX10_decimals 188 = .ok (.isub, 1) := by decide +kernel
theorem dX10_decimals_189 : decode cX10_decimals 189 = .ok (.istore 5, 2) := by decide +kernel
theorem dX10_decimals_191 : decode cX10_decimals 191 = .ok (.iload 5, 2) := by decide +kernel
theorem dX10_decimals_193 : decode cX10_decimals 193 = .ok (.ifCond .lt 40, 3) := by decide +kernel
theorem dX10_decimals_196 : decode cX10_decimals 196 = .ok (.aload_n 0, 1) := by decide +kernel
theorem dX10_decimals_197 : decode cX10_decimals 197 = .ok (.bipush 48, 2) := by decide +kernel
theorem dX10_decimals_199 : decode cX10_decimals 199 = .ok (.aload_n 0, 1) := by decide +kernel
theorem dX10_decimals_200 : decode cX10_decimals 200 = .ok (.getfield 41, 3) := by decide +kernel
theorem dX10_decimals_203 : decode cX10_decimals 203 = .ok (.iload 5, 2) := by decide +kernel
theorem dX10_decimals_205 : decode cX10_decimals 205 = .ok (.iaload, 1) := by decide +kernel
theorem dX10_decimals_206 : decode cX10_decimals 206 = .ok (.iadd, 1) := by decide +kernel
theorem dX10_decimals_207 : decode cX10_decimals 207 = .ok (.invokevirtual 233, 3) := by decide +kernel
theorem dX10_decimals_210 : decode cX10_decimals 210 = .ok (.iload 5, 2) := by decide +kernel
theorem dX10_decimals_212 : decode cX10_decimals 212 = .ok (.iload_n 2, 1) := by decide +kernel
theorem dX10_decimals_213 : decode cX10_decimals 213 = .ok (.if_icmp .ne 14, 3) := by decide +kernel
theorem dX10_decimals_216 : decode cX10_decimals 216 = .ok (.iload 5, 2) := by decide +kernel
theorem dX10_decimals_218 : decode cX10_decimals 218 = .ok (.ifCond .le 9, 3) := by decide +kernel
theorem dX10_decimals_221 : decode cX10_decimals 221 = .ok (.aload_n 0, 1) := by decide +kernel
theorem dX10_decimals_222 : decode cX10_decimals 222 = .ok (.bipush 46, 2) := by decide +kernel
theorem dX10_decimals_224 : decode cX10_decimals 224 = .ok (.invokevirtual 233, 3) := by decide +kernel
theorem dX10_decimals_227 : decode cX10_decimals 227 = .ok (.iinc 5 (-1), 3) := by decide +kernel
theorem dX10_decimals_230 : decode cX10_decimals 230 = .ok (.goto (-39), 3) := by decide +kernel
theorem dX10_decimals_233 : decode cX10_decimals 233 = .ok (.aload_n 0, 1) := by decide +kernel
theorem dX10_decimals_234 : decode cX10_decimals 234 = .ok (.getfield 227, 3) := by decide +kernel
theorem dX10_decimals_237 : decode cX10_decimals 237 = .ok (.ireturn, 1) := by decide +kernel
theorem dX10_sign_0 : decode cX10_sign 0 = .ok (.aload_n 0, 1) := by decide +kernel
theorem dX10_sign_1 : decode cX10_sign 1 = .ok (.iconst 0, 1) := by decide +kernel
theorem dX10_sign_2 : decode cX10_sign 2 = .ok (.putfield 52, 3) := by decide +kernel
theorem dX10_sign_5 : decode cX10_sign 5 = .ok (.iload_n 1, 1) := by decide +kernel
theorem dX10_sign_6 : decode cX10_sign 6 = .ok (.iconst 0, 1) := by decide +kernel
theorem dX10_sign_7 : decode cX10_sign 7 = .ok (.aload_n 0, 1) := by decide +kernel
theorem dX10_sign_8 : decode cX10_sign 8 = .ok (.getfield 227, 3) := by decide +kernel
theorem dX10_sign_11 : decode cX10_sign 11 = .ok (.iconst 1, 1) := by decide +kernel
theorem dX10_sign_12 : decode cX10_sign 12 = .ok (.isub, 1) := by decide +kernel
theorem dX10_sign_13 : decode cX10_sign 13 = .ok (.invokestatic 119, 3) := by decide +kernel
theorem dX10_sign_16 : decode cX10_sign 16 = .ok (.ifCond .eq 12, 3) := by decide +kernel
theorem dX10_sign_19 : decode cX10_sign 19 = .ok (.aload_n 0, 1) := by decide +kernel
theorem dX10_sign_20 : decode cX10_sign 20 = .ok (.getfield 38, 3) := by decide +kernel
theorem dX10_sign_23 : decode cX10_sign 23 = .ok (.iload_n 1, 1) := by decide +kernel
theorem dX10_sign_24 : decode cX10_sign 24 = .ok (.iaload, 1) := by decide +kernel
theorem dX10_sign_25 : decode cX10_sign 25 = .ok (.goto 4, 3) := by decide +kernel
theorem dX10_sign_28 : decode cX10_sign 28 = .ok (.iconst (-1), 1) := by decide +kernel
theorem dX10_sign_29 : decode cX10_sign 29 = .ok (.ireturn, 1) := by decide +kernel
theorem dX10_count_0 : decode cX10_count 0 = .ok (.aload_n 0, 1) := by decide +kernel
theorem dX10_count_1 : decode cX10_count 1 = .ok (.iconst 0, 1) := by decide +kernel
theorem dX10_count_2 : decode cX10_count 2 = .ok (.putfield 52, 3) := by decide +kernel
theorem dX10_count_5 : decode cX10_count 5 = .ok (.iload_n 1, 1) := by decide +kernel
theorem dX10_count_6 : decode cX10_count 6 = .ok (.tableswitch 50 0 3 #[30, 35, 40, 45], 30) := by decide +kernel
theorem dX10_count_36 : decode cX10_count 36 = .ok (.aload_n 0, 1) := by decide +kernel
theorem dX10_count_37 : decode cX10_count 37 = .ok (.getfield 116, 3) := by decide +kernel
theorem dX10_count_40 : decode cX10_count 40 = .ok (.ireturn, 1) := by decide +kernel
theorem dX10_count_41 : decode cX10_count 41 = .ok (.aload_n 0, 1) := by decide +kernel
theorem dX10_count_42 : decode cX10_count 42 = .ok (.getfield 219, 3) := by decide +kernel
theorem dX10_count_45 : decode cX10_count 45 = .ok (.ireturn, 1) := by decide +kernel
theorem dX10_count_46 : decode cX10_count 46 = .ok (.aload_n 0, 1) := by decide +kernel
theorem dX10_count_47 : decode cX10_count 47 = .ok (.getfield 44, 3) := by decide +kernel
theorem dX10_count_50 : decode cX10_count 50 = .ok (.ireturn, 1) := by decide +kernel
theorem dX10_count_51 : decode cX10_count 51 = .ok (.aload_n 0, 1) := by decide +kernel
theorem dX10_count_52 : decode cX10_count 52 = .ok (.getfield 123, 3) := by decide +kernel
theorem dX10_count_55 : decode cX10_count 55 = .ok (.ireturn, 1) := by decide +kernel
theorem dX10_count_56 : decode cX10_count 56 = .ok (.iconst (-1), 1) := by decide +kernel
theorem dX10_count_57 : decode cX10_count 57 = .ok (.ireturn, 1) := by decide +kernel
theorem dX10_clear_0 : decode cX10_clear 0 = .ok (.aload_n 0, 1) := by decide +kernel
theorem dX10_clear_1 : decode cX10_clear 1 = .ok (.iconst 0, 1) := by decide +kernel
theorem dX10_clear_2 : decode cX10_clear 2 = .ok (.putfield 52, 3) := by decide +kernel
theorem dX10_clear_5 : decode cX10_clear 5 = .ok (.aload_n 0, 1) := by decide +kernel
theorem dX10_clear_6 : decode cX10_clear 6 = .ok (.getfield 116, 3) := by decide +kernel
theorem dX10_clear_9 : decode cX10_clear 9 = .ok (.istore_n 1, 1) := by decide +kernel
theorem dX10_clear_10 : decode cX10_clear 10 = .ok (.aload_n 0, 1) := by decide +kernel
theorem dX10_clear_11 : decode cX10_clear 11 = .ok (.iconst 0, 1) := by decide +kernel
theorem dX10_clear_12 : decode cX10_clear 12 = .ok (.putfield 116, 3) := by decide +kernel
theorem dX10_clear_15 : decode cX10_clear 15 = .ok (.bipush 40, 2) := by decide +kernel
theorem dX10_clear_17 : decode cX10_clear 17 = .ok (.istore_n 2, 1) := by decide +kernel
theorem dX10_clear_18 : decode cX10_clear 18 = .ok (.iload_n 2, 1) := by decide +kernel
theorem dX10_clear_19 : decode cX10_clear 19 = .ok (.bipush 70, 2) := by decide +kernel
theorem dX10_clear_21 : decode cX10_clear 21 = .ok (.if_icmp .ge 14, 3) := by decide +kernel
theorem dX10_clear_24 : decode cX10_clear 24 = .ok (.aload_n 0, 1) := by decide +kernel
theorem dX10_clear_25 : decode cX10_clear 25 = .ok (.iload_n 2, 1) := by decide +kernel
theorem dX10_clear_26 : decode cX10_clear 26 = .ok (.invokevirtual 48, 3) := by decide +kernel
theorem dX10_clear_29 : decode cX10_clear 29 = .ok (.iinc 2 1, 3) := by decide +kernel
theorem dX10_clear_32 : decode cX10_clear 32 = .ok (.goto (-14), 3) := by decide +kernel
theorem dX10_clear_35 : decode cX10_clear 35 = .ok (.aload_n 0, 1) := by decide +kernel
theorem dX10_clear_36 : decode cX10_clear 36 = .ok (.iconst 0, 1) := by decide +kernel
theorem dX10_clear_37 : decode cX10_clear 37 = .ok (.putfield 180, 3) := by decide +kernel
theorem dX10_clear_40 : decode cX10_clear 40 = .ok (.aload_n 0, 1) := by decide +kernel
theorem dX10_clear_41 : decode cX10_clear 41 = .ok (.iconst 0, 1) := by decide +kernel
theorem dX10_clear_42 : decode cX10_clear 42 = .ok (.putfield 219, 3) := by decide +kernel
theorem dX10_clear_45 : decode cX10_clear 45 = .ok (.aload_n 0, 1) := by decide +kernel
theorem dX10_clear_46 : decode cX10_clear 46 = .ok (.bipush 111, 2) := by decide +kernel
theorem dX10_clear_48 : decode cX10_clear 48 = .ok (.invokevirtual 48, 3) := by decide +kernel
theorem dX10_clear_51 : decode cX10_clear 51 = .ok (.iload_n 1, 1) := by decide +kernel
theorem dX10_clear_52 : decode cX10_clear 52 = .ok (.ireturn, 1) := by decide +kernel
theorem dJ6_numberOfLeadingZeros_0f7a4_0 : decode cJ6_numberOfLeadingZeros_0f7a4 0 = .ok (.iload_n 0, 1) := by decide +kernel
theorem dJ6_numberOfLeadingZeros_0f7a4_1 : decode cJ6_numberOfLeadingZeros_0f7a4 1 = .ok (.ifCond .gt 14, 3) := by decide +kernel
theorem dJ6_numberOfLeadingZeros_0f7a4_4 : decode cJ6_numberOfLeadingZeros_0f7a4 4 = .ok (.iload_n 0, 1) := by decide +kernel
theorem dJ6_numberOfLeadingZeros_0f7a4_5 : decode cJ6_numberOfLeadingZeros_0f7a4 5 = .ok (.ifCond .ne 8, 3) := by decide +kernel
theorem dJ6_numberOfLeadingZeros_0f7a4_8 : decode cJ6_numberOfLeadingZeros_0f7a4 8 = .ok (.bipush 32, 2) := by decide +kernel
theorem dJ6_numberOfLeadingZeros_0f7a4_10 : decode cJ6_numberOfLeadingZeros_0f7a4 10 = .ok (.goto 4, 3) := by decide +kernel
theorem dJ6_numberOfLeadingZeros_0f7a4_13 : decode cJ6_numberOfLeadingZeros_0f7a4 13 = .ok (.iconst 0, 1) := by decide +kernel
theorem dJ6_numberOfLeadingZeros_0f7a4_14 : decode cJ6_numberOfLeadingZeros_0f7a4 14 = .ok (.ireturn, 1) := by decide +kernel
theorem dJ6_numberOfLeadingZeros_0f7a4_15 : decode cJ6_numberOfLeadingZeros_0f7a4 15 = .ok (.bipush 31, 2) := by decide +kernel
theorem dJ6_numberOfLeadingZeros_0f7a4_17 : decode cJ6_numberOfLeadingZeros_0f7a4 17 = .ok (.istore_n 1, 1) := by decide +kernel
theorem dJ6_numberOfLeadingZeros_0f7a4_18 : decode cJ6_numberOfLeadingZeros_0f7a4 18 = .ok (.iload_n 0, 1) := by decide +kernel
theorem dJ6_numberOfLeadingZeros_0f7a4_19 : decode cJ6_numberOfLeadingZeros_0f7a4 19 = .ok (.ldc_w 264, 3) := by decide +kernel
theorem dJ6_numberOfLeadingZeros_0f7a4_22 : decode cJ6_numberOfLeadingZeros_0f7a4 22 = .ok (.if_icmp .lt 11, 3) := by decide +kernel
theorem dJ6_numberOfLeadingZeros_0f7a4_25 : decode cJ6_numberOfLeadingZeros_0f7a4 25 = .ok (.iinc 1 (-16), 3) := by decide +kernel
theorem dJ6_numberOfLeadingZeros_0f7a4_28 : decode cJ6_numberOfLeadingZeros_0f7a4 28 = .ok (.iload_n 0, 1) := by decide +kernel
theorem dJ6_numberOfLeadingZeros_0f7a4_29 : decode cJ6_numberOfLeadingZeros_0f7a4 29 = .ok (.bipush 16, 2) := by decide +kernel
theorem dJ6_numberOfLeadingZeros_0f7a4_31 : decode cJ6_numberOfLeadingZeros_0f7a4 31 = .ok (.iushr, 1) := by decide +kernel
theorem dJ6_numberOfLeadingZeros_0f7a4_32 : decode cJ6_numberOfLeadingZeros_0f7a4 32 = .ok (.istore_n 0, 1) := by decide +kernel
theorem dJ6_numberOfLeadingZeros_0f7a4_33 : decode cJ6_numberOfLeadingZeros_0f7a4 33 = .ok (.iload_n 0, 1) := by decide +kernel
theorem dJ6_numberOfLeadingZeros_0f7a4_34 : decode cJ6_numberOfLeadingZeros_0f7a4 34 = .ok (.sipush 256, 3) := by decide +kernel
theorem dJ6_numberOfLeadingZeros_0f7a4_37 : decode cJ6_numberOfLeadingZeros_0f7a4 37 = .ok (.if_icmp .lt 11, 3) := by decide +kernel
theorem dJ6_numberOfLeadingZeros_0f7a4_40 : decode cJ6_numberOfLeadingZeros_0f7a4 40 = .ok (.iinc 1 (-8), 3) := by decide +kernel
theorem dJ6_numberOfLeadingZeros_0f7a4_43 : decode cJ6_numberOfLeadingZeros_0f7a4 43 = .ok (.iload_n 0, 1) := by decide +kernel
theorem dJ6_numberOfLeadingZeros_0f7a4_44 : decode cJ6_numberOfLeadingZeros_0f7a4 44 = .ok (.bipush 8, 2) := by decide +kernel
theorem dJ6_numberOfLeadingZeros_0f7a4_46 : decode cJ6_numberOfLeadingZeros_0f7a4 46 = .ok (.iushr, 1) := by decide +kernel
theorem dJ6_numberOfLeadingZeros_0f7a4_47 : decode cJ6_numberOfLeadingZeros_0f7a4 47 = .ok (.istore_n 0, 1) := by decide +kernel
theorem dJ6_numberOfLeadingZeros_0f7a4_48 : decode cJ6_numberOfLeadingZeros_0f7a4 48 = .ok (.iload_n 0, 1) := by decide +kernel
theorem dJ6_numberOfLeadingZeros_0f7a4_49 : decode cJ6_numberOfLeadingZeros_0f7a4 49 = .ok (.bipush 16, 2) := by decide +kernel
theorem dJ6_numberOfLeadingZeros_0f7a4_51 : decode cJ6_numberOfLeadingZeros_0f7a4 51 = .ok (.if_icmp .lt 10, 3) := by decide +kernel
theorem dJ6_numberOfLeadingZeros_0f7a4_54 : decode cJ6_numberOfLeadingZeros_0f7a4 54 = .ok (.iinc 1 (-4), 3) := by decide +kernel
theorem dJ6_numberOfLeadingZeros_0f7a4_57 : decode cJ6_numberOfLeadingZeros_0f7a4 57 = .ok (.iload_n 0, 1) := by decide +kernel
theorem dJ6_numberOfLeadingZeros_0f7a4_58 : decode cJ6_numberOfLeadingZeros_0f7a4 58 = .ok (.iconst 4, 1) := by decide +kernel
theorem dJ6_numberOfLeadingZeros_0f7a4_59 : decode cJ6_numberOfLeadingZeros_0f7a4 59 = .ok (.iushr, 1) := by decide +kernel
theorem dJ6_numberOfLeadingZeros_0f7a4_60 : decode cJ6_numberOfLeadingZeros_0f7a4 60 = .ok (.istore_n 0, 1) := by decide +kernel
theorem dJ6_numberOfLeadingZeros_0f7a4_61 : decode cJ6_numberOfLeadingZeros_0f7a4 61 = .ok (.iload_n 0, 1) := by decide +kernel
theorem dJ6_numberOfLeadingZeros_0f7a4_62 : decode cJ6_numberOfLeadingZeros_0f7a4 62 = .ok (.iconst 4, 1) := by decide +kernel
theorem dJ6_numberOfLeadingZeros_0f7a4_63 : decode cJ6_numberOfLeadingZeros_0f7a4 63 = .ok (.if_icmp .lt 10, 3) := by decide +kernel
theorem dJ6_numberOfLeadingZeros_0f7a4_66 : decode cJ6_numberOfLeadingZeros_0f7a4 66 = .ok (.iinc 1 (-2), 3) := by decide +kernel
theorem dJ6_numberOfLeadingZeros_0f7a4_69 : decode cJ6_numberOfLeadingZeros_0f7a4 69 = .ok (.iload_n 0, 1) := by decide +kernel
theorem dJ6_numberOfLeadingZeros_0f7a4_70 : decode cJ6_numberOfLeadingZeros_0f7a4 70 = .ok (.iconst 2, 1) := by decide +kernel
theorem dJ6_numberOfLeadingZeros_0f7a4_71 : decode cJ6_numberOfLeadingZeros_0f7a4 71 = .ok (.iushr, 1) := by decide +kernel
theorem dJ6_numberOfLeadingZeros_0f7a4_72 : decode cJ6_numberOfLeadingZeros_0f7a4 72 = .ok (.istore_n 0, 1) := by decide +kernel
theorem dJ6_numberOfLeadingZeros_0f7a4_73 : decode cJ6_numberOfLeadingZeros_0f7a4 73 = .ok (.iload_n 1, 1) := by decide +kernel
theorem dJ6_numberOfLeadingZeros_0f7a4_74 : decode cJ6_numberOfLeadingZeros_0f7a4 74 = .ok (.iload_n 0, 1) := by decide +kernel
theorem dJ6_numberOfLeadingZeros_0f7a4_75 : decode cJ6_numberOfLeadingZeros_0f7a4 75 = .ok (.iconst 1, 1) := by decide +kernel
theorem dJ6_numberOfLeadingZeros_0f7a4_76 : decode cJ6_numberOfLeadingZeros_0f7a4 76 = .ok (.iushr, 1) := by decide +kernel
theorem dJ6_numberOfLeadingZeros_0f7a4_77 : decode cJ6_numberOfLeadingZeros_0f7a4 77 = .ok (.isub, 1) := by decide +kernel
theorem dJ6_numberOfLeadingZeros_0f7a4_78 : decode cJ6_numberOfLeadingZeros_0f7a4 78 = .ok (.ireturn, 1) := by decide +kernel
theorem dJ6_numberOfTrailingZeros_0f7a4_0 : decode cJ6_numberOfTrailingZeros_0f7a4 0 = .ok (.iload_n 0, 1) := by decide +kernel
theorem dJ6_numberOfTrailingZeros_0f7a4_1 : decode cJ6_numberOfTrailingZeros_0f7a4 1 = .ok (.iconst (-1), 1) := by decide +kernel
theorem dJ6_numberOfTrailingZeros_0f7a4_2 : decode cJ6_numberOfTrailingZeros_0f7a4 2 = .ok (.ixor, 1) := by decide +kernel
theorem dJ6_numberOfTrailingZeros_0f7a4_3 : decode cJ6_numberOfTrailingZeros_0f7a4 3 = .ok (.iload_n 0, 1) := by decide +kernel
theorem dJ6_numberOfTrailingZeros_0f7a4_4 : decode cJ6_numberOfTrailingZeros_0f7a4 4 = .ok (.iconst 1, 1) := by decide +kernel
theorem dJ6_numberOfTrailingZeros_0f7a4_5 : decode cJ6_numberOfTrailingZeros_0f7a4 5 = .ok (.isub, 1) := by decide +kernel
theorem dJ6_numberOfTrailingZeros_0f7a4_6 : decode cJ6_numberOfTrailingZeros_0f7a4 6 = .ok (.iand, 1) := by decide +kernel
theorem dJ6_numberOfTrailingZeros_0f7a4_7 : decode cJ6_numberOfTrailingZeros_0f7a4 7 = .ok (.istore_n 0, 1) := by decide +kernel
theorem dJ6_numberOfTrailingZeros_0f7a4_8 : decode cJ6_numberOfTrailingZeros_0f7a4 8 = .ok (.iload_n 0, 1) := by decide +kernel
theorem dJ6_numberOfTrailingZeros_0f7a4_9 : decode cJ6_numberOfTrailingZeros_0f7a4 9 = .ok (.ifCond .gt 8, 3) := by decide +kernel
theorem dJ6_numberOfTrailingZeros_0f7a4_12 : decode cJ6_numberOfTrailingZeros_0f7a4 12 = .ok (.iload_n 0, 1) := by decide +kernel
theorem dJ6_numberOfTrailingZeros_0f7a4_13 : decode cJ6_numberOfTrailingZeros_0f7a4 13 = .ok (.bipush 32, 2) := by decide +kernel
theorem dJ6_numberOfTrailingZeros_0f7a4_15 : decode cJ6_numberOfTrailingZeros_0f7a4 15 = .ok (.iand, 1) := by decide +kernel
theorem dJ6_numberOfTrailingZeros_0f7a4_16 : decode cJ6_numberOfTrailingZeros_0f7a4 16 = .ok (.ireturn, 1) := by decide +kernel
theorem dJ6_numberOfTrailingZeros_0f7a4_17 : decode cJ6_numberOfTrailingZeros_0f7a4 17 = .ok (.iconst 1, 1) := by decide +kernel
theorem dJ6_numberOfTrailingZeros_0f7a4_18 : decode cJ6_numberOfTrailingZeros_0f7a4 18 = .ok (.istore_n 1, 1) := by decide +kernel
theorem dJ6_numberOfTrailingZeros_0f7a4_19 : decode cJ6_numberOfTrailingZeros_0f7a4 19 = .ok (.iload_n 0, 1) := by decide +kernel
theorem dJ6_numberOfTrailingZeros_0f7a4_20 : decode cJ6_numberOfTrailingZeros_0f7a4 20 = .ok (.ldc_w 264, 3) := by decide +kernel
theorem dJ6_numberOfTrailingZeros_0f7a4_23 : decode cJ6_numberOfTrailingZeros_0f7a4 23 = .ok (.if_icmp .le 11, 3) := by decide +kernel
theorem dJ6_numberOfTrailingZeros_0f7a4_26 : decode cJ6_numberOfTrailingZeros_0f7a4 26 = .ok (.iinc 1 16, 3) := by decide +kernel
theorem dJ6_numberOfTrailingZeros_0f7a4_29 : decode cJ6_numberOfTrailingZeros_0f7a4 29 = .ok (.iload_n 0, 1) := by decide +kernel
theorem dJ6_numberOfTrailingZeros_0f7a4_30 : decode cJ6_numberOfTrailingZeros_0f7a4 30 = .ok (.bipush 16, 2) := by decide +kernel
theorem dJ6_numberOfTrailingZeros_0f7a4_32 : decode cJ6_numberOfTrailingZeros_0f7a4 32 = .ok (.iushr, 1) := by decide +kernel
theorem dJ6_numberOfTrailingZeros_0f7a4_33 : decode cJ6_numberOfTrailingZeros_0f7a4 33 = .ok (.istore_n 0, 1) := by decide +kernel
theorem dJ6_numberOfTrailingZeros_0f7a4_34 : decode cJ6_numberOfTrailingZeros_0f7a4 34 = .ok (.iload_n 0, 1) := by decide +kernel
theorem dJ6_numberOfTrailingZeros_0f7a4_35 : decode cJ6_numberOfTrailingZeros_0f7a4 35 = .ok (.sipush 256, 3) := by decide +kernel
theorem dJ6_numberOfTrailingZeros_0f7a4_38 : decode cJ6_numberOfTrailingZeros_0f7a4 38 = .ok (.if_icmp .le 11, 3) := by decide +kernel
theorem dJ6_numberOfTrailingZeros_0f7a4_41 : decode cJ6_numberOfTrailingZeros_0f7a4 41 = .ok (.iinc 1 8, 3) := by decide +kernel
theorem dJ6_numberOfTrailingZeros_0f7a4_44 : decode cJ6_numberOfTrailingZeros_0f7a4 44 = .ok (.iload_n 0, 1) := by decide +kernel
theorem dJ6_numberOfTrailingZeros_0f7a4_45 : decode cJ6_numberOfTrailingZeros_0f7a4 45 = .ok (.bipush 8, 2) := by decide +kernel
theorem dJ6_numberOfTrailingZeros_0f7a4_47 : decode cJ6_numberOfTrailingZeros_0f7a4 47 = .ok (.iushr, 1) := by decide +kernel
theorem dJ6_numberOfTrailingZeros_0f7a4_48 : decode cJ6_numberOfTrailingZeros_0f7a4 48 = .ok (.istore_n 0, 1) := by decide +kernel
theorem dJ6_numberOfTrailingZeros_0f7a4_49 : decode cJ6_numberOfTrailingZeros_0f7a4 49 = .ok (.iload_n 0, 1) := by decide +kernel
theorem dJ6_numberOfTrailingZeros_0f7a4_50 : decode cJ6_numberOfTrailingZeros_0f7a4 50 = .ok (.bipush 16, 2) := by decide +kernel
theorem dJ6_numberOfTrailingZeros_0f7a4_52 : decode cJ6_numberOfTrailingZeros_0f7a4 52 = .ok (.if_icmp .le 10, 3) := by decide +kernel
theorem dJ6_numberOfTrailingZeros_0f7a4_55 : decode cJ6_numberOfTrailingZeros_0f7a4 55 = .ok (.iinc 1 4, 3) := by decide +kernel
theorem dJ6_numberOfTrailingZeros_0f7a4_58 : decode cJ6_numberOfTrailingZeros_0f7a4 58 = .ok (.iload_n 0, 1) := by decide +kernel
theorem dJ6_numberOfTrailingZeros_0f7a4_59 : decode cJ6_numberOfTrailingZeros_0f7a4 59 = .ok (.iconst 4, 1) := by decide +kernel
theorem dJ6_numberOfTrailingZeros_0f7a4_60 : decode cJ6_numberOfTrailingZeros_0f7a4 60 = .ok (.iushr, 1) := by decide +kernel
theorem dJ6_numberOfTrailingZeros_0f7a4_61 : decode cJ6_numberOfTrailingZeros_0f7a4 61 = .ok (.istore_n 0, 1) := by decide +kernel
theorem dJ6_numberOfTrailingZeros_0f7a4_62 : decode cJ6_numberOfTrailingZeros_0f7a4 62 = .ok (.iload_n 0, 1) := by decide +kernel
theorem dJ6_numberOfTrailingZeros_0f7a4_63 : decode cJ6_numberOfTrailingZeros_0f7a4 63 = .ok (.iconst 4, 1) := by decide +kernel
theorem dJ6_numberOfTrailingZeros_0f7a4_64 : decode cJ6_numberOfTrailingZeros_0f7a4 64 = .ok (.if_icmp .le 10, 3) := by decide +kernel
theorem dJ6_numberOfTrailingZeros_0f7a4_67 : decode cJ6_numberOfTrailingZeros_0f7a4 67 = .ok (.iinc 1 2, 3) := by decide +kernel
theorem dJ6_numberOfTrailingZeros_0f7a4_70 : decode cJ6_numberOfTrailingZeros_0f7a4 70 = .ok (.iload_n 0, 1) := by decide +kernel
theorem dJ6_numberOfTrailingZeros_0f7a4_71 : decode cJ6_numberOfTrailingZeros_0f7a4 71 = .ok (.iconst 2, 1) := by decide +kernel
theorem dJ6_numberOfTrailingZeros_0f7a4_72 : decode cJ6_numberOfTrailingZeros_0f7a4 72 = .ok (.iushr, 1) := by decide +kernel
theorem dJ6_numberOfTrailingZeros_0f7a4_73 : decode cJ6_numberOfTrailingZeros_0f7a4 73 = .ok (.istore_n 0, 1) := by decide +kernel
theorem dJ6_numberOfTrailingZeros_0f7a4_74 : decode cJ6_numberOfTrailingZeros_0f7a4 74 = .ok (.iload_n 1, 1) := by decide +kernel
theorem dJ6_numberOfTrailingZeros_0f7a4_75 : decode cJ6_numberOfTrailingZeros_0f7a4 75 = .ok (.iload_n 0, 1) := by decide +kernel
theorem dJ6_numberOfTrailingZeros_0f7a4_76 : decode cJ6_numberOfTrailingZeros_0f7a4 76 = .ok (.iconst 1, 1) := by decide +kernel
theorem dJ6_numberOfTrailingZeros_0f7a4_77 : decode cJ6_numberOfTrailingZeros_0f7a4 77 = .ok (.iushr, 1) := by decide +kernel
theorem dJ6_numberOfTrailingZeros_0f7a4_78 : decode cJ6_numberOfTrailingZeros_0f7a4 78 = .ok (.iadd, 1) := by decide +kernel
theorem dJ6_numberOfTrailingZeros_0f7a4_79 : decode cJ6_numberOfTrailingZeros_0f7a4 79 = .ok (.ireturn, 1) := by decide +kernel
theorem dJ9_abs_067f4_0 : decode cJ9_abs_067f4 0 = .ok (.lload_n 0, 1) := by decide +kernel
theorem dJ9_abs_067f4_1 : decode cJ9_abs_067f4 1 = .ok (.lconst 0, 1) := by decide +kernel
theorem dJ9_abs_067f4_2 : decode cJ9_abs_067f4 2 = .ok (.lcmp, 1) := by decide +kernel
theorem dJ9_abs_067f4_3 : decode cJ9_abs_067f4 3 = .ok (.ifCond .ge 8, 3) := by decide +kernel
theorem dJ9_abs_067f4_6 : decode cJ9_abs_067f4 6 = .ok (.lload_n 0, 1) := by decide +kernel
theorem dJ9_abs_067f4_7 : decode cJ9_abs_067f4 7 = .ok (.lneg, 1) := by decide +kernel
theorem dJ9_abs_067f4_8 : decode cJ9_abs_067f4 8 = .ok (.goto 4, 3) := by decide +kernel
theorem dJ9_abs_067f4_11 : decode cJ9_abs_067f4 11 = .ok (.lload_n 0, 1) := by decide +kernel
theorem dJ9_abs_067f4_12 : decode cJ9_abs_067f4 12 = .ok (.lreturn, 1) := by decide +kernel
theorem dJ9_max_7cf53_0 : decode cJ9_max_7cf53 0 = .ok (.iload_n 0, 1) := by decide +kernel
theorem dJ9_max_7cf53_1 : decode cJ9_max_7cf53 1 = .ok (.iload_n 1, 1) := by decide +kernel
theorem dJ9_max_7cf53_2 : decode cJ9_max_7cf53 2 = .ok (.if_icmp .lt 7, 3) := by decide +kernel
theorem dJ9_max_7cf53_5 : decode cJ9_max_7cf53 5 = .ok (.iload_n 0, 1) := by decide +kernel
theorem dJ9_max_7cf53_6 : decode cJ9_max_7cf53 6 = .ok (.goto 4, 3) := by decide +kernel
theorem dJ9_max_7cf53_9 : decode cJ9_max_7cf53 9 = .ok (.iload_n 1, 1) := by decide +kernel
theorem dJ9_max_7cf53_10 : decode cJ9_max_7cf53 10 = .ok (.ireturn, 1) := by decide +kernel
theorem dJ9_min_7cf53_0 : decode cJ9_min_7cf53 0 = .ok (.iload_n 0, 1) := by decide +kernel
theorem dJ9_min_7cf53_1 : decode cJ9_min_7cf53 1 = .ok (.iload_n 1, 1) := by decide +kernel
theorem dJ9_min_7cf53_2 : decode cJ9_min_7cf53 2 = .ok (.if_icmp .gt 7, 3) := by decide +kernel
theorem dJ9_min_7cf53_5 : decode cJ9_min_7cf53 5 = .ok (.iload_n 0, 1) := by decide +kernel
theorem dJ9_min_7cf53_6 : decode cJ9_min_7cf53 6 = .ok (.goto 4, 3) := by decide +kernel
theorem dJ9_min_7cf53_9 : decode cJ9_min_7cf53 9 = .ok (.iload_n 1, 1) := by decide +kernel
theorem dJ9_min_7cf53_10 : decode cJ9_min_7cf53 10 = .ok (.ireturn, 1) := by decide +kernel
theorem dL_cell_0 : decode cL_cell 0 = .ok (.iload_n 1, 1) := by decide +kernel
theorem dL_cell_1 : decode cL_cell 1 = .ok (.aload_n 0, 1) := by decide +kernel
theorem dL_cell_2 : decode cL_cell 2 = .ok (.arraylength, 1) := by decide +kernel
theorem dL_cell_3 : decode cL_cell 3 = .ok (.if_icmp .ge 9, 3) := by decide +kernel
theorem dL_cell_6 : decode cL_cell 6 = .ok (.aload_n 0, 1) := by decide +kernel
theorem dL_cell_7 : decode cL_cell 7 = .ok (.iload_n 1, 1) := by decide +kernel
theorem dL_cell_8 : decode cL_cell 8 = .ok (.iaload, 1) := by decide +kernel
theorem dL_cell_9 : decode cL_cell 9 = .ok (.goto 4, 3) := by decide +kernel
theorem dL_cell_12 : decode cL_cell 12 = .ok (.iconst 0, 1) := by decide +kernel
theorem dL_cell_13 : decode cL_cell 13 = .ok (.ireturn, 1) := by decide +kernel
theorem dL_quotient_0 : decode cL_quotient 0 = .ok (.aload_n 3, 1) := by decide +kernel
theorem dL_quotient_1 : decode cL_quotient 1 = .ok (.iconst 0, 1) := by decide +kernel
theorem dL_quotient_2 : decode cL_quotient 2 = .ok (.aload_n 0, 1) := by decide +kernel
theorem dL_quotient_3 : decode cL_quotient 3 = .ok (.iload_n 1, 1) := by decide +kernel
theorem dL_quotient_4 : decode cL_quotient 4 = .ok (.iload_n 2, 1) := by decide +kernel
theorem dL_quotient_5 : decode cL_quotient 5 = .ok (.invokevirtual 7, 3) := by decide +kernel
theorem dL_quotient_8 : decode cL_quotient 8 = .ok (.i2l, 1) := by decide +kernel
theorem dL_quotient_9 : decode cL_quotient 9 = .ok (.lastore, 1) := by decide +kernel
theorem dL_quotient_10 : decode cL_quotient 10 = .ok (.goto 7, 3) := by decide +kernel
theorem dL_quotient_13 : decode cL_quotient 13 = .ok (.astore 4, 2) := by decide +kernel
theorem dL_quotient_15 : decode cL_quotient 15 = .ok (.iconst 1, 1) := by decide +kernel
theorem dL_quotient_16 : decode cL_quotient 16 = .ok (.ireturn, 1) := by decide +kernel
theorem dL_quotient_17 : decode cL_quotient 17 = .ok (.iconst 0, 1) := by decide +kernel
theorem dL_quotient_18 : decode cL_quotient 18 = .ok (.ireturn, 1) := by decide +kernel
theorem dL_limb_0 : decode cL_limb 0 = .ok (.aload 4, 2) := by decide +kernel
theorem dL_limb_2 : decode cL_limb 2 = .ok (.iconst 0, 1) := by decide +kernel
theorem dL_limb_3 : decode cL_limb 3 = .ok (.aload_n 0, 1) := by decide +kernel
theorem dL_limb_4 : decode cL_limb 4 = .ok (.iload_n 1, 1) := by decide +kernel
theorem dL_limb_5 : decode cL_limb 5 = .ok (.iload_n 2, 1) := by decide +kernel
theorem dL_limb_6 : decode cL_limb 6 = .ok (.iload_n 3, 1) := by decide +kernel
theorem dL_limb_7 : decode cL_limb 7 = .ok (.invokevirtual 15, 3) := by decide +kernel
theorem dL_limb_10 : decode cL_limb 10 = .ok (.i2l, 1) := by decide +kernel
theorem dL_limb_11 : decode cL_limb 11 = .ok (.lastore, 1) := by decide +kernel
theorem dL_limb_12 : decode cL_limb 12 = .ok (.goto 7, 3) := by decide +kernel
theorem dL_limb_15 : decode cL_limb 15 = .ok (.astore 5, 2) := by decide +kernel
theorem dL_limb_17 : decode cL_limb 17 = .ok (.iconst 1, 1) := by decide +kernel
theorem dL_limb_18 : decode cL_limb 18 = .ok (.ireturn, 1) := by decide +kernel
theorem dL_limb_19 : decode cL_limb 19 = .ok (.iconst 0, 1) := by decide +kernel
theorem dL_limb_20 : decode cL_limb 20 = .ok (.ireturn, 1) := by decide +kernel
theorem dL_law_0 : decode cL_law 0 = .ok (.new 8, 3) := by decide +kernel
theorem dL_law_3 : decode cL_law 3 = .ok (.dup, 1) := by decide +kernel
theorem dL_law_4 : decode cL_law 4 = .ok (.aload_n 0, 1) := by decide +kernel
theorem dL_law_5 : decode cL_law 5 = .ok (.iconst 0, 1) := by decide +kernel
theorem dL_law_6 : decode cL_law 6 = .ok (.invokestatic 21, 3) := by decide +kernel
theorem dL_law_9 : decode cL_law 9 = .ok (.invokespecial 27, 3) := by decide +kernel
theorem dL_law_12 : decode cL_law 12 = .ok (.astore_n 1, 1) := by decide +kernel
theorem dL_law_13 : decode cL_law 13 = .ok (.new 30, 3) := by decide +kernel
theorem dL_law_16 : decode cL_law 16 = .ok (.dup, 1) := by decide +kernel
theorem dL_law_17 : decode cL_law 17 = .ok (.aload_n 0, 1) := by decide +kernel
theorem dL_law_18 : decode cL_law 18 = .ok (.iconst 0, 1) := by decide +kernel
theorem dL_law_19 : decode cL_law 19 = .ok (.invokestatic 21, 3) := by decide +kernel
theorem dL_law_22 : decode cL_law 22 = .ok (.invokespecial 32, 3) := by decide +kernel
theorem dL_law_25 : decode cL_law 25 = .ok (.astore_n 2, 1) := by decide +kernel
theorem dL_law_26 : decode cL_law 26 = .ok (.iconst 1, 1) := by decide +kernel
theorem dL_law_27 : decode cL_law 27 = .ok (.newarray .long, 2) := by decide +kernel
theorem dL_law_29 : decode cL_law 29 = .ok (.astore_n 3, 1) := by decide +kernel
theorem dL_law_30 : decode cL_law 30 = .ok (.iconst 1, 1) := by decide +kernel
theorem dL_law_31 : decode cL_law 31 = .ok (.istore 4, 2) := by decide +kernel
theorem dL_law_33 : decode cL_law 33 = .ok (.iload 4, 2) := by decide +kernel
theorem dL_law_35 : decode cL_law 35 = .ok (.aload_n 0, 1) := by decide +kernel
theorem dL_law_36 : decode cL_law 36 = .ok (.arraylength, 1) := by decide +kernel
theorem dL_law_37 : decode cL_law 37 = .ok (.bipush 7, 2) := by decide +kernel
theorem dL_law_39 : decode cL_law 39 = .ok (.isub, 1) := by decide +kernel
theorem dL_law_40 : decode cL_law 40 = .ok (.if_icmp .gt 1131, 3) := by decide +kernel
theorem dL_law_43 : decode cL_law 43 = .ok (.aload_n 0, 1) := by decide +kernel
theorem dL_law_44 : decode cL_law 44 = .ok (.iload 4, 2) := by decide +kernel
theorem dL_law_46 : decode cL_law 46 = .ok (.iaload, 1) := by decide +kernel
theorem dL_law_47 : decode cL_law 47 = .ok (.bipush 31, 2) := by decide +kernel
theorem dL_law_49 : decode cL_law 49 = .ok (.iand, 1) := by decide +kernel
theorem dL_law_50 : decode cL_law 50 = .ok (.tableswitch 1115 0 24 #[114, 215, 264, 332, 345, 382, 419, 499, 626, 675, 712, 737, 750, 775, 812, 837, 862, 899, 936, 961, 974, 987, 1052, 1077, 1102], 114) := by decide +kernel
theorem dL_law_164 : decode cL_law 164 = .ok (.aload_n 1, 1) := by decide +kernel
theorem dL_law_165 : decode cL_law 165 = .ok (.aload_n 0, 1) := by decide +kernel
theorem dL_law_166 : decode cL_law 166 = .ok (.iload 4, 2) := by decide +kernel
theorem dL_law_168 : decode cL_law 168 = .ok (.iconst 1, 1) := by decide +kernel
theorem dL_law_169 : decode cL_law 169 = .ok (.iadd, 1) := by decide +kernel
theorem dL_law_170 : decode cL_law 170 = .ok (.iaload, 1) := by decide +kernel
theorem dL_law_171 : decode cL_law 171 = .ok (.i2l, 1) := by decide +kernel
theorem dL_law_172 : decode cL_law 172 = .ok (.bipush 32, 2) := by decide +kernel
theorem dL_law_174 : decode cL_law 174 = .ok (.lshl, 1) := by decide +kernel
theorem dL_law_175 : decode cL_law 175 = .ok (.aload_n 0, 1) := by decide +kernel
theorem dL_law_176 : decode cL_law 176 = .ok (.iload 4, 2) := by decide +kernel
theorem dL_law_178 : decode cL_law 178 = .ok (.iconst 2, 1) := by decide +kernel
theorem dL_law_179 : decode cL_law 179 = .ok (.iadd, 1) := by decide +kernel
theorem dL_law_180 : decode cL_law 180 = .ok (.iaload, 1) := by decide +kernel
theorem dL_law_181 : decode cL_law 181 = .ok (.i2l, 1) := by decide +kernel
theorem dL_law_182 : decode cL_law 182 = .ok (.ldc2_w 33, 3) := by decide +kernel
theorem dL_law_185 : decode cL_law 185 = .ok (.land, 1) := by decide +kernel
theorem dL_law_186 : decode cL_law 186 = .ok (.lor, 1) := by decide +kernel
theorem dL_law_187 : decode cL_law 187 = .ok (.aload_n 0, 1) := by decide +kernel
theorem dL_law_188 : decode cL_law 188 = .ok (.iload 4, 2) := by decide +kernel
theorem dL_law_190 : decode cL_law 190 = .ok (.iconst 3, 1) := by decide +kernel
theorem dL_law_191 : decode cL_law 191 = .ok (.iadd, 1) := by decide +kernel
theorem dL_law_192 : decode cL_law 192 = .ok (.iaload, 1) := by decide +kernel
theorem dL_law_193 : decode cL_law 193 = .ok (.i2l, 1) := by decide +kernel
theorem dL_law_194 : decode cL_law 194 = .ok (.bipush 32, 2) := by decide +kernel
theorem dL_law_196 : decode cL_law 196 = .ok (.lshl, 1) := by decide +kernel
theorem dL_law_197 : decode cL_law 197 = .ok (.aload_n 0, 1) := by decide +kernel
theorem dL_law_198 : decode cL_law 198 = .ok (.iload 4, 2) := by decide +kernel
theorem dL_law_200 : decode cL_law 200 = .ok (.iconst 4, 1) := by decide +kernel
theorem dL_law_201 : decode cL_law 201 = .ok (.iadd, 1) := by decide +kernel
theorem dL_law_202 : decode cL_law 202 = .ok (.iaload, 1) := by decide +kernel
theorem dL_law_203 : decode cL_law 203 = .ok (.i2l, 1) := by decide +kernel
theorem dL_law_204 : decode cL_law 204 = .ok (.ldc2_w 33, 3) := by decide +kernel
theorem dL_law_207 : decode cL_law 207 = .ok (.land, 1) := by decide +kernel
theorem dL_law_208 : decode cL_law 208 = .ok (.lor, 1) := by decide +kernel
theorem dL_law_209 : decode cL_law 209 = .ok (.invokevirtual 35, 3) := by decide +kernel
theorem dL_law_212 : decode cL_law 212 = .ok (.aload_n 2, 1) := by decide +kernel
theorem dL_law_213 : decode cL_law 213 = .ok (.aload_n 0, 1) := by decide +kernel
theorem dL_law_214 : decode cL_law 214 = .ok (.iload 4, 2) := by decide +kernel
theorem dL_law_216 : decode cL_law 216 = .ok (.iconst 1, 1) := by decide +kernel
theorem dL_law_217 : decode cL_law 217 = .ok (.iadd, 1) := by decide +kernel
theorem dL_law_218 : decode cL_law 218 = .ok (.iaload, 1) := by decide +kernel
theorem dL_law_219 : decode cL_law 219 = .ok (.i2l, 1) := by decide +kernel
theorem dL_law_220 : decode cL_law 220 = .ok (.bipush 32, 2) := by decide +kernel
theorem dL_law_222 : decode cL_law 222 = .ok (.lshl, 1) := by decide +kernel
theorem dL_law_223 : decode cL_law 223 = .ok (.aload_n 0, 1) := by decide +kernel
theorem dL_law_224 : decode cL_law 224 = .ok (.iload 4, 2) := by decide +kernel
theorem dL_law_226 : decode cL_law 226 = .ok (.iconst 2, 1) := by decide +kernel
theorem dL_law_227 : decode cL_law 227 = .ok (.iadd, 1) := by decide +kernel
theorem dL_law_228 : decode cL_law 228 = .ok (.iaload, 1) := by decide +kernel
theorem dL_law_229 : decode cL_law 229 = .ok (.i2l, 1) := by decide +kernel
theorem dL_law_230 : decode cL_law 230 = .ok (.ldc2_w 33, 3) := by decide +kernel
theorem dL_law_233 : decode cL_law 233 = .ok (.land, 1) := by decide +kernel
theorem dL_law_234 : decode cL_law 234 = .ok (.lor, 1) := by decide +kernel
theorem dL_law_235 : decode cL_law 235 = .ok (.aload_n 0, 1) := by decide +kernel
theorem dL_law_236 : decode cL_law 236 = .ok (.iload 4, 2) := by decide +kernel
theorem dL_law_238 : decode cL_law 238 = .ok (.iconst 3, 1) := by decide +kernel
theorem dL_law_239 : decode cL_law 239 = .ok (.iadd, 1) := by decide +kernel
theorem dL_law_240 : decode cL_law 240 = .ok (.iaload, 1) := by decide +kernel
theorem dL_law_241 : decode cL_law 241 = .ok (.i2l, 1) := by decide +kernel
theorem dL_law_242 : decode cL_law 242 = .ok (.bipush 32, 2) := by decide +kernel
theorem dL_law_244 : decode cL_law 244 = .ok (.lshl, 1) := by decide +kernel
theorem dL_law_245 : decode cL_law 245 = .ok (.aload_n 0, 1) := by decide +kernel
theorem dL_law_246 : decode cL_law 246 = .ok (.iload 4, 2) := by decide +kernel
theorem dL_law_248 : decode cL_law 248 = .ok (.iconst 4, 1) := by decide +kernel
theorem dL_law_249 : decode cL_law 249 = .ok (.iadd, 1) := by decide +kernel
theorem dL_law_250 : decode cL_law 250 = .ok (.iaload, 1) := by decide +kernel
theorem dL_law_251 : decode cL_law 251 = .ok (.i2l, 1) := by decide +kernel
theorem dL_law_252 : decode cL_law 252 = .ok (.ldc2_w 33, 3) := by decide +kernel
theorem dL_law_255 : decode cL_law 255 = .ok (.land, 1) := by decide +kernel
theorem dL_law_256 : decode cL_law 256 = .ok (.lor, 1) := by decide +kernel
theorem dL_law_257 : decode cL_law 257 = .ok (.invokevirtual 39, 3) := by decide +kernel
theorem dL_law_260 : decode cL_law 260 = .ok (.if_icmp .eq 905, 3) := by decide +kernel
theorem dL_law_263 : decode cL_law 263 = .ok (.iconst 0, 1) := by decide +kernel
theorem dL_law_264 : decode cL_law 264 = .ok (.ireturn, 1) := by decide +kernel
theorem dL_law_265 : decode cL_law 265 = .ok (.aload_n 1, 1) := by decide +kernel
theorem dL_law_266 : decode cL_law 266 = .ok (.aload_n 0, 1) := by decide +kernel
theorem dL_law_267 : decode cL_law 267 = .ok (.iload 4, 2) := by decide +kernel
theorem dL_law_269 : decode cL_law 269 = .ok (.iconst 1, 1) := by decide +kernel
theorem dL_law_270 : decode cL_law 270 = .ok (.iadd, 1) := by decide +kernel
theorem dL_law_271 : decode cL_law 271 = .ok (.iaload, 1) := by decide +kernel
theorem dL_law_272 : decode cL_law 272 = .ok (.aload_n 0, 1) := by decide +kernel
theorem dL_law_273 : decode cL_law 273 = .ok (.iload 4, 2) := by decide +kernel
theorem dL_law_275 : decode cL_law 275 = .ok (.iconst 2, 1) := by decide +kernel
theorem dL_law_276 : decode cL_law 276 = .ok (.iadd, 1) := by decide +kernel
theorem dL_law_277 : decode cL_law 277 = .ok (.iaload, 1) := by decide +kernel
theorem dL_law_278 : decode cL_law 278 = .ok (.aload_n 0, 1) := by decide +kernel
theorem dL_law_279 : decode cL_law 279 = .ok (.iload 4, 2) := by decide +kernel
theorem dL_law_281 : decode cL_law 281 = .ok (.iconst 3, 1) := by decide +kernel
theorem dL_law_282 : decode cL_law 282 = .ok (.iadd, 1) := by decide +kernel
theorem dL_law_283 : decode cL_law 283 = .ok (.iaload, 1) := by decide +kernel
theorem dL_law_284 : decode cL_law 284 = .ok (.invokevirtual 40, 3) := by decide +kernel
theorem dL_law_287 : decode cL_law 287 = .ok (.aload_n 2, 1) := by decide +kernel
theorem dL_law_288 : decode cL_law 288 = .ok (.aload_n 0, 1) := by decide +kernel
theorem dL_law_289 : decode cL_law 289 = .ok (.iload 4, 2) := by decide +kernel
theorem dL_law_291 : decode cL_law 291 = .ok (.iconst 1, 1) := by decide +kernel
theorem dL_law_292 : decode cL_law 292 = .ok (.iadd, 1) := by decide +kernel
theorem dL_law_293 : decode cL_law 293 = .ok (.iaload, 1) := by decide +kernel
theorem dL_law_294 : decode cL_law 294 = .ok (.aload_n 0, 1) := by decide +kernel
theorem dL_law_295 : decode cL_law 295 = .ok (.iload 4, 2) := by decide +kernel
theorem dL_law_297 : decode cL_law 297 = .ok (.iconst 2, 1) := by decide +kernel
theorem dL_law_298 : decode cL_law 298 = .ok (.iadd, 1) := by decide +kernel
theorem dL_law_299 : decode cL_law 299 = .ok (.iaload, 1) := by decide +kernel
theorem dL_law_300 : decode cL_law 300 = .ok (.aload_n 0, 1) := by decide +kernel
theorem dL_law_301 : decode cL_law 301 = .ok (.iload 4, 2) := by decide +kernel
theorem dL_law_303 : decode cL_law 303 = .ok (.iconst 3, 1) := by decide +kernel
theorem dL_law_304 : decode cL_law 304 = .ok (.iadd, 1) := by decide +kernel
theorem dL_law_305 : decode cL_law 305 = .ok (.iaload, 1) := by decide +kernel
theorem dL_law_306 : decode cL_law 306 = .ok (.invokevirtual 43, 3) := by decide +kernel
theorem dL_law_309 : decode cL_law 309 = .ok (.if_icmp .eq 856, 3) := by decide +kernel
theorem dL_law_312 : decode cL_law 312 = .ok (.iconst 0, 1) := by decide +kernel
theorem dL_law_313 : decode cL_law 313 = .ok (.ireturn, 1) := by decide +kernel
theorem dL_law_314 : decode cL_law 314 = .ok (.aload_n 1, 1) := by decide +kernel
theorem dL_law_315 : decode cL_law 315 = .ok (.aload_n 0, 1) := by decide +kernel
theorem dL_law_316 : decode cL_law 316 = .ok (.iload 4, 2) := by decide +kernel
theorem dL_law_318 : decode cL_law 318 = .ok (.iconst 1, 1) := by decide +kernel
theorem dL_law_319 : decode cL_law 319 = .ok (.iadd, 1) := by decide +kernel
theorem dL_law_320 : decode cL_law 320 = .ok (.iaload, 1) := by decide +kernel
theorem dL_law_321 : decode cL_law 321 = .ok (.aload_n 0, 1) := by decide +kernel
theorem dL_law_322 : decode cL_law 322 = .ok (.iload 4, 2) := by decide +kernel
theorem dL_law_324 : decode cL_law 324 = .ok (.iconst 2, 1) := by decide +kernel
theorem dL_law_325 : decode cL_law 325 = .ok (.iadd, 1) := by decide +kernel
theorem dL_law_326 : decode cL_law 326 = .ok (.iaload, 1) := by decide +kernel
theorem dL_law_327 : decode cL_law 327 = .ok (.aload_n 3, 1) := by decide +kernel
theorem dL_law_328 : decode cL_law 328 = .ok (.invokestatic 44, 3) := by decide +kernel
theorem dL_law_331 : decode cL_law 331 = .ok (.istore 5, 2) := by decide +kernel
theorem dL_law_333 : decode cL_law 333 = .ok (.aload_n 2, 1) := by decide +kernel
theorem dL_law_334 : decode cL_law 334 = .ok (.aload_n 0, 1) := by decide +kernel
theorem dL_law_335 : decode cL_law 335 = .ok (.iload 4, 2) := by decide +kernel
theorem dL_law_337 : decode cL_law 337 = .ok (.iconst 1, 1) := by decide +kernel
theorem dL_law_338 : decode cL_law 338 = .ok (.iadd, 1) := by decide +kernel
theorem dL_law_339 : decode cL_law 339 = .ok (.iaload, 1) := by decide +kernel
theorem dL_law_340 : decode cL_law 340 = .ok (.aload_n 0, 1) := by decide +kernel
theorem dL_law_341 : decode cL_law 341 = .ok (.iload 4, 2) := by decide +kernel
theorem dL_law_343 : decode cL_law 343 = .ok (.iconst 2, 1) := by decide +kernel
theorem dL_law_344 : decode cL_law 344 = .ok (.iadd, 1) := by decide +kernel
theorem dL_law_345 : decode cL_law 345 = .ok (.iaload, 1) := by decide +kernel
theorem dL_law_346 : decode cL_law 346 = .ok (.invokevirtual 47, 3) := by decide +kernel
theorem dL_law_349 : decode cL_law 349 = .ok (.istore 6, 2) := by decide +kernel
theorem dL_law_351 : decode cL_law 351 = .ok (.aload_n 2, 1) := by decide +kernel
theorem dL_law_352 : decode cL_law 352 = .ok (.invokevirtual 48, 3) := by decide +kernel
theorem dL_law_355 : decode cL_law 355 = .ok (.iload 5, 2) := by decide +kernel
theorem dL_law_357 : decode cL_law 357 = .ok (.if_icmp .eq 5, 3) := by decide +kernel
theorem dL_law_360 : decode cL_law 360 = .ok (.iconst 0, 1) := by decide +kernel
theorem dL_law_361 : decode cL_law 361 = .ok (.ireturn, 1) := by decide +kernel
theorem dL_law_362 : decode cL_law 362 = .ok (.iload 5, 2) := by decide +kernel
theorem dL_law_364 : decode cL_law 364 = .ok (.ifCond .ne 15, 3) := by decide +kernel
theorem dL_law_367 : decode cL_law 367 = .ok (.aload_n 3, 1) := by decide +kernel
theorem dL_law_368 : decode cL_law 368 = .ok (.iconst 0, 1) := by decide +kernel
theorem dL_law_369 : decode cL_law 369 = .ok (.laload, 1) := by decide +kernel
theorem dL_law_370 : decode cL_law 370 = .ok (.iload 6, 2) := by decide +kernel
theorem dL_law_372 : decode cL_law 372 = .ok (.i2l, 1) := by decide +kernel
theorem dL_law_373 : decode cL_law 373 = .ok (.lcmp, 1) := by decide +kernel
theorem dL_law_374 : decode cL_law 374 = .ok (.ifCond .eq 5, 3) := by decide +kernel
theorem dL_law_377 : decode cL_law 377 = .ok (.iconst 0, 1) := by decide +kernel
theorem dL_law_378 : decode cL_law 378 = .ok (.ireturn, 1) := by decide +kernel
theorem dL_law_379 : decode cL_law 379 = .ok (.goto 786, 3) := by decide +kernel
theorem dL_law_382 : decode cL_law 382 = .ok (.aload_n 1, 1) := by decide +kernel
theorem dL_law_383 : decode cL_law 383 = .ok (.invokevirtual 52, 3) := by decide +kernel
theorem dL_law_386 : decode cL_law 386 = .ok (.aload_n 2, 1) := by decide +kernel
theorem dL_law_387 : decode cL_law 387 = .ok (.invokevirtual 55, 3) := by decide +kernel
theorem dL_law_390 : decode cL_law 390 = .ok (.if_icmp .eq 775, 3) := by decide +kernel
theorem dL_law_393 : decode cL_law 393 = .ok (.iconst 0, 1) := by decide +kernel
theorem dL_law_394 : decode cL_law 394 = .ok (.ireturn, 1) := by decide +kernel
theorem dL_law_395 : decode cL_law 395 = .ok (.aload_n 1, 1) := by decide +kernel
theorem dL_law_396 : decode cL_law 396 = .ok (.aload_n 0, 1) := by decide +kernel
theorem dL_law_397 : decode cL_law 397 = .ok (.iload 4, 2) := by decide +kernel
theorem dL_law_399 : decode cL_law 399 = .ok (.iconst 1, 1) := by decide +kernel
theorem dL_law_400 : decode cL_law 400 = .ok (.iadd, 1) := by decide +kernel
theorem dL_law_401 : decode cL_law 401 = .ok (.iaload, 1) := by decide +kernel
theorem dL_law_402 : decode cL_law 402 = .ok (.aload_n 0, 1) := by decide +kernel
theorem dL_law_403 : decode cL_law 403 = .ok (.iload 4, 2) := by decide +kernel
theorem dL_law_405 : decode cL_law 405 = .ok (.iconst 2, 1) := by decide +kernel
theorem dL_law_406 : decode cL_law 406 = .ok (.iadd, 1) := by decide +kernel
theorem dL_law_407 : decode cL_law 407 = .ok (.iaload, 1) := by decide +kernel
theorem dL_law_408 : decode cL_law 408 = .ok (.invokevirtual 56, 3) := by decide +kernel
theorem dL_law_411 : decode cL_law 411 = .ok (.aload_n 2, 1) := by decide +kernel
theorem dL_law_412 : decode cL_law 412 = .ok (.aload_n 0, 1) := by decide +kernel
theorem dL_law_413 : decode cL_law 413 = .ok (.iload 4, 2) := by decide +kernel
theorem dL_law_415 : decode cL_law 415 = .ok (.iconst 1, 1) := by decide +kernel
theorem dL_law_416 : decode cL_law 416 = .ok (.iadd, 1) := by decide +kernel
theorem dL_law_417 : decode cL_law 417 = .ok (.iaload, 1) := by decide +kernel
theorem dL_law_418 : decode cL_law 418 = .ok (.aload_n 0, 1) := by decide +kernel
theorem dL_law_419 : decode cL_law 419 = .ok (.iload 4, 2) := by decide +kernel
theorem dL_law_421 : decode cL_law 421 = .ok (.iconst 2, 1) := by decide +kernel
theorem dL_law_422 : decode cL_law 422 = .ok (.iadd, 1) := by decide +kernel
theorem dL_law_423 : decode cL_law 423 = .ok (.iaload, 1) := by decide +kernel
theorem dL_law_424 : decode cL_law 424 = .ok (.invokevirtual 59, 3) := by decide +kernel
theorem dL_law_427 : decode cL_law 427 = .ok (.if_icmp .eq 738, 3) := by decide +kernel
theorem dL_law_430 : decode cL_law 430 = .ok (.iconst 0, 1) := by decide +kernel
theorem dL_law_431 : decode cL_law 431 = .ok (.ireturn, 1) := by decide +kernel
theorem dL_law_432 : decode cL_law 432 = .ok (.aload_n 1, 1) := by decide +kernel
theorem dL_law_433 : decode cL_law 433 = .ok (.aload_n 0, 1) := by decide +kernel
theorem dL_law_434 : decode cL_law 434 = .ok (.iload 4, 2) := by decide +kernel
theorem dL_law_436 : decode cL_law 436 = .ok (.iconst 1, 1) := by decide +kernel
theorem dL_law_437 : decode cL_law 437 = .ok (.iadd, 1) := by decide +kernel
theorem dL_law_438 : decode cL_law 438 = .ok (.iaload, 1) := by decide +kernel
theorem dL_law_439 : decode cL_law 439 = .ok (.aload_n 0, 1) := by decide +kernel
theorem dL_law_440 : decode cL_law 440 = .ok (.iload 4, 2) := by decide +kernel
theorem dL_law_442 : decode cL_law 442 = .ok (.iconst 2, 1) := by decide +kernel
theorem dL_law_443 : decode cL_law 443 = .ok (.iadd, 1) := by decide +kernel
theorem dL_law_444 : decode cL_law 444 = .ok (.iaload, 1) := by decide +kernel
theorem dL_law_445 : decode cL_law 445 = .ok (.invokevirtual 60, 3) := by decide +kernel
theorem dL_law_448 : decode cL_law 448 = .ok (.aload_n 2, 1) := by decide +kernel
theorem dL_law_449 : decode cL_law 449 = .ok (.aload_n 0, 1) := by decide +kernel
theorem dL_law_450 : decode cL_law 450 = .ok (.iload 4, 2) := by decide +kernel
theorem dL_law_452 : decode cL_law 452 = .ok (.iconst 1, 1) := by decide +kernel
theorem dL_law_453 : decode cL_law 453 = .ok (.iadd, 1) := by decide +kernel
theorem dL_law_454 : decode cL_law 454 = .ok (.iaload, 1) := by decide +kernel
theorem dL_law_455 : decode cL_law 455 = .ok (.aload_n 0, 1) := by decide +kernel
theorem dL_law_456 : decode cL_law 456 = .ok (.iload 4, 2) := by decide +kernel
theorem dL_law_458 : decode cL_law 458 = .ok (.iconst 2, 1) := by decide +kernel
theorem dL_law_459 : decode cL_law 459 = .ok (.iadd, 1) := by decide +kernel
theorem dL_law_460 : decode cL_law 460 = .ok (.iaload, 1) := by decide +kernel
theorem dL_law_461 : decode cL_law 461 = .ok (.invokevirtual 63, 3) := by decide +kernel
theorem dL_law_464 : decode cL_law 464 = .ok (.if_icmp .eq 701, 3) := by decide +kernel
theorem dL_law_467 : decode cL_law 467 = .ok (.iconst 0, 1) := by decide +kernel
theorem dL_law_468 : decode cL_law 468 = .ok (.ireturn, 1) := by decide +kernel
theorem dL_law_469 : decode cL_law 469 = .ok (.aload_n 1, 1) := by decide +kernel
theorem dL_law_470 : decode cL_law 470 = .ok (.aload_n 0, 1) := by decide +kernel
theorem dL_law_471 : decode cL_law 471 = .ok (.iload 4, 2) := by decide +kernel
theorem dL_law_473 : decode cL_law 473 = .ok (.iconst 1, 1) := by decide +kernel
theorem dL_law_474 : decode cL_law 474 = .ok (.iadd, 1) := by decide +kernel
theorem dL_law_475 : decode cL_law 475 = .ok (.iaload, 1) := by decide +kernel
theorem dL_law_476 : decode cL_law 476 = .ok (.aload_n 0, 1) := by decide +kernel
theorem dL_law_477 : decode cL_law 477 = .ok (.iload 4, 2) := by decide +kernel
theorem dL_law_479 : decode cL_law 479 = .ok (.iconst 2, 1) := by decide +kernel
theorem dL_law_480 : decode cL_law 480 = .ok (.iadd, 1) := by decide +kernel
theorem dL_law_481 : decode cL_law 481 = .ok (.iaload, 1) := by decide +kernel
theorem dL_law_482 : decode cL_law 482 = .ok (.aload_n 0, 1) := by decide +kernel
theorem dL_law_483 : decode cL_law 483 = .ok (.iload 4, 2) := by decide +kernel
theorem dL_law_485 : decode cL_law 485 = .ok (.iconst 3, 1) := by decide +kernel
theorem dL_law_486 : decode cL_law 486 = .ok (.iadd, 1) := by decide +kernel
theorem dL_law_487 : decode cL_law 487 = .ok (.iaload, 1) := by decide +kernel
theorem dL_law_488 : decode cL_law 488 = .ok (.aload_n 3, 1) := by decide +kernel
theorem dL_law_489 : decode cL_law 489 = .ok (.invokestatic 64, 3) := by decide +kernel
theorem dL_law_492 : decode cL_law 492 = .ok (.istore 5, 2) := by decide +kernel
theorem dL_law_494 : decode cL_law 494 = .ok (.aload_n 2, 1) := by decide +kernel
theorem dL_law_495 : decode cL_law 495 = .ok (.aload_n 0, 1) := by decide +kernel
theorem dL_law_496 : decode cL_law 496 = .ok (.iload 4, 2) := by decide +kernel
theorem dL_law_498 : decode cL_law 498 = .ok (.iconst 1, 1) := by decide +kernel
theorem dL_law_499 : decode cL_law 499 = .ok (.iadd, 1) := by decide +kernel
theorem dL_law_500 : decode cL_law 500 = .ok (.iaload, 1) := by decide +kernel
theorem dL_law_501 : decode cL_law 501 = .ok (.aload_n 0, 1) := by decide +kernel
theorem dL_law_502 : decode cL_law 502 = .ok (.iload 4, 2) := by decide +kernel
theorem dL_law_504 : decode cL_law 504 = .ok (.iconst 2, 1) := by decide +kernel
theorem dL_law_505 : decode cL_law 505 = .ok (.iadd, 1) := by decide +kernel
theorem dL_law_506 : decode cL_law 506 = .ok (.iaload, 1) := by decide +kernel
theorem dL_law_507 : decode cL_law 507 = .ok (.aload_n 0, 1) := by decide +kernel
theorem dL_law_508 : decode cL_law 508 = .ok (.iload 4, 2) := by decide +kernel
theorem dL_law_510 : decode cL_law 510 = .ok (.iconst 3, 1) := by decide +kernel
theorem dL_law_511 : decode cL_law 511 = .ok (.iadd, 1) := by decide +kernel
theorem dL_law_512 : decode cL_law 512 = .ok (.iaload, 1) := by decide +kernel
theorem dL_law_513 : decode cL_law 513 = .ok (.invokevirtual 67, 3) := by decide +kernel
theorem dL_law_516 : decode cL_law 516 = .ok (.istore 6, 2) := by decide +kernel
theorem dL_law_518 : decode cL_law 518 = .ok (.aload_n 2, 1) := by decide +kernel
theorem dL_law_519 : decode cL_law 519 = .ok (.invokevirtual 48, 3) := by decide +kernel
theorem dL_law_522 : decode cL_law 522 = .ok (.iload 5, 2) := by decide +kernel
theorem dL_law_524 : decode cL_law 524 = .ok (.if_icmp .eq 5, 3) := by decide +kernel
theorem dL_law_527 : decode cL_law 527 = .ok (.iconst 0, 1) := by decide +kernel
theorem dL_law_528 : decode cL_law 528 = .ok (.ireturn, 1) := by decide +kernel
theorem dL_law_529 : decode cL_law 529 = .ok (.iload 5, 2) := by decide +kernel
theorem dL_law_531 : decode cL_law 531 = .ok (.ifCond .ne 15, 3) := by decide +kernel
theorem dL_law_534 : decode cL_law 534 = .ok (.aload_n 3, 1) := by decide +kernel
theorem dL_law_535 : decode cL_law 535 = .ok (.iconst 0, 1) := by decide +kernel
theorem dL_law_536 : decode cL_law 536 = .ok (.laload, 1) := by decide +kernel
theorem dL_law_537 : decode cL_law 537 = .ok (.iload 6, 2) := by decide +kernel
theorem dL_law_539 : decode cL_law 539 = .ok (.i2l, 1) := by decide +kernel
theorem dL_law_540 : decode cL_law 540 = .ok (.lcmp, 1) := by decide +kernel
theorem dL_law_541 : decode cL_law 541 = .ok (.ifCond .eq 5, 3) := by decide +kernel
theorem dL_law_544 : decode cL_law 544 = .ok (.iconst 0, 1) := by decide +kernel
theorem dL_law_545 : decode cL_law 545 = .ok (.ireturn, 1) := by decide +kernel
theorem dL_law_546 : decode cL_law 546 = .ok (.goto 619, 3) := by decide +kernel
theorem dL_law_549 : decode cL_law 549 = .ok (.aload_n 1, 1) := by decide +kernel
theorem dL_law_550 : decode cL_law 550 = .ok (.aload_n 0, 1) := by decide +kernel
theorem dL_law_551 : decode cL_law 551 = .ok (.iload 4, 2) := by decide +kernel
theorem dL_law_553 : decode cL_law 553 = .ok (.iconst 1, 1) := by decide +kernel
theorem dL_law_554 : decode cL_law 554 = .ok (.iadd, 1) := by decide +kernel
theorem dL_law_555 : decode cL_law 555 = .ok (.iaload, 1) := by decide +kernel
theorem dL_law_556 : decode cL_law 556 = .ok (.aload_n 0, 1) := by decide +kernel
theorem dL_law_557 : decode cL_law 557 = .ok (.iload 4, 2) := by decide +kernel
theorem dL_law_559 : decode cL_law 559 = .ok (.iconst 2, 1) := by decide +kernel
theorem dL_law_560 : decode cL_law 560 = .ok (.iadd, 1) := by decide +kernel
theorem dL_law_561 : decode cL_law 561 = .ok (.iaload, 1) := by decide +kernel
theorem dL_law_562 : decode cL_law 562 = .ok (.aload_n 0, 1) := by decide +kernel
theorem dL_law_563 : decode cL_law 563 = .ok (.iload 4, 2) := by decide +kernel
theorem dL_law_565 : decode cL_law 565 = .ok (.iconst 3, 1) := by decide +kernel
theorem dL_law_566 : decode cL_law 566 = .ok (.iadd, 1) := by decide +kernel
theorem dL_law_567 : decode cL_law 567 = .ok (.iaload, 1) := by decide +kernel
theorem dL_law_568 : decode cL_law 568 = .ok (.i2l, 1) := by decide +kernel
theorem dL_law_569 : decode cL_law 569 = .ok (.bipush 32, 2) := by decide +kernel
theorem dL_law_571 : decode cL_law 571 = .ok (.lshl, 1) := by decide +kernel
theorem dL_law_572 : decode cL_law 572 = .ok (.aload_n 0, 1) := by decide +kernel
theorem dL_law_573 : decode cL_law 573 = .ok (.iload 4, 2) := by decide +kernel
theorem dL_law_575 : decode cL_law 575 = .ok (.iconst 4, 1) := by decide +kernel
theorem dL_law_576 : decode cL_law 576 = .ok (.iadd, 1) := by decide +kernel
theorem dL_law_577 : decode cL_law 577 = .ok (.iaload, 1) := by decide +kernel
theorem dL_law_578 : decode cL_law 578 = .ok (.i2l, 1) := by decide +kernel
theorem dL_law_579 : decode cL_law 579 = .ok (.ldc2_w 33, 3) := by decide +kernel
theorem dL_law_582 : decode cL_law 582 = .ok (.land, 1) := by decide +kernel
theorem dL_law_583 : decode cL_law 583 = .ok (.lor, 1) := by decide +kernel
theorem dL_law_584 : decode cL_law 584 = .ok (.aload_n 0, 1) := by decide +kernel
theorem dL_law_585 : decode cL_law 585 = .ok (.iload 4, 2) := by decide +kernel
theorem dL_law_587 : decode cL_law 587 = .ok (.iconst 5, 1) := by decide +kernel
theorem dL_law_588 : decode cL_law 588 = .ok (.iadd, 1) := by decide +kernel
theorem dL_law_589 : decode cL_law 589 = .ok (.iaload, 1) := by decide +kernel
theorem dL_law_590 : decode cL_law 590 = .ok (.i2l, 1) := by decide +kernel
theorem dL_law_591 : decode cL_law 591 = .ok (.bipush 32, 2) := by decide +kernel
theorem dL_law_593 : decode cL_law 593 = .ok (.lshl, 1) := by decide +kernel
theorem dL_law_594 : decode cL_law 594 = .ok (.aload_n 0, 1) := by decide +kernel
theorem dL_law_595 : decode cL_law 595 = .ok (.iload 4, 2) := by decide +kernel
theorem dL_law_597 : decode cL_law 597 = .ok (.bipush 6, 2) := by decide +kernel
theorem dL_law_599 : decode cL_law 599 = .ok (.iadd, 1) := by decide +kernel
theorem dL_law_600 : decode cL_law 600 = .ok (.iaload, 1) := by decide +kernel
theorem dL_law_601 : decode cL_law 601 = .ok (.i2l, 1) := by decide +kernel
theorem dL_law_602 : decode cL_law 602 = .ok (.ldc2_w 33, 3) := by decide +kernel
theorem dL_law_605 : decode cL_law 605 = .ok (.land, 1) := by decide +kernel
theorem dL_law_606 : decode cL_law 606 = .ok (.lor, 1) := by decide +kernel
theorem dL_law_607 : decode cL_law 607 = .ok (.invokevirtual 68, 3) := by decide +kernel
theorem dL_law_610 : decode cL_law 610 = .ok (.aload_n 2, 1) := by decide +kernel
theorem dL_law_611 : decode cL_law 611 = .ok (.aload_n 0, 1) := by decide +kernel
theorem dL_law_612 : decode cL_law 612 = .ok (.iload 4, 2) := by decide +kernel
theorem dL_law_614 : decode cL_law 614 = .ok (.iconst 1, 1) := by decide +kernel
theorem dL_law_615 : decode cL_law 615 = .ok (.iadd, 1) := by decide +kernel
theorem dL_law_616 : decode cL_law 616 = .ok (.iaload, 1) := by decide +kernel
theorem dL_law_617 : decode cL_law 617 = .ok (.aload_n 0, 1) := by decide +kernel
theorem dL_law_618 : decode cL_law 618 = .ok (.iload 4, 2) := by decide +kernel
theorem dL_law_620 : decode cL_law 620 = .ok (.iconst 2, 1) := by decide +kernel
theorem dL_law_621 : decode cL_law 621 = .ok (.iadd, 1) := by decide +kernel
theorem dL_law_622 : decode cL_law 622 = .ok (.iaload, 1) := by decide +kernel
theorem dL_law_623 : decode cL_law 623 = .ok (.aload_n 0, 1) := by decide +kernel
theorem dL_law_624 : decode cL_law 624 = .ok (.iload 4, 2) := by decide +kernel
theorem dL_law_626 : decode cL_law 626 = .ok (.iconst 3, 1) := by decide +kernel
theorem dL_law_627 : decode cL_law 627 = .ok (.iadd, 1) := by decide +kernel
theorem dL_law_628 : decode cL_law 628 = .ok (.iaload, 1) := by decide +kernel
theorem dL_law_629 : decode cL_law 629 = .ok (.i2l, 1) := by decide +kernel
theorem dL_law_630 : decode cL_law 630 = .ok (.bipush 32, 2) := by decide +kernel
theorem dL_law_632 : decode cL_law 632 = .ok (.lshl, 1) := by decide +kernel
theorem dL_law_633 : decode cL_law 633 = .ok (.aload_n 0, 1) := by decide +kernel
theorem dL_law_634 : decode cL_law 634 = .ok (.iload 4, 2) := by decide +kernel
theorem dL_law_636 : decode cL_law 636 = .ok (.iconst 4, 1) := by decide +kernel
theorem dL_law_637 : decode cL_law 637 = .ok (.iadd, 1) := by decide +kernel
theorem dL_law_638 : decode cL_law 638 = .ok (.iaload, 1) := by decide +kernel
theorem dL_law_639 : decode cL_law 639 = .ok (.i2l, 1) := by decide +kernel
theorem dL_law_640 : decode cL_law 640 = .ok (.ldc2_w 33, 3) := by decide +kernel
theorem dL_law_643 : decode cL_law 643 = .ok (.land, 1) := by decide +kernel
theorem dL_law_644 : decode cL_law 644 = .ok (.lor, 1) := by decide +kernel
theorem dL_law_645 : decode cL_law 645 = .ok (.aload_n 0, 1) := by decide +kernel
theorem dL_law_646 : decode cL_law 646 = .ok (.iload 4, 2) := by decide +kernel
theorem dL_law_648 : decode cL_law 648 = .ok (.iconst 5, 1) := by decide +kernel
theorem dL_law_649 : decode cL_law 649 = .ok (.iadd, 1) := by decide +kernel
theorem dL_law_650 : decode cL_law 650 = .ok (.iaload, 1) := by decide +kernel
theorem dL_law_651 : decode cL_law 651 = .ok (.i2l, 1) := by decide +kernel
theorem dL_law_652 : decode cL_law 652 = .ok (.bipush 32, 2) := by decide +kernel
theorem dL_law_654 : decode cL_law 654 = .ok (.lshl, 1) := by decide +kernel
theorem dL_law_655 : decode cL_law 655 = .ok (.aload_n 0, 1) := by decide +kernel
theorem dL_law_656 : decode cL_law 656 = .ok (.iload 4, 2) := by decide +kernel
theorem dL_law_658 : decode cL_law 658 = .ok (.bipush 6, 2) := by decide +kernel
theorem dL_law_660 : decode cL_law 660 = .ok (.iadd, 1) := by decide +kernel
theorem dL_law_661 : decode cL_law 661 = .ok (.iaload, 1) := by decide +kernel
theorem dL_law_662 : decode cL_law 662 = .ok (.i2l, 1) := by decide +kernel
theorem dL_law_663 : decode cL_law 663 = .ok (.ldc2_w 33, 3) := by decide +kernel
theorem dL_law_666 : decode cL_law 666 = .ok (.land, 1) := by decide +kernel
theorem dL_law_667 : decode cL_law 667 = .ok (.lor, 1) := by decide +kernel
theorem dL_law_668 : decode cL_law 668 = .ok (.invokevirtual 72, 3) := by decide +kernel
theorem dL_law_671 : decode cL_law 671 = .ok (.if_icmp .eq 494, 3) := by decide +kernel
theorem dL_law_674 : decode cL_law 674 = .ok (.iconst 0, 1) := by decide +kernel
theorem dL_law_675 : decode cL_law 675 = .ok (.ireturn, 1) := by decide +kernel
theorem dL_law_676 : decode cL_law 676 = .ok (.aload_n 1, 1) := by decide +kernel
theorem dL_law_677 : decode cL_law 677 = .ok (.aload_n 0, 1) := by decide +kernel
theorem dL_law_678 : decode cL_law 678 = .ok (.iload 4, 2) := by decide +kernel
theorem dL_law_680 : decode cL_law 680 = .ok (.iconst 1, 1) := by decide +kernel
theorem dL_law_681 : decode cL_law 681 = .ok (.iadd, 1) := by decide +kernel
theorem dL_law_682 : decode cL_law 682 = .ok (.iaload, 1) := by decide +kernel
theorem dL_law_683 : decode cL_law 683 = .ok (.aload_n 0, 1) := by decide +kernel
theorem dL_law_684 : decode cL_law 684 = .ok (.iload 4, 2) := by decide +kernel
theorem dL_law_686 : decode cL_law 686 = .ok (.iconst 2, 1) := by decide +kernel
theorem dL_law_687 : decode cL_law 687 = .ok (.iadd, 1) := by decide +kernel
theorem dL_law_688 : decode cL_law 688 = .ok (.iaload, 1) := by decide +kernel
theorem dL_law_689 : decode cL_law 689 = .ok (.aload_n 0, 1) := by decide +kernel
theorem dL_law_690 : decode cL_law 690 = .ok (.iload 4, 2) := by decide +kernel
theorem dL_law_692 : decode cL_law 692 = .ok (.iconst 3, 1) := by decide +kernel
theorem dL_law_693 : decode cL_law 693 = .ok (.iadd, 1) := by decide +kernel
theorem dL_law_694 : decode cL_law 694 = .ok (.iaload, 1) := by decide +kernel
theorem dL_law_695 : decode cL_law 695 = .ok (.invokevirtual 73, 3) := by decide +kernel
theorem dL_law_698 : decode cL_law 698 = .ok (.aload_n 2, 1) := by decide +kernel
theorem dL_law_699 : decode cL_law 699 = .ok (.aload_n 0, 1) := by decide +kernel
theorem dL_law_700 : decode cL_law 700 = .ok (.iload 4, 2) := by decide +kernel
theorem dL_law_702 : decode cL_law 702 = .ok (.iconst 1, 1) := by decide +kernel
theorem dL_law_703 : decode cL_law 703 = .ok (.iadd, 1) := by decide +kernel
theorem dL_law_704 : decode cL_law 704 = .ok (.iaload, 1) := by decide +kernel
theorem dL_law_705 : decode cL_law 705 = .ok (.aload_n 0, 1) := by decide +kernel
theorem dL_law_706 : decode cL_law 706 = .ok (.iload 4, 2) := by decide +kernel
theorem dL_law_708 : decode cL_law 708 = .ok (.iconst 2, 1) := by decide +kernel
theorem dL_law_709 : decode cL_law 709 = .ok (.iadd, 1) := by decide +kernel
theorem dL_law_710 : decode cL_law 710 = .ok (.iaload, 1) := by decide +kernel
theorem dL_law_711 : decode cL_law 711 = .ok (.aload_n 0, 1) := by decide +kernel
theorem dL_law_712 : decode cL_law 712 = .ok (.iload 4, 2) := by decide +kernel
theorem dL_law_714 : decode cL_law 714 = .ok (.iconst 3, 1) := by decide +kernel
theorem dL_law_715 : decode cL_law 715 = .ok (.iadd, 1) := by decide +kernel
theorem dL_law_716 : decode cL_law 716 = .ok (.iaload, 1) := by decide +kernel
theorem dL_law_717 : decode cL_law 717 = .ok (.invokevirtual 76, 3) := by decide +kernel
theorem dL_law_720 : decode cL_law 720 = .ok (.if_icmp .eq 445, 3) := by decide +kernel
theorem dL_law_723 : decode cL_law 723 = .ok (.iconst 0, 1) := by decide +kernel
theorem dL_law_724 : decode cL_law 724 = .ok (.ireturn, 1) := by decide +kernel
theorem dL_law_725 : decode cL_law 725 = .ok (.aload_n 1, 1) := by decide +kernel
theorem dL_law_726 : decode cL_law 726 = .ok (.aload_n 0, 1) := by decide +kernel
theorem dL_law_727 : decode cL_law 727 = .ok (.iload 4, 2) := by decide +kernel
theorem dL_law_729 : decode cL_law 729 = .ok (.iconst 1, 1) := by decide +kernel
theorem dL_law_730 : decode cL_law 730 = .ok (.iadd, 1) := by decide +kernel
theorem dL_law_731 : decode cL_law 731 = .ok (.iaload, 1) := by decide +kernel
theorem dL_law_732 : decode cL_law 732 = .ok (.aload_n 0, 1) := by decide +kernel
theorem dL_law_733 : decode cL_law 733 = .ok (.iload 4, 2) := by decide +kernel
theorem dL_law_735 : decode cL_law 735 = .ok (.iconst 2, 1) := by decide +kernel
theorem dL_law_736 : decode cL_law 736 = .ok (.iadd, 1) := by decide +kernel
theorem dL_law_737 : decode cL_law 737 = .ok (.iaload, 1) := by decide +kernel
theorem dL_law_738 : decode cL_law 738 = .ok (.invokevirtual 77, 3) := by decide +kernel
theorem dL_law_741 : decode cL_law 741 = .ok (.aload_n 2, 1) := by decide +kernel
theorem dL_law_742 : decode cL_law 742 = .ok (.aload_n 0, 1) := by decide +kernel
theorem dL_law_743 : decode cL_law 743 = .ok (.iload 4, 2) := by decide +kernel
theorem dL_law_745 : decode cL_law 745 = .ok (.iconst 1, 1) := by decide +kernel
theorem dL_law_746 : decode cL_law 746 = .ok (.iadd, 1) := by decide +kernel
theorem dL_law_747 : decode cL_law 747 = .ok (.iaload, 1) := by decide +kernel
theorem dL_law_748 : decode cL_law 748 = .ok (.aload_n 0, 1) := by decide +kernel
theorem dL_law_749 : decode cL_law 749 = .ok (.iload 4, 2) := by decide +kernel
theorem dL_law_751 : decode cL_law 751 = .ok (.iconst 2, 1) := by decide +kernel
theorem dL_law_752 : decode cL_law 752 = .ok (.iadd, 1) := by decide +kernel
theorem dL_law_753 : decode cL_law 753 = .ok (.iaload, 1) := by decide +kernel
theorem dL_law_754 : decode cL_law 754 = .ok (.invokevirtual 80, 3) := by decide +kernel
theorem dL_law_757 : decode cL_law 757 = .ok (.if_icmp .eq 408, 3) := by decide +kernel
theorem dL_law_760 : decode cL_law 760 = .ok (.iconst 0, 1) := by decide +kernel
theorem dL_law_761 : decode cL_law 761 = .ok (.ireturn, 1) := by decide +kernel
theorem dL_law_762 : decode cL_law 762 = .ok (.aload_n 1, 1) := by decide +kernel
theorem dL_law_763 : decode cL_law 763 = .ok (.aload_n 0, 1) := by decide +kernel
theorem dL_law_764 : decode cL_law 764 = .ok (.iload 4, 2) := by decide +kernel
theorem dL_law_766 : decode cL_law 766 = .ok (.iconst 1, 1) := by decide +kernel
theorem dL_law_767 : decode cL_law 767 = .ok (.iadd, 1) := by decide +kernel
theorem dL_law_768 : decode cL_law 768 = .ok (.iaload, 1) := by decide +kernel
theorem dL_law_769 : decode cL_law 769 = .ok (.invokevirtual 81, 3) := by decide +kernel
theorem dL_law_772 : decode cL_law 772 = .ok (.aload_n 2, 1) := by decide +kernel
theorem dL_law_773 : decode cL_law 773 = .ok (.aload_n 0, 1) := by decide +kernel
theorem dL_law_774 : decode cL_law 774 = .ok (.iload 4, 2) := by decide +kernel
theorem dL_law_776 : decode cL_law 776 = .ok (.iconst 1, 1) := by decide +kernel
theorem dL_law_777 : decode cL_law 777 = .ok (.iadd, 1) := by decide +kernel
theorem dL_law_778 : decode cL_law 778 = .ok (.iaload, 1) := by decide +kernel
theorem dL_law_779 : decode cL_law 779 = .ok (.invokevirtual 85, 3) := by decide +kernel
theorem dL_law_782 : decode cL_law 782 = .ok (.if_icmp .eq 383, 3) := by decide +kernel
theorem dL_law_785 : decode cL_law 785 = .ok (.iconst 0, 1) := by decide +kernel
theorem dL_law_786 : decode cL_law 786 = .ok (.ireturn, 1) := by decide +kernel
theorem dL_law_787 : decode cL_law 787 = .ok (.aload_n 1, 1) := by decide +kernel
theorem dL_law_788 : decode cL_law 788 = .ok (.invokevirtual 86, 3) := by decide +kernel
theorem dL_law_791 : decode cL_law 791 = .ok (.aload_n 2, 1) := by decide +kernel
theorem dL_law_792 : decode cL_law 792 = .ok (.invokevirtual 89, 3) := by decide +kernel
theorem dL_law_795 : decode cL_law 795 = .ok (.if_icmp .eq 370, 3) := by decide +kernel
theorem dL_law_798 : decode cL_law 798 = .ok (.iconst 0, 1) := by decide +kernel
theorem dL_law_799 : decode cL_law 799 = .ok (.ireturn, 1) := by decide +kernel
theorem dL_law_800 : decode cL_law 800 = .ok (.aload_n 1, 1) := by decide +kernel
theorem dL_law_801 : decode cL_law 801 = .ok (.aload_n 0, 1) := by decide +kernel
theorem dL_law_802 : decode cL_law 802 = .ok (.iload 4, 2) := by decide +kernel
theorem dL_law_804 : decode cL_law 804 = .ok (.iconst 1, 1) := by decide +kernel
theorem dL_law_805 : decode cL_law 805 = .ok (.iadd, 1) := by decide +kernel
theorem dL_law_806 : decode cL_law 806 = .ok (.iaload, 1) := by decide +kernel
theorem dL_law_807 : decode cL_law 807 = .ok (.invokevirtual 90, 3) := by decide +kernel
theorem dL_law_810 : decode cL_law 810 = .ok (.aload_n 2, 1) := by decide +kernel
theorem dL_law_811 : decode cL_law 811 = .ok (.aload_n 0, 1) := by decide +kernel
theorem dL_law_812 : decode cL_law 812 = .ok (.iload 4, 2) := by decide +kernel
theorem dL_law_814 : decode cL_law 814 = .ok (.iconst 1, 1) := by decide +kernel
theorem dL_law_815 : decode cL_law 815 = .ok (.iadd, 1) := by decide +kernel
theorem dL_law_816 : decode cL_law 816 = .ok (.iaload, 1) := by decide +kernel
theorem dL_law_817 : decode cL_law 817 = .ok (.invokevirtual 93, 3) := by decide +kernel
theorem dL_law_820 : decode cL_law 820 = .ok (.if_icmp .eq 345, 3) := by decide +kernel
theorem dL_law_823 : decode cL_law 823 = .ok (.iconst 0, 1) := by decide +kernel
theorem dL_law_824 : decode cL_law 824 = .ok (.ireturn, 1) := by decide +kernel
theorem dL_law_825 : decode cL_law 825 = .ok (.aload_n 1, 1) := by decide +kernel
theorem dL_law_826 : decode cL_law 826 = .ok (.aload_n 0, 1) := by decide +kernel
theorem dL_law_827 : decode cL_law 827 = .ok (.iload 4, 2) := by decide +kernel
theorem dL_law_829 : decode cL_law 829 = .ok (.iconst 1, 1) := by decide +kernel
theorem dL_law_830 : decode cL_law 830 = .ok (.iadd, 1) := by decide +kernel
theorem dL_law_831 : decode cL_law 831 = .ok (.iaload, 1) := by decide +kernel
theorem dL_law_832 : decode cL_law 832 = .ok (.aload_n 0, 1) := by decide +kernel
theorem dL_law_833 : decode cL_law 833 = .ok (.iload 4, 2) := by decide +kernel
theorem dL_law_835 : decode cL_law 835 = .ok (.iconst 2, 1) := by decide +kernel
theorem dL_law_836 : decode cL_law 836 = .ok (.iadd, 1) := by decide +kernel
theorem dL_law_837 : decode cL_law 837 = .ok (.iaload, 1) := by decide +kernel
theorem dL_law_838 : decode cL_law 838 = .ok (.invokevirtual 94, 3) := by decide +kernel
theorem dL_law_841 : decode cL_law 841 = .ok (.aload_n 2, 1) := by decide +kernel
theorem dL_law_842 : decode cL_law 842 = .ok (.aload_n 0, 1) := by decide +kernel
theorem dL_law_843 : decode cL_law 843 = .ok (.iload 4, 2) := by decide +kernel
theorem dL_law_845 : decode cL_law 845 = .ok (.iconst 1, 1) := by decide +kernel
theorem dL_law_846 : decode cL_law 846 = .ok (.iadd, 1) := by decide +kernel
theorem dL_law_847 : decode cL_law 847 = .ok (.iaload, 1) := by decide +kernel
theorem dL_law_848 : decode cL_law 848 = .ok (.aload_n 0, 1) := by decide +kernel
theorem dL_law_849 : decode cL_law 849 = .ok (.iload 4, 2) := by decide +kernel
theorem dL_law_851 : decode cL_law 851 = .ok (.iconst 2, 1) := by decide +kernel
theorem dL_law_852 : decode cL_law 852 = .ok (.iadd, 1) := by decide +kernel
theorem dL_law_853 : decode cL_law 853 = .ok (.iaload, 1) := by decide +kernel
theorem dL_law_854 : decode cL_law 854 = .ok (.invokevirtual 97, 3) := by decide +kernel
theorem dL_law_857 : decode cL_law 857 = .ok (.if_icmp .eq 308, 3) := by decide +kernel
theorem dL_law_860 : decode cL_law 860 = .ok (.iconst 0, 1) := by decide +kernel
theorem dL_law_861 : decode cL_law 861 = .ok (.ireturn, 1) := by decide +kernel
theorem dL_law_862 : decode cL_law 862 = .ok (.aload_n 1, 1) := by decide +kernel
theorem dL_law_863 : decode cL_law 863 = .ok (.aload_n 0, 1) := by decide +kernel
theorem dL_law_864 : decode cL_law 864 = .ok (.iload 4, 2) := by decide +kernel
theorem dL_law_866 : decode cL_law 866 = .ok (.iconst 1, 1) := by decide +kernel
theorem dL_law_867 : decode cL_law 867 = .ok (.iadd, 1) := by decide +kernel
theorem dL_law_868 : decode cL_law 868 = .ok (.iaload, 1) := by decide +kernel
theorem dL_law_869 : decode cL_law 869 = .ok (.invokevirtual 98, 3) := by decide +kernel
theorem dL_law_872 : decode cL_law 872 = .ok (.aload_n 2, 1) := by decide +kernel
theorem dL_law_873 : decode cL_law 873 = .ok (.aload_n 0, 1) := by decide +kernel
theorem dL_law_874 : decode cL_law 874 = .ok (.iload 4, 2) := by decide +kernel
theorem dL_law_876 : decode cL_law 876 = .ok (.iconst 1, 1) := by decide +kernel
theorem dL_law_877 : decode cL_law 877 = .ok (.iadd, 1) := by decide +kernel
theorem dL_law_878 : decode cL_law 878 = .ok (.iaload, 1) := by decide +kernel
theorem dL_law_879 : decode cL_law 879 = .ok (.invokevirtual 101, 3) := by decide +kernel
theorem dL_law_882 : decode cL_law 882 = .ok (.if_icmp .eq 283, 3) := by decide +kernel
theorem dL_law_885 : decode cL_law 885 = .ok (.iconst 0, 1) := by decide +kernel
theorem dL_law_886 : decode cL_law 886 = .ok (.ireturn, 1) := by decide +kernel
theorem dL_law_887 : decode cL_law 887 = .ok (.aload_n 1, 1) := by decide +kernel
theorem dL_law_888 : decode cL_law 888 = .ok (.aload_n 0, 1) := by decide +kernel
theorem dL_law_889 : decode cL_law 889 = .ok (.iload 4, 2) := by decide +kernel
theorem dL_law_891 : decode cL_law 891 = .ok (.iconst 1, 1) := by decide +kernel
theorem dL_law_892 : decode cL_law 892 = .ok (.iadd, 1) := by decide +kernel
theorem dL_law_893 : decode cL_law 893 = .ok (.iaload, 1) := by decide +kernel
theorem dL_law_894 : decode cL_law 894 = .ok (.invokevirtual 102, 3) := by decide +kernel
theorem dL_law_897 : decode cL_law 897 = .ok (.aload_n 2, 1) := by decide +kernel
theorem dL_law_898 : decode cL_law 898 = .ok (.aload_n 0, 1) := by decide +kernel
theorem dL_law_899 : decode cL_law 899 = .ok (.iload 4, 2) := by decide +kernel
theorem dL_law_901 : decode cL_law 901 = .ok (.iconst 1, 1) := by decide +kernel
theorem dL_law_902 : decode cL_law 902 = .ok (.iadd, 1) := by decide +kernel
theorem dL_law_903 : decode cL_law 903 = .ok (.iaload, 1) := by decide +kernel
theorem dL_law_904 : decode cL_law 904 = .ok (.invokevirtual 105, 3) := by decide +kernel
theorem dL_law_907 : decode cL_law 907 = .ok (.if_icmp .eq 258, 3) := by decide +kernel
theorem dL_law_910 : decode cL_law 910 = .ok (.iconst 0, 1) := by decide +kernel
theorem dL_law_911 : decode cL_law 911 = .ok (.ireturn, 1) := by decide +kernel
theorem dL_law_912 : decode cL_law 912 = .ok (.aload_n 1, 1) := by decide +kernel
theorem dL_law_913 : decode cL_law 913 = .ok (.aload_n 0, 1) := by decide +kernel
theorem dL_law_914 : decode cL_law 914 = .ok (.iload 4, 2) := by decide +kernel
theorem dL_law_916 : decode cL_law 916 = .ok (.iconst 1, 1) := by decide +kernel
theorem dL_law_917 : decode cL_law 917 = .ok (.iadd, 1) := by decide +kernel
theorem dL_law_918 : decode cL_law 918 = .ok (.iaload, 1) := by decide +kernel
theorem dL_law_919 : decode cL_law 919 = .ok (.aload_n 0, 1) := by decide +kernel
theorem dL_law_920 : decode cL_law 920 = .ok (.iload 4, 2) := by decide +kernel
theorem dL_law_922 : decode cL_law 922 = .ok (.iconst 2, 1) := by decide +kernel
theorem dL_law_923 : decode cL_law 923 = .ok (.iadd, 1) := by decide +kernel
theorem dL_law_924 : decode cL_law 924 = .ok (.iaload, 1) := by decide +kernel
theorem dL_law_925 : decode cL_law 925 = .ok (.invokevirtual 106, 3) := by decide +kernel
theorem dL_law_928 : decode cL_law 928 = .ok (.aload_n 2, 1) := by decide +kernel
theorem dL_law_929 : decode cL_law 929 = .ok (.aload_n 0, 1) := by decide +kernel
theorem dL_law_930 : decode cL_law 930 = .ok (.iload 4, 2) := by decide +kernel
theorem dL_law_932 : decode cL_law 932 = .ok (.iconst 1, 1) := by decide +kernel
theorem dL_law_933 : decode cL_law 933 = .ok (.iadd, 1) := by decide +kernel
theorem dL_law_934 : decode cL_law 934 = .ok (.iaload, 1) := by decide +kernel
theorem dL_law_935 : decode cL_law 935 = .ok (.aload_n 0, 1) := by decide +kernel
theorem dL_law_936 : decode cL_law 936 = .ok (.iload 4, 2) := by decide +kernel
theorem dL_law_938 : decode cL_law 938 = .ok (.iconst 2, 1) := by decide +kernel
theorem dL_law_939 : decode cL_law 939 = .ok (.iadd, 1) := by decide +kernel
theorem dL_law_940 : decode cL_law 940 = .ok (.iaload, 1) := by decide +kernel
theorem dL_law_941 : decode cL_law 941 = .ok (.invokevirtual 109, 3) := by decide +kernel
theorem dL_law_944 : decode cL_law 944 = .ok (.if_icmp .eq 221, 3) := by decide +kernel
theorem dL_law_947 : decode cL_law 947 = .ok (.iconst 0, 1) := by decide +kernel
theorem dL_law_948 : decode cL_law 948 = .ok (.ireturn, 1) := by decide +kernel
theorem dL_law_949 : decode cL_law 949 = .ok (.aload_n 1, 1) := by decide +kernel
theorem dL_law_950 : decode cL_law 950 = .ok (.aload_n 0, 1) := by decide +kernel
theorem dL_law_951 : decode cL_law 951 = .ok (.iload 4, 2) := by decide +kernel
theorem dL_law_953 : decode cL_law 953 = .ok (.iconst 1, 1) := by decide +kernel
theorem dL_law_954 : decode cL_law 954 = .ok (.iadd, 1) := by decide +kernel
theorem dL_law_955 : decode cL_law 955 = .ok (.iaload, 1) := by decide +kernel
theorem dL_law_956 : decode cL_law 956 = .ok (.aload_n 0, 1) := by decide +kernel
theorem dL_law_957 : decode cL_law 957 = .ok (.iload 4, 2) := by decide +kernel
theorem dL_law_959 : decode cL_law 959 = .ok (.iconst 2, 1) := by decide +kernel
theorem dL_law_960 : decode cL_law 960 = .ok (.iadd, 1) := by decide +kernel
theorem dL_law_961 : decode cL_law 961 = .ok (.iaload, 1) := by decide +kernel
theorem dL_law_962 : decode cL_law 962 = .ok (.invokevirtual 110, 3) := by decide +kernel
theorem dL_law_965 : decode cL_law 965 = .ok (.aload_n 2, 1) := by decide +kernel
theorem dL_law_966 : decode cL_law 966 = .ok (.aload_n 0, 1) := by decide +kernel
theorem dL_law_967 : decode cL_law 967 = .ok (.iload 4, 2) := by decide +kernel
theorem dL_law_969 : decode cL_law 969 = .ok (.iconst 1, 1) := by decide +kernel
theorem dL_law_970 : decode cL_law 970 = .ok (.iadd, 1) := by decide +kernel
theorem dL_law_971 : decode cL_law 971 = .ok (.iaload, 1) := by decide +kernel
theorem dL_law_972 : decode cL_law 972 = .ok (.aload_n 0, 1) := by decide +kernel
theorem dL_law_973 : decode cL_law 973 = .ok (.iload 4, 2) := by decide +kernel
theorem dL_law_975 : decode cL_law 975 = .ok (.iconst 2, 1) := by decide +kernel
theorem dL_law_976 : decode cL_law 976 = .ok (.iadd, 1) := by decide +kernel
theorem dL_law_977 : decode cL_law 977 = .ok (.iaload, 1) := by decide +kernel
theorem dL_law_978 : decode cL_law 978 = .ok (.invokevirtual 113, 3) := by decide +kernel
theorem dL_law_981 : decode cL_law 981 = .ok (.if_icmp .eq 184, 3) := by decide +kernel
theorem dL_law_984 : decode cL_law 984 = .ok (.iconst 0, 1) := by decide +kernel
theorem dL_law_985 : decode cL_law 985 = .ok (.ireturn, 1) := by decide +kernel
theorem dL_law_986 : decode cL_law 986 = .ok (.aload_n 1, 1) := by decide +kernel
theorem dL_law_987 : decode cL_law 987 = .ok (.aload_n 0, 1) := by decide +kernel
theorem dL_law_988 : decode cL_law 988 = .ok (.iload 4, 2) := by decide +kernel
theorem dL_law_990 : decode cL_law 990 = .ok (.iconst 1, 1) := by decide +kernel
theorem dL_law_991 : decode cL_law 991 = .ok (.iadd, 1) := by decide +kernel
theorem dL_law_992 : decode cL_law 992 = .ok (.iaload, 1) := by decide +kernel
theorem dL_law_993 : decode cL_law 993 = .ok (.invokevirtual 114, 3) := by decide +kernel
theorem dL_law_996 : decode cL_law 996 = .ok (.aload_n 2, 1) := by decide +kernel
theorem dL_law_997 : decode cL_law 997 = .ok (.aload_n 0, 1) := by decide +kernel
theorem dL_law_998 : decode cL_law 998 = .ok (.iload 4, 2) := by decide +kernel
theorem dL_law_1000 : decode cL_law 1000 = .ok (.iconst 1, 1) := by decide +kernel
theorem dL_law_1001 : decode cL_law 1001 = .ok (.iadd, 1) := by decide +kernel
theorem dL_law_1002 : decode cL_law 1002 = .ok (.iaload, 1) := by decide +kernel
theorem dL_law_1003 : decode cL_law 1003 = .ok (.invokevirtual 117, 3) := by decide +kernel
theorem dL_law_1006 : decode cL_law 1006 = .ok (.if_icmp .eq 159, 3) := by decide +kernel
theorem dL_law_1009 : decode cL_law 1009 = .ok (.iconst 0, 1) := by decide +kernel
theorem dL_law_1010 : decode cL_law 1010 = .ok (.ireturn, 1) := by decide +kernel
theorem dL_law_1011 : decode cL_law 1011 = .ok (.aload_n 1, 1) := by decide +kernel
theorem dL_law_1012 : decode cL_law 1012 = .ok (.invokevirtual 118, 3) := by decide +kernel
theorem dL_law_1015 : decode cL_law 1015 = .ok (.aload_n 2, 1) := by decide +kernel
theorem dL_law_1016 : decode cL_law 1016 = .ok (.invokevirtual 121, 3) := by decide +kernel
theorem dL_law_1019 : decode cL_law 1019 = .ok (.if_icmp .eq 146, 3) := by decide +kernel
theorem dL_law_1022 : decode cL_law 1022 = .ok (.iconst 0, 1) := by decide +kernel
theorem dL_law_1023 : decode cL_law 1023 = .ok (.ireturn, 1) := by decide +kernel
theorem dL_law_1024 : decode cL_law 1024 = .ok (.aload_n 1, 1) := by decide +kernel
theorem dL_law_1025 : decode cL_law 1025 = .ok (.invokevirtual 122, 3) := by decide +kernel
theorem dL_law_1028 : decode cL_law 1028 = .ok (.aload_n 2, 1) := by decide +kernel
theorem dL_law_1029 : decode cL_law 1029 = .ok (.invokevirtual 125, 3) := by decide +kernel
theorem dL_law_1032 : decode cL_law 1032 = .ok (.if_icmp .eq 133, 3) := by decide +kernel
theorem dL_law_1035 : decode cL_law 1035 = .ok (.iconst 0, 1) := by decide +kernel
theorem dL_law_1036 : decode cL_law 1036 = .ok (.ireturn, 1) := by decide +kernel
theorem dL_law_1037 : decode cL_law 1037 = .ok (.aload_n 1, 1) := by decide +kernel
theorem dL_law_1038 : decode cL_law 1038 = .ok (.aload_n 0, 1) := by decide +kernel
theorem dL_law_1039 : decode cL_law 1039 = .ok (.iload 4, 2) := by decide +kernel
theorem dL_law_1041 : decode cL_law 1041 = .ok (.iconst 1, 1) := by decide +kernel
theorem dL_law_1042 : decode cL_law 1042 = .ok (.iadd, 1) := by decide +kernel
theorem dL_law_1043 : decode cL_law 1043 = .ok (.iaload, 1) := by decide +kernel
theorem dL_law_1044 : decode cL_law 1044 = .ok (.aload_n 0, 1) := by decide +kernel
theorem dL_law_1045 : decode cL_law 1045 = .ok (.iload 4, 2) := by decide +kernel
theorem dL_law_1047 : decode cL_law 1047 = .ok (.iconst 2, 1) := by decide +kernel
theorem dL_law_1048 : decode cL_law 1048 = .ok (.iadd, 1) := by decide +kernel
theorem dL_law_1049 : decode cL_law 1049 = .ok (.iaload, 1) := by decide +kernel
theorem dL_law_1050 : decode cL_law 1050 = .ok (.aload_n 0, 1) := by decide +kernel
theorem dL_law_1051 : decode cL_law 1051 = .ok (.iload 4, 2) := by decide +kernel
theorem dL_law_1053 : decode cL_law 1053 = .ok (.iconst 3, 1) := by decide +kernel
theorem dL_law_1054 : decode cL_law 1054 = .ok (.iadd, 1) := by decide +kernel
theorem dL_law_1055 : decode cL_law 1055 = .ok (.iaload, 1) := by decide +kernel
theorem dL_law_1056 : decode cL_law 1056 = .ok (.ifCond .eq 7, 3) := by decide +kernel
theorem dL_law_1059 : decode cL_law 1059 = .ok (.iconst 1, 1) := by decide +kernel
theorem dL_law_1060 : decode cL_law 1060 = .ok (.goto 4, 3) := by decide +kernel
theorem dL_law_1063 : decode cL_law 1063 = .ok (.iconst 0, 1) := by decide +kernel
theorem dL_law_1064 : decode cL_law 1064 = .ok (.invokevirtual 126, 3) := by decide +kernel
theorem dL_law_1067 : decode cL_law 1067 = .ok (.aload_n 2, 1) := by decide +kernel
theorem dL_law_1068 : decode cL_law 1068 = .ok (.aload_n 0, 1) := by decide +kernel
theorem dL_law_1069 : decode cL_law 1069 = .ok (.iload 4, 2) := by decide +kernel
theorem dL_law_1071 : decode cL_law 1071 = .ok (.iconst 1, 1) := by decide +kernel
theorem dL_law_1072 : decode cL_law 1072 = .ok (.iadd, 1) := by decide +kernel
theorem dL_law_1073 : decode cL_law 1073 = .ok (.iaload, 1) := by decide +kernel
theorem dL_law_1074 : decode cL_law 1074 = .ok (.aload_n 0, 1) := by decide +kernel
theorem dL_law_1075 : decode cL_law 1075 = .ok (.iload 4, 2) := by decide +kernel
theorem dL_law_1077 : decode cL_law 1077 = .ok (.iconst 2, 1) := by decide +kernel
theorem dL_law_1078 : decode cL_law 1078 = .ok (.iadd, 1) := by decide +kernel
theorem dL_law_1079 : decode cL_law 1079 = .ok (.iaload, 1) := by decide +kernel
theorem dL_law_1080 : decode cL_law 1080 = .ok (.aload_n 0, 1) := by decide +kernel
theorem dL_law_1081 : decode cL_law 1081 = .ok (.iload 4, 2) := by decide +kernel
theorem dL_law_1083 : decode cL_law 1083 = .ok (.iconst 3, 1) := by decide +kernel
theorem dL_law_1084 : decode cL_law 1084 = .ok (.iadd, 1) := by decide +kernel
theorem dL_law_1085 : decode cL_law 1085 = .ok (.iaload, 1) := by decide +kernel
theorem dL_law_1086 : decode cL_law 1086 = .ok (.ifCond .eq 7, 3) := by decide +kernel
theorem dL_law_1089 : decode cL_law 1089 = .ok (.iconst 1, 1) := by decide +kernel
theorem dL_law_1090 : decode cL_law 1090 = .ok (.goto 4, 3) := by decide +kernel
theorem dL_law_1093 : decode cL_law 1093 = .ok (.iconst 0, 1) := by decide +kernel
theorem dL_law_1094 : decode cL_law 1094 = .ok (.invokevirtual 130, 3) := by decide +kernel
theorem dL_law_1097 : decode cL_law 1097 = .ok (.if_icmp .eq 68, 3) := by decide +kernel
theorem dL_law_1100 : decode cL_law 1100 = .ok (.iconst 0, 1) := by decide +kernel
theorem dL_law_1101 : decode cL_law 1101 = .ok (.ireturn, 1) := by decide +kernel
theorem dL_law_1102 : decode cL_law 1102 = .ok (.aload_n 1, 1) := by decide +kernel
theorem dL_law_1103 : decode cL_law 1103 = .ok (.aload_n 0, 1) := by decide +kernel
theorem dL_law_1104 : decode cL_law 1104 = .ok (.iload 4, 2) := by decide +kernel
theorem dL_law_1106 : decode cL_law 1106 = .ok (.iconst 1, 1) := by decide +kernel
theorem dL_law_1107 : decode cL_law 1107 = .ok (.iadd, 1) := by decide +kernel
theorem dL_law_1108 : decode cL_law 1108 = .ok (.iaload, 1) := by decide +kernel
theorem dL_law_1109 : decode cL_law 1109 = .ok (.invokevirtual 131, 3) := by decide +kernel
theorem dL_law_1112 : decode cL_law 1112 = .ok (.aload_n 2, 1) := by decide +kernel
theorem dL_law_1113 : decode cL_law 1113 = .ok (.aload_n 0, 1) := by decide +kernel
theorem dL_law_1114 : decode cL_law 1114 = .ok (.iload 4, 2) := by decide +kernel
theorem dL_law_1116 : decode cL_law 1116 = .ok (.iconst 1, 1) := by decide +kernel
theorem dL_law_1117 : decode cL_law 1117 = .ok (.iadd, 1) := by decide +kernel
theorem dL_law_1118 : decode cL_law 1118 = .ok (.iaload, 1) := by decide +kernel
theorem dL_law_1119 : decode cL_law 1119 = .ok (.invokevirtual 134, 3) := by decide +kernel
theorem dL_law_1122 : decode cL_law 1122 = .ok (.if_icmp .eq 43, 3) := by decide +kernel
theorem dL_law_1125 : decode cL_law 1125 = .ok (.iconst 0, 1) := by decide +kernel
theorem dL_law_1126 : decode cL_law 1126 = .ok (.ireturn, 1) := by decide +kernel
theorem dL_law_1127 : decode cL_law 1127 = .ok (.aload_n 1, 1) := by decide +kernel
theorem dL_law_1128 : decode cL_law 1128 = .ok (.aload_n 0, 1) := by decide +kernel
theorem dL_law_1129 : decode cL_law 1129 = .ok (.iload 4, 2) := by decide +kernel
theorem dL_law_1131 : decode cL_law 1131 = .ok (.iconst 1, 1) := by decide +kernel
theorem dL_law_1132 : decode cL_law 1132 = .ok (.iadd, 1) := by decide +kernel
theorem dL_law_1133 : decode cL_law 1133 = .ok (.iaload, 1) := by decide +kernel
theorem dL_law_1134 : decode cL_law 1134 = .ok (.invokevirtual 135, 3) := by decide +kernel
theorem dL_law_1137 : decode cL_law 1137 = .ok (.aload_n 2, 1) := by decide +kernel
theorem dL_law_1138 : decode cL_law 1138 = .ok (.aload_n 0, 1) := by decide +kernel
theorem dL_law_1139 : decode cL_law 1139 = .ok (.iload 4, 2) := by decide +kernel
theorem dL_law_1141 : decode cL_law 1141 = .ok (.iconst 1, 1) := by decide +kernel
theorem dL_law_1142 : decode cL_law 1142 = .ok (.iadd, 1) := by decide +kernel
theorem dL_law_1143 : decode cL_law 1143 = .ok (.iaload, 1) := by decide +kernel
theorem dL_law_1144 : decode cL_law 1144 = .ok (.invokevirtual 138, 3) := by decide +kernel
theorem dL_law_1147 : decode cL_law 1147 = .ok (.if_icmp .eq 18, 3) := by decide +kernel
theorem dL_law_1150 : decode cL_law 1150 = .ok (.iconst 0, 1) := by decide +kernel
theorem dL_law_1151 : decode cL_law 1151 = .ok (.ireturn, 1) := by decide +kernel
theorem dL_law_1152 : decode cL_law 1152 = .ok (.aload_n 1, 1) := by decide +kernel
theorem dL_law_1153 : decode cL_law 1153 = .ok (.invokevirtual 139, 3) := by decide +kernel
theorem dL_law_1156 : decode cL_law 1156 = .ok (.aload_n 2, 1) := by decide +kernel
theorem dL_law_1157 : decode cL_law 1157 = .ok (.invokevirtual 142, 3) := by decide +kernel
theorem dL_law_1160 : decode cL_law 1160 = .ok (.if_icmp .eq 5, 3) := by decide +kernel
theorem dL_law_1163 : decode cL_law 1163 = .ok (.iconst 0, 1) := by decide +kernel
theorem dL_law_1164 : decode cL_law 1164 = .ok (.ireturn, 1) := by decide +kernel
theorem dL_law_1165 : decode cL_law 1165 = .ok (.iinc 4 7, 3) := by decide +kernel
theorem dL_law_1168 : decode cL_law 1168 = .ok (.goto (-1135), 3) := by decide +kernel
theorem dL_law_1171 : decode cL_law 1171 = .ok (.iconst 1, 1) := by decide +kernel
theorem dL_law_1172 : decode cL_law 1172 = .ok (.ireturn, 1) := by decide +kernel
end
