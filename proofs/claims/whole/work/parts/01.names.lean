-- ===== PART A: goes FIRST, ahead of the names: the tables' words, and 'selects' of the private methods out of them =====
/-- a private method of a class that the tables say can be made, by its rows of tables_1 -/
def lw_okq (q : MethodName × Nat) : Prop := (q.1.cls ≠ "java/lang/invoke/MethodHandle" ∧ q.1.cls ≠ "java/lang/invoke/VarHandle") ∧ Cond.instantiable q.1.cls q.2 ∈ tables_1 ∧ Cond.privateMethod q.1 ∈ tables_1 ∧ Cond.instanceMethod q.1 ∈ tables_1
theorem lw_p0 : lw_okq (⟨"PostTariff", "slot", "(I)LPostTariff$Edition;"⟩, 8) := ⟨⟨by decide +kernel, by decide +kernel⟩, List.mem_of_getElem? (i := 17) (by decide +kernel), List.mem_of_getElem? (i := 231) (by decide +kernel), List.mem_of_getElem? (i := 232) (by decide +kernel)⟩
theorem lw_p1 : lw_okq (⟨"PostTariff$Reader", "readRow", "()V"⟩, 7) := ⟨⟨by decide +kernel, by decide +kernel⟩, List.mem_of_getElem? (i := 25) (by decide +kernel), List.mem_of_getElem? (i := 251) (by decide +kernel), List.mem_of_getElem? (i := 252) (by decide +kernel)⟩
theorem lw_p2 : lw_okq (⟨"PostTariff$Reader", "signHere", "()I"⟩, 7) := ⟨⟨by decide +kernel, by decide +kernel⟩, List.mem_of_getElem? (i := 25) (by decide +kernel), List.mem_of_getElem? (i := 255) (by decide +kernel), List.mem_of_getElem? (i := 256) (by decide +kernel)⟩
theorem lw_p3 : lw_okq (⟨"PostTariff$Reader", "mayBegin", "(I)Z"⟩, 7) := ⟨⟨by decide +kernel, by decide +kernel⟩, List.mem_of_getElem? (i := 25) (by decide +kernel), List.mem_of_getElem? (i := 262) (by decide +kernel), List.mem_of_getElem? (i := 263) (by decide +kernel)⟩
theorem lw_p4 : lw_okq (⟨"PostTariff$Reader", "expect", "(I)V"⟩, 7) := ⟨⟨by decide +kernel, by decide +kernel⟩, List.mem_of_getElem? (i := 25) (by decide +kernel), List.mem_of_getElem? (i := 269) (by decide +kernel), List.mem_of_getElem? (i := 270) (by decide +kernel)⟩
theorem lw_p5 : lw_okq (⟨"PostTariff$Reader", "readNumber", "(II)V"⟩, 7) := ⟨⟨by decide +kernel, by decide +kernel⟩, List.mem_of_getElem? (i := 25) (by decide +kernel), List.mem_of_getElem? (i := 273) (by decide +kernel), List.mem_of_getElem? (i := 274) (by decide +kernel)⟩
theorem lw_p6 : lw_okq (⟨"PostTariff$Reader", "isAsSaid", "(III)Z"⟩, 7) := ⟨⟨by decide +kernel, by decide +kernel⟩, List.mem_of_getElem? (i := 25) (by decide +kernel), List.mem_of_getElem? (i := 278) (by decide +kernel), List.mem_of_getElem? (i := 279) (by decide +kernel)⟩
theorem lw_p7 : lw_okq (⟨"PostTariff$Reader", "isExcludable", "(II)Z"⟩, 7) := ⟨⟨by decide +kernel, by decide +kernel⟩, List.mem_of_getElem? (i := 25) (by decide +kernel), List.mem_of_getElem? (i := 297) (by decide +kernel), List.mem_of_getElem? (i := 298) (by decide +kernel)⟩
theorem lw_p8 : lw_okq (⟨"PostTariff$Reader", "take", "(I)V"⟩, 7) := ⟨⟨by decide +kernel, by decide +kernel⟩, List.mem_of_getElem? (i := 25) (by decide +kernel), List.mem_of_getElem? (i := 305) (by decide +kernel), List.mem_of_getElem? (i := 306) (by decide +kernel)⟩
theorem lw_p9 : lw_okq (⟨"PostTariff$Reader", "begin", "(I)V"⟩, 7) := ⟨⟨by decide +kernel, by decide +kernel⟩, List.mem_of_getElem? (i := 25) (by decide +kernel), List.mem_of_getElem? (i := 309) (by decide +kernel), List.mem_of_getElem? (i := 310) (by decide +kernel)⟩
theorem lw_p10 : lw_okq (⟨"PostTariff$Reader", "takeOf", "(LPostTariff$Kind;III)V"⟩, 7) := ⟨⟨by decide +kernel, by decide +kernel⟩, List.mem_of_getElem? (i := 25) (by decide +kernel), List.mem_of_getElem? (i := 314) (by decide +kernel), List.mem_of_getElem? (i := 315) (by decide +kernel)⟩
theorem lw_p11 : lw_okq (⟨"PostTariff", "itemOf", "(I)LPostTariff$Item;"⟩, 8) := ⟨⟨by decide +kernel, by decide +kernel⟩, List.mem_of_getElem? (i := 17) (by decide +kernel), List.mem_of_getElem? (i := 376) (by decide +kernel), List.mem_of_getElem? (i := 377) (by decide +kernel)⟩
theorem lw_p12 : lw_okq (⟨"PostTariff", "pricingRefusal", "(IJ)I"⟩, 8) := ⟨⟨by decide +kernel, by decide +kernel⟩, List.mem_of_getElem? (i := 17) (by decide +kernel), List.mem_of_getElem? (i := 392) (by decide +kernel), List.mem_of_getElem? (i := 393) (by decide +kernel)⟩
theorem lw_p13 : lw_okq (⟨"PostTariff", "latest", "()LPostTariff$Edition;"⟩, 8) := ⟨⟨by decide +kernel, by decide +kernel⟩, List.mem_of_getElem? (i := 17) (by decide +kernel), List.mem_of_getElem? (i := 397) (by decide +kernel), List.mem_of_getElem? (i := 398) (by decide +kernel)⟩
theorem lw_p14 : lw_okq (⟨"PostTariff$Bill", "addParts", "(LPostTariff$Item;LPostTariff$Kind;II)V"⟩, 5) := ⟨⟨by decide +kernel, by decide +kernel⟩, List.mem_of_getElem? (i := 69) (by decide +kernel), List.mem_of_getElem? (i := 433) (by decide +kernel), List.mem_of_getElem? (i := 434) (by decide +kernel)⟩
theorem lw_p15 : lw_okq (⟨"PostTariff$Bill", "add", "(IJI)V"⟩, 5) := ⟨⟨by decide +kernel, by decide +kernel⟩, List.mem_of_getElem? (i := 69) (by decide +kernel), List.mem_of_getElem? (i := 438) (by decide +kernel), List.mem_of_getElem? (i := 439) (by decide +kernel)⟩
def lw_privs_1 : List (MethodName × Nat) := [(⟨"PostTariff", "slot", "(I)LPostTariff$Edition;"⟩, 8), (⟨"PostTariff$Reader", "readRow", "()V"⟩, 7), (⟨"PostTariff$Reader", "signHere", "()I"⟩, 7), (⟨"PostTariff$Reader", "mayBegin", "(I)Z"⟩, 7), (⟨"PostTariff$Reader", "expect", "(I)V"⟩, 7), (⟨"PostTariff$Reader", "readNumber", "(II)V"⟩, 7), (⟨"PostTariff$Reader", "isAsSaid", "(III)Z"⟩, 7), (⟨"PostTariff$Reader", "isExcludable", "(II)Z"⟩, 7), (⟨"PostTariff$Reader", "take", "(I)V"⟩, 7), (⟨"PostTariff$Reader", "begin", "(I)V"⟩, 7), (⟨"PostTariff$Reader", "takeOf", "(LPostTariff$Kind;III)V"⟩, 7), (⟨"PostTariff", "itemOf", "(I)LPostTariff$Item;"⟩, 8), (⟨"PostTariff", "pricingRefusal", "(IJ)I"⟩, 8), (⟨"PostTariff", "latest", "()LPostTariff$Edition;"⟩, 8), (⟨"PostTariff$Bill", "addParts", "(LPostTariff$Item;LPostTariff$Kind;II)V"⟩, 5), (⟨"PostTariff$Bill", "add", "(IJI)V"⟩, 5)]
theorem lw_r1 : ∀ q ∈ lw_privs_1, lw_okq q := List.forall_mem_cons.mpr ⟨lw_p0, List.forall_mem_cons.mpr ⟨lw_p1, List.forall_mem_cons.mpr ⟨lw_p2, List.forall_mem_cons.mpr ⟨lw_p3, List.forall_mem_cons.mpr ⟨lw_p4, List.forall_mem_cons.mpr ⟨lw_p5, List.forall_mem_cons.mpr ⟨lw_p6, List.forall_mem_cons.mpr ⟨lw_p7, List.forall_mem_cons.mpr ⟨lw_p8, List.forall_mem_cons.mpr ⟨lw_p9, List.forall_mem_cons.mpr ⟨lw_p10, List.forall_mem_cons.mpr ⟨lw_p11, List.forall_mem_cons.mpr ⟨lw_p12, List.forall_mem_cons.mpr ⟨lw_p13, List.forall_mem_cons.mpr ⟨lw_p14, List.forall_mem_cons.mpr ⟨lw_p15, fun _ h => absurd h List.not_mem_nil⟩⟩⟩⟩⟩⟩⟩⟩⟩⟩⟩⟩⟩⟩⟩⟩
theorem lw_p16 : lw_okq (⟨"PostTariff$Printer", "addRow", "(IIII)V"⟩, 2) := ⟨⟨by decide +kernel, by decide +kernel⟩, List.mem_of_getElem? (i := 54) (by decide +kernel), List.mem_of_getElem? (i := 490) (by decide +kernel), List.mem_of_getElem? (i := 491) (by decide +kernel)⟩
theorem lw_p17 : lw_okq (⟨"PostTariff$Printer", "addSign", "(I)V"⟩, 2) := ⟨⟨by decide +kernel, by decide +kernel⟩, List.mem_of_getElem? (i := 54) (by decide +kernel), List.mem_of_getElem? (i := 494) (by decide +kernel), List.mem_of_getElem? (i := 495) (by decide +kernel)⟩
theorem lw_p18 : lw_okq (⟨"PostTariff$Printer", "addNumber", "(I)V"⟩, 2) := ⟨⟨by decide +kernel, by decide +kernel⟩, List.mem_of_getElem? (i := 54) (by decide +kernel), List.mem_of_getElem? (i := 499) (by decide +kernel), List.mem_of_getElem? (i := 500) (by decide +kernel)⟩
theorem lw_p19 : lw_okq (⟨"PostTariff$Printer", "addNamed", "(I[I)V"⟩, 2) := ⟨⟨by decide +kernel, by decide +kernel⟩, List.mem_of_getElem? (i := 54) (by decide +kernel), List.mem_of_getElem? (i := 504) (by decide +kernel), List.mem_of_getElem? (i := 505) (by decide +kernel)⟩
theorem lw_p20 : lw_okq (⟨"PostTariff$Printer", "addExclusions", "(LPostTariff$Kind;)V"⟩, 2) := ⟨⟨by decide +kernel, by decide +kernel⟩, List.mem_of_getElem? (i := 54) (by decide +kernel), List.mem_of_getElem? (i := 508) (by decide +kernel), List.mem_of_getElem? (i := 509) (by decide +kernel)⟩
theorem lw_p21 : lw_okq (⟨"PostTariff$Printer", "addLimits", "(LPostTariff$Kind;)V"⟩, 2) := ⟨⟨by decide +kernel, by decide +kernel⟩, List.mem_of_getElem? (i := 54) (by decide +kernel), List.mem_of_getElem? (i := 513) (by decide +kernel), List.mem_of_getElem? (i := 514) (by decide +kernel)⟩
theorem lw_p22 : lw_okq (⟨"java/lang/Throwable", "fillInStackTrace", "(I)Ljava/lang/Throwable;"⟩, 6) := ⟨⟨by decide +kernel, by decide +kernel⟩, List.mem_of_getElem? (i := 550) (by decide +kernel), List.mem_of_getElem? (i := 548) (by decide +kernel), List.mem_of_getElem? (i := 549) (by decide +kernel)⟩
theorem lw_p23 : lw_okq (⟨"PostTariffModel", "readRow", "()V"⟩, 31) := ⟨⟨by decide +kernel, by decide +kernel⟩, List.mem_of_getElem? (i := 604) (by decide +kernel), List.mem_of_getElem? (i := 718) (by decide +kernel), List.mem_of_getElem? (i := 719) (by decide +kernel)⟩
theorem lw_p24 : lw_okq (⟨"PostTariffModel", "look", "()I"⟩, 31) := ⟨⟨by decide +kernel, by decide +kernel⟩, List.mem_of_getElem? (i := 604) (by decide +kernel), List.mem_of_getElem? (i := 722) (by decide +kernel), List.mem_of_getElem? (i := 723) (by decide +kernel)⟩
theorem lw_p25 : lw_okq (⟨"PostTariffModel", "must", "(ZI)Z"⟩, 31) := ⟨⟨by decide +kernel, by decide +kernel⟩, List.mem_of_getElem? (i := 604) (by decide +kernel), List.mem_of_getElem? (i := 726) (by decide +kernel), List.mem_of_getElem? (i := 727) (by decide +kernel)⟩
theorem lw_p26 : lw_okq (⟨"PostTariffModel", "readKind", "(I)V"⟩, 31) := ⟨⟨by decide +kernel, by decide +kernel⟩, List.mem_of_getElem? (i := 604) (by decide +kernel), List.mem_of_getElem? (i := 730) (by decide +kernel), List.mem_of_getElem? (i := 731) (by decide +kernel)⟩
theorem lw_p27 : lw_okq (⟨"PostTariffModel", "count", "(I)I"⟩, 31) := ⟨⟨by decide +kernel, by decide +kernel⟩, List.mem_of_getElem? (i := 604) (by decide +kernel), List.mem_of_getElem? (i := 734) (by decide +kernel), List.mem_of_getElem? (i := 735) (by decide +kernel)⟩
theorem lw_p28 : lw_okq (⟨"PostTariffModel", "lastRow", "()I"⟩, 31) := ⟨⟨by decide +kernel, by decide +kernel⟩, List.mem_of_getElem? (i := 604) (by decide +kernel), List.mem_of_getElem? (i := 738) (by decide +kernel), List.mem_of_getElem? (i := 739) (by decide +kernel)⟩
theorem lw_p29 : lw_okq (⟨"PostTariffModel", "base", "()I"⟩, 31) := ⟨⟨by decide +kernel, by decide +kernel⟩, List.mem_of_getElem? (i := 604) (by decide +kernel), List.mem_of_getElem? (i := 742) (by decide +kernel), List.mem_of_getElem? (i := 743) (by decide +kernel)⟩
theorem lw_p30 : lw_okq (⟨"PostTariffModel", "number", "(II)I"⟩, 31) := ⟨⟨by decide +kernel, by decide +kernel⟩, List.mem_of_getElem? (i := 604) (by decide +kernel), List.mem_of_getElem? (i := 746) (by decide +kernel), List.mem_of_getElem? (i := 747) (by decide +kernel)⟩
theorem lw_p31 : lw_okq (⟨"PostTariffModel", "isDigit", "()Z"⟩, 31) := ⟨⟨by decide +kernel, by decide +kernel⟩, List.mem_of_getElem? (i := 604) (by decide +kernel), List.mem_of_getElem? (i := 750) (by decide +kernel), List.mem_of_getElem? (i := 751) (by decide +kernel)⟩
def lw_privs_2 : List (MethodName × Nat) := [(⟨"PostTariff$Printer", "addRow", "(IIII)V"⟩, 2), (⟨"PostTariff$Printer", "addSign", "(I)V"⟩, 2), (⟨"PostTariff$Printer", "addNumber", "(I)V"⟩, 2), (⟨"PostTariff$Printer", "addNamed", "(I[I)V"⟩, 2), (⟨"PostTariff$Printer", "addExclusions", "(LPostTariff$Kind;)V"⟩, 2), (⟨"PostTariff$Printer", "addLimits", "(LPostTariff$Kind;)V"⟩, 2), (⟨"java/lang/Throwable", "fillInStackTrace", "(I)Ljava/lang/Throwable;"⟩, 6), (⟨"PostTariffModel", "readRow", "()V"⟩, 31), (⟨"PostTariffModel", "look", "()I"⟩, 31), (⟨"PostTariffModel", "must", "(ZI)Z"⟩, 31), (⟨"PostTariffModel", "readKind", "(I)V"⟩, 31), (⟨"PostTariffModel", "count", "(I)I"⟩, 31), (⟨"PostTariffModel", "lastRow", "()I"⟩, 31), (⟨"PostTariffModel", "base", "()I"⟩, 31), (⟨"PostTariffModel", "number", "(II)I"⟩, 31), (⟨"PostTariffModel", "isDigit", "()Z"⟩, 31)]
theorem lw_r2 : ∀ q ∈ lw_privs_2, lw_okq q := List.forall_mem_cons.mpr ⟨lw_p16, List.forall_mem_cons.mpr ⟨lw_p17, List.forall_mem_cons.mpr ⟨lw_p18, List.forall_mem_cons.mpr ⟨lw_p19, List.forall_mem_cons.mpr ⟨lw_p20, List.forall_mem_cons.mpr ⟨lw_p21, List.forall_mem_cons.mpr ⟨lw_p22, List.forall_mem_cons.mpr ⟨lw_p23, List.forall_mem_cons.mpr ⟨lw_p24, List.forall_mem_cons.mpr ⟨lw_p25, List.forall_mem_cons.mpr ⟨lw_p26, List.forall_mem_cons.mpr ⟨lw_p27, List.forall_mem_cons.mpr ⟨lw_p28, List.forall_mem_cons.mpr ⟨lw_p29, List.forall_mem_cons.mpr ⟨lw_p30, List.forall_mem_cons.mpr ⟨lw_p31, fun _ h => absurd h List.not_mem_nil⟩⟩⟩⟩⟩⟩⟩⟩⟩⟩⟩⟩⟩⟩⟩⟩
theorem lw_p32 : lw_okq (⟨"PostTariffModel", "add", "(IIII)V"⟩, 31) := ⟨⟨by decide +kernel, by decide +kernel⟩, List.mem_of_getElem? (i := 604) (by decide +kernel), List.mem_of_getElem? (i := 754) (by decide +kernel), List.mem_of_getElem? (i := 755) (by decide +kernel)⟩
theorem lw_p33 : lw_okq (⟨"PostTariffModel", "readStep", "(I)V"⟩, 31) := ⟨⟨by decide +kernel, by decide +kernel⟩, List.mem_of_getElem? (i := 604) (by decide +kernel), List.mem_of_getElem? (i := 758) (by decide +kernel), List.mem_of_getElem? (i := 759) (by decide +kernel)⟩
theorem lw_p34 : lw_okq (⟨"PostTariffModel", "lastWeight", "()I"⟩, 31) := ⟨⟨by decide +kernel, by decide +kernel⟩, List.mem_of_getElem? (i := 604) (by decide +kernel), List.mem_of_getElem? (i := 762) (by decide +kernel), List.mem_of_getElem? (i := 763) (by decide +kernel)⟩
theorem lw_p35 : lw_okq (⟨"PostTariffModel", "next", "(II)I"⟩, 31) := ⟨⟨by decide +kernel, by decide +kernel⟩, List.mem_of_getElem? (i := 604) (by decide +kernel), List.mem_of_getElem? (i := 767) (by decide +kernel), List.mem_of_getElem? (i := 768) (by decide +kernel)⟩
theorem lw_p36 : lw_okq (⟨"PostTariffModel", "readOnceEach", "(II)V"⟩, 31) := ⟨⟨by decide +kernel, by decide +kernel⟩, List.mem_of_getElem? (i := 604) (by decide +kernel), List.mem_of_getElem? (i := 771) (by decide +kernel), List.mem_of_getElem? (i := 772) (by decide +kernel)⟩
theorem lw_p37 : lw_okq (⟨"PostTariffModel", "isThere", "(II)Z"⟩, 31) := ⟨⟨by decide +kernel, by decide +kernel⟩, List.mem_of_getElem? (i := 604) (by decide +kernel), List.mem_of_getElem? (i := 775) (by decide +kernel), List.mem_of_getElem? (i := 776) (by decide +kernel)⟩
theorem lw_p38 : lw_okq (⟨"PostTariffModel", "readApart", "(I)V"⟩, 31) := ⟨⟨by decide +kernel, by decide +kernel⟩, List.mem_of_getElem? (i := 604) (by decide +kernel), List.mem_of_getElem? (i := 779) (by decide +kernel), List.mem_of_getElem? (i := 780) (by decide +kernel)⟩
theorem lw_p39 : lw_okq (⟨"PostTariffModel", "areApart", "(II)Z"⟩, 31) := ⟨⟨by decide +kernel, by decide +kernel⟩, List.mem_of_getElem? (i := 604) (by decide +kernel), List.mem_of_getElem? (i := 783) (by decide +kernel), List.mem_of_getElem? (i := 784) (by decide +kernel)⟩
theorem lw_p40 : lw_okq (⟨"PostTariffModel", "readOnce", "(II)V"⟩, 31) := ⟨⟨by decide +kernel, by decide +kernel⟩, List.mem_of_getElem? (i := 604) (by decide +kernel), List.mem_of_getElem? (i := 787) (by decide +kernel), List.mem_of_getElem? (i := 788) (by decide +kernel)⟩
theorem lw_p41 : lw_okq (⟨"PostTariffModel", "refusal", "(IIJ)I"⟩, 31) := ⟨⟨by decide +kernel, by decide +kernel⟩, List.mem_of_getElem? (i := 604) (by decide +kernel), List.mem_of_getElem? (i := 811) (by decide +kernel), List.mem_of_getElem? (i := 812) (by decide +kernel)⟩
theorem lw_p42 : lw_okq (⟨"PostTariffModel", "reckon", "(IIIJ)J"⟩, 31) := ⟨⟨by decide +kernel, by decide +kernel⟩, List.mem_of_getElem? (i := 604) (by decide +kernel), List.mem_of_getElem? (i := 817) (by decide +kernel), List.mem_of_getElem? (i := 818) (by decide +kernel)⟩
theorem lw_p43 : lw_okq (⟨"PostTariffModel", "kindRow", "(II)I"⟩, 31) := ⟨⟨by decide +kernel, by decide +kernel⟩, List.mem_of_getElem? (i := 604) (by decide +kernel), List.mem_of_getElem? (i := 821) (by decide +kernel), List.mem_of_getElem? (i := 822) (by decide +kernel)⟩
theorem lw_p44 : lw_okq (⟨"PostTariffModel", "kindEnd", "(II)I"⟩, 31) := ⟨⟨by decide +kernel, by decide +kernel⟩, List.mem_of_getElem? (i := 604) (by decide +kernel), List.mem_of_getElem? (i := 826) (by decide +kernel), List.mem_of_getElem? (i := 827) (by decide +kernel)⟩
theorem lw_p45 : lw_okq (⟨"PostTariffModel", "mayGo", "(IIIIJ)Z"⟩, 31) := ⟨⟨by decide +kernel, by decide +kernel⟩, List.mem_of_getElem? (i := 604) (by decide +kernel), List.mem_of_getElem? (i := 830) (by decide +kernel), List.mem_of_getElem? (i := 831) (by decide +kernel)⟩
theorem lw_p46 : lw_okq (⟨"PostTariffModel", "onlyRow", "(III)I"⟩, 31) := ⟨⟨by decide +kernel, by decide +kernel⟩, List.mem_of_getElem? (i := 604) (by decide +kernel), List.mem_of_getElem? (i := 834) (by decide +kernel), List.mem_of_getElem? (i := 835) (by decide +kernel)⟩
theorem lw_p47 : lw_okq (⟨"PostTariffModel", "rowOf", "(IIII)I"⟩, 31) := ⟨⟨by decide +kernel, by decide +kernel⟩, List.mem_of_getElem? (i := 604) (by decide +kernel), List.mem_of_getElem? (i := 838) (by decide +kernel), List.mem_of_getElem? (i := 839) (by decide +kernel)⟩
def lw_privs_3 : List (MethodName × Nat) := [(⟨"PostTariffModel", "add", "(IIII)V"⟩, 31), (⟨"PostTariffModel", "readStep", "(I)V"⟩, 31), (⟨"PostTariffModel", "lastWeight", "()I"⟩, 31), (⟨"PostTariffModel", "next", "(II)I"⟩, 31), (⟨"PostTariffModel", "readOnceEach", "(II)V"⟩, 31), (⟨"PostTariffModel", "isThere", "(II)Z"⟩, 31), (⟨"PostTariffModel", "readApart", "(I)V"⟩, 31), (⟨"PostTariffModel", "areApart", "(II)Z"⟩, 31), (⟨"PostTariffModel", "readOnce", "(II)V"⟩, 31), (⟨"PostTariffModel", "refusal", "(IIJ)I"⟩, 31), (⟨"PostTariffModel", "reckon", "(IIIJ)J"⟩, 31), (⟨"PostTariffModel", "kindRow", "(II)I"⟩, 31), (⟨"PostTariffModel", "kindEnd", "(II)I"⟩, 31), (⟨"PostTariffModel", "mayGo", "(IIIIJ)Z"⟩, 31), (⟨"PostTariffModel", "onlyRow", "(III)I"⟩, 31), (⟨"PostTariffModel", "rowOf", "(IIII)I"⟩, 31)]
theorem lw_r3 : ∀ q ∈ lw_privs_3, lw_okq q := List.forall_mem_cons.mpr ⟨lw_p32, List.forall_mem_cons.mpr ⟨lw_p33, List.forall_mem_cons.mpr ⟨lw_p34, List.forall_mem_cons.mpr ⟨lw_p35, List.forall_mem_cons.mpr ⟨lw_p36, List.forall_mem_cons.mpr ⟨lw_p37, List.forall_mem_cons.mpr ⟨lw_p38, List.forall_mem_cons.mpr ⟨lw_p39, List.forall_mem_cons.mpr ⟨lw_p40, List.forall_mem_cons.mpr ⟨lw_p41, List.forall_mem_cons.mpr ⟨lw_p42, List.forall_mem_cons.mpr ⟨lw_p43, List.forall_mem_cons.mpr ⟨lw_p44, List.forall_mem_cons.mpr ⟨lw_p45, List.forall_mem_cons.mpr ⟨lw_p46, List.forall_mem_cons.mpr ⟨lw_p47, fun _ h => absurd h List.not_mem_nil⟩⟩⟩⟩⟩⟩⟩⟩⟩⟩⟩⟩⟩⟩⟩⟩
theorem lw_p48 : lw_okq (⟨"PostTariffModel", "mayServe", "(III)Z"⟩, 31) := ⟨⟨by decide +kernel, by decide +kernel⟩, List.mem_of_getElem? (i := 604) (by decide +kernel), List.mem_of_getElem? (i := 842) (by decide +kernel), List.mem_of_getElem? (i := 843) (by decide +kernel)⟩
theorem lw_p49 : lw_okq (⟨"PostTariffModel", "part", "(IJI)V"⟩, 31) := ⟨⟨by decide +kernel, by decide +kernel⟩, List.mem_of_getElem? (i := 604) (by decide +kernel), List.mem_of_getElem? (i := 846) (by decide +kernel), List.mem_of_getElem? (i := 847) (by decide +kernel)⟩
theorem lw_p50 : lw_okq (⟨"PostTariffModel", "putKind", "(II)Z"⟩, 31) := ⟨⟨by decide +kernel, by decide +kernel⟩, List.mem_of_getElem? (i := 604) (by decide +kernel), List.mem_of_getElem? (i := 869) (by decide +kernel), List.mem_of_getElem? (i := 870) (by decide +kernel)⟩
theorem lw_p51 : lw_okq (⟨"PostTariffModel", "put", "(I)V"⟩, 31) := ⟨⟨by decide +kernel, by decide +kernel⟩, List.mem_of_getElem? (i := 604) (by decide +kernel), List.mem_of_getElem? (i := 873) (by decide +kernel), List.mem_of_getElem? (i := 874) (by decide +kernel)⟩
theorem lw_p52 : lw_okq (⟨"PostTariffModel", "putNumber", "(I)V"⟩, 31) := ⟨⟨by decide +kernel, by decide +kernel⟩, List.mem_of_getElem? (i := 604) (by decide +kernel), List.mem_of_getElem? (i := 877) (by decide +kernel), List.mem_of_getElem? (i := 878) (by decide +kernel)⟩
theorem lw_p53 : lw_okq (⟨"PostTariffModel", "putRow", "(IIIII)V"⟩, 31) := ⟨⟨by decide +kernel, by decide +kernel⟩, List.mem_of_getElem? (i := 604) (by decide +kernel), List.mem_of_getElem? (i := 881) (by decide +kernel), List.mem_of_getElem? (i := 882) (by decide +kernel)⟩
theorem lw_p54 : lw_okq (⟨"PostTariffModel", "putEach", "(III)V"⟩, 31) := ⟨⟨by decide +kernel, by decide +kernel⟩, List.mem_of_getElem? (i := 604) (by decide +kernel), List.mem_of_getElem? (i := 885) (by decide +kernel), List.mem_of_getElem? (i := 886) (by decide +kernel)⟩
theorem lw_p55 : lw_okq (⟨"PostTariffModel", "putOnly", "(IIII)V"⟩, 31) := ⟨⟨by decide +kernel, by decide +kernel⟩, List.mem_of_getElem? (i := 604) (by decide +kernel), List.mem_of_getElem? (i := 889) (by decide +kernel), List.mem_of_getElem? (i := 890) (by decide +kernel)⟩
def lw_privs_4 : List (MethodName × Nat) := [(⟨"PostTariffModel", "mayServe", "(III)Z"⟩, 31), (⟨"PostTariffModel", "part", "(IJI)V"⟩, 31), (⟨"PostTariffModel", "putKind", "(II)Z"⟩, 31), (⟨"PostTariffModel", "put", "(I)V"⟩, 31), (⟨"PostTariffModel", "putNumber", "(I)V"⟩, 31), (⟨"PostTariffModel", "putRow", "(IIIII)V"⟩, 31), (⟨"PostTariffModel", "putEach", "(III)V"⟩, 31), (⟨"PostTariffModel", "putOnly", "(IIII)V"⟩, 31)]
theorem lw_r4 : ∀ q ∈ lw_privs_4, lw_okq q := List.forall_mem_cons.mpr ⟨lw_p48, List.forall_mem_cons.mpr ⟨lw_p49, List.forall_mem_cons.mpr ⟨lw_p50, List.forall_mem_cons.mpr ⟨lw_p51, List.forall_mem_cons.mpr ⟨lw_p52, List.forall_mem_cons.mpr ⟨lw_p53, List.forall_mem_cons.mpr ⟨lw_p54, List.forall_mem_cons.mpr ⟨lw_p55, fun _ h => absurd h List.not_mem_nil⟩⟩⟩⟩⟩⟩⟩⟩
def lw_privs : List (MethodName × Nat) := lw_privs_1 ++ (lw_privs_2 ++ (lw_privs_3 ++ (lw_privs_4)))
def lw_tbl : List Cond := k2_sels lw_privs ++ tables_1
theorem lw_privs_ok : ∀ q ∈ lw_privs, lw_okq q := by
  show ∀ q ∈ lw_privs_1 ++ (lw_privs_2 ++ (lw_privs_3 ++ (lw_privs_4))), lw_okq q
  exact List.forall_mem_append.mpr ⟨lw_r1, List.forall_mem_append.mpr ⟨lw_r2, List.forall_mem_append.mpr ⟨lw_r3, lw_r4⟩⟩⟩
def RX0 : String := "PostTariff$Bill"
def TX0 : u_T := fun k => match k with
  | 0 => ("PostTariff$Bill", "sorts", "[I", true)
  | 1 => ("PostTariff$Bill", "sums", "[I", true)
  | 2 => ("PostTariff$Bill", "numbers", "[I", true)
  | 3 => ("PostTariff$Bill", "parts", "I", false)
  | _ => ("PostTariff$Bill", "total", "J", false)
def tyX0 : Nat → FieldType := fun k => match k with
  | 0 => .array .int
  | 1 => .array .int
  | 2 => .array .int
  | 3 => .int
  | _ => .long
abbrev wsX00 : List Cond := u_ws RX0 TX0 5
theorem nmX0 : ∀ a, a < 5 → ∀ b, b < 5 → a ≠ b → (TX0 a).2.1 ≠ (TX0 b).2.1 := by decide +kernel
theorem tyX0_ok : ∀ k, k < 5 → parseFieldDescriptor (TX0 k).2.2.1 = some (tyX0 k) := by decide +kernel
abbrev cX0_init : ByteArray := prog_2_method_1_code
def yX0_init : MethodName := ⟨RX0, "<init>", "()V"⟩
abbrev cX0_make : ByteArray := prog_2_method_2_code
def yX0_make : MethodName := ⟨RX0, "make", "(LPostTariff$Item;LPostTariff$Kind;IJ)V"⟩
abbrev cX0_addParts : ByteArray := prog_2_method_3_code
def yX0_addParts : MethodName := ⟨RX0, "addParts", "(LPostTariff$Item;LPostTariff$Kind;II)V"⟩
abbrev cX0_add : ByteArray := prog_2_method_4_code
def yX0_add : MethodName := ⟨RX0, "add", "(IJI)V"⟩
abbrev cX0_tell : ByteArray := prog_2_method_5_code
def yX0_tell : MethodName := ⟨RX0, "tell", "(II)I"⟩
def RX1 : String := "PostTariff$Edition"
def TX1 : u_T := fun k => match k with
  | _ => ("PostTariff$Edition", "kinds", "[LPostTariff$Kind;", true)
def tyX1 : Nat → FieldType := fun k => match k with
  | _ => .array (.object "PostTariff$Kind")
abbrev wsX10 : List Cond := u_ws RX1 TX1 1
theorem nmX1 : ∀ a, a < 1 → ∀ b, b < 1 → a ≠ b → (TX1 a).2.1 ≠ (TX1 b).2.1 := by decide +kernel
theorem tyX1_ok : ∀ k, k < 1 → parseFieldDescriptor (TX1 k).2.2.1 = some (tyX1 k) := by decide +kernel
abbrev cX1_init : ByteArray := prog_3_method_1_code
def yX1_init : MethodName := ⟨RX1, "<init>", "()V"⟩
abbrev cX1_place : ByteArray := prog_3_method_2_code
def yX1_place : MethodName := ⟨RX1, "place", "(I)LPostTariff$Kind;"⟩
abbrev cX1_clear : ByteArray := prog_3_method_3_code
def yX1_clear : MethodName := ⟨RX1, "clear", "()V"⟩
def RX2 : String := "PostTariff$Item"
def TX2 : u_T := fun k => match k with
  | 0 => ("PostTariff$Item", "kind", "I", true)
  | 1 => ("PostTariff$Item", "weight", "I", true)
  | 2 => ("PostTariff$Item", "width", "I", true)
  | 3 => ("PostTariff$Item", "height", "I", true)
  | 4 => ("PostTariff$Item", "depth", "I", true)
  | _ => ("PostTariff$Item", "services", "I", false)
def tyX2 : Nat → FieldType := fun k => match k with
  | 0 => .int
  | 1 => .int
  | 2 => .int
  | 3 => .int
  | 4 => .int
  | _ => .int
abbrev wsX20 : List Cond := u_ws RX2 TX2 6
theorem nmX2 : ∀ a, a < 6 → ∀ b, b < 6 → a ≠ b → (TX2 a).2.1 ≠ (TX2 b).2.1 := by decide +kernel
theorem tyX2_ok : ∀ k, k < 6 → parseFieldDescriptor (TX2 k).2.2.1 = some (tyX2 k) := by decide +kernel
abbrev cX2_init : ByteArray := prog_4_method_1_code
def yX2_init : MethodName := ⟨RX2, "<init>", "(IIIII)V"⟩
abbrev cX2_has : ByteArray := prog_4_method_2_code
def yX2_has : MethodName := ⟨RX2, "has", "(I)Z"⟩
def RX3 : String := "PostTariff$Kind"
def TX3 : u_T := fun k => match k with
  | 0 => ("PostTariff$Kind", "there", "Z", false)
  | 1 => ("PostTariff$Kind", "steps", "I", false)
  | 2 => ("PostTariff$Kind", "weights", "[I", true)
  | 3 => ("PostTariff$Kind", "costs", "[I", true)
  | 4 => ("PostTariff$Kind", "zones", "[I", true)
  | 5 => ("PostTariff$Kind", "services", "[I", true)
  | 6 => ("PostTariff$Kind", "excluded", "[I", true)
  | 7 => ("PostTariff$Kind", "exclusions", "I", false)
  | 8 => ("PostTariff$Kind", "width", "I", false)
  | 9 => ("PostTariff$Kind", "height", "I", false)
  | 10 => ("PostTariff$Kind", "depth", "I", false)
  | 11 => ("PostTariff$Kind", "divisor", "I", false)
  | 12 => ("PostTariff$Kind", "firstDay", "I", false)
  | 13 => ("PostTariff$Kind", "lastDay", "I", false)
  | _ => ("PostTariff$Kind", "whole", "I", false)
def tyX3 : Nat → FieldType := fun k => match k with
  | 0 => .boolean
  | 1 => .int
  | 2 => .array .int
  | 3 => .array .int
  | 4 => .array .int
  | 5 => .array .int
  | 6 => .array .int
  | 7 => .int
  | 8 => .int
  | 9 => .int
  | 10 => .int
  | 11 => .int
  | 12 => .int
  | 13 => .int
  | _ => .int
abbrev wsX30 : List Cond := u_ws RX3 TX3 15
theorem nmX3 : ∀ a, a < 15 → ∀ b, b < 15 → a ≠ b → (TX3 a).2.1 ≠ (TX3 b).2.1 := by decide +kernel
theorem tyX3_ok : ∀ k, k < 15 → parseFieldDescriptor (TX3 k).2.2.1 = some (tyX3 k) := by decide +kernel
abbrev cX3_init : ByteArray := prog_5_method_1_code
def yX3_init : MethodName := ⟨RX3, "<init>", "()V"⟩
abbrev cX3_clear : ByteArray := prog_5_method_2_code
def yX3_clear : MethodName := ⟨RX3, "clear", "()V"⟩
abbrev cX3_addStep : ByteArray := prog_5_method_3_code
def yX3_addStep : MethodName := ⟨RX3, "addStep", "(II)V"⟩
abbrev cX3_exclude : ByteArray := prog_5_method_4_code
def yX3_exclude : MethodName := ⟨RX3, "exclude", "(II)V"⟩
abbrev cX3_excludes : ByteArray := prog_5_method_5_code
def yX3_excludes : MethodName := ⟨RX3, "excludes", "(II)Z"⟩
abbrev cX3_lastWeight : ByteArray := prog_5_method_6_code
def yX3_lastWeight : MethodName := ⟨RX3, "lastWeight", "()I"⟩
abbrev cX3_takes : ByteArray := prog_5_method_7_code
def yX3_takes : MethodName := ⟨RX3, "takes", "(LPostTariff$Item;IJ)Z"⟩
abbrev cX3_takesServices : ByteArray := prog_5_method_8_code
def yX3_takesServices : MethodName := ⟨RX3, "takesServices", "(LPostTariff$Item;)Z"⟩
abbrev cX3_weightOf : ByteArray := prog_5_method_9_code
def yX3_weightOf : MethodName := ⟨RX3, "weightOf", "(LPostTariff$Item;)J"⟩
abbrev cX3_stepFor : ByteArray := prog_5_method_10_code
def yX3_stepFor : MethodName := ⟨RX3, "stepFor", "(J)I"⟩
abbrev cX3_hasSameStepsAs : ByteArray := prog_5_method_11_code
def yX3_hasSameStepsAs : MethodName := ⟨RX3, "hasSameStepsAs", "(LPostTariff$Kind;)Z"⟩
abbrev cX3_hasSameNamesAs : ByteArray := prog_5_method_12_code
def yX3_hasSameNamesAs : MethodName := ⟨RX3, "hasSameNamesAs", "(LPostTariff$Kind;)Z"⟩
abbrev cX3_hasSameLimitsAs : ByteArray := prog_5_method_13_code
def yX3_hasSameLimitsAs : MethodName := ⟨RX3, "hasSameLimitsAs", "(LPostTariff$Kind;)Z"⟩
def RX4 : String := "PostTariff$Printer"
def TX4 : u_T := fun k => match k with
  | 0 => ("PostTariff$Printer", "signs", "[I", true)
  | _ => ("PostTariff$Printer", "length", "I", false)
def tyX4 : Nat → FieldType := fun k => match k with
  | 0 => .array .int
  | _ => .int
abbrev wsX40 : List Cond := u_ws RX4 TX4 2
theorem nmX4 : ∀ a, a < 2 → ∀ b, b < 2 → a ≠ b → (TX4 a).2.1 ≠ (TX4 b).2.1 := by decide +kernel
theorem tyX4_ok : ∀ k, k < 2 → parseFieldDescriptor (TX4 k).2.2.1 = some (tyX4 k) := by decide +kernel
abbrev cX4_init : ByteArray := prog_6_method_1_code
def yX4_init : MethodName := ⟨RX4, "<init>", "()V"⟩
abbrev cX4_start : ByteArray := prog_6_method_2_code
def yX4_start : MethodName := ⟨RX4, "start", "()V"⟩
abbrev cX4_addKind : ByteArray := prog_6_method_3_code
def yX4_addKind : MethodName := ⟨RX4, "addKind", "(ILPostTariff$Kind;)V"⟩
abbrev cX4_addNamed : ByteArray := prog_6_method_4_code
def yX4_addNamed : MethodName := ⟨RX4, "addNamed", "(I[I)V"⟩
abbrev cX4_addExclusions : ByteArray := prog_6_method_5_code
def yX4_addExclusions : MethodName := ⟨RX4, "addExclusions", "(LPostTariff$Kind;)V"⟩
abbrev cX4_addLimits : ByteArray := prog_6_method_6_code
def yX4_addLimits : MethodName := ⟨RX4, "addLimits", "(LPostTariff$Kind;)V"⟩
abbrev cX4_addRow : ByteArray := prog_6_method_7_code
def yX4_addRow : MethodName := ⟨RX4, "addRow", "(IIII)V"⟩
abbrev cX4_addNumber : ByteArray := prog_6_method_8_code
def yX4_addNumber : MethodName := ⟨RX4, "addNumber", "(I)V"⟩
abbrev cX4_addSign : ByteArray := prog_6_method_9_code
def yX4_addSign : MethodName := ⟨RX4, "addSign", "(I)V"⟩
def RX5 : String := "PostTariff$Reader"
def TX5 : u_T := fun k => match k with
  | 0 => ("PostTariff$Reader", "text", "[I", true)
  | 1 => ("PostTariff$Reader", "length", "I", false)
  | 2 => ("PostTariff$Reader", "position", "I", false)
  | 3 => ("PostTariff$Reader", "fault", "I", false)
  | 4 => ("PostTariff$Reader", "edition", "LPostTariff$Edition;", false)
  | 5 => ("PostTariff$Reader", "kind", "LPostTariff$Kind;", false)
  | _ => ("PostTariff$Reader", "numbers", "[I", true)
def tyX5 : Nat → FieldType := fun k => match k with
  | 0 => .array .int
  | 1 => .int
  | 2 => .int
  | 3 => .int
  | 4 => .object "PostTariff$Edition"
  | 5 => .object "PostTariff$Kind"
  | _ => .array .int
abbrev wsX50 : List Cond := u_ws RX5 TX5 7
theorem nmX5 : ∀ a, a < 7 → ∀ b, b < 7 → a ≠ b → (TX5 a).2.1 ≠ (TX5 b).2.1 := by decide +kernel
theorem tyX5_ok : ∀ k, k < 7 → parseFieldDescriptor (TX5 k).2.2.1 = some (tyX5 k) := by decide +kernel
abbrev cX5_init : ByteArray := prog_7_method_1_code
def yX5_init : MethodName := ⟨RX5, "<init>", "()V"⟩
abbrev cX5_append : ByteArray := prog_7_method_2_code
def yX5_append : MethodName := ⟨RX5, "append", "(I)V"⟩
abbrev cX5_empty : ByteArray := prog_7_method_3_code
def yX5_empty : MethodName := ⟨RX5, "empty", "()V"⟩
abbrev cX5_readInto : ByteArray := prog_7_method_4_code
def yX5_readInto : MethodName := ⟨RX5, "readInto", "(LPostTariff$Edition;)I"⟩
abbrev cX5_readRow : ByteArray := prog_7_method_5_code
def yX5_readRow : MethodName := ⟨RX5, "readRow", "()V"⟩
abbrev cX5_signHere : ByteArray := prog_7_method_6_code
def yX5_signHere : MethodName := ⟨RX5, "signHere", "()I"⟩
abbrev cX5_expect : ByteArray := prog_7_method_7_code
def yX5_expect : MethodName := ⟨RX5, "expect", "(I)V"⟩
abbrev cX5_readNumber : ByteArray := prog_7_method_8_code
def yX5_readNumber : MethodName := ⟨RX5, "readNumber", "(II)V"⟩
abbrev cX5_numbersOf : ByteArray := prog_7_method_9_code
def yX5_numbersOf : MethodName := ⟨RX5, "numbersOf", "(I)I"⟩
abbrev cX5_mayBegin : ByteArray := prog_7_method_10_code
def yX5_mayBegin : MethodName := ⟨RX5, "mayBegin", "(I)Z"⟩
abbrev cX5_isAsSaid : ByteArray := prog_7_method_11_code
def yX5_isAsSaid : MethodName := ⟨RX5, "isAsSaid", "(III)Z"⟩
abbrev cX5_isExcludable : ByteArray := prog_7_method_12_code
def yX5_isExcludable : MethodName := ⟨RX5, "isExcludable", "(II)Z"⟩
abbrev cX5_take : ByteArray := prog_7_method_13_code
def yX5_take : MethodName := ⟨RX5, "take", "(I)V"⟩
abbrev cX5_begin : ByteArray := prog_7_method_14_code
def yX5_begin : MethodName := ⟨RX5, "begin", "(I)V"⟩
abbrev cX5_takeOf : ByteArray := prog_7_method_15_code
def yX5_takeOf : MethodName := ⟨RX5, "takeOf", "(LPostTariff$Kind;III)V"⟩
def RX6 : String := "PostTariff"
def TX6 : u_T := fun k => match k with
  | 0 => ("PostTariff", "reader", "LPostTariff$Reader;", true)
  | 1 => ("PostTariff", "printer", "LPostTariff$Printer;", true)
  | 2 => ("PostTariff", "told", "LPostTariff$Bill;", true)
  | 3 => ("PostTariff", "tried", "LPostTariff$Bill;", true)
  | 4 => ("PostTariff", "items", "[LPostTariff$Item;", true)
  | 5 => ("PostTariff", "itemCount", "I", false)
  | 6 => ("PostTariff", "editions", "[LPostTariff$Edition;", true)
  | _ => ("PostTariff", "editionCount", "I", false)
def tyX6 : Nat → FieldType := fun k => match k with
  | 0 => .object "PostTariff$Reader"
  | 1 => .object "PostTariff$Printer"
  | 2 => .object "PostTariff$Bill"
  | 3 => .object "PostTariff$Bill"
  | 4 => .array (.object "PostTariff$Item")
  | 5 => .int
  | 6 => .array (.object "PostTariff$Edition")
  | _ => .int
abbrev wsX60 : List Cond := u_ws RX6 TX6 8
theorem nmX6 : ∀ a, a < 8 → ∀ b, b < 8 → a ≠ b → (TX6 a).2.1 ≠ (TX6 b).2.1 := by decide +kernel
theorem tyX6_ok : ∀ k, k < 8 → parseFieldDescriptor (TX6 k).2.2.1 = some (tyX6 k) := by decide +kernel
abbrev cX6_init : ByteArray := prog_1_method_1_code
def yX6_init : MethodName := ⟨RX6, "<init>", "()V"⟩
abbrev cX6_sign : ByteArray := prog_1_method_2_code
def yX6_sign : MethodName := ⟨RX6, "sign", "(I)V"⟩
abbrev cX6_read : ByteArray := prog_1_method_3_code
def yX6_read : MethodName := ⟨RX6, "read", "()I"⟩
abbrev cX6_item : ByteArray := prog_1_method_4_code
def yX6_item : MethodName := ⟨RX6, "item", "(IIIII)I"⟩
abbrev cX6_service : ByteArray := prog_1_method_5_code
def yX6_service : MethodName := ⟨RX6, "service", "(II)I"⟩
abbrev cX6_price : ByteArray := prog_1_method_6_code
def yX6_price : MethodName := ⟨RX6, "price", "(IIJ)J"⟩
abbrev cX6_least : ByteArray := prog_1_method_7_code
def yX6_least : MethodName := ⟨RX6, "least", "(IIJ)I"⟩
abbrev cX6_explain : ByteArray := prog_1_method_8_code
def yX6_explain : MethodName := ⟨RX6, "explain", "(II)I"⟩
abbrev cX6_dimensional : ByteArray := prog_1_method_9_code
def yX6_dimensional : MethodName := ⟨RX6, "dimensional", "(JJ)J"⟩
abbrev cX6_compare : ByteArray := prog_1_method_10_code
def yX6_compare : MethodName := ⟨RX6, "compare", "(I)I"⟩
abbrev cX6_print : ByteArray := prog_1_method_11_code
def yX6_print : MethodName := ⟨RX6, "print", "()I"⟩
abbrev cX6_at : ByteArray := prog_1_method_12_code
def yX6_at : MethodName := ⟨RX6, "at", "(I)I"⟩
abbrev cX6_pricingRefusal : ByteArray := prog_1_method_13_code
def yX6_pricingRefusal : MethodName := ⟨RX6, "pricingRefusal", "(IJ)I"⟩
abbrev cX6_itemOf : ByteArray := prog_1_method_14_code
def yX6_itemOf : MethodName := ⟨RX6, "itemOf", "(I)LPostTariff$Item;"⟩
abbrev cX6_slot : ByteArray := prog_1_method_15_code
def yX6_slot : MethodName := ⟨RX6, "slot", "(I)LPostTariff$Edition;"⟩
abbrev cX6_latest : ByteArray := prog_1_method_16_code
def yX6_latest : MethodName := ⟨RX6, "latest", "()LPostTariff$Edition;"⟩
abbrev cX6_isWithin : ByteArray := prog_1_method_17_code
def yX6_isWithin : MethodName := ⟨RX6, "isWithin", "(III)Z"⟩
abbrev cX6_isName : ByteArray := prog_1_method_18_code
def yX6_isName : MethodName := ⟨RX6, "isName", "(I)Z"⟩
abbrev cX6_isMeasure : ByteArray := prog_1_method_19_code
def yX6_isMeasure : MethodName := ⟨RX6, "isMeasure", "(I)Z"⟩
abbrev cX6_cell : ByteArray := prog_1_method_20_code
def yX6_cell : MethodName := ⟨RX6, "cell", "([II)I"⟩
abbrev cX6_put : ByteArray := prog_1_method_21_code
def yX6_put : MethodName := ⟨RX6, "put", "([III)V"⟩
abbrev cX6_fill : ByteArray := prog_1_method_22_code
def yX6_fill : MethodName := ⟨RX6, "fill", "([II)V"⟩
abbrev cX6_dividedUp : ByteArray := prog_1_method_23_code
def yX6_dividedUp : MethodName := ⟨RX6, "dividedUp", "(JJ)J"⟩
abbrev cX6_kindOf : ByteArray := prog_1_method_24_code
def yX6_kindOf : MethodName := ⟨RX6, "kindOf", "(LPostTariff$Edition;I)LPostTariff$Kind;"⟩
abbrev cX6_arePrintedAlike : ByteArray := prog_1_method_25_code
def yX6_arePrintedAlike : MethodName := ⟨RX6, "arePrintedAlike", "(LPostTariff$Kind;LPostTariff$Kind;)Z"⟩
def RX7 : String := "PostTariffModel"
def TX7 : u_T := fun k => match k with
  | 0 => ("PostTariffModel", "thrown", "I", false)
  | 1 => ("PostTariffModel", "text", "[I", true)
  | 2 => ("PostTariffModel", "length", "I", false)
  | 3 => ("PostTariffModel", "at", "I", false)
  | 4 => ("PostTariffModel", "fault", "I", false)
  | 5 => ("PostTariffModel", "letter", "[I", true)
  | 6 => ("PostTariffModel", "first", "[I", true)
  | 7 => ("PostTariffModel", "second", "[I", true)
  | 8 => ("PostTariffModel", "third", "[I", true)
  | 9 => ("PostTariffModel", "rowsOf", "[I", true)
  | 10 => ("PostTariffModel", "editions", "I", false)
  | 11 => ("PostTariffModel", "begun", "I", false)
  | 12 => ("PostTariffModel", "items", "I", false)
  | 13 => ("PostTariffModel", "kind", "[I", true)
  | 14 => ("PostTariffModel", "weight", "[I", true)
  | 15 => ("PostTariffModel", "width", "[I", true)
  | 16 => ("PostTariffModel", "height", "[I", true)
  | 17 => ("PostTariffModel", "depth", "[I", true)
  | 18 => ("PostTariffModel", "has", "[Z", true)
  | 19 => ("PostTariffModel", "parts", "I", false)
  | 20 => ("PostTariffModel", "sort", "[I", true)
  | 21 => ("PostTariffModel", "adds", "[J", true)
  | 22 => ("PostTariffModel", "which", "[I", true)
  | 23 => ("PostTariffModel", "printed", "I", false)
  | 24 => ("PostTariffModel", "out", "[I", true)
  | 25 => ("PostTariffModel", "made", "I", false)
  | 26 => ("PostTariffModel", "paper", "[I", true)
  | 27 => ("PostTariffModel", "other", "[I", true)
  | 28 => ("PostTariffModel", "hadSort", "[I", true)
  | 29 => ("PostTariffModel", "hadAdds", "[J", true)
  | _ => ("PostTariffModel", "hadWhich", "[I", true)
def tyX7 : Nat → FieldType := fun k => match k with
  | 0 => .int
  | 1 => .array .int
  | 2 => .int
  | 3 => .int
  | 4 => .int
  | 5 => .array .int
  | 6 => .array .int
  | 7 => .array .int
  | 8 => .array .int
  | 9 => .array .int
  | 10 => .int
  | 11 => .int
  | 12 => .int
  | 13 => .array .int
  | 14 => .array .int
  | 15 => .array .int
  | 16 => .array .int
  | 17 => .array .int
  | 18 => .array .boolean
  | 19 => .int
  | 20 => .array .int
  | 21 => .array .long
  | 22 => .array .int
  | 23 => .int
  | 24 => .array .int
  | 25 => .int
  | 26 => .array .int
  | 27 => .array .int
  | 28 => .array .int
  | 29 => .array .long
  | _ => .array .int
abbrev wsX70 : List Cond := u_ws RX7 TX7 31
theorem nmX7 : ∀ a, a < 31 → ∀ b, b < 31 → a ≠ b → (TX7 a).2.1 ≠ (TX7 b).2.1 := by decide +kernel
theorem tyX7_ok : ∀ k, k < 31 → parseFieldDescriptor (TX7 k).2.2.1 = some (tyX7 k) := by decide +kernel
abbrev cX7_init : ByteArray := prog_9_method_1_code
def yX7_init : MethodName := ⟨RX7, "<init>", "()V"⟩
abbrev cX7_thrown : ByteArray := prog_9_method_2_code
def yX7_thrown : MethodName := ⟨RX7, "thrown", "()I"⟩
abbrev cX7_sign : ByteArray := prog_9_method_3_code
def yX7_sign : MethodName := ⟨RX7, "sign", "(I)V"⟩
abbrev cX7_look : ByteArray := prog_9_method_4_code
def yX7_look : MethodName := ⟨RX7, "look", "()I"⟩
abbrev cX7_must : ByteArray := prog_9_method_5_code
def yX7_must : MethodName := ⟨RX7, "must", "(ZI)Z"⟩
abbrev cX7_isDigit : ByteArray := prog_9_method_6_code
def yX7_isDigit : MethodName := ⟨RX7, "isDigit", "()Z"⟩
abbrev cX7_number : ByteArray := prog_9_method_7_code
def yX7_number : MethodName := ⟨RX7, "number", "(II)I"⟩
abbrev cX7_next : ByteArray := prog_9_method_8_code
def yX7_next : MethodName := ⟨RX7, "next", "(II)I"⟩
abbrev cX7_base : ByteArray := prog_9_method_9_code
def yX7_base : MethodName := ⟨RX7, "base", "()I"⟩
abbrev cX7_lastRow : ByteArray := prog_9_method_10_code
def yX7_lastRow : MethodName := ⟨RX7, "lastRow", "()I"⟩
abbrev cX7_count : ByteArray := prog_9_method_11_code
def yX7_count : MethodName := ⟨RX7, "count", "(I)I"⟩
abbrev cX7_isThere : ByteArray := prog_9_method_12_code
def yX7_isThere : MethodName := ⟨RX7, "isThere", "(II)Z"⟩
abbrev cX7_lastWeight : ByteArray := prog_9_method_13_code
def yX7_lastWeight : MethodName := ⟨RX7, "lastWeight", "()I"⟩
abbrev cX7_areApart : ByteArray := prog_9_method_14_code
def yX7_areApart : MethodName := ⟨RX7, "areApart", "(II)Z"⟩
abbrev cX7_add : ByteArray := prog_9_method_15_code
def yX7_add : MethodName := ⟨RX7, "add", "(IIII)V"⟩
abbrev cX7_readKind : ByteArray := prog_9_method_16_code
def yX7_readKind : MethodName := ⟨RX7, "readKind", "(I)V"⟩
abbrev cX7_readStep : ByteArray := prog_9_method_17_code
def yX7_readStep : MethodName := ⟨RX7, "readStep", "(I)V"⟩
abbrev cX7_readOnceEach : ByteArray := prog_9_method_18_code
def yX7_readOnceEach : MethodName := ⟨RX7, "readOnceEach", "(II)V"⟩
abbrev cX7_readApart : ByteArray := prog_9_method_19_code
def yX7_readApart : MethodName := ⟨RX7, "readApart", "(I)V"⟩
abbrev cX7_readOnce : ByteArray := prog_9_method_20_code
def yX7_readOnce : MethodName := ⟨RX7, "readOnce", "(II)V"⟩
abbrev cX7_readRow : ByteArray := prog_9_method_21_code
def yX7_readRow : MethodName := ⟨RX7, "readRow", "()V"⟩
abbrev cX7_read : ByteArray := prog_9_method_22_code
def yX7_read : MethodName := ⟨RX7, "read", "()I"⟩
abbrev cX7_kindRow : ByteArray := prog_9_method_23_code
def yX7_kindRow : MethodName := ⟨RX7, "kindRow", "(II)I"⟩
abbrev cX7_kindEnd : ByteArray := prog_9_method_24_code
def yX7_kindEnd : MethodName := ⟨RX7, "kindEnd", "(II)I"⟩
abbrev cX7_rowOf : ByteArray := prog_9_method_25_code
def yX7_rowOf : MethodName := ⟨RX7, "rowOf", "(IIII)I"⟩
abbrev cX7_onlyRow : ByteArray := prog_9_method_26_code
def yX7_onlyRow : MethodName := ⟨RX7, "onlyRow", "(III)I"⟩
abbrev cX7_in : ByteArray := prog_9_method_27_code
def yX7_in : MethodName := ⟨RX7, "in", "(JJJ)Z"⟩
abbrev cX7_item : ByteArray := prog_9_method_28_code
def yX7_item : MethodName := ⟨RX7, "item", "(IIIII)I"⟩
abbrev cX7_service : ByteArray := prog_9_method_29_code
def yX7_service : MethodName := ⟨RX7, "service", "(II)I"⟩
abbrev cX7_part : ByteArray := prog_9_method_30_code
def yX7_part : MethodName := ⟨RX7, "part", "(IJI)V"⟩
abbrev cX7_mayServe : ByteArray := prog_9_method_31_code
def yX7_mayServe : MethodName := ⟨RX7, "mayServe", "(III)Z"⟩
abbrev cX7_mayGo : ByteArray := prog_9_method_32_code
def yX7_mayGo : MethodName := ⟨RX7, "mayGo", "(IIIIJ)Z"⟩
abbrev cX7_reckon : ByteArray := prog_9_method_33_code
def yX7_reckon : MethodName := ⟨RX7, "reckon", "(IIIJ)J"⟩
abbrev cX7_refusal : ByteArray := prog_9_method_34_code
def yX7_refusal : MethodName := ⟨RX7, "refusal", "(IIJ)I"⟩
abbrev cX7_price : ByteArray := prog_9_method_35_code
def yX7_price : MethodName := ⟨RX7, "price", "(IIJ)J"⟩
abbrev cX7_least : ByteArray := prog_9_method_36_code
def yX7_least : MethodName := ⟨RX7, "least", "(IIJ)I"⟩
abbrev cX7_explain : ByteArray := prog_9_method_37_code
def yX7_explain : MethodName := ⟨RX7, "explain", "(II)I"⟩
abbrev cX7_dimensional : ByteArray := prog_9_method_38_code
def yX7_dimensional : MethodName := ⟨RX7, "dimensional", "(JJ)J"⟩
abbrev cX7_put : ByteArray := prog_9_method_39_code
def yX7_put : MethodName := ⟨RX7, "put", "(I)V"⟩
abbrev cX7_putNumber : ByteArray := prog_9_method_40_code
def yX7_putNumber : MethodName := ⟨RX7, "putNumber", "(I)V"⟩
abbrev cX7_putRow : ByteArray := prog_9_method_41_code
def yX7_putRow : MethodName := ⟨RX7, "putRow", "(IIIII)V"⟩
abbrev cX7_putEach : ByteArray := prog_9_method_42_code
def yX7_putEach : MethodName := ⟨RX7, "putEach", "(III)V"⟩
abbrev cX7_putOnly : ByteArray := prog_9_method_43_code
def yX7_putOnly : MethodName := ⟨RX7, "putOnly", "(IIII)V"⟩
abbrev cX7_putKind : ByteArray := prog_9_method_44_code
def yX7_putKind : MethodName := ⟨RX7, "putKind", "(II)Z"⟩
abbrev cX7_compare : ByteArray := prog_9_method_45_code
def yX7_compare : MethodName := ⟨RX7, "compare", "(I)I"⟩
abbrev cX7_print : ByteArray := prog_9_method_46_code
def yX7_print : MethodName := ⟨RX7, "print", "()I"⟩
abbrev cX7_at : ByteArray := prog_9_method_47_code
def yX7_at : MethodName := ⟨RX7, "at", "(I)I"⟩
def RJ6 : String := "java/lang/Integer"
def TJ6 : u_T := fun k => match k with
  | _ => ("", "", "", false)
def tyJ6 : Nat → FieldType := fun k => match k with
  | _ => .int
abbrev cJ6_bitCount_0f7a4 : ByteArray := prog_12_method_49_code
def yJ6_bitCount_0f7a4 : MethodName := ⟨RJ6, "bitCount", "(I)I"⟩
def RJ9 : String := "java/lang/Math"
def TJ9 : u_T := fun k => match k with
  | _ => ("", "", "", false)
def tyJ9 : Nat → FieldType := fun k => match k with
  | _ => .int
abbrev cJ9_max_f86c9 : ByteArray := prog_13_method_66_code
def yJ9_max_f86c9 : MethodName := ⟨RJ9, "max", "(JJ)J"⟩
def RJ0 : String := "java/lang/String"
def TJ0 : u_T := fun k => match k with
  | 0 => ("java/lang/String", "value", "[B", true)
  | _ => ("java/lang/String", "coder", "B", true)
def tyJ0 : Nat → FieldType := fun k => match k with
  | 0 => .array .byte
  | _ => .byte
def RL : String := "PostTariffLaw"
abbrev cL_dimensional : ByteArray := method_3_code
def yL_dimensional : MethodName := ⟨RL, "dimensional", "(LPostTariff;JJ[J)I"⟩
abbrev cL_law : ByteArray := code
def yL_law : MethodName := ⟨RL, "law", "([I)Z"⟩
