section
-- ===== PART A: goes FIRST, ahead of the names: the tables' words, and 'selects' of the private methods out of them =====
/-- a private method of a class that the tables say can be made, by its rows of tables_1 -/
def lw_okq (q : MethodName × Nat) : Prop := (q.1.cls ≠ "java/lang/invoke/MethodHandle" ∧ q.1.cls ≠ "java/lang/invoke/VarHandle") ∧ Cond.instantiable q.1.cls q.2 ∈ tables_1 ∧ Cond.privateMethod q.1 ∈ tables_1 ∧ Cond.instanceMethod q.1 ∈ tables_1
theorem lw_p0 : lw_okq (⟨"PostTariff", "slot", "(I)LPostTariff$Edition;"⟩, 8) := ⟨⟨by decide +kernel, by decide +kernel⟩, List.mem_of_getElem? (i := 17) (by decide +kernel), List.mem_of_getElem? (i := 231) (by decide +kernel), List.mem_of_getElem? (i := 232) (by decide +kernel)⟩
theorem lw_p1 : lw_okq (⟨"PostTariff$Reader", "readRow", "()V"⟩, 7) := ⟨⟨by decide +kernel, by decide +kernel⟩, List.mem_of_getElem? (i := 25) (by decide +kernel), List.mem_of_getElem? (i := 251) (by decide +kernel), List.mem_of_getElem? (i := 252) (by decide +kernel)⟩
theorem lw_p2 : lw_okq (⟨"PostTariff$Reader", "signHere", "()I"⟩, 7) := ⟨⟨by decide +kernel, by decide +kernel⟩, List.mem_of_getElem? (i := 25) (by decide +kernel), List.mem_of_getElem? (i := 255) (by decide +kernel), List.mem_of_getElem? (i := 256) (by decide +kernel)⟩
theorem lw_p3 : lw_okq (⟨"PostTariff$Reader", "mayBegin", "(I)Z"⟩, 7) := ⟨⟨by decide +kernel, by decide +kernel⟩, List.mem_of_getElem? (i := 25) (by decide +kernel), List.mem_of_getElem? (i := 262) (by decide +kernel), List.mem_of_getElem? (i := 263) (by decide +kernel)⟩
theorem lw_p4 : lw_okq (⟨"PostTariff$Reader", "expect", "(I)V"⟩, 7) := ⟨⟨by decide +kernel, by decide +kernel⟩, List.mem_of_getElem? (i := 25) (by decide +kernel), List.mem_of_getElem? (i := 269) (by decide +kernel), List.mem_of_getElem? (i := 270) (by decide +kernel)⟩
theorem lw_p5 : lw_okq (⟨"PostTariff$Reader", "readNumber", "(II)V"⟩, 7) := ⟨⟨by decide +kernel, by decide +kernel⟩, List.mem_of_getElem? (i := 25) (by decide +kernel), List.mem_of_getElem? (i := 273) (by decide +kernel), List.mem_of_getElem? (i := 274) (by decide +kernel)⟩
theorem lw_p6 : lw_okq (⟨"PostTariff$Reader", "isAsSaid", "(III)Z"⟩, 7) := ⟨⟨by decide +kernel, by decide +kernel⟩, List.mem_of_getElem? (i := 25) (by decide +kernel), List.mem_of_getElem? (i := 278) (by decide +kernel), List.mem_of_getElem? (i := 279) (by decide +kernel)⟩
theorem lw_p7 : lw_okq (⟨"PostTariff$Reader", "isExcludable", "(II)Z"⟩, 7) := ⟨⟨by decide +kernel, by decide +kernel⟩, List.mem_of_getElem? (i := 25) (by decide +kernel), List.mem_of_getElem? (i := 297) (by decide +kernel), List.mem_of_getElem? (i := 298) (by decide +kernel)⟩
theorem lw_p8 : lw_okq (⟨"PostTariff$Reader", "take", "(I)V"⟩, 7) := ⟨⟨by decide +kernel, by decide +kernel⟩, List.mem_of_getElem? (i := 25) (by decide +kernel), List.mem_of_getElem? (i := 305) (by decide +kernel), List.mem_of_getElem? (i := 306) (by decide +kernel)⟩
theorem lw_p9 : lw_okq (⟨"PostTariff$Reader", "begin", "(I)V"⟩, 7) := ⟨⟨by decide +kernel, by decide +kernel⟩, List.mem_of_getElem? (i := 25) (by decide +kernel), List.mem_of_getElem? (i := 309) (by decide +kernel), List.mem_of_getElem? (i := 310) (by decide +kernel)⟩
theorem lw_p10 : lw_okq (⟨"PostTariff$Reader", "takeOf", "(LPostTariff$Kind;III)V"⟩, 7) := ⟨⟨by decide +kernel, by decide +kernel⟩, List.mem_of_getElem? (i := 25) (by decide +kernel), List.mem_of_getElem? (i := 314) (by decide +kernel), List.mem_of_getElem? (i := 315) (by decide +kernel)⟩
theorem lw_p11 : lw_okq (⟨"PostTariff", "itemOf", "(I)LPostTariff$Item;"⟩, 8) := ⟨⟨by decide +kernel, by decide +kernel⟩, List.mem_of_getElem? (i := 17) (by decide +kernel), List.mem_of_getElem? (i := 376) (by decide +kernel), List.mem_of_getElem? (i := 377) (by decide +kernel)⟩
theorem lw_p12 : lw_okq (⟨"PostTariff", "pricingRefusal", "(IJ)I"⟩, 8) := ⟨⟨by decide +kernel, by decide +kernel⟩, List.mem_of_getElem? (i := 17) (by decide +kernel), List.mem_of_getElem? (i := 392) (by decide +kernel), List.mem_of_getElem? (i := 393) (by decide +kernel)⟩
theorem lw_p13 : lw_okq (⟨"PostTariff", "latest", "()LPostTariff$Edition;"⟩, 8) := ⟨⟨by decide +kernel, by decide +kernel⟩, List.mem_of_getElem? (i := 17) (by decide +kernel), List.mem_of_getElem? (i := 397) (by decide +kernel), List.mem_of_getElem? (i := 398) (by decide +kernel)⟩
theorem lw_p14 : lw_okq (⟨"PostTariff$Bill", "addParts", "(LPostTariff$Item;LPostTariff$Kind;II)V"⟩, 5) := ⟨⟨by decide +kernel, by decide +kernel⟩, List.mem_of_getElem? (i := 69) (by decide +kernel), List.mem_of_getElem? (i := 433) (by decide +kernel), List.mem_of_getElem? (i := 434) (by decide +kernel)⟩
theorem lw_p15 : lw_okq (⟨"PostTariff$Bill", "add", "(IJI)V"⟩, 5) := ⟨⟨by decide +kernel, by decide +kernel⟩, List.mem_of_getElem? (i := 69) (by decide +kernel), List.mem_of_getElem? (i := 438) (by decide +kernel), List.mem_of_getElem? (i := 439) (by decide +kernel)⟩
def lw_privs_1 : List (MethodName × Nat) := [(⟨"PostTariff", "slot", "(I)LPostTariff$Edition;"⟩, 8), (⟨"PostTariff$Reader", "readRow", "()V"⟩, 7), (⟨"PostTariff$Reader", "signHere", "()I"⟩, 7), (⟨"PostTariff$Reader", "mayBegin", "(I)Z"⟩, 7), (⟨"PostTariff$Reader", "expect", "(I)V"⟩, 7), (⟨"PostTariff$Reader", "readNumber", "(II)V"⟩, 7), (⟨"PostTariff$Reader", "isAsSaid", "(III)Z"⟩, 7), (⟨"PostTariff$Reader", "isExcludable", "(II)Z"⟩, 7), (⟨"PostTariff$Reader", "take", "(I)V"⟩, 7), (⟨"PostTariff$Reader", "begin", "(I)V"⟩, 7), (⟨"PostTariff$Reader", "takeOf", "(LPostTariff$Kind;III)V"⟩, 7), (⟨"PostTariff", "itemOf", "(I)LPostTariff$Item;"⟩, 8), (⟨"PostTariff", "pricingRefusal", "(IJ)I"⟩, 8), (⟨"PostTariff", "latest", "()LPostTariff$Edition;"⟩, 8), (⟨"PostTariff$Bill", "addParts", "(LPostTariff$Item;LPostTariff$Kind;II)V"⟩, 5), (⟨"PostTariff$Bill", "add", "(IJI)V"⟩, 5)]
theorem lw_r1 : ∀ q ∈ lw_privs_1, lw_okq q := List.forall_mem_cons.mpr ⟨lw_p0, List.forall_mem_cons.mpr ⟨lw_p1, List.forall_mem_cons.mpr ⟨lw_p2, List.forall_mem_cons.mpr ⟨lw_p3, List.forall_mem_cons.mpr ⟨lw_p4, List.forall_mem_cons.mpr ⟨lw_p5, List.forall_mem_cons.mpr ⟨lw_p6, List.forall_mem_cons.mpr ⟨lw_p7, List.forall_mem_cons.mpr ⟨lw_p8, List.forall_mem_cons.mpr ⟨lw_p9, List.forall_mem_cons.mpr ⟨lw_p10, List.forall_mem_cons.mpr ⟨lw_p11, List.forall_mem_cons.mpr ⟨lw_p12, List.forall_mem_cons.mpr ⟨lw_p13, List.forall_mem_cons.mpr ⟨lw_p14, List.forall_mem_cons.mpr ⟨lw_p15, fun _ h => absurd h List.not_mem_nil⟩⟩⟩⟩⟩⟩⟩⟩⟩⟩⟩⟩⟩⟩⟩⟩
theorem lw_p16 : lw_okq (⟨"PostTariff$Printer", "addRow", "(IIII)V"⟩, 2) := ⟨⟨by decide +kernel, by decide +kernel⟩, List.mem_of_getElem? (i := 54) (by decide +kernel), List.mem_of_getElem? (i := 490) (by decide +kernel), List.mem_of_getElem? (i := 491) (by decide +kernel)⟩
theorem lw_p17 : lw_okq (⟨"PostTariff$Printer", "addSign", "(I)V"⟩, 2) := ⟨⟨by decide +kernel, by decide +kernel⟩, List.mem_of_getElem? (i := 54) (by decide +kernel), List.mem_of_getElem? (i := 494) (by decide +kernel), List.mem_of_getElem? (i := 495) (by decide +kernel)⟩
theorem lw_p18 : lw_okq (⟨"PostTariff$Printer", "addNumber", "(I)V"⟩, 2) := ⟨⟨by decide +kernel, by decide +kernel⟩, List.mem_of_getElem? (i := 54) (by decide +kernel), List.mem_of_getElem? (i := 499) (by decide +kernel), List.mem_of_getElem? (i := 500) (by decide +kernel)⟩
theorem lw_p19 : lw_okq (⟨"PostTariff$Printer", "addNamed", "(I[I)V"⟩, 2) := ⟨⟨by decide +kernel, by decide +kernel⟩, List.mem_of_getElem? (i := 54) (by decide +kernel), List.mem_of_getElem? (i := 504) (by decide +kernel), List.mem_of_getElem? (i := 505) (by decide +kernel)⟩
theorem lw_p20 : lw_okq (⟨"PostTariff$Printer", "addExclusions", "(LPostTariff$Kind;)V"⟩, 2) := ⟨⟨by decide +kernel, by decide +kernel⟩, List.mem_of_getElem? (i := 54) (by decide +kernel), List.mem_of_getElem? (i := 508) (by decide +kernel), List.mem_of_getElem? (i := 509) (by decide +kernel)⟩
theorem lw_p21 : lw_okq (⟨"PostTariff$Printer", "addLimits", "(LPostTariff$Kind;)V"⟩, 2) := ⟨⟨by decide +kernel, by decide +kernel⟩, List.mem_of_getElem? (i := 54) (by decide +kernel), List.mem_of_getElem? (i := 513) (by decide +kernel), List.mem_of_getElem? (i := 514) (by decide +kernel)⟩
theorem lw_p22 : lw_okq (⟨"java/lang/Throwable", "fillInStackTrace", "(I)Ljava/lang/Throwable;"⟩, 6) := ⟨⟨by decide +kernel, by decide +kernel⟩, List.mem_of_getElem? (i := 550) (by decide +kernel), List.mem_of_getElem? (i := 548) (by decide +kernel), List.mem_of_getElem? (i := 549) (by decide +kernel)⟩
theorem lw_p23 : lw_okq (⟨"PostTariffModel", "readRow", "()V"⟩, 31) := ⟨⟨by decide +kernel, by decide +kernel⟩, List.mem_of_getElem? (i := 604) (by decide +kernel), List.mem_of_getElem? (i := 718) (by decide +kernel), List.mem_of_getElem? (i := 719) (by decide +kernel)⟩
theorem lw_p24 : lw_okq (⟨"PostTariffModel", "look", "()I"⟩, 31) := ⟨⟨by decide +kernel, by decide +kernel⟩, List.mem_of_getElem? (i := 604) (by decide +kernel), List.mem_of_getElem? (i := 722) (by decide +kernel), List.mem_of_getElem? (i := 723) (by decide +kernel)⟩
theorem lw_p25 : lw_okq (⟨"PostTariffModel", "must", "(ZI)Z"⟩, 31) := ⟨⟨by decide +kernel, by decide +kernel⟩, List.mem_of_getElem? (i := 604) (by decide +kernel), List.mem_of_getElem? (i := 726) (by decide +kernel), List.mem_of_getElem? (i := 727) (by decide +kernel)⟩
theorem lw_p26 : lw_okq (⟨"PostTariffModel", "readKind", "(I)V"⟩, 31) := ⟨⟨by decide +kernel, by decide +kernel⟩, List.mem_of_getElem? (i := 604) (by decide +kernel), List.mem_of_getElem? (i := 730) (by decide +kernel), List.mem_of_getElem? (i := 731) (by decide +kernel)⟩
theorem lw_p27 : lw_okq (⟨"PostTariffModel", "count", "(I)I"⟩, 31) := ⟨⟨by decide +kernel, by decide +kernel⟩, List.mem_of_getElem? (i := 604) (by decide +kernel), List.mem_of_getElem? (i := 734) (by decide +kernel), List.mem_of_getElem? (i := 735) (by decide +kernel)⟩
theorem lw_p28 : lw_okq (⟨"PostTariffModel", "lastRow", "()I"⟩, 31) := ⟨⟨by decide +kernel, by decide +kernel⟩, List.mem_of_getElem? (i := 604) (by decide +kernel), List.mem_of_getElem? (i := 738) (by decide +kernel), List.mem_of_getElem? (i := 739) (by decide +kernel)⟩
theorem lw_p29 : lw_okq (⟨"PostTariffModel", "base", "()I"⟩, 31) := ⟨⟨by decide +kernel, by decide +kernel⟩, List.mem_of_getElem? (i := 604) (by decide +kernel), List.mem_of_getElem? (i := 742) (by decide +kernel), List.mem_of_getElem? (i := 743) (by decide +kernel)⟩
theorem lw_p30 : lw_okq (⟨"PostTariffModel", "number", "(II)I"⟩, 31) := ⟨⟨by decide +kernel, by decide +kernel⟩, List.mem_of_getElem? (i := 604) (by decide +kernel), List.mem_of_getElem? (i := 746) (by decide +kernel), List.mem_of_getElem? (i := 747) (by decide +kernel)⟩
theorem lw_p31 : lw_okq (⟨"PostTariffModel", "isDigit", "()Z"⟩, 31) := ⟨⟨by decide +kernel, by decide +kernel⟩, List.mem_of_getElem? (i := 604) (by decide +kernel), List.mem_of_getElem? (i := 750) (by decide +kernel), List.mem_of_getElem? (i := 751) (by decide +kernel)⟩
def lw_privs_2 : List (MethodName × Nat) := [(⟨"PostTariff$Printer", "addRow", "(IIII)V"⟩, 2), (⟨"PostTariff$Printer", "addSign", "(I)V"⟩, 2), (⟨"PostTariff$Printer", "addNumber", "(I)V"⟩, 2), (⟨"PostTariff$Printer", "addNamed", "(I[I)V"⟩, 2), (⟨"PostTariff$Printer", "addExclusions", "(LPostTariff$Kind;)V"⟩, 2), (⟨"PostTariff$Printer", "addLimits", "(LPostTariff$Kind;)V"⟩, 2), (⟨"java/lang/Throwable", "fillInStackTrace", "(I)Ljava/lang/Throwable;"⟩, 6), (⟨"PostTariffModel", "readRow", "()V"⟩, 31), (⟨"PostTariffModel", "look", "()I"⟩, 31), (⟨"PostTariffModel", "must", "(ZI)Z"⟩, 31), (⟨"PostTariffModel", "readKind", "(I)V"⟩, 31), (⟨"PostTariffModel", "count", "(I)I"⟩, 31), (⟨"PostTariffModel", "lastRow", "()I"⟩, 31), (⟨"PostTariffModel", "base", "()I"⟩, 31), (⟨"PostTariffModel", "number", "(II)I"⟩, 31), (⟨"PostTariffModel", "isDigit", "()Z"⟩, 31)]
theorem lw_r2 : ∀ q ∈ lw_privs_2, lw_okq q := List.forall_mem_cons.mpr ⟨lw_p16, List.forall_mem_cons.mpr ⟨lw_p17, List.forall_mem_cons.mpr ⟨lw_p18, List.forall_mem_cons.mpr ⟨lw_p19, List.forall_mem_cons.mpr ⟨lw_p20, List.forall_mem_cons.mpr ⟨lw_p21, List.forall_mem_cons.mpr ⟨lw_p22, List.forall_mem_cons.mpr ⟨lw_p23, List.forall_mem_cons.mpr ⟨lw_p24, List.forall_mem_cons.mpr ⟨lw_p25, List.forall_mem_cons.mpr ⟨lw_p26, List.forall_mem_cons.mpr ⟨lw_p27, List.forall_mem_cons.mpr ⟨lw_p28, List.forall_mem_cons.mpr ⟨lw_p29, List.forall_mem_cons.mpr ⟨lw_p30, List.forall_mem_cons.mpr ⟨lw_p31, fun _ h => absurd h List.not_mem_nil⟩⟩⟩⟩⟩⟩⟩⟩⟩⟩⟩⟩⟩⟩⟩⟩
theorem lw_p32 : lw_okq (⟨"PostTariffModel", "add", "(IIII)V"⟩, 31) := ⟨⟨by decide +kernel, by decide +kernel⟩, List.mem_of_getElem? (i := 604) (by decide +kernel), List.mem_of_getElem? (i := 754) (by decide +kernel), List.mem_of_getElem? (i := 755) (by decide +kernel)⟩
theorem lw_p33 : lw_okq (⟨"PostTariffModel", "readStep", "(I)V"⟩, 31) := ⟨⟨by decide +kernel, by decide +kernel⟩, List.mem_of_getElem? (i := 604) (by decide +kernel), List.mem_of_getElem? (i := 758) (by decide +kernel), List.mem_of_getElem? (i := 759) (by decide +kernel)⟩
theorem lw_p34 : lw_okq (⟨"PostTariffModel", "lastWeight", "()I"⟩, 31) := ⟨⟨by decide +kernel, by decide +kernel⟩, List.mem_of_getElem? (i := 604) (by decide +kernel), List.mem_of_getElem? (i := 762) (by decide +kernel), List.mem_of_getElem? (i := 763) (by decide +kernel)⟩
theorem lw_p35 : lw_okq (⟨"PostTariffModel", "next", "(II)I"⟩, 31) := ⟨⟨by decide +kernel, by decide +kernel⟩, List.mem_of_getElem? (i := 604) (by decide +kernel), List.mem_of_getElem? (i := 767) (by decide +kernel), List.mem_of_getElem? (i := 768) (by decide +kernel)⟩
theorem lw_p36 : lw_okq (⟨"PostTariffModel", "readOnceEach", "(II)V"⟩, 31) := ⟨⟨by decide +kernel, by decide +kernel⟩, List.mem_of_getElem? (i := 604) (by decide +kernel), List.mem_of_getElem? (i := 771) (by decide +kernel), List.mem_of_getElem? (i := 772) (by decide +kernel)⟩
theorem lw_p37 : lw_okq (⟨"PostTariffModel", "isThere", "(II)Z"⟩, 31) := ⟨⟨by decide +kernel, by decide +kernel⟩, List.mem_of_getElem? (i := 604) (by decide +kernel), List.mem_of_getElem? (i := 775) (by decide +kernel), List.mem_of_getElem? (i := 776) (by decide +kernel)⟩
theorem lw_p38 : lw_okq (⟨"PostTariffModel", "readApart", "(I)V"⟩, 31) := ⟨⟨by decide +kernel, by decide +kernel⟩, List.mem_of_getElem? (i := 604) (by decide +kernel), List.mem_of_getElem? (i := 779) (by decide +kernel), List.mem_of_getElem? (i := 780) (by decide +kernel)⟩
theorem lw_p39 : lw_okq (⟨"PostTariffModel", "areApart", "(II)Z"⟩, 31) := ⟨⟨by decide +kernel, by decide +kernel⟩, List.mem_of_getElem? (i := 604) (by decide +kernel), List.mem_of_getElem? (i := 783) (by decide +kernel), List.mem_of_getElem? (i := 784) (by decide +kernel)⟩
theorem lw_p40 : lw_okq (⟨"PostTariffModel", "readOnce", "(II)V"⟩, 31) := ⟨⟨by decide +kernel, by decide +kernel⟩, List.mem_of_getElem? (i := 604) (by decide +kernel), List.mem_of_getElem? (i := 787) (by decide +kernel), List.mem_of_getElem? (i := 788) (by decide +kernel)⟩
theorem lw_p41 : lw_okq (⟨"PostTariffModel", "refusal", "(IIJ)I"⟩, 31) := ⟨⟨by decide +kernel, by decide +kernel⟩, List.mem_of_getElem? (i := 604) (by decide +kernel), List.mem_of_getElem? (i := 811) (by decide +kernel), List.mem_of_getElem? (i := 812) (by decide +kernel)⟩
theorem lw_p42 : lw_okq (⟨"PostTariffModel", "reckon", "(IIIJ)J"⟩, 31) := ⟨⟨by decide +kernel, by decide +kernel⟩, List.mem_of_getElem? (i := 604) (by decide +kernel), List.mem_of_getElem? (i := 817) (by decide +kernel), List.mem_of_getElem? (i := 818) (by decide +kernel)⟩
theorem lw_p43 : lw_okq (⟨"PostTariffModel", "kindRow", "(II)I"⟩, 31) := ⟨⟨by decide +kernel, by decide +kernel⟩, List.mem_of_getElem? (i := 604) (by decide +kernel), List.mem_of_getElem? (i := 821) (by decide +kernel), List.mem_of_getElem? (i := 822) (by decide +kernel)⟩
theorem lw_p44 : lw_okq (⟨"PostTariffModel", "kindEnd", "(II)I"⟩, 31) := ⟨⟨by decide +kernel, by decide +kernel⟩, List.mem_of_getElem? (i := 604) (by decide +kernel), List.mem_of_getElem? (i := 826) (by decide +kernel), List.mem_of_getElem? (i := 827) (by decide +kernel)⟩
theorem lw_p45 : lw_okq (⟨"PostTariffModel", "mayGo", "(IIIIJ)Z"⟩, 31) := ⟨⟨by decide +kernel, by decide +kernel⟩, List.mem_of_getElem? (i := 604) (by decide +kernel), List.mem_of_getElem? (i := 830) (by decide +kernel), List.mem_of_getElem? (i := 831) (by decide +kernel)⟩
theorem lw_p46 : lw_okq (⟨"PostTariffModel", "onlyRow", "(III)I"⟩, 31) := ⟨⟨by decide +kernel, by decide +kernel⟩, List.mem_of_getElem? (i := 604) (by decide +kernel), List.mem_of_getElem? (i := 834) (by decide +kernel), List.mem_of_getElem? (i := 835) (by decide +kernel)⟩
theorem lw_p47 : lw_okq (⟨"PostTariffModel", "rowOf", "(IIII)I"⟩, 31) := ⟨⟨by decide +kernel, by decide +kernel⟩, List.mem_of_getElem? (i := 604) (by decide +kernel), List.mem_of_getElem? (i := 838) (by decide +kernel), List.mem_of_getElem? (i := 839) (by decide +kernel)⟩
def lw_privs_3 : List (MethodName × Nat) := [(⟨"PostTariffModel", "add", "(IIII)V"⟩, 31), (⟨"PostTariffModel", "readStep", "(I)V"⟩, 31), (⟨"PostTariffModel", "lastWeight", "()I"⟩, 31), (⟨"PostTariffModel", "next", "(II)I"⟩, 31), (⟨"PostTariffModel", "readOnceEach", "(II)V"⟩, 31), (⟨"PostTariffModel", "isThere", "(II)Z"⟩, 31), (⟨"PostTariffModel", "readApart", "(I)V"⟩, 31), (⟨"PostTariffModel", "areApart", "(II)Z"⟩, 31), (⟨"PostTariffModel", "readOnce", "(II)V"⟩, 31), (⟨"PostTariffModel", "refusal", "(IIJ)I"⟩, 31), (⟨"PostTariffModel", "reckon", "(IIIJ)J"⟩, 31), (⟨"PostTariffModel", "kindRow", "(II)I"⟩, 31), (⟨"PostTariffModel", "kindEnd", "(II)I"⟩, 31), (⟨"PostTariffModel", "mayGo", "(IIIIJ)Z"⟩, 31), (⟨"PostTariffModel", "onlyRow", "(III)I"⟩, 31), (⟨"PostTariffModel", "rowOf", "(IIII)I"⟩, 31)]
theorem lw_r3 : ∀ q ∈ lw_privs_3, lw_okq q := List.forall_mem_cons.mpr ⟨lw_p32, List.forall_mem_cons.mpr ⟨lw_p33, List.forall_mem_cons.mpr ⟨lw_p34, List.forall_mem_cons.mpr ⟨lw_p35, List.forall_mem_cons.mpr ⟨lw_p36, List.forall_mem_cons.mpr ⟨lw_p37, List.forall_mem_cons.mpr ⟨lw_p38, List.forall_mem_cons.mpr ⟨lw_p39, List.forall_mem_cons.mpr ⟨lw_p40, List.forall_mem_cons.mpr ⟨lw_p41, List.forall_mem_cons.mpr ⟨lw_p42, List.forall_mem_cons.mpr ⟨lw_p43, List.forall_mem_cons.mpr ⟨lw_p44, List.forall_mem_cons.mpr ⟨lw_p45, List.forall_mem_cons.mpr ⟨lw_p46, List.forall_mem_cons.mpr ⟨lw_p47, fun _ h => absurd h List.not_mem_nil⟩⟩⟩⟩⟩⟩⟩⟩⟩⟩⟩⟩⟩⟩⟩⟩
theorem lw_p48 : lw_okq (⟨"PostTariffModel", "mayServe", "(III)Z"⟩, 31) := ⟨⟨by decide +kernel, by decide +kernel⟩, List.mem_of_getElem? (i := 604) (by decide +kernel), List.mem_of_getElem? (i := 842) (by decide +kernel), List.mem_of_getElem? (i := 843) (by decide +kernel)⟩
theorem lw_p49 : lw_okq (⟨"PostTariffModel", "part", "(IJI)V"⟩, 31) := ⟨⟨by decide +kernel, by decide +kernel⟩, List.mem_of_getElem? (i := 604) (by decide +kernel), List.mem_of_getElem? (i := 846) (by decide +kernel), List.mem_of_getElem? (i := 847) (by decide +kernel)⟩
theorem lw_p50 : lw_okq (⟨"PostTariffModel", "putKind", "(II)Z"⟩, 31) := ⟨⟨by decide +kernel, by decide +kernel⟩, List.mem_of_getElem? (i := 604) (by decide +kernel), List.mem_of_getElem? (i := 869) (by decide +kernel), List.mem_of_getElem? (i := 870) (by decide +kernel)⟩
theorem lw_p51 : lw_okq (⟨"PostTariffModel", "put", "(I)V"⟩, 31) := ⟨⟨by decide +kernel, by decide +kernel⟩, List.mem_of_getElem? (i := 604) (by decide +kernel), List.mem_of_getElem? (i := 873) (by decide +kernel), List.mem_of_getElem? (i := 874) (by decide +kernel)⟩
theorem lw_p52 : lw_okq (⟨"PostTariffModel", "putNumber", "(I)V"⟩, 31) := ⟨⟨by decide +kernel, by decide +kernel⟩, List.mem_of_getElem? (i := 604) (by decide +kernel), List.mem_of_getElem? (i := 877) (by decide +kernel), List.mem_of_getElem? (i := 878) (by decide +kernel)⟩
theorem lw_p53 : lw_okq (⟨"PostTariffModel", "putRow", "(IIIII)V"⟩, 31) := ⟨⟨by decide +kernel, by decide +kernel⟩, List.mem_of_getElem? (i := 604) (by decide +kernel), List.mem_of_getElem? (i := 881) (by decide +kernel), List.mem_of_getElem? (i := 882) (by decide +kernel)⟩
theorem lw_p54 : lw_okq (⟨"PostTariffModel", "putEach", "(III)V"⟩, 31) := ⟨⟨by decide +kernel, by decide +kernel⟩, List.mem_of_getElem? (i := 604) (by decide +kernel), List.mem_of_getElem? (i := 885) (by decide +kernel), List.mem_of_getElem? (i := 886) (by decide +kernel)⟩
theorem lw_p55 : lw_okq (⟨"PostTariffModel", "putOnly", "(IIII)V"⟩, 31) := ⟨⟨by decide +kernel, by decide +kernel⟩, List.mem_of_getElem? (i := 604) (by decide +kernel), List.mem_of_getElem? (i := 889) (by decide +kernel), List.mem_of_getElem? (i := 890) (by decide +kernel)⟩
def lw_privs_4 : List (MethodName × Nat) := [(⟨"PostTariffModel", "mayServe", "(III)Z"⟩, 31), (⟨"PostTariffModel", "part", "(IJI)V"⟩, 31), (⟨"PostTariffModel", "putKind", "(II)Z"⟩, 31), (⟨"PostTariffModel", "put", "(I)V"⟩, 31), (⟨"PostTariffModel", "putNumber", "(I)V"⟩, 31), (⟨"PostTariffModel", "putRow", "(IIIII)V"⟩, 31), (⟨"PostTariffModel", "putEach", "(III)V"⟩, 31), (⟨"PostTariffModel", "putOnly", "(IIII)V"⟩, 31)]
theorem lw_r4 : ∀ q ∈ lw_privs_4, lw_okq q := List.forall_mem_cons.mpr ⟨lw_p48, List.forall_mem_cons.mpr ⟨lw_p49, List.forall_mem_cons.mpr ⟨lw_p50, List.forall_mem_cons.mpr ⟨lw_p51, List.forall_mem_cons.mpr ⟨lw_p52, List.forall_mem_cons.mpr ⟨lw_p53, List.forall_mem_cons.mpr ⟨lw_p54, List.forall_mem_cons.mpr ⟨lw_p55, fun _ h => absurd h List.not_mem_nil⟩⟩⟩⟩⟩⟩⟩⟩
def lw_privs : List (MethodName × Nat) := lw_privs_1 ++ (lw_privs_2 ++ (lw_privs_3 ++ (lw_privs_4)))
def lw_tbl : List Cond := k2_sels lw_privs ++ tables_1
theorem lw_privs_ok : ∀ q ∈ lw_privs, lw_okq q := by
  show ∀ q ∈ lw_privs_1 ++ (lw_privs_2 ++ (lw_privs_3 ++ (lw_privs_4))), lw_okq q
  exact List.forall_mem_append.mpr ⟨lw_r1, List.forall_mem_append.mpr ⟨lw_r2, List.forall_mem_append.mpr ⟨lw_r3, lw_r4⟩⟩⟩
def RX0 : String := "PostTariff$Bill"
def TX0 : u_T := fun k => match k with
  | 0 => ("PostTariff$Bill", "sorts", "[I", true)
  | 1 => ("PostTariff$Bill", "sums", "[I", true)
  | 2 => ("PostTariff$Bill", "numbers", "[I", true)
  | 3 => ("PostTariff$Bill", "parts", "I", false)
  | _ => ("PostTariff$Bill", "total", "J", false)
def tyX0 : Nat → FieldType := fun k => match k with
  | 0 => .array .int
  | 1 => .array .int
  | 2 => .array .int
  | 3 => .int
  | _ => .long
abbrev wsX00 : List Cond := u_ws RX0 TX0 5
theorem nmX0 : ∀ a, a < 5 → ∀ b, b < 5 → a ≠ b → (TX0 a).2.1 ≠ (TX0 b).2.1 := by decide +kernel
theorem tyX0_ok : ∀ k, k < 5 → parseFieldDescriptor (TX0 k).2.2.1 = some (tyX0 k) := by decide +kernel
abbrev cX0_init : ByteArray := prog_2_method_1_code
def yX0_init : MethodName := ⟨RX0, "<init>", "()V"⟩
abbrev cX0_make : ByteArray := prog_2_method_2_code
def yX0_make : MethodName := ⟨RX0, "make", "(LPostTariff$Item;LPostTariff$Kind;IJ)V"⟩
abbrev cX0_addParts : ByteArray := prog_2_method_3_code
def yX0_addParts : MethodName := ⟨RX0, "addParts", "(LPostTariff$Item;LPostTariff$Kind;II)V"⟩
abbrev cX0_add : ByteArray := prog_2_method_4_code
def yX0_add : MethodName := ⟨RX0, "add", "(IJI)V"⟩
abbrev cX0_tell : ByteArray := prog_2_method_5_code
def yX0_tell : MethodName := ⟨RX0, "tell", "(II)I"⟩
def RX1 : String := "PostTariff$Edition"
def TX1 : u_T := fun k => match k with
  | _ => ("PostTariff$Edition", "kinds", "[LPostTariff$Kind;", true)
def tyX1 : Nat → FieldType := fun k => match k with
  | _ => .array (.object "PostTariff$Kind")
abbrev wsX10 : List Cond := u_ws RX1 TX1 1
theorem nmX1 : ∀ a, a < 1 → ∀ b, b < 1 → a ≠ b → (TX1 a).2.1 ≠ (TX1 b).2.1 := by decide +kernel
theorem tyX1_ok : ∀ k, k < 1 → parseFieldDescriptor (TX1 k).2.2.1 = some (tyX1 k) := by decide +kernel
abbrev cX1_init : ByteArray := prog_3_method_1_code
def yX1_init : MethodName := ⟨RX1, "<init>", "()V"⟩
abbrev cX1_place : ByteArray := prog_3_method_2_code
def yX1_place : MethodName := ⟨RX1, "place", "(I)LPostTariff$Kind;"⟩
abbrev cX1_clear : ByteArray := prog_3_method_3_code
def yX1_clear : MethodName := ⟨RX1, "clear", "()V"⟩
def RX2 : String := "PostTariff$Item"
def TX2 : u_T := fun k => match k with
  | 0 => ("PostTariff$Item", "kind", "I", true)
  | 1 => ("PostTariff$Item", "weight", "I", true)
  | 2 => ("PostTariff$Item", "width", "I", true)
  | 3 => ("PostTariff$Item", "height", "I", true)
  | 4 => ("PostTariff$Item", "depth", "I", true)
  | _ => ("PostTariff$Item", "services", "I", false)
def tyX2 : Nat → FieldType := fun k => match k with
  | 0 => .int
  | 1 => .int
  | 2 => .int
  | 3 => .int
  | 4 => .int
  | _ => .int
abbrev wsX20 : List Cond := u_ws RX2 TX2 6
theorem nmX2 : ∀ a, a < 6 → ∀ b, b < 6 → a ≠ b → (TX2 a).2.1 ≠ (TX2 b).2.1 := by decide +kernel
theorem tyX2_ok : ∀ k, k < 6 → parseFieldDescriptor (TX2 k).2.2.1 = some (tyX2 k) := by decide +kernel
abbrev cX2_init : ByteArray := prog_4_method_1_code
def yX2_init : MethodName := ⟨RX2, "<init>", "(IIIII)V"⟩
abbrev cX2_has : ByteArray := prog_4_method_2_code
def yX2_has : MethodName := ⟨RX2, "has", "(I)Z"⟩
def RX3 : String := "PostTariff$Kind"
def TX3 : u_T := fun k => match k with
  | 0 => ("PostTariff$Kind", "there", "Z", false)
  | 1 => ("PostTariff$Kind", "steps", "I", false)
  | 2 => ("PostTariff$Kind", "weights", "[I", true)
  | 3 => ("PostTariff$Kind", "costs", "[I", true)
  | 4 => ("PostTariff$Kind", "zones", "[I", true)
  | 5 => ("PostTariff$Kind", "services", "[I", true)
  | 6 => ("PostTariff$Kind", "excluded", "[I", true)
  | 7 => ("PostTariff$Kind", "exclusions", "I", false)
  | 8 => ("PostTariff$Kind", "width", "I", false)
  | 9 => ("PostTariff$Kind", "height", "I", false)
  | 10 => ("PostTariff$Kind", "depth", "I", false)
  | 11 => ("PostTariff$Kind", "divisor", "I", false)
  | 12 => ("PostTariff$Kind", "firstDay", "I", false)
  | 13 => ("PostTariff$Kind", "lastDay", "I", false)
  | _ => ("PostTariff$Kind", "whole", "I", false)
def tyX3 : Nat → FieldType := fun k => match k with
  | 0 => .boolean
  | 1 => .int
  | 2 => .array .int
  | 3 => .array .int
  | 4 => .array .int
  | 5 => .array .int
  | 6 => .array .int
  | 7 => .int
  | 8 => .int
  | 9 => .int
  | 10 => .int
  | 11 => .int
  | 12 => .int
  | 13 => .int
  | _ => .int
abbrev wsX30 : List Cond := u_ws RX3 TX3 15
theorem nmX3 : ∀ a, a < 15 → ∀ b, b < 15 → a ≠ b → (TX3 a).2.1 ≠ (TX3 b).2.1 := by decide +kernel
theorem tyX3_ok : ∀ k, k < 15 → parseFieldDescriptor (TX3 k).2.2.1 = some (tyX3 k) := by decide +kernel
abbrev cX3_init : ByteArray := prog_5_method_1_code
def yX3_init : MethodName := ⟨RX3, "<init>", "()V"⟩
abbrev cX3_clear : ByteArray := prog_5_method_2_code
def yX3_clear : MethodName := ⟨RX3, "clear", "()V"⟩
abbrev cX3_addStep : ByteArray := prog_5_method_3_code
def yX3_addStep : MethodName := ⟨RX3, "addStep", "(II)V"⟩
abbrev cX3_exclude : ByteArray := prog_5_method_4_code
def yX3_exclude : MethodName := ⟨RX3, "exclude", "(II)V"⟩
abbrev cX3_excludes : ByteArray := prog_5_method_5_code
def yX3_excludes : MethodName := ⟨RX3, "excludes", "(II)Z"⟩
abbrev cX3_lastWeight : ByteArray := prog_5_method_6_code
def yX3_lastWeight : MethodName := ⟨RX3, "lastWeight", "()I"⟩
abbrev cX3_takes : ByteArray := prog_5_method_7_code
def yX3_takes : MethodName := ⟨RX3, "takes", "(LPostTariff$Item;IJ)Z"⟩
abbrev cX3_takesServices : ByteArray := prog_5_method_8_code
def yX3_takesServices : MethodName := ⟨RX3, "takesServices", "(LPostTariff$Item;)Z"⟩
abbrev cX3_weightOf : ByteArray := prog_5_method_9_code
def yX3_weightOf : MethodName := ⟨RX3, "weightOf", "(LPostTariff$Item;)J"⟩
abbrev cX3_stepFor : ByteArray := prog_5_method_10_code
def yX3_stepFor : MethodName := ⟨RX3, "stepFor", "(J)I"⟩
abbrev cX3_hasSameStepsAs : ByteArray := prog_5_method_11_code
def yX3_hasSameStepsAs : MethodName := ⟨RX3, "hasSameStepsAs", "(LPostTariff$Kind;)Z"⟩
abbrev cX3_hasSameNamesAs : ByteArray := prog_5_method_12_code
def yX3_hasSameNamesAs : MethodName := ⟨RX3, "hasSameNamesAs", "(LPostTariff$Kind;)Z"⟩
abbrev cX3_hasSameLimitsAs : ByteArray := prog_5_method_13_code
def yX3_hasSameLimitsAs : MethodName := ⟨RX3, "hasSameLimitsAs", "(LPostTariff$Kind;)Z"⟩
def RX4 : String := "PostTariff$Printer"
def TX4 : u_T := fun k => match k with
  | 0 => ("PostTariff$Printer", "signs", "[I", true)
  | _ => ("PostTariff$Printer", "length", "I", false)
def tyX4 : Nat → FieldType := fun k => match k with
  | 0 => .array .int
  | _ => .int
abbrev wsX40 : List Cond := u_ws RX4 TX4 2
theorem nmX4 : ∀ a, a < 2 → ∀ b, b < 2 → a ≠ b → (TX4 a).2.1 ≠ (TX4 b).2.1 := by decide +kernel
theorem tyX4_ok : ∀ k, k < 2 → parseFieldDescriptor (TX4 k).2.2.1 = some (tyX4 k) := by decide +kernel
abbrev cX4_init : ByteArray := prog_6_method_1_code
def yX4_init : MethodName := ⟨RX4, "<init>", "()V"⟩
abbrev cX4_start : ByteArray := prog_6_method_2_code
def yX4_start : MethodName := ⟨RX4, "start", "()V"⟩
abbrev cX4_addKind : ByteArray := prog_6_method_3_code
def yX4_addKind : MethodName := ⟨RX4, "addKind", "(ILPostTariff$Kind;)V"⟩
abbrev cX4_addNamed : ByteArray := prog_6_method_4_code
def yX4_addNamed : MethodName := ⟨RX4, "addNamed", "(I[I)V"⟩
abbrev cX4_addExclusions : ByteArray := prog_6_method_5_code
def yX4_addExclusions : MethodName := ⟨RX4, "addExclusions", "(LPostTariff$Kind;)V"⟩
abbrev cX4_addLimits : ByteArray := prog_6_method_6_code
def yX4_addLimits : MethodName := ⟨RX4, "addLimits", "(LPostTariff$Kind;)V"⟩
abbrev cX4_addRow : ByteArray := prog_6_method_7_code
def yX4_addRow : MethodName := ⟨RX4, "addRow", "(IIII)V"⟩
abbrev cX4_addNumber : ByteArray := prog_6_method_8_code
def yX4_addNumber : MethodName := ⟨RX4, "addNumber", "(I)V"⟩
abbrev cX4_addSign : ByteArray := prog_6_method_9_code
def yX4_addSign : MethodName := ⟨RX4, "addSign", "(I)V"⟩
def RX5 : String := "PostTariff$Reader"
def TX5 : u_T := fun k => match k with
  | 0 => ("PostTariff$Reader", "text", "[I", true)
  | 1 => ("PostTariff$Reader", "length", "I", false)
  | 2 => ("PostTariff$Reader", "position", "I", false)
  | 3 => ("PostTariff$Reader", "fault", "I", false)
  | 4 => ("PostTariff$Reader", "edition", "LPostTariff$Edition;", false)
  | 5 => ("PostTariff$Reader", "kind", "LPostTariff$Kind;", false)
  | _ => ("PostTariff$Reader", "numbers", "[I", true)
def tyX5 : Nat → FieldType := fun k => match k with
  | 0 => .array .int
  | 1 => .int
  | 2 => .int
  | 3 => .int
  | 4 => .object "PostTariff$Edition"
  | 5 => .object "PostTariff$Kind"
  | _ => .array .int
abbrev wsX50 : List Cond := u_ws RX5 TX5 7
theorem nmX5 : ∀ a, a < 7 → ∀ b, b < 7 → a ≠ b → (TX5 a).2.1 ≠ (TX5 b).2.1 := by decide +kernel
theorem tyX5_ok : ∀ k, k < 7 → parseFieldDescriptor (TX5 k).2.2.1 = some (tyX5 k) := by decide +kernel
abbrev cX5_init : ByteArray := prog_7_method_1_code
def yX5_init : MethodName := ⟨RX5, "<init>", "()V"⟩
abbrev cX5_append : ByteArray := prog_7_method_2_code
def yX5_append : MethodName := ⟨RX5, "append", "(I)V"⟩
abbrev cX5_empty : ByteArray := prog_7_method_3_code
def yX5_empty : MethodName := ⟨RX5, "empty", "()V"⟩
abbrev cX5_readInto : ByteArray := prog_7_method_4_code
def yX5_readInto : MethodName := ⟨RX5, "readInto", "(LPostTariff$Edition;)I"⟩
abbrev cX5_readRow : ByteArray := prog_7_method_5_code
def yX5_readRow : MethodName := ⟨RX5, "readRow", "()V"⟩
abbrev cX5_signHere : ByteArray := prog_7_method_6_code
def yX5_signHere : MethodName := ⟨RX5, "signHere", "()I"⟩
abbrev cX5_expect : ByteArray := prog_7_method_7_code
def yX5_expect : MethodName := ⟨RX5, "expect", "(I)V"⟩
abbrev cX5_readNumber : ByteArray := prog_7_method_8_code
def yX5_readNumber : MethodName := ⟨RX5, "readNumber", "(II)V"⟩
abbrev cX5_numbersOf : ByteArray := prog_7_method_9_code
def yX5_numbersOf : MethodName := ⟨RX5, "numbersOf", "(I)I"⟩
abbrev cX5_mayBegin : ByteArray := prog_7_method_10_code
def yX5_mayBegin : MethodName := ⟨RX5, "mayBegin", "(I)Z"⟩
abbrev cX5_isAsSaid : ByteArray := prog_7_method_11_code
def yX5_isAsSaid : MethodName := ⟨RX5, "isAsSaid", "(III)Z"⟩
abbrev cX5_isExcludable : ByteArray := prog_7_method_12_code
def yX5_isExcludable : MethodName := ⟨RX5, "isExcludable", "(II)Z"⟩
abbrev cX5_take : ByteArray := prog_7_method_13_code
def yX5_take : MethodName := ⟨RX5, "take", "(I)V"⟩
abbrev cX5_begin : ByteArray := prog_7_method_14_code
def yX5_begin : MethodName := ⟨RX5, "begin", "(I)V"⟩
abbrev cX5_takeOf : ByteArray := prog_7_method_15_code
def yX5_takeOf : MethodName := ⟨RX5, "takeOf", "(LPostTariff$Kind;III)V"⟩
def RX6 : String := "PostTariff"
def TX6 : u_T := fun k => match k with
  | 0 => ("PostTariff", "reader", "LPostTariff$Reader;", true)
  | 1 => ("PostTariff", "printer", "LPostTariff$Printer;", true)
  | 2 => ("PostTariff", "told", "LPostTariff$Bill;", true)
  | 3 => ("PostTariff", "tried", "LPostTariff$Bill;", true)
  | 4 => ("PostTariff", "items", "[LPostTariff$Item;", true)
  | 5 => ("PostTariff", "itemCount", "I", false)
  | 6 => ("PostTariff", "editions", "[LPostTariff$Edition;", true)
  | _ => ("PostTariff", "editionCount", "I", false)
def tyX6 : Nat → FieldType := fun k => match k with
  | 0 => .object "PostTariff$Reader"
  | 1 => .object "PostTariff$Printer"
  | 2 => .object "PostTariff$Bill"
  | 3 => .object "PostTariff$Bill"
  | 4 => .array (.object "PostTariff$Item")
  | 5 => .int
  | 6 => .array (.object "PostTariff$Edition")
  | _ => .int
abbrev wsX60 : List Cond := u_ws RX6 TX6 8
theorem nmX6 : ∀ a, a < 8 → ∀ b, b < 8 → a ≠ b → (TX6 a).2.1 ≠ (TX6 b).2.1 := by decide +kernel
theorem tyX6_ok : ∀ k, k < 8 → parseFieldDescriptor (TX6 k).2.2.1 = some (tyX6 k) := by decide +kernel
abbrev cX6_init : ByteArray := prog_1_method_1_code
def yX6_init : MethodName := ⟨RX6, "<init>", "()V"⟩
abbrev cX6_sign : ByteArray := prog_1_method_2_code
def yX6_sign : MethodName := ⟨RX6, "sign", "(I)V"⟩
abbrev cX6_read : ByteArray := prog_1_method_3_code
def yX6_read : MethodName := ⟨RX6, "read", "()I"⟩
abbrev cX6_item : ByteArray := prog_1_method_4_code
def yX6_item : MethodName := ⟨RX6, "item", "(IIIII)I"⟩
abbrev cX6_service : ByteArray := prog_1_method_5_code
def yX6_service : MethodName := ⟨RX6, "service", "(II)I"⟩
abbrev cX6_price : ByteArray := prog_1_method_6_code
def yX6_price : MethodName := ⟨RX6, "price", "(IIJ)J"⟩
abbrev cX6_least : ByteArray := prog_1_method_7_code
def yX6_least : MethodName := ⟨RX6, "least", "(IIJ)I"⟩
abbrev cX6_explain : ByteArray := prog_1_method_8_code
def yX6_explain : MethodName := ⟨RX6, "explain", "(II)I"⟩
abbrev cX6_dimensional : ByteArray := prog_1_method_9_code
def yX6_dimensional : MethodName := ⟨RX6, "dimensional", "(JJ)J"⟩
abbrev cX6_compare : ByteArray := prog_1_method_10_code
def yX6_compare : MethodName := ⟨RX6, "compare", "(I)I"⟩
abbrev cX6_print : ByteArray := prog_1_method_11_code
def yX6_print : MethodName := ⟨RX6, "print", "()I"⟩
abbrev cX6_at : ByteArray := prog_1_method_12_code
def yX6_at : MethodName := ⟨RX6, "at", "(I)I"⟩
abbrev cX6_pricingRefusal : ByteArray := prog_1_method_13_code
def yX6_pricingRefusal : MethodName := ⟨RX6, "pricingRefusal", "(IJ)I"⟩
abbrev cX6_itemOf : ByteArray := prog_1_method_14_code
def yX6_itemOf : MethodName := ⟨RX6, "itemOf", "(I)LPostTariff$Item;"⟩
abbrev cX6_slot : ByteArray := prog_1_method_15_code
def yX6_slot : MethodName := ⟨RX6, "slot", "(I)LPostTariff$Edition;"⟩
abbrev cX6_latest : ByteArray := prog_1_method_16_code
def yX6_latest : MethodName := ⟨RX6, "latest", "()LPostTariff$Edition;"⟩
abbrev cX6_isWithin : ByteArray := prog_1_method_17_code
def yX6_isWithin : MethodName := ⟨RX6, "isWithin", "(III)Z"⟩
abbrev cX6_isName : ByteArray := prog_1_method_18_code
def yX6_isName : MethodName := ⟨RX6, "isName", "(I)Z"⟩
abbrev cX6_isMeasure : ByteArray := prog_1_method_19_code
def yX6_isMeasure : MethodName := ⟨RX6, "isMeasure", "(I)Z"⟩
abbrev cX6_cell : ByteArray := prog_1_method_20_code
def yX6_cell : MethodName := ⟨RX6, "cell", "([II)I"⟩
abbrev cX6_put : ByteArray := prog_1_method_21_code
def yX6_put : MethodName := ⟨RX6, "put", "([III)V"⟩
abbrev cX6_fill : ByteArray := prog_1_method_22_code
def yX6_fill : MethodName := ⟨RX6, "fill", "([II)V"⟩
abbrev cX6_dividedUp : ByteArray := prog_1_method_23_code
def yX6_dividedUp : MethodName := ⟨RX6, "dividedUp", "(JJ)J"⟩
abbrev cX6_kindOf : ByteArray := prog_1_method_24_code
def yX6_kindOf : MethodName := ⟨RX6, "kindOf", "(LPostTariff$Edition;I)LPostTariff$Kind;"⟩
abbrev cX6_arePrintedAlike : ByteArray := prog_1_method_25_code
def yX6_arePrintedAlike : MethodName := ⟨RX6, "arePrintedAlike", "(LPostTariff$Kind;LPostTariff$Kind;)Z"⟩
def RX7 : String := "PostTariffModel"
def TX7 : u_T := fun k => match k with
  | 0 => ("PostTariffModel", "thrown", "I", false)
  | 1 => ("PostTariffModel", "text", "[I", true)
  | 2 => ("PostTariffModel", "length", "I", false)
  | 3 => ("PostTariffModel", "at", "I", false)
  | 4 => ("PostTariffModel", "fault", "I", false)
  | 5 => ("PostTariffModel", "letter", "[I", true)
  | 6 => ("PostTariffModel", "first", "[I", true)
  | 7 => ("PostTariffModel", "second", "[I", true)
  | 8 => ("PostTariffModel", "third", "[I", true)
  | 9 => ("PostTariffModel", "rowsOf", "[I", true)
  | 10 => ("PostTariffModel", "editions", "I", false)
  | 11 => ("PostTariffModel", "begun", "I", false)
  | 12 => ("PostTariffModel", "items", "I", false)
  | 13 => ("PostTariffModel", "kind", "[I", true)
  | 14 => ("PostTariffModel", "weight", "[I", true)
  | 15 => ("PostTariffModel", "width", "[I", true)
  | 16 => ("PostTariffModel", "height", "[I", true)
  | 17 => ("PostTariffModel", "depth", "[I", true)
  | 18 => ("PostTariffModel", "has", "[Z", true)
  | 19 => ("PostTariffModel", "parts", "I", false)
  | 20 => ("PostTariffModel", "sort", "[I", true)
  | 21 => ("PostTariffModel", "adds", "[J", true)
  | 22 => ("PostTariffModel", "which", "[I", true)
  | 23 => ("PostTariffModel", "printed", "I", false)
  | 24 => ("PostTariffModel", "out", "[I", true)
  | 25 => ("PostTariffModel", "made", "I", false)
  | 26 => ("PostTariffModel", "paper", "[I", true)
  | 27 => ("PostTariffModel", "other", "[I", true)
  | 28 => ("PostTariffModel", "hadSort", "[I", true)
  | 29 => ("PostTariffModel", "hadAdds", "[J", true)
  | _ => ("PostTariffModel", "hadWhich", "[I", true)
def tyX7 : Nat → FieldType := fun k => match k with
  | 0 => .int
  | 1 => .array .int
  | 2 => .int
  | 3 => .int
  | 4 => .int
  | 5 => .array .int
  | 6 => .array .int
  | 7 => .array .int
  | 8 => .array .int
  | 9 => .array .int
  | 10 => .int
  | 11 => .int
  | 12 => .int
  | 13 => .array .int
  | 14 => .array .int
  | 15 => .array .int
  | 16 => .array .int
  | 17 => .array .int
  | 18 => .array .boolean
  | 19 => .int
  | 20 => .array .int
  | 21 => .array .long
  | 22 => .array .int
  | 23 => .int
  | 24 => .array .int
  | 25 => .int
  | 26 => .array .int
  | 27 => .array .int
  | 28 => .array .int
  | 29 => .array .long
  | _ => .array .int
abbrev wsX70 : List Cond := u_ws RX7 TX7 31
theorem nmX7 : ∀ a, a < 31 → ∀ b, b < 31 → a ≠ b → (TX7 a).2.1 ≠ (TX7 b).2.1 := by decide +kernel
theorem tyX7_ok : ∀ k, k < 31 → parseFieldDescriptor (TX7 k).2.2.1 = some (tyX7 k) := by decide +kernel
abbrev cX7_init : ByteArray := prog_9_method_1_code
def yX7_init : MethodName := ⟨RX7, "<init>", "()V"⟩
abbrev cX7_thrown : ByteArray := prog_9_method_2_code
def yX7_thrown : MethodName := ⟨RX7, "thrown", "()I"⟩
abbrev cX7_sign : ByteArray := prog_9_method_3_code
def yX7_sign : MethodName := ⟨RX7, "sign", "(I)V"⟩
abbrev cX7_look : ByteArray := prog_9_method_4_code
def yX7_look : MethodName := ⟨RX7, "look", "()I"⟩
abbrev cX7_must : ByteArray := prog_9_method_5_code
def yX7_must : MethodName := ⟨RX7, "must", "(ZI)Z"⟩
abbrev cX7_isDigit : ByteArray := prog_9_method_6_code
def yX7_isDigit : MethodName := ⟨RX7, "isDigit", "()Z"⟩
abbrev cX7_number : ByteArray := prog_9_method_7_code
def yX7_number : MethodName := ⟨RX7, "number", "(II)I"⟩
abbrev cX7_next : ByteArray := prog_9_method_8_code
def yX7_next : MethodName := ⟨RX7, "next", "(II)I"⟩
abbrev cX7_base : ByteArray := prog_9_method_9_code
def yX7_base : MethodName := ⟨RX7, "base", "()I"⟩
abbrev cX7_lastRow : ByteArray := prog_9_method_10_code
def yX7_lastRow : MethodName := ⟨RX7, "lastRow", "()I"⟩
abbrev cX7_count : ByteArray := prog_9_method_11_code
def yX7_count : MethodName := ⟨RX7, "count", "(I)I"⟩
abbrev cX7_isThere : ByteArray := prog_9_method_12_code
def yX7_isThere : MethodName := ⟨RX7, "isThere", "(II)Z"⟩
abbrev cX7_lastWeight : ByteArray := prog_9_method_13_code
def yX7_lastWeight : MethodName := ⟨RX7, "lastWeight", "()I"⟩
abbrev cX7_areApart : ByteArray := prog_9_method_14_code
def yX7_areApart : MethodName := ⟨RX7, "areApart", "(II)Z"⟩
abbrev cX7_add : ByteArray := prog_9_method_15_code
def yX7_add : MethodName := ⟨RX7, "add", "(IIII)V"⟩
abbrev cX7_readKind : ByteArray := prog_9_method_16_code
def yX7_readKind : MethodName := ⟨RX7, "readKind", "(I)V"⟩
abbrev cX7_readStep : ByteArray := prog_9_method_17_code
def yX7_readStep : MethodName := ⟨RX7, "readStep", "(I)V"⟩
abbrev cX7_readOnceEach : ByteArray := prog_9_method_18_code
def yX7_readOnceEach : MethodName := ⟨RX7, "readOnceEach", "(II)V"⟩
abbrev cX7_readApart : ByteArray := prog_9_method_19_code
def yX7_readApart : MethodName := ⟨RX7, "readApart", "(I)V"⟩
abbrev cX7_readOnce : ByteArray := prog_9_method_20_code
def yX7_readOnce : MethodName := ⟨RX7, "readOnce", "(II)V"⟩
abbrev cX7_readRow : ByteArray := prog_9_method_21_code
def yX7_readRow : MethodName := ⟨RX7, "readRow", "()V"⟩
abbrev cX7_read : ByteArray := prog_9_method_22_code
def yX7_read : MethodName := ⟨RX7, "read", "()I"⟩
abbrev cX7_kindRow : ByteArray := prog_9_method_23_code
def yX7_kindRow : MethodName := ⟨RX7, "kindRow", "(II)I"⟩
abbrev cX7_kindEnd : ByteArray := prog_9_method_24_code
def yX7_kindEnd : MethodName := ⟨RX7, "kindEnd", "(II)I"⟩
abbrev cX7_rowOf : ByteArray := prog_9_method_25_code
def yX7_rowOf : MethodName := ⟨RX7, "rowOf", "(IIII)I"⟩
abbrev cX7_onlyRow : ByteArray := prog_9_method_26_code
def yX7_onlyRow : MethodName := ⟨RX7, "onlyRow", "(III)I"⟩
abbrev cX7_in : ByteArray := prog_9_method_27_code
def yX7_in : MethodName := ⟨RX7, "in", "(JJJ)Z"⟩
abbrev cX7_item : ByteArray := prog_9_method_28_code
def yX7_item : MethodName := ⟨RX7, "item", "(IIIII)I"⟩
abbrev cX7_service : ByteArray := prog_9_method_29_code
def yX7_service : MethodName := ⟨RX7, "service", "(II)I"⟩
abbrev cX7_part : ByteArray := prog_9_method_30_code
def yX7_part : MethodName := ⟨RX7, "part", "(IJI)V"⟩
abbrev cX7_mayServe : ByteArray := prog_9_method_31_code
def yX7_mayServe : MethodName := ⟨RX7, "mayServe", "(III)Z"⟩
abbrev cX7_mayGo : ByteArray := prog_9_method_32_code
def yX7_mayGo : MethodName := ⟨RX7, "mayGo", "(IIIIJ)Z"⟩
abbrev cX7_reckon : ByteArray := prog_9_method_33_code
def yX7_reckon : MethodName := ⟨RX7, "reckon", "(IIIJ)J"⟩
abbrev cX7_refusal : ByteArray := prog_9_method_34_code
def yX7_refusal : MethodName := ⟨RX7, "refusal", "(IIJ)I"⟩
abbrev cX7_price : ByteArray := prog_9_method_35_code
def yX7_price : MethodName := ⟨RX7, "price", "(IIJ)J"⟩
abbrev cX7_least : ByteArray := prog_9_method_36_code
def yX7_least : MethodName := ⟨RX7, "least", "(IIJ)I"⟩
abbrev cX7_explain : ByteArray := prog_9_method_37_code
def yX7_explain : MethodName := ⟨RX7, "explain", "(II)I"⟩
abbrev cX7_dimensional : ByteArray := prog_9_method_38_code
def yX7_dimensional : MethodName := ⟨RX7, "dimensional", "(JJ)J"⟩
abbrev cX7_put : ByteArray := prog_9_method_39_code
def yX7_put : MethodName := ⟨RX7, "put", "(I)V"⟩
abbrev cX7_putNumber : ByteArray := prog_9_method_40_code
def yX7_putNumber : MethodName := ⟨RX7, "putNumber", "(I)V"⟩
abbrev cX7_putRow : ByteArray := prog_9_method_41_code
def yX7_putRow : MethodName := ⟨RX7, "putRow", "(IIIII)V"⟩
abbrev cX7_putEach : ByteArray := prog_9_method_42_code
def yX7_putEach : MethodName := ⟨RX7, "putEach", "(III)V"⟩
abbrev cX7_putOnly : ByteArray := prog_9_method_43_code
def yX7_putOnly : MethodName := ⟨RX7, "putOnly", "(IIII)V"⟩
abbrev cX7_putKind : ByteArray := prog_9_method_44_code
def yX7_putKind : MethodName := ⟨RX7, "putKind", "(II)Z"⟩
abbrev cX7_compare : ByteArray := prog_9_method_45_code
def yX7_compare : MethodName := ⟨RX7, "compare", "(I)I"⟩
abbrev cX7_print : ByteArray := prog_9_method_46_code
def yX7_print : MethodName := ⟨RX7, "print", "()I"⟩
abbrev cX7_at : ByteArray := prog_9_method_47_code
def yX7_at : MethodName := ⟨RX7, "at", "(I)I"⟩
def RJ6 : String := "java/lang/Integer"
def TJ6 : u_T := fun k => match k with
  | _ => ("", "", "", false)
def tyJ6 : Nat → FieldType := fun k => match k with
  | _ => .int
abbrev cJ6_bitCount_0f7a4 : ByteArray := prog_12_method_49_code
def yJ6_bitCount_0f7a4 : MethodName := ⟨RJ6, "bitCount", "(I)I"⟩
def RJ9 : String := "java/lang/Math"
def TJ9 : u_T := fun k => match k with
  | _ => ("", "", "", false)
def tyJ9 : Nat → FieldType := fun k => match k with
  | _ => .int
abbrev cJ9_max_f86c9 : ByteArray := prog_13_method_66_code
def yJ9_max_f86c9 : MethodName := ⟨RJ9, "max", "(JJ)J"⟩
def RJ0 : String := "java/lang/String"
def TJ0 : u_T := fun k => match k with
  | 0 => ("java/lang/String", "value", "[B", true)
  | _ => ("java/lang/String", "coder", "B", true)
def tyJ0 : Nat → FieldType := fun k => match k with
  | 0 => .array .byte
  | _ => .byte
def RL : String := "PostTariffLaw"
abbrev cL_dimensional : ByteArray := method_3_code
def yL_dimensional : MethodName := ⟨RL, "dimensional", "(LPostTariff;JJ[J)I"⟩
abbrev cL_law : ByteArray := code
def yL_law : MethodName := ⟨RL, "law", "([I)Z"⟩
end
section
theorem dX0_init_0 : decode cX0_init 0 = .ok (.aload_n 0, 1) := by decide +kernel
theorem dX0_init_1 : decode cX0_init 1 = .ok (.invokespecial 3, 3) := by decide +kernel
theorem dX0_init_4 : decode cX0_init 4 = .ok (.aload_n 0, 1) := by decide +kernel
theorem dX0_init_5 : decode cX0_init 5 = .ok (.bipush 13, 2) := by decide +kernel
theorem dX0_init_7 : decode cX0_init 7 = .ok (.newarray .int, 2) := by decide +kernel
theorem dX0_init_9 : decode cX0_init 9 = .ok (.putfield 9, 3) := by decide +kernel
theorem dX0_init_12 : decode cX0_init 12 = .ok (.aload_n 0, 1) := by decide +kernel
theorem dX0_init_13 : decode cX0_init 13 = .ok (.bipush 13, 2) := by decide +kernel
theorem dX0_init_15 : decode cX0_init 15 = .ok (.newarray .int, 2) := by decide +kernel
theorem dX0_init_17 : decode cX0_init 17 = .ok (.putfield 15, 3) := by decide +kernel
theorem dX0_init_20 : decode cX0_init 20 = .ok (.aload_n 0, 1) := by decide +kernel
theorem dX0_init_21 : decode cX0_init 21 = .ok (.bipush 13, 2) := by decide +kernel
theorem dX0_init_23 : decode cX0_init 23 = .ok (.newarray .int, 2) := by decide +kernel
theorem dX0_init_25 : decode cX0_init 25 = .ok (.putfield 18, 3) := by decide +kernel
theorem dX0_init_28 : decode cX0_init 28 = .ok (.aload_n 0, 1) := by decide +kernel
theorem dX0_init_29 : decode cX0_init 29 = .ok (.ldc2_w 21, 3) := by decide +kernel
theorem dX0_init_32 : decode cX0_init 32 = .ok (.putfield 23, 3) := by decide +kernel
theorem dX0_init_35 : decode cX0_init 35 = .ok (.return_, 1) := by decide +kernel
theorem dX0_make_0 : decode cX0_make 0 = .ok (.aload_n 0, 1) := by decide +kernel
theorem dX0_make_1 : decode cX0_make 1 = .ok (.iconst 0, 1) := by decide +kernel
theorem dX0_make_2 : decode cX0_make 2 = .ok (.putfield 27, 3) := by decide +kernel
theorem dX0_make_5 : decode cX0_make 5 = .ok (.aload_n 0, 1) := by decide +kernel
theorem dX0_make_6 : decode cX0_make 6 = .ok (.ldc2_w 21, 3) := by decide +kernel
theorem dX0_make_9 : decode cX0_make 9 = .ok (.putfield 23, 3) := by decide +kernel
theorem dX0_make_12 : decode cX0_make 12 = .ok (.aload_n 1, 1) := by decide +kernel
theorem dX0_make_13 : decode cX0_make 13 = .ok (.ifnull 18, 3) := by decide +kernel
theorem dX0_make_16 : decode cX0_make 16 = .ok (.aload_n 2, 1) := by decide +kernel
theorem dX0_make_17 : decode cX0_make 17 = .ok (.ifnull 14, 3) := by decide +kernel
theorem dX0_make_20 : decode cX0_make 20 = .ok (.aload_n 2, 1) := by decide +kernel
theorem dX0_make_21 : decode cX0_make 21 = .ok (.aload_n 1, 1) := by decide +kernel
theorem dX0_make_22 : decode cX0_make 22 = .ok (.iload_n 3, 1) := by decide +kernel
theorem dX0_make_23 : decode cX0_make 23 = .ok (.lload 4, 2) := by decide +kernel
theorem dX0_make_25 : decode cX0_make 25 = .ok (.invokevirtual 31, 3) := by decide +kernel
theorem dX0_make_28 : decode cX0_make 28 = .ok (.ifCond .ne 4, 3) := by decide +kernel
theorem dX0_make_31 : decode cX0_make 31 = .ok (.return_, 1) := by decide +kernel
theorem dX0_make_32 : decode cX0_make 32 = .ok (.aload_n 2, 1) := by decide +kernel
theorem dX0_make_33 : decode cX0_make 33 = .ok (.aload_n 2, 1) := by decide +kernel
theorem dX0_make_34 : decode cX0_make 34 = .ok (.aload_n 1, 1) := by decide +kernel
theorem dX0_make_35 : decode cX0_make 35 = .ok (.invokevirtual 37, 3) := by decide +kernel
theorem dX0_make_38 : decode cX0_make 38 = .ok (.invokevirtual 41, 3) := by decide +kernel
theorem dX0_make_41 : decode cX0_make 41 = .ok (.istore 6, 2) := by decide +kernel
theorem dX0_make_43 : decode cX0_make 43 = .ok (.iload 6, 2) := by decide +kernel
theorem dX0_make_45 : decode cX0_make 45 = .ok (.iconst (-1), 1) := by decide +kernel
theorem dX0_make_46 : decode cX0_make 46 = .ok (.if_icmp .ne 4, 3) := by decide +kernel
theorem dX0_make_49 : decode cX0_make 49 = .ok (.return_, 1) := by decide +kernel
theorem dX0_make_50 : decode cX0_make 50 = .ok (.aload_n 0, 1) := by decide +kernel
theorem dX0_make_51 : decode cX0_make 51 = .ok (.lconst 0, 1) := by decide +kernel
theorem dX0_make_52 : decode cX0_make 52 = .ok (.putfield 23, 3) := by decide +kernel
theorem dX0_make_55 : decode cX0_make 55 = .ok (.aload_n 0, 1) := by decide +kernel
theorem dX0_make_56 : decode cX0_make 56 = .ok (.aload_n 1, 1) := by decide +kernel
theorem dX0_make_57 : decode cX0_make 57 = .ok (.aload_n 2, 1) := by decide +kernel
theorem dX0_make_58 : decode cX0_make 58 = .ok (.iload 6, 2) := by decide +kernel
theorem dX0_make_60 : decode cX0_make 60 = .ok (.iload_n 3, 1) := by decide +kernel
theorem dX0_make_61 : decode cX0_make 61 = .ok (.invokevirtual 45, 3) := by decide +kernel
theorem dX0_make_64 : decode cX0_make 64 = .ok (.return_, 1) := by decide +kernel
theorem dX0_addParts_0 : decode cX0_addParts 0 = .ok (.aload_n 2, 1) := by decide +kernel
theorem dX0_addParts_1 : decode cX0_addParts 1 = .ok (.getfield 49, 3) := by decide +kernel
theorem dX0_addParts_4 : decode cX0_addParts 4 = .ok (.iload_n 3, 1) := by decide +kernel
theorem dX0_addParts_5 : decode cX0_addParts 5 = .ok (.invokestatic 52, 3) := by decide +kernel
theorem dX0_addParts_8 : decode cX0_addParts 8 = .ok (.i2l, 1) := by decide +kernel
theorem dX0_addParts_9 : decode cX0_addParts 9 = .ok (.lstore 5, 2) := by decide +kernel
theorem dX0_addParts_11 : decode cX0_addParts 11 = .ok (.aload_n 0, 1) := by decide +kernel
theorem dX0_addParts_12 : decode cX0_addParts 12 = .ok (.iconst 0, 1) := by decide +kernel
theorem dX0_addParts_13 : decode cX0_addParts 13 = .ok (.lload 5, 2) := by decide +kernel
theorem dX0_addParts_15 : decode cX0_addParts 15 = .ok (.iload_n 3, 1) := by decide +kernel
theorem dX0_addParts_16 : decode cX0_addParts 16 = .ok (.invokevirtual 56, 3) := by decide +kernel
theorem dX0_addParts_19 : decode cX0_addParts 19 = .ok (.aload_n 0, 1) := by decide +kernel
theorem dX0_addParts_20 : decode cX0_addParts 20 = .ok (.iconst 1, 1) := by decide +kernel
theorem dX0_addParts_21 : decode cX0_addParts 21 = .ok (.lload 5, 2) := by decide +kernel
theorem dX0_addParts_23 : decode cX0_addParts 23 = .ok (.aload_n 2, 1) := by decide +kernel
theorem dX0_addParts_24 : decode cX0_addParts 24 = .ok (.getfield 60, 3) := by decide +kernel
theorem dX0_addParts_27 : decode cX0_addParts 27 = .ok (.iload 4, 2) := by decide +kernel
theorem dX0_addParts_29 : decode cX0_addParts 29 = .ok (.invokestatic 52, 3) := by decide +kernel
theorem dX0_addParts_32 : decode cX0_addParts 32 = .ok (.i2l, 1) := by decide +kernel
theorem dX0_addParts_33 : decode cX0_addParts 33 = .ok (.lmul, 1) := by decide +kernel
theorem dX0_addParts_34 : decode cX0_addParts 34 = .ok (.ldc2_w 63, 3) := by decide +kernel
theorem dX0_addParts_37 : decode cX0_addParts 37 = .ok (.ldiv, 1) := by decide +kernel
theorem dX0_addParts_38 : decode cX0_addParts 38 = .ok (.iload 4, 2) := by decide +kernel
theorem dX0_addParts_40 : decode cX0_addParts 40 = .ok (.invokevirtual 56, 3) := by decide +kernel
theorem dX0_addParts_43 : decode cX0_addParts 43 = .ok (.iconst 0, 1) := by decide +kernel
theorem dX0_addParts_44 : decode cX0_addParts 44 = .ok (.istore 7, 2) := by decide +kernel
theorem dX0_addParts_46 : decode cX0_addParts 46 = .ok (.iload 7, 2) := by decide +kernel
theorem dX0_addParts_48 : decode cX0_addParts 48 = .ok (.bipush 10, 2) := by decide +kernel
theorem dX0_addParts_50 : decode cX0_addParts 50 = .ok (.if_icmp .ge 35, 3) := by decide +kernel
theorem dX0_addParts_53 : decode cX0_addParts 53 = .ok (.aload_n 1, 1) := by decide +kernel
theorem dX0_addParts_54 : decode cX0_addParts 54 = .ok (.iload 7, 2) := by decide +kernel
theorem dX0_addParts_56 : decode cX0_addParts 56 = .ok (.invokevirtual 65, 3) := by decide +kernel
theorem dX0_addParts_59 : decode cX0_addParts 59 = .ok (.ifCond .eq 20, 3) := by decide +kernel
theorem dX0_addParts_62 : decode cX0_addParts 62 = .ok (.aload_n 0, 1) := by decide +kernel
theorem dX0_addParts_63 : decode cX0_addParts 63 = .ok (.iconst 2, 1) := by decide +kernel
theorem dX0_addParts_64 : decode cX0_addParts 64 = .ok (.aload_n 2, 1) := by decide +kernel
theorem dX0_addParts_65 : decode cX0_addParts 65 = .ok (.getfield 71, 3) := by decide +kernel
theorem dX0_addParts_68 : decode cX0_addParts 68 = .ok (.iload 7, 2) := by decide +kernel
theorem dX0_addParts_70 : decode cX0_addParts 70 = .ok (.invokestatic 52, 3) := by decide +kernel
theorem dX0_addParts_73 : decode cX0_addParts 73 = .ok (.i2l, 1) := by decide +kernel
theorem dX0_addParts_74 : decode cX0_addParts 74 = .ok (.iload 7, 2) := by decide +kernel
theorem dX0_addParts_76 : decode cX0_addParts 76 = .ok (.invokevirtual 56, 3) := by decide +kernel
theorem dX0_addParts_79 : decode cX0_addParts 79 = .ok (.iinc 7 1, 3) := by decide +kernel
theorem dX0_addParts_82 : decode cX0_addParts 82 = .ok (.goto (-36), 3) := by decide +kernel
theorem dX0_addParts_85 : decode cX0_addParts 85 = .ok (.aload_n 2, 1) := by decide +kernel
theorem dX0_addParts_86 : decode cX0_addParts 86 = .ok (.getfield 74, 3) := by decide +kernel
theorem dX0_addParts_89 : decode cX0_addParts 89 = .ok (.ifCond .le 35, 3) := by decide +kernel
theorem dX0_addParts_92 : decode cX0_addParts 92 = .ok (.aload_n 0, 1) := by decide +kernel
theorem dX0_addParts_93 : decode cX0_addParts 93 = .ok (.iconst 3, 1) := by decide +kernel
theorem dX0_addParts_94 : decode cX0_addParts 94 = .ok (.aload_n 0, 1) := by decide +kernel
theorem dX0_addParts_95 : decode cX0_addParts 95 = .ok (.getfield 23, 3) := by decide +kernel
theorem dX0_addParts_98 : decode cX0_addParts 98 = .ok (.aload_n 2, 1) := by decide +kernel
theorem dX0_addParts_99 : decode cX0_addParts 99 = .ok (.getfield 74, 3) := by decide +kernel
theorem dX0_addParts_102 : decode cX0_addParts 102 = .ok (.i2l, 1) := by decide +kernel
theorem dX0_addParts_103 : decode cX0_addParts 103 = .ok (.invokestatic 77, 3) := by decide +kernel
theorem dX0_addParts_106 : decode cX0_addParts 106 = .ok (.aload_n 2, 1) := by decide +kernel
theorem dX0_addParts_107 : decode cX0_addParts 107 = .ok (.getfield 74, 3) := by decide +kernel
theorem dX0_addParts_110 : decode cX0_addParts 110 = .ok (.i2l, 1) := by decide +kernel
theorem dX0_addParts_111 : decode cX0_addParts 111 = .ok (.lmul, 1) := by decide +kernel
theorem dX0_addParts_112 : decode cX0_addParts 112 = .ok (.aload_n 0, 1) := by decide +kernel
theorem dX0_addParts_113 : decode cX0_addParts 113 = .ok (.getfield 23, 3) := by decide +kernel
theorem dX0_addParts_116 : decode cX0_addParts 116 = .ok (.lsub, 1) := by decide +kernel
theorem dX0_addParts_117 : decode cX0_addParts 117 = .ok (.aload_n 2, 1) := by decide +kernel
theorem dX0_addParts_118 : decode cX0_addParts 118 = .ok (.getfield 74, 3) := by decide +kernel
theorem dX0_addParts_121 : decode cX0_addParts 121 = .ok (.invokevirtual 56, 3) := by decide +kernel
theorem dX0_addParts_124 : decode cX0_addParts 124 = .ok (.return_, 1) := by decide +kernel
theorem dX0_add_0 : decode cX0_add 0 = .ok (.aload_n 0, 1) := by decide +kernel
theorem dX0_add_1 : decode cX0_add 1 = .ok (.getfield 9, 3) := by decide +kernel
theorem dX0_add_4 : decode cX0_add 4 = .ok (.aload_n 0, 1) := by decide +kernel
theorem dX0_add_5 : decode cX0_add 5 = .ok (.getfield 27, 3) := by decide +kernel
theorem dX0_add_8 : decode cX0_add 8 = .ok (.iload_n 1, 1) := by decide +kernel
theorem dX0_add_9 : decode cX0_add 9 = .ok (.invokestatic 81, 3) := by decide +kernel
theorem dX0_add_12 : decode cX0_add 12 = .ok (.aload_n 0, 1) := by decide +kernel
theorem dX0_add_13 : decode cX0_add 13 = .ok (.getfield 15, 3) := by decide +kernel
theorem dX0_add_16 : decode cX0_add 16 = .ok (.aload_n 0, 1) := by decide +kernel
theorem dX0_add_17 : decode cX0_add 17 = .ok (.getfield 27, 3) := by decide +kernel
theorem dX0_add_20 : decode cX0_add 20 = .ok (.lload_n 2, 1) := by decide +kernel
theorem dX0_add_21 : decode cX0_add 21 = .ok (.l2i, 1) := by decide +kernel
theorem dX0_add_22 : decode cX0_add 22 = .ok (.invokestatic 81, 3) := by decide +kernel
theorem dX0_add_25 : decode cX0_add 25 = .ok (.aload_n 0, 1) := by decide +kernel
theorem dX0_add_26 : decode cX0_add 26 = .ok (.getfield 18, 3) := by decide +kernel
theorem dX0_add_29 : decode cX0_add 29 = .ok (.aload_n 0, 1) := by decide +kernel
theorem dX0_add_30 : decode cX0_add 30 = .ok (.getfield 27, 3) := by decide +kernel
theorem dX0_add_33 : decode cX0_add 33 = .ok (.iload 4, 2) := by decide +kernel
theorem dX0_add_35 : decode cX0_add 35 = .ok (.invokestatic 81, 3) := by decide +kernel
theorem dX0_add_38 : decode cX0_add 38 = .ok (.aload_n 0, 1) := by decide +kernel
theorem dX0_add_39 : decode cX0_add 39 = .ok (.dup, 1) := by decide +kernel
theorem dX0_add_40 : decode cX0_add 40 = .ok (.getfield 27, 3) := by decide +kernel
theorem dX0_add_43 : decode cX0_add 43 = .ok (.iconst 1, 1) := by decide +kernel
theorem dX0_add_44 : decode cX0_add 44 = .ok (.iadd, 1) := by decide +kernel
theorem dX0_add_45 : decode cX0_add 45 = .ok (.putfield 27, 3) := by decide +kernel
theorem dX0_add_48 : decode cX0_add 48 = .ok (.aload_n 0, 1) := by decide +kernel
theorem dX0_add_49 : decode cX0_add 49 = .ok (.dup, 1) := by decide +kernel
theorem dX0_add_50 : decode cX0_add 50 = .ok (.getfield 23, 3) := by decide +kernel
theorem dX0_add_53 : decode cX0_add 53 = .ok (.lload_n 2, 1) := by decide +kernel
theorem dX0_add_54 : decode cX0_add 54 = .ok (.ladd, 1) := by decide +kernel
theorem dX0_add_55 : decode cX0_add 55 = .ok (.putfield 23, 3) := by decide +kernel
theorem dX0_add_58 : decode cX0_add 58 = .ok (.return_, 1) := by decide +kernel
theorem dX0_tell_0 : decode cX0_tell 0 = .ok (.iload_n 1, 1) := by decide +kernel
theorem dX0_tell_1 : decode cX0_tell 1 = .ok (.ifCond .lt 11, 3) := by decide +kernel
theorem dX0_tell_4 : decode cX0_tell 4 = .ok (.iload_n 1, 1) := by decide +kernel
theorem dX0_tell_5 : decode cX0_tell 5 = .ok (.aload_n 0, 1) := by decide +kernel
theorem dX0_tell_6 : decode cX0_tell 6 = .ok (.getfield 27, 3) := by decide +kernel
theorem dX0_tell_9 : decode cX0_tell 9 = .ok (.if_icmp .lt 5, 3) := by decide +kernel
theorem dX0_tell_12 : decode cX0_tell 12 = .ok (.iconst (-1), 1) := by decide +kernel
theorem dX0_tell_13 : decode cX0_tell 13 = .ok (.ireturn, 1) := by decide +kernel
theorem dX0_tell_14 : decode cX0_tell 14 = .ok (.iload_n 2, 1) := by decide +kernel
theorem dX0_tell_15 : decode cX0_tell 15 = .ok (.tableswitch 52 0 2 #[25, 34, 43], 25) := by decide +kernel
theorem dX0_tell_40 : decode cX0_tell 40 = .ok (.aload_n 0, 1) := by decide +kernel
theorem dX0_tell_41 : decode cX0_tell 41 = .ok (.getfield 9, 3) := by decide +kernel
theorem dX0_tell_44 : decode cX0_tell 44 = .ok (.iload_n 1, 1) := by decide +kernel
theorem dX0_tell_45 : decode cX0_tell 45 = .ok (.invokestatic 52, 3) := by decide +kernel
theorem dX0_tell_48 : decode cX0_tell 48 = .ok (.ireturn, 1) := by decide +kernel
theorem dX0_tell_49 : decode cX0_tell 49 = .ok (.aload_n 0, 1) := by decide +kernel
theorem dX0_tell_50 : decode cX0_tell 50 = .ok (.getfield 15, 3) := by decide +kernel
theorem dX0_tell_53 : decode cX0_tell 53 = .ok (.iload_n 1, 1) := by decide +kernel
theorem dX0_tell_54 : decode cX0_tell 54 = .ok (.invokestatic 52, 3) := by decide +kernel
theorem dX0_tell_57 : decode cX0_tell 57 = .ok (.ireturn, 1) := by decide +kernel
theorem dX0_tell_58 : decode cX0_tell 58 = .ok (.aload_n 0, 1) := by decide +kernel
theorem dX0_tell_59 : decode cX0_tell 59 = .ok (.getfield 18, 3) := by decide +kernel
theorem dX0_tell_62 : decode cX0_tell 62 = .ok (.iload_n 1, 1) := by decide +kernel
theorem dX0_tell_63 : decode cX0_tell 63 = .ok (.invokestatic 52, 3) := by decide +kernel
theorem dX0_tell_66 : decode cX0_tell 66 = .ok (.ireturn, 1) := by decide +kernel
theorem dX0_tell_67 : decode cX0_tell 67 = .ok (.iconst (-1), 1) := by decide +kernel
theorem dX0_tell_68 : decode cX0_tell 68 = .ok (.ireturn, 1) := by decide +kernel
theorem dX1_init_0 : decode cX1_init 0 = .ok (.aload_n 0, 1) := by decide +kernel
theorem dX1_init_1 : decode cX1_init 1 = .ok (.invokespecial 3, 3) := by decide +kernel
theorem dX1_init_4 : decode cX1_init 4 = .ok (.aload_n 0, 1) := by decide +kernel
theorem dX1_init_5 : decode cX1_init 5 = .ok (.bipush 10, 2) := by decide +kernel
theorem dX1_init_7 : decode cX1_init 7 = .ok (.anewarray 9, 3) := by decide +kernel
theorem dX1_init_10 : decode cX1_init 10 = .ok (.putfield 11, 3) := by decide +kernel
theorem dX1_init_13 : decode cX1_init 13 = .ok (.iconst 0, 1) := by decide +kernel
theorem dX1_init_14 : decode cX1_init 14 = .ok (.istore_n 1, 1) := by decide +kernel
theorem dX1_init_15 : decode cX1_init 15 = .ok (.iload_n 1, 1) := by decide +kernel
theorem dX1_init_16 : decode cX1_init 16 = .ok (.aload_n 0, 1) := by decide +kernel
theorem dX1_init_17 : decode cX1_init 17 = .ok (.getfield 11, 3) := by decide +kernel
theorem dX1_init_20 : decode cX1_init 20 = .ok (.arraylength, 1) := by decide +kernel
theorem dX1_init_21 : decode cX1_init 21 = .ok (.if_icmp .ge 22, 3) := by decide +kernel
theorem dX1_init_24 : decode cX1_init 24 = .ok (.aload_n 0, 1) := by decide +kernel
theorem dX1_init_25 : decode cX1_init 25 = .ok (.getfield 11, 3) := by decide +kernel
theorem dX1_init_28 : decode cX1_init 28 = .ok (.iload_n 1, 1) := by decide +kernel
theorem dX1_init_29 : decode cX1_init 29 = .ok (.new 9, 3) := by decide +kernel
theorem dX1_init_32 : decode cX1_init 32 = .ok (.dup, 1) := by decide +kernel
theorem dX1_init_33 : decode cX1_init 33 = .ok (.invokespecial 17, 3) := by decide +kernel
theorem dX1_init_36 : decode cX1_init 36 = .ok (.aastore, 1) := by decide +kernel
theorem dX1_init_37 : decode cX1_init 37 = .ok (.iinc 1 1, 3) := by decide +kernel
theorem dX1_init_40 : decode cX1_init 40 = .ok (.goto (-25), 3) := by decide +kernel
theorem dX1_init_43 : decode cX1_init 43 = .ok (.return_, 1) := by decide +kernel
theorem dX1_place_0 : decode cX1_place 0 = .ok (.iload_n 1, 1) := by decide +kernel
theorem dX1_place_1 : decode cX1_place 1 = .ok (.ifCond .lt 21, 3) := by decide +kernel
theorem dX1_place_4 : decode cX1_place 4 = .ok (.iload_n 1, 1) := by decide +kernel
theorem dX1_place_5 : decode cX1_place 5 = .ok (.aload_n 0, 1) := by decide +kernel
theorem dX1_place_6 : decode cX1_place 6 = .ok (.getfield 11, 3) := by decide +kernel
theorem dX1_place_9 : decode cX1_place 9 = .ok (.arraylength, 1) := by decide +kernel
theorem dX1_place_10 : decode cX1_place 10 = .ok (.if_icmp .ge 12, 3) := by decide +kernel
theorem dX1_place_13 : decode cX1_place 13 = .ok (.aload_n 0, 1) := by decide +kernel
theorem dX1_place_14 : decode cX1_place 14 = .ok (.getfield 11, 3) := by decide +kernel
theorem dX1_place_17 : decode cX1_place 17 = .ok (.iload_n 1, 1) := by decide +kernel
theorem dX1_place_18 : decode cX1_place 18 = .ok (.aaload, 1) := by decide +kernel
theorem dX1_place_19 : decode cX1_place 19 = .ok (.goto 4, 3) := by decide +kernel
theorem dX1_place_22 : decode cX1_place 22 = .ok (.aconst_null, 1) := by decide +kernel
theorem dX1_place_23 : decode cX1_place 23 = .ok (.areturn, 1) := by decide +kernel
theorem dX1_clear_0 : decode cX1_clear 0 = .ok (.iconst 0, 1) := by decide +kernel
theorem dX1_clear_1 : decode cX1_clear 1 = .ok (.istore_n 1, 1) := by decide +kernel
theorem dX1_clear_2 : decode cX1_clear 2 = .ok (.iload_n 1, 1) := by decide +kernel
theorem dX1_clear_3 : decode cX1_clear 3 = .ok (.aload_n 0, 1) := by decide +kernel
theorem dX1_clear_4 : decode cX1_clear 4 = .ok (.getfield 11, 3) := by decide +kernel
theorem dX1_clear_7 : decode cX1_clear 7 = .ok (.arraylength, 1) := by decide +kernel
theorem dX1_clear_8 : decode cX1_clear 8 = .ok (.if_icmp .ge 24, 3) := by decide +kernel
theorem dX1_clear_11 : decode cX1_clear 11 = .ok (.aload_n 0, 1) := by decide +kernel
theorem dX1_clear_12 : decode cX1_clear 12 = .ok (.getfield 11, 3) := by decide +kernel
theorem dX1_clear_15 : decode cX1_clear 15 = .ok (.iload_n 1, 1) := by decide +kernel
theorem dX1_clear_16 : decode cX1_clear 16 = .ok (.aaload, 1) := by decide +kernel
theorem dX1_clear_17 : decode cX1_clear 17 = .ok (.astore_n 2, 1) := by decide +kernel
theorem dX1_clear_18 : decode cX1_clear 18 = .ok (.aload_n 2, 1) := by decide +kernel
theorem dX1_clear_19 : decode cX1_clear 19 = .ok (.ifnull 7, 3) := by decide +kernel
theorem dX1_clear_22 : decode cX1_clear 22 = .ok (.aload_n 2, 1) := by decide +kernel
theorem dX1_clear_23 : decode cX1_clear 23 = .ok (.invokevirtual 18, 3) := by decide +kernel
theorem dX1_clear_26 : decode cX1_clear 26 = .ok (.iinc 1 1, 3) := by decide +kernel
theorem dX1_clear_29 : decode cX1_clear 29 = .ok (.goto (-27), 3) := by decide +kernel
theorem dX1_clear_32 : decode cX1_clear 32 = .ok (.return_, 1) := by decide +kernel
theorem dX2_init_0 : decode cX2_init 0 = .ok (.aload_n 0, 1) := by decide +kernel
theorem dX2_init_1 : decode cX2_init 1 = .ok (.invokespecial 1, 3) := by decide +kernel
theorem dX2_init_4 : decode cX2_init 4 = .ok (.aload_n 0, 1) := by decide +kernel
theorem dX2_init_5 : decode cX2_init 5 = .ok (.iload_n 1, 1) := by decide +kernel
theorem dX2_init_6 : decode cX2_init 6 = .ok (.putfield 7, 3) := by decide +kernel
theorem dX2_init_9 : decode cX2_init 9 = .ok (.aload_n 0, 1) := by decide +kernel
theorem dX2_init_10 : decode cX2_init 10 = .ok (.iload_n 2, 1) := by decide +kernel
theorem dX2_init_11 : decode cX2_init 11 = .ok (.putfield 13, 3) := by decide +kernel
theorem dX2_init_14 : decode cX2_init 14 = .ok (.aload_n 0, 1) := by decide +kernel
theorem dX2_init_15 : decode cX2_init 15 = .ok (.iload_n 3, 1) := by decide +kernel
theorem dX2_init_16 : decode cX2_init 16 = .ok (.putfield 16, 3) := by decide +kernel
theorem dX2_init_19 : decode cX2_init 19 = .ok (.aload_n 0, 1) := by decide +kernel
theorem dX2_init_20 : decode cX2_init 20 = .ok (.iload 4, 2) := by decide +kernel
theorem dX2_init_22 : decode cX2_init 22 = .ok (.putfield 19, 3) := by decide +kernel
theorem dX2_init_25 : decode cX2_init 25 = .ok (.aload_n 0, 1) := by decide +kernel
theorem dX2_init_26 : decode cX2_init 26 = .ok (.iload 5, 2) := by decide +kernel
theorem dX2_init_28 : decode cX2_init 28 = .ok (.putfield 22, 3) := by decide +kernel
theorem dX2_init_31 : decode cX2_init 31 = .ok (.return_, 1) := by decide +kernel
theorem dX2_has_0 : decode cX2_has 0 = .ok (.aload_n 0, 1) := by decide +kernel
theorem dX2_has_1 : decode cX2_has 1 = .ok (.getfield 25, 3) := by decide +kernel
theorem dX2_has_4 : decode cX2_has 4 = .ok (.iconst 1, 1) := by decide +kernel
theorem dX2_has_5 : decode cX2_has 5 = .ok (.iload_n 1, 1) := by decide +kernel
theorem dX2_has_6 : decode cX2_has 6 = .ok (.ishl, 1) := by decide +kernel
theorem dX2_has_7 : decode cX2_has 7 = .ok (.iand, 1) := by decide +kernel
theorem dX2_has_8 : decode cX2_has 8 = .ok (.ifCond .eq 7, 3) := by decide +kernel
theorem dX2_has_11 : decode cX2_has 11 = .ok (.iconst 1, 1) := by decide +kernel
theorem dX2_has_12 : decode cX2_has 12 = .ok (.goto 4, 3) := by decide +kernel
theorem dX2_has_15 : decode cX2_has 15 = .ok (.iconst 0, 1) := by decide +kernel
theorem dX2_has_16 : decode cX2_has 16 = .ok (.ireturn, 1) := by decide +kernel
theorem dX3_init_0 : decode cX3_init 0 = .ok (.aload_n 0, 1) := by decide +kernel
theorem dX3_init_1 : decode cX3_init 1 = .ok (.invokespecial 3, 3) := by decide +kernel
theorem dX3_init_4 : decode cX3_init 4 = .ok (.aload_n 0, 1) := by decide +kernel
theorem dX3_init_5 : decode cX3_init 5 = .ok (.bipush 10, 2) := by decide +kernel
theorem dX3_init_7 : decode cX3_init 7 = .ok (.newarray .int, 2) := by decide +kernel
theorem dX3_init_9 : decode cX3_init 9 = .ok (.putfield 9, 3) := by decide +kernel
theorem dX3_init_12 : decode cX3_init 12 = .ok (.aload_n 0, 1) := by decide +kernel
theorem dX3_init_13 : decode cX3_init 13 = .ok (.bipush 10, 2) := by decide +kernel
theorem dX3_init_15 : decode cX3_init 15 = .ok (.newarray .int, 2) := by decide +kernel
theorem dX3_init_17 : decode cX3_init 17 = .ok (.putfield 15, 3) := by decide +kernel
theorem dX3_init_20 : decode cX3_init 20 = .ok (.aload_n 0, 1) := by decide +kernel
theorem dX3_init_21 : decode cX3_init 21 = .ok (.bipush 10, 2) := by decide +kernel
theorem dX3_init_23 : decode cX3_init 23 = .ok (.newarray .int, 2) := by decide +kernel
theorem dX3_init_25 : decode cX3_init 25 = .ok (.putfield 18, 3) := by decide +kernel
theorem dX3_init_28 : decode cX3_init 28 = .ok (.aload_n 0, 1) := by decide +kernel
theorem dX3_init_29 : decode cX3_init 29 = .ok (.bipush 10, 2) := by decide +kernel
theorem dX3_init_31 : decode cX3_init 31 = .ok (.newarray .int, 2) := by decide +kernel
theorem dX3_init_33 : decode cX3_init 33 = .ok (.putfield 21, 3) := by decide +kernel
theorem dX3_init_36 : decode cX3_init 36 = .ok (.aload_n 0, 1) := by decide +kernel
theorem dX3_init_37 : decode cX3_init 37 = .ok (.bipush 10, 2) := by decide +kernel
theorem dX3_init_39 : decode cX3_init 39 = .ok (.newarray .int, 2) := by decide +kernel
theorem dX3_init_41 : decode cX3_init 41 = .ok (.putfield 24, 3) := by decide +kernel
theorem dX3_init_44 : decode cX3_init 44 = .ok (.return_, 1) := by decide +kernel
theorem dX3_clear_0 : decode cX3_clear 0 = .ok (.aload_n 0, 1) := by decide +kernel
theorem dX3_clear_1 : decode cX3_clear 1 = .ok (.iconst 0, 1) := by decide +kernel
theorem dX3_clear_2 : decode cX3_clear 2 = .ok (.putfield 27, 3) := by decide +kernel
theorem dX3_clear_5 : decode cX3_clear 5 = .ok (.aload_n 0, 1) := by decide +kernel
theorem dX3_clear_6 : decode cX3_clear 6 = .ok (.iconst 0, 1) := by decide +kernel
theorem dX3_clear_7 : decode cX3_clear 7 = .ok (.putfield 31, 3) := by decide +kernel
theorem dX3_clear_10 : decode cX3_clear 10 = .ok (.aload_n 0, 1) := by decide +kernel
theorem dX3_clear_11 : decode cX3_clear 11 = .ok (.getfield 18, 3) := by decide +kernel
theorem dX3_clear_14 : decode cX3_clear 14 = .ok (.iconst (-1), 1) := by decide +kernel
theorem dX3_clear_15 : decode cX3_clear 15 = .ok (.invokestatic 35, 3) := by decide +kernel
theorem dX3_clear_18 : decode cX3_clear 18 = .ok (.aload_n 0, 1) := by decide +kernel
theorem dX3_clear_19 : decode cX3_clear 19 = .ok (.getfield 21, 3) := by decide +kernel
theorem dX3_clear_22 : decode cX3_clear 22 = .ok (.iconst (-1), 1) := by decide +kernel
theorem dX3_clear_23 : decode cX3_clear 23 = .ok (.invokestatic 35, 3) := by decide +kernel
theorem dX3_clear_26 : decode cX3_clear 26 = .ok (.aload_n 0, 1) := by decide +kernel
theorem dX3_clear_27 : decode cX3_clear 27 = .ok (.getfield 24, 3) := by decide +kernel
theorem dX3_clear_30 : decode cX3_clear 30 = .ok (.iconst 0, 1) := by decide +kernel
theorem dX3_clear_31 : decode cX3_clear 31 = .ok (.invokestatic 35, 3) := by decide +kernel
theorem dX3_clear_34 : decode cX3_clear 34 = .ok (.aload_n 0, 1) := by decide +kernel
theorem dX3_clear_35 : decode cX3_clear 35 = .ok (.iconst 0, 1) := by decide +kernel
theorem dX3_clear_36 : decode cX3_clear 36 = .ok (.putfield 39, 3) := by decide +kernel
theorem dX3_clear_39 : decode cX3_clear 39 = .ok (.aload_n 0, 1) := by decide +kernel
theorem dX3_clear_40 : decode cX3_clear 40 = .ok (.iconst (-1), 1) := by decide +kernel
theorem dX3_clear_41 : decode cX3_clear 41 = .ok (.putfield 42, 3) := by decide +kernel
theorem dX3_clear_44 : decode cX3_clear 44 = .ok (.aload_n 0, 1) := by decide +kernel
theorem dX3_clear_45 : decode cX3_clear 45 = .ok (.iconst (-1), 1) := by decide +kernel
theorem dX3_clear_46 : decode cX3_clear 46 = .ok (.putfield 45, 3) := by decide +kernel
theorem dX3_clear_49 : decode cX3_clear 49 = .ok (.aload_n 0, 1) := by decide +kernel
theorem dX3_clear_50 : decode cX3_clear 50 = .ok (.iconst (-1), 1) := by decide +kernel
theorem dX3_clear_51 : decode cX3_clear 51 = .ok (.putfield 48, 3) := by decide +kernel
theorem dX3_clear_54 : decode cX3_clear 54 = .ok (.aload_n 0, 1) := by decide +kernel
theorem dX3_clear_55 : decode cX3_clear 55 = .ok (.iconst (-1), 1) := by decide +kernel
theorem dX3_clear_56 : decode cX3_clear 56 = .ok (.putfield 51, 3) := by decide +kernel
theorem dX3_clear_59 : decode cX3_clear 59 = .ok (.aload_n 0, 1) := by decide +kernel
theorem dX3_clear_60 : decode cX3_clear 60 = .ok (.iconst (-1), 1) := by decide +kernel
theorem dX3_clear_61 : decode cX3_clear 61 = .ok (.putfield 54, 3) := by decide +kernel
theorem dX3_clear_64 : decode cX3_clear 64 = .ok (.aload_n 0, 1) := by decide +kernel
theorem dX3_clear_65 : decode cX3_clear 65 = .ok (.iconst (-1), 1) := by decide +kernel
theorem dX3_clear_66 : decode cX3_clear 66 = .ok (.putfield 57, 3) := by decide +kernel
theorem dX3_clear_69 : decode cX3_clear 69 = .ok (.aload_n 0, 1) := by decide +kernel
theorem dX3_clear_70 : decode cX3_clear 70 = .ok (.iconst (-1), 1) := by decide +kernel
theorem dX3_clear_71 : decode cX3_clear 71 = .ok (.putfield 60, 3) := by decide +kernel
theorem dX3_clear_74 : decode cX3_clear 74 = .ok (.return_, 1) := by decide +kernel
theorem dX3_addStep_0 : decode cX3_addStep 0 = .ok (.aload_n 0, 1) := by decide +kernel
theorem dX3_addStep_1 : decode cX3_addStep 1 = .ok (.getfield 9, 3) := by decide +kernel
theorem dX3_addStep_4 : decode cX3_addStep 4 = .ok (.aload_n 0, 1) := by decide +kernel
theorem dX3_addStep_5 : decode cX3_addStep 5 = .ok (.getfield 31, 3) := by decide +kernel
theorem dX3_addStep_8 : decode cX3_addStep 8 = .ok (.iload_n 1, 1) := by decide +kernel
theorem dX3_addStep_9 : decode cX3_addStep 9 = .ok (.invokestatic 63, 3) := by decide +kernel
theorem dX3_addStep_12 : decode cX3_addStep 12 = .ok (.aload_n 0, 1) := by decide +kernel
theorem dX3_addStep_13 : decode cX3_addStep 13 = .ok (.getfield 15, 3) := by decide +kernel
theorem dX3_addStep_16 : decode cX3_addStep 16 = .ok (.aload_n 0, 1) := by decide +kernel
theorem dX3_addStep_17 : decode cX3_addStep 17 = .ok (.getfield 31, 3) := by decide +kernel
theorem dX3_addStep_20 : decode cX3_addStep 20 = .ok (.iload_n 2, 1) := by decide +kernel
theorem dX3_addStep_21 : decode cX3_addStep 21 = .ok (.invokestatic 63, 3) := by decide +kernel
theorem dX3_addStep_24 : decode cX3_addStep 24 = .ok (.aload_n 0, 1) := by decide +kernel
theorem dX3_addStep_25 : decode cX3_addStep 25 = .ok (.dup, 1) := by decide +kernel
theorem dX3_addStep_26 : decode cX3_addStep 26 = .ok (.getfield 31, 3) := by decide +kernel
theorem dX3_addStep_29 : decode cX3_addStep 29 = .ok (.iconst 1, 1) := by decide +kernel
theorem dX3_addStep_30 : decode cX3_addStep 30 = .ok (.iadd, 1) := by decide +kernel
theorem dX3_addStep_31 : decode cX3_addStep 31 = .ok (.putfield 31, 3) := by decide +kernel
theorem dX3_addStep_34 : decode cX3_addStep 34 = .ok (.return_, 1) := by decide +kernel
theorem dX3_exclude_0 : decode cX3_exclude 0 = .ok (.aload_n 0, 1) := by decide +kernel
theorem dX3_exclude_1 : decode cX3_exclude 1 = .ok (.getfield 24, 3) := by decide +kernel
theorem dX3_exclude_4 : decode cX3_exclude 4 = .ok (.iload_n 1, 1) := by decide +kernel
theorem dX3_exclude_5 : decode cX3_exclude 5 = .ok (.aload_n 0, 1) := by decide +kernel
theorem dX3_exclude_6 : decode cX3_exclude 6 = .ok (.getfield 24, 3) := by decide +kernel
theorem dX3_exclude_9 : decode cX3_exclude 9 = .ok (.iload_n 1, 1) := by decide +kernel
theorem dX3_exclude_10 : decode cX3_exclude 10 = .ok (.invokestatic 67, 3) := by decide +kernel
theorem dX3_exclude_13 : decode cX3_exclude 13 = .ok (.iconst 1, 1) := by decide +kernel
theorem dX3_exclude_14 : decode cX3_exclude 14 = .ok (.iload_n 2, 1) := by decide +kernel
theorem dX3_exclude_15 : decode cX3_exclude 15 = .ok (.ishl, 1) := by decide +kernel
theorem dX3_exclude_16 : decode cX3_exclude 16 = .ok (.ior, 1) := by decide +kernel
theorem dX3_exclude_17 : decode cX3_exclude 17 = .ok (.invokestatic 63, 3) := by decide +kernel
theorem dX3_exclude_20 : decode cX3_exclude 20 = .ok (.aload_n 0, 1) := by decide +kernel
theorem dX3_exclude_21 : decode cX3_exclude 21 = .ok (.getfield 24, 3) := by decide +kernel
theorem dX3_exclude_24 : decode cX3_exclude 24 = .ok (.iload_n 2, 1) := by decide +kernel
theorem dX3_exclude_25 : decode cX3_exclude 25 = .ok (.aload_n 0, 1) := by decide +kernel
theorem dX3_exclude_26 : decode cX3_exclude 26 = .ok (.getfield 24, 3) := by decide +kernel
theorem dX3_exclude_29 : decode cX3_exclude 29 = .ok (.iload_n 2, 1) := by decide +kernel
theorem dX3_exclude_30 : decode cX3_exclude 30 = .ok (.invokestatic 67, 3) := by decide +kernel
theorem dX3_exclude_33 : decode cX3_exclude 33 = .ok (.iconst 1, 1) := by decide +kernel
theorem dX3_exclude_34 : decode cX3_exclude 34 = .ok (.iload_n 1, 1) := by decide +kernel
theorem dX3_exclude_35 : decode cX3_exclude 35 = .ok (.ishl, 1) := by decide +kernel
theorem dX3_exclude_36 : decode cX3_exclude 36 = .ok (.ior, 1) := by decide +kernel
theorem dX3_exclude_37 : decode cX3_exclude 37 = .ok (.invokestatic 63, 3) := by decide +kernel
theorem dX3_exclude_40 : decode cX3_exclude 40 = .ok (.aload_n 0, 1) := by decide +kernel
theorem dX3_exclude_41 : decode cX3_exclude 41 = .ok (.dup, 1) := by decide +kernel
theorem dX3_exclude_42 : decode cX3_exclude 42 = .ok (.getfield 39, 3) := by decide +kernel
theorem dX3_exclude_45 : decode cX3_exclude 45 = .ok (.iconst 1, 1) := by decide +kernel
theorem dX3_exclude_46 : decode cX3_exclude 46 = .ok (.iadd, 1) := by decide +kernel
theorem dX3_exclude_47 : decode cX3_exclude 47 = .ok (.putfield 39, 3) := by decide +kernel
theorem dX3_exclude_50 : decode cX3_exclude 50 = .ok (.return_, 1) := by decide +kernel
theorem dX3_excludes_0 : decode cX3_excludes 0 = .ok (.aload_n 0, 1) := by decide +kernel
theorem dX3_excludes_1 : decode cX3_excludes 1 = .ok (.getfield 24, 3) := by decide +kernel
theorem dX3_excludes_4 : decode cX3_excludes 4 = .ok (.iload_n 1, 1) := by decide +kernel
theorem dX3_excludes_5 : decode cX3_excludes 5 = .ok (.invokestatic 67, 3) := by decide +kernel
theorem dX3_excludes_8 : decode cX3_excludes 8 = .ok (.iconst 1, 1) := by decide +kernel
theorem dX3_excludes_9 : decode cX3_excludes 9 = .ok (.iload_n 2, 1) := by decide +kernel
theorem dX3_excludes_10 : decode cX3_excludes 10 = .ok (.ishl, 1) := by decide +kernel
theorem dX3_excludes_11 : decode cX3_excludes 11 = .ok (.iand, 1) := by decide +kernel
theorem dX3_excludes_12 : decode cX3_excludes 12 = .ok (.ifCond .eq 7, 3) := by decide +kernel
theorem dX3_excludes_15 : decode cX3_excludes 15 = .ok (.iconst 1, 1) := by decide +kernel
theorem dX3_excludes_16 : decode cX3_excludes 16 = .ok (.goto 4, 3) := by decide +kernel
theorem dX3_excludes_19 : decode cX3_excludes 19 = .ok (.iconst 0, 1) := by decide +kernel
theorem dX3_excludes_20 : decode cX3_excludes 20 = .ok (.ireturn, 1) := by decide +kernel
theorem dX3_lastWeight_0 : decode cX3_lastWeight 0 = .ok (.aload_n 0, 1) := by decide +kernel
theorem dX3_lastWeight_1 : decode cX3_lastWeight 1 = .ok (.getfield 31, 3) := by decide +kernel
theorem dX3_lastWeight_4 : decode cX3_lastWeight 4 = .ok (.ifCond .le 19, 3) := by decide +kernel
theorem dX3_lastWeight_7 : decode cX3_lastWeight 7 = .ok (.aload_n 0, 1) := by decide +kernel
theorem dX3_lastWeight_8 : decode cX3_lastWeight 8 = .ok (.getfield 9, 3) := by decide +kernel
theorem dX3_lastWeight_11 : decode cX3_lastWeight 11 = .ok (.aload_n 0, 1) := by decide +kernel
theorem dX3_lastWeight_12 : decode cX3_lastWeight 12 = .ok (.getfield 31, 3) := by decide +kernel
theorem dX3_lastWeight_15 : decode cX3_lastWeight 15 = .ok (.iconst 1, 1) := by decide +kernel
theorem dX3_lastWeight_16 : decode cX3_lastWeight 16 = .ok (.isub, 1) := by decide +kernel
theorem dX3_lastWeight_17 : decode cX3_lastWeight 17 = .ok (.invokestatic 67, 3) := by decide +kernel
theorem dX3_lastWeight_20 : decode cX3_lastWeight 20 = .ok (.goto 4, 3) := by decide +kernel
theorem dX3_lastWeight_23 : decode cX3_lastWeight 23 = .ok (.iconst 0, 1) := by decide +kernel
theorem dX3_lastWeight_24 : decode cX3_lastWeight 24 = .ok (.ireturn, 1) := by decide +kernel
theorem dX3_takes_0 : decode cX3_takes 0 = .ok (.aload_n 0, 1) := by decide +kernel
theorem dX3_takes_1 : decode cX3_takes 1 = .ok (.getfield 54, 3) := by decide +kernel
theorem dX3_takes_4 : decode cX3_takes 4 = .ok (.iconst (-1), 1) := by decide +kernel
theorem dX3_takes_5 : decode cX3_takes 5 = .ok (.if_icmp .eq 23, 3) := by decide +kernel
theorem dX3_takes_8 : decode cX3_takes 8 = .ok (.lload_n 3, 1) := by decide +kernel
theorem dX3_takes_9 : decode cX3_takes 9 = .ok (.aload_n 0, 1) := by decide +kernel
theorem dX3_takes_10 : decode cX3_takes 10 = .ok (.getfield 54, 3) := by decide +kernel
theorem dX3_takes_13 : decode cX3_takes 13 = .ok (.i2l, 1) := by decide +kernel
theorem dX3_takes_14 : decode cX3_takes 14 = .ok (.lcmp, 1) := by decide +kernel
theorem dX3_takes_15 : decode cX3_takes 15 = .ok (.ifCond .lt 17, 3) := by decide +kernel
theorem dX3_takes_18 : decode cX3_takes 18 = .ok (.lload_n 3, 1) := by decide +kernel
theorem dX3_takes_19 : decode cX3_takes 19 = .ok (.aload_n 0, 1) := by decide +kernel
theorem dX3_takes_20 : decode cX3_takes 20 = .ok (.getfield 57, 3) := by decide +kernel
theorem dX3_takes_23 : decode cX3_takes 23 = .ok (.i2l, 1) := by decide +kernel
theorem dX3_takes_24 : decode cX3_takes 24 = .ok (.lcmp, 1) := by decide +kernel
theorem dX3_takes_25 : decode cX3_takes 25 = .ok (.ifCond .gt 7, 3) := by decide +kernel
theorem dX3_takes_28 : decode cX3_takes 28 = .ok (.iconst 1, 1) := by decide +kernel
theorem dX3_takes_29 : decode cX3_takes 29 = .ok (.goto 4, 3) := by decide +kernel
theorem dX3_takes_32 : decode cX3_takes 32 = .ok (.iconst 0, 1) := by decide +kernel
theorem dX3_takes_33 : decode cX3_takes 33 = .ok (.istore 5, 2) := by decide +kernel
theorem dX3_takes_35 : decode cX3_takes 35 = .ok (.aload_n 0, 1) := by decide +kernel
theorem dX3_takes_36 : decode cX3_takes 36 = .ok (.getfield 42, 3) := by decide +kernel
theorem dX3_takes_39 : decode cX3_takes 39 = .ok (.iconst (-1), 1) := by decide +kernel
theorem dX3_takes_40 : decode cX3_takes 40 = .ok (.if_icmp .eq 36, 3) := by decide +kernel
theorem dX3_takes_43 : decode cX3_takes 43 = .ok (.aload_n 1, 1) := by decide +kernel
theorem dX3_takes_44 : decode cX3_takes 44 = .ok (.getfield 71, 3) := by decide +kernel
theorem dX3_takes_47 : decode cX3_takes 47 = .ok (.aload_n 0, 1) := by decide +kernel
theorem dX3_takes_48 : decode cX3_takes 48 = .ok (.getfield 42, 3) := by decide +kernel
theorem dX3_takes_51 : decode cX3_takes 51 = .ok (.if_icmp .gt 29, 3) := by decide +kernel
theorem dX3_takes_54 : decode cX3_takes 54 = .ok (.aload_n 1, 1) := by decide +kernel
theorem dX3_takes_55 : decode cX3_takes 55 = .ok (.getfield 74, 3) := by decide +kernel
theorem dX3_takes_58 : decode cX3_takes 58 = .ok (.aload_n 0, 1) := by decide +kernel
theorem dX3_takes_59 : decode cX3_takes 59 = .ok (.getfield 45, 3) := by decide +kernel
theorem dX3_takes_62 : decode cX3_takes 62 = .ok (.if_icmp .gt 18, 3) := by decide +kernel
theorem dX3_takes_65 : decode cX3_takes 65 = .ok (.aload_n 1, 1) := by decide +kernel
theorem dX3_takes_66 : decode cX3_takes 66 = .ok (.getfield 75, 3) := by decide +kernel
theorem dX3_takes_69 : decode cX3_takes 69 = .ok (.aload_n 0, 1) := by decide +kernel
theorem dX3_takes_70 : decode cX3_takes 70 = .ok (.getfield 48, 3) := by decide +kernel
theorem dX3_takes_73 : decode cX3_takes 73 = .ok (.if_icmp .gt 7, 3) := by decide +kernel
theorem dX3_takes_76 : decode cX3_takes 76 = .ok (.iconst 1, 1) := by decide +kernel
theorem dX3_takes_77 : decode cX3_takes 77 = .ok (.goto 4, 3) := by decide +kernel
theorem dX3_takes_80 : decode cX3_takes 80 = .ok (.iconst 0, 1) := by decide +kernel
theorem dX3_takes_81 : decode cX3_takes 81 = .ok (.istore 6, 2) := by decide +kernel
theorem dX3_takes_83 : decode cX3_takes 83 = .ok (.iload 5, 2) := by decide +kernel
theorem dX3_takes_85 : decode cX3_takes 85 = .ok (.ifCond .eq 32, 3) := by decide +kernel
theorem dX3_takes_88 : decode cX3_takes 88 = .ok (.iload 6, 2) := by decide +kernel
theorem dX3_takes_90 : decode cX3_takes 90 = .ok (.ifCond .eq 27, 3) := by decide +kernel
theorem dX3_takes_93 : decode cX3_takes 93 = .ok (.aload_n 0, 1) := by decide +kernel
theorem dX3_takes_94 : decode cX3_takes 94 = .ok (.getfield 18, 3) := by decide +kernel
theorem dX3_takes_97 : decode cX3_takes 97 = .ok (.iload_n 2, 1) := by decide +kernel
theorem dX3_takes_98 : decode cX3_takes 98 = .ok (.invokestatic 67, 3) := by decide +kernel
theorem dX3_takes_101 : decode cX3_takes 101 = .ok (.iconst (-1), 1) := by decide +kernel
theorem dX3_takes_102 : decode cX3_takes 102 = .ok (.if_icmp .eq 15, 3) := by decide +kernel
theorem dX3_takes_105 : decode cX3_takes 105 = .ok (.aload_n 0, 1) := by decide +kernel
theorem dX3_takes_106 : decode cX3_takes 106 = .ok (.aload_n 1, 1) := by decide +kernel
theorem dX3_takes_107 : decode cX3_takes 107 = .ok (.invokevirtual 76, 3) := by decide +kernel
theorem dX3_takes_110 : decode cX3_takes 110 = .ok (.ifCond .eq 7, 3) := by decide +kernel
theorem dX3_takes_113 : decode cX3_takes 113 = .ok (.iconst 1, 1) := by decide +kernel
theorem dX3_takes_114 : decode cX3_takes 114 = .ok (.goto 4, 3) := by decide +kernel
theorem dX3_takes_117 : decode cX3_takes 117 = .ok (.iconst 0, 1) := by decide +kernel
theorem dX3_takes_118 : decode cX3_takes 118 = .ok (.ireturn, 1) := by decide +kernel
theorem dX3_takesServices_0 : decode cX3_takesServices 0 = .ok (.iconst 0, 1) := by decide +kernel
theorem dX3_takesServices_1 : decode cX3_takesServices 1 = .ok (.istore_n 2, 1) := by decide +kernel
theorem dX3_takesServices_2 : decode cX3_takesServices 2 = .ok (.iload_n 2, 1) := by decide +kernel
theorem dX3_takesServices_3 : decode cX3_takesServices 3 = .ok (.bipush 10, 2) := by decide +kernel
theorem dX3_takesServices_5 : decode cX3_takesServices 5 = .ok (.if_icmp .ge 47, 3) := by decide +kernel
theorem dX3_takesServices_8 : decode cX3_takesServices 8 = .ok (.aload_n 1, 1) := by decide +kernel
theorem dX3_takesServices_9 : decode cX3_takesServices 9 = .ok (.iload_n 2, 1) := by decide +kernel
theorem dX3_takesServices_10 : decode cX3_takesServices 10 = .ok (.invokevirtual 80, 3) := by decide +kernel
theorem dX3_takesServices_13 : decode cX3_takesServices 13 = .ok (.ifCond .eq 33, 3) := by decide +kernel
theorem dX3_takesServices_16 : decode cX3_takesServices 16 = .ok (.aload_n 0, 1) := by decide +kernel
theorem dX3_takesServices_17 : decode cX3_takesServices 17 = .ok (.getfield 21, 3) := by decide +kernel
theorem dX3_takesServices_20 : decode cX3_takesServices 20 = .ok (.iload_n 2, 1) := by decide +kernel
theorem dX3_takesServices_21 : decode cX3_takesServices 21 = .ok (.invokestatic 67, 3) := by decide +kernel
theorem dX3_takesServices_24 : decode cX3_takesServices 24 = .ok (.iconst (-1), 1) := by decide +kernel
theorem dX3_takesServices_25 : decode cX3_takesServices 25 = .ok (.if_icmp .eq 19, 3) := by decide +kernel
theorem dX3_takesServices_28 : decode cX3_takesServices 28 = .ok (.aload_n 0, 1) := by decide +kernel
theorem dX3_takesServices_29 : decode cX3_takesServices 29 = .ok (.getfield 24, 3) := by decide +kernel
theorem dX3_takesServices_32 : decode cX3_takesServices 32 = .ok (.iload_n 2, 1) := by decide +kernel
theorem dX3_takesServices_33 : decode cX3_takesServices 33 = .ok (.invokestatic 67, 3) := by decide +kernel
theorem dX3_takesServices_36 : decode cX3_takesServices 36 = .ok (.aload_n 1, 1) := by decide +kernel
theorem dX3_takesServices_37 : decode cX3_takesServices 37 = .ok (.getfield 84, 3) := by decide +kernel
theorem dX3_takesServices_40 : decode cX3_takesServices 40 = .ok (.iand, 1) := by decide +kernel
theorem dX3_takesServices_41 : decode cX3_takesServices 41 = .ok (.ifCond .eq 5, 3) := by decide +kernel
theorem dX3_takesServices_44 : decode cX3_takesServices 44 = .ok (.iconst 0, 1) := by decide +kernel
theorem dX3_takesServices_45 : decode cX3_takesServices 45 = .ok (.ireturn, 1) := by decide +kernel
theorem dX3_takesServices_46 : decode cX3_takesServices 46 = .ok (.iinc 2 1, 3) := by decide +kernel
theorem dX3_takesServices_49 : decode cX3_takesServices 49 = .ok (.goto (-47), 3) := by decide +kernel
theorem dX3_takesServices_52 : decode cX3_takesServices 52 = .ok (.iconst 1, 1) := by decide +kernel
theorem dX3_takesServices_53 : decode cX3_takesServices 53 = .ok (.ireturn, 1) := by decide +kernel
theorem dX3_weightOf_0 : decode cX3_weightOf 0 = .ok (.aload_n 0, 1) := by decide +kernel
theorem dX3_weightOf_1 : decode cX3_weightOf 1 = .ok (.getfield 51, 3) := by decide +kernel
theorem dX3_weightOf_4 : decode cX3_weightOf 4 = .ok (.iconst (-1), 1) := by decide +kernel
theorem dX3_weightOf_5 : decode cX3_weightOf 5 = .ok (.if_icmp .ne 9, 3) := by decide +kernel
theorem dX3_weightOf_8 : decode cX3_weightOf 8 = .ok (.aload_n 1, 1) := by decide +kernel
theorem dX3_weightOf_9 : decode cX3_weightOf 9 = .ok (.getfield 86, 3) := by decide +kernel
theorem dX3_weightOf_12 : decode cX3_weightOf 12 = .ok (.i2l, 1) := by decide +kernel
theorem dX3_weightOf_13 : decode cX3_weightOf 13 = .ok (.lreturn, 1) := by decide +kernel
theorem dX3_weightOf_14 : decode cX3_weightOf 14 = .ok (.aload_n 1, 1) := by decide +kernel
theorem dX3_weightOf_15 : decode cX3_weightOf 15 = .ok (.getfield 86, 3) := by decide +kernel
theorem dX3_weightOf_18 : decode cX3_weightOf 18 = .ok (.i2l, 1) := by decide +kernel
theorem dX3_weightOf_19 : decode cX3_weightOf 19 = .ok (.aload_n 1, 1) := by decide +kernel
theorem dX3_weightOf_20 : decode cX3_weightOf 20 = .ok (.getfield 71, 3) := by decide +kernel
theorem dX3_weightOf_23 : decode cX3_weightOf 23 = .ok (.i2l, 1) := by decide +kernel
theorem dX3_weightOf_24 : decode cX3_weightOf 24 = .ok (.aload_n 1, 1) := by decide +kernel
theorem dX3_weightOf_25 : decode cX3_weightOf 25 = .ok (.getfield 74, 3) := by decide +kernel
theorem dX3_weightOf_28 : decode cX3_weightOf 28 = .ok (.i2l, 1) := by decide +kernel
theorem dX3_weightOf_29 : decode cX3_weightOf 29 = .ok (.lmul, 1) := by decide +kernel
theorem dX3_weightOf_30 : decode cX3_weightOf 30 = .ok (.aload_n 1, 1) := by decide +kernel
theorem dX3_weightOf_31 : decode cX3_weightOf 31 = .ok (.getfield 75, 3) := by decide +kernel
theorem dX3_weightOf_34 : decode cX3_weightOf 34 = .ok (.i2l, 1) := by decide +kernel
theorem dX3_weightOf_35 : decode cX3_weightOf 35 = .ok (.lmul, 1) := by decide +kernel
theorem dX3_weightOf_36 : decode cX3_weightOf 36 = .ok (.aload_n 0, 1) := by decide +kernel
theorem dX3_weightOf_37 : decode cX3_weightOf 37 = .ok (.getfield 51, 3) := by decide +kernel
theorem dX3_weightOf_40 : decode cX3_weightOf 40 = .ok (.i2l, 1) := by decide +kernel
theorem dX3_weightOf_41 : decode cX3_weightOf 41 = .ok (.invokestatic 89, 3) := by decide +kernel
theorem dX3_weightOf_44 : decode cX3_weightOf 44 = .ok (.invokestatic 93, 3) := by decide +kernel
theorem dX3_weightOf_47 : decode cX3_weightOf 47 = .ok (.lreturn, 1) := by decide +kernel
theorem dX3_stepFor_0 : decode cX3_stepFor 0 = .ok (.iconst 0, 1) := by decide +kernel
theorem dX3_stepFor_1 : decode cX3_stepFor 1 = .ok (.istore_n 3, 1) := by decide +kernel
theorem dX3_stepFor_2 : decode cX3_stepFor 2 = .ok (.iload_n 3, 1) := by decide +kernel
theorem dX3_stepFor_3 : decode cX3_stepFor 3 = .ok (.aload_n 0, 1) := by decide +kernel
theorem dX3_stepFor_4 : decode cX3_stepFor 4 = .ok (.getfield 31, 3) := by decide +kernel
theorem dX3_stepFor_7 : decode cX3_stepFor 7 = .ok (.if_icmp .ge 25, 3) := by decide +kernel
theorem dX3_stepFor_10 : decode cX3_stepFor 10 = .ok (.aload_n 0, 1) := by decide +kernel
theorem dX3_stepFor_11 : decode cX3_stepFor 11 = .ok (.getfield 9, 3) := by decide +kernel
theorem dX3_stepFor_14 : decode cX3_stepFor 14 = .ok (.iload_n 3, 1) := by decide +kernel
theorem dX3_stepFor_15 : decode cX3_stepFor 15 = .ok (.invokestatic 67, 3) := by decide +kernel
theorem dX3_stepFor_18 : decode cX3_stepFor 18 = .ok (.i2l, 1) := by decide +kernel
theorem dX3_stepFor_19 : decode cX3_stepFor 19 = .ok (.lload_n 1, 1) := by decide +kernel
theorem dX3_stepFor_20 : decode cX3_stepFor 20 = .ok (.lcmp, 1) := by decide +kernel
theorem dX3_stepFor_21 : decode cX3_stepFor 21 = .ok (.ifCond .lt 5, 3) := by decide +kernel
theorem dX3_stepFor_24 : decode cX3_stepFor 24 = .ok (.iload_n 3, 1) := by decide +kernel
theorem dX3_stepFor_25 : decode cX3_stepFor 25 = .ok (.ireturn, 1) := by decide +kernel
theorem dX3_stepFor_26 : decode cX3_stepFor 26 = .ok (.iinc 3 1, 3) := by decide +kernel
theorem dX3_stepFor_29 : decode cX3_stepFor 29 = .ok (.goto (-27), 3) := by decide +kernel
theorem dX3_stepFor_32 : decode cX3_stepFor 32 = .ok (.iconst (-1), 1) := by decide +kernel
theorem dX3_stepFor_33 : decode cX3_stepFor 33 = .ok (.ireturn, 1) := by decide +kernel
theorem dX3_hasSameStepsAs_0 : decode cX3_hasSameStepsAs 0 = .ok (.aload_n 0, 1) := by decide +kernel
theorem dX3_hasSameStepsAs_1 : decode cX3_hasSameStepsAs 1 = .ok (.getfield 31, 3) := by decide +kernel
theorem dX3_hasSameStepsAs_4 : decode cX3_hasSameStepsAs 4 = .ok (.aload_n 1, 1) := by decide +kernel
theorem dX3_hasSameStepsAs_5 : decode cX3_hasSameStepsAs 5 = .ok (.getfield 31, 3) := by decide +kernel
theorem dX3_hasSameStepsAs_8 : decode cX3_hasSameStepsAs 8 = .ok (.if_icmp .eq 5, 3) := by decide +kernel
theorem dX3_hasSameStepsAs_11 : decode cX3_hasSameStepsAs 11 = .ok (.iconst 0, 1) := by decide +kernel
theorem dX3_hasSameStepsAs_12 : decode cX3_hasSameStepsAs 12 = .ok (.ireturn, 1) := by decide +kernel
theorem dX3_hasSameStepsAs_13 : decode cX3_hasSameStepsAs 13 = .ok (.iconst 0, 1) := by decide +kernel
theorem dX3_hasSameStepsAs_14 : decode cX3_hasSameStepsAs 14 = .ok (.istore_n 2, 1) := by decide +kernel
theorem dX3_hasSameStepsAs_15 : decode cX3_hasSameStepsAs 15 = .ok (.iload_n 2, 1) := by decide +kernel
theorem dX3_hasSameStepsAs_16 : decode cX3_hasSameStepsAs 16 = .ok (.aload_n 0, 1) := by decide +kernel
theorem dX3_hasSameStepsAs_17 : decode cX3_hasSameStepsAs 17 = .ok (.getfield 31, 3) := by decide +kernel
theorem dX3_hasSameStepsAs_20 : decode cX3_hasSameStepsAs 20 = .ok (.if_icmp .ge 49, 3) := by decide +kernel
theorem dX3_hasSameStepsAs_23 : decode cX3_hasSameStepsAs 23 = .ok (.aload_n 0, 1) := by decide +kernel
theorem dX3_hasSameStepsAs_24 : decode cX3_hasSameStepsAs 24 = .ok (.getfield 9, 3) := by decide +kernel
theorem dX3_hasSameStepsAs_27 : decode cX3_hasSameStepsAs 27 = .ok (.iload_n 2, 1) := by decide +kernel
theorem dX3_hasSameStepsAs_28 : decode cX3_hasSameStepsAs 28 = .ok (.invokestatic 67, 3) := by decide +kernel
theorem dX3_hasSameStepsAs_31 : decode cX3_hasSameStepsAs 31 = .ok (.aload_n 1, 1) := by decide +kernel
theorem dX3_hasSameStepsAs_32 : decode cX3_hasSameStepsAs 32 = .ok (.getfield 9, 3) := by decide +kernel
theorem dX3_hasSameStepsAs_35 : decode cX3_hasSameStepsAs 35 = .ok (.iload_n 2, 1) := by decide +kernel
theorem dX3_hasSameStepsAs_36 : decode cX3_hasSameStepsAs 36 = .ok (.invokestatic 67, 3) := by decide +kernel
theorem dX3_hasSameStepsAs_39 : decode cX3_hasSameStepsAs 39 = .ok (.if_icmp .ne 22, 3) := by decide +kernel
theorem dX3_hasSameStepsAs_42 : decode cX3_hasSameStepsAs 42 = .ok (.aload_n 0, 1) := by decide +kernel
theorem dX3_hasSameStepsAs_43 : decode cX3_hasSameStepsAs 43 = .ok (.getfield 15, 3) := by decide +kernel
theorem dX3_hasSameStepsAs_46 : decode cX3_hasSameStepsAs 46 = .ok (.iload_n 2, 1) := by decide +kernel
theorem dX3_hasSameStepsAs_47 : decode cX3_hasSameStepsAs 47 = .ok (.invokestatic 67, 3) := by decide +kernel
theorem dX3_hasSameStepsAs_50 : decode cX3_hasSameStepsAs 50 = .ok (.aload_n 1, 1) := by decide +kernel
theorem dX3_hasSameStepsAs_51 : decode cX3_hasSameStepsAs 51 = .ok (.getfield 15, 3) := by decide +kernel
theorem dX3_hasSameStepsAs_54 : decode cX3_hasSameStepsAs 54 = .ok (.iload_n 2, 1) := by decide +kernel
theorem dX3_hasSameStepsAs_55 : decode cX3_hasSameStepsAs 55 = .ok (.invokestatic 67, 3) := by decide +kernel
theorem dX3_hasSameStepsAs_58 : decode cX3_hasSameStepsAs 58 = .ok (.if_icmp .eq 5, 3) := by decide +kernel
theorem dX3_hasSameStepsAs_61 : decode cX3_hasSameStepsAs 61 = .ok (.iconst 0, 1) := by decide +kernel
theorem dX3_hasSameStepsAs_62 : decode cX3_hasSameStepsAs 62 = .ok (.ireturn, 1) := by decide +kernel
theorem dX3_hasSameStepsAs_63 : decode cX3_hasSameStepsAs 63 = .ok (.iinc 2 1, 3) := by decide +kernel
theorem dX3_hasSameStepsAs_66 : decode cX3_hasSameStepsAs 66 = .ok (.goto (-51), 3) := by decide +kernel
theorem dX3_hasSameStepsAs_69 : decode cX3_hasSameStepsAs 69 = .ok (.iconst 1, 1) := by decide +kernel
theorem dX3_hasSameStepsAs_70 : decode cX3_hasSameStepsAs 70 = .ok (.ireturn, 1) := by decide +kernel
theorem dX3_hasSameNamesAs_0 : decode cX3_hasSameNamesAs 0 = .ok (.iconst 0, 1) := by decide +kernel
theorem dX3_hasSameNamesAs_1 : decode cX3_hasSameNamesAs 1 = .ok (.istore_n 2, 1) := by decide +kernel
theorem dX3_hasSameNamesAs_2 : decode cX3_hasSameNamesAs 2 = .ok (.iload_n 2, 1) := by decide +kernel
theorem dX3_hasSameNamesAs_3 : decode cX3_hasSameNamesAs 3 = .ok (.bipush 10, 2) := by decide +kernel
theorem dX3_hasSameNamesAs_5 : decode cX3_hasSameNamesAs 5 = .ok (.if_icmp .ge 68, 3) := by decide +kernel
theorem dX3_hasSameNamesAs_8 : decode cX3_hasSameNamesAs 8 = .ok (.aload_n 0, 1) := by decide +kernel
theorem dX3_hasSameNamesAs_9 : decode cX3_hasSameNamesAs 9 = .ok (.getfield 18, 3) := by decide +kernel
theorem dX3_hasSameNamesAs_12 : decode cX3_hasSameNamesAs 12 = .ok (.iload_n 2, 1) := by decide +kernel
theorem dX3_hasSameNamesAs_13 : decode cX3_hasSameNamesAs 13 = .ok (.invokestatic 67, 3) := by decide +kernel
theorem dX3_hasSameNamesAs_16 : decode cX3_hasSameNamesAs 16 = .ok (.aload_n 1, 1) := by decide +kernel
theorem dX3_hasSameNamesAs_17 : decode cX3_hasSameNamesAs 17 = .ok (.getfield 18, 3) := by decide +kernel
theorem dX3_hasSameNamesAs_20 : decode cX3_hasSameNamesAs 20 = .ok (.iload_n 2, 1) := by decide +kernel
theorem dX3_hasSameNamesAs_21 : decode cX3_hasSameNamesAs 21 = .ok (.invokestatic 67, 3) := by decide +kernel
theorem dX3_hasSameNamesAs_24 : decode cX3_hasSameNamesAs 24 = .ok (.if_icmp .ne 41, 3) := by decide +kernel
theorem dX3_hasSameNamesAs_27 : decode cX3_hasSameNamesAs 27 = .ok (.aload_n 0, 1) := by decide +kernel
theorem dX3_hasSameNamesAs_28 : decode cX3_hasSameNamesAs 28 = .ok (.getfield 21, 3) := by decide +kernel
theorem dX3_hasSameNamesAs_31 : decode cX3_hasSameNamesAs 31 = .ok (.iload_n 2, 1) := by decide +kernel
theorem dX3_hasSameNamesAs_32 : decode cX3_hasSameNamesAs 32 = .ok (.invokestatic 67, 3) := by decide +kernel
theorem dX3_hasSameNamesAs_35 : decode cX3_hasSameNamesAs 35 = .ok (.aload_n 1, 1) := by decide +kernel
theorem dX3_hasSameNamesAs_36 : decode cX3_hasSameNamesAs 36 = .ok (.getfield 21, 3) := by decide +kernel
theorem dX3_hasSameNamesAs_39 : decode cX3_hasSameNamesAs 39 = .ok (.iload_n 2, 1) := by decide +kernel
theorem dX3_hasSameNamesAs_40 : decode cX3_hasSameNamesAs 40 = .ok (.invokestatic 67, 3) := by decide +kernel
theorem dX3_hasSameNamesAs_43 : decode cX3_hasSameNamesAs 43 = .ok (.if_icmp .ne 22, 3) := by decide +kernel
theorem dX3_hasSameNamesAs_46 : decode cX3_hasSameNamesAs 46 = .ok (.aload_n 0, 1) := by decide +kernel
theorem dX3_hasSameNamesAs_47 : decode cX3_hasSameNamesAs 47 = .ok (.getfield 24, 3) := by decide +kernel
theorem dX3_hasSameNamesAs_50 : decode cX3_hasSameNamesAs 50 = .ok (.iload_n 2, 1) := by decide +kernel
theorem dX3_hasSameNamesAs_51 : decode cX3_hasSameNamesAs 51 = .ok (.invokestatic 67, 3) := by decide +kernel
theorem dX3_hasSameNamesAs_54 : decode cX3_hasSameNamesAs 54 = .ok (.aload_n 1, 1) := by decide +kernel
theorem dX3_hasSameNamesAs_55 : decode cX3_hasSameNamesAs 55 = .ok (.getfield 24, 3) := by decide +kernel
theorem dX3_hasSameNamesAs_58 : decode cX3_hasSameNamesAs 58 = .ok (.iload_n 2, 1) := by decide +kernel
theorem dX3_hasSameNamesAs_59 : decode cX3_hasSameNamesAs 59 = .ok (.invokestatic 67, 3) := by decide +kernel
theorem dX3_hasSameNamesAs_62 : decode cX3_hasSameNamesAs 62 = .ok (.if_icmp .eq 5, 3) := by decide +kernel
theorem dX3_hasSameNamesAs_65 : decode cX3_hasSameNamesAs 65 = .ok (.iconst 0, 1) := by decide +kernel
theorem dX3_hasSameNamesAs_66 : decode cX3_hasSameNamesAs 66 = .ok (.ireturn, 1) := by decide +kernel
theorem dX3_hasSameNamesAs_67 : decode cX3_hasSameNamesAs 67 = .ok (.iinc 2 1, 3) := by decide +kernel
theorem dX3_hasSameNamesAs_70 : decode cX3_hasSameNamesAs 70 = .ok (.goto (-68), 3) := by decide +kernel
theorem dX3_hasSameNamesAs_73 : decode cX3_hasSameNamesAs 73 = .ok (.iconst 1, 1) := by decide +kernel
theorem dX3_hasSameNamesAs_74 : decode cX3_hasSameNamesAs 74 = .ok (.ireturn, 1) := by decide +kernel
theorem dX3_hasSameLimitsAs_0 : decode cX3_hasSameLimitsAs 0 = .ok (.aload_n 0, 1) := by decide +kernel
theorem dX3_hasSameLimitsAs_1 : decode cX3_hasSameLimitsAs 1 = .ok (.getfield 42, 3) := by decide +kernel
theorem dX3_hasSameLimitsAs_4 : decode cX3_hasSameLimitsAs 4 = .ok (.aload_n 1, 1) := by decide +kernel
theorem dX3_hasSameLimitsAs_5 : decode cX3_hasSameLimitsAs 5 = .ok (.getfield 42, 3) := by decide +kernel
theorem dX3_hasSameLimitsAs_8 : decode cX3_hasSameLimitsAs 8 = .ok (.if_icmp .ne 73, 3) := by decide +kernel
theorem dX3_hasSameLimitsAs_11 : decode cX3_hasSameLimitsAs 11 = .ok (.aload_n 0, 1) := by decide +kernel
theorem dX3_hasSameLimitsAs_12 : decode cX3_hasSameLimitsAs 12 = .ok (.getfield 45, 3) := by decide +kernel
theorem dX3_hasSameLimitsAs_15 : decode cX3_hasSameLimitsAs 15 = .ok (.aload_n 1, 1) := by decide +kernel
theorem dX3_hasSameLimitsAs_16 : decode cX3_hasSameLimitsAs 16 = .ok (.getfield 45, 3) := by decide +kernel
theorem dX3_hasSameLimitsAs_19 : decode cX3_hasSameLimitsAs 19 = .ok (.if_icmp .ne 62, 3) := by decide +kernel
theorem dX3_hasSameLimitsAs_22 : decode cX3_hasSameLimitsAs 22 = .ok (.aload_n 0, 1) := by decide +kernel
theorem dX3_hasSameLimitsAs_23 : decode cX3_hasSameLimitsAs 23 = .ok (.getfield 48, 3) := by decide +kernel
theorem dX3_hasSameLimitsAs_26 : decode cX3_hasSameLimitsAs 26 = .ok (.aload_n 1, 1) := by decide +kernel
theorem dX3_hasSameLimitsAs_27 : decode cX3_hasSameLimitsAs 27 = .ok (.getfield 48, 3) := by decide +kernel
theorem dX3_hasSameLimitsAs_30 : decode cX3_hasSameLimitsAs 30 = .ok (.if_icmp .ne 51, 3) := by decide +kernel
theorem dX3_hasSameLimitsAs_33 : decode cX3_hasSameLimitsAs 33 = .ok (.aload_n 0, 1) := by decide +kernel
theorem dX3_hasSameLimitsAs_34 : decode cX3_hasSameLimitsAs 34 = .ok (.getfield 51, 3) := by decide +kernel
theorem dX3_hasSameLimitsAs_37 : decode cX3_hasSameLimitsAs 37 = .ok (.aload_n 1, 1) := by decide +kernel
theorem dX3_hasSameLimitsAs_38 : decode cX3_hasSameLimitsAs 38 = .ok (.getfield 51, 3) := by decide +kernel
theorem dX3_hasSameLimitsAs_41 : decode cX3_hasSameLimitsAs 41 = .ok (.if_icmp .ne 40, 3) := by decide +kernel
theorem dX3_hasSameLimitsAs_44 : decode cX3_hasSameLimitsAs 44 = .ok (.aload_n 0, 1) := by decide +kernel
theorem dX3_hasSameLimitsAs_45 : decode cX3_hasSameLimitsAs 45 = .ok (.getfield 54, 3) := by decide +kernel
theorem dX3_hasSameLimitsAs_48 : decode cX3_hasSameLimitsAs 48 = .ok (.aload_n 1, 1) := by decide +kernel
theorem dX3_hasSameLimitsAs_49 : decode cX3_hasSameLimitsAs 49 = .ok (.getfield 54, 3) := by decide +kernel
theorem dX3_hasSameLimitsAs_52 : decode cX3_hasSameLimitsAs 52 = .ok (.if_icmp .ne 29, 3) := by decide +kernel
theorem dX3_hasSameLimitsAs_55 : decode cX3_hasSameLimitsAs 55 = .ok (.aload_n 0, 1) := by decide +kernel
theorem dX3_hasSameLimitsAs_56 : decode cX3_hasSameLimitsAs 56 = .ok (.getfield 57, 3) := by decide +kernel
theorem dX3_hasSameLimitsAs_59 : decode cX3_hasSameLimitsAs 59 = .ok (.aload_n 1, 1) := by decide +kernel
theorem dX3_hasSameLimitsAs_60 : decode cX3_hasSameLimitsAs 60 = .ok (.getfield 57, 3) := by decide +kernel
theorem dX3_hasSameLimitsAs_63 : decode cX3_hasSameLimitsAs 63 = .ok (.if_icmp .ne 18, 3) := by decide +kernel
theorem dX3_hasSameLimitsAs_66 : decode cX3_hasSameLimitsAs 66 = .ok (.aload_n 0, 1) := by decide +kernel
theorem dX3_hasSameLimitsAs_67 : decode cX3_hasSameLimitsAs 67 = .ok (.getfield 60, 3) := by decide +kernel
theorem dX3_hasSameLimitsAs_70 : decode cX3_hasSameLimitsAs 70 = .ok (.aload_n 1, 1) := by decide +kernel
theorem dX3_hasSameLimitsAs_71 : decode cX3_hasSameLimitsAs 71 = .ok (.getfield 60, 3) := by decide +kernel
theorem dX3_hasSameLimitsAs_74 : decode cX3_hasSameLimitsAs 74 = .ok (.if_icmp .ne 7, 3) := by decide +kernel
theorem dX3_hasSameLimitsAs_77 : decode cX3_hasSameLimitsAs 77 = .ok (.iconst 1, 1) := by decide +kernel
theorem dX3_hasSameLimitsAs_78 : decode cX3_hasSameLimitsAs 78 = .ok (.goto 4, 3) := by decide +kernel
theorem dX3_hasSameLimitsAs_81 : decode cX3_hasSameLimitsAs 81 = .ok (.iconst 0, 1) := by decide +kernel
theorem dX3_hasSameLimitsAs_82 : decode cX3_hasSameLimitsAs 82 = .ok (.ireturn, 1) := by decide +kernel
theorem dX4_init_0 : decode cX4_init 0 = .ok (.aload_n 0, 1) := by decide +kernel
theorem dX4_init_1 : decode cX4_init 1 = .ok (.invokespecial 3, 3) := by decide +kernel
theorem dX4_init_4 : decode cX4_init 4 = .ok (.aload_n 0, 1) := by decide +kernel
theorem dX4_init_5 : decode cX4_init 5 = .ok (.sipush 1500, 3) := by decide +kernel
theorem dX4_init_8 : decode cX4_init 8 = .ok (.newarray .int, 2) := by decide +kernel
theorem dX4_init_10 : decode cX4_init 10 = .ok (.putfield 9, 3) := by decide +kernel
theorem dX4_init_13 : decode cX4_init 13 = .ok (.return_, 1) := by decide +kernel
theorem dX4_start_0 : decode cX4_start 0 = .ok (.aload_n 0, 1) := by decide +kernel
theorem dX4_start_1 : decode cX4_start 1 = .ok (.iconst 0, 1) := by decide +kernel
theorem dX4_start_2 : decode cX4_start 2 = .ok (.putfield 15, 3) := by decide +kernel
theorem dX4_start_5 : decode cX4_start 5 = .ok (.return_, 1) := by decide +kernel
theorem dX4_addKind_0 : decode cX4_addKind 0 = .ok (.aload_n 2, 1) := by decide +kernel
theorem dX4_addKind_1 : decode cX4_addKind 1 = .ok (.ifnonnull 4, 3) := by decide +kernel
theorem dX4_addKind_4 : decode cX4_addKind 4 = .ok (.return_, 1) := by decide +kernel
theorem dX4_addKind_5 : decode cX4_addKind 5 = .ok (.aload_n 0, 1) := by decide +kernel
theorem dX4_addKind_6 : decode cX4_addKind 6 = .ok (.bipush 75, 2) := by decide +kernel
theorem dX4_addKind_8 : decode cX4_addKind 8 = .ok (.iload_n 1, 1) := by decide +kernel
theorem dX4_addKind_9 : decode cX4_addKind 9 = .ok (.iconst (-1), 1) := by decide +kernel
theorem dX4_addKind_10 : decode cX4_addKind 10 = .ok (.iconst (-1), 1) := by decide +kernel
theorem dX4_addKind_11 : decode cX4_addKind 11 = .ok (.invokevirtual 19, 3) := by decide +kernel
theorem dX4_addKind_14 : decode cX4_addKind 14 = .ok (.iconst 0, 1) := by decide +kernel
theorem dX4_addKind_15 : decode cX4_addKind 15 = .ok (.istore_n 3, 1) := by decide +kernel
theorem dX4_addKind_16 : decode cX4_addKind 16 = .ok (.iload_n 3, 1) := by decide +kernel
theorem dX4_addKind_17 : decode cX4_addKind 17 = .ok (.aload_n 2, 1) := by decide +kernel
theorem dX4_addKind_18 : decode cX4_addKind 18 = .ok (.getfield 23, 3) := by decide +kernel
theorem dX4_addKind_21 : decode cX4_addKind 21 = .ok (.if_icmp .ge 32, 3) := by decide +kernel
theorem dX4_addKind_24 : decode cX4_addKind 24 = .ok (.aload_n 0, 1) := by decide +kernel
theorem dX4_addKind_25 : decode cX4_addKind 25 = .ok (.bipush 83, 2) := by decide +kernel
theorem dX4_addKind_27 : decode cX4_addKind 27 = .ok (.aload_n 2, 1) := by decide +kernel
theorem dX4_addKind_28 : decode cX4_addKind 28 = .ok (.getfield 28, 3) := by decide +kernel
theorem dX4_addKind_31 : decode cX4_addKind 31 = .ok (.iload_n 3, 1) := by decide +kernel
theorem dX4_addKind_32 : decode cX4_addKind 32 = .ok (.invokestatic 31, 3) := by decide +kernel
theorem dX4_addKind_35 : decode cX4_addKind 35 = .ok (.aload_n 2, 1) := by decide +kernel
theorem dX4_addKind_36 : decode cX4_addKind 36 = .ok (.getfield 35, 3) := by decide +kernel
theorem dX4_addKind_39 : decode cX4_addKind 39 = .ok (.iload_n 3, 1) := by decide +kernel
theorem dX4_addKind_40 : decode cX4_addKind 40 = .ok (.invokestatic 31, 3) := by decide +kernel
theorem dX4_addKind_43 : decode cX4_addKind 43 = .ok (.iconst (-1), 1) := by decide +kernel
theorem dX4_addKind_44 : decode cX4_addKind 44 = .ok (.invokevirtual 19, 3) := by decide +kernel
theorem dX4_addKind_47 : decode cX4_addKind 47 = .ok (.iinc 3 1, 3) := by decide +kernel
theorem dX4_addKind_50 : decode cX4_addKind 50 = .ok (.goto (-34), 3) := by decide +kernel
theorem dX4_addKind_53 : decode cX4_addKind 53 = .ok (.aload_n 0, 1) := by decide +kernel
theorem dX4_addKind_54 : decode cX4_addKind 54 = .ok (.bipush 90, 2) := by decide +kernel
theorem dX4_addKind_56 : decode cX4_addKind 56 = .ok (.aload_n 2, 1) := by decide +kernel
theorem dX4_addKind_57 : decode cX4_addKind 57 = .ok (.getfield 38, 3) := by decide +kernel
theorem dX4_addKind_60 : decode cX4_addKind 60 = .ok (.invokevirtual 41, 3) := by decide +kernel
theorem dX4_addKind_63 : decode cX4_addKind 63 = .ok (.aload_n 0, 1) := by decide +kernel
theorem dX4_addKind_64 : decode cX4_addKind 64 = .ok (.bipush 88, 2) := by decide +kernel
theorem dX4_addKind_66 : decode cX4_addKind 66 = .ok (.aload_n 2, 1) := by decide +kernel
theorem dX4_addKind_67 : decode cX4_addKind 67 = .ok (.getfield 45, 3) := by decide +kernel
theorem dX4_addKind_70 : decode cX4_addKind 70 = .ok (.invokevirtual 41, 3) := by decide +kernel
theorem dX4_addKind_73 : decode cX4_addKind 73 = .ok (.aload_n 0, 1) := by decide +kernel
theorem dX4_addKind_74 : decode cX4_addKind 74 = .ok (.aload_n 2, 1) := by decide +kernel
theorem dX4_addKind_75 : decode cX4_addKind 75 = .ok (.invokevirtual 48, 3) := by decide +kernel
theorem dX4_addKind_78 : decode cX4_addKind 78 = .ok (.aload_n 0, 1) := by decide +kernel
theorem dX4_addKind_79 : decode cX4_addKind 79 = .ok (.aload_n 2, 1) := by decide +kernel
theorem dX4_addKind_80 : decode cX4_addKind 80 = .ok (.invokevirtual 52, 3) := by decide +kernel
theorem dX4_addKind_83 : decode cX4_addKind 83 = .ok (.return_, 1) := by decide +kernel
theorem dX4_addNamed_0 : decode cX4_addNamed 0 = .ok (.iconst 0, 1) := by decide +kernel
theorem dX4_addNamed_1 : decode cX4_addNamed 1 = .ok (.istore_n 3, 1) := by decide +kernel
theorem dX4_addNamed_2 : decode cX4_addNamed 2 = .ok (.iload_n 3, 1) := by decide +kernel
theorem dX4_addNamed_3 : decode cX4_addNamed 3 = .ok (.bipush 10, 2) := by decide +kernel
theorem dX4_addNamed_5 : decode cX4_addNamed 5 = .ok (.if_icmp .ge 31, 3) := by decide +kernel
theorem dX4_addNamed_8 : decode cX4_addNamed 8 = .ok (.aload_n 2, 1) := by decide +kernel
theorem dX4_addNamed_9 : decode cX4_addNamed 9 = .ok (.iload_n 3, 1) := by decide +kernel
theorem dX4_addNamed_10 : decode cX4_addNamed 10 = .ok (.invokestatic 31, 3) := by decide +kernel
theorem dX4_addNamed_13 : decode cX4_addNamed 13 = .ok (.istore 4, 2) := by decide +kernel
theorem dX4_addNamed_15 : decode cX4_addNamed 15 = .ok (.iload 4, 2) := by decide +kernel
theorem dX4_addNamed_17 : decode cX4_addNamed 17 = .ok (.iconst (-1), 1) := by decide +kernel
theorem dX4_addNamed_18 : decode cX4_addNamed 18 = .ok (.if_icmp .eq 12, 3) := by decide +kernel
theorem dX4_addNamed_21 : decode cX4_addNamed 21 = .ok (.aload_n 0, 1) := by decide +kernel
theorem dX4_addNamed_22 : decode cX4_addNamed 22 = .ok (.iload_n 1, 1) := by decide +kernel
theorem dX4_addNamed_23 : decode cX4_addNamed 23 = .ok (.iload_n 3, 1) := by decide +kernel
theorem dX4_addNamed_24 : decode cX4_addNamed 24 = .ok (.iload 4, 2) := by decide +kernel
theorem dX4_addNamed_26 : decode cX4_addNamed 26 = .ok (.iconst (-1), 1) := by decide +kernel
theorem dX4_addNamed_27 : decode cX4_addNamed 27 = .ok (.invokevirtual 19, 3) := by decide +kernel
theorem dX4_addNamed_30 : decode cX4_addNamed 30 = .ok (.iinc 3 1, 3) := by decide +kernel
theorem dX4_addNamed_33 : decode cX4_addNamed 33 = .ok (.goto (-31), 3) := by decide +kernel
theorem dX4_addNamed_36 : decode cX4_addNamed 36 = .ok (.return_, 1) := by decide +kernel
theorem dX4_addExclusions_0 : decode cX4_addExclusions 0 = .ok (.iconst 0, 1) := by decide +kernel
theorem dX4_addExclusions_1 : decode cX4_addExclusions 1 = .ok (.istore_n 2, 1) := by decide +kernel
theorem dX4_addExclusions_2 : decode cX4_addExclusions 2 = .ok (.iload_n 2, 1) := by decide +kernel
theorem dX4_addExclusions_3 : decode cX4_addExclusions 3 = .ok (.bipush 10, 2) := by decide +kernel
theorem dX4_addExclusions_5 : decode cX4_addExclusions 5 = .ok (.if_icmp .ge 43, 3) := by decide +kernel
theorem dX4_addExclusions_8 : decode cX4_addExclusions 8 = .ok (.iload_n 2, 1) := by decide +kernel
theorem dX4_addExclusions_9 : decode cX4_addExclusions 9 = .ok (.iconst 1, 1) := by decide +kernel
theorem dX4_addExclusions_10 : decode cX4_addExclusions 10 = .ok (.iadd, 1) := by decide +kernel
theorem dX4_addExclusions_11 : decode cX4_addExclusions 11 = .ok (.istore_n 3, 1) := by decide +kernel
theorem dX4_addExclusions_12 : decode cX4_addExclusions 12 = .ok (.iload_n 3, 1) := by decide +kernel
theorem dX4_addExclusions_13 : decode cX4_addExclusions 13 = .ok (.bipush 10, 2) := by decide +kernel
theorem dX4_addExclusions_15 : decode cX4_addExclusions 15 = .ok (.if_icmp .ge 27, 3) := by decide +kernel
theorem dX4_addExclusions_18 : decode cX4_addExclusions 18 = .ok (.aload_n 1, 1) := by decide +kernel
theorem dX4_addExclusions_19 : decode cX4_addExclusions 19 = .ok (.iload_n 2, 1) := by decide +kernel
theorem dX4_addExclusions_20 : decode cX4_addExclusions 20 = .ok (.iload_n 3, 1) := by decide +kernel
theorem dX4_addExclusions_21 : decode cX4_addExclusions 21 = .ok (.invokevirtual 55, 3) := by decide +kernel
theorem dX4_addExclusions_24 : decode cX4_addExclusions 24 = .ok (.ifCond .eq 12, 3) := by decide +kernel
theorem dX4_addExclusions_27 : decode cX4_addExclusions 27 = .ok (.aload_n 0, 1) := by decide +kernel
theorem dX4_addExclusions_28 : decode cX4_addExclusions 28 = .ok (.bipush 69, 2) := by decide +kernel
theorem dX4_addExclusions_30 : decode cX4_addExclusions 30 = .ok (.iload_n 2, 1) := by decide +kernel
theorem dX4_addExclusions_31 : decode cX4_addExclusions 31 = .ok (.iload_n 3, 1) := by decide +kernel
theorem dX4_addExclusions_32 : decode cX4_addExclusions 32 = .ok (.iconst (-1), 1) := by decide +kernel
theorem dX4_addExclusions_33 : decode cX4_addExclusions 33 = .ok (.invokevirtual 19, 3) := by decide +kernel
theorem dX4_addExclusions_36 : decode cX4_addExclusions 36 = .ok (.iinc 3 1, 3) := by decide +kernel
theorem dX4_addExclusions_39 : decode cX4_addExclusions 39 = .ok (.goto (-27), 3) := by decide +kernel
theorem dX4_addExclusions_42 : decode cX4_addExclusions 42 = .ok (.iinc 2 1, 3) := by decide +kernel
theorem dX4_addExclusions_45 : decode cX4_addExclusions 45 = .ok (.goto (-43), 3) := by decide +kernel
theorem dX4_addExclusions_48 : decode cX4_addExclusions 48 = .ok (.return_, 1) := by decide +kernel
theorem dX4_addLimits_0 : decode cX4_addLimits 0 = .ok (.aload_n 1, 1) := by decide +kernel
theorem dX4_addLimits_1 : decode cX4_addLimits 1 = .ok (.getfield 59, 3) := by decide +kernel
theorem dX4_addLimits_4 : decode cX4_addLimits 4 = .ok (.iconst (-1), 1) := by decide +kernel
theorem dX4_addLimits_5 : decode cX4_addLimits 5 = .ok (.if_icmp .eq 21, 3) := by decide +kernel
theorem dX4_addLimits_8 : decode cX4_addLimits 8 = .ok (.aload_n 0, 1) := by decide +kernel
theorem dX4_addLimits_9 : decode cX4_addLimits 9 = .ok (.bipush 68, 2) := by decide +kernel
theorem dX4_addLimits_11 : decode cX4_addLimits 11 = .ok (.aload_n 1, 1) := by decide +kernel
theorem dX4_addLimits_12 : decode cX4_addLimits 12 = .ok (.getfield 59, 3) := by decide +kernel
theorem dX4_addLimits_15 : decode cX4_addLimits 15 = .ok (.aload_n 1, 1) := by decide +kernel
theorem dX4_addLimits_16 : decode cX4_addLimits 16 = .ok (.getfield 62, 3) := by decide +kernel
theorem dX4_addLimits_19 : decode cX4_addLimits 19 = .ok (.aload_n 1, 1) := by decide +kernel
theorem dX4_addLimits_20 : decode cX4_addLimits 20 = .ok (.getfield 65, 3) := by decide +kernel
theorem dX4_addLimits_23 : decode cX4_addLimits 23 = .ok (.invokevirtual 19, 3) := by decide +kernel
theorem dX4_addLimits_26 : decode cX4_addLimits 26 = .ok (.aload_n 1, 1) := by decide +kernel
theorem dX4_addLimits_27 : decode cX4_addLimits 27 = .ok (.getfield 68, 3) := by decide +kernel
theorem dX4_addLimits_30 : decode cX4_addLimits 30 = .ok (.iconst (-1), 1) := by decide +kernel
theorem dX4_addLimits_31 : decode cX4_addLimits 31 = .ok (.if_icmp .eq 15, 3) := by decide +kernel
theorem dX4_addLimits_34 : decode cX4_addLimits 34 = .ok (.aload_n 0, 1) := by decide +kernel
theorem dX4_addLimits_35 : decode cX4_addLimits 35 = .ok (.bipush 77, 2) := by decide +kernel
theorem dX4_addLimits_37 : decode cX4_addLimits 37 = .ok (.aload_n 1, 1) := by decide +kernel
theorem dX4_addLimits_38 : decode cX4_addLimits 38 = .ok (.getfield 68, 3) := by decide +kernel
theorem dX4_addLimits_41 : decode cX4_addLimits 41 = .ok (.iconst (-1), 1) := by decide +kernel
theorem dX4_addLimits_42 : decode cX4_addLimits 42 = .ok (.iconst (-1), 1) := by decide +kernel
theorem dX4_addLimits_43 : decode cX4_addLimits 43 = .ok (.invokevirtual 19, 3) := by decide +kernel
theorem dX4_addLimits_46 : decode cX4_addLimits 46 = .ok (.aload_n 1, 1) := by decide +kernel
theorem dX4_addLimits_47 : decode cX4_addLimits 47 = .ok (.getfield 71, 3) := by decide +kernel
theorem dX4_addLimits_50 : decode cX4_addLimits 50 = .ok (.iconst (-1), 1) := by decide +kernel
theorem dX4_addLimits_51 : decode cX4_addLimits 51 = .ok (.if_icmp .eq 18, 3) := by decide +kernel
theorem dX4_addLimits_54 : decode cX4_addLimits 54 = .ok (.aload_n 0, 1) := by decide +kernel
theorem dX4_addLimits_55 : decode cX4_addLimits 55 = .ok (.bipush 70, 2) := by decide +kernel
theorem dX4_addLimits_57 : decode cX4_addLimits 57 = .ok (.aload_n 1, 1) := by decide +kernel
theorem dX4_addLimits_58 : decode cX4_addLimits 58 = .ok (.getfield 71, 3) := by decide +kernel
theorem dX4_addLimits_61 : decode cX4_addLimits 61 = .ok (.aload_n 1, 1) := by decide +kernel
theorem dX4_addLimits_62 : decode cX4_addLimits 62 = .ok (.getfield 74, 3) := by decide +kernel
theorem dX4_addLimits_65 : decode cX4_addLimits 65 = .ok (.iconst (-1), 1) := by decide +kernel
theorem dX4_addLimits_66 : decode cX4_addLimits 66 = .ok (.invokevirtual 19, 3) := by decide +kernel
theorem dX4_addLimits_69 : decode cX4_addLimits 69 = .ok (.aload_n 1, 1) := by decide +kernel
theorem dX4_addLimits_70 : decode cX4_addLimits 70 = .ok (.getfield 77, 3) := by decide +kernel
theorem dX4_addLimits_73 : decode cX4_addLimits 73 = .ok (.iconst (-1), 1) := by decide +kernel
theorem dX4_addLimits_74 : decode cX4_addLimits 74 = .ok (.if_icmp .eq 15, 3) := by decide +kernel
theorem dX4_addLimits_77 : decode cX4_addLimits 77 = .ok (.aload_n 0, 1) := by decide +kernel
theorem dX4_addLimits_78 : decode cX4_addLimits 78 = .ok (.bipush 82, 2) := by decide +kernel
theorem dX4_addLimits_80 : decode cX4_addLimits 80 = .ok (.aload_n 1, 1) := by decide +kernel
theorem dX4_addLimits_81 : decode cX4_addLimits 81 = .ok (.getfield 77, 3) := by decide +kernel
theorem dX4_addLimits_84 : decode cX4_addLimits 84 = .ok (.iconst (-1), 1) := by decide +kernel
theorem dX4_addLimits_85 : decode cX4_addLimits 85 = .ok (.iconst (-1), 1) := by decide +kernel
theorem dX4_addLimits_86 : decode cX4_addLimits 86 = .ok (.invokevirtual 19, 3) := by decide +kernel
theorem dX4_addLimits_89 : decode cX4_addLimits 89 = .ok (.return_, 1) := by decide +kernel
theorem dX4_addRow_0 : decode cX4_addRow 0 = .ok (.aload_n 0, 1) := by decide +kernel
theorem dX4_addRow_1 : decode cX4_addRow 1 = .ok (.getfield 15, 3) := by decide +kernel
theorem dX4_addRow_4 : decode cX4_addRow 4 = .ok (.ifCond .le 9, 3) := by decide +kernel
theorem dX4_addRow_7 : decode cX4_addRow 7 = .ok (.aload_n 0, 1) := by decide +kernel
theorem dX4_addRow_8 : decode cX4_addRow 8 = .ok (.bipush 59, 2) := by decide +kernel
theorem dX4_addRow_10 : decode cX4_addRow 10 = .ok (.invokevirtual 80, 3) := by decide +kernel
theorem dX4_addRow_13 : decode cX4_addRow 13 = .ok (.aload_n 0, 1) := by decide +kernel
theorem dX4_addRow_14 : decode cX4_addRow 14 = .ok (.iload_n 1, 1) := by decide +kernel
theorem dX4_addRow_15 : decode cX4_addRow 15 = .ok (.invokevirtual 80, 3) := by decide +kernel
theorem dX4_addRow_18 : decode cX4_addRow 18 = .ok (.aload_n 0, 1) := by decide +kernel
theorem dX4_addRow_19 : decode cX4_addRow 19 = .ok (.iload_n 2, 1) := by decide +kernel
theorem dX4_addRow_20 : decode cX4_addRow 20 = .ok (.invokevirtual 84, 3) := by decide +kernel
theorem dX4_addRow_23 : decode cX4_addRow 23 = .ok (.iload_n 3, 1) := by decide +kernel
theorem dX4_addRow_24 : decode cX4_addRow 24 = .ok (.iconst (-1), 1) := by decide +kernel
theorem dX4_addRow_25 : decode cX4_addRow 25 = .ok (.if_icmp .eq 14, 3) := by decide +kernel
theorem dX4_addRow_28 : decode cX4_addRow 28 = .ok (.aload_n 0, 1) := by decide +kernel
theorem dX4_addRow_29 : decode cX4_addRow 29 = .ok (.bipush 32, 2) := by decide +kernel
theorem dX4_addRow_31 : decode cX4_addRow 31 = .ok (.invokevirtual 80, 3) := by decide +kernel
theorem dX4_addRow_34 : decode cX4_addRow 34 = .ok (.aload_n 0, 1) := by decide +kernel
theorem dX4_addRow_35 : decode cX4_addRow 35 = .ok (.iload_n 3, 1) := by decide +kernel
theorem dX4_addRow_36 : decode cX4_addRow 36 = .ok (.invokevirtual 84, 3) := by decide +kernel
theorem dX4_addRow_39 : decode cX4_addRow 39 = .ok (.iload 4, 2) := by decide +kernel
theorem dX4_addRow_41 : decode cX4_addRow 41 = .ok (.iconst (-1), 1) := by decide +kernel
theorem dX4_addRow_42 : decode cX4_addRow 42 = .ok (.if_icmp .eq 15, 3) := by decide +kernel
theorem dX4_addRow_45 : decode cX4_addRow 45 = .ok (.aload_n 0, 1) := by decide +kernel
theorem dX4_addRow_46 : decode cX4_addRow 46 = .ok (.bipush 32, 2) := by decide +kernel
theorem dX4_addRow_48 : decode cX4_addRow 48 = .ok (.invokevirtual 80, 3) := by decide +kernel
theorem dX4_addRow_51 : decode cX4_addRow 51 = .ok (.aload_n 0, 1) := by decide +kernel
theorem dX4_addRow_52 : decode cX4_addRow 52 = .ok (.iload 4, 2) := by decide +kernel
theorem dX4_addRow_54 : decode cX4_addRow 54 = .ok (.invokevirtual 84, 3) := by decide +kernel
theorem dX4_addRow_57 : decode cX4_addRow 57 = .ok (.return_, 1) := by decide +kernel
theorem dX4_addNumber_0 : decode cX4_addNumber 0 = .ok (.iconst 1, 1) := by decide +kernel
theorem dX4_addNumber_1 : decode cX4_addNumber 1 = .ok (.istore_n 2, 1) := by decide +kernel
theorem dX4_addNumber_2 : decode cX4_addNumber 2 = .ok (.iconst 1, 1) := by decide +kernel
theorem dX4_addNumber_3 : decode cX4_addNumber 3 = .ok (.istore_n 3, 1) := by decide +kernel
theorem dX4_addNumber_4 : decode cX4_addNumber 4 = .ok (.iload_n 3, 1) := by decide +kernel
theorem dX4_addNumber_5 : decode cX4_addNumber 5 = .ok (.bipush 7, 2) := by decide +kernel
theorem dX4_addNumber_7 : decode cX4_addNumber 7 = .ok (.if_icmp .ge 22, 3) := by decide +kernel
theorem dX4_addNumber_10 : decode cX4_addNumber 10 = .ok (.iload_n 1, 1) := by decide +kernel
theorem dX4_addNumber_11 : decode cX4_addNumber 11 = .ok (.iload_n 2, 1) := by decide +kernel
theorem dX4_addNumber_12 : decode cX4_addNumber 12 = .ok (.bipush 10, 2) := by decide +kernel
theorem dX4_addNumber_14 : decode cX4_addNumber 14 = .ok (.imul, 1) := by decide +kernel
theorem dX4_addNumber_15 : decode cX4_addNumber 15 = .ok (.if_icmp .lt 14, 3) := by decide +kernel
theorem dX4_addNumber_18 : decode cX4_addNumber 18 = .ok (.iload_n 2, 1) := by decide +kernel
theorem dX4_addNumber_19 : decode cX4_addNumber 19 = .ok (.bipush 10, 2) := by decide +kernel
theorem dX4_addNumber_21 : decode cX4_addNumber 21 = .ok (.imul, 1) := by decide +kernel
theorem dX4_addNumber_22 : decode cX4_addNumber 22 = .ok (.istore_n 2, 1) := by decide +kernel
theorem dX4_addNumber_23 : decode cX4_addNumber 23 = .ok (.iinc 3 1, 3) := by decide +kernel
theorem dX4_addNumber_26 : decode cX4_addNumber 26 = .ok (.goto (-22), 3) := by decide +kernel
theorem dX4_addNumber_29 : decode cX4_addNumber 29 = .ok (.iload_n 2, 1) := by decide +kernel
theorem dX4_addNumber_30 : decode cX4_addNumber 30 = .ok (.ifCond .le 24, 3) := by decide +kernel
theorem dX4_addNumber_33 : decode cX4_addNumber 33 = .ok (.aload_n 0, 1) := by decide +kernel
theorem dX4_addNumber_34 : decode cX4_addNumber 34 = .ok (.bipush 48, 2) := by decide +kernel
theorem dX4_addNumber_36 : decode cX4_addNumber 36 = .ok (.iload_n 1, 1) := by decide +kernel
theorem dX4_addNumber_37 : decode cX4_addNumber 37 = .ok (.iload_n 2, 1) := by decide +kernel
theorem dX4_addNumber_38 : decode cX4_addNumber 38 = .ok (.idiv, 1) := by decide +kernel
theorem dX4_addNumber_39 : decode cX4_addNumber 39 = .ok (.bipush 10, 2) := by decide +kernel
theorem dX4_addNumber_41 : decode cX4_addNumber 41 = .ok (.irem, 1) := by decide +kernel
theorem dX4_addNumber_42 : decode cX4_addNumber 42 = .ok (.iadd, 1) := by decide +kernel
theorem dX4_addNumber_43 : decode cX4_addNumber 43 = .ok (.invokevirtual 80, 3) := by decide +kernel
theorem dX4_addNumber_46 : decode cX4_addNumber 46 = .ok (.iload_n 2, 1) := by decide +kernel
theorem dX4_addNumber_47 : decode cX4_addNumber 47 = .ok (.bipush 10, 2) := by decide +kernel
theorem dX4_addNumber_49 : decode cX4_addNumber 49 = .ok (.idiv, 1) := by decide +kernel
theorem dX4_addNumber_50 : decode cX4_addNumber 50 = .ok (.istore_n 2, 1) := by decide +kernel
theorem dX4_addNumber_51 : decode cX4_addNumber 51 = .ok (.goto (-22), 3) := by decide +kernel
theorem dX4_addNumber_54 : decode cX4_addNumber 54 = .ok (.return_, 1) := by decide +kernel
theorem dX4_addSign_0 : decode cX4_addSign 0 = .ok (.aload_n 0, 1) := by decide +kernel
theorem dX4_addSign_1 : decode cX4_addSign 1 = .ok (.getfield 15, 3) := by decide +kernel
theorem dX4_addSign_4 : decode cX4_addSign 4 = .ok (.sipush 1500, 3) := by decide +kernel
theorem dX4_addSign_7 : decode cX4_addSign 7 = .ok (.if_icmp .ge 25, 3) := by decide +kernel
theorem dX4_addSign_10 : decode cX4_addSign 10 = .ok (.aload_n 0, 1) := by decide +kernel
theorem dX4_addSign_11 : decode cX4_addSign 11 = .ok (.getfield 9, 3) := by decide +kernel
theorem dX4_addSign_14 : decode cX4_addSign 14 = .ok (.aload_n 0, 1) := by decide +kernel
theorem dX4_addSign_15 : decode cX4_addSign 15 = .ok (.getfield 15, 3) := by decide +kernel
theorem dX4_addSign_18 : decode cX4_addSign 18 = .ok (.iload_n 1, 1) := by decide +kernel
theorem dX4_addSign_19 : decode cX4_addSign 19 = .ok (.invokestatic 87, 3) := by decide +kernel
theorem dX4_addSign_22 : decode cX4_addSign 22 = .ok (.aload_n 0, 1) := by decide +kernel
theorem dX4_addSign_23 : decode cX4_addSign 23 = .ok (.dup, 1) := by decide +kernel
theorem dX4_addSign_24 : decode cX4_addSign 24 = .ok (.getfield 15, 3) := by decide +kernel
theorem dX4_addSign_27 : decode cX4_addSign 27 = .ok (.iconst 1, 1) := by decide +kernel
theorem dX4_addSign_28 : decode cX4_addSign 28 = .ok (.iadd, 1) := by decide +kernel
theorem dX4_addSign_29 : decode cX4_addSign 29 = .ok (.putfield 15, 3) := by decide +kernel
theorem dX4_addSign_32 : decode cX4_addSign 32 = .ok (.return_, 1) := by decide +kernel
theorem dX5_init_0 : decode cX5_init 0 = .ok (.aload_n 0, 1) := by decide +kernel
theorem dX5_init_1 : decode cX5_init 1 = .ok (.invokespecial 3, 3) := by decide +kernel
theorem dX5_init_4 : decode cX5_init 4 = .ok (.aload_n 0, 1) := by decide +kernel
theorem dX5_init_5 : decode cX5_init 5 = .ok (.sipush 1500, 3) := by decide +kernel
theorem dX5_init_8 : decode cX5_init 8 = .ok (.newarray .int, 2) := by decide +kernel
theorem dX5_init_10 : decode cX5_init 10 = .ok (.putfield 9, 3) := by decide +kernel
theorem dX5_init_13 : decode cX5_init 13 = .ok (.aload_n 0, 1) := by decide +kernel
theorem dX5_init_14 : decode cX5_init 14 = .ok (.iconst 3, 1) := by decide +kernel
theorem dX5_init_15 : decode cX5_init 15 = .ok (.newarray .int, 2) := by decide +kernel
theorem dX5_init_17 : decode cX5_init 17 = .ok (.putfield 15, 3) := by decide +kernel
theorem dX5_init_20 : decode cX5_init 20 = .ok (.return_, 1) := by decide +kernel
theorem dX5_append_0 : decode cX5_append 0 = .ok (.aload_n 0, 1) := by decide +kernel
theorem dX5_append_1 : decode cX5_append 1 = .ok (.getfield 18, 3) := by decide +kernel
theorem dX5_append_4 : decode cX5_append 4 = .ok (.sipush 1500, 3) := by decide +kernel
theorem dX5_append_7 : decode cX5_append 7 = .ok (.if_icmp .ge 25, 3) := by decide +kernel
theorem dX5_append_10 : decode cX5_append 10 = .ok (.aload_n 0, 1) := by decide +kernel
theorem dX5_append_11 : decode cX5_append 11 = .ok (.getfield 9, 3) := by decide +kernel
theorem dX5_append_14 : decode cX5_append 14 = .ok (.aload_n 0, 1) := by decide +kernel
theorem dX5_append_15 : decode cX5_append 15 = .ok (.getfield 18, 3) := by decide +kernel
theorem dX5_append_18 : decode cX5_append 18 = .ok (.iload_n 1, 1) := by decide +kernel
theorem dX5_append_19 : decode cX5_append 19 = .ok (.invokestatic 22, 3) := by decide +kernel
theorem dX5_append_22 : decode cX5_append 22 = .ok (.aload_n 0, 1) := by decide +kernel
theorem dX5_append_23 : decode cX5_append 23 = .ok (.dup, 1) := by decide +kernel
theorem dX5_append_24 : decode cX5_append 24 = .ok (.getfield 18, 3) := by decide +kernel
theorem dX5_append_27 : decode cX5_append 27 = .ok (.iconst 1, 1) := by decide +kernel
theorem dX5_append_28 : decode cX5_append 28 = .ok (.iadd, 1) := by decide +kernel
theorem dX5_append_29 : decode cX5_append 29 = .ok (.putfield 18, 3) := by decide +kernel
theorem dX5_append_32 : decode cX5_append 32 = .ok (.return_, 1) := by decide +kernel
theorem dX5_empty_0 : decode cX5_empty 0 = .ok (.aload_n 0, 1) := by decide +kernel
theorem dX5_empty_1 : decode cX5_empty 1 = .ok (.iconst 0, 1) := by decide +kernel
theorem dX5_empty_2 : decode cX5_empty 2 = .ok (.putfield 18, 3) := by decide +kernel
theorem dX5_empty_5 : decode cX5_empty 5 = .ok (.return_, 1) := by decide +kernel
theorem dX5_readInto_0 : decode cX5_readInto 0 = .ok (.aload_n 0, 1) := by decide +kernel
theorem dX5_readInto_1 : decode cX5_readInto 1 = .ok (.aload_n 1, 1) := by decide +kernel
theorem dX5_readInto_2 : decode cX5_readInto 2 = .ok (.putfield 26, 3) := by decide +kernel
theorem dX5_readInto_5 : decode cX5_readInto 5 = .ok (.aload_n 0, 1) := by decide +kernel
theorem dX5_readInto_6 : decode cX5_readInto 6 = .ok (.getfield 26, 3) := by decide +kernel
theorem dX5_readInto_9 : decode cX5_readInto 9 = .ok (.invokevirtual 30, 3) := by decide +kernel
theorem dX5_readInto_12 : decode cX5_readInto 12 = .ok (.aload_n 0, 1) := by decide +kernel
theorem dX5_readInto_13 : decode cX5_readInto 13 = .ok (.aconst_null, 1) := by decide +kernel
theorem dX5_readInto_14 : decode cX5_readInto 14 = .ok (.putfield 35, 3) := by decide +kernel
theorem dX5_readInto_17 : decode cX5_readInto 17 = .ok (.aload_n 0, 1) := by decide +kernel
theorem dX5_readInto_18 : decode cX5_readInto 18 = .ok (.iconst 0, 1) := by decide +kernel
theorem dX5_readInto_19 : decode cX5_readInto 19 = .ok (.putfield 39, 3) := by decide +kernel
theorem dX5_readInto_22 : decode cX5_readInto 22 = .ok (.aload_n 0, 1) := by decide +kernel
theorem dX5_readInto_23 : decode cX5_readInto 23 = .ok (.iconst (-1), 1) := by decide +kernel
theorem dX5_readInto_24 : decode cX5_readInto 24 = .ok (.putfield 42, 3) := by decide +kernel
theorem dX5_readInto_27 : decode cX5_readInto 27 = .ok (.iconst 0, 1) := by decide +kernel
theorem dX5_readInto_28 : decode cX5_readInto 28 = .ok (.istore_n 2, 1) := by decide +kernel
theorem dX5_readInto_29 : decode cX5_readInto 29 = .ok (.aload_n 0, 1) := by decide +kernel
theorem dX5_readInto_30 : decode cX5_readInto 30 = .ok (.getfield 18, 3) := by decide +kernel
theorem dX5_readInto_33 : decode cX5_readInto 33 = .ok (.ifCond .le 7, 3) := by decide +kernel
theorem dX5_readInto_36 : decode cX5_readInto 36 = .ok (.iconst 1, 1) := by decide +kernel
theorem dX5_readInto_37 : decode cX5_readInto 37 = .ok (.goto 4, 3) := by decide +kernel
theorem dX5_readInto_40 : decode cX5_readInto 40 = .ok (.iconst 0, 1) := by decide +kernel
theorem dX5_readInto_41 : decode cX5_readInto 41 = .ok (.istore_n 3, 1) := by decide +kernel
theorem dX5_readInto_42 : decode cX5_readInto 42 = .ok (.iload_n 3, 1) := by decide +kernel
theorem dX5_readInto_43 : decode cX5_readInto 43 = .ok (.ifCond .eq 55, 3) := by decide +kernel
theorem dX5_readInto_46 : decode cX5_readInto 46 = .ok (.aload_n 0, 1) := by decide +kernel
theorem dX5_readInto_47 : decode cX5_readInto 47 = .ok (.getfield 42, 3) := by decide +kernel
theorem dX5_readInto_50 : decode cX5_readInto 50 = .ok (.iconst (-1), 1) := by decide +kernel
theorem dX5_readInto_51 : decode cX5_readInto 51 = .ok (.if_icmp .ne 47, 3) := by decide +kernel
theorem dX5_readInto_54 : decode cX5_readInto 54 = .ok (.iload_n 2, 1) := by decide +kernel
theorem dX5_readInto_55 : decode cX5_readInto 55 = .ok (.sipush 1500, 3) := by decide +kernel
theorem dX5_readInto_58 : decode cX5_readInto 58 = .ok (.if_icmp .ge 40, 3) := by decide +kernel
theorem dX5_readInto_61 : decode cX5_readInto 61 = .ok (.aload_n 0, 1) := by decide +kernel
theorem dX5_readInto_62 : decode cX5_readInto 62 = .ok (.invokevirtual 45, 3) := by decide +kernel
theorem dX5_readInto_65 : decode cX5_readInto 65 = .ok (.iinc 2 1, 3) := by decide +kernel
theorem dX5_readInto_68 : decode cX5_readInto 68 = .ok (.aload_n 0, 1) := by decide +kernel
theorem dX5_readInto_69 : decode cX5_readInto 69 = .ok (.getfield 39, 3) := by decide +kernel
theorem dX5_readInto_72 : decode cX5_readInto 72 = .ok (.aload_n 0, 1) := by decide +kernel
theorem dX5_readInto_73 : decode cX5_readInto 73 = .ok (.getfield 18, 3) := by decide +kernel
theorem dX5_readInto_76 : decode cX5_readInto 76 = .ok (.if_icmp .ge 7, 3) := by decide +kernel
theorem dX5_readInto_79 : decode cX5_readInto 79 = .ok (.iconst 1, 1) := by decide +kernel
theorem dX5_readInto_80 : decode cX5_readInto 80 = .ok (.goto 4, 3) := by decide +kernel
theorem dX5_readInto_83 : decode cX5_readInto 83 = .ok (.iconst 0, 1) := by decide +kernel
theorem dX5_readInto_84 : decode cX5_readInto 84 = .ok (.istore_n 3, 1) := by decide +kernel
theorem dX5_readInto_85 : decode cX5_readInto 85 = .ok (.iload_n 3, 1) := by decide +kernel
theorem dX5_readInto_86 : decode cX5_readInto 86 = .ok (.ifCond .eq (-44), 3) := by decide +kernel
theorem dX5_readInto_89 : decode cX5_readInto 89 = .ok (.aload_n 0, 1) := by decide +kernel
theorem dX5_readInto_90 : decode cX5_readInto 90 = .ok (.bipush 59, 2) := by decide +kernel
theorem dX5_readInto_92 : decode cX5_readInto 92 = .ok (.invokevirtual 48, 3) := by decide +kernel
theorem dX5_readInto_95 : decode cX5_readInto 95 = .ok (.goto (-53), 3) := by decide +kernel
theorem dX5_readInto_98 : decode cX5_readInto 98 = .ok (.aload_n 0, 1) := by decide +kernel
theorem dX5_readInto_99 : decode cX5_readInto 99 = .ok (.getfield 42, 3) := by decide +kernel
theorem dX5_readInto_102 : decode cX5_readInto 102 = .ok (.iconst (-1), 1) := by decide +kernel
theorem dX5_readInto_103 : decode cX5_readInto 103 = .ok (.if_icmp .ne 28, 3) := by decide +kernel
theorem dX5_readInto_106 : decode cX5_readInto 106 = .ok (.aload_n 0, 1) := by decide +kernel
theorem dX5_readInto_107 : decode cX5_readInto 107 = .ok (.getfield 35, 3) := by decide +kernel
theorem dX5_readInto_110 : decode cX5_readInto 110 = .ok (.ifnull 21, 3) := by decide +kernel
theorem dX5_readInto_113 : decode cX5_readInto 113 = .ok (.aload_n 0, 1) := by decide +kernel
theorem dX5_readInto_114 : decode cX5_readInto 114 = .ok (.getfield 35, 3) := by decide +kernel
theorem dX5_readInto_117 : decode cX5_readInto 117 = .ok (.getfield 52, 3) := by decide +kernel
theorem dX5_readInto_120 : decode cX5_readInto 120 = .ok (.ifCond .ne 11, 3) := by decide +kernel
theorem dX5_readInto_123 : decode cX5_readInto 123 = .ok (.aload_n 0, 1) := by decide +kernel
theorem dX5_readInto_124 : decode cX5_readInto 124 = .ok (.aload_n 0, 1) := by decide +kernel
theorem dX5_readInto_125 : decode cX5_readInto 125 = .ok (.getfield 18, 3) := by decide +kernel
theorem dX5_readInto_128 : decode cX5_readInto 128 = .ok (.putfield 42, 3) := by decide +kernel
theorem dX5_readInto_131 : decode cX5_readInto 131 = .ok (.aload_n 0, 1) := by decide +kernel
theorem dX5_readInto_132 : decode cX5_readInto 132 = .ok (.getfield 42, 3) := by decide +kernel
theorem dX5_readInto_135 : decode cX5_readInto 135 = .ok (.iconst (-1), 1) := by decide +kernel
theorem dX5_readInto_136 : decode cX5_readInto 136 = .ok (.if_icmp .ne 7, 3) := by decide +kernel
theorem dX5_readInto_139 : decode cX5_readInto 139 = .ok (.iload_n 2, 1) := by decide +kernel
theorem dX5_readInto_140 : decode cX5_readInto 140 = .ok (.goto 9, 3) := by decide +kernel
theorem dX5_readInto_143 : decode cX5_readInto 143 = .ok (.iconst (-1), 1) := by decide +kernel
theorem dX5_readInto_144 : decode cX5_readInto 144 = .ok (.aload_n 0, 1) := by decide +kernel
theorem dX5_readInto_145 : decode cX5_readInto 145 = .ok (.getfield 42, 3) := by decide +kernel
theorem dX5_readInto_148 : decode cX5_readInto 148 = .ok (.isub, 1) := by decide +kernel
theorem dX5_readInto_149 : decode cX5_readInto 149 = .ok (.ireturn, 1) := by decide +kernel
theorem dX5_readRow_0 : decode cX5_readRow 0 = .ok (.aload_n 0, 1) := by decide +kernel
theorem dX5_readRow_1 : decode cX5_readRow 1 = .ok (.invokevirtual 57, 3) := by decide +kernel
theorem dX5_readRow_4 : decode cX5_readRow 4 = .ok (.istore_n 1, 1) := by decide +kernel
theorem dX5_readRow_5 : decode cX5_readRow 5 = .ok (.aload_n 0, 1) := by decide +kernel
theorem dX5_readRow_6 : decode cX5_readRow 6 = .ok (.iload_n 1, 1) := by decide +kernel
theorem dX5_readRow_7 : decode cX5_readRow 7 = .ok (.invokevirtual 61, 3) := by decide +kernel
theorem dX5_readRow_10 : decode cX5_readRow 10 = .ok (.ifCond .ne 12, 3) := by decide +kernel
theorem dX5_readRow_13 : decode cX5_readRow 13 = .ok (.aload_n 0, 1) := by decide +kernel
theorem dX5_readRow_14 : decode cX5_readRow 14 = .ok (.aload_n 0, 1) := by decide +kernel
theorem dX5_readRow_15 : decode cX5_readRow 15 = .ok (.getfield 39, 3) := by decide +kernel
theorem dX5_readRow_18 : decode cX5_readRow 18 = .ok (.putfield 42, 3) := by decide +kernel
theorem dX5_readRow_21 : decode cX5_readRow 21 = .ok (.return_, 1) := by decide +kernel
theorem dX5_readRow_22 : decode cX5_readRow 22 = .ok (.aload_n 0, 1) := by decide +kernel
theorem dX5_readRow_23 : decode cX5_readRow 23 = .ok (.dup, 1) := by decide +kernel
theorem dX5_readRow_24 : decode cX5_readRow 24 = .ok (.getfield 39, 3) := by decide +kernel
theorem dX5_readRow_27 : decode cX5_readRow 27 = .ok (.iconst 1, 1) := by decide +kernel
theorem dX5_readRow_28 : decode cX5_readRow 28 = .ok (.iadd, 1) := by decide +kernel
theorem dX5_readRow_29 : decode cX5_readRow 29 = .ok (.putfield 39, 3) := by decide +kernel
theorem dX5_readRow_32 : decode cX5_readRow 32 = .ok (.iload_n 1, 1) := by decide +kernel
theorem dX5_readRow_33 : decode cX5_readRow 33 = .ok (.invokestatic 65, 3) := by decide +kernel
theorem dX5_readRow_36 : decode cX5_readRow 36 = .ok (.istore_n 2, 1) := by decide +kernel
theorem dX5_readRow_37 : decode cX5_readRow 37 = .ok (.iconst 0, 1) := by decide +kernel
theorem dX5_readRow_38 : decode cX5_readRow 38 = .ok (.istore_n 3, 1) := by decide +kernel
theorem dX5_readRow_39 : decode cX5_readRow 39 = .ok (.iload_n 3, 1) := by decide +kernel
theorem dX5_readRow_40 : decode cX5_readRow 40 = .ok (.iload_n 2, 1) := by decide +kernel
theorem dX5_readRow_41 : decode cX5_readRow 41 = .ok (.if_icmp .ge 33, 3) := by decide +kernel
theorem dX5_readRow_44 : decode cX5_readRow 44 = .ok (.aload_n 0, 1) := by decide +kernel
theorem dX5_readRow_45 : decode cX5_readRow 45 = .ok (.getfield 42, 3) := by decide +kernel
theorem dX5_readRow_48 : decode cX5_readRow 48 = .ok (.iconst (-1), 1) := by decide +kernel
theorem dX5_readRow_49 : decode cX5_readRow 49 = .ok (.if_icmp .ne 25, 3) := by decide +kernel
theorem dX5_readRow_52 : decode cX5_readRow 52 = .ok (.iload_n 3, 1) := by decide +kernel
theorem dX5_readRow_53 : decode cX5_readRow 53 = .ok (.ifCond .le 9, 3) := by decide +kernel
theorem dX5_readRow_56 : decode cX5_readRow 56 = .ok (.aload_n 0, 1) := by decide +kernel
theorem dX5_readRow_57 : decode cX5_readRow 57 = .ok (.bipush 32, 2) := by decide +kernel
theorem dX5_readRow_59 : decode cX5_readRow 59 = .ok (.invokevirtual 48, 3) := by decide +kernel
theorem dX5_readRow_62 : decode cX5_readRow 62 = .ok (.aload_n 0, 1) := by decide +kernel
theorem dX5_readRow_63 : decode cX5_readRow 63 = .ok (.iload_n 1, 1) := by decide +kernel
theorem dX5_readRow_64 : decode cX5_readRow 64 = .ok (.iload_n 3, 1) := by decide +kernel
theorem dX5_readRow_65 : decode cX5_readRow 65 = .ok (.invokevirtual 69, 3) := by decide +kernel
theorem dX5_readRow_68 : decode cX5_readRow 68 = .ok (.iinc 3 1, 3) := by decide +kernel
theorem dX5_readRow_71 : decode cX5_readRow 71 = .ok (.goto (-32), 3) := by decide +kernel
theorem dX5_readRow_74 : decode cX5_readRow 74 = .ok (.aload_n 0, 1) := by decide +kernel
theorem dX5_readRow_75 : decode cX5_readRow 75 = .ok (.getfield 42, 3) := by decide +kernel
theorem dX5_readRow_78 : decode cX5_readRow 78 = .ok (.iconst (-1), 1) := by decide +kernel
theorem dX5_readRow_79 : decode cX5_readRow 79 = .ok (.if_icmp .ne 8, 3) := by decide +kernel
theorem dX5_readRow_82 : decode cX5_readRow 82 = .ok (.aload_n 0, 1) := by decide +kernel
theorem dX5_readRow_83 : decode cX5_readRow 83 = .ok (.iload_n 1, 1) := by decide +kernel
theorem dX5_readRow_84 : decode cX5_readRow 84 = .ok (.invokevirtual 73, 3) := by decide +kernel
theorem dX5_readRow_87 : decode cX5_readRow 87 = .ok (.return_, 1) := by decide +kernel
theorem dX5_signHere_0 : decode cX5_signHere 0 = .ok (.aload_n 0, 1) := by decide +kernel
theorem dX5_signHere_1 : decode cX5_signHere 1 = .ok (.getfield 39, 3) := by decide +kernel
theorem dX5_signHere_4 : decode cX5_signHere 4 = .ok (.aload_n 0, 1) := by decide +kernel
theorem dX5_signHere_5 : decode cX5_signHere 5 = .ok (.getfield 18, 3) := by decide +kernel
theorem dX5_signHere_8 : decode cX5_signHere 8 = .ok (.if_icmp .ge 17, 3) := by decide +kernel
theorem dX5_signHere_11 : decode cX5_signHere 11 = .ok (.aload_n 0, 1) := by decide +kernel
theorem dX5_signHere_12 : decode cX5_signHere 12 = .ok (.getfield 9, 3) := by decide +kernel
theorem dX5_signHere_15 : decode cX5_signHere 15 = .ok (.aload_n 0, 1) := by decide +kernel
theorem dX5_signHere_16 : decode cX5_signHere 16 = .ok (.getfield 39, 3) := by decide +kernel
theorem dX5_signHere_19 : decode cX5_signHere 19 = .ok (.invokestatic 76, 3) := by decide +kernel
theorem dX5_signHere_22 : decode cX5_signHere 22 = .ok (.goto 4, 3) := by decide +kernel
theorem dX5_signHere_25 : decode cX5_signHere 25 = .ok (.iconst (-1), 1) := by decide +kernel
theorem dX5_signHere_26 : decode cX5_signHere 26 = .ok (.ireturn, 1) := by decide +kernel
theorem dX5_expect_0 : decode cX5_expect 0 = .ok (.aload_n 0, 1) := by decide +kernel
theorem dX5_expect_1 : decode cX5_expect 1 = .ok (.getfield 42, 3) := by decide +kernel
theorem dX5_expect_4 : decode cX5_expect 4 = .ok (.iconst (-1), 1) := by decide +kernel
theorem dX5_expect_5 : decode cX5_expect 5 = .ok (.if_icmp .eq 4, 3) := by decide +kernel
theorem dX5_expect_8 : decode cX5_expect 8 = .ok (.return_, 1) := by decide +kernel
theorem dX5_expect_9 : decode cX5_expect 9 = .ok (.aload_n 0, 1) := by decide +kernel
theorem dX5_expect_10 : decode cX5_expect 10 = .ok (.invokevirtual 57, 3) := by decide +kernel
theorem dX5_expect_13 : decode cX5_expect 13 = .ok (.iload_n 1, 1) := by decide +kernel
theorem dX5_expect_14 : decode cX5_expect 14 = .ok (.if_icmp .ne 16, 3) := by decide +kernel
theorem dX5_expect_17 : decode cX5_expect 17 = .ok (.aload_n 0, 1) := by decide +kernel
theorem dX5_expect_18 : decode cX5_expect 18 = .ok (.dup, 1) := by decide +kernel
theorem dX5_expect_19 : decode cX5_expect 19 = .ok (.getfield 39, 3) := by decide +kernel
theorem dX5_expect_22 : decode cX5_expect 22 = .ok (.iconst 1, 1) := by decide +kernel
theorem dX5_expect_23 : decode cX5_expect 23 = .ok (.iadd, 1) := by decide +kernel
theorem dX5_expect_24 : decode cX5_expect 24 = .ok (.putfield 39, 3) := by decide +kernel
theorem dX5_expect_27 : decode cX5_expect 27 = .ok (.goto 11, 3) := by decide +kernel
theorem dX5_expect_30 : decode cX5_expect 30 = .ok (.aload_n 0, 1) := by decide +kernel
theorem dX5_expect_31 : decode cX5_expect 31 = .ok (.aload_n 0, 1) := by decide +kernel
theorem dX5_expect_32 : decode cX5_expect 32 = .ok (.getfield 39, 3) := by decide +kernel
theorem dX5_expect_35 : decode cX5_expect 35 = .ok (.putfield 42, 3) := by decide +kernel
theorem dX5_expect_38 : decode cX5_expect 38 = .ok (.return_, 1) := by decide +kernel
theorem dX5_readNumber_0 : decode cX5_readNumber 0 = .ok (.aload_n 0, 1) := by decide +kernel
theorem dX5_readNumber_1 : decode cX5_readNumber 1 = .ok (.getfield 42, 3) := by decide +kernel
theorem dX5_readNumber_4 : decode cX5_readNumber 4 = .ok (.iconst (-1), 1) := by decide +kernel
theorem dX5_readNumber_5 : decode cX5_readNumber 5 = .ok (.if_icmp .eq 4, 3) := by decide +kernel
theorem dX5_readNumber_8 : decode cX5_readNumber 8 = .ok (.return_, 1) := by decide +kernel
theorem dX5_readNumber_9 : decode cX5_readNumber 9 = .ok (.aload_n 0, 1) := by decide +kernel
theorem dX5_readNumber_10 : decode cX5_readNumber 10 = .ok (.getfield 39, 3) := by decide +kernel
theorem dX5_readNumber_13 : decode cX5_readNumber 13 = .ok (.istore_n 3, 1) := by decide +kernel
theorem dX5_readNumber_14 : decode cX5_readNumber 14 = .ok (.iconst 0, 1) := by decide +kernel
theorem dX5_readNumber_15 : decode cX5_readNumber 15 = .ok (.istore 4, 2) := by decide +kernel
theorem dX5_readNumber_17 : decode cX5_readNumber 17 = .ok (.aload_n 0, 1) := by decide +kernel
theorem dX5_readNumber_18 : decode cX5_readNumber 18 = .ok (.getfield 39, 3) := by decide +kernel
theorem dX5_readNumber_21 : decode cX5_readNumber 21 = .ok (.iload_n 3, 1) := by decide +kernel
theorem dX5_readNumber_22 : decode cX5_readNumber 22 = .ok (.bipush 7, 2) := by decide +kernel
theorem dX5_readNumber_24 : decode cX5_readNumber 24 = .ok (.iadd, 1) := by decide +kernel
theorem dX5_readNumber_25 : decode cX5_readNumber 25 = .ok (.if_icmp .ge 45, 3) := by decide +kernel
theorem dX5_readNumber_28 : decode cX5_readNumber 28 = .ok (.aload_n 0, 1) := by decide +kernel
theorem dX5_readNumber_29 : decode cX5_readNumber 29 = .ok (.invokevirtual 57, 3) := by decide +kernel
theorem dX5_readNumber_32 : decode cX5_readNumber 32 = .ok (.bipush 48, 2) := by decide +kernel
theorem dX5_readNumber_34 : decode cX5_readNumber 34 = .ok (.bipush 57, 2) := by decide +kernel
theorem dX5_readNumber_36 : decode cX5_readNumber 36 = .ok (.invokestatic 80, 3) := by decide +kernel
theorem dX5_readNumber_39 : decode cX5_readNumber 39 = .ok (.ifCond .eq 31, 3) := by decide +kernel
theorem dX5_readNumber_42 : decode cX5_readNumber 42 = .ok (.iload 4, 2) := by decide +kernel
theorem dX5_readNumber_44 : decode cX5_readNumber 44 = .ok (.bipush 10, 2) := by decide +kernel
theorem dX5_readNumber_46 : decode cX5_readNumber 46 = .ok (.imul, 1) := by decide +kernel
theorem dX5_readNumber_47 : decode cX5_readNumber 47 = .ok (.aload_n 0, 1) := by decide +kernel
theorem dX5_readNumber_48 : decode cX5_readNumber 48 = .ok (.invokevirtual 57, 3) := by decide +kernel
theorem dX5_readNumber_51 : decode cX5_readNumber 51 = .ok (.iadd, 1) := by decide +kernel
theorem dX5_readNumber_52 : decode cX5_readNumber 52 = .ok (.bipush 48, 2) := by decide +kernel
theorem dX5_readNumber_54 : decode cX5_readNumber 54 = .ok (.isub, 1) := by decide +kernel
theorem dX5_readNumber_55 : decode cX5_readNumber 55 = .ok (.istore 4, 2) := by decide +kernel
theorem dX5_readNumber_57 : decode cX5_readNumber 57 = .ok (.aload_n 0, 1) := by decide +kernel
theorem dX5_readNumber_58 : decode cX5_readNumber 58 = .ok (.dup, 1) := by decide +kernel
theorem dX5_readNumber_59 : decode cX5_readNumber 59 = .ok (.getfield 39, 3) := by decide +kernel
theorem dX5_readNumber_62 : decode cX5_readNumber 62 = .ok (.iconst 1, 1) := by decide +kernel
theorem dX5_readNumber_63 : decode cX5_readNumber 63 = .ok (.iadd, 1) := by decide +kernel
theorem dX5_readNumber_64 : decode cX5_readNumber 64 = .ok (.putfield 39, 3) := by decide +kernel
theorem dX5_readNumber_67 : decode cX5_readNumber 67 = .ok (.goto (-50), 3) := by decide +kernel
theorem dX5_readNumber_70 : decode cX5_readNumber 70 = .ok (.aload_n 0, 1) := by decide +kernel
theorem dX5_readNumber_71 : decode cX5_readNumber 71 = .ok (.getfield 39, 3) := by decide +kernel
theorem dX5_readNumber_74 : decode cX5_readNumber 74 = .ok (.iload_n 3, 1) := by decide +kernel
theorem dX5_readNumber_75 : decode cX5_readNumber 75 = .ok (.if_icmp .eq 14, 3) := by decide +kernel
theorem dX5_readNumber_78 : decode cX5_readNumber 78 = .ok (.aload_n 0, 1) := by decide +kernel
theorem dX5_readNumber_79 : decode cX5_readNumber 79 = .ok (.iload_n 1, 1) := by decide +kernel
theorem dX5_readNumber_80 : decode cX5_readNumber 80 = .ok (.iload_n 2, 1) := by decide +kernel
theorem dX5_readNumber_81 : decode cX5_readNumber 81 = .ok (.iload 4, 2) := by decide +kernel
theorem dX5_readNumber_83 : decode cX5_readNumber 83 = .ok (.invokevirtual 84, 3) := by decide +kernel
theorem dX5_readNumber_86 : decode cX5_readNumber 86 = .ok (.ifCond .ne 11, 3) := by decide +kernel
theorem dX5_readNumber_89 : decode cX5_readNumber 89 = .ok (.aload_n 0, 1) := by decide +kernel
theorem dX5_readNumber_90 : decode cX5_readNumber 90 = .ok (.iload_n 3, 1) := by decide +kernel
theorem dX5_readNumber_91 : decode cX5_readNumber 91 = .ok (.putfield 42, 3) := by decide +kernel
theorem dX5_readNumber_94 : decode cX5_readNumber 94 = .ok (.goto 13, 3) := by decide +kernel
theorem dX5_readNumber_97 : decode cX5_readNumber 97 = .ok (.aload_n 0, 1) := by decide +kernel
theorem dX5_readNumber_98 : decode cX5_readNumber 98 = .ok (.getfield 15, 3) := by decide +kernel
theorem dX5_readNumber_101 : decode cX5_readNumber 101 = .ok (.iload_n 2, 1) := by decide +kernel
theorem dX5_readNumber_102 : decode cX5_readNumber 102 = .ok (.iload 4, 2) := by decide +kernel
theorem dX5_readNumber_104 : decode cX5_readNumber 104 = .ok (.invokestatic 22, 3) := by decide +kernel
theorem dX5_readNumber_107 : decode cX5_readNumber 107 = .ok (.return_, 1) := by decide +kernel
theorem dX5_numbersOf_0 : decode cX5_numbersOf 0 = .ok (.iload_n 0, 1) := by decide +kernel
theorem dX5_numbersOf_1 : decode cX5_numbersOf 1 = .ok (.lookupswitch 47 #[(68, 45), (75, 43), (77, 43), (82, 43)], 43) := by decide +kernel
theorem dX5_numbersOf_44 : decode cX5_numbersOf 44 = .ok (.iconst 1, 1) := by decide +kernel
theorem dX5_numbersOf_45 : decode cX5_numbersOf 45 = .ok (.ireturn, 1) := by decide +kernel
theorem dX5_numbersOf_46 : decode cX5_numbersOf 46 = .ok (.iconst 3, 1) := by decide +kernel
theorem dX5_numbersOf_47 : decode cX5_numbersOf 47 = .ok (.ireturn, 1) := by decide +kernel
theorem dX5_numbersOf_48 : decode cX5_numbersOf 48 = .ok (.iconst 2, 1) := by decide +kernel
theorem dX5_numbersOf_49 : decode cX5_numbersOf 49 = .ok (.ireturn, 1) := by decide +kernel
theorem dX5_mayBegin_0 : decode cX5_mayBegin 0 = .ok (.aload_n 0, 1) := by decide +kernel
theorem dX5_mayBegin_1 : decode cX5_mayBegin 1 = .ok (.getfield 35, 3) := by decide +kernel
theorem dX5_mayBegin_4 : decode cX5_mayBegin 4 = .ok (.ifnonnull 15, 3) := by decide +kernel
theorem dX5_mayBegin_7 : decode cX5_mayBegin 7 = .ok (.iload_n 1, 1) := by decide +kernel
theorem dX5_mayBegin_8 : decode cX5_mayBegin 8 = .ok (.bipush 75, 2) := by decide +kernel
theorem dX5_mayBegin_10 : decode cX5_mayBegin 10 = .ok (.if_icmp .ne 7, 3) := by decide +kernel
theorem dX5_mayBegin_13 : decode cX5_mayBegin 13 = .ok (.iconst 1, 1) := by decide +kernel
theorem dX5_mayBegin_14 : decode cX5_mayBegin 14 = .ok (.goto 4, 3) := by decide +kernel
theorem dX5_mayBegin_17 : decode cX5_mayBegin 17 = .ok (.iconst 0, 1) := by decide +kernel
theorem dX5_mayBegin_18 : decode cX5_mayBegin 18 = .ok (.ireturn, 1) := by decide +kernel
theorem dX5_mayBegin_19 : decode cX5_mayBegin 19 = .ok (.iload_n 1, 1) := by decide +kernel
theorem dX5_mayBegin_20 : decode cX5_mayBegin 20 = .ok (.tableswitch 230 68 90 #[162, 144, 196, 230, 230, 230, 230, 108, 230, 179, 230, 230, 230, 230, 213, 124, 230, 230, 230, 230, 142, 230, 142], 108) := by decide +kernel
theorem dX5_mayBegin_128 : decode cX5_mayBegin 128 = .ok (.aload_n 0, 1) := by decide +kernel
theorem dX5_mayBegin_129 : decode cX5_mayBegin 129 = .ok (.getfield 35, 3) := by decide +kernel
theorem dX5_mayBegin_132 : decode cX5_mayBegin 132 = .ok (.getfield 52, 3) := by decide +kernel
theorem dX5_mayBegin_135 : decode cX5_mayBegin 135 = .ok (.ifCond .le 7, 3) := by decide +kernel
theorem dX5_mayBegin_138 : decode cX5_mayBegin 138 = .ok (.iconst 1, 1) := by decide +kernel
theorem dX5_mayBegin_139 : decode cX5_mayBegin 139 = .ok (.goto 4, 3) := by decide +kernel
theorem dX5_mayBegin_142 : decode cX5_mayBegin 142 = .ok (.iconst 0, 1) := by decide +kernel
theorem dX5_mayBegin_143 : decode cX5_mayBegin 143 = .ok (.ireturn, 1) := by decide +kernel
theorem dX5_mayBegin_144 : decode cX5_mayBegin 144 = .ok (.aload_n 0, 1) := by decide +kernel
theorem dX5_mayBegin_145 : decode cX5_mayBegin 145 = .ok (.getfield 35, 3) := by decide +kernel
theorem dX5_mayBegin_148 : decode cX5_mayBegin 148 = .ok (.getfield 52, 3) := by decide +kernel
theorem dX5_mayBegin_151 : decode cX5_mayBegin 151 = .ok (.bipush 10, 2) := by decide +kernel
theorem dX5_mayBegin_153 : decode cX5_mayBegin 153 = .ok (.if_icmp .ge 7, 3) := by decide +kernel
theorem dX5_mayBegin_156 : decode cX5_mayBegin 156 = .ok (.iconst 1, 1) := by decide +kernel
theorem dX5_mayBegin_157 : decode cX5_mayBegin 157 = .ok (.goto 4, 3) := by decide +kernel
theorem dX5_mayBegin_160 : decode cX5_mayBegin 160 = .ok (.iconst 0, 1) := by decide +kernel
theorem dX5_mayBegin_161 : decode cX5_mayBegin 161 = .ok (.ireturn, 1) := by decide +kernel
theorem dX5_mayBegin_162 : decode cX5_mayBegin 162 = .ok (.iconst 1, 1) := by decide +kernel
theorem dX5_mayBegin_163 : decode cX5_mayBegin 163 = .ok (.ireturn, 1) := by decide +kernel
theorem dX5_mayBegin_164 : decode cX5_mayBegin 164 = .ok (.aload_n 0, 1) := by decide +kernel
theorem dX5_mayBegin_165 : decode cX5_mayBegin 165 = .ok (.getfield 35, 3) := by decide +kernel
theorem dX5_mayBegin_168 : decode cX5_mayBegin 168 = .ok (.getfield 87, 3) := by decide +kernel
theorem dX5_mayBegin_171 : decode cX5_mayBegin 171 = .ok (.bipush 10, 2) := by decide +kernel
theorem dX5_mayBegin_173 : decode cX5_mayBegin 173 = .ok (.if_icmp .ge 7, 3) := by decide +kernel
theorem dX5_mayBegin_176 : decode cX5_mayBegin 176 = .ok (.iconst 1, 1) := by decide +kernel
theorem dX5_mayBegin_177 : decode cX5_mayBegin 177 = .ok (.goto 4, 3) := by decide +kernel
theorem dX5_mayBegin_180 : decode cX5_mayBegin 180 = .ok (.iconst 0, 1) := by decide +kernel
theorem dX5_mayBegin_181 : decode cX5_mayBegin 181 = .ok (.ireturn, 1) := by decide +kernel
theorem dX5_mayBegin_182 : decode cX5_mayBegin 182 = .ok (.aload_n 0, 1) := by decide +kernel
theorem dX5_mayBegin_183 : decode cX5_mayBegin 183 = .ok (.getfield 35, 3) := by decide +kernel
theorem dX5_mayBegin_186 : decode cX5_mayBegin 186 = .ok (.getfield 90, 3) := by decide +kernel
theorem dX5_mayBegin_189 : decode cX5_mayBegin 189 = .ok (.iconst (-1), 1) := by decide +kernel
theorem dX5_mayBegin_190 : decode cX5_mayBegin 190 = .ok (.if_icmp .ne 7, 3) := by decide +kernel
theorem dX5_mayBegin_193 : decode cX5_mayBegin 193 = .ok (.iconst 1, 1) := by decide +kernel
theorem dX5_mayBegin_194 : decode cX5_mayBegin 194 = .ok (.goto 4, 3) := by decide +kernel
theorem dX5_mayBegin_197 : decode cX5_mayBegin 197 = .ok (.iconst 0, 1) := by decide +kernel
theorem dX5_mayBegin_198 : decode cX5_mayBegin 198 = .ok (.ireturn, 1) := by decide +kernel
theorem dX5_mayBegin_199 : decode cX5_mayBegin 199 = .ok (.aload_n 0, 1) := by decide +kernel
theorem dX5_mayBegin_200 : decode cX5_mayBegin 200 = .ok (.getfield 35, 3) := by decide +kernel
theorem dX5_mayBegin_203 : decode cX5_mayBegin 203 = .ok (.getfield 93, 3) := by decide +kernel
theorem dX5_mayBegin_206 : decode cX5_mayBegin 206 = .ok (.iconst (-1), 1) := by decide +kernel
theorem dX5_mayBegin_207 : decode cX5_mayBegin 207 = .ok (.if_icmp .ne 7, 3) := by decide +kernel
theorem dX5_mayBegin_210 : decode cX5_mayBegin 210 = .ok (.iconst 1, 1) := by decide +kernel
theorem dX5_mayBegin_211 : decode cX5_mayBegin 211 = .ok (.goto 4, 3) := by decide +kernel
theorem dX5_mayBegin_214 : decode cX5_mayBegin 214 = .ok (.iconst 0, 1) := by decide +kernel
theorem dX5_mayBegin_215 : decode cX5_mayBegin 215 = .ok (.ireturn, 1) := by decide +kernel
theorem dX5_mayBegin_216 : decode cX5_mayBegin 216 = .ok (.aload_n 0, 1) := by decide +kernel
theorem dX5_mayBegin_217 : decode cX5_mayBegin 217 = .ok (.getfield 35, 3) := by decide +kernel
theorem dX5_mayBegin_220 : decode cX5_mayBegin 220 = .ok (.getfield 96, 3) := by decide +kernel
theorem dX5_mayBegin_223 : decode cX5_mayBegin 223 = .ok (.iconst (-1), 1) := by decide +kernel
theorem dX5_mayBegin_224 : decode cX5_mayBegin 224 = .ok (.if_icmp .ne 7, 3) := by decide +kernel
theorem dX5_mayBegin_227 : decode cX5_mayBegin 227 = .ok (.iconst 1, 1) := by decide +kernel
theorem dX5_mayBegin_228 : decode cX5_mayBegin 228 = .ok (.goto 4, 3) := by decide +kernel
theorem dX5_mayBegin_231 : decode cX5_mayBegin 231 = .ok (.iconst 0, 1) := by decide +kernel
theorem dX5_mayBegin_232 : decode cX5_mayBegin 232 = .ok (.ireturn, 1) := by decide +kernel
theorem dX5_mayBegin_233 : decode cX5_mayBegin 233 = .ok (.aload_n 0, 1) := by decide +kernel
theorem dX5_mayBegin_234 : decode cX5_mayBegin 234 = .ok (.getfield 35, 3) := by decide +kernel
theorem dX5_mayBegin_237 : decode cX5_mayBegin 237 = .ok (.getfield 99, 3) := by decide +kernel
theorem dX5_mayBegin_240 : decode cX5_mayBegin 240 = .ok (.iconst (-1), 1) := by decide +kernel
theorem dX5_mayBegin_241 : decode cX5_mayBegin 241 = .ok (.if_icmp .ne 7, 3) := by decide +kernel
theorem dX5_mayBegin_244 : decode cX5_mayBegin 244 = .ok (.iconst 1, 1) := by decide +kernel
theorem dX5_mayBegin_245 : decode cX5_mayBegin 245 = .ok (.goto 4, 3) := by decide +kernel
theorem dX5_mayBegin_248 : decode cX5_mayBegin 248 = .ok (.iconst 0, 1) := by decide +kernel
theorem dX5_mayBegin_249 : decode cX5_mayBegin 249 = .ok (.ireturn, 1) := by decide +kernel
theorem dX5_mayBegin_250 : decode cX5_mayBegin 250 = .ok (.iconst 0, 1) := by decide +kernel
theorem dX5_mayBegin_251 : decode cX5_mayBegin 251 = .ok (.ireturn, 1) := by decide +kernel
theorem dX5_isAsSaid_0 : decode cX5_isAsSaid 0 = .ok (.iload_n 1, 1) := by decide +kernel
theorem dX5_isAsSaid_1 : decode cX5_isAsSaid 1 = .ok (.bipush 75, 2) := by decide +kernel
theorem dX5_isAsSaid_3 : decode cX5_isAsSaid 3 = .ok (.if_icmp .ne 27, 3) := by decide +kernel
theorem dX5_isAsSaid_6 : decode cX5_isAsSaid 6 = .ok (.iload_n 3, 1) := by decide +kernel
theorem dX5_isAsSaid_7 : decode cX5_isAsSaid 7 = .ok (.invokestatic 102, 3) := by decide +kernel
theorem dX5_isAsSaid_10 : decode cX5_isAsSaid 10 = .ok (.ifCond .eq 18, 3) := by decide +kernel
theorem dX5_isAsSaid_13 : decode cX5_isAsSaid 13 = .ok (.aload_n 0, 1) := by decide +kernel
theorem dX5_isAsSaid_14 : decode cX5_isAsSaid 14 = .ok (.getfield 26, 3) := by decide +kernel
theorem dX5_isAsSaid_17 : decode cX5_isAsSaid 17 = .ok (.iload_n 3, 1) := by decide +kernel
theorem dX5_isAsSaid_18 : decode cX5_isAsSaid 18 = .ok (.invokestatic 105, 3) := by decide +kernel
theorem dX5_isAsSaid_21 : decode cX5_isAsSaid 21 = .ok (.ifnonnull 7, 3) := by decide +kernel
theorem dX5_isAsSaid_24 : decode cX5_isAsSaid 24 = .ok (.iconst 1, 1) := by decide +kernel
theorem dX5_isAsSaid_25 : decode cX5_isAsSaid 25 = .ok (.goto 4, 3) := by decide +kernel
theorem dX5_isAsSaid_28 : decode cX5_isAsSaid 28 = .ok (.iconst 0, 1) := by decide +kernel
theorem dX5_isAsSaid_29 : decode cX5_isAsSaid 29 = .ok (.ireturn, 1) := by decide +kernel
theorem dX5_isAsSaid_30 : decode cX5_isAsSaid 30 = .ok (.aload_n 0, 1) := by decide +kernel
theorem dX5_isAsSaid_31 : decode cX5_isAsSaid 31 = .ok (.getfield 35, 3) := by decide +kernel
theorem dX5_isAsSaid_34 : decode cX5_isAsSaid 34 = .ok (.ifnonnull 5, 3) := by decide +kernel
theorem dX5_isAsSaid_37 : decode cX5_isAsSaid 37 = .ok (.iconst 0, 1) := by decide +kernel
theorem dX5_isAsSaid_38 : decode cX5_isAsSaid 38 = .ok (.ireturn, 1) := by decide +kernel
theorem dX5_isAsSaid_39 : decode cX5_isAsSaid 39 = .ok (.iload_n 1, 1) := by decide +kernel
theorem dX5_isAsSaid_40 : decode cX5_isAsSaid 40 = .ok (.lookupswitch 198 #[(69, 160), (70, 167), (82, 189), (83, 60), (88, 128), (90, 81)], 60) := by decide +kernel
theorem dX5_isAsSaid_100 : decode cX5_isAsSaid 100 = .ok (.iload_n 2, 1) := by decide +kernel
theorem dX5_isAsSaid_101 : decode cX5_isAsSaid 101 = .ok (.ifCond .gt 14, 3) := by decide +kernel
theorem dX5_isAsSaid_104 : decode cX5_isAsSaid 104 = .ok (.iload_n 3, 1) := by decide +kernel
theorem dX5_isAsSaid_105 : decode cX5_isAsSaid 105 = .ok (.aload_n 0, 1) := by decide +kernel
theorem dX5_isAsSaid_106 : decode cX5_isAsSaid 106 = .ok (.getfield 35, 3) := by decide +kernel
theorem dX5_isAsSaid_109 : decode cX5_isAsSaid 109 = .ok (.invokevirtual 109, 3) := by decide +kernel
theorem dX5_isAsSaid_112 : decode cX5_isAsSaid 112 = .ok (.if_icmp .le 7, 3) := by decide +kernel
theorem dX5_isAsSaid_115 : decode cX5_isAsSaid 115 = .ok (.iconst 1, 1) := by decide +kernel
theorem dX5_isAsSaid_116 : decode cX5_isAsSaid 116 = .ok (.goto 4, 3) := by decide +kernel
theorem dX5_isAsSaid_119 : decode cX5_isAsSaid 119 = .ok (.iconst 0, 1) := by decide +kernel
theorem dX5_isAsSaid_120 : decode cX5_isAsSaid 120 = .ok (.ireturn, 1) := by decide +kernel
theorem dX5_isAsSaid_121 : decode cX5_isAsSaid 121 = .ok (.iload_n 2, 1) := by decide +kernel
theorem dX5_isAsSaid_122 : decode cX5_isAsSaid 122 = .ok (.ifCond .le 18, 3) := by decide +kernel
theorem dX5_isAsSaid_125 : decode cX5_isAsSaid 125 = .ok (.iload_n 3, 1) := by decide +kernel
theorem dX5_isAsSaid_126 : decode cX5_isAsSaid 126 = .ok (.sipush 1000, 3) := by decide +kernel
theorem dX5_isAsSaid_129 : decode cX5_isAsSaid 129 = .ok (.if_icmp .gt 7, 3) := by decide +kernel
theorem dX5_isAsSaid_132 : decode cX5_isAsSaid 132 = .ok (.iconst 1, 1) := by decide +kernel
theorem dX5_isAsSaid_133 : decode cX5_isAsSaid 133 = .ok (.goto 34, 3) := by decide +kernel
theorem dX5_isAsSaid_136 : decode cX5_isAsSaid 136 = .ok (.iconst 0, 1) := by decide +kernel
theorem dX5_isAsSaid_137 : decode cX5_isAsSaid 137 = .ok (.goto 30, 3) := by decide +kernel
theorem dX5_isAsSaid_140 : decode cX5_isAsSaid 140 = .ok (.iload_n 3, 1) := by decide +kernel
theorem dX5_isAsSaid_141 : decode cX5_isAsSaid 141 = .ok (.invokestatic 102, 3) := by decide +kernel
theorem dX5_isAsSaid_144 : decode cX5_isAsSaid 144 = .ok (.ifCond .eq 22, 3) := by decide +kernel
theorem dX5_isAsSaid_147 : decode cX5_isAsSaid 147 = .ok (.aload_n 0, 1) := by decide +kernel
theorem dX5_isAsSaid_148 : decode cX5_isAsSaid 148 = .ok (.getfield 35, 3) := by decide +kernel
theorem dX5_isAsSaid_151 : decode cX5_isAsSaid 151 = .ok (.getfield 112, 3) := by decide +kernel
theorem dX5_isAsSaid_154 : decode cX5_isAsSaid 154 = .ok (.iload_n 3, 1) := by decide +kernel
theorem dX5_isAsSaid_155 : decode cX5_isAsSaid 155 = .ok (.invokestatic 76, 3) := by decide +kernel
theorem dX5_isAsSaid_158 : decode cX5_isAsSaid 158 = .ok (.iconst (-1), 1) := by decide +kernel
theorem dX5_isAsSaid_159 : decode cX5_isAsSaid 159 = .ok (.if_icmp .ne 7, 3) := by decide +kernel
theorem dX5_isAsSaid_162 : decode cX5_isAsSaid 162 = .ok (.iconst 1, 1) := by decide +kernel
theorem dX5_isAsSaid_163 : decode cX5_isAsSaid 163 = .ok (.goto 4, 3) := by decide +kernel
theorem dX5_isAsSaid_166 : decode cX5_isAsSaid 166 = .ok (.iconst 0, 1) := by decide +kernel
theorem dX5_isAsSaid_167 : decode cX5_isAsSaid 167 = .ok (.ireturn, 1) := by decide +kernel
theorem dX5_isAsSaid_168 : decode cX5_isAsSaid 168 = .ok (.iload_n 2, 1) := by decide +kernel
theorem dX5_isAsSaid_169 : decode cX5_isAsSaid 169 = .ok (.ifCond .gt 25, 3) := by decide +kernel
theorem dX5_isAsSaid_172 : decode cX5_isAsSaid 172 = .ok (.iload_n 3, 1) := by decide +kernel
theorem dX5_isAsSaid_173 : decode cX5_isAsSaid 173 = .ok (.invokestatic 102, 3) := by decide +kernel
theorem dX5_isAsSaid_176 : decode cX5_isAsSaid 176 = .ok (.ifCond .eq 22, 3) := by decide +kernel
theorem dX5_isAsSaid_179 : decode cX5_isAsSaid 179 = .ok (.aload_n 0, 1) := by decide +kernel
theorem dX5_isAsSaid_180 : decode cX5_isAsSaid 180 = .ok (.getfield 35, 3) := by decide +kernel
theorem dX5_isAsSaid_183 : decode cX5_isAsSaid 183 = .ok (.getfield 115, 3) := by decide +kernel
theorem dX5_isAsSaid_186 : decode cX5_isAsSaid 186 = .ok (.iload_n 3, 1) := by decide +kernel
theorem dX5_isAsSaid_187 : decode cX5_isAsSaid 187 = .ok (.invokestatic 76, 3) := by decide +kernel
theorem dX5_isAsSaid_190 : decode cX5_isAsSaid 190 = .ok (.iconst (-1), 1) := by decide +kernel
theorem dX5_isAsSaid_191 : decode cX5_isAsSaid 191 = .ok (.if_icmp .ne 7, 3) := by decide +kernel
theorem dX5_isAsSaid_194 : decode cX5_isAsSaid 194 = .ok (.iconst 1, 1) := by decide +kernel
theorem dX5_isAsSaid_195 : decode cX5_isAsSaid 195 = .ok (.goto 4, 3) := by decide +kernel
theorem dX5_isAsSaid_198 : decode cX5_isAsSaid 198 = .ok (.iconst 0, 1) := by decide +kernel
theorem dX5_isAsSaid_199 : decode cX5_isAsSaid 199 = .ok (.ireturn, 1) := by decide +kernel
theorem dX5_isAsSaid_200 : decode cX5_isAsSaid 200 = .ok (.aload_n 0, 1) := by decide +kernel
theorem dX5_isAsSaid_201 : decode cX5_isAsSaid 201 = .ok (.iload_n 2, 1) := by decide +kernel
theorem dX5_isAsSaid_202 : decode cX5_isAsSaid 202 = .ok (.iload_n 3, 1) := by decide +kernel
theorem dX5_isAsSaid_203 : decode cX5_isAsSaid 203 = .ok (.invokevirtual 118, 3) := by decide +kernel
theorem dX5_isAsSaid_206 : decode cX5_isAsSaid 206 = .ok (.ireturn, 1) := by decide +kernel
theorem dX5_isAsSaid_207 : decode cX5_isAsSaid 207 = .ok (.iload_n 2, 1) := by decide +kernel
theorem dX5_isAsSaid_208 : decode cX5_isAsSaid 208 = .ok (.ifCond .eq 15, 3) := by decide +kernel
theorem dX5_isAsSaid_211 : decode cX5_isAsSaid 211 = .ok (.iload_n 3, 1) := by decide +kernel
theorem dX5_isAsSaid_212 : decode cX5_isAsSaid 212 = .ok (.aload_n 0, 1) := by decide +kernel
theorem dX5_isAsSaid_213 : decode cX5_isAsSaid 213 = .ok (.getfield 15, 3) := by decide +kernel
theorem dX5_isAsSaid_216 : decode cX5_isAsSaid 216 = .ok (.iconst 0, 1) := by decide +kernel
theorem dX5_isAsSaid_217 : decode cX5_isAsSaid 217 = .ok (.invokestatic 76, 3) := by decide +kernel
theorem dX5_isAsSaid_220 : decode cX5_isAsSaid 220 = .ok (.if_icmp .lt 7, 3) := by decide +kernel
theorem dX5_isAsSaid_223 : decode cX5_isAsSaid 223 = .ok (.iconst 1, 1) := by decide +kernel
theorem dX5_isAsSaid_224 : decode cX5_isAsSaid 224 = .ok (.goto 4, 3) := by decide +kernel
theorem dX5_isAsSaid_227 : decode cX5_isAsSaid 227 = .ok (.iconst 0, 1) := by decide +kernel
theorem dX5_isAsSaid_228 : decode cX5_isAsSaid 228 = .ok (.ireturn, 1) := by decide +kernel
theorem dX5_isAsSaid_229 : decode cX5_isAsSaid 229 = .ok (.iload_n 3, 1) := by decide +kernel
theorem dX5_isAsSaid_230 : decode cX5_isAsSaid 230 = .ok (.iconst 1, 1) := by decide +kernel
theorem dX5_isAsSaid_231 : decode cX5_isAsSaid 231 = .ok (.sipush 1000, 3) := by decide +kernel
theorem dX5_isAsSaid_234 : decode cX5_isAsSaid 234 = .ok (.invokestatic 80, 3) := by decide +kernel
theorem dX5_isAsSaid_237 : decode cX5_isAsSaid 237 = .ok (.ireturn, 1) := by decide +kernel
theorem dX5_isAsSaid_238 : decode cX5_isAsSaid 238 = .ok (.iload_n 3, 1) := by decide +kernel
theorem dX5_isAsSaid_239 : decode cX5_isAsSaid 239 = .ok (.iconst 1, 1) := by decide +kernel
theorem dX5_isAsSaid_240 : decode cX5_isAsSaid 240 = .ok (.if_icmp .lt 7, 3) := by decide +kernel
theorem dX5_isAsSaid_243 : decode cX5_isAsSaid 243 = .ok (.iconst 1, 1) := by decide +kernel
theorem dX5_isAsSaid_244 : decode cX5_isAsSaid 244 = .ok (.goto 4, 3) := by decide +kernel
theorem dX5_isAsSaid_247 : decode cX5_isAsSaid 247 = .ok (.iconst 0, 1) := by decide +kernel
theorem dX5_isAsSaid_248 : decode cX5_isAsSaid 248 = .ok (.ireturn, 1) := by decide +kernel
theorem dX5_isExcludable_0 : decode cX5_isExcludable 0 = .ok (.aload_n 0, 1) := by decide +kernel
theorem dX5_isExcludable_1 : decode cX5_isExcludable 1 = .ok (.getfield 35, 3) := by decide +kernel
theorem dX5_isExcludable_4 : decode cX5_isExcludable 4 = .ok (.ifnull 25, 3) := by decide +kernel
theorem dX5_isExcludable_7 : decode cX5_isExcludable 7 = .ok (.iload_n 2, 1) := by decide +kernel
theorem dX5_isExcludable_8 : decode cX5_isExcludable 8 = .ok (.invokestatic 102, 3) := by decide +kernel
theorem dX5_isExcludable_11 : decode cX5_isExcludable 11 = .ok (.ifCond .eq 18, 3) := by decide +kernel
theorem dX5_isExcludable_14 : decode cX5_isExcludable 14 = .ok (.aload_n 0, 1) := by decide +kernel
theorem dX5_isExcludable_15 : decode cX5_isExcludable 15 = .ok (.getfield 35, 3) := by decide +kernel
theorem dX5_isExcludable_18 : decode cX5_isExcludable 18 = .ok (.getfield 115, 3) := by decide +kernel
theorem dX5_isExcludable_21 : decode cX5_isExcludable 21 = .ok (.iload_n 2, 1) := by decide +kernel
theorem dX5_isExcludable_22 : decode cX5_isExcludable 22 = .ok (.invokestatic 76, 3) := by decide +kernel
theorem dX5_isExcludable_25 : decode cX5_isExcludable 25 = .ok (.iconst (-1), 1) := by decide +kernel
theorem dX5_isExcludable_26 : decode cX5_isExcludable 26 = .ok (.if_icmp .ne 5, 3) := by decide +kernel
theorem dX5_isExcludable_29 : decode cX5_isExcludable 29 = .ok (.iconst 0, 1) := by decide +kernel
theorem dX5_isExcludable_30 : decode cX5_isExcludable 30 = .ok (.ireturn, 1) := by decide +kernel
theorem dX5_isExcludable_31 : decode cX5_isExcludable 31 = .ok (.aload_n 0, 1) := by decide +kernel
theorem dX5_isExcludable_32 : decode cX5_isExcludable 32 = .ok (.getfield 15, 3) := by decide +kernel
theorem dX5_isExcludable_35 : decode cX5_isExcludable 35 = .ok (.iconst 0, 1) := by decide +kernel
theorem dX5_isExcludable_36 : decode cX5_isExcludable 36 = .ok (.invokestatic 76, 3) := by decide +kernel
theorem dX5_isExcludable_39 : decode cX5_isExcludable 39 = .ok (.istore_n 3, 1) := by decide +kernel
theorem dX5_isExcludable_40 : decode cX5_isExcludable 40 = .ok (.iload_n 1, 1) := by decide +kernel
theorem dX5_isExcludable_41 : decode cX5_isExcludable 41 = .ok (.ifCond .eq 20, 3) := by decide +kernel
theorem dX5_isExcludable_44 : decode cX5_isExcludable 44 = .ok (.iload_n 2, 1) := by decide +kernel
theorem dX5_isExcludable_45 : decode cX5_isExcludable 45 = .ok (.iload_n 3, 1) := by decide +kernel
theorem dX5_isExcludable_46 : decode cX5_isExcludable 46 = .ok (.if_icmp .eq 19, 3) := by decide +kernel
theorem dX5_isExcludable_49 : decode cX5_isExcludable 49 = .ok (.aload_n 0, 1) := by decide +kernel
theorem dX5_isExcludable_50 : decode cX5_isExcludable 50 = .ok (.getfield 35, 3) := by decide +kernel
theorem dX5_isExcludable_53 : decode cX5_isExcludable 53 = .ok (.iload_n 3, 1) := by decide +kernel
theorem dX5_isExcludable_54 : decode cX5_isExcludable 54 = .ok (.iload_n 2, 1) := by decide +kernel
theorem dX5_isExcludable_55 : decode cX5_isExcludable 55 = .ok (.invokevirtual 122, 3) := by decide +kernel
theorem dX5_isExcludable_58 : decode cX5_isExcludable 58 = .ok (.ifCond .ne 7, 3) := by decide +kernel
theorem dX5_isExcludable_61 : decode cX5_isExcludable 61 = .ok (.iconst 1, 1) := by decide +kernel
theorem dX5_isExcludable_62 : decode cX5_isExcludable 62 = .ok (.goto 4, 3) := by decide +kernel
theorem dX5_isExcludable_65 : decode cX5_isExcludable 65 = .ok (.iconst 0, 1) := by decide +kernel
theorem dX5_isExcludable_66 : decode cX5_isExcludable 66 = .ok (.ireturn, 1) := by decide +kernel
theorem dX5_take_0 : decode cX5_take 0 = .ok (.aload_n 0, 1) := by decide +kernel
theorem dX5_take_1 : decode cX5_take 1 = .ok (.getfield 15, 3) := by decide +kernel
theorem dX5_take_4 : decode cX5_take 4 = .ok (.iconst 0, 1) := by decide +kernel
theorem dX5_take_5 : decode cX5_take 5 = .ok (.invokestatic 76, 3) := by decide +kernel
theorem dX5_take_8 : decode cX5_take 8 = .ok (.istore_n 2, 1) := by decide +kernel
theorem dX5_take_9 : decode cX5_take 9 = .ok (.aload_n 0, 1) := by decide +kernel
theorem dX5_take_10 : decode cX5_take 10 = .ok (.getfield 15, 3) := by decide +kernel
theorem dX5_take_13 : decode cX5_take 13 = .ok (.iconst 1, 1) := by decide +kernel
theorem dX5_take_14 : decode cX5_take 14 = .ok (.invokestatic 76, 3) := by decide +kernel
theorem dX5_take_17 : decode cX5_take 17 = .ok (.istore_n 3, 1) := by decide +kernel
theorem dX5_take_18 : decode cX5_take 18 = .ok (.iload_n 1, 1) := by decide +kernel
theorem dX5_take_19 : decode cX5_take 19 = .ok (.bipush 75, 2) := by decide +kernel
theorem dX5_take_21 : decode cX5_take 21 = .ok (.if_icmp .ne 11, 3) := by decide +kernel
theorem dX5_take_24 : decode cX5_take 24 = .ok (.aload_n 0, 1) := by decide +kernel
theorem dX5_take_25 : decode cX5_take 25 = .ok (.iload_n 2, 1) := by decide +kernel
theorem dX5_take_26 : decode cX5_take 26 = .ok (.invokevirtual 125, 3) := by decide +kernel
theorem dX5_take_29 : decode cX5_take 29 = .ok (.goto 21, 3) := by decide +kernel
theorem dX5_take_32 : decode cX5_take 32 = .ok (.aload_n 0, 1) := by decide +kernel
theorem dX5_take_33 : decode cX5_take 33 = .ok (.getfield 35, 3) := by decide +kernel
theorem dX5_take_36 : decode cX5_take 36 = .ok (.ifnull 14, 3) := by decide +kernel
theorem dX5_take_39 : decode cX5_take 39 = .ok (.aload_n 0, 1) := by decide +kernel
theorem dX5_take_40 : decode cX5_take 40 = .ok (.aload_n 0, 1) := by decide +kernel
theorem dX5_take_41 : decode cX5_take 41 = .ok (.getfield 35, 3) := by decide +kernel
theorem dX5_take_44 : decode cX5_take 44 = .ok (.iload_n 1, 1) := by decide +kernel
theorem dX5_take_45 : decode cX5_take 45 = .ok (.iload_n 2, 1) := by decide +kernel
theorem dX5_take_46 : decode cX5_take 46 = .ok (.iload_n 3, 1) := by decide +kernel
theorem dX5_take_47 : decode cX5_take 47 = .ok (.invokevirtual 128, 3) := by decide +kernel
theorem dX5_take_50 : decode cX5_take 50 = .ok (.return_, 1) := by decide +kernel
theorem dX5_begin_0 : decode cX5_begin 0 = .ok (.aload_n 0, 1) := by decide +kernel
theorem dX5_begin_1 : decode cX5_begin 1 = .ok (.aload_n 0, 1) := by decide +kernel
theorem dX5_begin_2 : decode cX5_begin 2 = .ok (.getfield 26, 3) := by decide +kernel
theorem dX5_begin_5 : decode cX5_begin 5 = .ok (.ifnonnull 7, 3) := by decide +kernel
theorem dX5_begin_8 : decode cX5_begin 8 = .ok (.aconst_null, 1) := by decide +kernel
theorem dX5_begin_9 : decode cX5_begin 9 = .ok (.goto 11, 3) := by decide +kernel
theorem dX5_begin_12 : decode cX5_begin 12 = .ok (.aload_n 0, 1) := by decide +kernel
theorem dX5_begin_13 : decode cX5_begin 13 = .ok (.getfield 26, 3) := by decide +kernel
theorem dX5_begin_16 : decode cX5_begin 16 = .ok (.iload_n 1, 1) := by decide +kernel
theorem dX5_begin_17 : decode cX5_begin 17 = .ok (.invokevirtual 132, 3) := by decide +kernel
theorem dX5_begin_20 : decode cX5_begin 20 = .ok (.putfield 35, 3) := by decide +kernel
theorem dX5_begin_23 : decode cX5_begin 23 = .ok (.aload_n 0, 1) := by decide +kernel
theorem dX5_begin_24 : decode cX5_begin 24 = .ok (.getfield 35, 3) := by decide +kernel
theorem dX5_begin_27 : decode cX5_begin 27 = .ok (.ifnull 11, 3) := by decide +kernel
theorem dX5_begin_30 : decode cX5_begin 30 = .ok (.aload_n 0, 1) := by decide +kernel
theorem dX5_begin_31 : decode cX5_begin 31 = .ok (.getfield 35, 3) := by decide +kernel
theorem dX5_begin_34 : decode cX5_begin 34 = .ok (.iconst 1, 1) := by decide +kernel
theorem dX5_begin_35 : decode cX5_begin 35 = .ok (.putfield 136, 3) := by decide +kernel
theorem dX5_begin_38 : decode cX5_begin 38 = .ok (.return_, 1) := by decide +kernel
theorem dX5_takeOf_0 : decode cX5_takeOf 0 = .ok (.iload_n 2, 1) := by decide +kernel
theorem dX5_takeOf_1 : decode cX5_takeOf 1 = .ok (.tableswitch 209 68 90 #[153, 143, 187, 209, 209, 209, 209, 209, 209, 179, 209, 209, 209, 209, 201, 107, 209, 209, 209, 209, 130, 209, 117], 107) := by decide +kernel
theorem dX5_takeOf_108 : decode cX5_takeOf 108 = .ok (.aload_n 1, 1) := by decide +kernel
theorem dX5_takeOf_109 : decode cX5_takeOf 109 = .ok (.iload_n 3, 1) := by decide +kernel
theorem dX5_takeOf_110 : decode cX5_takeOf 110 = .ok (.iload 4, 2) := by decide +kernel
theorem dX5_takeOf_112 : decode cX5_takeOf 112 = .ok (.invokevirtual 140, 3) := by decide +kernel
theorem dX5_takeOf_115 : decode cX5_takeOf 115 = .ok (.goto 95, 3) := by decide +kernel
theorem dX5_takeOf_118 : decode cX5_takeOf 118 = .ok (.aload_n 1, 1) := by decide +kernel
theorem dX5_takeOf_119 : decode cX5_takeOf 119 = .ok (.getfield 112, 3) := by decide +kernel
theorem dX5_takeOf_122 : decode cX5_takeOf 122 = .ok (.iload_n 3, 1) := by decide +kernel
theorem dX5_takeOf_123 : decode cX5_takeOf 123 = .ok (.iload 4, 2) := by decide +kernel
theorem dX5_takeOf_125 : decode cX5_takeOf 125 = .ok (.invokestatic 22, 3) := by decide +kernel
theorem dX5_takeOf_128 : decode cX5_takeOf 128 = .ok (.goto 82, 3) := by decide +kernel
theorem dX5_takeOf_131 : decode cX5_takeOf 131 = .ok (.aload_n 1, 1) := by decide +kernel
theorem dX5_takeOf_132 : decode cX5_takeOf 132 = .ok (.getfield 115, 3) := by decide +kernel
theorem dX5_takeOf_135 : decode cX5_takeOf 135 = .ok (.iload_n 3, 1) := by decide +kernel
theorem dX5_takeOf_136 : decode cX5_takeOf 136 = .ok (.iload 4, 2) := by decide +kernel
theorem dX5_takeOf_138 : decode cX5_takeOf 138 = .ok (.invokestatic 22, 3) := by decide +kernel
theorem dX5_takeOf_141 : decode cX5_takeOf 141 = .ok (.goto 69, 3) := by decide +kernel
theorem dX5_takeOf_144 : decode cX5_takeOf 144 = .ok (.aload_n 1, 1) := by decide +kernel
theorem dX5_takeOf_145 : decode cX5_takeOf 145 = .ok (.iload_n 3, 1) := by decide +kernel
theorem dX5_takeOf_146 : decode cX5_takeOf 146 = .ok (.iload 4, 2) := by decide +kernel
theorem dX5_takeOf_148 : decode cX5_takeOf 148 = .ok (.invokevirtual 143, 3) := by decide +kernel
theorem dX5_takeOf_151 : decode cX5_takeOf 151 = .ok (.goto 59, 3) := by decide +kernel
theorem dX5_takeOf_154 : decode cX5_takeOf 154 = .ok (.aload_n 1, 1) := by decide +kernel
theorem dX5_takeOf_155 : decode cX5_takeOf 155 = .ok (.iload_n 3, 1) := by decide +kernel
theorem dX5_takeOf_156 : decode cX5_takeOf 156 = .ok (.putfield 90, 3) := by decide +kernel
theorem dX5_takeOf_159 : decode cX5_takeOf 159 = .ok (.aload_n 1, 1) := by decide +kernel
theorem dX5_takeOf_160 : decode cX5_takeOf 160 = .ok (.iload 4, 2) := by decide +kernel
theorem dX5_takeOf_162 : decode cX5_takeOf 162 = .ok (.putfield 146, 3) := by decide +kernel
theorem dX5_takeOf_165 : decode cX5_takeOf 165 = .ok (.aload_n 1, 1) := by decide +kernel
theorem dX5_takeOf_166 : decode cX5_takeOf 166 = .ok (.aload_n 0, 1) := by decide +kernel
theorem dX5_takeOf_167 : decode cX5_takeOf 167 = .ok (.getfield 15, 3) := by decide +kernel
theorem dX5_takeOf_170 : decode cX5_takeOf 170 = .ok (.iconst 2, 1) := by decide +kernel
theorem dX5_takeOf_171 : decode cX5_takeOf 171 = .ok (.invokestatic 76, 3) := by decide +kernel
theorem dX5_takeOf_174 : decode cX5_takeOf 174 = .ok (.putfield 149, 3) := by decide +kernel
theorem dX5_takeOf_177 : decode cX5_takeOf 177 = .ok (.goto 33, 3) := by decide +kernel
theorem dX5_takeOf_180 : decode cX5_takeOf 180 = .ok (.aload_n 1, 1) := by decide +kernel
theorem dX5_takeOf_181 : decode cX5_takeOf 181 = .ok (.iload_n 3, 1) := by decide +kernel
theorem dX5_takeOf_182 : decode cX5_takeOf 182 = .ok (.putfield 93, 3) := by decide +kernel
theorem dX5_takeOf_185 : decode cX5_takeOf 185 = .ok (.goto 25, 3) := by decide +kernel
theorem dX5_takeOf_188 : decode cX5_takeOf 188 = .ok (.aload_n 1, 1) := by decide +kernel
theorem dX5_takeOf_189 : decode cX5_takeOf 189 = .ok (.iload_n 3, 1) := by decide +kernel
theorem dX5_takeOf_190 : decode cX5_takeOf 190 = .ok (.putfield 96, 3) := by decide +kernel
theorem dX5_takeOf_193 : decode cX5_takeOf 193 = .ok (.aload_n 1, 1) := by decide +kernel
theorem dX5_takeOf_194 : decode cX5_takeOf 194 = .ok (.iload 4, 2) := by decide +kernel
theorem dX5_takeOf_196 : decode cX5_takeOf 196 = .ok (.putfield 152, 3) := by decide +kernel
theorem dX5_takeOf_199 : decode cX5_takeOf 199 = .ok (.goto 11, 3) := by decide +kernel
theorem dX5_takeOf_202 : decode cX5_takeOf 202 = .ok (.aload_n 1, 1) := by decide +kernel
theorem dX5_takeOf_203 : decode cX5_takeOf 203 = .ok (.iload_n 3, 1) := by decide +kernel
theorem dX5_takeOf_204 : decode cX5_takeOf 204 = .ok (.putfield 99, 3) := by decide +kernel
theorem dX5_takeOf_207 : decode cX5_takeOf 207 = .ok (.goto 3, 3) := by decide +kernel
theorem dX5_takeOf_210 : decode cX5_takeOf 210 = .ok (.return_, 1) := by decide +kernel
theorem dX6_init_0 : decode cX6_init 0 = .ok (.aload_n 0, 1) := by decide +kernel
theorem dX6_init_1 : decode cX6_init 1 = .ok (.invokespecial 3, 3) := by decide +kernel
theorem dX6_init_4 : decode cX6_init 4 = .ok (.aload_n 0, 1) := by decide +kernel
theorem dX6_init_5 : decode cX6_init 5 = .ok (.new 9, 3) := by decide +kernel
theorem dX6_init_8 : decode cX6_init 8 = .ok (.dup, 1) := by decide +kernel
theorem dX6_init_9 : decode cX6_init 9 = .ok (.invokespecial 11, 3) := by decide +kernel
theorem dX6_init_12 : decode cX6_init 12 = .ok (.putfield 12, 3) := by decide +kernel
theorem dX6_init_15 : decode cX6_init 15 = .ok (.aload_n 0, 1) := by decide +kernel
theorem dX6_init_16 : decode cX6_init 16 = .ok (.new 16, 3) := by decide +kernel
theorem dX6_init_19 : decode cX6_init 19 = .ok (.dup, 1) := by decide +kernel
theorem dX6_init_20 : decode cX6_init 20 = .ok (.invokespecial 18, 3) := by decide +kernel
theorem dX6_init_23 : decode cX6_init 23 = .ok (.putfield 19, 3) := by decide +kernel
theorem dX6_init_26 : decode cX6_init 26 = .ok (.aload_n 0, 1) := by decide +kernel
theorem dX6_init_27 : decode cX6_init 27 = .ok (.new 23, 3) := by decide +kernel
theorem dX6_init_30 : decode cX6_init 30 = .ok (.dup, 1) := by decide +kernel
theorem dX6_init_31 : decode cX6_init 31 = .ok (.invokespecial 25, 3) := by decide +kernel
theorem dX6_init_34 : decode cX6_init 34 = .ok (.putfield 26, 3) := by decide +kernel
theorem dX6_init_37 : decode cX6_init 37 = .ok (.aload_n 0, 1) := by decide +kernel
theorem dX6_init_38 : decode cX6_init 38 = .ok (.new 23, 3) := by decide +kernel
theorem dX6_init_41 : decode cX6_init 41 = .ok (.dup, 1) := by decide +kernel
theorem dX6_init_42 : decode cX6_init 42 = .ok (.invokespecial 25, 3) := by decide +kernel
theorem dX6_init_45 : decode cX6_init 45 = .ok (.putfield 30, 3) := by decide +kernel
theorem dX6_init_48 : decode cX6_init 48 = .ok (.aload_n 0, 1) := by decide +kernel
theorem dX6_init_49 : decode cX6_init 49 = .ok (.bipush 100, 2) := by decide +kernel
theorem dX6_init_51 : decode cX6_init 51 = .ok (.anewarray 33, 3) := by decide +kernel
theorem dX6_init_54 : decode cX6_init 54 = .ok (.putfield 35, 3) := by decide +kernel
theorem dX6_init_57 : decode cX6_init 57 = .ok (.aload_n 0, 1) := by decide +kernel
theorem dX6_init_58 : decode cX6_init 58 = .ok (.bipush 6, 2) := by decide +kernel
theorem dX6_init_60 : decode cX6_init 60 = .ok (.anewarray 39, 3) := by decide +kernel
theorem dX6_init_63 : decode cX6_init 63 = .ok (.putfield 41, 3) := by decide +kernel
theorem dX6_init_66 : decode cX6_init 66 = .ok (.iconst 0, 1) := by decide +kernel
theorem dX6_init_67 : decode cX6_init 67 = .ok (.istore_n 1, 1) := by decide +kernel
theorem dX6_init_68 : decode cX6_init 68 = .ok (.iload_n 1, 1) := by decide +kernel
theorem dX6_init_69 : decode cX6_init 69 = .ok (.aload_n 0, 1) := by decide +kernel
theorem dX6_init_70 : decode cX6_init 70 = .ok (.getfield 41, 3) := by decide +kernel
theorem dX6_init_73 : decode cX6_init 73 = .ok (.arraylength, 1) := by decide +kernel
theorem dX6_init_74 : decode cX6_init 74 = .ok (.if_icmp .ge 22, 3) := by decide +kernel
theorem dX6_init_77 : decode cX6_init 77 = .ok (.aload_n 0, 1) := by decide +kernel
theorem dX6_init_78 : decode cX6_init 78 = .ok (.getfield 41, 3) := by decide +kernel
theorem dX6_init_81 : decode cX6_init 81 = .ok (.iload_n 1, 1) := by decide +kernel
theorem dX6_init_82 : decode cX6_init 82 = .ok (.new 39, 3) := by decide +kernel
theorem dX6_init_85 : decode cX6_init 85 = .ok (.dup, 1) := by decide +kernel
theorem dX6_init_86 : decode cX6_init 86 = .ok (.invokespecial 45, 3) := by decide +kernel
theorem dX6_init_89 : decode cX6_init 89 = .ok (.aastore, 1) := by decide +kernel
theorem dX6_init_90 : decode cX6_init 90 = .ok (.iinc 1 1, 3) := by decide +kernel
theorem dX6_init_93 : decode cX6_init 93 = .ok (.goto (-25), 3) := by decide +kernel
theorem dX6_init_96 : decode cX6_init 96 = .ok (.return_, 1) := by decide +kernel
theorem dX6_sign_0 : decode cX6_sign 0 = .ok (.iload_n 1, 1) := by decide +kernel
theorem dX6_sign_1 : decode cX6_sign 1 = .ok (.iconst 0, 1) := by decide +kernel
theorem dX6_sign_2 : decode cX6_sign 2 = .ok (.bipush 126, 2) := by decide +kernel
theorem dX6_sign_4 : decode cX6_sign 4 = .ok (.invokestatic 46, 3) := by decide +kernel
theorem dX6_sign_7 : decode cX6_sign 7 = .ok (.ifCond .eq 11, 3) := by decide +kernel
theorem dX6_sign_10 : decode cX6_sign 10 = .ok (.aload_n 0, 1) := by decide +kernel
theorem dX6_sign_11 : decode cX6_sign 11 = .ok (.getfield 12, 3) := by decide +kernel
theorem dX6_sign_14 : decode cX6_sign 14 = .ok (.iload_n 1, 1) := by decide +kernel
theorem dX6_sign_15 : decode cX6_sign 15 = .ok (.invokevirtual 50, 3) := by decide +kernel
theorem dX6_sign_18 : decode cX6_sign 18 = .ok (.return_, 1) := by decide +kernel
theorem dX6_read_0 : decode cX6_read 0 = .ok (.aload_n 0, 1) := by decide +kernel
theorem dX6_read_1 : decode cX6_read 1 = .ok (.aload_n 0, 1) := by decide +kernel
theorem dX6_read_2 : decode cX6_read 2 = .ok (.getfield 54, 3) := by decide +kernel
theorem dX6_read_5 : decode cX6_read 5 = .ok (.invokevirtual 58, 3) := by decide +kernel
theorem dX6_read_8 : decode cX6_read 8 = .ok (.astore_n 1, 1) := by decide +kernel
theorem dX6_read_9 : decode cX6_read 9 = .ok (.aload_n 1, 1) := by decide +kernel
theorem dX6_read_10 : decode cX6_read 10 = .ok (.ifnonnull 6, 3) := by decide +kernel
theorem dX6_read_13 : decode cX6_read 13 = .ok (.ldc 62, 2) := by decide +kernel
theorem dX6_read_15 : decode cX6_read 15 = .ok (.ireturn, 1) := by decide +kernel
theorem dX6_read_16 : decode cX6_read 16 = .ok (.aload_n 0, 1) := by decide +kernel
theorem dX6_read_17 : decode cX6_read 17 = .ok (.getfield 12, 3) := by decide +kernel
theorem dX6_read_20 : decode cX6_read 20 = .ok (.aload_n 1, 1) := by decide +kernel
theorem dX6_read_21 : decode cX6_read 21 = .ok (.invokevirtual 63, 3) := by decide +kernel
theorem dX6_read_24 : decode cX6_read 24 = .ok (.istore_n 2, 1) := by decide +kernel
theorem dX6_read_25 : decode cX6_read 25 = .ok (.aload_n 0, 1) := by decide +kernel
theorem dX6_read_26 : decode cX6_read 26 = .ok (.getfield 12, 3) := by decide +kernel
theorem dX6_read_29 : decode cX6_read 29 = .ok (.invokevirtual 67, 3) := by decide +kernel
theorem dX6_read_32 : decode cX6_read 32 = .ok (.iload_n 2, 1) := by decide +kernel
theorem dX6_read_33 : decode cX6_read 33 = .ok (.ifCond .ge 5, 3) := by decide +kernel
theorem dX6_read_36 : decode cX6_read 36 = .ok (.iload_n 2, 1) := by decide +kernel
theorem dX6_read_37 : decode cX6_read 37 = .ok (.ireturn, 1) := by decide +kernel
theorem dX6_read_38 : decode cX6_read 38 = .ok (.aload_n 0, 1) := by decide +kernel
theorem dX6_read_39 : decode cX6_read 39 = .ok (.getfield 54, 3) := by decide +kernel
theorem dX6_read_42 : decode cX6_read 42 = .ok (.iconst 5, 1) := by decide +kernel
theorem dX6_read_43 : decode cX6_read 43 = .ok (.if_icmp .lt 6, 3) := by decide +kernel
theorem dX6_read_46 : decode cX6_read 46 = .ok (.ldc 62, 2) := by decide +kernel
theorem dX6_read_48 : decode cX6_read 48 = .ok (.ireturn, 1) := by decide +kernel
theorem dX6_read_49 : decode cX6_read 49 = .ok (.aload_n 0, 1) := by decide +kernel
theorem dX6_read_50 : decode cX6_read 50 = .ok (.dup, 1) := by decide +kernel
theorem dX6_read_51 : decode cX6_read 51 = .ok (.getfield 54, 3) := by decide +kernel
theorem dX6_read_54 : decode cX6_read 54 = .ok (.iconst 1, 1) := by decide +kernel
theorem dX6_read_55 : decode cX6_read 55 = .ok (.iadd, 1) := by decide +kernel
theorem dX6_read_56 : decode cX6_read 56 = .ok (.putfield 54, 3) := by decide +kernel
theorem dX6_read_59 : decode cX6_read 59 = .ok (.iload_n 2, 1) := by decide +kernel
theorem dX6_read_60 : decode cX6_read 60 = .ok (.ireturn, 1) := by decide +kernel
theorem dX6_item_0 : decode cX6_item 0 = .ok (.iload_n 1, 1) := by decide +kernel
theorem dX6_item_1 : decode cX6_item 1 = .ok (.invokestatic 70, 3) := by decide +kernel
theorem dX6_item_4 : decode cX6_item 4 = .ok (.ifCond .eq 33, 3) := by decide +kernel
theorem dX6_item_7 : decode cX6_item 7 = .ok (.iload_n 2, 1) := by decide +kernel
theorem dX6_item_8 : decode cX6_item 8 = .ok (.invokestatic 74, 3) := by decide +kernel
theorem dX6_item_11 : decode cX6_item 11 = .ok (.ifCond .eq 26, 3) := by decide +kernel
theorem dX6_item_14 : decode cX6_item 14 = .ok (.iload_n 3, 1) := by decide +kernel
theorem dX6_item_15 : decode cX6_item 15 = .ok (.invokestatic 74, 3) := by decide +kernel
theorem dX6_item_18 : decode cX6_item 18 = .ok (.ifCond .eq 19, 3) := by decide +kernel
theorem dX6_item_21 : decode cX6_item 21 = .ok (.iload 4, 2) := by decide +kernel
theorem dX6_item_23 : decode cX6_item 23 = .ok (.invokestatic 74, 3) := by decide +kernel
theorem dX6_item_26 : decode cX6_item 26 = .ok (.ifCond .eq 11, 3) := by decide +kernel
theorem dX6_item_29 : decode cX6_item 29 = .ok (.iload 5, 2) := by decide +kernel
theorem dX6_item_31 : decode cX6_item 31 = .ok (.invokestatic 74, 3) := by decide +kernel
theorem dX6_item_34 : decode cX6_item 34 = .ok (.ifCond .ne 6, 3) := by decide +kernel
theorem dX6_item_37 : decode cX6_item 37 = .ok (.ldc 77, 2) := by decide +kernel
theorem dX6_item_39 : decode cX6_item 39 = .ok (.ireturn, 1) := by decide +kernel
theorem dX6_item_40 : decode cX6_item 40 = .ok (.aload_n 0, 1) := by decide +kernel
theorem dX6_item_41 : decode cX6_item 41 = .ok (.getfield 78, 3) := by decide +kernel
theorem dX6_item_44 : decode cX6_item 44 = .ok (.ifCond .lt 15, 3) := by decide +kernel
theorem dX6_item_47 : decode cX6_item 47 = .ok (.aload_n 0, 1) := by decide +kernel
theorem dX6_item_48 : decode cX6_item 48 = .ok (.getfield 78, 3) := by decide +kernel
theorem dX6_item_51 : decode cX6_item 51 = .ok (.aload_n 0, 1) := by decide +kernel
theorem dX6_item_52 : decode cX6_item 52 = .ok (.getfield 35, 3) := by decide +kernel
theorem dX6_item_55 : decode cX6_item 55 = .ok (.arraylength, 1) := by decide +kernel
theorem dX6_item_56 : decode cX6_item 56 = .ok (.if_icmp .lt 6, 3) := by decide +kernel
theorem dX6_item_59 : decode cX6_item 59 = .ok (.ldc 62, 2) := by decide +kernel
theorem dX6_item_61 : decode cX6_item 61 = .ok (.ireturn, 1) := by decide +kernel
theorem dX6_item_62 : decode cX6_item 62 = .ok (.aload_n 0, 1) := by decide +kernel
theorem dX6_item_63 : decode cX6_item 63 = .ok (.getfield 35, 3) := by decide +kernel
theorem dX6_item_66 : decode cX6_item 66 = .ok (.aload_n 0, 1) := by decide +kernel
theorem dX6_item_67 : decode cX6_item 67 = .ok (.getfield 78, 3) := by decide +kernel
theorem dX6_item_70 : decode cX6_item 70 = .ok (.new 33, 3) := by decide +kernel
theorem dX6_item_73 : decode cX6_item 73 = .ok (.dup, 1) := by decide +kernel
theorem dX6_item_74 : decode cX6_item 74 = .ok (.iload_n 1, 1) := by decide +kernel
theorem dX6_item_75 : decode cX6_item 75 = .ok (.iload_n 2, 1) := by decide +kernel
theorem dX6_item_76 : decode cX6_item 76 = .ok (.iload_n 3, 1) := by decide +kernel
theorem dX6_item_77 : decode cX6_item 77 = .ok (.iload 4, 2) := by decide +kernel
theorem dX6_item_79 : decode cX6_item 79 = .ok (.iload 5, 2) := by decide +kernel
theorem dX6_item_81 : decode cX6_item 81 = .ok (.invokespecial 81, 3) := by decide +kernel
theorem dX6_item_84 : decode cX6_item 84 = .ok (.aastore, 1) := by decide +kernel
theorem dX6_item_85 : decode cX6_item 85 = .ok (.aload_n 0, 1) := by decide +kernel
theorem dX6_item_86 : decode cX6_item 86 = .ok (.dup, 1) := by decide +kernel
theorem dX6_item_87 : decode cX6_item 87 = .ok (.getfield 78, 3) := by decide +kernel
theorem dX6_item_90 : decode cX6_item 90 = .ok (.iconst 1, 1) := by decide +kernel
theorem dX6_item_91 : decode cX6_item 91 = .ok (.iadd, 1) := by decide +kernel
theorem dX6_item_92 : decode cX6_item 92 = .ok (.putfield 78, 3) := by decide +kernel
theorem dX6_item_95 : decode cX6_item 95 = .ok (.aload_n 0, 1) := by decide +kernel
theorem dX6_item_96 : decode cX6_item 96 = .ok (.getfield 78, 3) := by decide +kernel
theorem dX6_item_99 : decode cX6_item 99 = .ok (.iconst 1, 1) := by decide +kernel
theorem dX6_item_100 : decode cX6_item 100 = .ok (.isub, 1) := by decide +kernel
theorem dX6_item_101 : decode cX6_item 101 = .ok (.ireturn, 1) := by decide +kernel
theorem dX6_service_0 : decode cX6_service 0 = .ok (.aload_n 0, 1) := by decide +kernel
theorem dX6_service_1 : decode cX6_service 1 = .ok (.iload_n 1, 1) := by decide +kernel
theorem dX6_service_2 : decode cX6_service 2 = .ok (.invokevirtual 84, 3) := by decide +kernel
theorem dX6_service_5 : decode cX6_service 5 = .ok (.astore_n 3, 1) := by decide +kernel
theorem dX6_service_6 : decode cX6_service 6 = .ok (.aload_n 3, 1) := by decide +kernel
theorem dX6_service_7 : decode cX6_service 7 = .ok (.ifnonnull 6, 3) := by decide +kernel
theorem dX6_service_10 : decode cX6_service 10 = .ok (.ldc 88, 2) := by decide +kernel
theorem dX6_service_12 : decode cX6_service 12 = .ok (.ireturn, 1) := by decide +kernel
theorem dX6_service_13 : decode cX6_service 13 = .ok (.iload_n 2, 1) := by decide +kernel
theorem dX6_service_14 : decode cX6_service 14 = .ok (.invokestatic 70, 3) := by decide +kernel
theorem dX6_service_17 : decode cX6_service 17 = .ok (.ifCond .ne 6, 3) := by decide +kernel
theorem dX6_service_20 : decode cX6_service 20 = .ok (.ldc 77, 2) := by decide +kernel
theorem dX6_service_22 : decode cX6_service 22 = .ok (.ireturn, 1) := by decide +kernel
theorem dX6_service_23 : decode cX6_service 23 = .ok (.aload_n 3, 1) := by decide +kernel
theorem dX6_service_24 : decode cX6_service 24 = .ok (.dup, 1) := by decide +kernel
theorem dX6_service_25 : decode cX6_service 25 = .ok (.getfield 89, 3) := by decide +kernel
theorem dX6_service_28 : decode cX6_service 28 = .ok (.iconst 1, 1) := by decide +kernel
theorem dX6_service_29 : decode cX6_service 29 = .ok (.iload_n 2, 1) := by decide +kernel
theorem dX6_service_30 : decode cX6_service 30 = .ok (.ishl, 1) := by decide +kernel
theorem dX6_service_31 : decode cX6_service 31 = .ok (.ior, 1) := by decide +kernel
theorem dX6_service_32 : decode cX6_service 32 = .ok (.putfield 89, 3) := by decide +kernel
theorem dX6_service_35 : decode cX6_service 35 = .ok (.aload_n 3, 1) := by decide +kernel
theorem dX6_service_36 : decode cX6_service 36 = .ok (.getfield 89, 3) := by decide +kernel
theorem dX6_service_39 : decode cX6_service 39 = .ok (.invokestatic 92, 3) := by decide +kernel
theorem dX6_service_42 : decode cX6_service 42 = .ok (.ireturn, 1) := by decide +kernel
theorem dX6_price_0 : decode cX6_price 0 = .ok (.aload_n 0, 1) := by decide +kernel
theorem dX6_price_1 : decode cX6_price 1 = .ok (.iload_n 1, 1) := by decide +kernel
theorem dX6_price_2 : decode cX6_price 2 = .ok (.invokevirtual 84, 3) := by decide +kernel
theorem dX6_price_5 : decode cX6_price 5 = .ok (.astore 5, 2) := by decide +kernel
theorem dX6_price_7 : decode cX6_price 7 = .ok (.aload 5, 2) := by decide +kernel
theorem dX6_price_9 : decode cX6_price 9 = .ok (.ifnonnull 7, 3) := by decide +kernel
theorem dX6_price_12 : decode cX6_price 12 = .ok (.ldc2_w 98, 3) := by decide +kernel
theorem dX6_price_15 : decode cX6_price 15 = .ok (.lreturn, 1) := by decide +kernel
theorem dX6_price_16 : decode cX6_price 16 = .ok (.aload_n 0, 1) := by decide +kernel
theorem dX6_price_17 : decode cX6_price 17 = .ok (.iload_n 2, 1) := by decide +kernel
theorem dX6_price_18 : decode cX6_price 18 = .ok (.lload_n 3, 1) := by decide +kernel
theorem dX6_price_19 : decode cX6_price 19 = .ok (.invokevirtual 100, 3) := by decide +kernel
theorem dX6_price_22 : decode cX6_price 22 = .ok (.istore 6, 2) := by decide +kernel
theorem dX6_price_24 : decode cX6_price 24 = .ok (.iload 6, 2) := by decide +kernel
theorem dX6_price_26 : decode cX6_price 26 = .ok (.ifCond .eq 7, 3) := by decide +kernel
theorem dX6_price_29 : decode cX6_price 29 = .ok (.iload 6, 2) := by decide +kernel
theorem dX6_price_31 : decode cX6_price 31 = .ok (.i2l, 1) := by decide +kernel
theorem dX6_price_32 : decode cX6_price 32 = .ok (.lreturn, 1) := by decide +kernel
theorem dX6_price_33 : decode cX6_price 33 = .ok (.aload_n 0, 1) := by decide +kernel
theorem dX6_price_34 : decode cX6_price 34 = .ok (.getfield 26, 3) := by decide +kernel
theorem dX6_price_37 : decode cX6_price 37 = .ok (.aload 5, 2) := by decide +kernel
theorem dX6_price_39 : decode cX6_price 39 = .ok (.aload_n 0, 1) := by decide +kernel
theorem dX6_price_40 : decode cX6_price 40 = .ok (.invokevirtual 104, 3) := by decide +kernel
theorem dX6_price_43 : decode cX6_price 43 = .ok (.aload 5, 2) := by decide +kernel
theorem dX6_price_45 : decode cX6_price 45 = .ok (.getfield 108, 3) := by decide +kernel
theorem dX6_price_48 : decode cX6_price 48 = .ok (.invokestatic 111, 3) := by decide +kernel
theorem dX6_price_51 : decode cX6_price 51 = .ok (.iload_n 2, 1) := by decide +kernel
theorem dX6_price_52 : decode cX6_price 52 = .ok (.lload_n 3, 1) := by decide +kernel
theorem dX6_price_53 : decode cX6_price 53 = .ok (.invokevirtual 115, 3) := by decide +kernel
theorem dX6_price_56 : decode cX6_price 56 = .ok (.aload_n 0, 1) := by decide +kernel
theorem dX6_price_57 : decode cX6_price 57 = .ok (.getfield 26, 3) := by decide +kernel
theorem dX6_price_60 : decode cX6_price 60 = .ok (.getfield 119, 3) := by decide +kernel
theorem dX6_price_63 : decode cX6_price 63 = .ok (.lreturn, 1) := by decide +kernel
theorem dX6_least_0 : decode cX6_least 0 = .ok (.aload_n 0, 1) := by decide +kernel
theorem dX6_least_1 : decode cX6_least 1 = .ok (.iload_n 1, 1) := by decide +kernel
theorem dX6_least_2 : decode cX6_least 2 = .ok (.invokevirtual 84, 3) := by decide +kernel
theorem dX6_least_5 : decode cX6_least 5 = .ok (.astore 5, 2) := by decide +kernel
theorem dX6_least_7 : decode cX6_least 7 = .ok (.aload 5, 2) := by decide +kernel
theorem dX6_least_9 : decode cX6_least 9 = .ok (.ifnonnull 6, 3) := by decide +kernel
theorem dX6_least_12 : decode cX6_least 12 = .ok (.ldc 88, 2) := by decide +kernel
theorem dX6_least_14 : decode cX6_least 14 = .ok (.ireturn, 1) := by decide +kernel
theorem dX6_least_15 : decode cX6_least 15 = .ok (.aload_n 0, 1) := by decide +kernel
theorem dX6_least_16 : decode cX6_least 16 = .ok (.iload_n 2, 1) := by decide +kernel
theorem dX6_least_17 : decode cX6_least 17 = .ok (.lload_n 3, 1) := by decide +kernel
theorem dX6_least_18 : decode cX6_least 18 = .ok (.invokevirtual 100, 3) := by decide +kernel
theorem dX6_least_21 : decode cX6_least 21 = .ok (.istore 6, 2) := by decide +kernel
theorem dX6_least_23 : decode cX6_least 23 = .ok (.iload 6, 2) := by decide +kernel
theorem dX6_least_25 : decode cX6_least 25 = .ok (.ifCond .eq 6, 3) := by decide +kernel
theorem dX6_least_28 : decode cX6_least 28 = .ok (.iload 6, 2) := by decide +kernel
theorem dX6_least_30 : decode cX6_least 30 = .ok (.ireturn, 1) := by decide +kernel
theorem dX6_least_31 : decode cX6_least 31 = .ok (.aload_n 0, 1) := by decide +kernel
theorem dX6_least_32 : decode cX6_least 32 = .ok (.invokevirtual 104, 3) := by decide +kernel
theorem dX6_least_35 : decode cX6_least 35 = .ok (.astore 7, 2) := by decide +kernel
theorem dX6_least_37 : decode cX6_least 37 = .ok (.iconst (-1), 1) := by decide +kernel
theorem dX6_least_38 : decode cX6_least 38 = .ok (.istore 8, 2) := by decide +kernel
theorem dX6_least_40 : decode cX6_least 40 = .ok (.ldc2_w 123, 3) := by decide +kernel
theorem dX6_least_43 : decode cX6_least 43 = .ok (.lstore 9, 2) := by decide +kernel
theorem dX6_least_45 : decode cX6_least 45 = .ok (.iconst 0, 1) := by decide +kernel
theorem dX6_least_46 : decode cX6_least 46 = .ok (.istore 11, 2) := by decide +kernel
theorem dX6_least_48 : decode cX6_least 48 = .ok (.iload 11, 2) := by decide +kernel
theorem dX6_least_50 : decode cX6_least 50 = .ok (.bipush 10, 2) := by decide +kernel
theorem dX6_least_52 : decode cX6_least 52 = .ok (.if_icmp .ge 73, 3) := by decide +kernel
theorem dX6_least_55 : decode cX6_least 55 = .ok (.aload_n 0, 1) := by decide +kernel
theorem dX6_least_56 : decode cX6_least 56 = .ok (.getfield 30, 3) := by decide +kernel
theorem dX6_least_59 : decode cX6_least 59 = .ok (.aload 5, 2) := by decide +kernel
theorem dX6_least_61 : decode cX6_least 61 = .ok (.aload 7, 2) := by decide +kernel
theorem dX6_least_63 : decode cX6_least 63 = .ok (.iload 11, 2) := by decide +kernel
theorem dX6_least_65 : decode cX6_least 65 = .ok (.invokestatic 111, 3) := by decide +kernel
theorem dX6_least_68 : decode cX6_least 68 = .ok (.iload_n 2, 1) := by decide +kernel
theorem dX6_least_69 : decode cX6_least 69 = .ok (.lload_n 3, 1) := by decide +kernel
theorem dX6_least_70 : decode cX6_least 70 = .ok (.invokevirtual 115, 3) := by decide +kernel
theorem dX6_least_73 : decode cX6_least 73 = .ok (.aload_n 0, 1) := by decide +kernel
theorem dX6_least_74 : decode cX6_least 74 = .ok (.getfield 30, 3) := by decide +kernel
theorem dX6_least_77 : decode cX6_least 77 = .ok (.getfield 119, 3) := by decide +kernel
theorem dX6_least_80 : decode cX6_least 80 = .ok (.ldc2_w 123, 3) := by decide +kernel
theorem dX6_least_83 : decode cX6_least 83 = .ok (.lcmp, 1) := by decide +kernel
theorem dX6_least_84 : decode cX6_least 84 = .ok (.ifCond .eq 35, 3) := by decide +kernel
theorem dX6_least_87 : decode cX6_least 87 = .ok (.iload 8, 2) := by decide +kernel
theorem dX6_least_89 : decode cX6_least 89 = .ok (.iconst (-1), 1) := by decide +kernel
theorem dX6_least_90 : decode cX6_least 90 = .ok (.if_icmp .eq 16, 3) := by decide +kernel
theorem dX6_least_93 : decode cX6_least 93 = .ok (.aload_n 0, 1) := by decide +kernel
theorem dX6_least_94 : decode cX6_least 94 = .ok (.getfield 30, 3) := by decide +kernel
theorem dX6_least_97 : decode cX6_least 97 = .ok (.getfield 119, 3) := by decide +kernel
theorem dX6_least_100 : decode cX6_least 100 = .ok (.lload 9, 2) := by decide +kernel
theorem dX6_least_102 : decode cX6_least 102 = .ok (.lcmp, 1) := by decide +kernel
theorem dX6_least_103 : decode cX6_least 103 = .ok (.ifCond .ge 16, 3) := by decide +kernel
theorem dX6_least_106 : decode cX6_least 106 = .ok (.iload 11, 2) := by decide +kernel
theorem dX6_least_108 : decode cX6_least 108 = .ok (.istore 8, 2) := by decide +kernel
theorem dX6_least_110 : decode cX6_least 110 = .ok (.aload_n 0, 1) := by decide +kernel
theorem dX6_least_111 : decode cX6_least 111 = .ok (.getfield 30, 3) := by decide +kernel
theorem dX6_least_114 : decode cX6_least 114 = .ok (.getfield 119, 3) := by decide +kernel
theorem dX6_least_117 : decode cX6_least 117 = .ok (.lstore 9, 2) := by decide +kernel
theorem dX6_least_119 : decode cX6_least 119 = .ok (.iinc 11 1, 3) := by decide +kernel
theorem dX6_least_122 : decode cX6_least 122 = .ok (.goto (-74), 3) := by decide +kernel
theorem dX6_least_125 : decode cX6_least 125 = .ok (.iload 8, 2) := by decide +kernel
theorem dX6_least_127 : decode cX6_least 127 = .ok (.ireturn, 1) := by decide +kernel
theorem dX6_explain_0 : decode cX6_explain 0 = .ok (.aload_n 0, 1) := by decide +kernel
theorem dX6_explain_1 : decode cX6_explain 1 = .ok (.getfield 26, 3) := by decide +kernel
theorem dX6_explain_4 : decode cX6_explain 4 = .ok (.iload_n 1, 1) := by decide +kernel
theorem dX6_explain_5 : decode cX6_explain 5 = .ok (.iload_n 2, 1) := by decide +kernel
theorem dX6_explain_6 : decode cX6_explain 6 = .ok (.invokevirtual 125, 3) := by decide +kernel
theorem dX6_explain_9 : decode cX6_explain 9 = .ok (.ireturn, 1) := by decide +kernel
theorem dX6_dimensional_0 : decode cX6_dimensional 0 = .ok (.lload_n 1, 1) := by decide +kernel
theorem dX6_dimensional_1 : decode cX6_dimensional 1 = .ok (.lconst 0, 1) := by decide +kernel
theorem dX6_dimensional_2 : decode cX6_dimensional 2 = .ok (.lcmp, 1) := by decide +kernel
theorem dX6_dimensional_3 : decode cX6_dimensional 3 = .ok (.ifCond .lt 25, 3) := by decide +kernel
theorem dX6_dimensional_6 : decode cX6_dimensional 6 = .ok (.lload_n 1, 1) := by decide +kernel
theorem dX6_dimensional_7 : decode cX6_dimensional 7 = .ok (.ldc2_w 129, 3) := by decide +kernel
theorem dX6_dimensional_10 : decode cX6_dimensional 10 = .ok (.lcmp, 1) := by decide +kernel
theorem dX6_dimensional_11 : decode cX6_dimensional 11 = .ok (.ifCond .gt 17, 3) := by decide +kernel
theorem dX6_dimensional_14 : decode cX6_dimensional 14 = .ok (.lload_n 3, 1) := by decide +kernel
theorem dX6_dimensional_15 : decode cX6_dimensional 15 = .ok (.lconst 0, 1) := by decide +kernel
theorem dX6_dimensional_16 : decode cX6_dimensional 16 = .ok (.lcmp, 1) := by decide +kernel
theorem dX6_dimensional_17 : decode cX6_dimensional 17 = .ok (.ifCond .lt 11, 3) := by decide +kernel
theorem dX6_dimensional_20 : decode cX6_dimensional 20 = .ok (.lload_n 3, 1) := by decide +kernel
theorem dX6_dimensional_21 : decode cX6_dimensional 21 = .ok (.ldc2_w 129, 3) := by decide +kernel
theorem dX6_dimensional_24 : decode cX6_dimensional 24 = .ok (.lcmp, 1) := by decide +kernel
theorem dX6_dimensional_25 : decode cX6_dimensional 25 = .ok (.ifCond .le 7, 3) := by decide +kernel
theorem dX6_dimensional_28 : decode cX6_dimensional 28 = .ok (.ldc2_w 131, 3) := by decide +kernel
theorem dX6_dimensional_31 : decode cX6_dimensional 31 = .ok (.lreturn, 1) := by decide +kernel
theorem dX6_dimensional_32 : decode cX6_dimensional 32 = .ok (.lload_n 3, 1) := by decide +kernel
theorem dX6_dimensional_33 : decode cX6_dimensional 33 = .ok (.lconst 0, 1) := by decide +kernel
theorem dX6_dimensional_34 : decode cX6_dimensional 34 = .ok (.lcmp, 1) := by decide +kernel
theorem dX6_dimensional_35 : decode cX6_dimensional 35 = .ok (.ifCond .ne 13, 3) := by decide +kernel
theorem dX6_dimensional_38 : decode cX6_dimensional 38 = .ok (.new 133, 3) := by decide +kernel
theorem dX6_dimensional_41 : decode cX6_dimensional 41 = .ok (.dup, 1) := by decide +kernel
theorem dX6_dimensional_42 : decode cX6_dimensional 42 = .ok (.ldc 135, 2) := by decide +kernel
theorem dX6_dimensional_44 : decode cX6_dimensional 44 = .ok (.invokespecial 137, 3) := by decide +kernel
theorem dX6_dimensional_47 : decode cX6_dimensional 47 = .ok (.athrow, 1) := by decide +kernel
theorem dX6_dimensional_48 : decode cX6_dimensional 48 = .ok (.lload_n 1, 1) := by decide +kernel
theorem dX6_dimensional_49 : decode cX6_dimensional 49 = .ok (.lload_n 3, 1) := by decide +kernel
theorem dX6_dimensional_50 : decode cX6_dimensional 50 = .ok (.invokestatic 140, 3) := by decide +kernel
theorem dX6_dimensional_53 : decode cX6_dimensional 53 = .ok (.lreturn, 1) := by decide +kernel
theorem dX6_compare_0 : decode cX6_compare 0 = .ok (.iload_n 1, 1) := by decide +kernel
theorem dX6_compare_1 : decode cX6_compare 1 = .ok (.ifCond .lt 11, 3) := by decide +kernel
theorem dX6_compare_4 : decode cX6_compare 4 = .ok (.iload_n 1, 1) := by decide +kernel
theorem dX6_compare_5 : decode cX6_compare 5 = .ok (.aload_n 0, 1) := by decide +kernel
theorem dX6_compare_6 : decode cX6_compare 6 = .ok (.getfield 54, 3) := by decide +kernel
theorem dX6_compare_9 : decode cX6_compare 9 = .ok (.if_icmp .lt 6, 3) := by decide +kernel
theorem dX6_compare_12 : decode cX6_compare 12 = .ok (.ldc 88, 2) := by decide +kernel
theorem dX6_compare_14 : decode cX6_compare 14 = .ok (.ireturn, 1) := by decide +kernel
theorem dX6_compare_15 : decode cX6_compare 15 = .ok (.aload_n 0, 1) := by decide +kernel
theorem dX6_compare_16 : decode cX6_compare 16 = .ok (.iload_n 1, 1) := by decide +kernel
theorem dX6_compare_17 : decode cX6_compare 17 = .ok (.invokevirtual 58, 3) := by decide +kernel
theorem dX6_compare_20 : decode cX6_compare 20 = .ok (.astore_n 2, 1) := by decide +kernel
theorem dX6_compare_21 : decode cX6_compare 21 = .ok (.aload_n 0, 1) := by decide +kernel
theorem dX6_compare_22 : decode cX6_compare 22 = .ok (.invokevirtual 104, 3) := by decide +kernel
theorem dX6_compare_25 : decode cX6_compare 25 = .ok (.astore_n 3, 1) := by decide +kernel
theorem dX6_compare_26 : decode cX6_compare 26 = .ok (.iconst 0, 1) := by decide +kernel
theorem dX6_compare_27 : decode cX6_compare 27 = .ok (.istore 4, 2) := by decide +kernel
theorem dX6_compare_29 : decode cX6_compare 29 = .ok (.iconst 0, 1) := by decide +kernel
theorem dX6_compare_30 : decode cX6_compare 30 = .ok (.istore 5, 2) := by decide +kernel
theorem dX6_compare_32 : decode cX6_compare 32 = .ok (.iload 5, 2) := by decide +kernel
theorem dX6_compare_34 : decode cX6_compare 34 = .ok (.bipush 10, 2) := by decide +kernel
theorem dX6_compare_36 : decode cX6_compare 36 = .ok (.if_icmp .ge 30, 3) := by decide +kernel
theorem dX6_compare_39 : decode cX6_compare 39 = .ok (.aload_n 2, 1) := by decide +kernel
theorem dX6_compare_40 : decode cX6_compare 40 = .ok (.iload 5, 2) := by decide +kernel
theorem dX6_compare_42 : decode cX6_compare 42 = .ok (.invokestatic 111, 3) := by decide +kernel
theorem dX6_compare_45 : decode cX6_compare 45 = .ok (.aload_n 3, 1) := by decide +kernel
theorem dX6_compare_46 : decode cX6_compare 46 = .ok (.iload 5, 2) := by decide +kernel
theorem dX6_compare_48 : decode cX6_compare 48 = .ok (.invokestatic 111, 3) := by decide +kernel
theorem dX6_compare_51 : decode cX6_compare 51 = .ok (.invokestatic 144, 3) := by decide +kernel
theorem dX6_compare_54 : decode cX6_compare 54 = .ok (.ifCond .ne 6, 3) := by decide +kernel
theorem dX6_compare_57 : decode cX6_compare 57 = .ok (.iinc 4 1, 3) := by decide +kernel
theorem dX6_compare_60 : decode cX6_compare 60 = .ok (.iinc 5 1, 3) := by decide +kernel
theorem dX6_compare_63 : decode cX6_compare 63 = .ok (.goto (-31), 3) := by decide +kernel
theorem dX6_compare_66 : decode cX6_compare 66 = .ok (.iload 4, 2) := by decide +kernel
theorem dX6_compare_68 : decode cX6_compare 68 = .ok (.ireturn, 1) := by decide +kernel
theorem dX6_print_0 : decode cX6_print 0 = .ok (.aload_n 0, 1) := by decide +kernel
theorem dX6_print_1 : decode cX6_print 1 = .ok (.invokevirtual 104, 3) := by decide +kernel
theorem dX6_print_4 : decode cX6_print 4 = .ok (.astore_n 1, 1) := by decide +kernel
theorem dX6_print_5 : decode cX6_print 5 = .ok (.aload_n 1, 1) := by decide +kernel
theorem dX6_print_6 : decode cX6_print 6 = .ok (.ifnonnull 6, 3) := by decide +kernel
theorem dX6_print_9 : decode cX6_print 9 = .ok (.ldc 148, 2) := by decide +kernel
theorem dX6_print_11 : decode cX6_print 11 = .ok (.ireturn, 1) := by decide +kernel
theorem dX6_print_12 : decode cX6_print 12 = .ok (.aload_n 0, 1) := by decide +kernel
theorem dX6_print_13 : decode cX6_print 13 = .ok (.getfield 19, 3) := by decide +kernel
theorem dX6_print_16 : decode cX6_print 16 = .ok (.invokevirtual 149, 3) := by decide +kernel
theorem dX6_print_19 : decode cX6_print 19 = .ok (.iconst 0, 1) := by decide +kernel
theorem dX6_print_20 : decode cX6_print 20 = .ok (.istore_n 2, 1) := by decide +kernel
theorem dX6_print_21 : decode cX6_print 21 = .ok (.iload_n 2, 1) := by decide +kernel
theorem dX6_print_22 : decode cX6_print 22 = .ok (.bipush 10, 2) := by decide +kernel
theorem dX6_print_24 : decode cX6_print 24 = .ok (.if_icmp .ge 22, 3) := by decide +kernel
theorem dX6_print_27 : decode cX6_print 27 = .ok (.aload_n 0, 1) := by decide +kernel
theorem dX6_print_28 : decode cX6_print 28 = .ok (.getfield 19, 3) := by decide +kernel
theorem dX6_print_31 : decode cX6_print 31 = .ok (.iload_n 2, 1) := by decide +kernel
theorem dX6_print_32 : decode cX6_print 32 = .ok (.aload_n 1, 1) := by decide +kernel
theorem dX6_print_33 : decode cX6_print 33 = .ok (.iload_n 2, 1) := by decide +kernel
theorem dX6_print_34 : decode cX6_print 34 = .ok (.invokestatic 111, 3) := by decide +kernel
theorem dX6_print_37 : decode cX6_print 37 = .ok (.invokevirtual 152, 3) := by decide +kernel
theorem dX6_print_40 : decode cX6_print 40 = .ok (.iinc 2 1, 3) := by decide +kernel
theorem dX6_print_43 : decode cX6_print 43 = .ok (.goto (-22), 3) := by decide +kernel
theorem dX6_print_46 : decode cX6_print 46 = .ok (.aload_n 0, 1) := by decide +kernel
theorem dX6_print_47 : decode cX6_print 47 = .ok (.getfield 19, 3) := by decide +kernel
theorem dX6_print_50 : decode cX6_print 50 = .ok (.getfield 156, 3) := by decide +kernel
theorem dX6_print_53 : decode cX6_print 53 = .ok (.ireturn, 1) := by decide +kernel
theorem dX6_at_0 : decode cX6_at 0 = .ok (.iload_n 1, 1) := by decide +kernel
theorem dX6_at_1 : decode cX6_at 1 = .ok (.aload_n 0, 1) := by decide +kernel
theorem dX6_at_2 : decode cX6_at 2 = .ok (.getfield 19, 3) := by decide +kernel
theorem dX6_at_5 : decode cX6_at 5 = .ok (.getfield 156, 3) := by decide +kernel
theorem dX6_at_8 : decode cX6_at 8 = .ok (.if_icmp .ge 17, 3) := by decide +kernel
theorem dX6_at_11 : decode cX6_at 11 = .ok (.aload_n 0, 1) := by decide +kernel
theorem dX6_at_12 : decode cX6_at 12 = .ok (.getfield 19, 3) := by decide +kernel
theorem dX6_at_15 : decode cX6_at 15 = .ok (.getfield 159, 3) := by decide +kernel
theorem dX6_at_18 : decode cX6_at 18 = .ok (.iload_n 1, 1) := by decide +kernel
theorem dX6_at_19 : decode cX6_at 19 = .ok (.invokestatic 163, 3) := by decide +kernel
theorem dX6_at_22 : decode cX6_at 22 = .ok (.goto 4, 3) := by decide +kernel
theorem dX6_at_25 : decode cX6_at 25 = .ok (.iconst (-1), 1) := by decide +kernel
theorem dX6_at_26 : decode cX6_at 26 = .ok (.ireturn, 1) := by decide +kernel
theorem dX6_pricingRefusal_0 : decode cX6_pricingRefusal 0 = .ok (.iload_n 1, 1) := by decide +kernel
theorem dX6_pricingRefusal_1 : decode cX6_pricingRefusal 1 = .ok (.invokestatic 70, 3) := by decide +kernel
theorem dX6_pricingRefusal_4 : decode cX6_pricingRefusal 4 = .ok (.ifCond .eq 17, 3) := by decide +kernel
theorem dX6_pricingRefusal_7 : decode cX6_pricingRefusal 7 = .ok (.lload_n 2, 1) := by decide +kernel
theorem dX6_pricingRefusal_8 : decode cX6_pricingRefusal 8 = .ok (.lconst 0, 1) := by decide +kernel
theorem dX6_pricingRefusal_9 : decode cX6_pricingRefusal 9 = .ok (.lcmp, 1) := by decide +kernel
theorem dX6_pricingRefusal_10 : decode cX6_pricingRefusal 10 = .ok (.ifCond .lt 11, 3) := by decide +kernel
theorem dX6_pricingRefusal_13 : decode cX6_pricingRefusal 13 = .ok (.lload_n 2, 1) := by decide +kernel
theorem dX6_pricingRefusal_14 : decode cX6_pricingRefusal 14 = .ok (.ldc2_w 167, 3) := by decide +kernel
theorem dX6_pricingRefusal_17 : decode cX6_pricingRefusal 17 = .ok (.lcmp, 1) := by decide +kernel
theorem dX6_pricingRefusal_18 : decode cX6_pricingRefusal 18 = .ok (.ifCond .le 6, 3) := by decide +kernel
theorem dX6_pricingRefusal_21 : decode cX6_pricingRefusal 21 = .ok (.ldc 77, 2) := by decide +kernel
theorem dX6_pricingRefusal_23 : decode cX6_pricingRefusal 23 = .ok (.ireturn, 1) := by decide +kernel
theorem dX6_pricingRefusal_24 : decode cX6_pricingRefusal 24 = .ok (.aload_n 0, 1) := by decide +kernel
theorem dX6_pricingRefusal_25 : decode cX6_pricingRefusal 25 = .ok (.invokevirtual 104, 3) := by decide +kernel
theorem dX6_pricingRefusal_28 : decode cX6_pricingRefusal 28 = .ok (.ifnonnull 8, 3) := by decide +kernel
theorem dX6_pricingRefusal_31 : decode cX6_pricingRefusal 31 = .ok (.ldc 148, 2) := by decide +kernel
theorem dX6_pricingRefusal_33 : decode cX6_pricingRefusal 33 = .ok (.goto 4, 3) := by decide +kernel
theorem dX6_pricingRefusal_36 : decode cX6_pricingRefusal 36 = .ok (.iconst 0, 1) := by decide +kernel
theorem dX6_pricingRefusal_37 : decode cX6_pricingRefusal 37 = .ok (.ireturn, 1) := by decide +kernel
theorem dX6_itemOf_0 : decode cX6_itemOf 0 = .ok (.iload_n 1, 1) := by decide +kernel
theorem dX6_itemOf_1 : decode cX6_itemOf 1 = .ok (.ifCond .lt 29, 3) := by decide +kernel
theorem dX6_itemOf_4 : decode cX6_itemOf 4 = .ok (.iload_n 1, 1) := by decide +kernel
theorem dX6_itemOf_5 : decode cX6_itemOf 5 = .ok (.aload_n 0, 1) := by decide +kernel
theorem dX6_itemOf_6 : decode cX6_itemOf 6 = .ok (.getfield 78, 3) := by decide +kernel
theorem dX6_itemOf_9 : decode cX6_itemOf 9 = .ok (.if_icmp .ge 21, 3) := by decide +kernel
theorem dX6_itemOf_12 : decode cX6_itemOf 12 = .ok (.iload_n 1, 1) := by decide +kernel
theorem dX6_itemOf_13 : decode cX6_itemOf 13 = .ok (.aload_n 0, 1) := by decide +kernel
theorem dX6_itemOf_14 : decode cX6_itemOf 14 = .ok (.getfield 35, 3) := by decide +kernel
theorem dX6_itemOf_17 : decode cX6_itemOf 17 = .ok (.arraylength, 1) := by decide +kernel
theorem dX6_itemOf_18 : decode cX6_itemOf 18 = .ok (.if_icmp .ge 12, 3) := by decide +kernel
theorem dX6_itemOf_21 : decode cX6_itemOf 21 = .ok (.aload_n 0, 1) := by decide +kernel
theorem dX6_itemOf_22 : decode cX6_itemOf 22 = .ok (.getfield 35, 3) := by decide +kernel
theorem dX6_itemOf_25 : decode cX6_itemOf 25 = .ok (.iload_n 1, 1) := by decide +kernel
theorem dX6_itemOf_26 : decode cX6_itemOf 26 = .ok (.aaload, 1) := by decide +kernel
theorem dX6_itemOf_27 : decode cX6_itemOf 27 = .ok (.goto 4, 3) := by decide +kernel
theorem dX6_itemOf_30 : decode cX6_itemOf 30 = .ok (.aconst_null, 1) := by decide +kernel
theorem dX6_itemOf_31 : decode cX6_itemOf 31 = .ok (.areturn, 1) := by decide +kernel
theorem dX6_slot_0 : decode cX6_slot 0 = .ok (.iload_n 1, 1) := by decide +kernel
theorem dX6_slot_1 : decode cX6_slot 1 = .ok (.ifCond .lt 21, 3) := by decide +kernel
theorem dX6_slot_4 : decode cX6_slot 4 = .ok (.iload_n 1, 1) := by decide +kernel
theorem dX6_slot_5 : decode cX6_slot 5 = .ok (.aload_n 0, 1) := by decide +kernel
theorem dX6_slot_6 : decode cX6_slot 6 = .ok (.getfield 41, 3) := by decide +kernel
theorem dX6_slot_9 : decode cX6_slot 9 = .ok (.arraylength, 1) := by decide +kernel
theorem dX6_slot_10 : decode cX6_slot 10 = .ok (.if_icmp .ge 12, 3) := by decide +kernel
theorem dX6_slot_13 : decode cX6_slot 13 = .ok (.aload_n 0, 1) := by decide +kernel
theorem dX6_slot_14 : decode cX6_slot 14 = .ok (.getfield 41, 3) := by decide +kernel
theorem dX6_slot_17 : decode cX6_slot 17 = .ok (.iload_n 1, 1) := by decide +kernel
theorem dX6_slot_18 : decode cX6_slot 18 = .ok (.aaload, 1) := by decide +kernel
theorem dX6_slot_19 : decode cX6_slot 19 = .ok (.goto 4, 3) := by decide +kernel
theorem dX6_slot_22 : decode cX6_slot 22 = .ok (.aconst_null, 1) := by decide +kernel
theorem dX6_slot_23 : decode cX6_slot 23 = .ok (.areturn, 1) := by decide +kernel
theorem dX6_latest_0 : decode cX6_latest 0 = .ok (.aload_n 0, 1) := by decide +kernel
theorem dX6_latest_1 : decode cX6_latest 1 = .ok (.aload_n 0, 1) := by decide +kernel
theorem dX6_latest_2 : decode cX6_latest 2 = .ok (.getfield 54, 3) := by decide +kernel
theorem dX6_latest_5 : decode cX6_latest 5 = .ok (.iconst 1, 1) := by decide +kernel
theorem dX6_latest_6 : decode cX6_latest 6 = .ok (.isub, 1) := by decide +kernel
theorem dX6_latest_7 : decode cX6_latest 7 = .ok (.invokevirtual 58, 3) := by decide +kernel
theorem dX6_latest_10 : decode cX6_latest 10 = .ok (.areturn, 1) := by decide +kernel
theorem dX6_isWithin_0 : decode cX6_isWithin 0 = .ok (.iload_n 0, 1) := by decide +kernel
theorem dX6_isWithin_1 : decode cX6_isWithin 1 = .ok (.iload_n 1, 1) := by decide +kernel
theorem dX6_isWithin_2 : decode cX6_isWithin 2 = .ok (.if_icmp .lt 12, 3) := by decide +kernel
theorem dX6_isWithin_5 : decode cX6_isWithin 5 = .ok (.iload_n 0, 1) := by decide +kernel
theorem dX6_isWithin_6 : decode cX6_isWithin 6 = .ok (.iload_n 2, 1) := by decide +kernel
theorem dX6_isWithin_7 : decode cX6_isWithin 7 = .ok (.if_icmp .gt 7, 3) := by decide +kernel
theorem dX6_isWithin_10 : decode cX6_isWithin 10 = .ok (.iconst 1, 1) := by decide +kernel
theorem dX6_isWithin_11 : decode cX6_isWithin 11 = .ok (.goto 4, 3) := by decide +kernel
theorem dX6_isWithin_14 : decode cX6_isWithin 14 = .ok (.iconst 0, 1) := by decide +kernel
theorem dX6_isWithin_15 : decode cX6_isWithin 15 = .ok (.ireturn, 1) := by decide +kernel
theorem dX6_isName_0 : decode cX6_isName 0 = .ok (.iload_n 0, 1) := by decide +kernel
theorem dX6_isName_1 : decode cX6_isName 1 = .ok (.iconst 0, 1) := by decide +kernel
theorem dX6_isName_2 : decode cX6_isName 2 = .ok (.bipush 9, 2) := by decide +kernel
theorem dX6_isName_4 : decode cX6_isName 4 = .ok (.invokestatic 46, 3) := by decide +kernel
theorem dX6_isName_7 : decode cX6_isName 7 = .ok (.ireturn, 1) := by decide +kernel
theorem dX6_isMeasure_0 : decode cX6_isMeasure 0 = .ok (.iload_n 0, 1) := by decide +kernel
theorem dX6_isMeasure_1 : decode cX6_isMeasure 1 = .ok (.iconst 1, 1) := by decide +kernel
theorem dX6_isMeasure_2 : decode cX6_isMeasure 2 = .ok (.ldc 169, 2) := by decide +kernel
theorem dX6_isMeasure_4 : decode cX6_isMeasure 4 = .ok (.invokestatic 46, 3) := by decide +kernel
theorem dX6_isMeasure_7 : decode cX6_isMeasure 7 = .ok (.ireturn, 1) := by decide +kernel
theorem dX6_cell_0 : decode cX6_cell 0 = .ok (.aload_n 0, 1) := by decide +kernel
theorem dX6_cell_1 : decode cX6_cell 1 = .ok (.ifnull 19, 3) := by decide +kernel
theorem dX6_cell_4 : decode cX6_cell 4 = .ok (.iload_n 1, 1) := by decide +kernel
theorem dX6_cell_5 : decode cX6_cell 5 = .ok (.ifCond .lt 15, 3) := by decide +kernel
theorem dX6_cell_8 : decode cX6_cell 8 = .ok (.iload_n 1, 1) := by decide +kernel
theorem dX6_cell_9 : decode cX6_cell 9 = .ok (.aload_n 0, 1) := by decide +kernel
theorem dX6_cell_10 : decode cX6_cell 10 = .ok (.arraylength, 1) := by decide +kernel
theorem dX6_cell_11 : decode cX6_cell 11 = .ok (.if_icmp .ge 9, 3) := by decide +kernel
theorem dX6_cell_14 : decode cX6_cell 14 = .ok (.aload_n 0, 1) := by decide +kernel
theorem dX6_cell_15 : decode cX6_cell 15 = .ok (.iload_n 1, 1) := by decide +kernel
theorem dX6_cell_16 : decode cX6_cell 16 = .ok (.iaload, 1) := by decide +kernel
theorem dX6_cell_17 : decode cX6_cell 17 = .ok (.goto 4, 3) := by decide +kernel
theorem dX6_cell_20 : decode cX6_cell 20 = .ok (.iconst (-1), 1) := by decide +kernel
theorem dX6_cell_21 : decode cX6_cell 21 = .ok (.ireturn, 1) := by decide +kernel
theorem dX6_put_0 : decode cX6_put 0 = .ok (.aload_n 0, 1) := by decide +kernel
theorem dX6_put_1 : decode cX6_put 1 = .ok (.ifnull 17, 3) := by decide +kernel
theorem dX6_put_4 : decode cX6_put 4 = .ok (.iload_n 1, 1) := by decide +kernel
theorem dX6_put_5 : decode cX6_put 5 = .ok (.ifCond .lt 13, 3) := by decide +kernel
theorem dX6_put_8 : decode cX6_put 8 = .ok (.iload_n 1, 1) := by decide +kernel
theorem dX6_put_9 : decode cX6_put 9 = .ok (.aload_n 0, 1) := by decide +kernel
theorem dX6_put_10 : decode cX6_put 10 = .ok (.arraylength, 1) := by decide +kernel
theorem dX6_put_11 : decode cX6_put 11 = .ok (.if_icmp .ge 7, 3) := by decide +kernel
theorem dX6_put_14 : decode cX6_put 14 = .ok (.aload_n 0, 1) := by decide +kernel
theorem dX6_put_15 : decode cX6_put 15 = .ok (.iload_n 1, 1) := by decide +kernel
theorem dX6_put_16 : decode cX6_put 16 = .ok (.iload_n 2, 1) := by decide +kernel
theorem dX6_put_17 : decode cX6_put 17 = .ok (.iastore, 1) := by decide +kernel
theorem dX6_put_18 : decode cX6_put 18 = .ok (.return_, 1) := by decide +kernel
theorem dX6_fill_0 : decode cX6_fill 0 = .ok (.iconst 0, 1) := by decide +kernel
theorem dX6_fill_1 : decode cX6_fill 1 = .ok (.istore_n 2, 1) := by decide +kernel
theorem dX6_fill_2 : decode cX6_fill 2 = .ok (.aload_n 0, 1) := by decide +kernel
theorem dX6_fill_3 : decode cX6_fill 3 = .ok (.ifnull 19, 3) := by decide +kernel
theorem dX6_fill_6 : decode cX6_fill 6 = .ok (.iload_n 2, 1) := by decide +kernel
theorem dX6_fill_7 : decode cX6_fill 7 = .ok (.aload_n 0, 1) := by decide +kernel
theorem dX6_fill_8 : decode cX6_fill 8 = .ok (.arraylength, 1) := by decide +kernel
theorem dX6_fill_9 : decode cX6_fill 9 = .ok (.if_icmp .ge 13, 3) := by decide +kernel
theorem dX6_fill_12 : decode cX6_fill 12 = .ok (.aload_n 0, 1) := by decide +kernel
theorem dX6_fill_13 : decode cX6_fill 13 = .ok (.iload_n 2, 1) := by decide +kernel
theorem dX6_fill_14 : decode cX6_fill 14 = .ok (.iload_n 1, 1) := by decide +kernel
theorem dX6_fill_15 : decode cX6_fill 15 = .ok (.iastore, 1) := by decide +kernel
theorem dX6_fill_16 : decode cX6_fill 16 = .ok (.iinc 2 1, 3) := by decide +kernel
theorem dX6_fill_19 : decode cX6_fill 19 = .ok (.goto (-17), 3) := by decide +kernel
theorem dX6_fill_22 : decode cX6_fill 22 = .ok (.return_, 1) := by decide +kernel
theorem dX6_dividedUp_0 : decode cX6_dividedUp 0 = .ok (.lload_n 2, 1) := by decide +kernel
theorem dX6_dividedUp_1 : decode cX6_dividedUp 1 = .ok (.lconst 0, 1) := by decide +kernel
theorem dX6_dividedUp_2 : decode cX6_dividedUp 2 = .ok (.lcmp, 1) := by decide +kernel
theorem dX6_dividedUp_3 : decode cX6_dividedUp 3 = .ok (.ifCond .le 13, 3) := by decide +kernel
theorem dX6_dividedUp_6 : decode cX6_dividedUp 6 = .ok (.lload_n 0, 1) := by decide +kernel
theorem dX6_dividedUp_7 : decode cX6_dividedUp 7 = .ok (.lload_n 2, 1) := by decide +kernel
theorem dX6_dividedUp_8 : decode cX6_dividedUp 8 = .ok (.ladd, 1) := by decide +kernel
theorem dX6_dividedUp_9 : decode cX6_dividedUp 9 = .ok (.lconst 1, 1) := by decide +kernel
theorem dX6_dividedUp_10 : decode cX6_dividedUp 10 = .ok (.lsub, 1) := by decide +kernel
theorem dX6_dividedUp_11 : decode cX6_dividedUp 11 = .ok (.lload_n 2, 1) := by decide +kernel
theorem dX6_dividedUp_12 : decode cX6_dividedUp 12 = .ok (.ldiv, 1) := by decide +kernel
theorem dX6_dividedUp_13 : decode cX6_dividedUp 13 = .ok (.goto 4, 3) := by decide +kernel
theorem dX6_dividedUp_16 : decode cX6_dividedUp 16 = .ok (.lconst 0, 1) := by decide +kernel
theorem dX6_dividedUp_17 : decode cX6_dividedUp 17 = .ok (.lreturn, 1) := by decide +kernel
theorem dX6_kindOf_0 : decode cX6_kindOf 0 = .ok (.aload_n 0, 1) := by decide +kernel
theorem dX6_kindOf_1 : decode cX6_kindOf 1 = .ok (.ifnonnull 7, 3) := by decide +kernel
theorem dX6_kindOf_4 : decode cX6_kindOf 4 = .ok (.aconst_null, 1) := by decide +kernel
theorem dX6_kindOf_5 : decode cX6_kindOf 5 = .ok (.goto 8, 3) := by decide +kernel
theorem dX6_kindOf_8 : decode cX6_kindOf 8 = .ok (.aload_n 0, 1) := by decide +kernel
theorem dX6_kindOf_9 : decode cX6_kindOf 9 = .ok (.iload_n 1, 1) := by decide +kernel
theorem dX6_kindOf_10 : decode cX6_kindOf 10 = .ok (.invokevirtual 170, 3) := by decide +kernel
theorem dX6_kindOf_13 : decode cX6_kindOf 13 = .ok (.astore_n 2, 1) := by decide +kernel
theorem dX6_kindOf_14 : decode cX6_kindOf 14 = .ok (.aload_n 2, 1) := by decide +kernel
theorem dX6_kindOf_15 : decode cX6_kindOf 15 = .ok (.ifnull 14, 3) := by decide +kernel
theorem dX6_kindOf_18 : decode cX6_kindOf 18 = .ok (.aload_n 2, 1) := by decide +kernel
theorem dX6_kindOf_19 : decode cX6_kindOf 19 = .ok (.getfield 174, 3) := by decide +kernel
theorem dX6_kindOf_22 : decode cX6_kindOf 22 = .ok (.ifCond .eq 7, 3) := by decide +kernel
theorem dX6_kindOf_25 : decode cX6_kindOf 25 = .ok (.aload_n 2, 1) := by decide +kernel
theorem dX6_kindOf_26 : decode cX6_kindOf 26 = .ok (.goto 4, 3) := by decide +kernel
theorem dX6_kindOf_29 : decode cX6_kindOf 29 = .ok (.aconst_null, 1) := by decide +kernel
theorem dX6_kindOf_30 : decode cX6_kindOf 30 = .ok (.areturn, 1) := by decide +kernel
theorem dX6_arePrintedAlike_0 : decode cX6_arePrintedAlike 0 = .ok (.aload_n 0, 1) := by decide +kernel
theorem dX6_arePrintedAlike_1 : decode cX6_arePrintedAlike 1 = .ok (.ifnull 7, 3) := by decide +kernel
theorem dX6_arePrintedAlike_4 : decode cX6_arePrintedAlike 4 = .ok (.aload_n 1, 1) := by decide +kernel
theorem dX6_arePrintedAlike_5 : decode cX6_arePrintedAlike 5 = .ok (.ifnonnull 14, 3) := by decide +kernel
theorem dX6_arePrintedAlike_8 : decode cX6_arePrintedAlike 8 = .ok (.aload_n 0, 1) := by decide +kernel
theorem dX6_arePrintedAlike_9 : decode cX6_arePrintedAlike 9 = .ok (.aload_n 1, 1) := by decide +kernel
theorem dX6_arePrintedAlike_10 : decode cX6_arePrintedAlike 10 = .ok (.if_acmp .ne 7, 3) := by decide +kernel
theorem dX6_arePrintedAlike_13 : decode cX6_arePrintedAlike 13 = .ok (.iconst 1, 1) := by decide +kernel
theorem dX6_arePrintedAlike_14 : decode cX6_arePrintedAlike 14 = .ok (.goto 4, 3) := by decide +kernel
theorem dX6_arePrintedAlike_17 : decode cX6_arePrintedAlike 17 = .ok (.iconst 0, 1) := by decide +kernel
theorem dX6_arePrintedAlike_18 : decode cX6_arePrintedAlike 18 = .ok (.ireturn, 1) := by decide +kernel
theorem dX6_arePrintedAlike_19 : decode cX6_arePrintedAlike 19 = .ok (.aload_n 0, 1) := by decide +kernel
theorem dX6_arePrintedAlike_20 : decode cX6_arePrintedAlike 20 = .ok (.aload_n 1, 1) := by decide +kernel
theorem dX6_arePrintedAlike_21 : decode cX6_arePrintedAlike 21 = .ok (.invokevirtual 180, 3) := by decide +kernel
theorem dX6_arePrintedAlike_24 : decode cX6_arePrintedAlike 24 = .ok (.ifCond .eq 23, 3) := by decide +kernel
theorem dX6_arePrintedAlike_27 : decode cX6_arePrintedAlike 27 = .ok (.aload_n 0, 1) := by decide +kernel
theorem dX6_arePrintedAlike_28 : decode cX6_arePrintedAlike 28 = .ok (.aload_n 1, 1) := by decide +kernel
theorem dX6_arePrintedAlike_29 : decode cX6_arePrintedAlike 29 = .ok (.invokevirtual 184, 3) := by decide +kernel
theorem dX6_arePrintedAlike_32 : decode cX6_arePrintedAlike 32 = .ok (.ifCond .eq 15, 3) := by decide +kernel
theorem dX6_arePrintedAlike_35 : decode cX6_arePrintedAlike 35 = .ok (.aload_n 0, 1) := by decide +kernel
theorem dX6_arePrintedAlike_36 : decode cX6_arePrintedAlike 36 = .ok (.aload_n 1, 1) := by decide +kernel
theorem dX6_arePrintedAlike_37 : decode cX6_arePrintedAlike 37 = .ok (.invokevirtual 187, 3) := by decide +kernel
theorem dX6_arePrintedAlike_40 : decode cX6_arePrintedAlike 40 = .ok (.ifCond .eq 7, 3) := by decide +kernel
theorem dX6_arePrintedAlike_43 : decode cX6_arePrintedAlike 43 = .ok (.iconst 1, 1) := by decide +kernel
theorem dX6_arePrintedAlike_44 : decode cX6_arePrintedAlike 44 = .ok (.goto 4, 3) := by decide +kernel
theorem dX6_arePrintedAlike_47 : decode cX6_arePrintedAlike 47 = .ok (.iconst 0, 1) := by decide +kernel
theorem dX6_arePrintedAlike_48 : decode cX6_arePrintedAlike 48 = .ok (.ireturn, 1) := by decide +kernel
theorem dX7_init_0 : decode cX7_init 0 = .ok (.aload_n 0, 1) := by decide +kernel
theorem dX7_init_1 : decode cX7_init 1 = .ok (.invokespecial 1, 3) := by decide +kernel
theorem dX7_init_4 : decode cX7_init 4 = .ok (.aload_n 0, 1) := by decide +kernel
theorem dX7_init_5 : decode cX7_init 5 = .ok (.sipush 1500, 3) := by decide +kernel
theorem dX7_init_8 : decode cX7_init 8 = .ok (.newarray .int, 2) := by decide +kernel
theorem dX7_init_10 : decode cX7_init 10 = .ok (.putfield 7, 3) := by decide +kernel
theorem dX7_init_13 : decode cX7_init 13 = .ok (.aload_n 0, 1) := by decide +kernel
theorem dX7_init_14 : decode cX7_init 14 = .ok (.sipush 3120, 3) := by decide +kernel
theorem dX7_init_17 : decode cX7_init 17 = .ok (.newarray .int, 2) := by decide +kernel
theorem dX7_init_19 : decode cX7_init 19 = .ok (.putfield 13, 3) := by decide +kernel
theorem dX7_init_22 : decode cX7_init 22 = .ok (.aload_n 0, 1) := by decide +kernel
theorem dX7_init_23 : decode cX7_init 23 = .ok (.sipush 3120, 3) := by decide +kernel
theorem dX7_init_26 : decode cX7_init 26 = .ok (.newarray .int, 2) := by decide +kernel
theorem dX7_init_28 : decode cX7_init 28 = .ok (.putfield 16, 3) := by decide +kernel
theorem dX7_init_31 : decode cX7_init 31 = .ok (.aload_n 0, 1) := by decide +kernel
theorem dX7_init_32 : decode cX7_init 32 = .ok (.sipush 3120, 3) := by decide +kernel
theorem dX7_init_35 : decode cX7_init 35 = .ok (.newarray .int, 2) := by decide +kernel
theorem dX7_init_37 : decode cX7_init 37 = .ok (.putfield 19, 3) := by decide +kernel
theorem dX7_init_40 : decode cX7_init 40 = .ok (.aload_n 0, 1) := by decide +kernel
theorem dX7_init_41 : decode cX7_init 41 = .ok (.sipush 3120, 3) := by decide +kernel
theorem dX7_init_44 : decode cX7_init 44 = .ok (.newarray .int, 2) := by decide +kernel
theorem dX7_init_46 : decode cX7_init 46 = .ok (.putfield 22, 3) := by decide +kernel
theorem dX7_init_49 : decode cX7_init 49 = .ok (.aload_n 0, 1) := by decide +kernel
theorem dX7_init_50 : decode cX7_init 50 = .ok (.bipush 6, 2) := by decide +kernel
theorem dX7_init_52 : decode cX7_init 52 = .ok (.newarray .int, 2) := by decide +kernel
theorem dX7_init_54 : decode cX7_init 54 = .ok (.putfield 25, 3) := by decide +kernel
theorem dX7_init_57 : decode cX7_init 57 = .ok (.aload_n 0, 1) := by decide +kernel
theorem dX7_init_58 : decode cX7_init 58 = .ok (.bipush 100, 2) := by decide +kernel
theorem dX7_init_60 : decode cX7_init 60 = .ok (.newarray .int, 2) := by decide +kernel
theorem dX7_init_62 : decode cX7_init 62 = .ok (.putfield 28, 3) := by decide +kernel
theorem dX7_init_65 : decode cX7_init 65 = .ok (.aload_n 0, 1) := by decide +kernel
theorem dX7_init_66 : decode cX7_init 66 = .ok (.bipush 100, 2) := by decide +kernel
theorem dX7_init_68 : decode cX7_init 68 = .ok (.newarray .int, 2) := by decide +kernel
theorem dX7_init_70 : decode cX7_init 70 = .ok (.putfield 31, 3) := by decide +kernel
theorem dX7_init_73 : decode cX7_init 73 = .ok (.aload_n 0, 1) := by decide +kernel
theorem dX7_init_74 : decode cX7_init 74 = .ok (.bipush 100, 2) := by decide +kernel
theorem dX7_init_76 : decode cX7_init 76 = .ok (.newarray .int, 2) := by decide +kernel
theorem dX7_init_78 : decode cX7_init 78 = .ok (.putfield 34, 3) := by decide +kernel
theorem dX7_init_81 : decode cX7_init 81 = .ok (.aload_n 0, 1) := by decide +kernel
theorem dX7_init_82 : decode cX7_init 82 = .ok (.bipush 100, 2) := by decide +kernel
theorem dX7_init_84 : decode cX7_init 84 = .ok (.newarray .int, 2) := by decide +kernel
theorem dX7_init_86 : decode cX7_init 86 = .ok (.putfield 37, 3) := by decide +kernel
theorem dX7_init_89 : decode cX7_init 89 = .ok (.aload_n 0, 1) := by decide +kernel
theorem dX7_init_90 : decode cX7_init 90 = .ok (.bipush 100, 2) := by decide +kernel
theorem dX7_init_92 : decode cX7_init 92 = .ok (.newarray .int, 2) := by decide +kernel
theorem dX7_init_94 : decode cX7_init 94 = .ok (.putfield 40, 3) := by decide +kernel
theorem dX7_init_97 : decode cX7_init 97 = .ok (.aload_n 0, 1) := by decide +kernel
theorem dX7_init_98 : decode cX7_init 98 = .ok (.sipush 1000, 3) := by decide +kernel
theorem dX7_init_101 : decode cX7_init 101 = .ok (.newarray .boolean, 2) := by decide +kernel
theorem dX7_init_103 : decode cX7_init 103 = .ok (.putfield 43, 3) := by decide +kernel
theorem dX7_init_106 : decode cX7_init 106 = .ok (.aload_n 0, 1) := by decide +kernel
theorem dX7_init_107 : decode cX7_init 107 = .ok (.bipush 16, 2) := by decide +kernel
theorem dX7_init_109 : decode cX7_init 109 = .ok (.newarray .int, 2) := by decide +kernel
theorem dX7_init_111 : decode cX7_init 111 = .ok (.putfield 47, 3) := by decide +kernel
theorem dX7_init_114 : decode cX7_init 114 = .ok (.aload_n 0, 1) := by decide +kernel
theorem dX7_init_115 : decode cX7_init 115 = .ok (.bipush 16, 2) := by decide +kernel
theorem dX7_init_117 : decode cX7_init 117 = .ok (.newarray .long, 2) := by decide +kernel
theorem dX7_init_119 : decode cX7_init 119 = .ok (.putfield 50, 3) := by decide +kernel
theorem dX7_init_122 : decode cX7_init 122 = .ok (.aload_n 0, 1) := by decide +kernel
theorem dX7_init_123 : decode cX7_init 123 = .ok (.bipush 16, 2) := by decide +kernel
theorem dX7_init_125 : decode cX7_init 125 = .ok (.newarray .int, 2) := by decide +kernel
theorem dX7_init_127 : decode cX7_init 127 = .ok (.putfield 54, 3) := by decide +kernel
theorem dX7_init_130 : decode cX7_init 130 = .ok (.aload_n 0, 1) := by decide +kernel
theorem dX7_init_131 : decode cX7_init 131 = .ok (.sipush 2000, 3) := by decide +kernel
theorem dX7_init_134 : decode cX7_init 134 = .ok (.newarray .int, 2) := by decide +kernel
theorem dX7_init_136 : decode cX7_init 136 = .ok (.putfield 57, 3) := by decide +kernel
theorem dX7_init_139 : decode cX7_init 139 = .ok (.aload_n 0, 1) := by decide +kernel
theorem dX7_init_140 : decode cX7_init 140 = .ok (.sipush 2000, 3) := by decide +kernel
theorem dX7_init_143 : decode cX7_init 143 = .ok (.newarray .int, 2) := by decide +kernel
theorem dX7_init_145 : decode cX7_init 145 = .ok (.putfield 60, 3) := by decide +kernel
theorem dX7_init_148 : decode cX7_init 148 = .ok (.aload_n 0, 1) := by decide +kernel
theorem dX7_init_149 : decode cX7_init 149 = .ok (.sipush 2000, 3) := by decide +kernel
theorem dX7_init_152 : decode cX7_init 152 = .ok (.newarray .int, 2) := by decide +kernel
theorem dX7_init_154 : decode cX7_init 154 = .ok (.putfield 63, 3) := by decide +kernel
theorem dX7_init_157 : decode cX7_init 157 = .ok (.aload_n 0, 1) := by decide +kernel
theorem dX7_init_158 : decode cX7_init 158 = .ok (.bipush 16, 2) := by decide +kernel
theorem dX7_init_160 : decode cX7_init 160 = .ok (.newarray .int, 2) := by decide +kernel
theorem dX7_init_162 : decode cX7_init 162 = .ok (.putfield 66, 3) := by decide +kernel
theorem dX7_init_165 : decode cX7_init 165 = .ok (.aload_n 0, 1) := by decide +kernel
theorem dX7_init_166 : decode cX7_init 166 = .ok (.bipush 16, 2) := by decide +kernel
theorem dX7_init_168 : decode cX7_init 168 = .ok (.newarray .long, 2) := by decide +kernel
theorem dX7_init_170 : decode cX7_init 170 = .ok (.putfield 69, 3) := by decide +kernel
theorem dX7_init_173 : decode cX7_init 173 = .ok (.aload_n 0, 1) := by decide +kernel
theorem dX7_init_174 : decode cX7_init 174 = .ok (.bipush 16, 2) := by decide +kernel
theorem dX7_init_176 : decode cX7_init 176 = .ok (.newarray .int, 2) := by decide +kernel
theorem dX7_init_178 : decode cX7_init 178 = .ok (.putfield 72, 3) := by decide +kernel
theorem dX7_init_181 : decode cX7_init 181 = .ok (.return_, 1) := by decide +kernel
theorem dX7_thrown_0 : decode cX7_thrown 0 = .ok (.aload_n 0, 1) := by decide +kernel
theorem dX7_thrown_1 : decode cX7_thrown 1 = .ok (.getfield 75, 3) := by decide +kernel
theorem dX7_thrown_4 : decode cX7_thrown 4 = .ok (.ireturn, 1) := by decide +kernel
theorem dX7_sign_0 : decode cX7_sign 0 = .ok (.aload_n 0, 1) := by decide +kernel
theorem dX7_sign_1 : decode cX7_sign 1 = .ok (.iconst 0, 1) := by decide +kernel
theorem dX7_sign_2 : decode cX7_sign 2 = .ok (.putfield 75, 3) := by decide +kernel
theorem dX7_sign_5 : decode cX7_sign 5 = .ok (.aload_n 0, 1) := by decide +kernel
theorem dX7_sign_6 : decode cX7_sign 6 = .ok (.getfield 79, 3) := by decide +kernel
theorem dX7_sign_9 : decode cX7_sign 9 = .ok (.sipush 1500, 3) := by decide +kernel
theorem dX7_sign_12 : decode cX7_sign 12 = .ok (.if_icmp .ge 33, 3) := by decide +kernel
theorem dX7_sign_15 : decode cX7_sign 15 = .ok (.iload_n 1, 1) := by decide +kernel
theorem dX7_sign_16 : decode cX7_sign 16 = .ok (.ifCond .lt 29, 3) := by decide +kernel
theorem dX7_sign_19 : decode cX7_sign 19 = .ok (.iload_n 1, 1) := by decide +kernel
theorem dX7_sign_20 : decode cX7_sign 20 = .ok (.bipush 127, 2) := by decide +kernel
theorem dX7_sign_22 : decode cX7_sign 22 = .ok (.if_icmp .ge 23, 3) := by decide +kernel
theorem dX7_sign_25 : decode cX7_sign 25 = .ok (.aload_n 0, 1) := by decide +kernel
theorem dX7_sign_26 : decode cX7_sign 26 = .ok (.getfield 7, 3) := by decide +kernel
theorem dX7_sign_29 : decode cX7_sign 29 = .ok (.aload_n 0, 1) := by decide +kernel
theorem dX7_sign_30 : decode cX7_sign 30 = .ok (.getfield 79, 3) := by decide +kernel
theorem dX7_sign_33 : decode cX7_sign 33 = .ok (.iload_n 1, 1) := by decide +kernel
theorem dX7_sign_34 : decode cX7_sign 34 = .ok (.iastore, 1) := by decide +kernel
theorem dX7_sign_35 : decode cX7_sign 35 = .ok (.aload_n 0, 1) := by decide +kernel
theorem dX7_sign_36 : decode cX7_sign 36 = .ok (.dup, 1) := by decide +kernel
theorem dX7_sign_37 : decode cX7_sign 37 = .ok (.getfield 79, 3) := by decide +kernel
theorem dX7_sign_40 : decode cX7_sign 40 = .ok (.iconst 1, 1) := by decide +kernel
theorem dX7_sign_41 : decode cX7_sign 41 = .ok (.iadd, 1) := by decide +kernel
theorem dX7_sign_42 : decode cX7_sign 42 = .ok (.putfield 79, 3) := by decide +kernel
theorem dX7_sign_45 : decode cX7_sign 45 = .ok (.return_, 1) := by decide +kernel
theorem dX7_look_0 : decode cX7_look 0 = .ok (.aload_n 0, 1) := by decide +kernel
theorem dX7_look_1 : decode cX7_look 1 = .ok (.getfield 82, 3) := by decide +kernel
theorem dX7_look_4 : decode cX7_look 4 = .ok (.aload_n 0, 1) := by decide +kernel
theorem dX7_look_5 : decode cX7_look 5 = .ok (.getfield 79, 3) := by decide +kernel
theorem dX7_look_8 : decode cX7_look 8 = .ok (.if_icmp .ge 15, 3) := by decide +kernel
theorem dX7_look_11 : decode cX7_look 11 = .ok (.aload_n 0, 1) := by decide +kernel
theorem dX7_look_12 : decode cX7_look 12 = .ok (.getfield 7, 3) := by decide +kernel
theorem dX7_look_15 : decode cX7_look 15 = .ok (.aload_n 0, 1) := by decide +kernel
theorem dX7_look_16 : decode cX7_look 16 = .ok (.getfield 82, 3) := by decide +kernel
theorem dX7_look_19 : decode cX7_look 19 = .ok (.iaload, 1) := by decide +kernel
theorem dX7_look_20 : decode cX7_look 20 = .ok (.goto 4, 3) := by decide +kernel
theorem dX7_look_23 : decode cX7_look 23 = .ok (.iconst (-1), 1) := by decide +kernel
theorem dX7_look_24 : decode cX7_look 24 = .ok (.ireturn, 1) := by decide +kernel
theorem dX7_must_0 : decode cX7_must 0 = .ok (.iload_n 1, 1) := by decide +kernel
theorem dX7_must_1 : decode cX7_must 1 = .ok (.ifCond .ne 16, 3) := by decide +kernel
theorem dX7_must_4 : decode cX7_must 4 = .ok (.aload_n 0, 1) := by decide +kernel
theorem dX7_must_5 : decode cX7_must 5 = .ok (.getfield 85, 3) := by decide +kernel
theorem dX7_must_8 : decode cX7_must 8 = .ok (.iconst (-1), 1) := by decide +kernel
theorem dX7_must_9 : decode cX7_must 9 = .ok (.if_icmp .ne 8, 3) := by decide +kernel
theorem dX7_must_12 : decode cX7_must 12 = .ok (.aload_n 0, 1) := by decide +kernel
theorem dX7_must_13 : decode cX7_must 13 = .ok (.iload_n 2, 1) := by decide +kernel
theorem dX7_must_14 : decode cX7_must 14 = .ok (.putfield 85, 3) := by decide +kernel
theorem dX7_must_17 : decode cX7_must 17 = .ok (.aload_n 0, 1) := by decide +kernel
theorem dX7_must_18 : decode cX7_must 18 = .ok (.getfield 85, 3) := by decide +kernel
theorem dX7_must_21 : decode cX7_must 21 = .ok (.iconst (-1), 1) := by decide +kernel
theorem dX7_must_22 : decode cX7_must 22 = .ok (.if_icmp .ne 7, 3) := by decide +kernel
theorem dX7_must_25 : decode cX7_must 25 = .ok (.iconst 1, 1) := by decide +kernel
theorem dX7_must_26 : decode cX7_must 26 = .ok (.goto 4, 3) := by decide +kernel
theorem dX7_must_29 : decode cX7_must 29 = .ok (.iconst 0, 1) := by decide +kernel
theorem dX7_must_30 : decode cX7_must 30 = .ok (.ireturn, 1) := by decide +kernel
theorem dX7_isDigit_0 : decode cX7_isDigit 0 = .ok (.aload_n 0, 1) := by decide +kernel
theorem dX7_isDigit_1 : decode cX7_isDigit 1 = .ok (.invokevirtual 88, 3) := by decide +kernel
theorem dX7_isDigit_4 : decode cX7_isDigit 4 = .ok (.bipush 48, 2) := by decide +kernel
theorem dX7_isDigit_6 : decode cX7_isDigit 6 = .ok (.if_icmp .lt 16, 3) := by decide +kernel
theorem dX7_isDigit_9 : decode cX7_isDigit 9 = .ok (.aload_n 0, 1) := by decide +kernel
theorem dX7_isDigit_10 : decode cX7_isDigit 10 = .ok (.invokevirtual 88, 3) := by decide +kernel
theorem dX7_isDigit_13 : decode cX7_isDigit 13 = .ok (.bipush 57, 2) := by decide +kernel
theorem dX7_isDigit_15 : decode cX7_isDigit 15 = .ok (.if_icmp .gt 7, 3) := by decide +kernel
theorem dX7_isDigit_18 : decode cX7_isDigit 18 = .ok (.iconst 1, 1) := by decide +kernel
theorem dX7_isDigit_19 : decode cX7_isDigit 19 = .ok (.goto 4, 3) := by decide +kernel
theorem dX7_isDigit_22 : decode cX7_isDigit 22 = .ok (.iconst 0, 1) := by decide +kernel
theorem dX7_isDigit_23 : decode cX7_isDigit 23 = .ok (.ireturn, 1) := by decide +kernel
theorem dX7_number_0 : decode cX7_number 0 = .ok (.aload_n 0, 1) := by decide +kernel
theorem dX7_number_1 : decode cX7_number 1 = .ok (.getfield 82, 3) := by decide +kernel
theorem dX7_number_4 : decode cX7_number 4 = .ok (.istore_n 3, 1) := by decide +kernel
theorem dX7_number_5 : decode cX7_number 5 = .ok (.iconst 0, 1) := by decide +kernel
theorem dX7_number_6 : decode cX7_number 6 = .ok (.istore 4, 2) := by decide +kernel
theorem dX7_number_8 : decode cX7_number 8 = .ok (.aload_n 0, 1) := by decide +kernel
theorem dX7_number_9 : decode cX7_number 9 = .ok (.invokevirtual 92, 3) := by decide +kernel
theorem dX7_number_12 : decode cX7_number 12 = .ok (.ifCond .eq 42, 3) := by decide +kernel
theorem dX7_number_15 : decode cX7_number 15 = .ok (.aload_n 0, 1) := by decide +kernel
theorem dX7_number_16 : decode cX7_number 16 = .ok (.getfield 82, 3) := by decide +kernel
theorem dX7_number_19 : decode cX7_number 19 = .ok (.iload_n 3, 1) := by decide +kernel
theorem dX7_number_20 : decode cX7_number 20 = .ok (.isub, 1) := by decide +kernel
theorem dX7_number_21 : decode cX7_number 21 = .ok (.bipush 7, 2) := by decide +kernel
theorem dX7_number_23 : decode cX7_number 23 = .ok (.if_icmp .ge 31, 3) := by decide +kernel
theorem dX7_number_26 : decode cX7_number 26 = .ok (.bipush 10, 2) := by decide +kernel
theorem dX7_number_28 : decode cX7_number 28 = .ok (.iload 4, 2) := by decide +kernel
theorem dX7_number_30 : decode cX7_number 30 = .ok (.imul, 1) := by decide +kernel
theorem dX7_number_31 : decode cX7_number 31 = .ok (.aload_n 0, 1) := by decide +kernel
theorem dX7_number_32 : decode cX7_number 32 = .ok (.invokevirtual 88, 3) := by decide +kernel
theorem dX7_number_35 : decode cX7_number 35 = .ok (.iadd, 1) := by decide +kernel
theorem dX7_number_36 : decode cX7_number 36 = .ok (.bipush 48, 2) := by decide +kernel
theorem dX7_number_38 : decode cX7_number 38 = .ok (.isub, 1) := by decide +kernel
theorem dX7_number_39 : decode cX7_number 39 = .ok (.istore 4, 2) := by decide +kernel
theorem dX7_number_41 : decode cX7_number 41 = .ok (.aload_n 0, 1) := by decide +kernel
theorem dX7_number_42 : decode cX7_number 42 = .ok (.dup, 1) := by decide +kernel
theorem dX7_number_43 : decode cX7_number 43 = .ok (.getfield 82, 3) := by decide +kernel
theorem dX7_number_46 : decode cX7_number 46 = .ok (.iconst 1, 1) := by decide +kernel
theorem dX7_number_47 : decode cX7_number 47 = .ok (.iadd, 1) := by decide +kernel
theorem dX7_number_48 : decode cX7_number 48 = .ok (.putfield 82, 3) := by decide +kernel
theorem dX7_number_51 : decode cX7_number 51 = .ok (.goto (-43), 3) := by decide +kernel
theorem dX7_number_54 : decode cX7_number 54 = .ok (.aload_n 0, 1) := by decide +kernel
theorem dX7_number_55 : decode cX7_number 55 = .ok (.aload_n 0, 1) := by decide +kernel
theorem dX7_number_56 : decode cX7_number 56 = .ok (.getfield 82, 3) := by decide +kernel
theorem dX7_number_59 : decode cX7_number 59 = .ok (.iload_n 3, 1) := by decide +kernel
theorem dX7_number_60 : decode cX7_number 60 = .ok (.if_icmp .le 19, 3) := by decide +kernel
theorem dX7_number_63 : decode cX7_number 63 = .ok (.iload 4, 2) := by decide +kernel
theorem dX7_number_65 : decode cX7_number 65 = .ok (.iload_n 1, 1) := by decide +kernel
theorem dX7_number_66 : decode cX7_number 66 = .ok (.if_icmp .lt 13, 3) := by decide +kernel
theorem dX7_number_69 : decode cX7_number 69 = .ok (.iload 4, 2) := by decide +kernel
theorem dX7_number_71 : decode cX7_number 71 = .ok (.iload_n 2, 1) := by decide +kernel
theorem dX7_number_72 : decode cX7_number 72 = .ok (.if_icmp .gt 7, 3) := by decide +kernel
theorem dX7_number_75 : decode cX7_number 75 = .ok (.iconst 1, 1) := by decide +kernel
theorem dX7_number_76 : decode cX7_number 76 = .ok (.goto 4, 3) := by decide +kernel
theorem dX7_number_79 : decode cX7_number 79 = .ok (.iconst 0, 1) := by decide +kernel
theorem dX7_number_80 : decode cX7_number 80 = .ok (.iload_n 3, 1) := by decide +kernel
theorem dX7_number_81 : decode cX7_number 81 = .ok (.invokevirtual 96, 3) := by decide +kernel
theorem dX7_number_84 : decode cX7_number 84 = .ok (.istore 5, 2) := by decide +kernel
theorem dX7_number_86 : decode cX7_number 86 = .ok (.iload 4, 2) := by decide +kernel
theorem dX7_number_88 : decode cX7_number 88 = .ok (.ireturn, 1) := by decide +kernel
theorem dX7_next_0 : decode cX7_next 0 = .ok (.aload_n 0, 1) := by decide +kernel
theorem dX7_next_1 : decode cX7_next 1 = .ok (.aload_n 0, 1) := by decide +kernel
theorem dX7_next_2 : decode cX7_next 2 = .ok (.invokevirtual 88, 3) := by decide +kernel
theorem dX7_next_5 : decode cX7_next 5 = .ok (.bipush 32, 2) := by decide +kernel
theorem dX7_next_7 : decode cX7_next 7 = .ok (.if_icmp .ne 7, 3) := by decide +kernel
theorem dX7_next_10 : decode cX7_next 10 = .ok (.iconst 1, 1) := by decide +kernel
theorem dX7_next_11 : decode cX7_next 11 = .ok (.goto 4, 3) := by decide +kernel
theorem dX7_next_14 : decode cX7_next 14 = .ok (.iconst 0, 1) := by decide +kernel
theorem dX7_next_15 : decode cX7_next 15 = .ok (.aload_n 0, 1) := by decide +kernel
theorem dX7_next_16 : decode cX7_next 16 = .ok (.getfield 82, 3) := by decide +kernel
theorem dX7_next_19 : decode cX7_next 19 = .ok (.invokevirtual 96, 3) := by decide +kernel
theorem dX7_next_22 : decode cX7_next 22 = .ok (.ifCond .ne 5, 3) := by decide +kernel
theorem dX7_next_25 : decode cX7_next 25 = .ok (.iconst 0, 1) := by decide +kernel
theorem dX7_next_26 : decode cX7_next 26 = .ok (.ireturn, 1) := by decide +kernel
theorem dX7_next_27 : decode cX7_next 27 = .ok (.aload_n 0, 1) := by decide +kernel
theorem dX7_next_28 : decode cX7_next 28 = .ok (.dup, 1) := by decide +kernel
theorem dX7_next_29 : decode cX7_next 29 = .ok (.getfield 82, 3) := by decide +kernel
theorem dX7_next_32 : decode cX7_next 32 = .ok (.iconst 1, 1) := by decide +kernel
theorem dX7_next_33 : decode cX7_next 33 = .ok (.iadd, 1) := by decide +kernel
theorem dX7_next_34 : decode cX7_next 34 = .ok (.putfield 82, 3) := by decide +kernel
theorem dX7_next_37 : decode cX7_next 37 = .ok (.aload_n 0, 1) := by decide +kernel
theorem dX7_next_38 : decode cX7_next 38 = .ok (.iload_n 1, 1) := by decide +kernel
theorem dX7_next_39 : decode cX7_next 39 = .ok (.iload_n 2, 1) := by decide +kernel
theorem dX7_next_40 : decode cX7_next 40 = .ok (.invokevirtual 100, 3) := by decide +kernel
theorem dX7_next_43 : decode cX7_next 43 = .ok (.ireturn, 1) := by decide +kernel
theorem dX7_base_0 : decode cX7_base 0 = .ok (.sipush 2600, 3) := by decide +kernel
theorem dX7_base_3 : decode cX7_base 3 = .ok (.ireturn, 1) := by decide +kernel
theorem dX7_lastRow_0 : decode cX7_lastRow 0 = .ok (.aload_n 0, 1) := by decide +kernel
theorem dX7_lastRow_1 : decode cX7_lastRow 1 = .ok (.invokevirtual 104, 3) := by decide +kernel
theorem dX7_lastRow_4 : decode cX7_lastRow 4 = .ok (.aload_n 0, 1) := by decide +kernel
theorem dX7_lastRow_5 : decode cX7_lastRow 5 = .ok (.getfield 25, 3) := by decide +kernel
theorem dX7_lastRow_8 : decode cX7_lastRow 8 = .ok (.iconst 5, 1) := by decide +kernel
theorem dX7_lastRow_9 : decode cX7_lastRow 9 = .ok (.iaload, 1) := by decide +kernel
theorem dX7_lastRow_10 : decode cX7_lastRow 10 = .ok (.iadd, 1) := by decide +kernel
theorem dX7_lastRow_11 : decode cX7_lastRow 11 = .ok (.ireturn, 1) := by decide +kernel
theorem dX7_count_0 : decode cX7_count 0 = .ok (.iconst 0, 1) := by decide +kernel
theorem dX7_count_1 : decode cX7_count 1 = .ok (.istore_n 2, 1) := by decide +kernel
theorem dX7_count_2 : decode cX7_count 2 = .ok (.aload_n 0, 1) := by decide +kernel
theorem dX7_count_3 : decode cX7_count 3 = .ok (.getfield 107, 3) := by decide +kernel
theorem dX7_count_6 : decode cX7_count 6 = .ok (.istore_n 3, 1) := by decide +kernel
theorem dX7_count_7 : decode cX7_count 7 = .ok (.iload_n 3, 1) := by decide +kernel
theorem dX7_count_8 : decode cX7_count 8 = .ok (.aload_n 0, 1) := by decide +kernel
theorem dX7_count_9 : decode cX7_count 9 = .ok (.invokevirtual 110, 3) := by decide +kernel
theorem dX7_count_12 : decode cX7_count 12 = .ok (.if_icmp .ge 27, 3) := by decide +kernel
theorem dX7_count_15 : decode cX7_count 15 = .ok (.aload_n 0, 1) := by decide +kernel
theorem dX7_count_16 : decode cX7_count 16 = .ok (.getfield 13, 3) := by decide +kernel
theorem dX7_count_19 : decode cX7_count 19 = .ok (.iload_n 3, 1) := by decide +kernel
theorem dX7_count_20 : decode cX7_count 20 = .ok (.iaload, 1) := by decide +kernel
theorem dX7_count_21 : decode cX7_count 21 = .ok (.iload_n 1, 1) := by decide +kernel
theorem dX7_count_22 : decode cX7_count 22 = .ok (.if_icmp .ne 9, 3) := by decide +kernel
theorem dX7_count_25 : decode cX7_count 25 = .ok (.iload_n 2, 1) := by decide +kernel
theorem dX7_count_26 : decode cX7_count 26 = .ok (.iconst 1, 1) := by decide +kernel
theorem dX7_count_27 : decode cX7_count 27 = .ok (.iadd, 1) := by decide +kernel
theorem dX7_count_28 : decode cX7_count 28 = .ok (.goto 4, 3) := by decide +kernel
theorem dX7_count_31 : decode cX7_count 31 = .ok (.iload_n 2, 1) := by decide +kernel
theorem dX7_count_32 : decode cX7_count 32 = .ok (.istore_n 2, 1) := by decide +kernel
theorem dX7_count_33 : decode cX7_count 33 = .ok (.iinc 3 1, 3) := by decide +kernel
theorem dX7_count_36 : decode cX7_count 36 = .ok (.goto (-29), 3) := by decide +kernel
theorem dX7_count_39 : decode cX7_count 39 = .ok (.iload_n 2, 1) := by decide +kernel
theorem dX7_count_40 : decode cX7_count 40 = .ok (.ireturn, 1) := by decide +kernel
theorem dX7_isThere_0 : decode cX7_isThere 0 = .ok (.iconst 0, 1) := by decide +kernel
theorem dX7_isThere_1 : decode cX7_isThere 1 = .ok (.istore_n 3, 1) := by decide +kernel
theorem dX7_isThere_2 : decode cX7_isThere 2 = .ok (.aload_n 0, 1) := by decide +kernel
theorem dX7_isThere_3 : decode cX7_isThere 3 = .ok (.getfield 107, 3) := by decide +kernel
theorem dX7_isThere_6 : decode cX7_isThere 6 = .ok (.istore 4, 2) := by decide +kernel
theorem dX7_isThere_8 : decode cX7_isThere 8 = .ok (.iload 4, 2) := by decide +kernel
theorem dX7_isThere_10 : decode cX7_isThere 10 = .ok (.aload_n 0, 1) := by decide +kernel
theorem dX7_isThere_11 : decode cX7_isThere 11 = .ok (.invokevirtual 110, 3) := by decide +kernel
theorem dX7_isThere_14 : decode cX7_isThere 14 = .ok (.if_icmp .ge 41, 3) := by decide +kernel
theorem dX7_isThere_17 : decode cX7_isThere 17 = .ok (.iload_n 3, 1) := by decide +kernel
theorem dX7_isThere_18 : decode cX7_isThere 18 = .ok (.ifCond .ne 25, 3) := by decide +kernel
theorem dX7_isThere_21 : decode cX7_isThere 21 = .ok (.aload_n 0, 1) := by decide +kernel
theorem dX7_isThere_22 : decode cX7_isThere 22 = .ok (.getfield 13, 3) := by decide +kernel
theorem dX7_isThere_25 : decode cX7_isThere 25 = .ok (.iload 4, 2) := by decide +kernel
theorem dX7_isThere_27 : decode cX7_isThere 27 = .ok (.iaload, 1) := by decide +kernel
theorem dX7_isThere_28 : decode cX7_isThere 28 = .ok (.iload_n 1, 1) := by decide +kernel
theorem dX7_isThere_29 : decode cX7_isThere 29 = .ok (.if_icmp .ne 18, 3) := by decide +kernel
theorem dX7_isThere_32 : decode cX7_isThere 32 = .ok (.aload_n 0, 1) := by decide +kernel
theorem dX7_isThere_33 : decode cX7_isThere 33 = .ok (.getfield 16, 3) := by decide +kernel
theorem dX7_isThere_36 : decode cX7_isThere 36 = .ok (.iload 4, 2) := by decide +kernel
theorem dX7_isThere_38 : decode cX7_isThere 38 = .ok (.iaload, 1) := by decide +kernel
theorem dX7_isThere_39 : decode cX7_isThere 39 = .ok (.iload_n 2, 1) := by decide +kernel
theorem dX7_isThere_40 : decode cX7_isThere 40 = .ok (.if_icmp .ne 7, 3) := by decide +kernel
theorem dX7_isThere_43 : decode cX7_isThere 43 = .ok (.iconst 1, 1) := by decide +kernel
theorem dX7_isThere_44 : decode cX7_isThere 44 = .ok (.goto 4, 3) := by decide +kernel
theorem dX7_isThere_47 : decode cX7_isThere 47 = .ok (.iconst 0, 1) := by decide +kernel
theorem dX7_isThere_48 : decode cX7_isThere 48 = .ok (.istore_n 3, 1) := by decide +kernel
theorem dX7_isThere_49 : decode cX7_isThere 49 = .ok (.iinc 4 1, 3) := by decide +kernel
theorem dX7_isThere_52 : decode cX7_isThere 52 = .ok (.goto (-44), 3) := by decide +kernel
theorem dX7_isThere_55 : decode cX7_isThere 55 = .ok (.iload_n 3, 1) := by decide +kernel
theorem dX7_isThere_56 : decode cX7_isThere 56 = .ok (.ireturn, 1) := by decide +kernel
theorem dX7_lastWeight_0 : decode cX7_lastWeight 0 = .ok (.iconst 0, 1) := by decide +kernel
theorem dX7_lastWeight_1 : decode cX7_lastWeight 1 = .ok (.istore_n 1, 1) := by decide +kernel
theorem dX7_lastWeight_2 : decode cX7_lastWeight 2 = .ok (.aload_n 0, 1) := by decide +kernel
theorem dX7_lastWeight_3 : decode cX7_lastWeight 3 = .ok (.getfield 107, 3) := by decide +kernel
theorem dX7_lastWeight_6 : decode cX7_lastWeight 6 = .ok (.istore_n 2, 1) := by decide +kernel
theorem dX7_lastWeight_7 : decode cX7_lastWeight 7 = .ok (.iload_n 2, 1) := by decide +kernel
theorem dX7_lastWeight_8 : decode cX7_lastWeight 8 = .ok (.aload_n 0, 1) := by decide +kernel
theorem dX7_lastWeight_9 : decode cX7_lastWeight 9 = .ok (.invokevirtual 110, 3) := by decide +kernel
theorem dX7_lastWeight_12 : decode cX7_lastWeight 12 = .ok (.if_icmp .ge 31, 3) := by decide +kernel
theorem dX7_lastWeight_15 : decode cX7_lastWeight 15 = .ok (.aload_n 0, 1) := by decide +kernel
theorem dX7_lastWeight_16 : decode cX7_lastWeight 16 = .ok (.getfield 13, 3) := by decide +kernel
theorem dX7_lastWeight_19 : decode cX7_lastWeight 19 = .ok (.iload_n 2, 1) := by decide +kernel
theorem dX7_lastWeight_20 : decode cX7_lastWeight 20 = .ok (.iaload, 1) := by decide +kernel
theorem dX7_lastWeight_21 : decode cX7_lastWeight 21 = .ok (.bipush 83, 2) := by decide +kernel
theorem dX7_lastWeight_23 : decode cX7_lastWeight 23 = .ok (.if_icmp .ne 12, 3) := by decide +kernel
theorem dX7_lastWeight_26 : decode cX7_lastWeight 26 = .ok (.aload_n 0, 1) := by decide +kernel
theorem dX7_lastWeight_27 : decode cX7_lastWeight 27 = .ok (.getfield 16, 3) := by decide +kernel
theorem dX7_lastWeight_30 : decode cX7_lastWeight 30 = .ok (.iload_n 2, 1) := by decide +kernel
theorem dX7_lastWeight_31 : decode cX7_lastWeight 31 = .ok (.iaload, 1) := by decide +kernel
theorem dX7_lastWeight_32 : decode cX7_lastWeight 32 = .ok (.goto 4, 3) := by decide +kernel
theorem dX7_lastWeight_35 : decode cX7_lastWeight 35 = .ok (.iload_n 1, 1) := by decide +kernel
theorem dX7_lastWeight_36 : decode cX7_lastWeight 36 = .ok (.istore_n 1, 1) := by decide +kernel
theorem dX7_lastWeight_37 : decode cX7_lastWeight 37 = .ok (.iinc 2 1, 3) := by decide +kernel
theorem dX7_lastWeight_40 : decode cX7_lastWeight 40 = .ok (.goto (-33), 3) := by decide +kernel
theorem dX7_lastWeight_43 : decode cX7_lastWeight 43 = .ok (.iload_n 1, 1) := by decide +kernel
theorem dX7_lastWeight_44 : decode cX7_lastWeight 44 = .ok (.ireturn, 1) := by decide +kernel
theorem dX7_areApart_0 : decode cX7_areApart 0 = .ok (.iconst 0, 1) := by decide +kernel
theorem dX7_areApart_1 : decode cX7_areApart 1 = .ok (.istore_n 3, 1) := by decide +kernel
theorem dX7_areApart_2 : decode cX7_areApart 2 = .ok (.aload_n 0, 1) := by decide +kernel
theorem dX7_areApart_3 : decode cX7_areApart 3 = .ok (.getfield 107, 3) := by decide +kernel
theorem dX7_areApart_6 : decode cX7_areApart 6 = .ok (.istore 4, 2) := by decide +kernel
theorem dX7_areApart_8 : decode cX7_areApart 8 = .ok (.iload 4, 2) := by decide +kernel
theorem dX7_areApart_10 : decode cX7_areApart 10 = .ok (.aload_n 0, 1) := by decide +kernel
theorem dX7_areApart_11 : decode cX7_areApart 11 = .ok (.invokevirtual 110, 3) := by decide +kernel
theorem dX7_areApart_14 : decode cX7_areApart 14 = .ok (.if_icmp .ge 75, 3) := by decide +kernel
theorem dX7_areApart_17 : decode cX7_areApart 17 = .ok (.iload_n 3, 1) := by decide +kernel
theorem dX7_areApart_18 : decode cX7_areApart 18 = .ok (.ifCond .ne 59, 3) := by decide +kernel
theorem dX7_areApart_21 : decode cX7_areApart 21 = .ok (.aload_n 0, 1) := by decide +kernel
theorem dX7_areApart_22 : decode cX7_areApart 22 = .ok (.getfield 13, 3) := by decide +kernel
theorem dX7_areApart_25 : decode cX7_areApart 25 = .ok (.iload 4, 2) := by decide +kernel
theorem dX7_areApart_27 : decode cX7_areApart 27 = .ok (.iaload, 1) := by decide +kernel
theorem dX7_areApart_28 : decode cX7_areApart 28 = .ok (.bipush 69, 2) := by decide +kernel
theorem dX7_areApart_30 : decode cX7_areApart 30 = .ok (.if_icmp .ne 51, 3) := by decide +kernel
theorem dX7_areApart_33 : decode cX7_areApart 33 = .ok (.aload_n 0, 1) := by decide +kernel
theorem dX7_areApart_34 : decode cX7_areApart 34 = .ok (.getfield 16, 3) := by decide +kernel
theorem dX7_areApart_37 : decode cX7_areApart 37 = .ok (.iload 4, 2) := by decide +kernel
theorem dX7_areApart_39 : decode cX7_areApart 39 = .ok (.iaload, 1) := by decide +kernel
theorem dX7_areApart_40 : decode cX7_areApart 40 = .ok (.iload_n 1, 1) := by decide +kernel
theorem dX7_areApart_41 : decode cX7_areApart 41 = .ok (.if_icmp .ne 14, 3) := by decide +kernel
theorem dX7_areApart_44 : decode cX7_areApart 44 = .ok (.aload_n 0, 1) := by decide +kernel
theorem dX7_areApart_45 : decode cX7_areApart 45 = .ok (.getfield 19, 3) := by decide +kernel
theorem dX7_areApart_48 : decode cX7_areApart 48 = .ok (.iload 4, 2) := by decide +kernel
theorem dX7_areApart_50 : decode cX7_areApart 50 = .ok (.iaload, 1) := by decide +kernel
theorem dX7_areApart_51 : decode cX7_areApart 51 = .ok (.iload_n 2, 1) := by decide +kernel
theorem dX7_areApart_52 : decode cX7_areApart 52 = .ok (.if_icmp .eq 25, 3) := by decide +kernel
theorem dX7_areApart_55 : decode cX7_areApart 55 = .ok (.aload_n 0, 1) := by decide +kernel
theorem dX7_areApart_56 : decode cX7_areApart 56 = .ok (.getfield 16, 3) := by decide +kernel
theorem dX7_areApart_59 : decode cX7_areApart 59 = .ok (.iload 4, 2) := by decide +kernel
theorem dX7_areApart_61 : decode cX7_areApart 61 = .ok (.iaload, 1) := by decide +kernel
theorem dX7_areApart_62 : decode cX7_areApart 62 = .ok (.iload_n 2, 1) := by decide +kernel
theorem dX7_areApart_63 : decode cX7_areApart 63 = .ok (.if_icmp .ne 18, 3) := by decide +kernel
theorem dX7_areApart_66 : decode cX7_areApart 66 = .ok (.aload_n 0, 1) := by decide +kernel
theorem dX7_areApart_67 : decode cX7_areApart 67 = .ok (.getfield 19, 3) := by decide +kernel
theorem dX7_areApart_70 : decode cX7_areApart 70 = .ok (.iload 4, 2) := by decide +kernel
theorem dX7_areApart_72 : decode cX7_areApart 72 = .ok (.iaload, 1) := by decide +kernel
theorem dX7_areApart_73 : decode cX7_areApart 73 = .ok (.iload_n 1, 1) := by decide +kernel
theorem dX7_areApart_74 : decode cX7_areApart 74 = .ok (.if_icmp .ne 7, 3) := by decide +kernel
theorem dX7_areApart_77 : decode cX7_areApart 77 = .ok (.iconst 1, 1) := by decide +kernel
theorem dX7_areApart_78 : decode cX7_areApart 78 = .ok (.goto 4, 3) := by decide +kernel
theorem dX7_areApart_81 : decode cX7_areApart 81 = .ok (.iconst 0, 1) := by decide +kernel
theorem dX7_areApart_82 : decode cX7_areApart 82 = .ok (.istore_n 3, 1) := by decide +kernel
theorem dX7_areApart_83 : decode cX7_areApart 83 = .ok (.iinc 4 1, 3) := by decide +kernel
theorem dX7_areApart_86 : decode cX7_areApart 86 = .ok (.goto (-78), 3) := by decide +kernel
theorem dX7_areApart_89 : decode cX7_areApart 89 = .ok (.iload_n 3, 1) := by decide +kernel
theorem dX7_areApart_90 : decode cX7_areApart 90 = .ok (.ireturn, 1) := by decide +kernel
theorem dX7_add_0 : decode cX7_add 0 = .ok (.aload_n 0, 1) := by decide +kernel
theorem dX7_add_1 : decode cX7_add 1 = .ok (.getfield 85, 3) := by decide +kernel
theorem dX7_add_4 : decode cX7_add 4 = .ok (.iconst (-1), 1) := by decide +kernel
theorem dX7_add_5 : decode cX7_add 5 = .ok (.if_icmp .eq 4, 3) := by decide +kernel
theorem dX7_add_8 : decode cX7_add 8 = .ok (.return_, 1) := by decide +kernel
theorem dX7_add_9 : decode cX7_add 9 = .ok (.aload_n 0, 1) := by decide +kernel
theorem dX7_add_10 : decode cX7_add 10 = .ok (.invokevirtual 110, 3) := by decide +kernel
theorem dX7_add_13 : decode cX7_add 13 = .ok (.istore 5, 2) := by decide +kernel
theorem dX7_add_15 : decode cX7_add 15 = .ok (.aload_n 0, 1) := by decide +kernel
theorem dX7_add_16 : decode cX7_add 16 = .ok (.getfield 13, 3) := by decide +kernel
theorem dX7_add_19 : decode cX7_add 19 = .ok (.iload 5, 2) := by decide +kernel
theorem dX7_add_21 : decode cX7_add 21 = .ok (.iload_n 1, 1) := by decide +kernel
theorem dX7_add_22 : decode cX7_add 22 = .ok (.iastore, 1) := by decide +kernel
theorem dX7_add_23 : decode cX7_add 23 = .ok (.aload_n 0, 1) := by decide +kernel
theorem dX7_add_24 : decode cX7_add 24 = .ok (.getfield 16, 3) := by decide +kernel
theorem dX7_add_27 : decode cX7_add 27 = .ok (.iload 5, 2) := by decide +kernel
theorem dX7_add_29 : decode cX7_add 29 = .ok (.iload_n 2, 1) := by decide +kernel
theorem dX7_add_30 : decode cX7_add 30 = .ok (.iastore, 1) := by decide +kernel
theorem dX7_add_31 : decode cX7_add 31 = .ok (.aload_n 0, 1) := by decide +kernel
theorem dX7_add_32 : decode cX7_add 32 = .ok (.getfield 19, 3) := by decide +kernel
theorem dX7_add_35 : decode cX7_add 35 = .ok (.iload 5, 2) := by decide +kernel
theorem dX7_add_37 : decode cX7_add 37 = .ok (.iload_n 3, 1) := by decide +kernel
theorem dX7_add_38 : decode cX7_add 38 = .ok (.iastore, 1) := by decide +kernel
theorem dX7_add_39 : decode cX7_add 39 = .ok (.aload_n 0, 1) := by decide +kernel
theorem dX7_add_40 : decode cX7_add 40 = .ok (.getfield 22, 3) := by decide +kernel
theorem dX7_add_43 : decode cX7_add 43 = .ok (.iload 5, 2) := by decide +kernel
theorem dX7_add_45 : decode cX7_add 45 = .ok (.iload 4, 2) := by decide +kernel
theorem dX7_add_47 : decode cX7_add 47 = .ok (.iastore, 1) := by decide +kernel
theorem dX7_add_48 : decode cX7_add 48 = .ok (.aload_n 0, 1) := by decide +kernel
theorem dX7_add_49 : decode cX7_add 49 = .ok (.getfield 25, 3) := by decide +kernel
theorem dX7_add_52 : decode cX7_add 52 = .ok (.iconst 5, 1) := by decide +kernel
theorem dX7_add_53 : decode cX7_add 53 = .ok (.dup2, 1) := by decide +kernel
theorem dX7_add_54 : decode cX7_add 54 = .ok (.iaload, 1) := by decide +kernel
theorem dX7_add_55 : decode cX7_add 55 = .ok (.iconst 1, 1) := by decide +kernel
theorem dX7_add_56 : decode cX7_add 56 = .ok (.iadd, 1) := by decide +kernel
theorem dX7_add_57 : decode cX7_add 57 = .ok (.iastore, 1) := by decide +kernel
theorem dX7_add_58 : decode cX7_add 58 = .ok (.return_, 1) := by decide +kernel
theorem dX7_readKind_0 : decode cX7_readKind 0 = .ok (.aload_n 0, 1) := by decide +kernel
theorem dX7_readKind_1 : decode cX7_readKind 1 = .ok (.getfield 107, 3) := by decide +kernel
theorem dX7_readKind_4 : decode cX7_readKind 4 = .ok (.iconst (-1), 1) := by decide +kernel
theorem dX7_readKind_5 : decode cX7_readKind 5 = .ok (.if_icmp .eq 26, 3) := by decide +kernel
theorem dX7_readKind_8 : decode cX7_readKind 8 = .ok (.aload_n 0, 1) := by decide +kernel
theorem dX7_readKind_9 : decode cX7_readKind 9 = .ok (.aload_n 0, 1) := by decide +kernel
theorem dX7_readKind_10 : decode cX7_readKind 10 = .ok (.bipush 83, 2) := by decide +kernel
theorem dX7_readKind_12 : decode cX7_readKind 12 = .ok (.invokevirtual 113, 3) := by decide +kernel
theorem dX7_readKind_15 : decode cX7_readKind 15 = .ok (.ifCond .le 7, 3) := by decide +kernel
theorem dX7_readKind_18 : decode cX7_readKind 18 = .ok (.iconst 1, 1) := by decide +kernel
theorem dX7_readKind_19 : decode cX7_readKind 19 = .ok (.goto 4, 3) := by decide +kernel
theorem dX7_readKind_22 : decode cX7_readKind 22 = .ok (.iconst 0, 1) := by decide +kernel
theorem dX7_readKind_23 : decode cX7_readKind 23 = .ok (.iload_n 1, 1) := by decide +kernel
theorem dX7_readKind_24 : decode cX7_readKind 24 = .ok (.invokevirtual 96, 3) := by decide +kernel
theorem dX7_readKind_27 : decode cX7_readKind 27 = .ok (.ifCond .ne 4, 3) := by decide +kernel
theorem dX7_readKind_30 : decode cX7_readKind 30 = .ok (.return_, 1) := by decide +kernel
theorem dX7_readKind_31 : decode cX7_readKind 31 = .ok (.aload_n 0, 1) := by decide +kernel
theorem dX7_readKind_32 : decode cX7_readKind 32 = .ok (.getfield 82, 3) := by decide +kernel
theorem dX7_readKind_35 : decode cX7_readKind 35 = .ok (.istore_n 2, 1) := by decide +kernel
theorem dX7_readKind_36 : decode cX7_readKind 36 = .ok (.aload_n 0, 1) := by decide +kernel
theorem dX7_readKind_37 : decode cX7_readKind 37 = .ok (.iconst 0, 1) := by decide +kernel
theorem dX7_readKind_38 : decode cX7_readKind 38 = .ok (.bipush 9, 2) := by decide +kernel
theorem dX7_readKind_40 : decode cX7_readKind 40 = .ok (.invokevirtual 100, 3) := by decide +kernel
theorem dX7_readKind_43 : decode cX7_readKind 43 = .ok (.istore_n 3, 1) := by decide +kernel
theorem dX7_readKind_44 : decode cX7_readKind 44 = .ok (.iconst 0, 1) := by decide +kernel
theorem dX7_readKind_45 : decode cX7_readKind 45 = .ok (.istore 4, 2) := by decide +kernel
theorem dX7_readKind_47 : decode cX7_readKind 47 = .ok (.aload_n 0, 1) := by decide +kernel
theorem dX7_readKind_48 : decode cX7_readKind 48 = .ok (.invokevirtual 104, 3) := by decide +kernel
theorem dX7_readKind_51 : decode cX7_readKind 51 = .ok (.istore 5, 2) := by decide +kernel
theorem dX7_readKind_53 : decode cX7_readKind 53 = .ok (.iload 5, 2) := by decide +kernel
theorem dX7_readKind_55 : decode cX7_readKind 55 = .ok (.aload_n 0, 1) := by decide +kernel
theorem dX7_readKind_56 : decode cX7_readKind 56 = .ok (.invokevirtual 110, 3) := by decide +kernel
theorem dX7_readKind_59 : decode cX7_readKind 59 = .ok (.if_icmp .ge 44, 3) := by decide +kernel
theorem dX7_readKind_62 : decode cX7_readKind 62 = .ok (.iload 4, 2) := by decide +kernel
theorem dX7_readKind_64 : decode cX7_readKind 64 = .ok (.ifCond .ne 26, 3) := by decide +kernel
theorem dX7_readKind_67 : decode cX7_readKind 67 = .ok (.aload_n 0, 1) := by decide +kernel
theorem dX7_readKind_68 : decode cX7_readKind 68 = .ok (.getfield 13, 3) := by decide +kernel
theorem dX7_readKind_71 : decode cX7_readKind 71 = .ok (.iload 5, 2) := by decide +kernel
theorem dX7_readKind_73 : decode cX7_readKind 73 = .ok (.iaload, 1) := by decide +kernel
theorem dX7_readKind_74 : decode cX7_readKind 74 = .ok (.bipush 75, 2) := by decide +kernel
theorem dX7_readKind_76 : decode cX7_readKind 76 = .ok (.if_icmp .ne 18, 3) := by decide +kernel
theorem dX7_readKind_79 : decode cX7_readKind 79 = .ok (.aload_n 0, 1) := by decide +kernel
theorem dX7_readKind_80 : decode cX7_readKind 80 = .ok (.getfield 16, 3) := by decide +kernel
theorem dX7_readKind_83 : decode cX7_readKind 83 = .ok (.iload 5, 2) := by decide +kernel
theorem dX7_readKind_85 : decode cX7_readKind 85 = .ok (.iaload, 1) := by decide +kernel
theorem dX7_readKind_86 : decode cX7_readKind 86 = .ok (.iload_n 3, 1) := by decide +kernel
theorem dX7_readKind_87 : decode cX7_readKind 87 = .ok (.if_icmp .ne 7, 3) := by decide +kernel
theorem dX7_readKind_90 : decode cX7_readKind 90 = .ok (.iconst 1, 1) := by decide +kernel
theorem dX7_readKind_91 : decode cX7_readKind 91 = .ok (.goto 4, 3) := by decide +kernel
theorem dX7_readKind_94 : decode cX7_readKind 94 = .ok (.iconst 0, 1) := by decide +kernel
theorem dX7_readKind_95 : decode cX7_readKind 95 = .ok (.istore 4, 2) := by decide +kernel
theorem dX7_readKind_97 : decode cX7_readKind 97 = .ok (.iinc 5 1, 3) := by decide +kernel
theorem dX7_readKind_100 : decode cX7_readKind 100 = .ok (.goto (-47), 3) := by decide +kernel
theorem dX7_readKind_103 : decode cX7_readKind 103 = .ok (.aload_n 0, 1) := by decide +kernel
theorem dX7_readKind_104 : decode cX7_readKind 104 = .ok (.iload 4, 2) := by decide +kernel
theorem dX7_readKind_106 : decode cX7_readKind 106 = .ok (.ifCond .ne 7, 3) := by decide +kernel
theorem dX7_readKind_109 : decode cX7_readKind 109 = .ok (.iconst 1, 1) := by decide +kernel
theorem dX7_readKind_110 : decode cX7_readKind 110 = .ok (.goto 4, 3) := by decide +kernel
theorem dX7_readKind_113 : decode cX7_readKind 113 = .ok (.iconst 0, 1) := by decide +kernel
theorem dX7_readKind_114 : decode cX7_readKind 114 = .ok (.iload_n 2, 1) := by decide +kernel
theorem dX7_readKind_115 : decode cX7_readKind 115 = .ok (.invokevirtual 96, 3) := by decide +kernel
theorem dX7_readKind_118 : decode cX7_readKind 118 = .ok (.pop, 1) := by decide +kernel
theorem dX7_readKind_119 : decode cX7_readKind 119 = .ok (.aload_n 0, 1) := by decide +kernel
theorem dX7_readKind_120 : decode cX7_readKind 120 = .ok (.aload_n 0, 1) := by decide +kernel
theorem dX7_readKind_121 : decode cX7_readKind 121 = .ok (.invokevirtual 110, 3) := by decide +kernel
theorem dX7_readKind_124 : decode cX7_readKind 124 = .ok (.putfield 107, 3) := by decide +kernel
theorem dX7_readKind_127 : decode cX7_readKind 127 = .ok (.aload_n 0, 1) := by decide +kernel
theorem dX7_readKind_128 : decode cX7_readKind 128 = .ok (.bipush 75, 2) := by decide +kernel
theorem dX7_readKind_130 : decode cX7_readKind 130 = .ok (.iload_n 3, 1) := by decide +kernel
theorem dX7_readKind_131 : decode cX7_readKind 131 = .ok (.iconst 0, 1) := by decide +kernel
theorem dX7_readKind_132 : decode cX7_readKind 132 = .ok (.iconst 0, 1) := by decide +kernel
theorem dX7_readKind_133 : decode cX7_readKind 133 = .ok (.invokevirtual 117, 3) := by decide +kernel
theorem dX7_readKind_136 : decode cX7_readKind 136 = .ok (.return_, 1) := by decide +kernel
theorem dX7_readStep_0 : decode cX7_readStep 0 = .ok (.aload_n 0, 1) := by decide +kernel
theorem dX7_readStep_1 : decode cX7_readStep 1 = .ok (.aload_n 0, 1) := by decide +kernel
theorem dX7_readStep_2 : decode cX7_readStep 2 = .ok (.bipush 83, 2) := by decide +kernel
theorem dX7_readStep_4 : decode cX7_readStep 4 = .ok (.invokevirtual 113, 3) := by decide +kernel
theorem dX7_readStep_7 : decode cX7_readStep 7 = .ok (.bipush 10, 2) := by decide +kernel
theorem dX7_readStep_9 : decode cX7_readStep 9 = .ok (.if_icmp .ge 7, 3) := by decide +kernel
theorem dX7_readStep_12 : decode cX7_readStep 12 = .ok (.iconst 1, 1) := by decide +kernel
theorem dX7_readStep_13 : decode cX7_readStep 13 = .ok (.goto 4, 3) := by decide +kernel
theorem dX7_readStep_16 : decode cX7_readStep 16 = .ok (.iconst 0, 1) := by decide +kernel
theorem dX7_readStep_17 : decode cX7_readStep 17 = .ok (.iload_n 1, 1) := by decide +kernel
theorem dX7_readStep_18 : decode cX7_readStep 18 = .ok (.invokevirtual 96, 3) := by decide +kernel
theorem dX7_readStep_21 : decode cX7_readStep 21 = .ok (.ifCond .ne 4, 3) := by decide +kernel
theorem dX7_readStep_24 : decode cX7_readStep 24 = .ok (.return_, 1) := by decide +kernel
theorem dX7_readStep_25 : decode cX7_readStep 25 = .ok (.aload_n 0, 1) := by decide +kernel
theorem dX7_readStep_26 : decode cX7_readStep 26 = .ok (.aload_n 0, 1) := by decide +kernel
theorem dX7_readStep_27 : decode cX7_readStep 27 = .ok (.invokevirtual 121, 3) := by decide +kernel
theorem dX7_readStep_30 : decode cX7_readStep 30 = .ok (.iconst 1, 1) := by decide +kernel
theorem dX7_readStep_31 : decode cX7_readStep 31 = .ok (.iadd, 1) := by decide +kernel
theorem dX7_readStep_32 : decode cX7_readStep 32 = .ok (.ldc 124, 2) := by decide +kernel
theorem dX7_readStep_34 : decode cX7_readStep 34 = .ok (.invokevirtual 100, 3) := by decide +kernel
theorem dX7_readStep_37 : decode cX7_readStep 37 = .ok (.istore_n 2, 1) := by decide +kernel
theorem dX7_readStep_38 : decode cX7_readStep 38 = .ok (.aload_n 0, 1) := by decide +kernel
theorem dX7_readStep_39 : decode cX7_readStep 39 = .ok (.getfield 85, 3) := by decide +kernel
theorem dX7_readStep_42 : decode cX7_readStep 42 = .ok (.iconst (-1), 1) := by decide +kernel
theorem dX7_readStep_43 : decode cX7_readStep 43 = .ok (.if_icmp .ne 13, 3) := by decide +kernel
theorem dX7_readStep_46 : decode cX7_readStep 46 = .ok (.aload_n 0, 1) := by decide +kernel
theorem dX7_readStep_47 : decode cX7_readStep 47 = .ok (.iconst 0, 1) := by decide +kernel
theorem dX7_readStep_48 : decode cX7_readStep 48 = .ok (.ldc 124, 2) := by decide +kernel
theorem dX7_readStep_50 : decode cX7_readStep 50 = .ok (.invokevirtual 125, 3) := by decide +kernel
theorem dX7_readStep_53 : decode cX7_readStep 53 = .ok (.goto 4, 3) := by decide +kernel
theorem dX7_readStep_56 : decode cX7_readStep 56 = .ok (.iconst 0, 1) := by decide +kernel
theorem dX7_readStep_57 : decode cX7_readStep 57 = .ok (.istore_n 3, 1) := by decide +kernel
theorem dX7_readStep_58 : decode cX7_readStep 58 = .ok (.aload_n 0, 1) := by decide +kernel
theorem dX7_readStep_59 : decode cX7_readStep 59 = .ok (.bipush 83, 2) := by decide +kernel
theorem dX7_readStep_61 : decode cX7_readStep 61 = .ok (.iload_n 2, 1) := by decide +kernel
theorem dX7_readStep_62 : decode cX7_readStep 62 = .ok (.iload_n 3, 1) := by decide +kernel
theorem dX7_readStep_63 : decode cX7_readStep 63 = .ok (.iconst 0, 1) := by decide +kernel
theorem dX7_readStep_64 : decode cX7_readStep 64 = .ok (.invokevirtual 117, 3) := by decide +kernel
theorem dX7_readStep_67 : decode cX7_readStep 67 = .ok (.return_, 1) := by decide +kernel
theorem dX7_readOnceEach_0 : decode cX7_readOnceEach 0 = .ok (.aload_n 0, 1) := by decide +kernel
theorem dX7_readOnceEach_1 : decode cX7_readOnceEach 1 = .ok (.getfield 82, 3) := by decide +kernel
theorem dX7_readOnceEach_4 : decode cX7_readOnceEach 4 = .ok (.istore_n 3, 1) := by decide +kernel
theorem dX7_readOnceEach_5 : decode cX7_readOnceEach 5 = .ok (.aload_n 0, 1) := by decide +kernel
theorem dX7_readOnceEach_6 : decode cX7_readOnceEach 6 = .ok (.iconst 0, 1) := by decide +kernel
theorem dX7_readOnceEach_7 : decode cX7_readOnceEach 7 = .ok (.bipush 9, 2) := by decide +kernel
theorem dX7_readOnceEach_9 : decode cX7_readOnceEach 9 = .ok (.invokevirtual 100, 3) := by decide +kernel
theorem dX7_readOnceEach_12 : decode cX7_readOnceEach 12 = .ok (.istore 4, 2) := by decide +kernel
theorem dX7_readOnceEach_14 : decode cX7_readOnceEach 14 = .ok (.aload_n 0, 1) := by decide +kernel
theorem dX7_readOnceEach_15 : decode cX7_readOnceEach 15 = .ok (.getfield 85, 3) := by decide +kernel
theorem dX7_readOnceEach_18 : decode cX7_readOnceEach 18 = .ok (.iconst (-1), 1) := by decide +kernel
theorem dX7_readOnceEach_19 : decode cX7_readOnceEach 19 = .ok (.if_icmp .ne 24, 3) := by decide +kernel
theorem dX7_readOnceEach_22 : decode cX7_readOnceEach 22 = .ok (.aload_n 0, 1) := by decide +kernel
theorem dX7_readOnceEach_23 : decode cX7_readOnceEach 23 = .ok (.aload_n 0, 1) := by decide +kernel
theorem dX7_readOnceEach_24 : decode cX7_readOnceEach 24 = .ok (.iload_n 1, 1) := by decide +kernel
theorem dX7_readOnceEach_25 : decode cX7_readOnceEach 25 = .ok (.iload 4, 2) := by decide +kernel
theorem dX7_readOnceEach_27 : decode cX7_readOnceEach 27 = .ok (.invokevirtual 128, 3) := by decide +kernel
theorem dX7_readOnceEach_30 : decode cX7_readOnceEach 30 = .ok (.ifCond .ne 7, 3) := by decide +kernel
theorem dX7_readOnceEach_33 : decode cX7_readOnceEach 33 = .ok (.iconst 1, 1) := by decide +kernel
theorem dX7_readOnceEach_34 : decode cX7_readOnceEach 34 = .ok (.goto 4, 3) := by decide +kernel
theorem dX7_readOnceEach_37 : decode cX7_readOnceEach 37 = .ok (.iconst 0, 1) := by decide +kernel
theorem dX7_readOnceEach_38 : decode cX7_readOnceEach 38 = .ok (.iload_n 3, 1) := by decide +kernel
theorem dX7_readOnceEach_39 : decode cX7_readOnceEach 39 = .ok (.invokevirtual 96, 3) := by decide +kernel
theorem dX7_readOnceEach_42 : decode cX7_readOnceEach 42 = .ok (.pop, 1) := by decide +kernel
theorem dX7_readOnceEach_43 : decode cX7_readOnceEach 43 = .ok (.aload_n 0, 1) := by decide +kernel
theorem dX7_readOnceEach_44 : decode cX7_readOnceEach 44 = .ok (.getfield 85, 3) := by decide +kernel
theorem dX7_readOnceEach_47 : decode cX7_readOnceEach 47 = .ok (.iconst (-1), 1) := by decide +kernel
theorem dX7_readOnceEach_48 : decode cX7_readOnceEach 48 = .ok (.if_icmp .ne 12, 3) := by decide +kernel
theorem dX7_readOnceEach_51 : decode cX7_readOnceEach 51 = .ok (.aload_n 0, 1) := by decide +kernel
theorem dX7_readOnceEach_52 : decode cX7_readOnceEach 52 = .ok (.iconst 0, 1) := by decide +kernel
theorem dX7_readOnceEach_53 : decode cX7_readOnceEach 53 = .ok (.iload_n 2, 1) := by decide +kernel
theorem dX7_readOnceEach_54 : decode cX7_readOnceEach 54 = .ok (.invokevirtual 125, 3) := by decide +kernel
theorem dX7_readOnceEach_57 : decode cX7_readOnceEach 57 = .ok (.goto 4, 3) := by decide +kernel
theorem dX7_readOnceEach_60 : decode cX7_readOnceEach 60 = .ok (.iconst 0, 1) := by decide +kernel
theorem dX7_readOnceEach_61 : decode cX7_readOnceEach 61 = .ok (.istore 5, 2) := by decide +kernel
theorem dX7_readOnceEach_63 : decode cX7_readOnceEach 63 = .ok (.aload_n 0, 1) := by decide +kernel
theorem dX7_readOnceEach_64 : decode cX7_readOnceEach 64 = .ok (.iload_n 1, 1) := by decide +kernel
theorem dX7_readOnceEach_65 : decode cX7_readOnceEach 65 = .ok (.iload 4, 2) := by decide +kernel
theorem dX7_readOnceEach_67 : decode cX7_readOnceEach 67 = .ok (.iload 5, 2) := by decide +kernel
theorem dX7_readOnceEach_69 : decode cX7_readOnceEach 69 = .ok (.iconst 0, 1) := by decide +kernel
theorem dX7_readOnceEach_70 : decode cX7_readOnceEach 70 = .ok (.invokevirtual 117, 3) := by decide +kernel
theorem dX7_readOnceEach_73 : decode cX7_readOnceEach 73 = .ok (.return_, 1) := by decide +kernel
theorem dX7_readApart_0 : decode cX7_readApart 0 = .ok (.aload_n 0, 1) := by decide +kernel
theorem dX7_readApart_1 : decode cX7_readApart 1 = .ok (.aload_n 0, 1) := by decide +kernel
theorem dX7_readApart_2 : decode cX7_readApart 2 = .ok (.bipush 69, 2) := by decide +kernel
theorem dX7_readApart_4 : decode cX7_readApart 4 = .ok (.invokevirtual 113, 3) := by decide +kernel
theorem dX7_readApart_7 : decode cX7_readApart 7 = .ok (.bipush 10, 2) := by decide +kernel
theorem dX7_readApart_9 : decode cX7_readApart 9 = .ok (.if_icmp .ge 7, 3) := by decide +kernel
theorem dX7_readApart_12 : decode cX7_readApart 12 = .ok (.iconst 1, 1) := by decide +kernel
theorem dX7_readApart_13 : decode cX7_readApart 13 = .ok (.goto 4, 3) := by decide +kernel
theorem dX7_readApart_16 : decode cX7_readApart 16 = .ok (.iconst 0, 1) := by decide +kernel
theorem dX7_readApart_17 : decode cX7_readApart 17 = .ok (.iload_n 1, 1) := by decide +kernel
theorem dX7_readApart_18 : decode cX7_readApart 18 = .ok (.invokevirtual 96, 3) := by decide +kernel
theorem dX7_readApart_21 : decode cX7_readApart 21 = .ok (.ifCond .ne 4, 3) := by decide +kernel
theorem dX7_readApart_24 : decode cX7_readApart 24 = .ok (.return_, 1) := by decide +kernel
theorem dX7_readApart_25 : decode cX7_readApart 25 = .ok (.aload_n 0, 1) := by decide +kernel
theorem dX7_readApart_26 : decode cX7_readApart 26 = .ok (.getfield 82, 3) := by decide +kernel
theorem dX7_readApart_29 : decode cX7_readApart 29 = .ok (.istore_n 2, 1) := by decide +kernel
theorem dX7_readApart_30 : decode cX7_readApart 30 = .ok (.aload_n 0, 1) := by decide +kernel
theorem dX7_readApart_31 : decode cX7_readApart 31 = .ok (.iconst 0, 1) := by decide +kernel
theorem dX7_readApart_32 : decode cX7_readApart 32 = .ok (.bipush 9, 2) := by decide +kernel
theorem dX7_readApart_34 : decode cX7_readApart 34 = .ok (.invokevirtual 100, 3) := by decide +kernel
theorem dX7_readApart_37 : decode cX7_readApart 37 = .ok (.istore_n 3, 1) := by decide +kernel
theorem dX7_readApart_38 : decode cX7_readApart 38 = .ok (.aload_n 0, 1) := by decide +kernel
theorem dX7_readApart_39 : decode cX7_readApart 39 = .ok (.getfield 85, 3) := by decide +kernel
theorem dX7_readApart_42 : decode cX7_readApart 42 = .ok (.iconst (-1), 1) := by decide +kernel
theorem dX7_readApart_43 : decode cX7_readApart 43 = .ok (.if_icmp .ne 16, 3) := by decide +kernel
theorem dX7_readApart_46 : decode cX7_readApart 46 = .ok (.aload_n 0, 1) := by decide +kernel
theorem dX7_readApart_47 : decode cX7_readApart 47 = .ok (.aload_n 0, 1) := by decide +kernel
theorem dX7_readApart_48 : decode cX7_readApart 48 = .ok (.bipush 88, 2) := by decide +kernel
theorem dX7_readApart_50 : decode cX7_readApart 50 = .ok (.iload_n 3, 1) := by decide +kernel
theorem dX7_readApart_51 : decode cX7_readApart 51 = .ok (.invokevirtual 128, 3) := by decide +kernel
theorem dX7_readApart_54 : decode cX7_readApart 54 = .ok (.iload_n 2, 1) := by decide +kernel
theorem dX7_readApart_55 : decode cX7_readApart 55 = .ok (.invokevirtual 96, 3) := by decide +kernel
theorem dX7_readApart_58 : decode cX7_readApart 58 = .ok (.pop, 1) := by decide +kernel
theorem dX7_readApart_59 : decode cX7_readApart 59 = .ok (.aload_n 0, 1) := by decide +kernel
theorem dX7_readApart_60 : decode cX7_readApart 60 = .ok (.getfield 82, 3) := by decide +kernel
theorem dX7_readApart_63 : decode cX7_readApart 63 = .ok (.iconst 1, 1) := by decide +kernel
theorem dX7_readApart_64 : decode cX7_readApart 64 = .ok (.iadd, 1) := by decide +kernel
theorem dX7_readApart_65 : decode cX7_readApart 65 = .ok (.istore 4, 2) := by decide +kernel
theorem dX7_readApart_67 : decode cX7_readApart 67 = .ok (.aload_n 0, 1) := by decide +kernel
theorem dX7_readApart_68 : decode cX7_readApart 68 = .ok (.getfield 85, 3) := by decide +kernel
theorem dX7_readApart_71 : decode cX7_readApart 71 = .ok (.iconst (-1), 1) := by decide +kernel
theorem dX7_readApart_72 : decode cX7_readApart 72 = .ok (.if_icmp .ne 13, 3) := by decide +kernel
theorem dX7_readApart_75 : decode cX7_readApart 75 = .ok (.aload_n 0, 1) := by decide +kernel
theorem dX7_readApart_76 : decode cX7_readApart 76 = .ok (.iconst 0, 1) := by decide +kernel
theorem dX7_readApart_77 : decode cX7_readApart 77 = .ok (.bipush 9, 2) := by decide +kernel
theorem dX7_readApart_79 : decode cX7_readApart 79 = .ok (.invokevirtual 125, 3) := by decide +kernel
theorem dX7_readApart_82 : decode cX7_readApart 82 = .ok (.goto 4, 3) := by decide +kernel
theorem dX7_readApart_85 : decode cX7_readApart 85 = .ok (.iconst 0, 1) := by decide +kernel
theorem dX7_readApart_86 : decode cX7_readApart 86 = .ok (.istore 5, 2) := by decide +kernel
theorem dX7_readApart_88 : decode cX7_readApart 88 = .ok (.aload_n 0, 1) := by decide +kernel
theorem dX7_readApart_89 : decode cX7_readApart 89 = .ok (.getfield 85, 3) := by decide +kernel
theorem dX7_readApart_92 : decode cX7_readApart 92 = .ok (.iconst (-1), 1) := by decide +kernel
theorem dX7_readApart_93 : decode cX7_readApart 93 = .ok (.if_icmp .ne 42, 3) := by decide +kernel
theorem dX7_readApart_96 : decode cX7_readApart 96 = .ok (.aload_n 0, 1) := by decide +kernel
theorem dX7_readApart_97 : decode cX7_readApart 97 = .ok (.aload_n 0, 1) := by decide +kernel
theorem dX7_readApart_98 : decode cX7_readApart 98 = .ok (.bipush 88, 2) := by decide +kernel
theorem dX7_readApart_100 : decode cX7_readApart 100 = .ok (.iload 5, 2) := by decide +kernel
theorem dX7_readApart_102 : decode cX7_readApart 102 = .ok (.invokevirtual 128, 3) := by decide +kernel
theorem dX7_readApart_105 : decode cX7_readApart 105 = .ok (.ifCond .eq 23, 3) := by decide +kernel
theorem dX7_readApart_108 : decode cX7_readApart 108 = .ok (.iload 5, 2) := by decide +kernel
theorem dX7_readApart_110 : decode cX7_readApart 110 = .ok (.iload_n 3, 1) := by decide +kernel
theorem dX7_readApart_111 : decode cX7_readApart 111 = .ok (.if_icmp .eq 17, 3) := by decide +kernel
theorem dX7_readApart_114 : decode cX7_readApart 114 = .ok (.aload_n 0, 1) := by decide +kernel
theorem dX7_readApart_115 : decode cX7_readApart 115 = .ok (.iload_n 3, 1) := by decide +kernel
theorem dX7_readApart_116 : decode cX7_readApart 116 = .ok (.iload 5, 2) := by decide +kernel
theorem dX7_readApart_118 : decode cX7_readApart 118 = .ok (.invokevirtual 132, 3) := by decide +kernel
theorem dX7_readApart_121 : decode cX7_readApart 121 = .ok (.ifCond .ne 7, 3) := by decide +kernel
theorem dX7_readApart_124 : decode cX7_readApart 124 = .ok (.iconst 1, 1) := by decide +kernel
theorem dX7_readApart_125 : decode cX7_readApart 125 = .ok (.goto 4, 3) := by decide +kernel
theorem dX7_readApart_128 : decode cX7_readApart 128 = .ok (.iconst 0, 1) := by decide +kernel
theorem dX7_readApart_129 : decode cX7_readApart 129 = .ok (.iload 4, 2) := by decide +kernel
theorem dX7_readApart_131 : decode cX7_readApart 131 = .ok (.invokevirtual 96, 3) := by decide +kernel
theorem dX7_readApart_134 : decode cX7_readApart 134 = .ok (.pop, 1) := by decide +kernel
theorem dX7_readApart_135 : decode cX7_readApart 135 = .ok (.aload_n 0, 1) := by decide +kernel
theorem dX7_readApart_136 : decode cX7_readApart 136 = .ok (.bipush 69, 2) := by decide +kernel
theorem dX7_readApart_138 : decode cX7_readApart 138 = .ok (.iload_n 3, 1) := by decide +kernel
theorem dX7_readApart_139 : decode cX7_readApart 139 = .ok (.iload 5, 2) := by decide +kernel
theorem dX7_readApart_141 : decode cX7_readApart 141 = .ok (.iconst 0, 1) := by decide +kernel
theorem dX7_readApart_142 : decode cX7_readApart 142 = .ok (.invokevirtual 117, 3) := by decide +kernel
theorem dX7_readApart_145 : decode cX7_readApart 145 = .ok (.return_, 1) := by decide +kernel
theorem dX7_readOnce_0 : decode cX7_readOnce 0 = .ok (.iload_n 1, 1) := by decide +kernel
theorem dX7_readOnce_1 : decode cX7_readOnce 1 = .ok (.bipush 68, 2) := by decide +kernel
theorem dX7_readOnce_3 : decode cX7_readOnce 3 = .ok (.if_icmp .eq 21, 3) := by decide +kernel
theorem dX7_readOnce_6 : decode cX7_readOnce 6 = .ok (.iload_n 1, 1) := by decide +kernel
theorem dX7_readOnce_7 : decode cX7_readOnce 7 = .ok (.bipush 77, 2) := by decide +kernel
theorem dX7_readOnce_9 : decode cX7_readOnce 9 = .ok (.if_icmp .eq 15, 3) := by decide +kernel
theorem dX7_readOnce_12 : decode cX7_readOnce 12 = .ok (.iload_n 1, 1) := by decide +kernel
theorem dX7_readOnce_13 : decode cX7_readOnce 13 = .ok (.bipush 70, 2) := by decide +kernel
theorem dX7_readOnce_15 : decode cX7_readOnce 15 = .ok (.if_icmp .eq 9, 3) := by decide +kernel
theorem dX7_readOnce_18 : decode cX7_readOnce 18 = .ok (.iload_n 1, 1) := by decide +kernel
theorem dX7_readOnce_19 : decode cX7_readOnce 19 = .ok (.bipush 82, 2) := by decide +kernel
theorem dX7_readOnce_21 : decode cX7_readOnce 21 = .ok (.if_icmp .ne 7, 3) := by decide +kernel
theorem dX7_readOnce_24 : decode cX7_readOnce 24 = .ok (.iconst 1, 1) := by decide +kernel
theorem dX7_readOnce_25 : decode cX7_readOnce 25 = .ok (.goto 4, 3) := by decide +kernel
theorem dX7_readOnce_28 : decode cX7_readOnce 28 = .ok (.iconst 0, 1) := by decide +kernel
theorem dX7_readOnce_29 : decode cX7_readOnce 29 = .ok (.istore_n 3, 1) := by decide +kernel
theorem dX7_readOnce_30 : decode cX7_readOnce 30 = .ok (.aload_n 0, 1) := by decide +kernel
theorem dX7_readOnce_31 : decode cX7_readOnce 31 = .ok (.iload_n 3, 1) := by decide +kernel
theorem dX7_readOnce_32 : decode cX7_readOnce 32 = .ok (.iload_n 2, 1) := by decide +kernel
theorem dX7_readOnce_33 : decode cX7_readOnce 33 = .ok (.invokevirtual 96, 3) := by decide +kernel
theorem dX7_readOnce_36 : decode cX7_readOnce 36 = .ok (.ifCond .eq 24, 3) := by decide +kernel
theorem dX7_readOnce_39 : decode cX7_readOnce 39 = .ok (.aload_n 0, 1) := by decide +kernel
theorem dX7_readOnce_40 : decode cX7_readOnce 40 = .ok (.aload_n 0, 1) := by decide +kernel
theorem dX7_readOnce_41 : decode cX7_readOnce 41 = .ok (.iload_n 1, 1) := by decide +kernel
theorem dX7_readOnce_42 : decode cX7_readOnce 42 = .ok (.invokevirtual 113, 3) := by decide +kernel
theorem dX7_readOnce_45 : decode cX7_readOnce 45 = .ok (.ifCond .ne 7, 3) := by decide +kernel
theorem dX7_readOnce_48 : decode cX7_readOnce 48 = .ok (.iconst 1, 1) := by decide +kernel
theorem dX7_readOnce_49 : decode cX7_readOnce 49 = .ok (.goto 4, 3) := by decide +kernel
theorem dX7_readOnce_52 : decode cX7_readOnce 52 = .ok (.iconst 0, 1) := by decide +kernel
theorem dX7_readOnce_53 : decode cX7_readOnce 53 = .ok (.iload_n 2, 1) := by decide +kernel
theorem dX7_readOnce_54 : decode cX7_readOnce 54 = .ok (.invokevirtual 96, 3) := by decide +kernel
theorem dX7_readOnce_57 : decode cX7_readOnce 57 = .ok (.ifCond .ne 4, 3) := by decide +kernel
theorem dX7_readOnce_60 : decode cX7_readOnce 60 = .ok (.return_, 1) := by decide +kernel
theorem dX7_readOnce_61 : decode cX7_readOnce 61 = .ok (.iload_n 1, 1) := by decide +kernel
theorem dX7_readOnce_62 : decode cX7_readOnce 62 = .ok (.bipush 77, 2) := by decide +kernel
theorem dX7_readOnce_64 : decode cX7_readOnce 64 = .ok (.if_icmp .eq 9, 3) := by decide +kernel
theorem dX7_readOnce_67 : decode cX7_readOnce 67 = .ok (.iload_n 1, 1) := by decide +kernel
theorem dX7_readOnce_68 : decode cX7_readOnce 68 = .ok (.bipush 82, 2) := by decide +kernel
theorem dX7_readOnce_70 : decode cX7_readOnce 70 = .ok (.if_icmp .ne 30, 3) := by decide +kernel
theorem dX7_readOnce_73 : decode cX7_readOnce 73 = .ok (.aload_n 0, 1) := by decide +kernel
theorem dX7_readOnce_74 : decode cX7_readOnce 74 = .ok (.iload_n 1, 1) := by decide +kernel
theorem dX7_readOnce_75 : decode cX7_readOnce 75 = .ok (.aload_n 0, 1) := by decide +kernel
theorem dX7_readOnce_76 : decode cX7_readOnce 76 = .ok (.iconst 1, 1) := by decide +kernel
theorem dX7_readOnce_77 : decode cX7_readOnce 77 = .ok (.iload_n 1, 1) := by decide +kernel
theorem dX7_readOnce_78 : decode cX7_readOnce 78 = .ok (.bipush 77, 2) := by decide +kernel
theorem dX7_readOnce_80 : decode cX7_readOnce 80 = .ok (.if_icmp .ne 8, 3) := by decide +kernel
theorem dX7_readOnce_83 : decode cX7_readOnce 83 = .ok (.ldc 124, 2) := by decide +kernel
theorem dX7_readOnce_85 : decode cX7_readOnce 85 = .ok (.goto 6, 3) := by decide +kernel
theorem dX7_readOnce_88 : decode cX7_readOnce 88 = .ok (.sipush 1000, 3) := by decide +kernel
theorem dX7_readOnce_91 : decode cX7_readOnce 91 = .ok (.invokevirtual 100, 3) := by decide +kernel
theorem dX7_readOnce_94 : decode cX7_readOnce 94 = .ok (.iconst 0, 1) := by decide +kernel
theorem dX7_readOnce_95 : decode cX7_readOnce 95 = .ok (.iconst 0, 1) := by decide +kernel
theorem dX7_readOnce_96 : decode cX7_readOnce 96 = .ok (.invokevirtual 117, 3) := by decide +kernel
theorem dX7_readOnce_99 : decode cX7_readOnce 99 = .ok (.return_, 1) := by decide +kernel
theorem dX7_readOnce_100 : decode cX7_readOnce 100 = .ok (.aload_n 0, 1) := by decide +kernel
theorem dX7_readOnce_101 : decode cX7_readOnce 101 = .ok (.iload_n 1, 1) := by decide +kernel
theorem dX7_readOnce_102 : decode cX7_readOnce 102 = .ok (.bipush 68, 2) := by decide +kernel
theorem dX7_readOnce_104 : decode cX7_readOnce 104 = .ok (.if_icmp .ne 7, 3) := by decide +kernel
theorem dX7_readOnce_107 : decode cX7_readOnce 107 = .ok (.iconst 1, 1) := by decide +kernel
theorem dX7_readOnce_108 : decode cX7_readOnce 108 = .ok (.goto 4, 3) := by decide +kernel
theorem dX7_readOnce_111 : decode cX7_readOnce 111 = .ok (.iconst 0, 1) := by decide +kernel
theorem dX7_readOnce_112 : decode cX7_readOnce 112 = .ok (.ldc 124, 2) := by decide +kernel
theorem dX7_readOnce_114 : decode cX7_readOnce 114 = .ok (.invokevirtual 100, 3) := by decide +kernel
theorem dX7_readOnce_117 : decode cX7_readOnce 117 = .ok (.istore 4, 2) := by decide +kernel
theorem dX7_readOnce_119 : decode cX7_readOnce 119 = .ok (.aload_n 0, 1) := by decide +kernel
theorem dX7_readOnce_120 : decode cX7_readOnce 120 = .ok (.getfield 85, 3) := by decide +kernel
theorem dX7_readOnce_123 : decode cX7_readOnce 123 = .ok (.iconst (-1), 1) := by decide +kernel
theorem dX7_readOnce_124 : decode cX7_readOnce 124 = .ok (.if_icmp .ne 24, 3) := by decide +kernel
theorem dX7_readOnce_127 : decode cX7_readOnce 127 = .ok (.aload_n 0, 1) := by decide +kernel
theorem dX7_readOnce_128 : decode cX7_readOnce 128 = .ok (.iload_n 1, 1) := by decide +kernel
theorem dX7_readOnce_129 : decode cX7_readOnce 129 = .ok (.bipush 68, 2) := by decide +kernel
theorem dX7_readOnce_131 : decode cX7_readOnce 131 = .ok (.if_icmp .ne 7, 3) := by decide +kernel
theorem dX7_readOnce_134 : decode cX7_readOnce 134 = .ok (.iconst 1, 1) := by decide +kernel
theorem dX7_readOnce_135 : decode cX7_readOnce 135 = .ok (.goto 5, 3) := by decide +kernel
theorem dX7_readOnce_138 : decode cX7_readOnce 138 = .ok (.iload 4, 2) := by decide +kernel
theorem dX7_readOnce_140 : decode cX7_readOnce 140 = .ok (.ldc 124, 2) := by decide +kernel
theorem dX7_readOnce_142 : decode cX7_readOnce 142 = .ok (.invokevirtual 125, 3) := by decide +kernel
theorem dX7_readOnce_145 : decode cX7_readOnce 145 = .ok (.goto 4, 3) := by decide +kernel
theorem dX7_readOnce_148 : decode cX7_readOnce 148 = .ok (.iconst 0, 1) := by decide +kernel
theorem dX7_readOnce_149 : decode cX7_readOnce 149 = .ok (.istore 5, 2) := by decide +kernel
theorem dX7_readOnce_151 : decode cX7_readOnce 151 = .ok (.aload_n 0, 1) := by decide +kernel
theorem dX7_readOnce_152 : decode cX7_readOnce 152 = .ok (.getfield 85, 3) := by decide +kernel
theorem dX7_readOnce_155 : decode cX7_readOnce 155 = .ok (.iconst (-1), 1) := by decide +kernel
theorem dX7_readOnce_156 : decode cX7_readOnce 156 = .ok (.if_icmp .ne 19, 3) := by decide +kernel
theorem dX7_readOnce_159 : decode cX7_readOnce 159 = .ok (.iload_n 1, 1) := by decide +kernel
theorem dX7_readOnce_160 : decode cX7_readOnce 160 = .ok (.bipush 68, 2) := by decide +kernel
theorem dX7_readOnce_162 : decode cX7_readOnce 162 = .ok (.if_icmp .ne 13, 3) := by decide +kernel
theorem dX7_readOnce_165 : decode cX7_readOnce 165 = .ok (.aload_n 0, 1) := by decide +kernel
theorem dX7_readOnce_166 : decode cX7_readOnce 166 = .ok (.iconst 1, 1) := by decide +kernel
theorem dX7_readOnce_167 : decode cX7_readOnce 167 = .ok (.ldc 124, 2) := by decide +kernel
theorem dX7_readOnce_169 : decode cX7_readOnce 169 = .ok (.invokevirtual 125, 3) := by decide +kernel
theorem dX7_readOnce_172 : decode cX7_readOnce 172 = .ok (.goto 4, 3) := by decide +kernel
theorem dX7_readOnce_175 : decode cX7_readOnce 175 = .ok (.iconst 0, 1) := by decide +kernel
theorem dX7_readOnce_176 : decode cX7_readOnce 176 = .ok (.istore 6, 2) := by decide +kernel
theorem dX7_readOnce_178 : decode cX7_readOnce 178 = .ok (.aload_n 0, 1) := by decide +kernel
theorem dX7_readOnce_179 : decode cX7_readOnce 179 = .ok (.iload_n 1, 1) := by decide +kernel
theorem dX7_readOnce_180 : decode cX7_readOnce 180 = .ok (.iload 4, 2) := by decide +kernel
theorem dX7_readOnce_182 : decode cX7_readOnce 182 = .ok (.iload 5, 2) := by decide +kernel
theorem dX7_readOnce_184 : decode cX7_readOnce 184 = .ok (.iload 6, 2) := by decide +kernel
theorem dX7_readOnce_186 : decode cX7_readOnce 186 = .ok (.invokevirtual 117, 3) := by decide +kernel
theorem dX7_readOnce_189 : decode cX7_readOnce 189 = .ok (.return_, 1) := by decide +kernel
theorem dX7_readRow_0 : decode cX7_readRow 0 = .ok (.aload_n 0, 1) := by decide +kernel
theorem dX7_readRow_1 : decode cX7_readRow 1 = .ok (.getfield 82, 3) := by decide +kernel
theorem dX7_readRow_4 : decode cX7_readRow 4 = .ok (.istore_n 1, 1) := by decide +kernel
theorem dX7_readRow_5 : decode cX7_readRow 5 = .ok (.aload_n 0, 1) := by decide +kernel
theorem dX7_readRow_6 : decode cX7_readRow 6 = .ok (.invokevirtual 88, 3) := by decide +kernel
theorem dX7_readRow_9 : decode cX7_readRow 9 = .ok (.istore_n 2, 1) := by decide +kernel
theorem dX7_readRow_10 : decode cX7_readRow 10 = .ok (.aload_n 0, 1) := by decide +kernel
theorem dX7_readRow_11 : decode cX7_readRow 11 = .ok (.iload_n 2, 1) := by decide +kernel
theorem dX7_readRow_12 : decode cX7_readRow 12 = .ok (.bipush 75, 2) := by decide +kernel
theorem dX7_readRow_14 : decode cX7_readRow 14 = .ok (.if_icmp .eq 11, 3) := by decide +kernel
theorem dX7_readRow_17 : decode cX7_readRow 17 = .ok (.aload_n 0, 1) := by decide +kernel
theorem dX7_readRow_18 : decode cX7_readRow 18 = .ok (.getfield 107, 3) := by decide +kernel
theorem dX7_readRow_21 : decode cX7_readRow 21 = .ok (.iconst (-1), 1) := by decide +kernel
theorem dX7_readRow_22 : decode cX7_readRow 22 = .ok (.if_icmp .eq 7, 3) := by decide +kernel
theorem dX7_readRow_25 : decode cX7_readRow 25 = .ok (.iconst 1, 1) := by decide +kernel
theorem dX7_readRow_26 : decode cX7_readRow 26 = .ok (.goto 4, 3) := by decide +kernel
theorem dX7_readRow_29 : decode cX7_readRow 29 = .ok (.iconst 0, 1) := by decide +kernel
theorem dX7_readRow_30 : decode cX7_readRow 30 = .ok (.iload_n 1, 1) := by decide +kernel
theorem dX7_readRow_31 : decode cX7_readRow 31 = .ok (.invokevirtual 96, 3) := by decide +kernel
theorem dX7_readRow_34 : decode cX7_readRow 34 = .ok (.ifCond .ne 4, 3) := by decide +kernel
theorem dX7_readRow_37 : decode cX7_readRow 37 = .ok (.return_, 1) := by decide +kernel
theorem dX7_readRow_38 : decode cX7_readRow 38 = .ok (.aload_n 0, 1) := by decide +kernel
theorem dX7_readRow_39 : decode cX7_readRow 39 = .ok (.dup, 1) := by decide +kernel
theorem dX7_readRow_40 : decode cX7_readRow 40 = .ok (.getfield 82, 3) := by decide +kernel
theorem dX7_readRow_43 : decode cX7_readRow 43 = .ok (.iconst 1, 1) := by decide +kernel
theorem dX7_readRow_44 : decode cX7_readRow 44 = .ok (.iadd, 1) := by decide +kernel
theorem dX7_readRow_45 : decode cX7_readRow 45 = .ok (.putfield 82, 3) := by decide +kernel
theorem dX7_readRow_48 : decode cX7_readRow 48 = .ok (.iload_n 2, 1) := by decide +kernel
theorem dX7_readRow_49 : decode cX7_readRow 49 = .ok (.bipush 75, 2) := by decide +kernel
theorem dX7_readRow_51 : decode cX7_readRow 51 = .ok (.if_icmp .ne 11, 3) := by decide +kernel
theorem dX7_readRow_54 : decode cX7_readRow 54 = .ok (.aload_n 0, 1) := by decide +kernel
theorem dX7_readRow_55 : decode cX7_readRow 55 = .ok (.iload_n 1, 1) := by decide +kernel
theorem dX7_readRow_56 : decode cX7_readRow 56 = .ok (.invokevirtual 135, 3) := by decide +kernel
theorem dX7_readRow_59 : decode cX7_readRow 59 = .ok (.goto 71, 3) := by decide +kernel
theorem dX7_readRow_62 : decode cX7_readRow 62 = .ok (.iload_n 2, 1) := by decide +kernel
theorem dX7_readRow_63 : decode cX7_readRow 63 = .ok (.bipush 83, 2) := by decide +kernel
theorem dX7_readRow_65 : decode cX7_readRow 65 = .ok (.if_icmp .ne 11, 3) := by decide +kernel
theorem dX7_readRow_68 : decode cX7_readRow 68 = .ok (.aload_n 0, 1) := by decide +kernel
theorem dX7_readRow_69 : decode cX7_readRow 69 = .ok (.iload_n 1, 1) := by decide +kernel
theorem dX7_readRow_70 : decode cX7_readRow 70 = .ok (.invokevirtual 139, 3) := by decide +kernel
theorem dX7_readRow_73 : decode cX7_readRow 73 = .ok (.goto 57, 3) := by decide +kernel
theorem dX7_readRow_76 : decode cX7_readRow 76 = .ok (.iload_n 2, 1) := by decide +kernel
theorem dX7_readRow_77 : decode cX7_readRow 77 = .ok (.bipush 90, 2) := by decide +kernel
theorem dX7_readRow_79 : decode cX7_readRow 79 = .ok (.if_icmp .eq 9, 3) := by decide +kernel
theorem dX7_readRow_82 : decode cX7_readRow 82 = .ok (.iload_n 2, 1) := by decide +kernel
theorem dX7_readRow_83 : decode cX7_readRow 83 = .ok (.bipush 88, 2) := by decide +kernel
theorem dX7_readRow_85 : decode cX7_readRow 85 = .ok (.if_icmp .ne 25, 3) := by decide +kernel
theorem dX7_readRow_88 : decode cX7_readRow 88 = .ok (.aload_n 0, 1) := by decide +kernel
theorem dX7_readRow_89 : decode cX7_readRow 89 = .ok (.iload_n 2, 1) := by decide +kernel
theorem dX7_readRow_90 : decode cX7_readRow 90 = .ok (.iload_n 2, 1) := by decide +kernel
theorem dX7_readRow_91 : decode cX7_readRow 91 = .ok (.bipush 90, 2) := by decide +kernel
theorem dX7_readRow_93 : decode cX7_readRow 93 = .ok (.if_icmp .ne 9, 3) := by decide +kernel
theorem dX7_readRow_96 : decode cX7_readRow 96 = .ok (.sipush 1000, 3) := by decide +kernel
theorem dX7_readRow_99 : decode cX7_readRow 99 = .ok (.goto 5, 3) := by decide +kernel
theorem dX7_readRow_102 : decode cX7_readRow 102 = .ok (.ldc 124, 2) := by decide +kernel
theorem dX7_readRow_104 : decode cX7_readRow 104 = .ok (.invokevirtual 142, 3) := by decide +kernel
theorem dX7_readRow_107 : decode cX7_readRow 107 = .ok (.goto 23, 3) := by decide +kernel
theorem dX7_readRow_110 : decode cX7_readRow 110 = .ok (.iload_n 2, 1) := by decide +kernel
theorem dX7_readRow_111 : decode cX7_readRow 111 = .ok (.bipush 69, 2) := by decide +kernel
theorem dX7_readRow_113 : decode cX7_readRow 113 = .ok (.if_icmp .ne 11, 3) := by decide +kernel
theorem dX7_readRow_116 : decode cX7_readRow 116 = .ok (.aload_n 0, 1) := by decide +kernel
theorem dX7_readRow_117 : decode cX7_readRow 117 = .ok (.iload_n 1, 1) := by decide +kernel
theorem dX7_readRow_118 : decode cX7_readRow 118 = .ok (.invokevirtual 146, 3) := by decide +kernel
theorem dX7_readRow_121 : decode cX7_readRow 121 = .ok (.goto 9, 3) := by decide +kernel
theorem dX7_readRow_124 : decode cX7_readRow 124 = .ok (.aload_n 0, 1) := by decide +kernel
theorem dX7_readRow_125 : decode cX7_readRow 125 = .ok (.iload_n 2, 1) := by decide +kernel
theorem dX7_readRow_126 : decode cX7_readRow 126 = .ok (.iload_n 1, 1) := by decide +kernel
theorem dX7_readRow_127 : decode cX7_readRow 127 = .ok (.invokevirtual 149, 3) := by decide +kernel
theorem dX7_readRow_130 : decode cX7_readRow 130 = .ok (.return_, 1) := by decide +kernel
theorem dX7_read_0 : decode cX7_read 0 = .ok (.aload_n 0, 1) := by decide +kernel
theorem dX7_read_1 : decode cX7_read 1 = .ok (.iconst 0, 1) := by decide +kernel
theorem dX7_read_2 : decode cX7_read 2 = .ok (.putfield 75, 3) := by decide +kernel
theorem dX7_read_5 : decode cX7_read 5 = .ok (.aload_n 0, 1) := by decide +kernel
theorem dX7_read_6 : decode cX7_read 6 = .ok (.iconst 0, 1) := by decide +kernel
theorem dX7_read_7 : decode cX7_read 7 = .ok (.putfield 82, 3) := by decide +kernel
theorem dX7_read_10 : decode cX7_read 10 = .ok (.aload_n 0, 1) := by decide +kernel
theorem dX7_read_11 : decode cX7_read 11 = .ok (.iconst (-1), 1) := by decide +kernel
theorem dX7_read_12 : decode cX7_read 12 = .ok (.putfield 85, 3) := by decide +kernel
theorem dX7_read_15 : decode cX7_read 15 = .ok (.aload_n 0, 1) := by decide +kernel
theorem dX7_read_16 : decode cX7_read 16 = .ok (.iconst (-1), 1) := by decide +kernel
theorem dX7_read_17 : decode cX7_read 17 = .ok (.putfield 107, 3) := by decide +kernel
theorem dX7_read_20 : decode cX7_read 20 = .ok (.aload_n 0, 1) := by decide +kernel
theorem dX7_read_21 : decode cX7_read 21 = .ok (.getfield 25, 3) := by decide +kernel
theorem dX7_read_24 : decode cX7_read 24 = .ok (.iconst 5, 1) := by decide +kernel
theorem dX7_read_25 : decode cX7_read 25 = .ok (.iconst 0, 1) := by decide +kernel
theorem dX7_read_26 : decode cX7_read 26 = .ok (.iastore, 1) := by decide +kernel
theorem dX7_read_27 : decode cX7_read 27 = .ok (.aload_n 0, 1) := by decide +kernel
theorem dX7_read_28 : decode cX7_read 28 = .ok (.getfield 85, 3) := by decide +kernel
theorem dX7_read_31 : decode cX7_read 31 = .ok (.iconst (-1), 1) := by decide +kernel
theorem dX7_read_32 : decode cX7_read 32 = .ok (.if_icmp .ne 100, 3) := by decide +kernel
theorem dX7_read_35 : decode cX7_read 35 = .ok (.aload_n 0, 1) := by decide +kernel
theorem dX7_read_36 : decode cX7_read 36 = .ok (.getfield 82, 3) := by decide +kernel
theorem dX7_read_39 : decode cX7_read 39 = .ok (.aload_n 0, 1) := by decide +kernel
theorem dX7_read_40 : decode cX7_read 40 = .ok (.getfield 79, 3) := by decide +kernel
theorem dX7_read_43 : decode cX7_read 43 = .ok (.if_icmp .ge 89, 3) := by decide +kernel
theorem dX7_read_46 : decode cX7_read 46 = .ok (.aload_n 0, 1) := by decide +kernel
theorem dX7_read_47 : decode cX7_read 47 = .ok (.invokevirtual 152, 3) := by decide +kernel
theorem dX7_read_50 : decode cX7_read 50 = .ok (.aload_n 0, 1) := by decide +kernel
theorem dX7_read_51 : decode cX7_read 51 = .ok (.getfield 85, 3) := by decide +kernel
theorem dX7_read_54 : decode cX7_read 54 = .ok (.iconst (-1), 1) := by decide +kernel
theorem dX7_read_55 : decode cX7_read 55 = .ok (.if_icmp .ne (-28), 3) := by decide +kernel
theorem dX7_read_58 : decode cX7_read 58 = .ok (.aload_n 0, 1) := by decide +kernel
theorem dX7_read_59 : decode cX7_read 59 = .ok (.getfield 82, 3) := by decide +kernel
theorem dX7_read_62 : decode cX7_read 62 = .ok (.aload_n 0, 1) := by decide +kernel
theorem dX7_read_63 : decode cX7_read 63 = .ok (.getfield 79, 3) := by decide +kernel
theorem dX7_read_66 : decode cX7_read 66 = .ok (.if_icmp .ge (-39), 3) := by decide +kernel
theorem dX7_read_69 : decode cX7_read 69 = .ok (.aload_n 0, 1) := by decide +kernel
theorem dX7_read_70 : decode cX7_read 70 = .ok (.aload_n 0, 1) := by decide +kernel
theorem dX7_read_71 : decode cX7_read 71 = .ok (.invokevirtual 88, 3) := by decide +kernel
theorem dX7_read_74 : decode cX7_read 74 = .ok (.bipush 59, 2) := by decide +kernel
theorem dX7_read_76 : decode cX7_read 76 = .ok (.if_icmp .ne 7, 3) := by decide +kernel
theorem dX7_read_79 : decode cX7_read 79 = .ok (.iconst 1, 1) := by decide +kernel
theorem dX7_read_80 : decode cX7_read 80 = .ok (.goto 4, 3) := by decide +kernel
theorem dX7_read_83 : decode cX7_read 83 = .ok (.iconst 0, 1) := by decide +kernel
theorem dX7_read_84 : decode cX7_read 84 = .ok (.aload_n 0, 1) := by decide +kernel
theorem dX7_read_85 : decode cX7_read 85 = .ok (.getfield 82, 3) := by decide +kernel
theorem dX7_read_88 : decode cX7_read 88 = .ok (.invokevirtual 96, 3) := by decide +kernel
theorem dX7_read_91 : decode cX7_read 91 = .ok (.ifCond .eq (-64), 3) := by decide +kernel
theorem dX7_read_94 : decode cX7_read 94 = .ok (.aload_n 0, 1) := by decide +kernel
theorem dX7_read_95 : decode cX7_read 95 = .ok (.dup, 1) := by decide +kernel
theorem dX7_read_96 : decode cX7_read 96 = .ok (.getfield 82, 3) := by decide +kernel
theorem dX7_read_99 : decode cX7_read 99 = .ok (.iconst 1, 1) := by decide +kernel
theorem dX7_read_100 : decode cX7_read 100 = .ok (.iadd, 1) := by decide +kernel
theorem dX7_read_101 : decode cX7_read 101 = .ok (.putfield 82, 3) := by decide +kernel
theorem dX7_read_104 : decode cX7_read 104 = .ok (.aload_n 0, 1) := by decide +kernel
theorem dX7_read_105 : decode cX7_read 105 = .ok (.aload_n 0, 1) := by decide +kernel
theorem dX7_read_106 : decode cX7_read 106 = .ok (.getfield 82, 3) := by decide +kernel
theorem dX7_read_109 : decode cX7_read 109 = .ok (.aload_n 0, 1) := by decide +kernel
theorem dX7_read_110 : decode cX7_read 110 = .ok (.getfield 79, 3) := by decide +kernel
theorem dX7_read_113 : decode cX7_read 113 = .ok (.if_icmp .ge 7, 3) := by decide +kernel
theorem dX7_read_116 : decode cX7_read 116 = .ok (.iconst 1, 1) := by decide +kernel
theorem dX7_read_117 : decode cX7_read 117 = .ok (.goto 4, 3) := by decide +kernel
theorem dX7_read_120 : decode cX7_read 120 = .ok (.iconst 0, 1) := by decide +kernel
theorem dX7_read_121 : decode cX7_read 121 = .ok (.aload_n 0, 1) := by decide +kernel
theorem dX7_read_122 : decode cX7_read 122 = .ok (.getfield 82, 3) := by decide +kernel
theorem dX7_read_125 : decode cX7_read 125 = .ok (.invokevirtual 96, 3) := by decide +kernel
theorem dX7_read_128 : decode cX7_read 128 = .ok (.pop, 1) := by decide +kernel
theorem dX7_read_129 : decode cX7_read 129 = .ok (.goto (-102), 3) := by decide +kernel
theorem dX7_read_132 : decode cX7_read 132 = .ok (.aload_n 0, 1) := by decide +kernel
theorem dX7_read_133 : decode cX7_read 133 = .ok (.getfield 85, 3) := by decide +kernel
theorem dX7_read_136 : decode cX7_read 136 = .ok (.iconst (-1), 1) := by decide +kernel
theorem dX7_read_137 : decode cX7_read 137 = .ok (.if_icmp .ne 34, 3) := by decide +kernel
theorem dX7_read_140 : decode cX7_read 140 = .ok (.aload_n 0, 1) := by decide +kernel
theorem dX7_read_141 : decode cX7_read 141 = .ok (.getfield 107, 3) := by decide +kernel
theorem dX7_read_144 : decode cX7_read 144 = .ok (.iconst (-1), 1) := by decide +kernel
theorem dX7_read_145 : decode cX7_read 145 = .ok (.if_icmp .eq 26, 3) := by decide +kernel
theorem dX7_read_148 : decode cX7_read 148 = .ok (.aload_n 0, 1) := by decide +kernel
theorem dX7_read_149 : decode cX7_read 149 = .ok (.aload_n 0, 1) := by decide +kernel
theorem dX7_read_150 : decode cX7_read 150 = .ok (.bipush 83, 2) := by decide +kernel
theorem dX7_read_152 : decode cX7_read 152 = .ok (.invokevirtual 113, 3) := by decide +kernel
theorem dX7_read_155 : decode cX7_read 155 = .ok (.ifCond .le 7, 3) := by decide +kernel
theorem dX7_read_158 : decode cX7_read 158 = .ok (.iconst 1, 1) := by decide +kernel
theorem dX7_read_159 : decode cX7_read 159 = .ok (.goto 4, 3) := by decide +kernel
theorem dX7_read_162 : decode cX7_read 162 = .ok (.iconst 0, 1) := by decide +kernel
theorem dX7_read_163 : decode cX7_read 163 = .ok (.aload_n 0, 1) := by decide +kernel
theorem dX7_read_164 : decode cX7_read 164 = .ok (.getfield 79, 3) := by decide +kernel
theorem dX7_read_167 : decode cX7_read 167 = .ok (.invokevirtual 96, 3) := by decide +kernel
theorem dX7_read_170 : decode cX7_read 170 = .ok (.pop, 1) := by decide +kernel
theorem dX7_read_171 : decode cX7_read 171 = .ok (.aload_n 0, 1) := by decide +kernel
theorem dX7_read_172 : decode cX7_read 172 = .ok (.iconst 0, 1) := by decide +kernel
theorem dX7_read_173 : decode cX7_read 173 = .ok (.putfield 79, 3) := by decide +kernel
theorem dX7_read_176 : decode cX7_read 176 = .ok (.aload_n 0, 1) := by decide +kernel
theorem dX7_read_177 : decode cX7_read 177 = .ok (.getfield 85, 3) := by decide +kernel
theorem dX7_read_180 : decode cX7_read 180 = .ok (.iconst (-1), 1) := by decide +kernel
theorem dX7_read_181 : decode cX7_read 181 = .ok (.if_icmp .eq 10, 3) := by decide +kernel
theorem dX7_read_184 : decode cX7_read 184 = .ok (.iconst (-1), 1) := by decide +kernel
theorem dX7_read_185 : decode cX7_read 185 = .ok (.aload_n 0, 1) := by decide +kernel
theorem dX7_read_186 : decode cX7_read 186 = .ok (.getfield 85, 3) := by decide +kernel
theorem dX7_read_189 : decode cX7_read 189 = .ok (.isub, 1) := by decide +kernel
theorem dX7_read_190 : decode cX7_read 190 = .ok (.ireturn, 1) := by decide +kernel
theorem dX7_read_191 : decode cX7_read 191 = .ok (.aload_n 0, 1) := by decide +kernel
theorem dX7_read_192 : decode cX7_read 192 = .ok (.getfield 155, 3) := by decide +kernel
theorem dX7_read_195 : decode cX7_read 195 = .ok (.iconst 5, 1) := by decide +kernel
theorem dX7_read_196 : decode cX7_read 196 = .ok (.if_icmp .ne 6, 3) := by decide +kernel
theorem dX7_read_199 : decode cX7_read 199 = .ok (.ldc 158, 2) := by decide +kernel
theorem dX7_read_201 : decode cX7_read 201 = .ok (.ireturn, 1) := by decide +kernel
theorem dX7_read_202 : decode cX7_read 202 = .ok (.iconst 0, 1) := by decide +kernel
theorem dX7_read_203 : decode cX7_read 203 = .ok (.istore_n 1, 1) := by decide +kernel
theorem dX7_read_204 : decode cX7_read 204 = .ok (.iload_n 1, 1) := by decide +kernel
theorem dX7_read_205 : decode cX7_read 205 = .ok (.aload_n 0, 1) := by decide +kernel
theorem dX7_read_206 : decode cX7_read 206 = .ok (.getfield 25, 3) := by decide +kernel
theorem dX7_read_209 : decode cX7_read 209 = .ok (.iconst 5, 1) := by decide +kernel
theorem dX7_read_210 : decode cX7_read 210 = .ok (.iaload, 1) := by decide +kernel
theorem dX7_read_211 : decode cX7_read 211 = .ok (.if_icmp .ge 75, 3) := by decide +kernel
theorem dX7_read_214 : decode cX7_read 214 = .ok (.aload_n 0, 1) := by decide +kernel
theorem dX7_read_215 : decode cX7_read 215 = .ok (.invokevirtual 104, 3) := by decide +kernel
theorem dX7_read_218 : decode cX7_read 218 = .ok (.iload_n 1, 1) := by decide +kernel
theorem dX7_read_219 : decode cX7_read 219 = .ok (.iadd, 1) := by decide +kernel
theorem dX7_read_220 : decode cX7_read 220 = .ok (.istore_n 2, 1) := by decide +kernel
theorem dX7_read_221 : decode cX7_read 221 = .ok (.sipush 520, 3) := by decide +kernel
theorem dX7_read_224 : decode cX7_read 224 = .ok (.aload_n 0, 1) := by decide +kernel
theorem dX7_read_225 : decode cX7_read 225 = .ok (.getfield 155, 3) := by decide +kernel
theorem dX7_read_228 : decode cX7_read 228 = .ok (.imul, 1) := by decide +kernel
theorem dX7_read_229 : decode cX7_read 229 = .ok (.iload_n 1, 1) := by decide +kernel
theorem dX7_read_230 : decode cX7_read 230 = .ok (.iadd, 1) := by decide +kernel
theorem dX7_read_231 : decode cX7_read 231 = .ok (.istore_n 3, 1) := by decide +kernel
theorem dX7_read_232 : decode cX7_read 232 = .ok (.aload_n 0, 1) := by decide +kernel
theorem dX7_read_233 : decode cX7_read 233 = .ok (.getfield 13, 3) := by decide +kernel
theorem dX7_read_236 : decode cX7_read 236 = .ok (.iload_n 3, 1) := by decide +kernel
theorem dX7_read_237 : decode cX7_read 237 = .ok (.aload_n 0, 1) := by decide +kernel
theorem dX7_read_238 : decode cX7_read 238 = .ok (.getfield 13, 3) := by decide +kernel
theorem dX7_read_241 : decode cX7_read 241 = .ok (.iload_n 2, 1) := by decide +kernel
theorem dX7_read_242 : decode cX7_read 242 = .ok (.iaload, 1) := by decide +kernel
theorem dX7_read_243 : decode cX7_read 243 = .ok (.iastore, 1) := by decide +kernel
theorem dX7_read_244 : decode cX7_read 244 = .ok (.aload_n 0, 1) := by decide +kernel
theorem dX7_read_245 : decode cX7_read 245 = .ok (.getfield 16, 3) := by decide +kernel
theorem dX7_read_248 : decode cX7_read 248 = .ok (.iload_n 3, 1) := by decide +kernel
theorem dX7_read_249 : decode cX7_read 249 = .ok (.aload_n 0, 1) := by decide +kernel
theorem dX7_read_250 : decode cX7_read 250 = .ok (.getfield 16, 3) := by decide +kernel
theorem dX7_read_253 : decode cX7_read 253 = .ok (.iload_n 2, 1) := by decide +kernel
theorem dX7_read_254 : decode cX7_read 254 = .ok (.iaload, 1) := by decide +kernel
theorem dX7_read_255 : decode cX7_read 255 = .ok (.iastore, 1) := by decide +kernel
theorem dX7_read_256 : decode cX7_read 256 = .ok (.aload_n 0, 1) := by decide +kernel
theorem dX7_read_257 : decode cX7_read 257 = .ok (.getfield 19, 3) := by decide +kernel
theorem dX7_read_260 : decode cX7_read 260 = .ok (.iload_n 3, 1) := by decide +kernel
theorem dX7_read_261 : decode cX7_read 261 = .ok (.aload_n 0, 1) := by decide +kernel
theorem dX7_read_262 : decode cX7_read 262 = .ok (.getfield 19, 3) := by decide +kernel
theorem dX7_read_265 : decode cX7_read 265 = .ok (.iload_n 2, 1) := by decide +kernel
theorem dX7_read_266 : decode cX7_read 266 = .ok (.iaload, 1) := by decide +kernel
theorem dX7_read_267 : decode cX7_read 267 = .ok (.iastore, 1) := by decide +kernel
theorem dX7_read_268 : decode cX7_read 268 = .ok (.aload_n 0, 1) := by decide +kernel
theorem dX7_read_269 : decode cX7_read 269 = .ok (.getfield 22, 3) := by decide +kernel
theorem dX7_read_272 : decode cX7_read 272 = .ok (.iload_n 3, 1) := by decide +kernel
theorem dX7_read_273 : decode cX7_read 273 = .ok (.aload_n 0, 1) := by decide +kernel
theorem dX7_read_274 : decode cX7_read 274 = .ok (.getfield 22, 3) := by decide +kernel
theorem dX7_read_277 : decode cX7_read 277 = .ok (.iload_n 2, 1) := by decide +kernel
theorem dX7_read_278 : decode cX7_read 278 = .ok (.iaload, 1) := by decide +kernel
theorem dX7_read_279 : decode cX7_read 279 = .ok (.iastore, 1) := by decide +kernel
theorem dX7_read_280 : decode cX7_read 280 = .ok (.iinc 1 1, 3) := by decide +kernel
theorem dX7_read_283 : decode cX7_read 283 = .ok (.goto (-79), 3) := by decide +kernel
theorem dX7_read_286 : decode cX7_read 286 = .ok (.aload_n 0, 1) := by decide +kernel
theorem dX7_read_287 : decode cX7_read 287 = .ok (.getfield 25, 3) := by decide +kernel
theorem dX7_read_290 : decode cX7_read 290 = .ok (.aload_n 0, 1) := by decide +kernel
theorem dX7_read_291 : decode cX7_read 291 = .ok (.getfield 155, 3) := by decide +kernel
theorem dX7_read_294 : decode cX7_read 294 = .ok (.aload_n 0, 1) := by decide +kernel
theorem dX7_read_295 : decode cX7_read 295 = .ok (.getfield 25, 3) := by decide +kernel
theorem dX7_read_298 : decode cX7_read 298 = .ok (.iconst 5, 1) := by decide +kernel
theorem dX7_read_299 : decode cX7_read 299 = .ok (.iaload, 1) := by decide +kernel
theorem dX7_read_300 : decode cX7_read 300 = .ok (.iastore, 1) := by decide +kernel
theorem dX7_read_301 : decode cX7_read 301 = .ok (.aload_n 0, 1) := by decide +kernel
theorem dX7_read_302 : decode cX7_read 302 = .ok (.dup, 1) := by decide +kernel
theorem dX7_read_303 : decode cX7_read 303 = .ok (.getfield 155, 3) := by decide +kernel
theorem dX7_read_306 : decode cX7_read 306 = .ok (.iconst 1, 1) := by decide +kernel
theorem dX7_read_307 : decode cX7_read 307 = .ok (.iadd, 1) := by decide +kernel
theorem dX7_read_308 : decode cX7_read 308 = .ok (.putfield 155, 3) := by decide +kernel
theorem dX7_read_311 : decode cX7_read 311 = .ok (.aload_n 0, 1) := by decide +kernel
theorem dX7_read_312 : decode cX7_read 312 = .ok (.getfield 25, 3) := by decide +kernel
theorem dX7_read_315 : decode cX7_read 315 = .ok (.iconst 5, 1) := by decide +kernel
theorem dX7_read_316 : decode cX7_read 316 = .ok (.iaload, 1) := by decide +kernel
theorem dX7_read_317 : decode cX7_read 317 = .ok (.ireturn, 1) := by decide +kernel
theorem dX7_kindRow_0 : decode cX7_kindRow 0 = .ok (.iconst (-1), 1) := by decide +kernel
theorem dX7_kindRow_1 : decode cX7_kindRow 1 = .ok (.istore_n 3, 1) := by decide +kernel
theorem dX7_kindRow_2 : decode cX7_kindRow 2 = .ok (.sipush 520, 3) := by decide +kernel
theorem dX7_kindRow_5 : decode cX7_kindRow 5 = .ok (.iload_n 1, 1) := by decide +kernel
theorem dX7_kindRow_6 : decode cX7_kindRow 6 = .ok (.imul, 1) := by decide +kernel
theorem dX7_kindRow_7 : decode cX7_kindRow 7 = .ok (.istore 4, 2) := by decide +kernel
theorem dX7_kindRow_9 : decode cX7_kindRow 9 = .ok (.iload 4, 2) := by decide +kernel
theorem dX7_kindRow_11 : decode cX7_kindRow 11 = .ok (.sipush 520, 3) := by decide +kernel
theorem dX7_kindRow_14 : decode cX7_kindRow 14 = .ok (.iload_n 1, 1) := by decide +kernel
theorem dX7_kindRow_15 : decode cX7_kindRow 15 = .ok (.imul, 1) := by decide +kernel
theorem dX7_kindRow_16 : decode cX7_kindRow 16 = .ok (.aload_n 0, 1) := by decide +kernel
theorem dX7_kindRow_17 : decode cX7_kindRow 17 = .ok (.getfield 25, 3) := by decide +kernel
theorem dX7_kindRow_20 : decode cX7_kindRow 20 = .ok (.iload_n 1, 1) := by decide +kernel
theorem dX7_kindRow_21 : decode cX7_kindRow 21 = .ok (.iaload, 1) := by decide +kernel
theorem dX7_kindRow_22 : decode cX7_kindRow 22 = .ok (.iadd, 1) := by decide +kernel
theorem dX7_kindRow_23 : decode cX7_kindRow 23 = .ok (.if_icmp .ge 39, 3) := by decide +kernel
theorem dX7_kindRow_26 : decode cX7_kindRow 26 = .ok (.aload_n 0, 1) := by decide +kernel
theorem dX7_kindRow_27 : decode cX7_kindRow 27 = .ok (.getfield 13, 3) := by decide +kernel
theorem dX7_kindRow_30 : decode cX7_kindRow 30 = .ok (.iload 4, 2) := by decide +kernel
theorem dX7_kindRow_32 : decode cX7_kindRow 32 = .ok (.iaload, 1) := by decide +kernel
theorem dX7_kindRow_33 : decode cX7_kindRow 33 = .ok (.bipush 75, 2) := by decide +kernel
theorem dX7_kindRow_35 : decode cX7_kindRow 35 = .ok (.if_icmp .ne 19, 3) := by decide +kernel
theorem dX7_kindRow_38 : decode cX7_kindRow 38 = .ok (.aload_n 0, 1) := by decide +kernel
theorem dX7_kindRow_39 : decode cX7_kindRow 39 = .ok (.getfield 16, 3) := by decide +kernel
theorem dX7_kindRow_42 : decode cX7_kindRow 42 = .ok (.iload 4, 2) := by decide +kernel
theorem dX7_kindRow_44 : decode cX7_kindRow 44 = .ok (.iaload, 1) := by decide +kernel
theorem dX7_kindRow_45 : decode cX7_kindRow 45 = .ok (.iload_n 2, 1) := by decide +kernel
theorem dX7_kindRow_46 : decode cX7_kindRow 46 = .ok (.if_icmp .ne 8, 3) := by decide +kernel
theorem dX7_kindRow_49 : decode cX7_kindRow 49 = .ok (.iload 4, 2) := by decide +kernel
theorem dX7_kindRow_51 : decode cX7_kindRow 51 = .ok (.goto 4, 3) := by decide +kernel
theorem dX7_kindRow_54 : decode cX7_kindRow 54 = .ok (.iload_n 3, 1) := by decide +kernel
theorem dX7_kindRow_55 : decode cX7_kindRow 55 = .ok (.istore_n 3, 1) := by decide +kernel
theorem dX7_kindRow_56 : decode cX7_kindRow 56 = .ok (.iinc 4 1, 3) := by decide +kernel
theorem dX7_kindRow_59 : decode cX7_kindRow 59 = .ok (.goto (-50), 3) := by decide +kernel
theorem dX7_kindRow_62 : decode cX7_kindRow 62 = .ok (.iload_n 3, 1) := by decide +kernel
theorem dX7_kindRow_63 : decode cX7_kindRow 63 = .ok (.ireturn, 1) := by decide +kernel
theorem dX7_kindEnd_0 : decode cX7_kindEnd 0 = .ok (.iload_n 2, 1) := by decide +kernel
theorem dX7_kindEnd_1 : decode cX7_kindEnd 1 = .ok (.iconst 1, 1) := by decide +kernel
theorem dX7_kindEnd_2 : decode cX7_kindEnd 2 = .ok (.iadd, 1) := by decide +kernel
theorem dX7_kindEnd_3 : decode cX7_kindEnd 3 = .ok (.istore_n 3, 1) := by decide +kernel
theorem dX7_kindEnd_4 : decode cX7_kindEnd 4 = .ok (.iload_n 3, 1) := by decide +kernel
theorem dX7_kindEnd_5 : decode cX7_kindEnd 5 = .ok (.sipush 520, 3) := by decide +kernel
theorem dX7_kindEnd_8 : decode cX7_kindEnd 8 = .ok (.iload_n 1, 1) := by decide +kernel
theorem dX7_kindEnd_9 : decode cX7_kindEnd 9 = .ok (.imul, 1) := by decide +kernel
theorem dX7_kindEnd_10 : decode cX7_kindEnd 10 = .ok (.aload_n 0, 1) := by decide +kernel
theorem dX7_kindEnd_11 : decode cX7_kindEnd 11 = .ok (.getfield 25, 3) := by decide +kernel
theorem dX7_kindEnd_14 : decode cX7_kindEnd 14 = .ok (.iload_n 1, 1) := by decide +kernel
theorem dX7_kindEnd_15 : decode cX7_kindEnd 15 = .ok (.iaload, 1) := by decide +kernel
theorem dX7_kindEnd_16 : decode cX7_kindEnd 16 = .ok (.iadd, 1) := by decide +kernel
theorem dX7_kindEnd_17 : decode cX7_kindEnd 17 = .ok (.if_icmp .ge 20, 3) := by decide +kernel
theorem dX7_kindEnd_20 : decode cX7_kindEnd 20 = .ok (.aload_n 0, 1) := by decide +kernel
theorem dX7_kindEnd_21 : decode cX7_kindEnd 21 = .ok (.getfield 13, 3) := by decide +kernel
theorem dX7_kindEnd_24 : decode cX7_kindEnd 24 = .ok (.iload_n 3, 1) := by decide +kernel
theorem dX7_kindEnd_25 : decode cX7_kindEnd 25 = .ok (.iaload, 1) := by decide +kernel
theorem dX7_kindEnd_26 : decode cX7_kindEnd 26 = .ok (.bipush 75, 2) := by decide +kernel
theorem dX7_kindEnd_28 : decode cX7_kindEnd 28 = .ok (.if_icmp .eq 9, 3) := by decide +kernel
theorem dX7_kindEnd_31 : decode cX7_kindEnd 31 = .ok (.iinc 3 1, 3) := by decide +kernel
theorem dX7_kindEnd_34 : decode cX7_kindEnd 34 = .ok (.goto (-30), 3) := by decide +kernel
theorem dX7_kindEnd_37 : decode cX7_kindEnd 37 = .ok (.iload_n 3, 1) := by decide +kernel
theorem dX7_kindEnd_38 : decode cX7_kindEnd 38 = .ok (.ireturn, 1) := by decide +kernel
theorem dX7_rowOf_0 : decode cX7_rowOf 0 = .ok (.iconst (-1), 1) := by decide +kernel
theorem dX7_rowOf_1 : decode cX7_rowOf 1 = .ok (.istore 5, 2) := by decide +kernel
theorem dX7_rowOf_3 : decode cX7_rowOf 3 = .ok (.iload_n 1, 1) := by decide +kernel
theorem dX7_rowOf_4 : decode cX7_rowOf 4 = .ok (.istore 6, 2) := by decide +kernel
theorem dX7_rowOf_6 : decode cX7_rowOf 6 = .ok (.iload 6, 2) := by decide +kernel
theorem dX7_rowOf_8 : decode cX7_rowOf 8 = .ok (.iload_n 2, 1) := by decide +kernel
theorem dX7_rowOf_9 : decode cX7_rowOf 9 = .ok (.if_icmp .ge 41, 3) := by decide +kernel
theorem dX7_rowOf_12 : decode cX7_rowOf 12 = .ok (.aload_n 0, 1) := by decide +kernel
theorem dX7_rowOf_13 : decode cX7_rowOf 13 = .ok (.getfield 13, 3) := by decide +kernel
theorem dX7_rowOf_16 : decode cX7_rowOf 16 = .ok (.iload 6, 2) := by decide +kernel
theorem dX7_rowOf_18 : decode cX7_rowOf 18 = .ok (.iaload, 1) := by decide +kernel
theorem dX7_rowOf_19 : decode cX7_rowOf 19 = .ok (.iload_n 3, 1) := by decide +kernel
theorem dX7_rowOf_20 : decode cX7_rowOf 20 = .ok (.if_icmp .ne 20, 3) := by decide +kernel
theorem dX7_rowOf_23 : decode cX7_rowOf 23 = .ok (.aload_n 0, 1) := by decide +kernel
theorem dX7_rowOf_24 : decode cX7_rowOf 24 = .ok (.getfield 16, 3) := by decide +kernel
theorem dX7_rowOf_27 : decode cX7_rowOf 27 = .ok (.iload 6, 2) := by decide +kernel
theorem dX7_rowOf_29 : decode cX7_rowOf 29 = .ok (.iaload, 1) := by decide +kernel
theorem dX7_rowOf_30 : decode cX7_rowOf 30 = .ok (.iload 4, 2) := by decide +kernel
theorem dX7_rowOf_32 : decode cX7_rowOf 32 = .ok (.if_icmp .ne 8, 3) := by decide +kernel
theorem dX7_rowOf_35 : decode cX7_rowOf 35 = .ok (.iload 6, 2) := by decide +kernel
theorem dX7_rowOf_37 : decode cX7_rowOf 37 = .ok (.goto 5, 3) := by decide +kernel
theorem dX7_rowOf_40 : decode cX7_rowOf 40 = .ok (.iload 5, 2) := by decide +kernel
theorem dX7_rowOf_42 : decode cX7_rowOf 42 = .ok (.istore 5, 2) := by decide +kernel
theorem dX7_rowOf_44 : decode cX7_rowOf 44 = .ok (.iinc 6 1, 3) := by decide +kernel
theorem dX7_rowOf_47 : decode cX7_rowOf 47 = .ok (.goto (-41), 3) := by decide +kernel
theorem dX7_rowOf_50 : decode cX7_rowOf 50 = .ok (.iload 5, 2) := by decide +kernel
theorem dX7_rowOf_52 : decode cX7_rowOf 52 = .ok (.ireturn, 1) := by decide +kernel
theorem dX7_onlyRow_0 : decode cX7_onlyRow 0 = .ok (.iconst (-1), 1) := by decide +kernel
theorem dX7_onlyRow_1 : decode cX7_onlyRow 1 = .ok (.istore 4, 2) := by decide +kernel
theorem dX7_onlyRow_3 : decode cX7_onlyRow 3 = .ok (.iload_n 1, 1) := by decide +kernel
theorem dX7_onlyRow_4 : decode cX7_onlyRow 4 = .ok (.istore 5, 2) := by decide +kernel
theorem dX7_onlyRow_6 : decode cX7_onlyRow 6 = .ok (.iload 5, 2) := by decide +kernel
theorem dX7_onlyRow_8 : decode cX7_onlyRow 8 = .ok (.iload_n 2, 1) := by decide +kernel
theorem dX7_onlyRow_9 : decode cX7_onlyRow 9 = .ok (.if_icmp .ge 29, 3) := by decide +kernel
theorem dX7_onlyRow_12 : decode cX7_onlyRow 12 = .ok (.aload_n 0, 1) := by decide +kernel
theorem dX7_onlyRow_13 : decode cX7_onlyRow 13 = .ok (.getfield 13, 3) := by decide +kernel
theorem dX7_onlyRow_16 : decode cX7_onlyRow 16 = .ok (.iload 5, 2) := by decide +kernel
theorem dX7_onlyRow_18 : decode cX7_onlyRow 18 = .ok (.iaload, 1) := by decide +kernel
theorem dX7_onlyRow_19 : decode cX7_onlyRow 19 = .ok (.iload_n 3, 1) := by decide +kernel
theorem dX7_onlyRow_20 : decode cX7_onlyRow 20 = .ok (.if_icmp .ne 8, 3) := by decide +kernel
theorem dX7_onlyRow_23 : decode cX7_onlyRow 23 = .ok (.iload 5, 2) := by decide +kernel
theorem dX7_onlyRow_25 : decode cX7_onlyRow 25 = .ok (.goto 5, 3) := by decide +kernel
theorem dX7_onlyRow_28 : decode cX7_onlyRow 28 = .ok (.iload 4, 2) := by decide +kernel
theorem dX7_onlyRow_30 : decode cX7_onlyRow 30 = .ok (.istore 4, 2) := by decide +kernel
theorem dX7_onlyRow_32 : decode cX7_onlyRow 32 = .ok (.iinc 5 1, 3) := by decide +kernel
theorem dX7_onlyRow_35 : decode cX7_onlyRow 35 = .ok (.goto (-29), 3) := by decide +kernel
theorem dX7_onlyRow_38 : decode cX7_onlyRow 38 = .ok (.iload 4, 2) := by decide +kernel
theorem dX7_onlyRow_40 : decode cX7_onlyRow 40 = .ok (.ireturn, 1) := by decide +kernel
theorem dX7_in_0 : decode cX7_in 0 = .ok (.lload_n 0, 1) := by decide +kernel
theorem dX7_in_1 : decode cX7_in 1 = .ok (.lload_n 2, 1) := by decide +kernel
theorem dX7_in_2 : decode cX7_in 2 = .ok (.lcmp, 1) := by decide +kernel
theorem dX7_in_3 : decode cX7_in 3 = .ok (.ifCond .lt 14, 3) := by decide +kernel
theorem dX7_in_6 : decode cX7_in 6 = .ok (.lload_n 0, 1) := by decide +kernel
theorem dX7_in_7 : decode cX7_in 7 = .ok (.lload 4, 2) := by decide +kernel
theorem dX7_in_9 : decode cX7_in 9 = .ok (.lcmp, 1) := by decide +kernel
theorem dX7_in_10 : decode cX7_in 10 = .ok (.ifCond .gt 7, 3) := by decide +kernel
theorem dX7_in_13 : decode cX7_in 13 = .ok (.iconst 1, 1) := by decide +kernel
theorem dX7_in_14 : decode cX7_in 14 = .ok (.goto 4, 3) := by decide +kernel
theorem dX7_in_17 : decode cX7_in 17 = .ok (.iconst 0, 1) := by decide +kernel
theorem dX7_in_18 : decode cX7_in 18 = .ok (.ireturn, 1) := by decide +kernel
theorem dX7_item_0 : decode cX7_item 0 = .ok (.aload_n 0, 1) := by decide +kernel
theorem dX7_item_1 : decode cX7_item 1 = .ok (.iconst 0, 1) := by decide +kernel
theorem dX7_item_2 : decode cX7_item 2 = .ok (.putfield 75, 3) := by decide +kernel
theorem dX7_item_5 : decode cX7_item 5 = .ok (.iload_n 1, 1) := by decide +kernel
theorem dX7_item_6 : decode cX7_item 6 = .ok (.i2l, 1) := by decide +kernel
theorem dX7_item_7 : decode cX7_item 7 = .ok (.lconst 0, 1) := by decide +kernel
theorem dX7_item_8 : decode cX7_item 8 = .ok (.ldc2_w 159, 3) := by decide +kernel
theorem dX7_item_11 : decode cX7_item 11 = .ok (.invokestatic 161, 3) := by decide +kernel
theorem dX7_item_14 : decode cX7_item 14 = .ok (.ifCond .eq 53, 3) := by decide +kernel
theorem dX7_item_17 : decode cX7_item 17 = .ok (.iload_n 2, 1) := by decide +kernel
theorem dX7_item_18 : decode cX7_item 18 = .ok (.i2l, 1) := by decide +kernel
theorem dX7_item_19 : decode cX7_item 19 = .ok (.lconst 1, 1) := by decide +kernel
theorem dX7_item_20 : decode cX7_item 20 = .ok (.ldc2_w 165, 3) := by decide +kernel
theorem dX7_item_23 : decode cX7_item 23 = .ok (.invokestatic 161, 3) := by decide +kernel
theorem dX7_item_26 : decode cX7_item 26 = .ok (.ifCond .eq 41, 3) := by decide +kernel
theorem dX7_item_29 : decode cX7_item 29 = .ok (.iload_n 3, 1) := by decide +kernel
theorem dX7_item_30 : decode cX7_item 30 = .ok (.i2l, 1) := by decide +kernel
theorem dX7_item_31 : decode cX7_item 31 = .ok (.lconst 1, 1) := by decide +kernel
theorem dX7_item_32 : decode cX7_item 32 = .ok (.ldc2_w 165, 3) := by decide +kernel
theorem dX7_item_35 : decode cX7_item 35 = .ok (.invokestatic 161, 3) := by decide +kernel
theorem dX7_item_38 : decode cX7_item 38 = .ok (.ifCond .eq 29, 3) := by decide +kernel
theorem dX7_item_41 : decode cX7_item 41 = .ok (.iload 4, 2) := by decide +kernel
theorem dX7_item_43 : decode cX7_item 43 = .ok (.i2l, 1) := by decide +kernel
theorem dX7_item_44 : decode cX7_item 44 = .ok (.lconst 1, 1) := by decide +kernel
theorem dX7_item_45 : decode cX7_item 45 = .ok (.ldc2_w 165, 3) := by decide +kernel
theorem dX7_item_48 : decode cX7_item 48 = .ok (.invokestatic 161, 3) := by decide +kernel
theorem dX7_item_51 : decode cX7_item 51 = .ok (.ifCond .eq 16, 3) := by decide +kernel
theorem dX7_item_54 : decode cX7_item 54 = .ok (.iload 5, 2) := by decide +kernel
theorem dX7_item_56 : decode cX7_item 56 = .ok (.i2l, 1) := by decide +kernel
theorem dX7_item_57 : decode cX7_item 57 = .ok (.lconst 1, 1) := by decide +kernel
theorem dX7_item_58 : decode cX7_item 58 = .ok (.ldc2_w 165, 3) := by decide +kernel
theorem dX7_item_61 : decode cX7_item 61 = .ok (.invokestatic 161, 3) := by decide +kernel
theorem dX7_item_64 : decode cX7_item 64 = .ok (.ifCond .ne 6, 3) := by decide +kernel
theorem dX7_item_67 : decode cX7_item 67 = .ok (.ldc 167, 2) := by decide +kernel
theorem dX7_item_69 : decode cX7_item 69 = .ok (.ireturn, 1) := by decide +kernel
theorem dX7_item_70 : decode cX7_item 70 = .ok (.aload_n 0, 1) := by decide +kernel
theorem dX7_item_71 : decode cX7_item 71 = .ok (.getfield 168, 3) := by decide +kernel
theorem dX7_item_74 : decode cX7_item 74 = .ok (.bipush 100, 2) := by decide +kernel
theorem dX7_item_76 : decode cX7_item 76 = .ok (.if_icmp .ne 6, 3) := by decide +kernel
theorem dX7_item_79 : decode cX7_item 79 = .ok (.ldc 158, 2) := by decide +kernel
theorem dX7_item_81 : decode cX7_item 81 = .ok (.ireturn, 1) := by decide +kernel
theorem dX7_item_82 : decode cX7_item 82 = .ok (.aload_n 0, 1) := by decide +kernel
theorem dX7_item_83 : decode cX7_item 83 = .ok (.getfield 28, 3) := by decide +kernel
theorem dX7_item_86 : decode cX7_item 86 = .ok (.aload_n 0, 1) := by decide +kernel
theorem dX7_item_87 : decode cX7_item 87 = .ok (.getfield 168, 3) := by decide +kernel
theorem dX7_item_90 : decode cX7_item 90 = .ok (.iload_n 1, 1) := by decide +kernel
theorem dX7_item_91 : decode cX7_item 91 = .ok (.iastore, 1) := by decide +kernel
theorem dX7_item_92 : decode cX7_item 92 = .ok (.aload_n 0, 1) := by decide +kernel
theorem dX7_item_93 : decode cX7_item 93 = .ok (.getfield 31, 3) := by decide +kernel
theorem dX7_item_96 : decode cX7_item 96 = .ok (.aload_n 0, 1) := by decide +kernel
theorem dX7_item_97 : decode cX7_item 97 = .ok (.getfield 168, 3) := by decide +kernel
theorem dX7_item_100 : decode cX7_item 100 = .ok (.iload_n 2, 1) := by decide +kernel
theorem dX7_item_101 : decode cX7_item 101 = .ok (.iastore, 1) := by decide +kernel
theorem dX7_item_102 : decode cX7_item 102 = .ok (.aload_n 0, 1) := by decide +kernel
theorem dX7_item_103 : decode cX7_item 103 = .ok (.getfield 34, 3) := by decide +kernel
theorem dX7_item_106 : decode cX7_item 106 = .ok (.aload_n 0, 1) := by decide +kernel
theorem dX7_item_107 : decode cX7_item 107 = .ok (.getfield 168, 3) := by decide +kernel
theorem dX7_item_110 : decode cX7_item 110 = .ok (.iload_n 3, 1) := by decide +kernel
theorem dX7_item_111 : decode cX7_item 111 = .ok (.iastore, 1) := by decide +kernel
theorem dX7_item_112 : decode cX7_item 112 = .ok (.aload_n 0, 1) := by decide +kernel
theorem dX7_item_113 : decode cX7_item 113 = .ok (.getfield 37, 3) := by decide +kernel
theorem dX7_item_116 : decode cX7_item 116 = .ok (.aload_n 0, 1) := by decide +kernel
theorem dX7_item_117 : decode cX7_item 117 = .ok (.getfield 168, 3) := by decide +kernel
theorem dX7_item_120 : decode cX7_item 120 = .ok (.iload 4, 2) := by decide +kernel
theorem dX7_item_122 : decode cX7_item 122 = .ok (.iastore, 1) := by decide +kernel
theorem dX7_item_123 : decode cX7_item 123 = .ok (.aload_n 0, 1) := by decide +kernel
theorem dX7_item_124 : decode cX7_item 124 = .ok (.getfield 40, 3) := by decide +kernel
theorem dX7_item_127 : decode cX7_item 127 = .ok (.aload_n 0, 1) := by decide +kernel
theorem dX7_item_128 : decode cX7_item 128 = .ok (.getfield 168, 3) := by decide +kernel
theorem dX7_item_131 : decode cX7_item 131 = .ok (.iload 5, 2) := by decide +kernel
theorem dX7_item_133 : decode cX7_item 133 = .ok (.iastore, 1) := by decide +kernel
theorem dX7_item_134 : decode cX7_item 134 = .ok (.aload_n 0, 1) := by decide +kernel
theorem dX7_item_135 : decode cX7_item 135 = .ok (.dup, 1) := by decide +kernel
theorem dX7_item_136 : decode cX7_item 136 = .ok (.getfield 168, 3) := by decide +kernel
theorem dX7_item_139 : decode cX7_item 139 = .ok (.iconst 1, 1) := by decide +kernel
theorem dX7_item_140 : decode cX7_item 140 = .ok (.iadd, 1) := by decide +kernel
theorem dX7_item_141 : decode cX7_item 141 = .ok (.putfield 168, 3) := by decide +kernel
theorem dX7_item_144 : decode cX7_item 144 = .ok (.aload_n 0, 1) := by decide +kernel
theorem dX7_item_145 : decode cX7_item 145 = .ok (.getfield 168, 3) := by decide +kernel
theorem dX7_item_148 : decode cX7_item 148 = .ok (.iconst 1, 1) := by decide +kernel
theorem dX7_item_149 : decode cX7_item 149 = .ok (.isub, 1) := by decide +kernel
theorem dX7_item_150 : decode cX7_item 150 = .ok (.ireturn, 1) := by decide +kernel
theorem dX7_service_0 : decode cX7_service 0 = .ok (.aload_n 0, 1) := by decide +kernel
theorem dX7_service_1 : decode cX7_service 1 = .ok (.iconst 0, 1) := by decide +kernel
theorem dX7_service_2 : decode cX7_service 2 = .ok (.putfield 75, 3) := by decide +kernel
theorem dX7_service_5 : decode cX7_service 5 = .ok (.iload_n 1, 1) := by decide +kernel
theorem dX7_service_6 : decode cX7_service 6 = .ok (.ifCond .lt 11, 3) := by decide +kernel
theorem dX7_service_9 : decode cX7_service 9 = .ok (.iload_n 1, 1) := by decide +kernel
theorem dX7_service_10 : decode cX7_service 10 = .ok (.aload_n 0, 1) := by decide +kernel
theorem dX7_service_11 : decode cX7_service 11 = .ok (.getfield 168, 3) := by decide +kernel
theorem dX7_service_14 : decode cX7_service 14 = .ok (.if_icmp .lt 6, 3) := by decide +kernel
theorem dX7_service_17 : decode cX7_service 17 = .ok (.ldc 171, 2) := by decide +kernel
theorem dX7_service_19 : decode cX7_service 19 = .ok (.ireturn, 1) := by decide +kernel
theorem dX7_service_20 : decode cX7_service 20 = .ok (.iload_n 2, 1) := by decide +kernel
theorem dX7_service_21 : decode cX7_service 21 = .ok (.i2l, 1) := by decide +kernel
theorem dX7_service_22 : decode cX7_service 22 = .ok (.lconst 0, 1) := by decide +kernel
theorem dX7_service_23 : decode cX7_service 23 = .ok (.ldc2_w 159, 3) := by decide +kernel
theorem dX7_service_26 : decode cX7_service 26 = .ok (.invokestatic 161, 3) := by decide +kernel
theorem dX7_service_29 : decode cX7_service 29 = .ok (.ifCond .ne 6, 3) := by decide +kernel
theorem dX7_service_32 : decode cX7_service 32 = .ok (.ldc 167, 2) := by decide +kernel
theorem dX7_service_34 : decode cX7_service 34 = .ok (.ireturn, 1) := by decide +kernel
theorem dX7_service_35 : decode cX7_service 35 = .ok (.aload_n 0, 1) := by decide +kernel
theorem dX7_service_36 : decode cX7_service 36 = .ok (.getfield 43, 3) := by decide +kernel
theorem dX7_service_39 : decode cX7_service 39 = .ok (.bipush 10, 2) := by decide +kernel
theorem dX7_service_41 : decode cX7_service 41 = .ok (.iload_n 1, 1) := by decide +kernel
theorem dX7_service_42 : decode cX7_service 42 = .ok (.imul, 1) := by decide +kernel
theorem dX7_service_43 : decode cX7_service 43 = .ok (.iload_n 2, 1) := by decide +kernel
theorem dX7_service_44 : decode cX7_service 44 = .ok (.iadd, 1) := by decide +kernel
theorem dX7_service_45 : decode cX7_service 45 = .ok (.iconst 1, 1) := by decide +kernel
theorem dX7_service_46 : decode cX7_service 46 = .ok (.bastore, 1) := by decide +kernel
theorem dX7_service_47 : decode cX7_service 47 = .ok (.iconst 0, 1) := by decide +kernel
theorem dX7_service_48 : decode cX7_service 48 = .ok (.istore_n 3, 1) := by decide +kernel
theorem dX7_service_49 : decode cX7_service 49 = .ok (.iconst 0, 1) := by decide +kernel
theorem dX7_service_50 : decode cX7_service 50 = .ok (.istore 4, 2) := by decide +kernel
theorem dX7_service_52 : decode cX7_service 52 = .ok (.iload 4, 2) := by decide +kernel
theorem dX7_service_54 : decode cX7_service 54 = .ok (.bipush 10, 2) := by decide +kernel
theorem dX7_service_56 : decode cX7_service 56 = .ok (.if_icmp .ge 32, 3) := by decide +kernel
theorem dX7_service_59 : decode cX7_service 59 = .ok (.aload_n 0, 1) := by decide +kernel
theorem dX7_service_60 : decode cX7_service 60 = .ok (.getfield 43, 3) := by decide +kernel
theorem dX7_service_63 : decode cX7_service 63 = .ok (.bipush 10, 2) := by decide +kernel
theorem dX7_service_65 : decode cX7_service 65 = .ok (.iload_n 1, 1) := by decide +kernel
theorem dX7_service_66 : decode cX7_service 66 = .ok (.imul, 1) := by decide +kernel
theorem dX7_service_67 : decode cX7_service 67 = .ok (.iload 4, 2) := by decide +kernel
theorem dX7_service_69 : decode cX7_service 69 = .ok (.iadd, 1) := by decide +kernel
theorem dX7_service_70 : decode cX7_service 70 = .ok (.baload, 1) := by decide +kernel
theorem dX7_service_71 : decode cX7_service 71 = .ok (.ifCond .eq 9, 3) := by decide +kernel
theorem dX7_service_74 : decode cX7_service 74 = .ok (.iload_n 3, 1) := by decide +kernel
theorem dX7_service_75 : decode cX7_service 75 = .ok (.iconst 1, 1) := by decide +kernel
theorem dX7_service_76 : decode cX7_service 76 = .ok (.iadd, 1) := by decide +kernel
theorem dX7_service_77 : decode cX7_service 77 = .ok (.goto 4, 3) := by decide +kernel
theorem dX7_service_80 : decode cX7_service 80 = .ok (.iload_n 3, 1) := by decide +kernel
theorem dX7_service_81 : decode cX7_service 81 = .ok (.istore_n 3, 1) := by decide +kernel
theorem dX7_service_82 : decode cX7_service 82 = .ok (.iinc 4 1, 3) := by decide +kernel
theorem dX7_service_85 : decode cX7_service 85 = .ok (.goto (-33), 3) := by decide +kernel
theorem dX7_service_88 : decode cX7_service 88 = .ok (.iload_n 3, 1) := by decide +kernel
theorem dX7_service_89 : decode cX7_service 89 = .ok (.ireturn, 1) := by decide +kernel
theorem dX7_part_0 : decode cX7_part 0 = .ok (.aload_n 0, 1) := by decide +kernel
theorem dX7_part_1 : decode cX7_part 1 = .ok (.getfield 47, 3) := by decide +kernel
theorem dX7_part_4 : decode cX7_part 4 = .ok (.aload_n 0, 1) := by decide +kernel
theorem dX7_part_5 : decode cX7_part 5 = .ok (.getfield 172, 3) := by decide +kernel
theorem dX7_part_8 : decode cX7_part 8 = .ok (.iload_n 1, 1) := by decide +kernel
theorem dX7_part_9 : decode cX7_part 9 = .ok (.iastore, 1) := by decide +kernel
theorem dX7_part_10 : decode cX7_part 10 = .ok (.aload_n 0, 1) := by decide +kernel
theorem dX7_part_11 : decode cX7_part 11 = .ok (.getfield 50, 3) := by decide +kernel
theorem dX7_part_14 : decode cX7_part 14 = .ok (.aload_n 0, 1) := by decide +kernel
theorem dX7_part_15 : decode cX7_part 15 = .ok (.getfield 172, 3) := by decide +kernel
theorem dX7_part_18 : decode cX7_part 18 = .ok (.lload_n 2, 1) := by decide +kernel
theorem dX7_part_19 : decode cX7_part 19 = .ok (.lastore, 1) := by decide +kernel
theorem dX7_part_20 : decode cX7_part 20 = .ok (.aload_n 0, 1) := by decide +kernel
theorem dX7_part_21 : decode cX7_part 21 = .ok (.getfield 54, 3) := by decide +kernel
theorem dX7_part_24 : decode cX7_part 24 = .ok (.aload_n 0, 1) := by decide +kernel
theorem dX7_part_25 : decode cX7_part 25 = .ok (.getfield 172, 3) := by decide +kernel
theorem dX7_part_28 : decode cX7_part 28 = .ok (.iload 4, 2) := by decide +kernel
theorem dX7_part_30 : decode cX7_part 30 = .ok (.iastore, 1) := by decide +kernel
theorem dX7_part_31 : decode cX7_part 31 = .ok (.aload_n 0, 1) := by decide +kernel
theorem dX7_part_32 : decode cX7_part 32 = .ok (.dup, 1) := by decide +kernel
theorem dX7_part_33 : decode cX7_part 33 = .ok (.getfield 172, 3) := by decide +kernel
theorem dX7_part_36 : decode cX7_part 36 = .ok (.iconst 1, 1) := by decide +kernel
theorem dX7_part_37 : decode cX7_part 37 = .ok (.iadd, 1) := by decide +kernel
theorem dX7_part_38 : decode cX7_part 38 = .ok (.putfield 172, 3) := by decide +kernel
theorem dX7_part_41 : decode cX7_part 41 = .ok (.return_, 1) := by decide +kernel
theorem dX7_mayServe_0 : decode cX7_mayServe 0 = .ok (.iconst 1, 1) := by decide +kernel
theorem dX7_mayServe_1 : decode cX7_mayServe 1 = .ok (.istore 4, 2) := by decide +kernel
theorem dX7_mayServe_3 : decode cX7_mayServe 3 = .ok (.iconst 0, 1) := by decide +kernel
theorem dX7_mayServe_4 : decode cX7_mayServe 4 = .ok (.istore 5, 2) := by decide +kernel
theorem dX7_mayServe_6 : decode cX7_mayServe 6 = .ok (.iload 5, 2) := by decide +kernel
theorem dX7_mayServe_8 : decode cX7_mayServe 8 = .ok (.bipush 10, 2) := by decide +kernel
theorem dX7_mayServe_10 : decode cX7_mayServe 10 = .ok (.if_icmp .ge 50, 3) := by decide +kernel
theorem dX7_mayServe_13 : decode cX7_mayServe 13 = .ok (.iload 4, 2) := by decide +kernel
theorem dX7_mayServe_15 : decode cX7_mayServe 15 = .ok (.ifCond .eq 36, 3) := by decide +kernel
theorem dX7_mayServe_18 : decode cX7_mayServe 18 = .ok (.aload_n 0, 1) := by decide +kernel
theorem dX7_mayServe_19 : decode cX7_mayServe 19 = .ok (.getfield 43, 3) := by decide +kernel
theorem dX7_mayServe_22 : decode cX7_mayServe 22 = .ok (.bipush 10, 2) := by decide +kernel
theorem dX7_mayServe_24 : decode cX7_mayServe 24 = .ok (.iload_n 1, 1) := by decide +kernel
theorem dX7_mayServe_25 : decode cX7_mayServe 25 = .ok (.imul, 1) := by decide +kernel
theorem dX7_mayServe_26 : decode cX7_mayServe 26 = .ok (.iload 5, 2) := by decide +kernel
theorem dX7_mayServe_28 : decode cX7_mayServe 28 = .ok (.iadd, 1) := by decide +kernel
theorem dX7_mayServe_29 : decode cX7_mayServe 29 = .ok (.baload, 1) := by decide +kernel
theorem dX7_mayServe_30 : decode cX7_mayServe 30 = .ok (.ifCond .eq 17, 3) := by decide +kernel
theorem dX7_mayServe_33 : decode cX7_mayServe 33 = .ok (.aload_n 0, 1) := by decide +kernel
theorem dX7_mayServe_34 : decode cX7_mayServe 34 = .ok (.iload_n 2, 1) := by decide +kernel
theorem dX7_mayServe_35 : decode cX7_mayServe 35 = .ok (.iload_n 3, 1) := by decide +kernel
theorem dX7_mayServe_36 : decode cX7_mayServe 36 = .ok (.bipush 88, 2) := by decide +kernel
theorem dX7_mayServe_38 : decode cX7_mayServe 38 = .ok (.iload 5, 2) := by decide +kernel
theorem dX7_mayServe_40 : decode cX7_mayServe 40 = .ok (.invokevirtual 175, 3) := by decide +kernel
theorem dX7_mayServe_43 : decode cX7_mayServe 43 = .ok (.iconst (-1), 1) := by decide +kernel
theorem dX7_mayServe_44 : decode cX7_mayServe 44 = .ok (.if_icmp .eq 7, 3) := by decide +kernel
theorem dX7_mayServe_47 : decode cX7_mayServe 47 = .ok (.iconst 1, 1) := by decide +kernel
theorem dX7_mayServe_48 : decode cX7_mayServe 48 = .ok (.goto 4, 3) := by decide +kernel
theorem dX7_mayServe_51 : decode cX7_mayServe 51 = .ok (.iconst 0, 1) := by decide +kernel
theorem dX7_mayServe_52 : decode cX7_mayServe 52 = .ok (.istore 4, 2) := by decide +kernel
theorem dX7_mayServe_54 : decode cX7_mayServe 54 = .ok (.iinc 5 1, 3) := by decide +kernel
theorem dX7_mayServe_57 : decode cX7_mayServe 57 = .ok (.goto (-51), 3) := by decide +kernel
theorem dX7_mayServe_60 : decode cX7_mayServe 60 = .ok (.iload_n 2, 1) := by decide +kernel
theorem dX7_mayServe_61 : decode cX7_mayServe 61 = .ok (.istore 5, 2) := by decide +kernel
theorem dX7_mayServe_63 : decode cX7_mayServe 63 = .ok (.iload 5, 2) := by decide +kernel
theorem dX7_mayServe_65 : decode cX7_mayServe 65 = .ok (.iload_n 3, 1) := by decide +kernel
theorem dX7_mayServe_66 : decode cX7_mayServe 66 = .ok (.if_icmp .ge 73, 3) := by decide +kernel
theorem dX7_mayServe_69 : decode cX7_mayServe 69 = .ok (.iload 4, 2) := by decide +kernel
theorem dX7_mayServe_71 : decode cX7_mayServe 71 = .ok (.ifCond .eq 59, 3) := by decide +kernel
theorem dX7_mayServe_74 : decode cX7_mayServe 74 = .ok (.aload_n 0, 1) := by decide +kernel
theorem dX7_mayServe_75 : decode cX7_mayServe 75 = .ok (.getfield 13, 3) := by decide +kernel
theorem dX7_mayServe_78 : decode cX7_mayServe 78 = .ok (.iload 5, 2) := by decide +kernel
theorem dX7_mayServe_80 : decode cX7_mayServe 80 = .ok (.iaload, 1) := by decide +kernel
theorem dX7_mayServe_81 : decode cX7_mayServe 81 = .ok (.bipush 69, 2) := by decide +kernel
theorem dX7_mayServe_83 : decode cX7_mayServe 83 = .ok (.if_icmp .ne 43, 3) := by decide +kernel
theorem dX7_mayServe_86 : decode cX7_mayServe 86 = .ok (.aload_n 0, 1) := by decide +kernel
theorem dX7_mayServe_87 : decode cX7_mayServe 87 = .ok (.getfield 43, 3) := by decide +kernel
theorem dX7_mayServe_90 : decode cX7_mayServe 90 = .ok (.bipush 10, 2) := by decide +kernel
theorem dX7_mayServe_92 : decode cX7_mayServe 92 = .ok (.iload_n 1, 1) := by decide +kernel
theorem dX7_mayServe_93 : decode cX7_mayServe 93 = .ok (.imul, 1) := by decide +kernel
theorem dX7_mayServe_94 : decode cX7_mayServe 94 = .ok (.aload_n 0, 1) := by decide +kernel
theorem dX7_mayServe_95 : decode cX7_mayServe 95 = .ok (.getfield 16, 3) := by decide +kernel
theorem dX7_mayServe_98 : decode cX7_mayServe 98 = .ok (.iload 5, 2) := by decide +kernel
theorem dX7_mayServe_100 : decode cX7_mayServe 100 = .ok (.iaload, 1) := by decide +kernel
theorem dX7_mayServe_101 : decode cX7_mayServe 101 = .ok (.iadd, 1) := by decide +kernel
theorem dX7_mayServe_102 : decode cX7_mayServe 102 = .ok (.baload, 1) := by decide +kernel
theorem dX7_mayServe_103 : decode cX7_mayServe 103 = .ok (.ifCond .eq 23, 3) := by decide +kernel
theorem dX7_mayServe_106 : decode cX7_mayServe 106 = .ok (.aload_n 0, 1) := by decide +kernel
theorem dX7_mayServe_107 : decode cX7_mayServe 107 = .ok (.getfield 43, 3) := by decide +kernel
theorem dX7_mayServe_110 : decode cX7_mayServe 110 = .ok (.bipush 10, 2) := by decide +kernel
theorem dX7_mayServe_112 : decode cX7_mayServe 112 = .ok (.iload_n 1, 1) := by decide +kernel
theorem dX7_mayServe_113 : decode cX7_mayServe 113 = .ok (.imul, 1) := by decide +kernel
theorem dX7_mayServe_114 : decode cX7_mayServe 114 = .ok (.aload_n 0, 1) := by decide +kernel
theorem dX7_mayServe_115 : decode cX7_mayServe 115 = .ok (.getfield 19, 3) := by decide +kernel
theorem dX7_mayServe_118 : decode cX7_mayServe 118 = .ok (.iload 5, 2) := by decide +kernel
theorem dX7_mayServe_120 : decode cX7_mayServe 120 = .ok (.iaload, 1) := by decide +kernel
theorem dX7_mayServe_121 : decode cX7_mayServe 121 = .ok (.iadd, 1) := by decide +kernel
theorem dX7_mayServe_122 : decode cX7_mayServe 122 = .ok (.baload, 1) := by decide +kernel
theorem dX7_mayServe_123 : decode cX7_mayServe 123 = .ok (.ifCond .ne 7, 3) := by decide +kernel
theorem dX7_mayServe_126 : decode cX7_mayServe 126 = .ok (.iconst 1, 1) := by decide +kernel
theorem dX7_mayServe_127 : decode cX7_mayServe 127 = .ok (.goto 4, 3) := by decide +kernel
theorem dX7_mayServe_130 : decode cX7_mayServe 130 = .ok (.iconst 0, 1) := by decide +kernel
theorem dX7_mayServe_131 : decode cX7_mayServe 131 = .ok (.istore 4, 2) := by decide +kernel
theorem dX7_mayServe_133 : decode cX7_mayServe 133 = .ok (.iinc 5 1, 3) := by decide +kernel
theorem dX7_mayServe_136 : decode cX7_mayServe 136 = .ok (.goto (-73), 3) := by decide +kernel
theorem dX7_mayServe_139 : decode cX7_mayServe 139 = .ok (.iload 4, 2) := by decide +kernel
theorem dX7_mayServe_141 : decode cX7_mayServe 141 = .ok (.ireturn, 1) := by decide +kernel
theorem dX7_mayGo_0 : decode cX7_mayGo 0 = .ok (.aload_n 0, 1) := by decide +kernel
theorem dX7_mayGo_1 : decode cX7_mayGo 1 = .ok (.iload_n 2, 1) := by decide +kernel
theorem dX7_mayGo_2 : decode cX7_mayGo 2 = .ok (.iload_n 3, 1) := by decide +kernel
theorem dX7_mayGo_3 : decode cX7_mayGo 3 = .ok (.bipush 70, 2) := by decide +kernel
theorem dX7_mayGo_5 : decode cX7_mayGo 5 = .ok (.invokevirtual 179, 3) := by decide +kernel
theorem dX7_mayGo_8 : decode cX7_mayGo 8 = .ok (.istore 7, 2) := by decide +kernel
theorem dX7_mayGo_10 : decode cX7_mayGo 10 = .ok (.aload_n 0, 1) := by decide +kernel
theorem dX7_mayGo_11 : decode cX7_mayGo 11 = .ok (.iload_n 2, 1) := by decide +kernel
theorem dX7_mayGo_12 : decode cX7_mayGo 12 = .ok (.iload_n 3, 1) := by decide +kernel
theorem dX7_mayGo_13 : decode cX7_mayGo 13 = .ok (.bipush 68, 2) := by decide +kernel
theorem dX7_mayGo_15 : decode cX7_mayGo 15 = .ok (.invokevirtual 179, 3) := by decide +kernel
theorem dX7_mayGo_18 : decode cX7_mayGo 18 = .ok (.istore 8, 2) := by decide +kernel
theorem dX7_mayGo_20 : decode cX7_mayGo 20 = .ok (.iload 7, 2) := by decide +kernel
theorem dX7_mayGo_22 : decode cX7_mayGo 22 = .ok (.iconst (-1), 1) := by decide +kernel
theorem dX7_mayGo_23 : decode cX7_mayGo 23 = .ok (.if_icmp .eq 31, 3) := by decide +kernel
theorem dX7_mayGo_26 : decode cX7_mayGo 26 = .ok (.lload 5, 2) := by decide +kernel
theorem dX7_mayGo_28 : decode cX7_mayGo 28 = .ok (.aload_n 0, 1) := by decide +kernel
theorem dX7_mayGo_29 : decode cX7_mayGo 29 = .ok (.getfield 16, 3) := by decide +kernel
theorem dX7_mayGo_32 : decode cX7_mayGo 32 = .ok (.iload 7, 2) := by decide +kernel
theorem dX7_mayGo_34 : decode cX7_mayGo 34 = .ok (.iaload, 1) := by decide +kernel
theorem dX7_mayGo_35 : decode cX7_mayGo 35 = .ok (.i2l, 1) := by decide +kernel
theorem dX7_mayGo_36 : decode cX7_mayGo 36 = .ok (.lcmp, 1) := by decide +kernel
theorem dX7_mayGo_37 : decode cX7_mayGo 37 = .ok (.ifCond .lt 21, 3) := by decide +kernel
theorem dX7_mayGo_40 : decode cX7_mayGo 40 = .ok (.lload 5, 2) := by decide +kernel
theorem dX7_mayGo_42 : decode cX7_mayGo 42 = .ok (.aload_n 0, 1) := by decide +kernel
theorem dX7_mayGo_43 : decode cX7_mayGo 43 = .ok (.getfield 19, 3) := by decide +kernel
theorem dX7_mayGo_46 : decode cX7_mayGo 46 = .ok (.iload 7, 2) := by decide +kernel
theorem dX7_mayGo_48 : decode cX7_mayGo 48 = .ok (.iaload, 1) := by decide +kernel
theorem dX7_mayGo_49 : decode cX7_mayGo 49 = .ok (.i2l, 1) := by decide +kernel
theorem dX7_mayGo_50 : decode cX7_mayGo 50 = .ok (.lcmp, 1) := by decide +kernel
theorem dX7_mayGo_51 : decode cX7_mayGo 51 = .ok (.ifCond .gt 7, 3) := by decide +kernel
theorem dX7_mayGo_54 : decode cX7_mayGo 54 = .ok (.iconst 1, 1) := by decide +kernel
theorem dX7_mayGo_55 : decode cX7_mayGo 55 = .ok (.goto 4, 3) := by decide +kernel
theorem dX7_mayGo_58 : decode cX7_mayGo 58 = .ok (.iconst 0, 1) := by decide +kernel
theorem dX7_mayGo_59 : decode cX7_mayGo 59 = .ok (.istore 9, 2) := by decide +kernel
theorem dX7_mayGo_61 : decode cX7_mayGo 61 = .ok (.iload 8, 2) := by decide +kernel
theorem dX7_mayGo_63 : decode cX7_mayGo 63 = .ok (.iconst (-1), 1) := by decide +kernel
theorem dX7_mayGo_64 : decode cX7_mayGo 64 = .ok (.if_icmp .eq 51, 3) := by decide +kernel
theorem dX7_mayGo_67 : decode cX7_mayGo 67 = .ok (.aload_n 0, 1) := by decide +kernel
theorem dX7_mayGo_68 : decode cX7_mayGo 68 = .ok (.getfield 34, 3) := by decide +kernel
theorem dX7_mayGo_71 : decode cX7_mayGo 71 = .ok (.iload_n 1, 1) := by decide +kernel
theorem dX7_mayGo_72 : decode cX7_mayGo 72 = .ok (.iaload, 1) := by decide +kernel
theorem dX7_mayGo_73 : decode cX7_mayGo 73 = .ok (.aload_n 0, 1) := by decide +kernel
theorem dX7_mayGo_74 : decode cX7_mayGo 74 = .ok (.getfield 16, 3) := by decide +kernel
theorem dX7_mayGo_77 : decode cX7_mayGo 77 = .ok (.iload 8, 2) := by decide +kernel
theorem dX7_mayGo_79 : decode cX7_mayGo 79 = .ok (.iaload, 1) := by decide +kernel
theorem dX7_mayGo_80 : decode cX7_mayGo 80 = .ok (.if_icmp .gt 39, 3) := by decide +kernel
theorem dX7_mayGo_83 : decode cX7_mayGo 83 = .ok (.aload_n 0, 1) := by decide +kernel
theorem dX7_mayGo_84 : decode cX7_mayGo 84 = .ok (.getfield 37, 3) := by decide +kernel
theorem dX7_mayGo_87 : decode cX7_mayGo 87 = .ok (.iload_n 1, 1) := by decide +kernel
theorem dX7_mayGo_88 : decode cX7_mayGo 88 = .ok (.iaload, 1) := by decide +kernel
theorem dX7_mayGo_89 : decode cX7_mayGo 89 = .ok (.aload_n 0, 1) := by decide +kernel
theorem dX7_mayGo_90 : decode cX7_mayGo 90 = .ok (.getfield 19, 3) := by decide +kernel
theorem dX7_mayGo_93 : decode cX7_mayGo 93 = .ok (.iload 8, 2) := by decide +kernel
theorem dX7_mayGo_95 : decode cX7_mayGo 95 = .ok (.iaload, 1) := by decide +kernel
theorem dX7_mayGo_96 : decode cX7_mayGo 96 = .ok (.if_icmp .gt 23, 3) := by decide +kernel
theorem dX7_mayGo_99 : decode cX7_mayGo 99 = .ok (.aload_n 0, 1) := by decide +kernel
theorem dX7_mayGo_100 : decode cX7_mayGo 100 = .ok (.getfield 40, 3) := by decide +kernel
theorem dX7_mayGo_103 : decode cX7_mayGo 103 = .ok (.iload_n 1, 1) := by decide +kernel
theorem dX7_mayGo_104 : decode cX7_mayGo 104 = .ok (.iaload, 1) := by decide +kernel
theorem dX7_mayGo_105 : decode cX7_mayGo 105 = .ok (.aload_n 0, 1) := by decide +kernel
theorem dX7_mayGo_106 : decode cX7_mayGo 106 = .ok (.getfield 22, 3) := by decide +kernel
theorem dX7_mayGo_109 : decode cX7_mayGo 109 = .ok (.iload 8, 2) := by decide +kernel
theorem dX7_mayGo_111 : decode cX7_mayGo 111 = .ok (.iaload, 1) := by decide +kernel
theorem dX7_mayGo_112 : decode cX7_mayGo 112 = .ok (.if_icmp .gt 7, 3) := by decide +kernel
theorem dX7_mayGo_115 : decode cX7_mayGo 115 = .ok (.iconst 1, 1) := by decide +kernel
theorem dX7_mayGo_116 : decode cX7_mayGo 116 = .ok (.goto 4, 3) := by decide +kernel
theorem dX7_mayGo_119 : decode cX7_mayGo 119 = .ok (.iconst 0, 1) := by decide +kernel
theorem dX7_mayGo_120 : decode cX7_mayGo 120 = .ok (.istore 10, 2) := by decide +kernel
theorem dX7_mayGo_122 : decode cX7_mayGo 122 = .ok (.iload 9, 2) := by decide +kernel
theorem dX7_mayGo_124 : decode cX7_mayGo 124 = .ok (.ifCond .eq 36, 3) := by decide +kernel
theorem dX7_mayGo_127 : decode cX7_mayGo 127 = .ok (.iload 10, 2) := by decide +kernel
theorem dX7_mayGo_129 : decode cX7_mayGo 129 = .ok (.ifCond .eq 31, 3) := by decide +kernel
theorem dX7_mayGo_132 : decode cX7_mayGo 132 = .ok (.aload_n 0, 1) := by decide +kernel
theorem dX7_mayGo_133 : decode cX7_mayGo 133 = .ok (.iload_n 2, 1) := by decide +kernel
theorem dX7_mayGo_134 : decode cX7_mayGo 134 = .ok (.iload_n 3, 1) := by decide +kernel
theorem dX7_mayGo_135 : decode cX7_mayGo 135 = .ok (.bipush 90, 2) := by decide +kernel
theorem dX7_mayGo_137 : decode cX7_mayGo 137 = .ok (.iload 4, 2) := by decide +kernel
theorem dX7_mayGo_139 : decode cX7_mayGo 139 = .ok (.invokevirtual 175, 3) := by decide +kernel
theorem dX7_mayGo_142 : decode cX7_mayGo 142 = .ok (.iconst (-1), 1) := by decide +kernel
theorem dX7_mayGo_143 : decode cX7_mayGo 143 = .ok (.if_icmp .eq 17, 3) := by decide +kernel
theorem dX7_mayGo_146 : decode cX7_mayGo 146 = .ok (.aload_n 0, 1) := by decide +kernel
theorem dX7_mayGo_147 : decode cX7_mayGo 147 = .ok (.iload_n 1, 1) := by decide +kernel
theorem dX7_mayGo_148 : decode cX7_mayGo 148 = .ok (.iload_n 2, 1) := by decide +kernel
theorem dX7_mayGo_149 : decode cX7_mayGo 149 = .ok (.iload_n 3, 1) := by decide +kernel
theorem dX7_mayGo_150 : decode cX7_mayGo 150 = .ok (.invokevirtual 183, 3) := by decide +kernel
theorem dX7_mayGo_153 : decode cX7_mayGo 153 = .ok (.ifCond .eq 7, 3) := by decide +kernel
theorem dX7_mayGo_156 : decode cX7_mayGo 156 = .ok (.iconst 1, 1) := by decide +kernel
theorem dX7_mayGo_157 : decode cX7_mayGo 157 = .ok (.goto 4, 3) := by decide +kernel
theorem dX7_mayGo_160 : decode cX7_mayGo 160 = .ok (.iconst 0, 1) := by decide +kernel
theorem dX7_mayGo_161 : decode cX7_mayGo 161 = .ok (.ireturn, 1) := by decide +kernel
theorem dX7_reckon_0 : decode cX7_reckon 0 = .ok (.aload_n 0, 1) := by decide +kernel
theorem dX7_reckon_1 : decode cX7_reckon 1 = .ok (.iconst 0, 1) := by decide +kernel
theorem dX7_reckon_2 : decode cX7_reckon 2 = .ok (.putfield 172, 3) := by decide +kernel
theorem dX7_reckon_5 : decode cX7_reckon 5 = .ok (.aload_n 0, 1) := by decide +kernel
theorem dX7_reckon_6 : decode cX7_reckon 6 = .ok (.getfield 155, 3) := by decide +kernel
theorem dX7_reckon_9 : decode cX7_reckon 9 = .ok (.iconst 1, 1) := by decide +kernel
theorem dX7_reckon_10 : decode cX7_reckon 10 = .ok (.isub, 1) := by decide +kernel
theorem dX7_reckon_11 : decode cX7_reckon 11 = .ok (.istore 6, 2) := by decide +kernel
theorem dX7_reckon_13 : decode cX7_reckon 13 = .ok (.aload_n 0, 1) := by decide +kernel
theorem dX7_reckon_14 : decode cX7_reckon 14 = .ok (.iload 6, 2) := by decide +kernel
theorem dX7_reckon_16 : decode cX7_reckon 16 = .ok (.iload_n 2, 1) := by decide +kernel
theorem dX7_reckon_17 : decode cX7_reckon 17 = .ok (.invokevirtual 187, 3) := by decide +kernel
theorem dX7_reckon_20 : decode cX7_reckon 20 = .ok (.istore 7, 2) := by decide +kernel
theorem dX7_reckon_22 : decode cX7_reckon 22 = .ok (.iload 7, 2) := by decide +kernel
theorem dX7_reckon_24 : decode cX7_reckon 24 = .ok (.iconst (-1), 1) := by decide +kernel
theorem dX7_reckon_25 : decode cX7_reckon 25 = .ok (.if_icmp .ne 7, 3) := by decide +kernel
theorem dX7_reckon_28 : decode cX7_reckon 28 = .ok (.ldc2_w 190, 3) := by decide +kernel
theorem dX7_reckon_31 : decode cX7_reckon 31 = .ok (.lreturn, 1) := by decide +kernel
theorem dX7_reckon_32 : decode cX7_reckon 32 = .ok (.aload_n 0, 1) := by decide +kernel
theorem dX7_reckon_33 : decode cX7_reckon 33 = .ok (.iload 6, 2) := by decide +kernel
theorem dX7_reckon_35 : decode cX7_reckon 35 = .ok (.iload 7, 2) := by decide +kernel
theorem dX7_reckon_37 : decode cX7_reckon 37 = .ok (.invokevirtual 192, 3) := by decide +kernel
theorem dX7_reckon_40 : decode cX7_reckon 40 = .ok (.istore 8, 2) := by decide +kernel
theorem dX7_reckon_42 : decode cX7_reckon 42 = .ok (.aload_n 0, 1) := by decide +kernel
theorem dX7_reckon_43 : decode cX7_reckon 43 = .ok (.iload_n 1, 1) := by decide +kernel
theorem dX7_reckon_44 : decode cX7_reckon 44 = .ok (.iload 7, 2) := by decide +kernel
theorem dX7_reckon_46 : decode cX7_reckon 46 = .ok (.iload 8, 2) := by decide +kernel
theorem dX7_reckon_48 : decode cX7_reckon 48 = .ok (.iload_n 3, 1) := by decide +kernel
theorem dX7_reckon_49 : decode cX7_reckon 49 = .ok (.lload 4, 2) := by decide +kernel
theorem dX7_reckon_51 : decode cX7_reckon 51 = .ok (.invokevirtual 195, 3) := by decide +kernel
theorem dX7_reckon_54 : decode cX7_reckon 54 = .ok (.ifCond .ne 7, 3) := by decide +kernel
theorem dX7_reckon_57 : decode cX7_reckon 57 = .ok (.ldc2_w 190, 3) := by decide +kernel
theorem dX7_reckon_60 : decode cX7_reckon 60 = .ok (.lreturn, 1) := by decide +kernel
theorem dX7_reckon_61 : decode cX7_reckon 61 = .ok (.aload_n 0, 1) := by decide +kernel
theorem dX7_reckon_62 : decode cX7_reckon 62 = .ok (.getfield 31, 3) := by decide +kernel
theorem dX7_reckon_65 : decode cX7_reckon 65 = .ok (.iload_n 1, 1) := by decide +kernel
theorem dX7_reckon_66 : decode cX7_reckon 66 = .ok (.iaload, 1) := by decide +kernel
theorem dX7_reckon_67 : decode cX7_reckon 67 = .ok (.i2l, 1) := by decide +kernel
theorem dX7_reckon_68 : decode cX7_reckon 68 = .ok (.lstore 9, 2) := by decide +kernel
theorem dX7_reckon_70 : decode cX7_reckon 70 = .ok (.aload_n 0, 1) := by decide +kernel
theorem dX7_reckon_71 : decode cX7_reckon 71 = .ok (.iload 7, 2) := by decide +kernel
theorem dX7_reckon_73 : decode cX7_reckon 73 = .ok (.iload 8, 2) := by decide +kernel
theorem dX7_reckon_75 : decode cX7_reckon 75 = .ok (.bipush 77, 2) := by decide +kernel
theorem dX7_reckon_77 : decode cX7_reckon 77 = .ok (.invokevirtual 179, 3) := by decide +kernel
theorem dX7_reckon_80 : decode cX7_reckon 80 = .ok (.istore 11, 2) := by decide +kernel
theorem dX7_reckon_82 : decode cX7_reckon 82 = .ok (.iload 11, 2) := by decide +kernel
theorem dX7_reckon_84 : decode cX7_reckon 84 = .ok (.iconst (-1), 1) := by decide +kernel
theorem dX7_reckon_85 : decode cX7_reckon 85 = .ok (.if_icmp .eq 86, 3) := by decide +kernel
theorem dX7_reckon_88 : decode cX7_reckon 88 = .ok (.aload_n 0, 1) := by decide +kernel
theorem dX7_reckon_89 : decode cX7_reckon 89 = .ok (.getfield 34, 3) := by decide +kernel
theorem dX7_reckon_92 : decode cX7_reckon 92 = .ok (.iload_n 1, 1) := by decide +kernel
theorem dX7_reckon_93 : decode cX7_reckon 93 = .ok (.iaload, 1) := by decide +kernel
theorem dX7_reckon_94 : decode cX7_reckon 94 = .ok (.i2l, 1) := by decide +kernel
theorem dX7_reckon_95 : decode cX7_reckon 95 = .ok (.aload_n 0, 1) := by decide +kernel
theorem dX7_reckon_96 : decode cX7_reckon 96 = .ok (.getfield 37, 3) := by decide +kernel
theorem dX7_reckon_99 : decode cX7_reckon 99 = .ok (.iload_n 1, 1) := by decide +kernel
theorem dX7_reckon_100 : decode cX7_reckon 100 = .ok (.iaload, 1) := by decide +kernel
theorem dX7_reckon_101 : decode cX7_reckon 101 = .ok (.i2l, 1) := by decide +kernel
theorem dX7_reckon_102 : decode cX7_reckon 102 = .ok (.lmul, 1) := by decide +kernel
theorem dX7_reckon_103 : decode cX7_reckon 103 = .ok (.aload_n 0, 1) := by decide +kernel
theorem dX7_reckon_104 : decode cX7_reckon 104 = .ok (.getfield 40, 3) := by decide +kernel
theorem dX7_reckon_107 : decode cX7_reckon 107 = .ok (.iload_n 1, 1) := by decide +kernel
theorem dX7_reckon_108 : decode cX7_reckon 108 = .ok (.iaload, 1) := by decide +kernel
theorem dX7_reckon_109 : decode cX7_reckon 109 = .ok (.i2l, 1) := by decide +kernel
theorem dX7_reckon_110 : decode cX7_reckon 110 = .ok (.lmul, 1) := by decide +kernel
theorem dX7_reckon_111 : decode cX7_reckon 111 = .ok (.lstore 12, 2) := by decide +kernel
theorem dX7_reckon_113 : decode cX7_reckon 113 = .ok (.lload 12, 2) := by decide +kernel
theorem dX7_reckon_115 : decode cX7_reckon 115 = .ok (.aload_n 0, 1) := by decide +kernel
theorem dX7_reckon_116 : decode cX7_reckon 116 = .ok (.getfield 16, 3) := by decide +kernel
theorem dX7_reckon_119 : decode cX7_reckon 119 = .ok (.iload 11, 2) := by decide +kernel
theorem dX7_reckon_121 : decode cX7_reckon 121 = .ok (.iaload, 1) := by decide +kernel
theorem dX7_reckon_122 : decode cX7_reckon 122 = .ok (.i2l, 1) := by decide +kernel
theorem dX7_reckon_123 : decode cX7_reckon 123 = .ok (.ldiv, 1) := by decide +kernel
theorem dX7_reckon_124 : decode cX7_reckon 124 = .ok (.lstore 14, 2) := by decide +kernel
theorem dX7_reckon_126 : decode cX7_reckon 126 = .ok (.lload 14, 2) := by decide +kernel
theorem dX7_reckon_128 : decode cX7_reckon 128 = .ok (.aload_n 0, 1) := by decide +kernel
theorem dX7_reckon_129 : decode cX7_reckon 129 = .ok (.getfield 16, 3) := by decide +kernel
theorem dX7_reckon_132 : decode cX7_reckon 132 = .ok (.iload 11, 2) := by decide +kernel
theorem dX7_reckon_134 : decode cX7_reckon 134 = .ok (.iaload, 1) := by decide +kernel
theorem dX7_reckon_135 : decode cX7_reckon 135 = .ok (.i2l, 1) := by decide +kernel
theorem dX7_reckon_136 : decode cX7_reckon 136 = .ok (.lmul, 1) := by decide +kernel
theorem dX7_reckon_137 : decode cX7_reckon 137 = .ok (.lload 12, 2) := by decide +kernel
theorem dX7_reckon_139 : decode cX7_reckon 139 = .ok (.lcmp, 1) := by decide +kernel
theorem dX7_reckon_140 : decode cX7_reckon 140 = .ok (.ifCond .ge 10, 3) := by decide +kernel
theorem dX7_reckon_143 : decode cX7_reckon 143 = .ok (.lload 14, 2) := by decide +kernel
theorem dX7_reckon_145 : decode cX7_reckon 145 = .ok (.lconst 1, 1) := by decide +kernel
theorem dX7_reckon_146 : decode cX7_reckon 146 = .ok (.ladd, 1) := by decide +kernel
theorem dX7_reckon_147 : decode cX7_reckon 147 = .ok (.goto 5, 3) := by decide +kernel
theorem dX7_reckon_150 : decode cX7_reckon 150 = .ok (.lload 14, 2) := by decide +kernel
theorem dX7_reckon_152 : decode cX7_reckon 152 = .ok (.lstore 14, 2) := by decide +kernel
theorem dX7_reckon_154 : decode cX7_reckon 154 = .ok (.lload 14, 2) := by decide +kernel
theorem dX7_reckon_156 : decode cX7_reckon 156 = .ok (.lload 9, 2) := by decide +kernel
theorem dX7_reckon_158 : decode cX7_reckon 158 = .ok (.lcmp, 1) := by decide +kernel
theorem dX7_reckon_159 : decode cX7_reckon 159 = .ok (.ifCond .le 8, 3) := by decide +kernel
theorem dX7_reckon_162 : decode cX7_reckon 162 = .ok (.lload 14, 2) := by decide +kernel
theorem dX7_reckon_164 : decode cX7_reckon 164 = .ok (.goto 5, 3) := by decide +kernel
theorem dX7_reckon_167 : decode cX7_reckon 167 = .ok (.lload 9, 2) := by decide +kernel
theorem dX7_reckon_169 : decode cX7_reckon 169 = .ok (.lstore 9, 2) := by decide +kernel
theorem dX7_reckon_171 : decode cX7_reckon 171 = .ok (.iconst 0, 1) := by decide +kernel
theorem dX7_reckon_172 : decode cX7_reckon 172 = .ok (.istore 12, 2) := by decide +kernel
theorem dX7_reckon_174 : decode cX7_reckon 174 = .ok (.iconst (-1), 1) := by decide +kernel
theorem dX7_reckon_175 : decode cX7_reckon 175 = .ok (.istore 13, 2) := by decide +kernel
theorem dX7_reckon_177 : decode cX7_reckon 177 = .ok (.iload 7, 2) := by decide +kernel
theorem dX7_reckon_179 : decode cX7_reckon 179 = .ok (.istore 14, 2) := by decide +kernel
theorem dX7_reckon_181 : decode cX7_reckon 181 = .ok (.iload 14, 2) := by decide +kernel
theorem dX7_reckon_183 : decode cX7_reckon 183 = .ok (.iload 8, 2) := by decide +kernel
theorem dX7_reckon_185 : decode cX7_reckon 185 = .ok (.if_icmp .ge 66, 3) := by decide +kernel
theorem dX7_reckon_188 : decode cX7_reckon 188 = .ok (.iload 13, 2) := by decide +kernel
theorem dX7_reckon_190 : decode cX7_reckon 190 = .ok (.iconst (-1), 1) := by decide +kernel
theorem dX7_reckon_191 : decode cX7_reckon 191 = .ok (.if_icmp .ne 60, 3) := by decide +kernel
theorem dX7_reckon_194 : decode cX7_reckon 194 = .ok (.aload_n 0, 1) := by decide +kernel
theorem dX7_reckon_195 : decode cX7_reckon 195 = .ok (.getfield 13, 3) := by decide +kernel
theorem dX7_reckon_198 : decode cX7_reckon 198 = .ok (.iload 14, 2) := by decide +kernel
theorem dX7_reckon_200 : decode cX7_reckon 200 = .ok (.iaload, 1) := by decide +kernel
theorem dX7_reckon_201 : decode cX7_reckon 201 = .ok (.bipush 83, 2) := by decide +kernel
theorem dX7_reckon_203 : decode cX7_reckon 203 = .ok (.if_icmp .ne 42, 3) := by decide +kernel
theorem dX7_reckon_206 : decode cX7_reckon 206 = .ok (.aload_n 0, 1) := by decide +kernel
theorem dX7_reckon_207 : decode cX7_reckon 207 = .ok (.getfield 16, 3) := by decide +kernel
theorem dX7_reckon_210 : decode cX7_reckon 210 = .ok (.iload 14, 2) := by decide +kernel
theorem dX7_reckon_212 : decode cX7_reckon 212 = .ok (.iaload, 1) := by decide +kernel
theorem dX7_reckon_213 : decode cX7_reckon 213 = .ok (.i2l, 1) := by decide +kernel
theorem dX7_reckon_214 : decode cX7_reckon 214 = .ok (.lload 9, 2) := by decide +kernel
theorem dX7_reckon_216 : decode cX7_reckon 216 = .ok (.lcmp, 1) := by decide +kernel
theorem dX7_reckon_217 : decode cX7_reckon 217 = .ok (.ifCond .lt 8, 3) := by decide +kernel
theorem dX7_reckon_220 : decode cX7_reckon 220 = .ok (.iload 14, 2) := by decide +kernel
theorem dX7_reckon_222 : decode cX7_reckon 222 = .ok (.goto 4, 3) := by decide +kernel
theorem dX7_reckon_225 : decode cX7_reckon 225 = .ok (.iconst (-1), 1) := by decide +kernel
theorem dX7_reckon_226 : decode cX7_reckon 226 = .ok (.istore 13, 2) := by decide +kernel
theorem dX7_reckon_228 : decode cX7_reckon 228 = .ok (.iload 13, 2) := by decide +kernel
theorem dX7_reckon_230 : decode cX7_reckon 230 = .ok (.iconst (-1), 1) := by decide +kernel
theorem dX7_reckon_231 : decode cX7_reckon 231 = .ok (.if_icmp .ne 10, 3) := by decide +kernel
theorem dX7_reckon_234 : decode cX7_reckon 234 = .ok (.iload 12, 2) := by decide +kernel
theorem dX7_reckon_236 : decode cX7_reckon 236 = .ok (.iconst 1, 1) := by decide +kernel
theorem dX7_reckon_237 : decode cX7_reckon 237 = .ok (.iadd, 1) := by decide +kernel
theorem dX7_reckon_238 : decode cX7_reckon 238 = .ok (.goto 5, 3) := by decide +kernel
theorem dX7_reckon_241 : decode cX7_reckon 241 = .ok (.iload 12, 2) := by decide +kernel
theorem dX7_reckon_243 : decode cX7_reckon 243 = .ok (.istore 12, 2) := by decide +kernel
theorem dX7_reckon_245 : decode cX7_reckon 245 = .ok (.iinc 14 1, 3) := by decide +kernel
theorem dX7_reckon_248 : decode cX7_reckon 248 = .ok (.goto (-67), 3) := by decide +kernel
theorem dX7_reckon_251 : decode cX7_reckon 251 = .ok (.iload 13, 2) := by decide +kernel
theorem dX7_reckon_253 : decode cX7_reckon 253 = .ok (.iconst (-1), 1) := by decide +kernel
theorem dX7_reckon_254 : decode cX7_reckon 254 = .ok (.if_icmp .ne 7, 3) := by decide +kernel
theorem dX7_reckon_257 : decode cX7_reckon 257 = .ok (.ldc2_w 190, 3) := by decide +kernel
theorem dX7_reckon_260 : decode cX7_reckon 260 = .ok (.lreturn, 1) := by decide +kernel
theorem dX7_reckon_261 : decode cX7_reckon 261 = .ok (.aload_n 0, 1) := by decide +kernel
theorem dX7_reckon_262 : decode cX7_reckon 262 = .ok (.getfield 19, 3) := by decide +kernel
theorem dX7_reckon_265 : decode cX7_reckon 265 = .ok (.iload 13, 2) := by decide +kernel
theorem dX7_reckon_267 : decode cX7_reckon 267 = .ok (.iaload, 1) := by decide +kernel
theorem dX7_reckon_268 : decode cX7_reckon 268 = .ok (.i2l, 1) := by decide +kernel
theorem dX7_reckon_269 : decode cX7_reckon 269 = .ok (.lstore 14, 2) := by decide +kernel
theorem dX7_reckon_271 : decode cX7_reckon 271 = .ok (.aload_n 0, 1) := by decide +kernel
theorem dX7_reckon_272 : decode cX7_reckon 272 = .ok (.iconst 0, 1) := by decide +kernel
theorem dX7_reckon_273 : decode cX7_reckon 273 = .ok (.lload 14, 2) := by decide +kernel
theorem dX7_reckon_275 : decode cX7_reckon 275 = .ok (.iload 12, 2) := by decide +kernel
theorem dX7_reckon_277 : decode cX7_reckon 277 = .ok (.invokevirtual 199, 3) := by decide +kernel
theorem dX7_reckon_280 : decode cX7_reckon 280 = .ok (.lload 14, 2) := by decide +kernel
theorem dX7_reckon_282 : decode cX7_reckon 282 = .ok (.aload_n 0, 1) := by decide +kernel
theorem dX7_reckon_283 : decode cX7_reckon 283 = .ok (.getfield 19, 3) := by decide +kernel
theorem dX7_reckon_286 : decode cX7_reckon 286 = .ok (.aload_n 0, 1) := by decide +kernel
theorem dX7_reckon_287 : decode cX7_reckon 287 = .ok (.iload 7, 2) := by decide +kernel
theorem dX7_reckon_289 : decode cX7_reckon 289 = .ok (.iload 8, 2) := by decide +kernel
theorem dX7_reckon_291 : decode cX7_reckon 291 = .ok (.bipush 90, 2) := by decide +kernel
theorem dX7_reckon_293 : decode cX7_reckon 293 = .ok (.iload_n 3, 1) := by decide +kernel
theorem dX7_reckon_294 : decode cX7_reckon 294 = .ok (.invokevirtual 175, 3) := by decide +kernel
theorem dX7_reckon_297 : decode cX7_reckon 297 = .ok (.iaload, 1) := by decide +kernel
theorem dX7_reckon_298 : decode cX7_reckon 298 = .ok (.i2l, 1) := by decide +kernel
theorem dX7_reckon_299 : decode cX7_reckon 299 = .ok (.lmul, 1) := by decide +kernel
theorem dX7_reckon_300 : decode cX7_reckon 300 = .ok (.ldc2_w 203, 3) := by decide +kernel
theorem dX7_reckon_303 : decode cX7_reckon 303 = .ok (.ldiv, 1) := by decide +kernel
theorem dX7_reckon_304 : decode cX7_reckon 304 = .ok (.lstore 16, 2) := by decide +kernel
theorem dX7_reckon_306 : decode cX7_reckon 306 = .ok (.aload_n 0, 1) := by decide +kernel
theorem dX7_reckon_307 : decode cX7_reckon 307 = .ok (.iconst 1, 1) := by decide +kernel
theorem dX7_reckon_308 : decode cX7_reckon 308 = .ok (.lload 16, 2) := by decide +kernel
theorem dX7_reckon_310 : decode cX7_reckon 310 = .ok (.iload_n 3, 1) := by decide +kernel
theorem dX7_reckon_311 : decode cX7_reckon 311 = .ok (.invokevirtual 199, 3) := by decide +kernel
theorem dX7_reckon_314 : decode cX7_reckon 314 = .ok (.lload 14, 2) := by decide +kernel
theorem dX7_reckon_316 : decode cX7_reckon 316 = .ok (.lload 16, 2) := by decide +kernel
theorem dX7_reckon_318 : decode cX7_reckon 318 = .ok (.ladd, 1) := by decide +kernel
theorem dX7_reckon_319 : decode cX7_reckon 319 = .ok (.lstore 14, 2) := by decide +kernel
theorem dX7_reckon_321 : decode cX7_reckon 321 = .ok (.iconst 0, 1) := by decide +kernel
theorem dX7_reckon_322 : decode cX7_reckon 322 = .ok (.istore 18, 2) := by decide +kernel
theorem dX7_reckon_324 : decode cX7_reckon 324 = .ok (.iload 18, 2) := by decide +kernel
theorem dX7_reckon_326 : decode cX7_reckon 326 = .ok (.bipush 10, 2) := by decide +kernel
theorem dX7_reckon_328 : decode cX7_reckon 328 = .ok (.if_icmp .ge 66, 3) := by decide +kernel
theorem dX7_reckon_331 : decode cX7_reckon 331 = .ok (.aload_n 0, 1) := by decide +kernel
theorem dX7_reckon_332 : decode cX7_reckon 332 = .ok (.getfield 43, 3) := by decide +kernel
theorem dX7_reckon_335 : decode cX7_reckon 335 = .ok (.bipush 10, 2) := by decide +kernel
theorem dX7_reckon_337 : decode cX7_reckon 337 = .ok (.iload_n 1, 1) := by decide +kernel
theorem dX7_reckon_338 : decode cX7_reckon 338 = .ok (.imul, 1) := by decide +kernel
theorem dX7_reckon_339 : decode cX7_reckon 339 = .ok (.iload 18, 2) := by decide +kernel
theorem dX7_reckon_341 : decode cX7_reckon 341 = .ok (.iadd, 1) := by decide +kernel
theorem dX7_reckon_342 : decode cX7_reckon 342 = .ok (.baload, 1) := by decide +kernel
theorem dX7_reckon_343 : decode cX7_reckon 343 = .ok (.ifCond .eq 45, 3) := by decide +kernel
theorem dX7_reckon_346 : decode cX7_reckon 346 = .ok (.aload_n 0, 1) := by decide +kernel
theorem dX7_reckon_347 : decode cX7_reckon 347 = .ok (.iload 7, 2) := by decide +kernel
theorem dX7_reckon_349 : decode cX7_reckon 349 = .ok (.iload 8, 2) := by decide +kernel
theorem dX7_reckon_351 : decode cX7_reckon 351 = .ok (.bipush 88, 2) := by decide +kernel
theorem dX7_reckon_353 : decode cX7_reckon 353 = .ok (.iload 18, 2) := by decide +kernel
theorem dX7_reckon_355 : decode cX7_reckon 355 = .ok (.invokevirtual 175, 3) := by decide +kernel
theorem dX7_reckon_358 : decode cX7_reckon 358 = .ok (.istore 19, 2) := by decide +kernel
theorem dX7_reckon_360 : decode cX7_reckon 360 = .ok (.aload_n 0, 1) := by decide +kernel
theorem dX7_reckon_361 : decode cX7_reckon 361 = .ok (.iconst 2, 1) := by decide +kernel
theorem dX7_reckon_362 : decode cX7_reckon 362 = .ok (.aload_n 0, 1) := by decide +kernel
theorem dX7_reckon_363 : decode cX7_reckon 363 = .ok (.getfield 19, 3) := by decide +kernel
theorem dX7_reckon_366 : decode cX7_reckon 366 = .ok (.iload 19, 2) := by decide +kernel
theorem dX7_reckon_368 : decode cX7_reckon 368 = .ok (.iaload, 1) := by decide +kernel
theorem dX7_reckon_369 : decode cX7_reckon 369 = .ok (.i2l, 1) := by decide +kernel
theorem dX7_reckon_370 : decode cX7_reckon 370 = .ok (.iload 18, 2) := by decide +kernel
theorem dX7_reckon_372 : decode cX7_reckon 372 = .ok (.invokevirtual 199, 3) := by decide +kernel
theorem dX7_reckon_375 : decode cX7_reckon 375 = .ok (.lload 14, 2) := by decide +kernel
theorem dX7_reckon_377 : decode cX7_reckon 377 = .ok (.aload_n 0, 1) := by decide +kernel
theorem dX7_reckon_378 : decode cX7_reckon 378 = .ok (.getfield 19, 3) := by decide +kernel
theorem dX7_reckon_381 : decode cX7_reckon 381 = .ok (.iload 19, 2) := by decide +kernel
theorem dX7_reckon_383 : decode cX7_reckon 383 = .ok (.iaload, 1) := by decide +kernel
theorem dX7_reckon_384 : decode cX7_reckon 384 = .ok (.i2l, 1) := by decide +kernel
theorem dX7_reckon_385 : decode cX7_reckon 385 = .ok (.ladd, 1) := by decide +kernel
theorem dX7_reckon_386 : decode cX7_reckon 386 = .ok (.lstore 14, 2) := by decide +kernel
theorem dX7_reckon_388 : decode cX7_reckon 388 = .ok (.iinc 18 1, 3) := by decide +kernel
theorem dX7_reckon_391 : decode cX7_reckon 391 = .ok (.goto (-67), 3) := by decide +kernel
theorem dX7_reckon_394 : decode cX7_reckon 394 = .ok (.aload_n 0, 1) := by decide +kernel
theorem dX7_reckon_395 : decode cX7_reckon 395 = .ok (.iload 7, 2) := by decide +kernel
theorem dX7_reckon_397 : decode cX7_reckon 397 = .ok (.iload 8, 2) := by decide +kernel
theorem dX7_reckon_399 : decode cX7_reckon 399 = .ok (.bipush 82, 2) := by decide +kernel
theorem dX7_reckon_401 : decode cX7_reckon 401 = .ok (.invokevirtual 179, 3) := by decide +kernel
theorem dX7_reckon_404 : decode cX7_reckon 404 = .ok (.istore 18, 2) := by decide +kernel
theorem dX7_reckon_406 : decode cX7_reckon 406 = .ok (.iload 18, 2) := by decide +kernel
theorem dX7_reckon_408 : decode cX7_reckon 408 = .ok (.iconst (-1), 1) := by decide +kernel
theorem dX7_reckon_409 : decode cX7_reckon 409 = .ok (.if_icmp .eq 53, 3) := by decide +kernel
theorem dX7_reckon_412 : decode cX7_reckon 412 = .ok (.lload 14, 2) := by decide +kernel
theorem dX7_reckon_414 : decode cX7_reckon 414 = .ok (.lstore 19, 2) := by decide +kernel
theorem dX7_reckon_416 : decode cX7_reckon 416 = .ok (.lload 19, 2) := by decide +kernel
theorem dX7_reckon_418 : decode cX7_reckon 418 = .ok (.aload_n 0, 1) := by decide +kernel
theorem dX7_reckon_419 : decode cX7_reckon 419 = .ok (.getfield 16, 3) := by decide +kernel
theorem dX7_reckon_422 : decode cX7_reckon 422 = .ok (.iload 18, 2) := by decide +kernel
theorem dX7_reckon_424 : decode cX7_reckon 424 = .ok (.iaload, 1) := by decide +kernel
theorem dX7_reckon_425 : decode cX7_reckon 425 = .ok (.i2l, 1) := by decide +kernel
theorem dX7_reckon_426 : decode cX7_reckon 426 = .ok (.lrem, 1) := by decide +kernel
theorem dX7_reckon_427 : decode cX7_reckon 427 = .ok (.lconst 0, 1) := by decide +kernel
theorem dX7_reckon_428 : decode cX7_reckon 428 = .ok (.lcmp, 1) := by decide +kernel
theorem dX7_reckon_429 : decode cX7_reckon 429 = .ok (.ifCond .eq 12, 3) := by decide +kernel
theorem dX7_reckon_432 : decode cX7_reckon 432 = .ok (.lload 19, 2) := by decide +kernel
theorem dX7_reckon_434 : decode cX7_reckon 434 = .ok (.lconst 1, 1) := by decide +kernel
theorem dX7_reckon_435 : decode cX7_reckon 435 = .ok (.ladd, 1) := by decide +kernel
theorem dX7_reckon_436 : decode cX7_reckon 436 = .ok (.lstore 19, 2) := by decide +kernel
theorem dX7_reckon_438 : decode cX7_reckon 438 = .ok (.goto (-22), 3) := by decide +kernel
theorem dX7_reckon_441 : decode cX7_reckon 441 = .ok (.aload_n 0, 1) := by decide +kernel
theorem dX7_reckon_442 : decode cX7_reckon 442 = .ok (.iconst 3, 1) := by decide +kernel
theorem dX7_reckon_443 : decode cX7_reckon 443 = .ok (.lload 19, 2) := by decide +kernel
theorem dX7_reckon_445 : decode cX7_reckon 445 = .ok (.lload 14, 2) := by decide +kernel
theorem dX7_reckon_447 : decode cX7_reckon 447 = .ok (.lsub, 1) := by decide +kernel
theorem dX7_reckon_448 : decode cX7_reckon 448 = .ok (.aload_n 0, 1) := by decide +kernel
theorem dX7_reckon_449 : decode cX7_reckon 449 = .ok (.getfield 16, 3) := by decide +kernel
theorem dX7_reckon_452 : decode cX7_reckon 452 = .ok (.iload 18, 2) := by decide +kernel
theorem dX7_reckon_454 : decode cX7_reckon 454 = .ok (.iaload, 1) := by decide +kernel
theorem dX7_reckon_455 : decode cX7_reckon 455 = .ok (.invokevirtual 199, 3) := by decide +kernel
theorem dX7_reckon_458 : decode cX7_reckon 458 = .ok (.lload 19, 2) := by decide +kernel
theorem dX7_reckon_460 : decode cX7_reckon 460 = .ok (.lstore 14, 2) := by decide +kernel
theorem dX7_reckon_462 : decode cX7_reckon 462 = .ok (.lload 14, 2) := by decide +kernel
theorem dX7_reckon_464 : decode cX7_reckon 464 = .ok (.lreturn, 1) := by decide +kernel
theorem dX7_refusal_0 : decode cX7_refusal 0 = .ok (.iload_n 1, 1) := by decide +kernel
theorem dX7_refusal_1 : decode cX7_refusal 1 = .ok (.ifCond .lt 11, 3) := by decide +kernel
theorem dX7_refusal_4 : decode cX7_refusal 4 = .ok (.iload_n 1, 1) := by decide +kernel
theorem dX7_refusal_5 : decode cX7_refusal 5 = .ok (.aload_n 0, 1) := by decide +kernel
theorem dX7_refusal_6 : decode cX7_refusal 6 = .ok (.getfield 168, 3) := by decide +kernel
theorem dX7_refusal_9 : decode cX7_refusal 9 = .ok (.if_icmp .lt 6, 3) := by decide +kernel
theorem dX7_refusal_12 : decode cX7_refusal 12 = .ok (.ldc 171, 2) := by decide +kernel
theorem dX7_refusal_14 : decode cX7_refusal 14 = .ok (.ireturn, 1) := by decide +kernel
theorem dX7_refusal_15 : decode cX7_refusal 15 = .ok (.iload_n 2, 1) := by decide +kernel
theorem dX7_refusal_16 : decode cX7_refusal 16 = .ok (.i2l, 1) := by decide +kernel
theorem dX7_refusal_17 : decode cX7_refusal 17 = .ok (.lconst 0, 1) := by decide +kernel
theorem dX7_refusal_18 : decode cX7_refusal 18 = .ok (.ldc2_w 159, 3) := by decide +kernel
theorem dX7_refusal_21 : decode cX7_refusal 21 = .ok (.invokestatic 161, 3) := by decide +kernel
theorem dX7_refusal_24 : decode cX7_refusal 24 = .ok (.ifCond .eq 14, 3) := by decide +kernel
theorem dX7_refusal_27 : decode cX7_refusal 27 = .ok (.lload_n 3, 1) := by decide +kernel
theorem dX7_refusal_28 : decode cX7_refusal 28 = .ok (.lconst 0, 1) := by decide +kernel
theorem dX7_refusal_29 : decode cX7_refusal 29 = .ok (.ldc2_w 205, 3) := by decide +kernel
theorem dX7_refusal_32 : decode cX7_refusal 32 = .ok (.invokestatic 161, 3) := by decide +kernel
theorem dX7_refusal_35 : decode cX7_refusal 35 = .ok (.ifCond .ne 6, 3) := by decide +kernel
theorem dX7_refusal_38 : decode cX7_refusal 38 = .ok (.ldc 167, 2) := by decide +kernel
theorem dX7_refusal_40 : decode cX7_refusal 40 = .ok (.ireturn, 1) := by decide +kernel
theorem dX7_refusal_41 : decode cX7_refusal 41 = .ok (.aload_n 0, 1) := by decide +kernel
theorem dX7_refusal_42 : decode cX7_refusal 42 = .ok (.getfield 155, 3) := by decide +kernel
theorem dX7_refusal_45 : decode cX7_refusal 45 = .ok (.ifCond .ne 8, 3) := by decide +kernel
theorem dX7_refusal_48 : decode cX7_refusal 48 = .ok (.ldc 207, 2) := by decide +kernel
theorem dX7_refusal_50 : decode cX7_refusal 50 = .ok (.goto 4, 3) := by decide +kernel
theorem dX7_refusal_53 : decode cX7_refusal 53 = .ok (.iconst 0, 1) := by decide +kernel
theorem dX7_refusal_54 : decode cX7_refusal 54 = .ok (.ireturn, 1) := by decide +kernel
theorem dX7_price_0 : decode cX7_price 0 = .ok (.aload_n 0, 1) := by decide +kernel
theorem dX7_price_1 : decode cX7_price 1 = .ok (.iconst 0, 1) := by decide +kernel
theorem dX7_price_2 : decode cX7_price 2 = .ok (.putfield 75, 3) := by decide +kernel
theorem dX7_price_5 : decode cX7_price 5 = .ok (.aload_n 0, 1) := by decide +kernel
theorem dX7_price_6 : decode cX7_price 6 = .ok (.iload_n 1, 1) := by decide +kernel
theorem dX7_price_7 : decode cX7_price 7 = .ok (.iload_n 2, 1) := by decide +kernel
theorem dX7_price_8 : decode cX7_price 8 = .ok (.lload_n 3, 1) := by decide +kernel
theorem dX7_price_9 : decode cX7_price 9 = .ok (.invokevirtual 208, 3) := by decide +kernel
theorem dX7_price_12 : decode cX7_price 12 = .ok (.istore 5, 2) := by decide +kernel
theorem dX7_price_14 : decode cX7_price 14 = .ok (.iload 5, 2) := by decide +kernel
theorem dX7_price_16 : decode cX7_price 16 = .ok (.ifCond .eq 9, 3) := by decide +kernel
theorem dX7_price_19 : decode cX7_price 19 = .ok (.iload 5, 2) := by decide +kernel
theorem dX7_price_21 : decode cX7_price 21 = .ok (.i2l, 1) := by decide +kernel
theorem dX7_price_22 : decode cX7_price 22 = .ok (.goto 16, 3) := by decide +kernel
theorem dX7_price_25 : decode cX7_price 25 = .ok (.aload_n 0, 1) := by decide +kernel
theorem dX7_price_26 : decode cX7_price 26 = .ok (.iload_n 1, 1) := by decide +kernel
theorem dX7_price_27 : decode cX7_price 27 = .ok (.aload_n 0, 1) := by decide +kernel
theorem dX7_price_28 : decode cX7_price 28 = .ok (.getfield 28, 3) := by decide +kernel
theorem dX7_price_31 : decode cX7_price 31 = .ok (.iload_n 1, 1) := by decide +kernel
theorem dX7_price_32 : decode cX7_price 32 = .ok (.iaload, 1) := by decide +kernel
theorem dX7_price_33 : decode cX7_price 33 = .ok (.iload_n 2, 1) := by decide +kernel
theorem dX7_price_34 : decode cX7_price 34 = .ok (.lload_n 3, 1) := by decide +kernel
theorem dX7_price_35 : decode cX7_price 35 = .ok (.invokevirtual 212, 3) := by decide +kernel
theorem dX7_price_38 : decode cX7_price 38 = .ok (.lreturn, 1) := by decide +kernel
theorem dX7_least_0 : decode cX7_least 0 = .ok (.aload_n 0, 1) := by decide +kernel
theorem dX7_least_1 : decode cX7_least 1 = .ok (.iconst 0, 1) := by decide +kernel
theorem dX7_least_2 : decode cX7_least 2 = .ok (.putfield 75, 3) := by decide +kernel
theorem dX7_least_5 : decode cX7_least 5 = .ok (.aload_n 0, 1) := by decide +kernel
theorem dX7_least_6 : decode cX7_least 6 = .ok (.iload_n 1, 1) := by decide +kernel
theorem dX7_least_7 : decode cX7_least 7 = .ok (.iload_n 2, 1) := by decide +kernel
theorem dX7_least_8 : decode cX7_least 8 = .ok (.lload_n 3, 1) := by decide +kernel
theorem dX7_least_9 : decode cX7_least 9 = .ok (.invokevirtual 208, 3) := by decide +kernel
theorem dX7_least_12 : decode cX7_least 12 = .ok (.istore 5, 2) := by decide +kernel
theorem dX7_least_14 : decode cX7_least 14 = .ok (.iload 5, 2) := by decide +kernel
theorem dX7_least_16 : decode cX7_least 16 = .ok (.ifCond .eq 6, 3) := by decide +kernel
theorem dX7_least_19 : decode cX7_least 19 = .ok (.iload 5, 2) := by decide +kernel
theorem dX7_least_21 : decode cX7_least 21 = .ok (.ireturn, 1) := by decide +kernel
theorem dX7_least_22 : decode cX7_least 22 = .ok (.aload_n 0, 1) := by decide +kernel
theorem dX7_least_23 : decode cX7_least 23 = .ok (.getfield 172, 3) := by decide +kernel
theorem dX7_least_26 : decode cX7_least 26 = .ok (.istore 6, 2) := by decide +kernel
theorem dX7_least_28 : decode cX7_least 28 = .ok (.iconst 0, 1) := by decide +kernel
theorem dX7_least_29 : decode cX7_least 29 = .ok (.istore 7, 2) := by decide +kernel
theorem dX7_least_31 : decode cX7_least 31 = .ok (.iload 7, 2) := by decide +kernel
theorem dX7_least_33 : decode cX7_least 33 = .ok (.bipush 16, 2) := by decide +kernel
theorem dX7_least_35 : decode cX7_least 35 = .ok (.if_icmp .ge 51, 3) := by decide +kernel
theorem dX7_least_38 : decode cX7_least 38 = .ok (.aload_n 0, 1) := by decide +kernel
theorem dX7_least_39 : decode cX7_least 39 = .ok (.getfield 66, 3) := by decide +kernel
theorem dX7_least_42 : decode cX7_least 42 = .ok (.iload 7, 2) := by decide +kernel
theorem dX7_least_44 : decode cX7_least 44 = .ok (.aload_n 0, 1) := by decide +kernel
theorem dX7_least_45 : decode cX7_least 45 = .ok (.getfield 47, 3) := by decide +kernel
theorem dX7_least_48 : decode cX7_least 48 = .ok (.iload 7, 2) := by decide +kernel
theorem dX7_least_50 : decode cX7_least 50 = .ok (.iaload, 1) := by decide +kernel
theorem dX7_least_51 : decode cX7_least 51 = .ok (.iastore, 1) := by decide +kernel
theorem dX7_least_52 : decode cX7_least 52 = .ok (.aload_n 0, 1) := by decide +kernel
theorem dX7_least_53 : decode cX7_least 53 = .ok (.getfield 69, 3) := by decide +kernel
theorem dX7_least_56 : decode cX7_least 56 = .ok (.iload 7, 2) := by decide +kernel
theorem dX7_least_58 : decode cX7_least 58 = .ok (.aload_n 0, 1) := by decide +kernel
theorem dX7_least_59 : decode cX7_least 59 = .ok (.getfield 50, 3) := by decide +kernel
theorem dX7_least_62 : decode cX7_least 62 = .ok (.iload 7, 2) := by decide +kernel
theorem dX7_least_64 : decode cX7_least 64 = .ok (.laload, 1) := by decide +kernel
theorem dX7_least_65 : decode cX7_least 65 = .ok (.lastore, 1) := by decide +kernel
theorem dX7_least_66 : decode cX7_least 66 = .ok (.aload_n 0, 1) := by decide +kernel
theorem dX7_least_67 : decode cX7_least 67 = .ok (.getfield 72, 3) := by decide +kernel
theorem dX7_least_70 : decode cX7_least 70 = .ok (.iload 7, 2) := by decide +kernel
theorem dX7_least_72 : decode cX7_least 72 = .ok (.aload_n 0, 1) := by decide +kernel
theorem dX7_least_73 : decode cX7_least 73 = .ok (.getfield 54, 3) := by decide +kernel
theorem dX7_least_76 : decode cX7_least 76 = .ok (.iload 7, 2) := by decide +kernel
theorem dX7_least_78 : decode cX7_least 78 = .ok (.iaload, 1) := by decide +kernel
theorem dX7_least_79 : decode cX7_least 79 = .ok (.iastore, 1) := by decide +kernel
theorem dX7_least_80 : decode cX7_least 80 = .ok (.iinc 7 1, 3) := by decide +kernel
theorem dX7_least_83 : decode cX7_least 83 = .ok (.goto (-52), 3) := by decide +kernel
theorem dX7_least_86 : decode cX7_least 86 = .ok (.iconst (-1), 1) := by decide +kernel
theorem dX7_least_87 : decode cX7_least 87 = .ok (.istore 7, 2) := by decide +kernel
theorem dX7_least_89 : decode cX7_least 89 = .ok (.lconst 0, 1) := by decide +kernel
theorem dX7_least_90 : decode cX7_least 90 = .ok (.lstore 8, 2) := by decide +kernel
theorem dX7_least_92 : decode cX7_least 92 = .ok (.iconst 0, 1) := by decide +kernel
theorem dX7_least_93 : decode cX7_least 93 = .ok (.istore 10, 2) := by decide +kernel
theorem dX7_least_95 : decode cX7_least 95 = .ok (.iload 10, 2) := by decide +kernel
theorem dX7_least_97 : decode cX7_least 97 = .ok (.bipush 10, 2) := by decide +kernel
theorem dX7_least_99 : decode cX7_least 99 = .ok (.if_icmp .ge 49, 3) := by decide +kernel
theorem dX7_least_102 : decode cX7_least 102 = .ok (.aload_n 0, 1) := by decide +kernel
theorem dX7_least_103 : decode cX7_least 103 = .ok (.iload_n 1, 1) := by decide +kernel
theorem dX7_least_104 : decode cX7_least 104 = .ok (.iload 10, 2) := by decide +kernel
theorem dX7_least_106 : decode cX7_least 106 = .ok (.iload_n 2, 1) := by decide +kernel
theorem dX7_least_107 : decode cX7_least 107 = .ok (.lload_n 3, 1) := by decide +kernel
theorem dX7_least_108 : decode cX7_least 108 = .ok (.invokevirtual 212, 3) := by decide +kernel
theorem dX7_least_111 : decode cX7_least 111 = .ok (.lstore 11, 2) := by decide +kernel
theorem dX7_least_113 : decode cX7_least 113 = .ok (.lload 11, 2) := by decide +kernel
theorem dX7_least_115 : decode cX7_least 115 = .ok (.lconst 0, 1) := by decide +kernel
theorem dX7_least_116 : decode cX7_least 116 = .ok (.lcmp, 1) := by decide +kernel
theorem dX7_least_117 : decode cX7_least 117 = .ok (.ifCond .lt 25, 3) := by decide +kernel
theorem dX7_least_120 : decode cX7_least 120 = .ok (.iload 7, 2) := by decide +kernel
theorem dX7_least_122 : decode cX7_least 122 = .ok (.iconst (-1), 1) := by decide +kernel
theorem dX7_least_123 : decode cX7_least 123 = .ok (.if_icmp .eq 11, 3) := by decide +kernel
theorem dX7_least_126 : decode cX7_least 126 = .ok (.lload 11, 2) := by decide +kernel
theorem dX7_least_128 : decode cX7_least 128 = .ok (.lload 8, 2) := by decide +kernel
theorem dX7_least_130 : decode cX7_least 130 = .ok (.lcmp, 1) := by decide +kernel
theorem dX7_least_131 : decode cX7_least 131 = .ok (.ifCond .ge 11, 3) := by decide +kernel
theorem dX7_least_134 : decode cX7_least 134 = .ok (.iload 10, 2) := by decide +kernel
theorem dX7_least_136 : decode cX7_least 136 = .ok (.istore 7, 2) := by decide +kernel
theorem dX7_least_138 : decode cX7_least 138 = .ok (.lload 11, 2) := by decide +kernel
theorem dX7_least_140 : decode cX7_least 140 = .ok (.lstore 8, 2) := by decide +kernel
theorem dX7_least_142 : decode cX7_least 142 = .ok (.iinc 10 1, 3) := by decide +kernel
theorem dX7_least_145 : decode cX7_least 145 = .ok (.goto (-50), 3) := by decide +kernel
theorem dX7_least_148 : decode cX7_least 148 = .ok (.aload_n 0, 1) := by decide +kernel
theorem dX7_least_149 : decode cX7_least 149 = .ok (.iload 6, 2) := by decide +kernel
theorem dX7_least_151 : decode cX7_least 151 = .ok (.putfield 172, 3) := by decide +kernel
theorem dX7_least_154 : decode cX7_least 154 = .ok (.iconst 0, 1) := by decide +kernel
theorem dX7_least_155 : decode cX7_least 155 = .ok (.istore 10, 2) := by decide +kernel
theorem dX7_least_157 : decode cX7_least 157 = .ok (.iload 10, 2) := by decide +kernel
theorem dX7_least_159 : decode cX7_least 159 = .ok (.bipush 16, 2) := by decide +kernel
theorem dX7_least_161 : decode cX7_least 161 = .ok (.if_icmp .ge 51, 3) := by decide +kernel
theorem dX7_least_164 : decode cX7_least 164 = .ok (.aload_n 0, 1) := by decide +kernel
theorem dX7_least_165 : decode cX7_least 165 = .ok (.getfield 47, 3) := by decide +kernel
theorem dX7_least_168 : decode cX7_least 168 = .ok (.iload 10, 2) := by decide +kernel
theorem dX7_least_170 : decode cX7_least 170 = .ok (.aload_n 0, 1) := by decide +kernel
theorem dX7_least_171 : decode cX7_least 171 = .ok (.getfield 66, 3) := by decide +kernel
theorem dX7_least_174 : decode cX7_least 174 = .ok (.iload 10, 2) := by decide +kernel
theorem dX7_least_176 : decode cX7_least 176 = .ok (.iaload, 1) := by decide +kernel
theorem dX7_least_177 : decode cX7_least 177 = .ok (.iastore, 1) := by decide +kernel
theorem dX7_least_178 : decode cX7_least 178 = .ok (.aload_n 0, 1) := by decide +kernel
theorem dX7_least_179 : decode cX7_least 179 = .ok (.getfield 50, 3) := by decide +kernel
theorem dX7_least_182 : decode cX7_least 182 = .ok (.iload 10, 2) := by decide +kernel
theorem dX7_least_184 : decode cX7_least 184 = .ok (.aload_n 0, 1) := by decide +kernel
theorem dX7_least_185 : decode cX7_least 185 = .ok (.getfield 69, 3) := by decide +kernel
theorem dX7_least_188 : decode cX7_least 188 = .ok (.iload 10, 2) := by decide +kernel
theorem dX7_least_190 : decode cX7_least 190 = .ok (.laload, 1) := by decide +kernel
theorem dX7_least_191 : decode cX7_least 191 = .ok (.lastore, 1) := by decide +kernel
theorem dX7_least_192 : decode cX7_least 192 = .ok (.aload_n 0, 1) := by decide +kernel
theorem dX7_least_193 : decode cX7_least 193 = .ok (.getfield 54, 3) := by decide +kernel
theorem dX7_least_196 : decode cX7_least 196 = .ok (.iload 10, 2) := by decide +kernel
theorem dX7_least_198 : decode cX7_least 198 = .ok (.aload_n 0, 1) := by decide +kernel
theorem dX7_least_199 : decode cX7_least 199 = .ok (.getfield 72, 3) := by decide +kernel
theorem dX7_least_202 : decode cX7_least 202 = .ok (.iload 10, 2) := by decide +kernel
theorem dX7_least_204 : decode cX7_least 204 = .ok (.iaload, 1) := by decide +kernel
theorem dX7_least_205 : decode cX7_least 205 = .ok (.iastore, 1) := by decide +kernel
theorem dX7_least_206 : decode cX7_least 206 = .ok (.iinc 10 1, 3) := by decide +kernel
theorem dX7_least_209 : decode cX7_least 209 = .ok (.goto (-52), 3) := by decide +kernel
theorem dX7_least_212 : decode cX7_least 212 = .ok (.iload 7, 2) := by decide +kernel
theorem dX7_least_214 : decode cX7_least 214 = .ok (.ireturn, 1) := by decide +kernel
theorem dX7_explain_0 : decode cX7_explain 0 = .ok (.aload_n 0, 1) := by decide +kernel
theorem dX7_explain_1 : decode cX7_explain 1 = .ok (.iconst 0, 1) := by decide +kernel
theorem dX7_explain_2 : decode cX7_explain 2 = .ok (.putfield 75, 3) := by decide +kernel
theorem dX7_explain_5 : decode cX7_explain 5 = .ok (.iload_n 1, 1) := by decide +kernel
theorem dX7_explain_6 : decode cX7_explain 6 = .ok (.ifCond .lt 20, 3) := by decide +kernel
theorem dX7_explain_9 : decode cX7_explain 9 = .ok (.iload_n 1, 1) := by decide +kernel
theorem dX7_explain_10 : decode cX7_explain 10 = .ok (.aload_n 0, 1) := by decide +kernel
theorem dX7_explain_11 : decode cX7_explain 11 = .ok (.getfield 172, 3) := by decide +kernel
theorem dX7_explain_14 : decode cX7_explain 14 = .ok (.if_icmp .ge 12, 3) := by decide +kernel
theorem dX7_explain_17 : decode cX7_explain 17 = .ok (.iload_n 2, 1) := by decide +kernel
theorem dX7_explain_18 : decode cX7_explain 18 = .ok (.ifCond .lt 8, 3) := by decide +kernel
theorem dX7_explain_21 : decode cX7_explain 21 = .ok (.iload_n 2, 1) := by decide +kernel
theorem dX7_explain_22 : decode cX7_explain 22 = .ok (.iconst 2, 1) := by decide +kernel
theorem dX7_explain_23 : decode cX7_explain 23 = .ok (.if_icmp .le 5, 3) := by decide +kernel
theorem dX7_explain_26 : decode cX7_explain 26 = .ok (.iconst (-1), 1) := by decide +kernel
theorem dX7_explain_27 : decode cX7_explain 27 = .ok (.ireturn, 1) := by decide +kernel
theorem dX7_explain_28 : decode cX7_explain 28 = .ok (.iload_n 2, 1) := by decide +kernel
theorem dX7_explain_29 : decode cX7_explain 29 = .ok (.ifCond .ne 12, 3) := by decide +kernel
theorem dX7_explain_32 : decode cX7_explain 32 = .ok (.aload_n 0, 1) := by decide +kernel
theorem dX7_explain_33 : decode cX7_explain 33 = .ok (.getfield 47, 3) := by decide +kernel
theorem dX7_explain_36 : decode cX7_explain 36 = .ok (.iload_n 1, 1) := by decide +kernel
theorem dX7_explain_37 : decode cX7_explain 37 = .ok (.iaload, 1) := by decide +kernel
theorem dX7_explain_38 : decode cX7_explain 38 = .ok (.goto 24, 3) := by decide +kernel
theorem dX7_explain_41 : decode cX7_explain 41 = .ok (.iload_n 2, 1) := by decide +kernel
theorem dX7_explain_42 : decode cX7_explain 42 = .ok (.iconst 1, 1) := by decide +kernel
theorem dX7_explain_43 : decode cX7_explain 43 = .ok (.if_icmp .ne 13, 3) := by decide +kernel
theorem dX7_explain_46 : decode cX7_explain 46 = .ok (.aload_n 0, 1) := by decide +kernel
theorem dX7_explain_47 : decode cX7_explain 47 = .ok (.getfield 50, 3) := by decide +kernel
theorem dX7_explain_50 : decode cX7_explain 50 = .ok (.iload_n 1, 1) := by decide +kernel
theorem dX7_explain_51 : decode cX7_explain 51 = .ok (.laload, 1) := by decide +kernel
theorem dX7_explain_52 : decode cX7_explain 52 = .ok (.l2i, 1) := by decide +kernel
theorem dX7_explain_53 : decode cX7_explain 53 = .ok (.goto 9, 3) := by decide +kernel
theorem dX7_explain_56 : decode cX7_explain 56 = .ok (.aload_n 0, 1) := by decide +kernel
theorem dX7_explain_57 : decode cX7_explain 57 = .ok (.getfield 54, 3) := by decide +kernel
theorem dX7_explain_60 : decode cX7_explain 60 = .ok (.iload_n 1, 1) := by decide +kernel
theorem dX7_explain_61 : decode cX7_explain 61 = .ok (.iaload, 1) := by decide +kernel
theorem dX7_explain_62 : decode cX7_explain 62 = .ok (.ireturn, 1) := by decide +kernel
theorem dX7_dimensional_0 : decode cX7_dimensional 0 = .ok (.aload_n 0, 1) := by decide +kernel
theorem dX7_dimensional_1 : decode cX7_dimensional 1 = .ok (.iconst 0, 1) := by decide +kernel
theorem dX7_dimensional_2 : decode cX7_dimensional 2 = .ok (.putfield 75, 3) := by decide +kernel
theorem dX7_dimensional_5 : decode cX7_dimensional 5 = .ok (.lload_n 1, 1) := by decide +kernel
theorem dX7_dimensional_6 : decode cX7_dimensional 6 = .ok (.lconst 0, 1) := by decide +kernel
theorem dX7_dimensional_7 : decode cX7_dimensional 7 = .ok (.ldc2_w 216, 3) := by decide +kernel
theorem dX7_dimensional_10 : decode cX7_dimensional 10 = .ok (.invokestatic 161, 3) := by decide +kernel
theorem dX7_dimensional_13 : decode cX7_dimensional 13 = .ok (.ifCond .eq 14, 3) := by decide +kernel
theorem dX7_dimensional_16 : decode cX7_dimensional 16 = .ok (.lload_n 3, 1) := by decide +kernel
theorem dX7_dimensional_17 : decode cX7_dimensional 17 = .ok (.lconst 0, 1) := by decide +kernel
theorem dX7_dimensional_18 : decode cX7_dimensional 18 = .ok (.ldc2_w 216, 3) := by decide +kernel
theorem dX7_dimensional_21 : decode cX7_dimensional 21 = .ok (.invokestatic 161, 3) := by decide +kernel
theorem dX7_dimensional_24 : decode cX7_dimensional 24 = .ok (.ifCond .ne 7, 3) := by decide +kernel
theorem dX7_dimensional_27 : decode cX7_dimensional 27 = .ok (.ldc2_w 218, 3) := by decide +kernel
theorem dX7_dimensional_30 : decode cX7_dimensional 30 = .ok (.lreturn, 1) := by decide +kernel
theorem dX7_dimensional_31 : decode cX7_dimensional 31 = .ok (.aload_n 0, 1) := by decide +kernel
theorem dX7_dimensional_32 : decode cX7_dimensional 32 = .ok (.lload_n 3, 1) := by decide +kernel
theorem dX7_dimensional_33 : decode cX7_dimensional 33 = .ok (.lconst 0, 1) := by decide +kernel
theorem dX7_dimensional_34 : decode cX7_dimensional 34 = .ok (.lcmp, 1) := by decide +kernel
theorem dX7_dimensional_35 : decode cX7_dimensional 35 = .ok (.ifCond .ne 7, 3) := by decide +kernel
theorem dX7_dimensional_38 : decode cX7_dimensional 38 = .ok (.iconst 1, 1) := by decide +kernel
theorem dX7_dimensional_39 : decode cX7_dimensional 39 = .ok (.goto 4, 3) := by decide +kernel
theorem dX7_dimensional_42 : decode cX7_dimensional 42 = .ok (.iconst 0, 1) := by decide +kernel
theorem dX7_dimensional_43 : decode cX7_dimensional 43 = .ok (.putfield 75, 3) := by decide +kernel
theorem dX7_dimensional_46 : decode cX7_dimensional 46 = .ok (.aload_n 0, 1) := by decide +kernel
theorem dX7_dimensional_47 : decode cX7_dimensional 47 = .ok (.getfield 75, 3) := by decide +kernel
theorem dX7_dimensional_50 : decode cX7_dimensional 50 = .ok (.ifCond .le 5, 3) := by decide +kernel
theorem dX7_dimensional_53 : decode cX7_dimensional 53 = .ok (.lconst 0, 1) := by decide +kernel
theorem dX7_dimensional_54 : decode cX7_dimensional 54 = .ok (.lreturn, 1) := by decide +kernel
theorem dX7_dimensional_55 : decode cX7_dimensional 55 = .ok (.lload_n 1, 1) := by decide +kernel
theorem dX7_dimensional_56 : decode cX7_dimensional 56 = .ok (.lload_n 3, 1) := by decide +kernel
theorem dX7_dimensional_57 : decode cX7_dimensional 57 = .ok (.ldiv, 1) := by decide +kernel
theorem dX7_dimensional_58 : decode cX7_dimensional 58 = .ok (.lstore 5, 2) := by decide +kernel
theorem dX7_dimensional_60 : decode cX7_dimensional 60 = .ok (.lload 5, 2) := by decide +kernel
theorem dX7_dimensional_62 : decode cX7_dimensional 62 = .ok (.lload_n 3, 1) := by decide +kernel
theorem dX7_dimensional_63 : decode cX7_dimensional 63 = .ok (.lmul, 1) := by decide +kernel
theorem dX7_dimensional_64 : decode cX7_dimensional 64 = .ok (.lload_n 1, 1) := by decide +kernel
theorem dX7_dimensional_65 : decode cX7_dimensional 65 = .ok (.lcmp, 1) := by decide +kernel
theorem dX7_dimensional_66 : decode cX7_dimensional 66 = .ok (.ifCond .ge 10, 3) := by decide +kernel
theorem dX7_dimensional_69 : decode cX7_dimensional 69 = .ok (.lload 5, 2) := by decide +kernel
theorem dX7_dimensional_71 : decode cX7_dimensional 71 = .ok (.lconst 1, 1) := by decide +kernel
theorem dX7_dimensional_72 : decode cX7_dimensional 72 = .ok (.ladd, 1) := by decide +kernel
theorem dX7_dimensional_73 : decode cX7_dimensional 73 = .ok (.goto 5, 3) := by decide +kernel
theorem dX7_dimensional_76 : decode cX7_dimensional 76 = .ok (.lload 5, 2) := by decide +kernel
theorem dX7_dimensional_78 : decode cX7_dimensional 78 = .ok (.lreturn, 1) := by decide +kernel
theorem dX7_put_0 : decode cX7_put 0 = .ok (.aload_n 0, 1) := by decide +kernel
theorem dX7_put_1 : decode cX7_put 1 = .ok (.getfield 60, 3) := by decide +kernel
theorem dX7_put_4 : decode cX7_put 4 = .ok (.aload_n 0, 1) := by decide +kernel
theorem dX7_put_5 : decode cX7_put 5 = .ok (.getfield 220, 3) := by decide +kernel
theorem dX7_put_8 : decode cX7_put 8 = .ok (.iload_n 1, 1) := by decide +kernel
theorem dX7_put_9 : decode cX7_put 9 = .ok (.iastore, 1) := by decide +kernel
theorem dX7_put_10 : decode cX7_put 10 = .ok (.aload_n 0, 1) := by decide +kernel
theorem dX7_put_11 : decode cX7_put 11 = .ok (.dup, 1) := by decide +kernel
theorem dX7_put_12 : decode cX7_put 12 = .ok (.getfield 220, 3) := by decide +kernel
theorem dX7_put_15 : decode cX7_put 15 = .ok (.iconst 1, 1) := by decide +kernel
theorem dX7_put_16 : decode cX7_put 16 = .ok (.iadd, 1) := by decide +kernel
theorem dX7_put_17 : decode cX7_put 17 = .ok (.putfield 220, 3) := by decide +kernel
theorem dX7_put_20 : decode cX7_put 20 = .ok (.return_, 1) := by decide +kernel
theorem dX7_putNumber_0 : decode cX7_putNumber 0 = .ok (.iconst 1, 1) := by decide +kernel
theorem dX7_putNumber_1 : decode cX7_putNumber 1 = .ok (.istore_n 2, 1) := by decide +kernel
theorem dX7_putNumber_2 : decode cX7_putNumber 2 = .ok (.iload_n 1, 1) := by decide +kernel
theorem dX7_putNumber_3 : decode cX7_putNumber 3 = .ok (.iload_n 2, 1) := by decide +kernel
theorem dX7_putNumber_4 : decode cX7_putNumber 4 = .ok (.idiv, 1) := by decide +kernel
theorem dX7_putNumber_5 : decode cX7_putNumber 5 = .ok (.bipush 9, 2) := by decide +kernel
theorem dX7_putNumber_7 : decode cX7_putNumber 7 = .ok (.if_icmp .le 11, 3) := by decide +kernel
theorem dX7_putNumber_10 : decode cX7_putNumber 10 = .ok (.bipush 10, 2) := by decide +kernel
theorem dX7_putNumber_12 : decode cX7_putNumber 12 = .ok (.iload_n 2, 1) := by decide +kernel
theorem dX7_putNumber_13 : decode cX7_putNumber 13 = .ok (.imul, 1) := by decide +kernel
theorem dX7_putNumber_14 : decode cX7_putNumber 14 = .ok (.istore_n 2, 1) := by decide +kernel
theorem dX7_putNumber_15 : decode cX7_putNumber 15 = .ok (.goto (-13), 3) := by decide +kernel
theorem dX7_putNumber_18 : decode cX7_putNumber 18 = .ok (.iload_n 2, 1) := by decide +kernel
theorem dX7_putNumber_19 : decode cX7_putNumber 19 = .ok (.ifCond .le 24, 3) := by decide +kernel
theorem dX7_putNumber_22 : decode cX7_putNumber 22 = .ok (.aload_n 0, 1) := by decide +kernel
theorem dX7_putNumber_23 : decode cX7_putNumber 23 = .ok (.bipush 48, 2) := by decide +kernel
theorem dX7_putNumber_25 : decode cX7_putNumber 25 = .ok (.iload_n 1, 1) := by decide +kernel
theorem dX7_putNumber_26 : decode cX7_putNumber 26 = .ok (.iload_n 2, 1) := by decide +kernel
theorem dX7_putNumber_27 : decode cX7_putNumber 27 = .ok (.idiv, 1) := by decide +kernel
theorem dX7_putNumber_28 : decode cX7_putNumber 28 = .ok (.bipush 10, 2) := by decide +kernel
theorem dX7_putNumber_30 : decode cX7_putNumber 30 = .ok (.irem, 1) := by decide +kernel
theorem dX7_putNumber_31 : decode cX7_putNumber 31 = .ok (.iadd, 1) := by decide +kernel
theorem dX7_putNumber_32 : decode cX7_putNumber 32 = .ok (.invokevirtual 223, 3) := by decide +kernel
theorem dX7_putNumber_35 : decode cX7_putNumber 35 = .ok (.iload_n 2, 1) := by decide +kernel
theorem dX7_putNumber_36 : decode cX7_putNumber 36 = .ok (.bipush 10, 2) := by decide +kernel
theorem dX7_putNumber_38 : decode cX7_putNumber 38 = .ok (.idiv, 1) := by decide +kernel
theorem dX7_putNumber_39 : decode cX7_putNumber 39 = .ok (.istore_n 2, 1) := by decide +kernel
theorem dX7_putNumber_40 : decode cX7_putNumber 40 = .ok (.goto (-22), 3) := by decide +kernel
theorem dX7_putNumber_43 : decode cX7_putNumber 43 = .ok (.return_, 1) := by decide +kernel
theorem dX7_putRow_0 : decode cX7_putRow 0 = .ok (.aload_n 0, 1) := by decide +kernel
theorem dX7_putRow_1 : decode cX7_putRow 1 = .ok (.bipush 59, 2) := by decide +kernel
theorem dX7_putRow_3 : decode cX7_putRow 3 = .ok (.invokevirtual 223, 3) := by decide +kernel
theorem dX7_putRow_6 : decode cX7_putRow 6 = .ok (.aload_n 0, 1) := by decide +kernel
theorem dX7_putRow_7 : decode cX7_putRow 7 = .ok (.iload_n 1, 1) := by decide +kernel
theorem dX7_putRow_8 : decode cX7_putRow 8 = .ok (.invokevirtual 223, 3) := by decide +kernel
theorem dX7_putRow_11 : decode cX7_putRow 11 = .ok (.aload_n 0, 1) := by decide +kernel
theorem dX7_putRow_12 : decode cX7_putRow 12 = .ok (.iload_n 3, 1) := by decide +kernel
theorem dX7_putRow_13 : decode cX7_putRow 13 = .ok (.invokevirtual 226, 3) := by decide +kernel
theorem dX7_putRow_16 : decode cX7_putRow 16 = .ok (.iload_n 2, 1) := by decide +kernel
theorem dX7_putRow_17 : decode cX7_putRow 17 = .ok (.iconst 1, 1) := by decide +kernel
theorem dX7_putRow_18 : decode cX7_putRow 18 = .ok (.if_icmp .le 15, 3) := by decide +kernel
theorem dX7_putRow_21 : decode cX7_putRow 21 = .ok (.aload_n 0, 1) := by decide +kernel
theorem dX7_putRow_22 : decode cX7_putRow 22 = .ok (.bipush 32, 2) := by decide +kernel
theorem dX7_putRow_24 : decode cX7_putRow 24 = .ok (.invokevirtual 223, 3) := by decide +kernel
theorem dX7_putRow_27 : decode cX7_putRow 27 = .ok (.aload_n 0, 1) := by decide +kernel
theorem dX7_putRow_28 : decode cX7_putRow 28 = .ok (.iload 4, 2) := by decide +kernel
theorem dX7_putRow_30 : decode cX7_putRow 30 = .ok (.invokevirtual 226, 3) := by decide +kernel
theorem dX7_putRow_33 : decode cX7_putRow 33 = .ok (.iload_n 2, 1) := by decide +kernel
theorem dX7_putRow_34 : decode cX7_putRow 34 = .ok (.iconst 2, 1) := by decide +kernel
theorem dX7_putRow_35 : decode cX7_putRow 35 = .ok (.if_icmp .le 15, 3) := by decide +kernel
theorem dX7_putRow_38 : decode cX7_putRow 38 = .ok (.aload_n 0, 1) := by decide +kernel
theorem dX7_putRow_39 : decode cX7_putRow 39 = .ok (.bipush 32, 2) := by decide +kernel
theorem dX7_putRow_41 : decode cX7_putRow 41 = .ok (.invokevirtual 223, 3) := by decide +kernel
theorem dX7_putRow_44 : decode cX7_putRow 44 = .ok (.aload_n 0, 1) := by decide +kernel
theorem dX7_putRow_45 : decode cX7_putRow 45 = .ok (.iload 5, 2) := by decide +kernel
theorem dX7_putRow_47 : decode cX7_putRow 47 = .ok (.invokevirtual 226, 3) := by decide +kernel
theorem dX7_putRow_50 : decode cX7_putRow 50 = .ok (.return_, 1) := by decide +kernel
theorem dX7_putEach_0 : decode cX7_putEach 0 = .ok (.iconst 0, 1) := by decide +kernel
theorem dX7_putEach_1 : decode cX7_putEach 1 = .ok (.istore 4, 2) := by decide +kernel
theorem dX7_putEach_3 : decode cX7_putEach 3 = .ok (.iload 4, 2) := by decide +kernel
theorem dX7_putEach_5 : decode cX7_putEach 5 = .ok (.bipush 10, 2) := by decide +kernel
theorem dX7_putEach_7 : decode cX7_putEach 7 = .ok (.if_icmp .ge 42, 3) := by decide +kernel
theorem dX7_putEach_10 : decode cX7_putEach 10 = .ok (.aload_n 0, 1) := by decide +kernel
theorem dX7_putEach_11 : decode cX7_putEach 11 = .ok (.iload_n 1, 1) := by decide +kernel
theorem dX7_putEach_12 : decode cX7_putEach 12 = .ok (.iload_n 2, 1) := by decide +kernel
theorem dX7_putEach_13 : decode cX7_putEach 13 = .ok (.iload_n 3, 1) := by decide +kernel
theorem dX7_putEach_14 : decode cX7_putEach 14 = .ok (.iload 4, 2) := by decide +kernel
theorem dX7_putEach_16 : decode cX7_putEach 16 = .ok (.invokevirtual 175, 3) := by decide +kernel
theorem dX7_putEach_19 : decode cX7_putEach 19 = .ok (.istore 5, 2) := by decide +kernel
theorem dX7_putEach_21 : decode cX7_putEach 21 = .ok (.iload 5, 2) := by decide +kernel
theorem dX7_putEach_23 : decode cX7_putEach 23 = .ok (.iconst (-1), 1) := by decide +kernel
theorem dX7_putEach_24 : decode cX7_putEach 24 = .ok (.if_icmp .eq 19, 3) := by decide +kernel
theorem dX7_putEach_27 : decode cX7_putEach 27 = .ok (.aload_n 0, 1) := by decide +kernel
theorem dX7_putEach_28 : decode cX7_putEach 28 = .ok (.iload_n 3, 1) := by decide +kernel
theorem dX7_putEach_29 : decode cX7_putEach 29 = .ok (.iconst 2, 1) := by decide +kernel
theorem dX7_putEach_30 : decode cX7_putEach 30 = .ok (.iload 4, 2) := by decide +kernel
theorem dX7_putEach_32 : decode cX7_putEach 32 = .ok (.aload_n 0, 1) := by decide +kernel
theorem dX7_putEach_33 : decode cX7_putEach 33 = .ok (.getfield 19, 3) := by decide +kernel
theorem dX7_putEach_36 : decode cX7_putEach 36 = .ok (.iload 5, 2) := by decide +kernel
theorem dX7_putEach_38 : decode cX7_putEach 38 = .ok (.iaload, 1) := by decide +kernel
theorem dX7_putEach_39 : decode cX7_putEach 39 = .ok (.iconst 0, 1) := by decide +kernel
theorem dX7_putEach_40 : decode cX7_putEach 40 = .ok (.invokevirtual 229, 3) := by decide +kernel
theorem dX7_putEach_43 : decode cX7_putEach 43 = .ok (.iinc 4 1, 3) := by decide +kernel
theorem dX7_putEach_46 : decode cX7_putEach 46 = .ok (.goto (-43), 3) := by decide +kernel
theorem dX7_putEach_49 : decode cX7_putEach 49 = .ok (.return_, 1) := by decide +kernel
theorem dX7_putOnly_0 : decode cX7_putOnly 0 = .ok (.aload_n 0, 1) := by decide +kernel
theorem dX7_putOnly_1 : decode cX7_putOnly 1 = .ok (.iload_n 1, 1) := by decide +kernel
theorem dX7_putOnly_2 : decode cX7_putOnly 2 = .ok (.iload_n 2, 1) := by decide +kernel
theorem dX7_putOnly_3 : decode cX7_putOnly 3 = .ok (.iload_n 3, 1) := by decide +kernel
theorem dX7_putOnly_4 : decode cX7_putOnly 4 = .ok (.invokevirtual 179, 3) := by decide +kernel
theorem dX7_putOnly_7 : decode cX7_putOnly 7 = .ok (.istore 5, 2) := by decide +kernel
theorem dX7_putOnly_9 : decode cX7_putOnly 9 = .ok (.iload 5, 2) := by decide +kernel
theorem dX7_putOnly_11 : decode cX7_putOnly 11 = .ok (.iconst (-1), 1) := by decide +kernel
theorem dX7_putOnly_12 : decode cX7_putOnly 12 = .ok (.if_icmp .eq 31, 3) := by decide +kernel
theorem dX7_putOnly_15 : decode cX7_putOnly 15 = .ok (.aload_n 0, 1) := by decide +kernel
theorem dX7_putOnly_16 : decode cX7_putOnly 16 = .ok (.iload_n 3, 1) := by decide +kernel
theorem dX7_putOnly_17 : decode cX7_putOnly 17 = .ok (.iload 4, 2) := by decide +kernel
theorem dX7_putOnly_19 : decode cX7_putOnly 19 = .ok (.aload_n 0, 1) := by decide +kernel
theorem dX7_putOnly_20 : decode cX7_putOnly 20 = .ok (.getfield 16, 3) := by decide +kernel
theorem dX7_putOnly_23 : decode cX7_putOnly 23 = .ok (.iload 5, 2) := by decide +kernel
theorem dX7_putOnly_25 : decode cX7_putOnly 25 = .ok (.iaload, 1) := by decide +kernel
theorem dX7_putOnly_26 : decode cX7_putOnly 26 = .ok (.aload_n 0, 1) := by decide +kernel
theorem dX7_putOnly_27 : decode cX7_putOnly 27 = .ok (.getfield 19, 3) := by decide +kernel
theorem dX7_putOnly_30 : decode cX7_putOnly 30 = .ok (.iload 5, 2) := by decide +kernel
theorem dX7_putOnly_32 : decode cX7_putOnly 32 = .ok (.iaload, 1) := by decide +kernel
theorem dX7_putOnly_33 : decode cX7_putOnly 33 = .ok (.aload_n 0, 1) := by decide +kernel
theorem dX7_putOnly_34 : decode cX7_putOnly 34 = .ok (.getfield 22, 3) := by decide +kernel
theorem dX7_putOnly_37 : decode cX7_putOnly 37 = .ok (.iload 5, 2) := by decide +kernel
theorem dX7_putOnly_39 : decode cX7_putOnly 39 = .ok (.iaload, 1) := by decide +kernel
theorem dX7_putOnly_40 : decode cX7_putOnly 40 = .ok (.invokevirtual 229, 3) := by decide +kernel
theorem dX7_putOnly_43 : decode cX7_putOnly 43 = .ok (.return_, 1) := by decide +kernel
theorem dX7_putKind_0 : decode cX7_putKind 0 = .ok (.aload_n 0, 1) := by decide +kernel
theorem dX7_putKind_1 : decode cX7_putKind 1 = .ok (.iload_n 1, 1) := by decide +kernel
theorem dX7_putKind_2 : decode cX7_putKind 2 = .ok (.iload_n 2, 1) := by decide +kernel
theorem dX7_putKind_3 : decode cX7_putKind 3 = .ok (.invokevirtual 187, 3) := by decide +kernel
theorem dX7_putKind_6 : decode cX7_putKind 6 = .ok (.istore_n 3, 1) := by decide +kernel
theorem dX7_putKind_7 : decode cX7_putKind 7 = .ok (.iload_n 3, 1) := by decide +kernel
theorem dX7_putKind_8 : decode cX7_putKind 8 = .ok (.iconst (-1), 1) := by decide +kernel
theorem dX7_putKind_9 : decode cX7_putKind 9 = .ok (.if_icmp .ne 5, 3) := by decide +kernel
theorem dX7_putKind_12 : decode cX7_putKind 12 = .ok (.iconst 0, 1) := by decide +kernel
theorem dX7_putKind_13 : decode cX7_putKind 13 = .ok (.ireturn, 1) := by decide +kernel
theorem dX7_putKind_14 : decode cX7_putKind 14 = .ok (.aload_n 0, 1) := by decide +kernel
theorem dX7_putKind_15 : decode cX7_putKind 15 = .ok (.iload_n 1, 1) := by decide +kernel
theorem dX7_putKind_16 : decode cX7_putKind 16 = .ok (.iload_n 3, 1) := by decide +kernel
theorem dX7_putKind_17 : decode cX7_putKind 17 = .ok (.invokevirtual 192, 3) := by decide +kernel
theorem dX7_putKind_20 : decode cX7_putKind 20 = .ok (.istore 4, 2) := by decide +kernel
theorem dX7_putKind_22 : decode cX7_putKind 22 = .ok (.aload_n 0, 1) := by decide +kernel
theorem dX7_putKind_23 : decode cX7_putKind 23 = .ok (.bipush 75, 2) := by decide +kernel
theorem dX7_putKind_25 : decode cX7_putKind 25 = .ok (.invokevirtual 223, 3) := by decide +kernel
theorem dX7_putKind_28 : decode cX7_putKind 28 = .ok (.aload_n 0, 1) := by decide +kernel
theorem dX7_putKind_29 : decode cX7_putKind 29 = .ok (.iload_n 2, 1) := by decide +kernel
theorem dX7_putKind_30 : decode cX7_putKind 30 = .ok (.invokevirtual 226, 3) := by decide +kernel
theorem dX7_putKind_33 : decode cX7_putKind 33 = .ok (.iload_n 3, 1) := by decide +kernel
theorem dX7_putKind_34 : decode cX7_putKind 34 = .ok (.istore 5, 2) := by decide +kernel
theorem dX7_putKind_36 : decode cX7_putKind 36 = .ok (.iload 5, 2) := by decide +kernel
theorem dX7_putKind_38 : decode cX7_putKind 38 = .ok (.iload 4, 2) := by decide +kernel
theorem dX7_putKind_40 : decode cX7_putKind 40 = .ok (.if_icmp .ge 43, 3) := by decide +kernel
theorem dX7_putKind_43 : decode cX7_putKind 43 = .ok (.aload_n 0, 1) := by decide +kernel
theorem dX7_putKind_44 : decode cX7_putKind 44 = .ok (.getfield 13, 3) := by decide +kernel
theorem dX7_putKind_47 : decode cX7_putKind 47 = .ok (.iload 5, 2) := by decide +kernel
theorem dX7_putKind_49 : decode cX7_putKind 49 = .ok (.iaload, 1) := by decide +kernel
theorem dX7_putKind_50 : decode cX7_putKind 50 = .ok (.bipush 83, 2) := by decide +kernel
theorem dX7_putKind_52 : decode cX7_putKind 52 = .ok (.if_icmp .ne 25, 3) := by decide +kernel
theorem dX7_putKind_55 : decode cX7_putKind 55 = .ok (.aload_n 0, 1) := by decide +kernel
theorem dX7_putKind_56 : decode cX7_putKind 56 = .ok (.bipush 83, 2) := by decide +kernel
theorem dX7_putKind_58 : decode cX7_putKind 58 = .ok (.iconst 2, 1) := by decide +kernel
theorem dX7_putKind_59 : decode cX7_putKind 59 = .ok (.aload_n 0, 1) := by decide +kernel
theorem dX7_putKind_60 : decode cX7_putKind 60 = .ok (.getfield 16, 3) := by decide +kernel
theorem dX7_putKind_63 : decode cX7_putKind 63 = .ok (.iload 5, 2) := by decide +kernel
theorem dX7_putKind_65 : decode cX7_putKind 65 = .ok (.iaload, 1) := by decide +kernel
theorem dX7_putKind_66 : decode cX7_putKind 66 = .ok (.aload_n 0, 1) := by decide +kernel
theorem dX7_putKind_67 : decode cX7_putKind 67 = .ok (.getfield 19, 3) := by decide +kernel
theorem dX7_putKind_70 : decode cX7_putKind 70 = .ok (.iload 5, 2) := by decide +kernel
theorem dX7_putKind_72 : decode cX7_putKind 72 = .ok (.iaload, 1) := by decide +kernel
theorem dX7_putKind_73 : decode cX7_putKind 73 = .ok (.iconst 0, 1) := by decide +kernel
theorem dX7_putKind_74 : decode cX7_putKind 74 = .ok (.invokevirtual 229, 3) := by decide +kernel
theorem dX7_putKind_77 : decode cX7_putKind 77 = .ok (.iinc 5 1, 3) := by decide +kernel
theorem dX7_putKind_80 : decode cX7_putKind 80 = .ok (.goto (-44), 3) := by decide +kernel
theorem dX7_putKind_83 : decode cX7_putKind 83 = .ok (.aload_n 0, 1) := by decide +kernel
theorem dX7_putKind_84 : decode cX7_putKind 84 = .ok (.iload_n 3, 1) := by decide +kernel
theorem dX7_putKind_85 : decode cX7_putKind 85 = .ok (.iload 4, 2) := by decide +kernel
theorem dX7_putKind_87 : decode cX7_putKind 87 = .ok (.bipush 90, 2) := by decide +kernel
theorem dX7_putKind_89 : decode cX7_putKind 89 = .ok (.invokevirtual 233, 3) := by decide +kernel
theorem dX7_putKind_92 : decode cX7_putKind 92 = .ok (.aload_n 0, 1) := by decide +kernel
theorem dX7_putKind_93 : decode cX7_putKind 93 = .ok (.iload_n 3, 1) := by decide +kernel
theorem dX7_putKind_94 : decode cX7_putKind 94 = .ok (.iload 4, 2) := by decide +kernel
theorem dX7_putKind_96 : decode cX7_putKind 96 = .ok (.bipush 88, 2) := by decide +kernel
theorem dX7_putKind_98 : decode cX7_putKind 98 = .ok (.invokevirtual 233, 3) := by decide +kernel
theorem dX7_putKind_101 : decode cX7_putKind 101 = .ok (.iconst 0, 1) := by decide +kernel
theorem dX7_putKind_102 : decode cX7_putKind 102 = .ok (.istore 5, 2) := by decide +kernel
theorem dX7_putKind_104 : decode cX7_putKind 104 = .ok (.iload 5, 2) := by decide +kernel
theorem dX7_putKind_106 : decode cX7_putKind 106 = .ok (.bipush 10, 2) := by decide +kernel
theorem dX7_putKind_108 : decode cX7_putKind 108 = .ok (.if_icmp .ge 116, 3) := by decide +kernel
theorem dX7_putKind_111 : decode cX7_putKind 111 = .ok (.iload 5, 2) := by decide +kernel
theorem dX7_putKind_113 : decode cX7_putKind 113 = .ok (.iconst 1, 1) := by decide +kernel
theorem dX7_putKind_114 : decode cX7_putKind 114 = .ok (.iadd, 1) := by decide +kernel
theorem dX7_putKind_115 : decode cX7_putKind 115 = .ok (.istore 6, 2) := by decide +kernel
theorem dX7_putKind_117 : decode cX7_putKind 117 = .ok (.iload 6, 2) := by decide +kernel
theorem dX7_putKind_119 : decode cX7_putKind 119 = .ok (.bipush 10, 2) := by decide +kernel
theorem dX7_putKind_121 : decode cX7_putKind 121 = .ok (.if_icmp .ge 97, 3) := by decide +kernel
theorem dX7_putKind_124 : decode cX7_putKind 124 = .ok (.iload_n 3, 1) := by decide +kernel
theorem dX7_putKind_125 : decode cX7_putKind 125 = .ok (.istore 7, 2) := by decide +kernel
theorem dX7_putKind_127 : decode cX7_putKind 127 = .ok (.iload 7, 2) := by decide +kernel
theorem dX7_putKind_129 : decode cX7_putKind 129 = .ok (.iload 4, 2) := by decide +kernel
theorem dX7_putKind_131 : decode cX7_putKind 131 = .ok (.if_icmp .ge 81, 3) := by decide +kernel
theorem dX7_putKind_134 : decode cX7_putKind 134 = .ok (.aload_n 0, 1) := by decide +kernel
theorem dX7_putKind_135 : decode cX7_putKind 135 = .ok (.getfield 13, 3) := by decide +kernel
theorem dX7_putKind_138 : decode cX7_putKind 138 = .ok (.iload 7, 2) := by decide +kernel
theorem dX7_putKind_140 : decode cX7_putKind 140 = .ok (.iaload, 1) := by decide +kernel
theorem dX7_putKind_141 : decode cX7_putKind 141 = .ok (.bipush 69, 2) := by decide +kernel
theorem dX7_putKind_143 : decode cX7_putKind 143 = .ok (.if_icmp .ne 63, 3) := by decide +kernel
theorem dX7_putKind_146 : decode cX7_putKind 146 = .ok (.aload_n 0, 1) := by decide +kernel
theorem dX7_putKind_147 : decode cX7_putKind 147 = .ok (.getfield 16, 3) := by decide +kernel
theorem dX7_putKind_150 : decode cX7_putKind 150 = .ok (.iload 7, 2) := by decide +kernel
theorem dX7_putKind_152 : decode cX7_putKind 152 = .ok (.iaload, 1) := by decide +kernel
theorem dX7_putKind_153 : decode cX7_putKind 153 = .ok (.iload 5, 2) := by decide +kernel
theorem dX7_putKind_155 : decode cX7_putKind 155 = .ok (.if_icmp .ne 15, 3) := by decide +kernel
theorem dX7_putKind_158 : decode cX7_putKind 158 = .ok (.aload_n 0, 1) := by decide +kernel
theorem dX7_putKind_159 : decode cX7_putKind 159 = .ok (.getfield 19, 3) := by decide +kernel
theorem dX7_putKind_162 : decode cX7_putKind 162 = .ok (.iload 7, 2) := by decide +kernel
theorem dX7_putKind_164 : decode cX7_putKind 164 = .ok (.iaload, 1) := by decide +kernel
theorem dX7_putKind_165 : decode cX7_putKind 165 = .ok (.iload 6, 2) := by decide +kernel
theorem dX7_putKind_167 : decode cX7_putKind 167 = .ok (.if_icmp .eq 27, 3) := by decide +kernel
theorem dX7_putKind_170 : decode cX7_putKind 170 = .ok (.aload_n 0, 1) := by decide +kernel
theorem dX7_putKind_171 : decode cX7_putKind 171 = .ok (.getfield 16, 3) := by decide +kernel
theorem dX7_putKind_174 : decode cX7_putKind 174 = .ok (.iload 7, 2) := by decide +kernel
theorem dX7_putKind_176 : decode cX7_putKind 176 = .ok (.iaload, 1) := by decide +kernel
theorem dX7_putKind_177 : decode cX7_putKind 177 = .ok (.iload 6, 2) := by decide +kernel
theorem dX7_putKind_179 : decode cX7_putKind 179 = .ok (.if_icmp .ne 27, 3) := by decide +kernel
theorem dX7_putKind_182 : decode cX7_putKind 182 = .ok (.aload_n 0, 1) := by decide +kernel
theorem dX7_putKind_183 : decode cX7_putKind 183 = .ok (.getfield 19, 3) := by decide +kernel
theorem dX7_putKind_186 : decode cX7_putKind 186 = .ok (.iload 7, 2) := by decide +kernel
theorem dX7_putKind_188 : decode cX7_putKind 188 = .ok (.iaload, 1) := by decide +kernel
theorem dX7_putKind_189 : decode cX7_putKind 189 = .ok (.iload 5, 2) := by decide +kernel
theorem dX7_putKind_191 : decode cX7_putKind 191 = .ok (.if_icmp .ne 15, 3) := by decide +kernel
theorem dX7_putKind_194 : decode cX7_putKind 194 = .ok (.aload_n 0, 1) := by decide +kernel
theorem dX7_putKind_195 : decode cX7_putKind 195 = .ok (.bipush 69, 2) := by decide +kernel
theorem dX7_putKind_197 : decode cX7_putKind 197 = .ok (.iconst 2, 1) := by decide +kernel
theorem dX7_putKind_198 : decode cX7_putKind 198 = .ok (.iload 5, 2) := by decide +kernel
theorem dX7_putKind_200 : decode cX7_putKind 200 = .ok (.iload 6, 2) := by decide +kernel
theorem dX7_putKind_202 : decode cX7_putKind 202 = .ok (.iconst 0, 1) := by decide +kernel
theorem dX7_putKind_203 : decode cX7_putKind 203 = .ok (.invokevirtual 229, 3) := by decide +kernel
theorem dX7_putKind_206 : decode cX7_putKind 206 = .ok (.iinc 7 1, 3) := by decide +kernel
theorem dX7_putKind_209 : decode cX7_putKind 209 = .ok (.goto (-82), 3) := by decide +kernel
theorem dX7_putKind_212 : decode cX7_putKind 212 = .ok (.iinc 6 1, 3) := by decide +kernel
theorem dX7_putKind_215 : decode cX7_putKind 215 = .ok (.goto (-98), 3) := by decide +kernel
theorem dX7_putKind_218 : decode cX7_putKind 218 = .ok (.iinc 5 1, 3) := by decide +kernel
theorem dX7_putKind_221 : decode cX7_putKind 221 = .ok (.goto (-117), 3) := by decide +kernel
theorem dX7_putKind_224 : decode cX7_putKind 224 = .ok (.aload_n 0, 1) := by decide +kernel
theorem dX7_putKind_225 : decode cX7_putKind 225 = .ok (.iload_n 3, 1) := by decide +kernel
theorem dX7_putKind_226 : decode cX7_putKind 226 = .ok (.iload 4, 2) := by decide +kernel
theorem dX7_putKind_228 : decode cX7_putKind 228 = .ok (.bipush 68, 2) := by decide +kernel
theorem dX7_putKind_230 : decode cX7_putKind 230 = .ok (.iconst 3, 1) := by decide +kernel
theorem dX7_putKind_231 : decode cX7_putKind 231 = .ok (.invokevirtual 237, 3) := by decide +kernel
theorem dX7_putKind_234 : decode cX7_putKind 234 = .ok (.aload_n 0, 1) := by decide +kernel
theorem dX7_putKind_235 : decode cX7_putKind 235 = .ok (.iload_n 3, 1) := by decide +kernel
theorem dX7_putKind_236 : decode cX7_putKind 236 = .ok (.iload 4, 2) := by decide +kernel
theorem dX7_putKind_238 : decode cX7_putKind 238 = .ok (.bipush 77, 2) := by decide +kernel
theorem dX7_putKind_240 : decode cX7_putKind 240 = .ok (.iconst 1, 1) := by decide +kernel
theorem dX7_putKind_241 : decode cX7_putKind 241 = .ok (.invokevirtual 237, 3) := by decide +kernel
theorem dX7_putKind_244 : decode cX7_putKind 244 = .ok (.aload_n 0, 1) := by decide +kernel
theorem dX7_putKind_245 : decode cX7_putKind 245 = .ok (.iload_n 3, 1) := by decide +kernel
theorem dX7_putKind_246 : decode cX7_putKind 246 = .ok (.iload 4, 2) := by decide +kernel
theorem dX7_putKind_248 : decode cX7_putKind 248 = .ok (.bipush 70, 2) := by decide +kernel
theorem dX7_putKind_250 : decode cX7_putKind 250 = .ok (.iconst 2, 1) := by decide +kernel
theorem dX7_putKind_251 : decode cX7_putKind 251 = .ok (.invokevirtual 237, 3) := by decide +kernel
theorem dX7_putKind_254 : decode cX7_putKind 254 = .ok (.aload_n 0, 1) := by decide +kernel
theorem dX7_putKind_255 : decode cX7_putKind 255 = .ok (.iload_n 3, 1) := by decide +kernel
theorem dX7_putKind_256 : decode cX7_putKind 256 = .ok (.iload 4, 2) := by decide +kernel
theorem dX7_putKind_258 : decode cX7_putKind 258 = .ok (.bipush 82, 2) := by decide +kernel
theorem dX7_putKind_260 : decode cX7_putKind 260 = .ok (.iconst 1, 1) := by decide +kernel
theorem dX7_putKind_261 : decode cX7_putKind 261 = .ok (.invokevirtual 237, 3) := by decide +kernel
theorem dX7_putKind_264 : decode cX7_putKind 264 = .ok (.iconst 1, 1) := by decide +kernel
theorem dX7_putKind_265 : decode cX7_putKind 265 = .ok (.ireturn, 1) := by decide +kernel
theorem dX7_compare_0 : decode cX7_compare 0 = .ok (.aload_n 0, 1) := by decide +kernel
theorem dX7_compare_1 : decode cX7_compare 1 = .ok (.iconst 0, 1) := by decide +kernel
theorem dX7_compare_2 : decode cX7_compare 2 = .ok (.putfield 75, 3) := by decide +kernel
theorem dX7_compare_5 : decode cX7_compare 5 = .ok (.iload_n 1, 1) := by decide +kernel
theorem dX7_compare_6 : decode cX7_compare 6 = .ok (.ifCond .lt 11, 3) := by decide +kernel
theorem dX7_compare_9 : decode cX7_compare 9 = .ok (.iload_n 1, 1) := by decide +kernel
theorem dX7_compare_10 : decode cX7_compare 10 = .ok (.aload_n 0, 1) := by decide +kernel
theorem dX7_compare_11 : decode cX7_compare 11 = .ok (.getfield 155, 3) := by decide +kernel
theorem dX7_compare_14 : decode cX7_compare 14 = .ok (.if_icmp .lt 6, 3) := by decide +kernel
theorem dX7_compare_17 : decode cX7_compare 17 = .ok (.ldc 171, 2) := by decide +kernel
theorem dX7_compare_19 : decode cX7_compare 19 = .ok (.ireturn, 1) := by decide +kernel
theorem dX7_compare_20 : decode cX7_compare 20 = .ok (.iconst 0, 1) := by decide +kernel
theorem dX7_compare_21 : decode cX7_compare 21 = .ok (.istore_n 2, 1) := by decide +kernel
theorem dX7_compare_22 : decode cX7_compare 22 = .ok (.iconst 0, 1) := by decide +kernel
theorem dX7_compare_23 : decode cX7_compare 23 = .ok (.istore_n 3, 1) := by decide +kernel
theorem dX7_compare_24 : decode cX7_compare 24 = .ok (.iload_n 3, 1) := by decide +kernel
theorem dX7_compare_25 : decode cX7_compare 25 = .ok (.bipush 10, 2) := by decide +kernel
theorem dX7_compare_27 : decode cX7_compare 27 = .ok (.if_icmp .ge 150, 3) := by decide +kernel
theorem dX7_compare_30 : decode cX7_compare 30 = .ok (.aload_n 0, 1) := by decide +kernel
theorem dX7_compare_31 : decode cX7_compare 31 = .ok (.iconst 0, 1) := by decide +kernel
theorem dX7_compare_32 : decode cX7_compare 32 = .ok (.putfield 220, 3) := by decide +kernel
theorem dX7_compare_35 : decode cX7_compare 35 = .ok (.aload_n 0, 1) := by decide +kernel
theorem dX7_compare_36 : decode cX7_compare 36 = .ok (.iload_n 1, 1) := by decide +kernel
theorem dX7_compare_37 : decode cX7_compare 37 = .ok (.iload_n 3, 1) := by decide +kernel
theorem dX7_compare_38 : decode cX7_compare 38 = .ok (.invokevirtual 240, 3) := by decide +kernel
theorem dX7_compare_41 : decode cX7_compare 41 = .ok (.istore 4, 2) := by decide +kernel
theorem dX7_compare_43 : decode cX7_compare 43 = .ok (.aload_n 0, 1) := by decide +kernel
theorem dX7_compare_44 : decode cX7_compare 44 = .ok (.getfield 220, 3) := by decide +kernel
theorem dX7_compare_47 : decode cX7_compare 47 = .ok (.istore 5, 2) := by decide +kernel
theorem dX7_compare_49 : decode cX7_compare 49 = .ok (.iconst 0, 1) := by decide +kernel
theorem dX7_compare_50 : decode cX7_compare 50 = .ok (.istore 6, 2) := by decide +kernel
theorem dX7_compare_52 : decode cX7_compare 52 = .ok (.iload 6, 2) := by decide +kernel
theorem dX7_compare_54 : decode cX7_compare 54 = .ok (.iload 5, 2) := by decide +kernel
theorem dX7_compare_56 : decode cX7_compare 56 = .ok (.if_icmp .ge 23, 3) := by decide +kernel
theorem dX7_compare_59 : decode cX7_compare 59 = .ok (.aload_n 0, 1) := by decide +kernel
theorem dX7_compare_60 : decode cX7_compare 60 = .ok (.getfield 63, 3) := by decide +kernel
theorem dX7_compare_63 : decode cX7_compare 63 = .ok (.iload 6, 2) := by decide +kernel
theorem dX7_compare_65 : decode cX7_compare 65 = .ok (.aload_n 0, 1) := by decide +kernel
theorem dX7_compare_66 : decode cX7_compare 66 = .ok (.getfield 60, 3) := by decide +kernel
theorem dX7_compare_69 : decode cX7_compare 69 = .ok (.iload 6, 2) := by decide +kernel
theorem dX7_compare_71 : decode cX7_compare 71 = .ok (.iaload, 1) := by decide +kernel
theorem dX7_compare_72 : decode cX7_compare 72 = .ok (.iastore, 1) := by decide +kernel
theorem dX7_compare_73 : decode cX7_compare 73 = .ok (.iinc 6 1, 3) := by decide +kernel
theorem dX7_compare_76 : decode cX7_compare 76 = .ok (.goto (-24), 3) := by decide +kernel
theorem dX7_compare_79 : decode cX7_compare 79 = .ok (.aload_n 0, 1) := by decide +kernel
theorem dX7_compare_80 : decode cX7_compare 80 = .ok (.iconst 0, 1) := by decide +kernel
theorem dX7_compare_81 : decode cX7_compare 81 = .ok (.putfield 220, 3) := by decide +kernel
theorem dX7_compare_84 : decode cX7_compare 84 = .ok (.aload_n 0, 1) := by decide +kernel
theorem dX7_compare_85 : decode cX7_compare 85 = .ok (.aload_n 0, 1) := by decide +kernel
theorem dX7_compare_86 : decode cX7_compare 86 = .ok (.getfield 155, 3) := by decide +kernel
theorem dX7_compare_89 : decode cX7_compare 89 = .ok (.iconst 1, 1) := by decide +kernel
theorem dX7_compare_90 : decode cX7_compare 90 = .ok (.isub, 1) := by decide +kernel
theorem dX7_compare_91 : decode cX7_compare 91 = .ok (.iload_n 3, 1) := by decide +kernel
theorem dX7_compare_92 : decode cX7_compare 92 = .ok (.invokevirtual 240, 3) := by decide +kernel
theorem dX7_compare_95 : decode cX7_compare 95 = .ok (.istore 6, 2) := by decide +kernel
theorem dX7_compare_97 : decode cX7_compare 97 = .ok (.iload 5, 2) := by decide +kernel
theorem dX7_compare_99 : decode cX7_compare 99 = .ok (.aload_n 0, 1) := by decide +kernel
theorem dX7_compare_100 : decode cX7_compare 100 = .ok (.getfield 220, 3) := by decide +kernel
theorem dX7_compare_103 : decode cX7_compare 103 = .ok (.if_icmp .ne 7, 3) := by decide +kernel
theorem dX7_compare_106 : decode cX7_compare 106 = .ok (.iconst 1, 1) := by decide +kernel
theorem dX7_compare_107 : decode cX7_compare 107 = .ok (.goto 4, 3) := by decide +kernel
theorem dX7_compare_110 : decode cX7_compare 110 = .ok (.iconst 0, 1) := by decide +kernel
theorem dX7_compare_111 : decode cX7_compare 111 = .ok (.istore 7, 2) := by decide +kernel
theorem dX7_compare_113 : decode cX7_compare 113 = .ok (.iconst 0, 1) := by decide +kernel
theorem dX7_compare_114 : decode cX7_compare 114 = .ok (.istore 8, 2) := by decide +kernel
theorem dX7_compare_116 : decode cX7_compare 116 = .ok (.iload 8, 2) := by decide +kernel
theorem dX7_compare_118 : decode cX7_compare 118 = .ok (.iload 5, 2) := by decide +kernel
theorem dX7_compare_120 : decode cX7_compare 120 = .ok (.if_icmp .ge 38, 3) := by decide +kernel
theorem dX7_compare_123 : decode cX7_compare 123 = .ok (.iload 7, 2) := by decide +kernel
theorem dX7_compare_125 : decode cX7_compare 125 = .ok (.ifCond .eq 33, 3) := by decide +kernel
theorem dX7_compare_128 : decode cX7_compare 128 = .ok (.aload_n 0, 1) := by decide +kernel
theorem dX7_compare_129 : decode cX7_compare 129 = .ok (.getfield 63, 3) := by decide +kernel
theorem dX7_compare_132 : decode cX7_compare 132 = .ok (.iload 8, 2) := by decide +kernel
theorem dX7_compare_134 : decode cX7_compare 134 = .ok (.iaload, 1) := by decide +kernel
theorem dX7_compare_135 : decode cX7_compare 135 = .ok (.aload_n 0, 1) := by decide +kernel
theorem dX7_compare_136 : decode cX7_compare 136 = .ok (.getfield 60, 3) := by decide +kernel
theorem dX7_compare_139 : decode cX7_compare 139 = .ok (.iload 8, 2) := by decide +kernel
theorem dX7_compare_141 : decode cX7_compare 141 = .ok (.iaload, 1) := by decide +kernel
theorem dX7_compare_142 : decode cX7_compare 142 = .ok (.if_icmp .ne 7, 3) := by decide +kernel
theorem dX7_compare_145 : decode cX7_compare 145 = .ok (.iconst 1, 1) := by decide +kernel
theorem dX7_compare_146 : decode cX7_compare 146 = .ok (.goto 4, 3) := by decide +kernel
theorem dX7_compare_149 : decode cX7_compare 149 = .ok (.iconst 0, 1) := by decide +kernel
theorem dX7_compare_150 : decode cX7_compare 150 = .ok (.istore 7, 2) := by decide +kernel
theorem dX7_compare_152 : decode cX7_compare 152 = .ok (.iinc 8 1, 3) := by decide +kernel
theorem dX7_compare_155 : decode cX7_compare 155 = .ok (.goto (-39), 3) := by decide +kernel
theorem dX7_compare_158 : decode cX7_compare 158 = .ok (.iload 7, 2) := by decide +kernel
theorem dX7_compare_160 : decode cX7_compare 160 = .ok (.ifCond .eq 7, 3) := by decide +kernel
theorem dX7_compare_163 : decode cX7_compare 163 = .ok (.iload_n 2, 1) := by decide +kernel
theorem dX7_compare_164 : decode cX7_compare 164 = .ok (.goto 6, 3) := by decide +kernel
theorem dX7_compare_167 : decode cX7_compare 167 = .ok (.iload_n 2, 1) := by decide +kernel
theorem dX7_compare_168 : decode cX7_compare 168 = .ok (.iconst 1, 1) := by decide +kernel
theorem dX7_compare_169 : decode cX7_compare 169 = .ok (.iadd, 1) := by decide +kernel
theorem dX7_compare_170 : decode cX7_compare 170 = .ok (.istore_n 2, 1) := by decide +kernel
theorem dX7_compare_171 : decode cX7_compare 171 = .ok (.iinc 3 1, 3) := by decide +kernel
theorem dX7_compare_174 : decode cX7_compare 174 = .ok (.goto (-150), 3) := by decide +kernel
theorem dX7_compare_177 : decode cX7_compare 177 = .ok (.iload_n 2, 1) := by decide +kernel
theorem dX7_compare_178 : decode cX7_compare 178 = .ok (.ireturn, 1) := by decide +kernel
theorem dX7_print_0 : decode cX7_print 0 = .ok (.aload_n 0, 1) := by decide +kernel
theorem dX7_print_1 : decode cX7_print 1 = .ok (.iconst 0, 1) := by decide +kernel
theorem dX7_print_2 : decode cX7_print 2 = .ok (.putfield 75, 3) := by decide +kernel
theorem dX7_print_5 : decode cX7_print 5 = .ok (.aload_n 0, 1) := by decide +kernel
theorem dX7_print_6 : decode cX7_print 6 = .ok (.getfield 155, 3) := by decide +kernel
theorem dX7_print_9 : decode cX7_print 9 = .ok (.ifCond .ne 6, 3) := by decide +kernel
theorem dX7_print_12 : decode cX7_print 12 = .ok (.ldc 207, 2) := by decide +kernel
theorem dX7_print_14 : decode cX7_print 14 = .ok (.ireturn, 1) := by decide +kernel
theorem dX7_print_15 : decode cX7_print 15 = .ok (.aload_n 0, 1) := by decide +kernel
theorem dX7_print_16 : decode cX7_print 16 = .ok (.iconst 0, 1) := by decide +kernel
theorem dX7_print_17 : decode cX7_print 17 = .ok (.putfield 220, 3) := by decide +kernel
theorem dX7_print_20 : decode cX7_print 20 = .ok (.iconst 0, 1) := by decide +kernel
theorem dX7_print_21 : decode cX7_print 21 = .ok (.istore_n 1, 1) := by decide +kernel
theorem dX7_print_22 : decode cX7_print 22 = .ok (.iload_n 1, 1) := by decide +kernel
theorem dX7_print_23 : decode cX7_print 23 = .ok (.bipush 10, 2) := by decide +kernel
theorem dX7_print_25 : decode cX7_print 25 = .ok (.if_icmp .ge 49, 3) := by decide +kernel
theorem dX7_print_28 : decode cX7_print 28 = .ok (.aload_n 0, 1) := by decide +kernel
theorem dX7_print_29 : decode cX7_print 29 = .ok (.aload_n 0, 1) := by decide +kernel
theorem dX7_print_30 : decode cX7_print 30 = .ok (.getfield 155, 3) := by decide +kernel
theorem dX7_print_33 : decode cX7_print 33 = .ok (.iconst 1, 1) := by decide +kernel
theorem dX7_print_34 : decode cX7_print 34 = .ok (.isub, 1) := by decide +kernel
theorem dX7_print_35 : decode cX7_print 35 = .ok (.iload_n 1, 1) := by decide +kernel
theorem dX7_print_36 : decode cX7_print 36 = .ok (.invokevirtual 187, 3) := by decide +kernel
theorem dX7_print_39 : decode cX7_print 39 = .ok (.iconst (-1), 1) := by decide +kernel
theorem dX7_print_40 : decode cX7_print 40 = .ok (.if_icmp .eq 28, 3) := by decide +kernel
theorem dX7_print_43 : decode cX7_print 43 = .ok (.aload_n 0, 1) := by decide +kernel
theorem dX7_print_44 : decode cX7_print 44 = .ok (.getfield 220, 3) := by decide +kernel
theorem dX7_print_47 : decode cX7_print 47 = .ok (.ifCond .le 9, 3) := by decide +kernel
theorem dX7_print_50 : decode cX7_print 50 = .ok (.aload_n 0, 1) := by decide +kernel
theorem dX7_print_51 : decode cX7_print 51 = .ok (.bipush 59, 2) := by decide +kernel
theorem dX7_print_53 : decode cX7_print 53 = .ok (.invokevirtual 223, 3) := by decide +kernel
theorem dX7_print_56 : decode cX7_print 56 = .ok (.aload_n 0, 1) := by decide +kernel
theorem dX7_print_57 : decode cX7_print 57 = .ok (.aload_n 0, 1) := by decide +kernel
theorem dX7_print_58 : decode cX7_print 58 = .ok (.getfield 155, 3) := by decide +kernel
theorem dX7_print_61 : decode cX7_print 61 = .ok (.iconst 1, 1) := by decide +kernel
theorem dX7_print_62 : decode cX7_print 62 = .ok (.isub, 1) := by decide +kernel
theorem dX7_print_63 : decode cX7_print 63 = .ok (.iload_n 1, 1) := by decide +kernel
theorem dX7_print_64 : decode cX7_print 64 = .ok (.invokevirtual 240, 3) := by decide +kernel
theorem dX7_print_67 : decode cX7_print 67 = .ok (.istore_n 2, 1) := by decide +kernel
theorem dX7_print_68 : decode cX7_print 68 = .ok (.iinc 1 1, 3) := by decide +kernel
theorem dX7_print_71 : decode cX7_print 71 = .ok (.goto (-49), 3) := by decide +kernel
theorem dX7_print_74 : decode cX7_print 74 = .ok (.aload_n 0, 1) := by decide +kernel
theorem dX7_print_75 : decode cX7_print 75 = .ok (.aload_n 0, 1) := by decide +kernel
theorem dX7_print_76 : decode cX7_print 76 = .ok (.getfield 220, 3) := by decide +kernel
theorem dX7_print_79 : decode cX7_print 79 = .ok (.putfield 243, 3) := by decide +kernel
theorem dX7_print_82 : decode cX7_print 82 = .ok (.iconst 0, 1) := by decide +kernel
theorem dX7_print_83 : decode cX7_print 83 = .ok (.istore_n 1, 1) := by decide +kernel
theorem dX7_print_84 : decode cX7_print 84 = .ok (.iload_n 1, 1) := by decide +kernel
theorem dX7_print_85 : decode cX7_print 85 = .ok (.aload_n 0, 1) := by decide +kernel
theorem dX7_print_86 : decode cX7_print 86 = .ok (.getfield 220, 3) := by decide +kernel
theorem dX7_print_89 : decode cX7_print 89 = .ok (.if_icmp .ge 21, 3) := by decide +kernel
theorem dX7_print_92 : decode cX7_print 92 = .ok (.aload_n 0, 1) := by decide +kernel
theorem dX7_print_93 : decode cX7_print 93 = .ok (.getfield 57, 3) := by decide +kernel
theorem dX7_print_96 : decode cX7_print 96 = .ok (.iload_n 1, 1) := by decide +kernel
theorem dX7_print_97 : decode cX7_print 97 = .ok (.aload_n 0, 1) := by decide +kernel
theorem dX7_print_98 : decode cX7_print 98 = .ok (.getfield 60, 3) := by decide +kernel
theorem dX7_print_101 : decode cX7_print 101 = .ok (.iload_n 1, 1) := by decide +kernel
theorem dX7_print_102 : decode cX7_print 102 = .ok (.iaload, 1) := by decide +kernel
theorem dX7_print_103 : decode cX7_print 103 = .ok (.iastore, 1) := by decide +kernel
theorem dX7_print_104 : decode cX7_print 104 = .ok (.iinc 1 1, 3) := by decide +kernel
theorem dX7_print_107 : decode cX7_print 107 = .ok (.goto (-23), 3) := by decide +kernel
theorem dX7_print_110 : decode cX7_print 110 = .ok (.aload_n 0, 1) := by decide +kernel
theorem dX7_print_111 : decode cX7_print 111 = .ok (.getfield 243, 3) := by decide +kernel
theorem dX7_print_114 : decode cX7_print 114 = .ok (.ireturn, 1) := by decide +kernel
theorem dX7_at_0 : decode cX7_at 0 = .ok (.aload_n 0, 1) := by decide +kernel
theorem dX7_at_1 : decode cX7_at 1 = .ok (.iconst 0, 1) := by decide +kernel
theorem dX7_at_2 : decode cX7_at 2 = .ok (.putfield 75, 3) := by decide +kernel
theorem dX7_at_5 : decode cX7_at 5 = .ok (.iload_n 1, 1) := by decide +kernel
theorem dX7_at_6 : decode cX7_at 6 = .ok (.ifCond .lt 20, 3) := by decide +kernel
theorem dX7_at_9 : decode cX7_at 9 = .ok (.iload_n 1, 1) := by decide +kernel
theorem dX7_at_10 : decode cX7_at 10 = .ok (.aload_n 0, 1) := by decide +kernel
theorem dX7_at_11 : decode cX7_at 11 = .ok (.getfield 243, 3) := by decide +kernel
theorem dX7_at_14 : decode cX7_at 14 = .ok (.if_icmp .ge 12, 3) := by decide +kernel
theorem dX7_at_17 : decode cX7_at 17 = .ok (.aload_n 0, 1) := by decide +kernel
theorem dX7_at_18 : decode cX7_at 18 = .ok (.getfield 57, 3) := by decide +kernel
theorem dX7_at_21 : decode cX7_at 21 = .ok (.iload_n 1, 1) := by decide +kernel
theorem dX7_at_22 : decode cX7_at 22 = .ok (.iaload, 1) := by decide +kernel
theorem dX7_at_23 : decode cX7_at 23 = .ok (.goto 4, 3) := by decide +kernel
theorem dX7_at_26 : decode cX7_at 26 = .ok (.iconst (-1), 1) := by decide +kernel
theorem dX7_at_27 : decode cX7_at 27 = .ok (.ireturn, 1) := by decide +kernel
theorem dJ6_bitCount_0f7a4_0 : decode cJ6_bitCount_0f7a4 0 = .ok (.iload_n 0, 1) := by decide +kernel
theorem dJ6_bitCount_0f7a4_1 : decode cJ6_bitCount_0f7a4 1 = .ok (.iload_n 0, 1) := by decide +kernel
theorem dJ6_bitCount_0f7a4_2 : decode cJ6_bitCount_0f7a4 2 = .ok (.iconst 1, 1) := by decide +kernel
theorem dJ6_bitCount_0f7a4_3 : decode cJ6_bitCount_0f7a4 3 = .ok (.iushr, 1) := by decide +kernel
theorem dJ6_bitCount_0f7a4_4 : decode cJ6_bitCount_0f7a4 4 = .ok (.ldc_w 265, 3) := by decide +kernel
theorem dJ6_bitCount_0f7a4_7 : decode cJ6_bitCount_0f7a4 7 = .ok (.iand, 1) := by decide +kernel
theorem dJ6_bitCount_0f7a4_8 : decode cJ6_bitCount_0f7a4 8 = .ok (.isub, 1) := by decide +kernel
theorem dJ6_bitCount_0f7a4_9 : decode cJ6_bitCount_0f7a4 9 = .ok (.istore_n 0, 1) := by decide +kernel
theorem dJ6_bitCount_0f7a4_10 : decode cJ6_bitCount_0f7a4 10 = .ok (.iload_n 0, 1) := by decide +kernel
theorem dJ6_bitCount_0f7a4_11 : decode cJ6_bitCount_0f7a4 11 = .ok (.ldc_w 266, 3) := by decide +kernel
theorem dJ6_bitCount_0f7a4_14 : decode cJ6_bitCount_0f7a4 14 = .ok (.iand, 1) := by decide +kernel
theorem dJ6_bitCount_0f7a4_15 : decode cJ6_bitCount_0f7a4 15 = .ok (.iload_n 0, 1) := by decide +kernel
theorem dJ6_bitCount_0f7a4_16 : decode cJ6_bitCount_0f7a4 16 = .ok (.iconst 2, 1) := by decide +kernel
theorem dJ6_bitCount_0f7a4_17 : decode cJ6_bitCount_0f7a4 17 = .ok (.iushr, 1) := by decide +kernel
theorem dJ6_bitCount_0f7a4_18 : decode cJ6_bitCount_0f7a4 18 = .ok (.ldc_w 266, 3) := by decide +kernel
theorem dJ6_bitCount_0f7a4_21 : decode cJ6_bitCount_0f7a4 21 = .ok (.iand, 1) := by decide +kernel
theorem dJ6_bitCount_0f7a4_22 : decode cJ6_bitCount_0f7a4 22 = .ok (.iadd, 1) := by decide +kernel
theorem dJ6_bitCount_0f7a4_23 : decode cJ6_bitCount_0f7a4 23 = .ok (.istore_n 0, 1) := by decide +kernel
theorem dJ6_bitCount_0f7a4_24 : decode cJ6_bitCount_0f7a4 24 = .ok (.iload_n 0, 1) := by decide +kernel
theorem dJ6_bitCount_0f7a4_25 : decode cJ6_bitCount_0f7a4 25 = .ok (.iload_n 0, 1) := by decide +kernel
theorem dJ6_bitCount_0f7a4_26 : decode cJ6_bitCount_0f7a4 26 = .ok (.iconst 4, 1) := by decide +kernel
theorem dJ6_bitCount_0f7a4_27 : decode cJ6_bitCount_0f7a4 27 = .ok (.iushr, 1) := by decide +kernel
theorem dJ6_bitCount_0f7a4_28 : decode cJ6_bitCount_0f7a4 28 = .ok (.iadd, 1) := by decide +kernel
theorem dJ6_bitCount_0f7a4_29 : decode cJ6_bitCount_0f7a4 29 = .ok (.ldc_w 267, 3) := by decide +kernel
theorem dJ6_bitCount_0f7a4_32 : decode cJ6_bitCount_0f7a4 32 = .ok (.iand, 1) := by decide +kernel
theorem dJ6_bitCount_0f7a4_33 : decode cJ6_bitCount_0f7a4 33 = .ok (.istore_n 0, 1) := by decide +kernel
theorem dJ6_bitCount_0f7a4_34 : decode cJ6_bitCount_0f7a4 34 = .ok (.iload_n 0, 1) := by decide +kernel
theorem dJ6_bitCount_0f7a4_35 : decode cJ6_bitCount_0f7a4 35 = .ok (.iload_n 0, 1) := by decide +kernel
theorem dJ6_bitCount_0f7a4_36 : decode cJ6_bitCount_0f7a4 36 = .ok (.bipush 8, 2) := by decide +kernel
theorem dJ6_bitCount_0f7a4_38 : decode cJ6_bitCount_0f7a4 38 = .ok (.iushr, 1) := by decide +kernel
theorem dJ6_bitCount_0f7a4_39 : decode cJ6_bitCount_0f7a4 39 = .ok (.iadd, 1) := by decide +kernel
theorem dJ6_bitCount_0f7a4_40 : decode cJ6_bitCount_0f7a4 40 = .ok (.istore_n 0, 1) := by decide +kernel
theorem dJ6_bitCount_0f7a4_41 : decode cJ6_bitCount_0f7a4 41 = .ok (.iload_n 0, 1) := by decide +kernel
theorem dJ6_bitCount_0f7a4_42 : decode cJ6_bitCount_0f7a4 42 = .ok (.iload_n 0, 1) := by decide +kernel
theorem dJ6_bitCount_0f7a4_43 : decode cJ6_bitCount_0f7a4 43 = .ok (.bipush 16, 2) := by decide +kernel
theorem dJ6_bitCount_0f7a4_45 : decode cJ6_bitCount_0f7a4 45 = .ok (.iushr, 1) := by decide +kernel
theorem dJ6_bitCount_0f7a4_46 : decode cJ6_bitCount_0f7a4 46 = .ok (.iadd, 1) := by decide +kernel
theorem dJ6_bitCount_0f7a4_47 : decode cJ6_bitCount_0f7a4 47 = .ok (.istore_n 0, 1) := by decide +kernel
theorem dJ6_bitCount_0f7a4_48 : decode cJ6_bitCount_0f7a4 48 = .ok (.iload_n 0, 1) := by decide +kernel
theorem dJ6_bitCount_0f7a4_49 : decode cJ6_bitCount_0f7a4 49 = .ok (.bipush 63, 2) := by decide +kernel
theorem dJ6_bitCount_0f7a4_51 : decode cJ6_bitCount_0f7a4 51 = .ok (.iand, 1) := by decide +kernel
theorem dJ6_bitCount_0f7a4_52 : decode cJ6_bitCount_0f7a4 52 = .ok (.ireturn, 1) := by decide +kernel
theorem dJ9_max_f86c9_0 : decode cJ9_max_f86c9 0 = .ok (.lload_n 0, 1) := by decide +kernel
theorem dJ9_max_f86c9_1 : decode cJ9_max_f86c9 1 = .ok (.lload_n 2, 1) := by decide +kernel
theorem dJ9_max_f86c9_2 : decode cJ9_max_f86c9 2 = .ok (.lcmp, 1) := by decide +kernel
theorem dJ9_max_f86c9_3 : decode cJ9_max_f86c9 3 = .ok (.ifCond .lt 7, 3) := by decide +kernel
theorem dJ9_max_f86c9_6 : decode cJ9_max_f86c9 6 = .ok (.lload_n 0, 1) := by decide +kernel
theorem dJ9_max_f86c9_7 : decode cJ9_max_f86c9 7 = .ok (.goto 4, 3) := by decide +kernel
theorem dJ9_max_f86c9_10 : decode cJ9_max_f86c9 10 = .ok (.lload_n 2, 1) := by decide +kernel
theorem dJ9_max_f86c9_11 : decode cJ9_max_f86c9 11 = .ok (.lreturn, 1) := by decide +kernel
theorem dL_dimensional_0 : decode cL_dimensional 0 = .ok (.aload 5, 2) := by decide +kernel
theorem dL_dimensional_2 : decode cL_dimensional 2 = .ok (.iconst 0, 1) := by decide +kernel
theorem dL_dimensional_3 : decode cL_dimensional 3 = .ok (.aload_n 0, 1) := by decide +kernel
theorem dL_dimensional_4 : decode cL_dimensional 4 = .ok (.lload_n 1, 1) := by decide +kernel
theorem dL_dimensional_5 : decode cL_dimensional 5 = .ok (.lload_n 3, 1) := by decide +kernel
theorem dL_dimensional_6 : decode cL_dimensional 6 = .ok (.invokevirtual 7, 3) := by decide +kernel
theorem dL_dimensional_9 : decode cL_dimensional 9 = .ok (.lastore, 1) := by decide +kernel
theorem dL_dimensional_10 : decode cL_dimensional 10 = .ok (.goto 7, 3) := by decide +kernel
theorem dL_dimensional_13 : decode cL_dimensional 13 = .ok (.astore 6, 2) := by decide +kernel
theorem dL_dimensional_15 : decode cL_dimensional 15 = .ok (.iconst 1, 1) := by decide +kernel
theorem dL_dimensional_16 : decode cL_dimensional 16 = .ok (.ireturn, 1) := by decide +kernel
theorem dL_dimensional_17 : decode cL_dimensional 17 = .ok (.iconst 0, 1) := by decide +kernel
theorem dL_dimensional_18 : decode cL_dimensional 18 = .ok (.ireturn, 1) := by decide +kernel
theorem dL_law_0 : decode cL_law 0 = .ok (.new 8, 3) := by decide +kernel
theorem dL_law_3 : decode cL_law 3 = .ok (.dup, 1) := by decide +kernel
theorem dL_law_4 : decode cL_law 4 = .ok (.invokespecial 15, 3) := by decide +kernel
theorem dL_law_7 : decode cL_law 7 = .ok (.astore_n 1, 1) := by decide +kernel
theorem dL_law_8 : decode cL_law 8 = .ok (.new 16, 3) := by decide +kernel
theorem dL_law_11 : decode cL_law 11 = .ok (.dup, 1) := by decide +kernel
theorem dL_law_12 : decode cL_law 12 = .ok (.invokespecial 18, 3) := by decide +kernel
theorem dL_law_15 : decode cL_law 15 = .ok (.astore_n 2, 1) := by decide +kernel
theorem dL_law_16 : decode cL_law 16 = .ok (.iconst 1, 1) := by decide +kernel
theorem dL_law_17 : decode cL_law 17 = .ok (.newarray .long, 2) := by decide +kernel
theorem dL_law_19 : decode cL_law 19 = .ok (.astore_n 3, 1) := by decide +kernel
theorem dL_law_20 : decode cL_law 20 = .ok (.iconst 0, 1) := by decide +kernel
theorem dL_law_21 : decode cL_law 21 = .ok (.istore 4, 2) := by decide +kernel
theorem dL_law_23 : decode cL_law 23 = .ok (.iload 4, 2) := by decide +kernel
theorem dL_law_25 : decode cL_law 25 = .ok (.aload_n 0, 1) := by decide +kernel
theorem dL_law_26 : decode cL_law 26 = .ok (.arraylength, 1) := by decide +kernel
theorem dL_law_27 : decode cL_law 27 = .ok (.bipush 6, 2) := by decide +kernel
theorem dL_law_29 : decode cL_law 29 = .ok (.isub, 1) := by decide +kernel
theorem dL_law_30 : decode cL_law 30 = .ok (.if_icmp .gt 616, 3) := by decide +kernel
theorem dL_law_33 : decode cL_law 33 = .ok (.aload_n 0, 1) := by decide +kernel
theorem dL_law_34 : decode cL_law 34 = .ok (.iload 4, 2) := by decide +kernel
theorem dL_law_36 : decode cL_law 36 = .ok (.iaload, 1) := by decide +kernel
theorem dL_law_37 : decode cL_law 37 = .ok (.bipush 15, 2) := by decide +kernel
theorem dL_law_39 : decode cL_law 39 = .ok (.iand, 1) := by decide +kernel
theorem dL_law_40 : decode cL_law 40 = .ok (.tableswitch 600 0 10 #[60, 83, 96, 169, 206, 288, 369, 406, 537, 562, 575], 60) := by decide +kernel
theorem dL_law_100 : decode cL_law 100 = .ok (.aload_n 1, 1) := by decide +kernel
theorem dL_law_101 : decode cL_law 101 = .ok (.aload_n 0, 1) := by decide +kernel
theorem dL_law_102 : decode cL_law 102 = .ok (.iload 4, 2) := by decide +kernel
theorem dL_law_104 : decode cL_law 104 = .ok (.iconst 1, 1) := by decide +kernel
theorem dL_law_105 : decode cL_law 105 = .ok (.iadd, 1) := by decide +kernel
theorem dL_law_106 : decode cL_law 106 = .ok (.iaload, 1) := by decide +kernel
theorem dL_law_107 : decode cL_law 107 = .ok (.invokevirtual 19, 3) := by decide +kernel
theorem dL_law_110 : decode cL_law 110 = .ok (.aload_n 2, 1) := by decide +kernel
theorem dL_law_111 : decode cL_law 111 = .ok (.aload_n 0, 1) := by decide +kernel
theorem dL_law_112 : decode cL_law 112 = .ok (.iload 4, 2) := by decide +kernel
theorem dL_law_114 : decode cL_law 114 = .ok (.iconst 1, 1) := by decide +kernel
theorem dL_law_115 : decode cL_law 115 = .ok (.iadd, 1) := by decide +kernel
theorem dL_law_116 : decode cL_law 116 = .ok (.iaload, 1) := by decide +kernel
theorem dL_law_117 : decode cL_law 117 = .ok (.invokevirtual 23, 3) := by decide +kernel
theorem dL_law_120 : decode cL_law 120 = .ok (.goto 520, 3) := by decide +kernel
theorem dL_law_123 : decode cL_law 123 = .ok (.aload_n 1, 1) := by decide +kernel
theorem dL_law_124 : decode cL_law 124 = .ok (.invokevirtual 24, 3) := by decide +kernel
theorem dL_law_127 : decode cL_law 127 = .ok (.aload_n 2, 1) := by decide +kernel
theorem dL_law_128 : decode cL_law 128 = .ok (.invokevirtual 28, 3) := by decide +kernel
theorem dL_law_131 : decode cL_law 131 = .ok (.if_icmp .eq 509, 3) := by decide +kernel
theorem dL_law_134 : decode cL_law 134 = .ok (.iconst 0, 1) := by decide +kernel
theorem dL_law_135 : decode cL_law 135 = .ok (.ireturn, 1) := by decide +kernel
theorem dL_law_136 : decode cL_law 136 = .ok (.aload_n 1, 1) := by decide +kernel
theorem dL_law_137 : decode cL_law 137 = .ok (.aload_n 0, 1) := by decide +kernel
theorem dL_law_138 : decode cL_law 138 = .ok (.iload 4, 2) := by decide +kernel
theorem dL_law_140 : decode cL_law 140 = .ok (.iconst 1, 1) := by decide +kernel
theorem dL_law_141 : decode cL_law 141 = .ok (.iadd, 1) := by decide +kernel
theorem dL_law_142 : decode cL_law 142 = .ok (.iaload, 1) := by decide +kernel
theorem dL_law_143 : decode cL_law 143 = .ok (.aload_n 0, 1) := by decide +kernel
theorem dL_law_144 : decode cL_law 144 = .ok (.iload 4, 2) := by decide +kernel
theorem dL_law_146 : decode cL_law 146 = .ok (.iconst 2, 1) := by decide +kernel
theorem dL_law_147 : decode cL_law 147 = .ok (.iadd, 1) := by decide +kernel
theorem dL_law_148 : decode cL_law 148 = .ok (.iaload, 1) := by decide +kernel
theorem dL_law_149 : decode cL_law 149 = .ok (.aload_n 0, 1) := by decide +kernel
theorem dL_law_150 : decode cL_law 150 = .ok (.iload 4, 2) := by decide +kernel
theorem dL_law_152 : decode cL_law 152 = .ok (.iconst 3, 1) := by decide +kernel
theorem dL_law_153 : decode cL_law 153 = .ok (.iadd, 1) := by decide +kernel
theorem dL_law_154 : decode cL_law 154 = .ok (.iaload, 1) := by decide +kernel
theorem dL_law_155 : decode cL_law 155 = .ok (.aload_n 0, 1) := by decide +kernel
theorem dL_law_156 : decode cL_law 156 = .ok (.iload 4, 2) := by decide +kernel
theorem dL_law_158 : decode cL_law 158 = .ok (.iconst 4, 1) := by decide +kernel
theorem dL_law_159 : decode cL_law 159 = .ok (.iadd, 1) := by decide +kernel
theorem dL_law_160 : decode cL_law 160 = .ok (.iaload, 1) := by decide +kernel
theorem dL_law_161 : decode cL_law 161 = .ok (.aload_n 0, 1) := by decide +kernel
theorem dL_law_162 : decode cL_law 162 = .ok (.iload 4, 2) := by decide +kernel
theorem dL_law_164 : decode cL_law 164 = .ok (.iconst 5, 1) := by decide +kernel
theorem dL_law_165 : decode cL_law 165 = .ok (.iadd, 1) := by decide +kernel
theorem dL_law_166 : decode cL_law 166 = .ok (.iaload, 1) := by decide +kernel
theorem dL_law_167 : decode cL_law 167 = .ok (.invokevirtual 29, 3) := by decide +kernel
theorem dL_law_170 : decode cL_law 170 = .ok (.aload_n 2, 1) := by decide +kernel
theorem dL_law_171 : decode cL_law 171 = .ok (.aload_n 0, 1) := by decide +kernel
theorem dL_law_172 : decode cL_law 172 = .ok (.iload 4, 2) := by decide +kernel
theorem dL_law_174 : decode cL_law 174 = .ok (.iconst 1, 1) := by decide +kernel
theorem dL_law_175 : decode cL_law 175 = .ok (.iadd, 1) := by decide +kernel
theorem dL_law_176 : decode cL_law 176 = .ok (.iaload, 1) := by decide +kernel
theorem dL_law_177 : decode cL_law 177 = .ok (.aload_n 0, 1) := by decide +kernel
theorem dL_law_178 : decode cL_law 178 = .ok (.iload 4, 2) := by decide +kernel
theorem dL_law_180 : decode cL_law 180 = .ok (.iconst 2, 1) := by decide +kernel
theorem dL_law_181 : decode cL_law 181 = .ok (.iadd, 1) := by decide +kernel
theorem dL_law_182 : decode cL_law 182 = .ok (.iaload, 1) := by decide +kernel
theorem dL_law_183 : decode cL_law 183 = .ok (.aload_n 0, 1) := by decide +kernel
theorem dL_law_184 : decode cL_law 184 = .ok (.iload 4, 2) := by decide +kernel
theorem dL_law_186 : decode cL_law 186 = .ok (.iconst 3, 1) := by decide +kernel
theorem dL_law_187 : decode cL_law 187 = .ok (.iadd, 1) := by decide +kernel
theorem dL_law_188 : decode cL_law 188 = .ok (.iaload, 1) := by decide +kernel
theorem dL_law_189 : decode cL_law 189 = .ok (.aload_n 0, 1) := by decide +kernel
theorem dL_law_190 : decode cL_law 190 = .ok (.iload 4, 2) := by decide +kernel
theorem dL_law_192 : decode cL_law 192 = .ok (.iconst 4, 1) := by decide +kernel
theorem dL_law_193 : decode cL_law 193 = .ok (.iadd, 1) := by decide +kernel
theorem dL_law_194 : decode cL_law 194 = .ok (.iaload, 1) := by decide +kernel
theorem dL_law_195 : decode cL_law 195 = .ok (.aload_n 0, 1) := by decide +kernel
theorem dL_law_196 : decode cL_law 196 = .ok (.iload 4, 2) := by decide +kernel
theorem dL_law_198 : decode cL_law 198 = .ok (.iconst 5, 1) := by decide +kernel
theorem dL_law_199 : decode cL_law 199 = .ok (.iadd, 1) := by decide +kernel
theorem dL_law_200 : decode cL_law 200 = .ok (.iaload, 1) := by decide +kernel
theorem dL_law_201 : decode cL_law 201 = .ok (.invokevirtual 33, 3) := by decide +kernel
theorem dL_law_204 : decode cL_law 204 = .ok (.if_icmp .eq 436, 3) := by decide +kernel
theorem dL_law_207 : decode cL_law 207 = .ok (.iconst 0, 1) := by decide +kernel
theorem dL_law_208 : decode cL_law 208 = .ok (.ireturn, 1) := by decide +kernel
theorem dL_law_209 : decode cL_law 209 = .ok (.aload_n 1, 1) := by decide +kernel
theorem dL_law_210 : decode cL_law 210 = .ok (.aload_n 0, 1) := by decide +kernel
theorem dL_law_211 : decode cL_law 211 = .ok (.iload 4, 2) := by decide +kernel
theorem dL_law_213 : decode cL_law 213 = .ok (.iconst 1, 1) := by decide +kernel
theorem dL_law_214 : decode cL_law 214 = .ok (.iadd, 1) := by decide +kernel
theorem dL_law_215 : decode cL_law 215 = .ok (.iaload, 1) := by decide +kernel
theorem dL_law_216 : decode cL_law 216 = .ok (.aload_n 0, 1) := by decide +kernel
theorem dL_law_217 : decode cL_law 217 = .ok (.iload 4, 2) := by decide +kernel
theorem dL_law_219 : decode cL_law 219 = .ok (.iconst 2, 1) := by decide +kernel
theorem dL_law_220 : decode cL_law 220 = .ok (.iadd, 1) := by decide +kernel
theorem dL_law_221 : decode cL_law 221 = .ok (.iaload, 1) := by decide +kernel
theorem dL_law_222 : decode cL_law 222 = .ok (.invokevirtual 34, 3) := by decide +kernel
theorem dL_law_225 : decode cL_law 225 = .ok (.aload_n 2, 1) := by decide +kernel
theorem dL_law_226 : decode cL_law 226 = .ok (.aload_n 0, 1) := by decide +kernel
theorem dL_law_227 : decode cL_law 227 = .ok (.iload 4, 2) := by decide +kernel
theorem dL_law_229 : decode cL_law 229 = .ok (.iconst 1, 1) := by decide +kernel
theorem dL_law_230 : decode cL_law 230 = .ok (.iadd, 1) := by decide +kernel
theorem dL_law_231 : decode cL_law 231 = .ok (.iaload, 1) := by decide +kernel
theorem dL_law_232 : decode cL_law 232 = .ok (.aload_n 0, 1) := by decide +kernel
theorem dL_law_233 : decode cL_law 233 = .ok (.iload 4, 2) := by decide +kernel
theorem dL_law_235 : decode cL_law 235 = .ok (.iconst 2, 1) := by decide +kernel
theorem dL_law_236 : decode cL_law 236 = .ok (.iadd, 1) := by decide +kernel
theorem dL_law_237 : decode cL_law 237 = .ok (.iaload, 1) := by decide +kernel
theorem dL_law_238 : decode cL_law 238 = .ok (.invokevirtual 38, 3) := by decide +kernel
theorem dL_law_241 : decode cL_law 241 = .ok (.if_icmp .eq 399, 3) := by decide +kernel
theorem dL_law_244 : decode cL_law 244 = .ok (.iconst 0, 1) := by decide +kernel
theorem dL_law_245 : decode cL_law 245 = .ok (.ireturn, 1) := by decide +kernel
theorem dL_law_246 : decode cL_law 246 = .ok (.aload_n 1, 1) := by decide +kernel
theorem dL_law_247 : decode cL_law 247 = .ok (.aload_n 0, 1) := by decide +kernel
theorem dL_law_248 : decode cL_law 248 = .ok (.iload 4, 2) := by decide +kernel
theorem dL_law_250 : decode cL_law 250 = .ok (.iconst 1, 1) := by decide +kernel
theorem dL_law_251 : decode cL_law 251 = .ok (.iadd, 1) := by decide +kernel
theorem dL_law_252 : decode cL_law 252 = .ok (.iaload, 1) := by decide +kernel
theorem dL_law_253 : decode cL_law 253 = .ok (.aload_n 0, 1) := by decide +kernel
theorem dL_law_254 : decode cL_law 254 = .ok (.iload 4, 2) := by decide +kernel
theorem dL_law_256 : decode cL_law 256 = .ok (.iconst 2, 1) := by decide +kernel
theorem dL_law_257 : decode cL_law 257 = .ok (.iadd, 1) := by decide +kernel
theorem dL_law_258 : decode cL_law 258 = .ok (.iaload, 1) := by decide +kernel
theorem dL_law_259 : decode cL_law 259 = .ok (.aload_n 0, 1) := by decide +kernel
theorem dL_law_260 : decode cL_law 260 = .ok (.iload 4, 2) := by decide +kernel
theorem dL_law_262 : decode cL_law 262 = .ok (.iconst 3, 1) := by decide +kernel
theorem dL_law_263 : decode cL_law 263 = .ok (.iadd, 1) := by decide +kernel
theorem dL_law_264 : decode cL_law 264 = .ok (.iaload, 1) := by decide +kernel
theorem dL_law_265 : decode cL_law 265 = .ok (.i2l, 1) := by decide +kernel
theorem dL_law_266 : decode cL_law 266 = .ok (.bipush 32, 2) := by decide +kernel
theorem dL_law_268 : decode cL_law 268 = .ok (.lshl, 1) := by decide +kernel
theorem dL_law_269 : decode cL_law 269 = .ok (.aload_n 0, 1) := by decide +kernel
theorem dL_law_270 : decode cL_law 270 = .ok (.iload 4, 2) := by decide +kernel
theorem dL_law_272 : decode cL_law 272 = .ok (.iconst 4, 1) := by decide +kernel
theorem dL_law_273 : decode cL_law 273 = .ok (.iadd, 1) := by decide +kernel
theorem dL_law_274 : decode cL_law 274 = .ok (.iaload, 1) := by decide +kernel
theorem dL_law_275 : decode cL_law 275 = .ok (.i2l, 1) := by decide +kernel
theorem dL_law_276 : decode cL_law 276 = .ok (.ldc2_w 39, 3) := by decide +kernel
theorem dL_law_279 : decode cL_law 279 = .ok (.land, 1) := by decide +kernel
theorem dL_law_280 : decode cL_law 280 = .ok (.lor, 1) := by decide +kernel
theorem dL_law_281 : decode cL_law 281 = .ok (.invokevirtual 41, 3) := by decide +kernel
theorem dL_law_284 : decode cL_law 284 = .ok (.aload_n 2, 1) := by decide +kernel
theorem dL_law_285 : decode cL_law 285 = .ok (.aload_n 0, 1) := by decide +kernel
theorem dL_law_286 : decode cL_law 286 = .ok (.iload 4, 2) := by decide +kernel
theorem dL_law_288 : decode cL_law 288 = .ok (.iconst 1, 1) := by decide +kernel
theorem dL_law_289 : decode cL_law 289 = .ok (.iadd, 1) := by decide +kernel
theorem dL_law_290 : decode cL_law 290 = .ok (.iaload, 1) := by decide +kernel
theorem dL_law_291 : decode cL_law 291 = .ok (.aload_n 0, 1) := by decide +kernel
theorem dL_law_292 : decode cL_law 292 = .ok (.iload 4, 2) := by decide +kernel
theorem dL_law_294 : decode cL_law 294 = .ok (.iconst 2, 1) := by decide +kernel
theorem dL_law_295 : decode cL_law 295 = .ok (.iadd, 1) := by decide +kernel
theorem dL_law_296 : decode cL_law 296 = .ok (.iaload, 1) := by decide +kernel
theorem dL_law_297 : decode cL_law 297 = .ok (.aload_n 0, 1) := by decide +kernel
theorem dL_law_298 : decode cL_law 298 = .ok (.iload 4, 2) := by decide +kernel
theorem dL_law_300 : decode cL_law 300 = .ok (.iconst 3, 1) := by decide +kernel
theorem dL_law_301 : decode cL_law 301 = .ok (.iadd, 1) := by decide +kernel
theorem dL_law_302 : decode cL_law 302 = .ok (.iaload, 1) := by decide +kernel
theorem dL_law_303 : decode cL_law 303 = .ok (.i2l, 1) := by decide +kernel
theorem dL_law_304 : decode cL_law 304 = .ok (.bipush 32, 2) := by decide +kernel
theorem dL_law_306 : decode cL_law 306 = .ok (.lshl, 1) := by decide +kernel
theorem dL_law_307 : decode cL_law 307 = .ok (.aload_n 0, 1) := by decide +kernel
theorem dL_law_308 : decode cL_law 308 = .ok (.iload 4, 2) := by decide +kernel
theorem dL_law_310 : decode cL_law 310 = .ok (.iconst 4, 1) := by decide +kernel
theorem dL_law_311 : decode cL_law 311 = .ok (.iadd, 1) := by decide +kernel
theorem dL_law_312 : decode cL_law 312 = .ok (.iaload, 1) := by decide +kernel
theorem dL_law_313 : decode cL_law 313 = .ok (.i2l, 1) := by decide +kernel
theorem dL_law_314 : decode cL_law 314 = .ok (.ldc2_w 39, 3) := by decide +kernel
theorem dL_law_317 : decode cL_law 317 = .ok (.land, 1) := by decide +kernel
theorem dL_law_318 : decode cL_law 318 = .ok (.lor, 1) := by decide +kernel
theorem dL_law_319 : decode cL_law 319 = .ok (.invokevirtual 45, 3) := by decide +kernel
theorem dL_law_322 : decode cL_law 322 = .ok (.lcmp, 1) := by decide +kernel
theorem dL_law_323 : decode cL_law 323 = .ok (.ifCond .eq 317, 3) := by decide +kernel
theorem dL_law_326 : decode cL_law 326 = .ok (.iconst 0, 1) := by decide +kernel
theorem dL_law_327 : decode cL_law 327 = .ok (.ireturn, 1) := by decide +kernel
theorem dL_law_328 : decode cL_law 328 = .ok (.aload_n 1, 1) := by decide +kernel
theorem dL_law_329 : decode cL_law 329 = .ok (.aload_n 0, 1) := by decide +kernel
theorem dL_law_330 : decode cL_law 330 = .ok (.iload 4, 2) := by decide +kernel
theorem dL_law_332 : decode cL_law 332 = .ok (.iconst 1, 1) := by decide +kernel
theorem dL_law_333 : decode cL_law 333 = .ok (.iadd, 1) := by decide +kernel
theorem dL_law_334 : decode cL_law 334 = .ok (.iaload, 1) := by decide +kernel
theorem dL_law_335 : decode cL_law 335 = .ok (.aload_n 0, 1) := by decide +kernel
theorem dL_law_336 : decode cL_law 336 = .ok (.iload 4, 2) := by decide +kernel
theorem dL_law_338 : decode cL_law 338 = .ok (.iconst 2, 1) := by decide +kernel
theorem dL_law_339 : decode cL_law 339 = .ok (.iadd, 1) := by decide +kernel
theorem dL_law_340 : decode cL_law 340 = .ok (.iaload, 1) := by decide +kernel
theorem dL_law_341 : decode cL_law 341 = .ok (.aload_n 0, 1) := by decide +kernel
theorem dL_law_342 : decode cL_law 342 = .ok (.iload 4, 2) := by decide +kernel
theorem dL_law_344 : decode cL_law 344 = .ok (.iconst 3, 1) := by decide +kernel
theorem dL_law_345 : decode cL_law 345 = .ok (.iadd, 1) := by decide +kernel
theorem dL_law_346 : decode cL_law 346 = .ok (.iaload, 1) := by decide +kernel
theorem dL_law_347 : decode cL_law 347 = .ok (.i2l, 1) := by decide +kernel
theorem dL_law_348 : decode cL_law 348 = .ok (.bipush 32, 2) := by decide +kernel
theorem dL_law_350 : decode cL_law 350 = .ok (.lshl, 1) := by decide +kernel
theorem dL_law_351 : decode cL_law 351 = .ok (.aload_n 0, 1) := by decide +kernel
theorem dL_law_352 : decode cL_law 352 = .ok (.iload 4, 2) := by decide +kernel
theorem dL_law_354 : decode cL_law 354 = .ok (.iconst 4, 1) := by decide +kernel
theorem dL_law_355 : decode cL_law 355 = .ok (.iadd, 1) := by decide +kernel
theorem dL_law_356 : decode cL_law 356 = .ok (.iaload, 1) := by decide +kernel
theorem dL_law_357 : decode cL_law 357 = .ok (.i2l, 1) := by decide +kernel
theorem dL_law_358 : decode cL_law 358 = .ok (.ldc2_w 39, 3) := by decide +kernel
theorem dL_law_361 : decode cL_law 361 = .ok (.land, 1) := by decide +kernel
theorem dL_law_362 : decode cL_law 362 = .ok (.lor, 1) := by decide +kernel
theorem dL_law_363 : decode cL_law 363 = .ok (.invokevirtual 46, 3) := by decide +kernel
theorem dL_law_366 : decode cL_law 366 = .ok (.aload_n 2, 1) := by decide +kernel
theorem dL_law_367 : decode cL_law 367 = .ok (.aload_n 0, 1) := by decide +kernel
theorem dL_law_368 : decode cL_law 368 = .ok (.iload 4, 2) := by decide +kernel
theorem dL_law_370 : decode cL_law 370 = .ok (.iconst 1, 1) := by decide +kernel
theorem dL_law_371 : decode cL_law 371 = .ok (.iadd, 1) := by decide +kernel
theorem dL_law_372 : decode cL_law 372 = .ok (.iaload, 1) := by decide +kernel
theorem dL_law_373 : decode cL_law 373 = .ok (.aload_n 0, 1) := by decide +kernel
theorem dL_law_374 : decode cL_law 374 = .ok (.iload 4, 2) := by decide +kernel
theorem dL_law_376 : decode cL_law 376 = .ok (.iconst 2, 1) := by decide +kernel
theorem dL_law_377 : decode cL_law 377 = .ok (.iadd, 1) := by decide +kernel
theorem dL_law_378 : decode cL_law 378 = .ok (.iaload, 1) := by decide +kernel
theorem dL_law_379 : decode cL_law 379 = .ok (.aload_n 0, 1) := by decide +kernel
theorem dL_law_380 : decode cL_law 380 = .ok (.iload 4, 2) := by decide +kernel
theorem dL_law_382 : decode cL_law 382 = .ok (.iconst 3, 1) := by decide +kernel
theorem dL_law_383 : decode cL_law 383 = .ok (.iadd, 1) := by decide +kernel
theorem dL_law_384 : decode cL_law 384 = .ok (.iaload, 1) := by decide +kernel
theorem dL_law_385 : decode cL_law 385 = .ok (.i2l, 1) := by decide +kernel
theorem dL_law_386 : decode cL_law 386 = .ok (.bipush 32, 2) := by decide +kernel
theorem dL_law_388 : decode cL_law 388 = .ok (.lshl, 1) := by decide +kernel
theorem dL_law_389 : decode cL_law 389 = .ok (.aload_n 0, 1) := by decide +kernel
theorem dL_law_390 : decode cL_law 390 = .ok (.iload 4, 2) := by decide +kernel
theorem dL_law_392 : decode cL_law 392 = .ok (.iconst 4, 1) := by decide +kernel
theorem dL_law_393 : decode cL_law 393 = .ok (.iadd, 1) := by decide +kernel
theorem dL_law_394 : decode cL_law 394 = .ok (.iaload, 1) := by decide +kernel
theorem dL_law_395 : decode cL_law 395 = .ok (.i2l, 1) := by decide +kernel
theorem dL_law_396 : decode cL_law 396 = .ok (.ldc2_w 39, 3) := by decide +kernel
theorem dL_law_399 : decode cL_law 399 = .ok (.land, 1) := by decide +kernel
theorem dL_law_400 : decode cL_law 400 = .ok (.lor, 1) := by decide +kernel
theorem dL_law_401 : decode cL_law 401 = .ok (.invokevirtual 50, 3) := by decide +kernel
theorem dL_law_404 : decode cL_law 404 = .ok (.if_icmp .eq 236, 3) := by decide +kernel
theorem dL_law_407 : decode cL_law 407 = .ok (.iconst 0, 1) := by decide +kernel
theorem dL_law_408 : decode cL_law 408 = .ok (.ireturn, 1) := by decide +kernel
theorem dL_law_409 : decode cL_law 409 = .ok (.aload_n 1, 1) := by decide +kernel
theorem dL_law_410 : decode cL_law 410 = .ok (.aload_n 0, 1) := by decide +kernel
theorem dL_law_411 : decode cL_law 411 = .ok (.iload 4, 2) := by decide +kernel
theorem dL_law_413 : decode cL_law 413 = .ok (.iconst 1, 1) := by decide +kernel
theorem dL_law_414 : decode cL_law 414 = .ok (.iadd, 1) := by decide +kernel
theorem dL_law_415 : decode cL_law 415 = .ok (.iaload, 1) := by decide +kernel
theorem dL_law_416 : decode cL_law 416 = .ok (.aload_n 0, 1) := by decide +kernel
theorem dL_law_417 : decode cL_law 417 = .ok (.iload 4, 2) := by decide +kernel
theorem dL_law_419 : decode cL_law 419 = .ok (.iconst 2, 1) := by decide +kernel
theorem dL_law_420 : decode cL_law 420 = .ok (.iadd, 1) := by decide +kernel
theorem dL_law_421 : decode cL_law 421 = .ok (.iaload, 1) := by decide +kernel
theorem dL_law_422 : decode cL_law 422 = .ok (.invokevirtual 51, 3) := by decide +kernel
theorem dL_law_425 : decode cL_law 425 = .ok (.aload_n 2, 1) := by decide +kernel
theorem dL_law_426 : decode cL_law 426 = .ok (.aload_n 0, 1) := by decide +kernel
theorem dL_law_427 : decode cL_law 427 = .ok (.iload 4, 2) := by decide +kernel
theorem dL_law_429 : decode cL_law 429 = .ok (.iconst 1, 1) := by decide +kernel
theorem dL_law_430 : decode cL_law 430 = .ok (.iadd, 1) := by decide +kernel
theorem dL_law_431 : decode cL_law 431 = .ok (.iaload, 1) := by decide +kernel
theorem dL_law_432 : decode cL_law 432 = .ok (.aload_n 0, 1) := by decide +kernel
theorem dL_law_433 : decode cL_law 433 = .ok (.iload 4, 2) := by decide +kernel
theorem dL_law_435 : decode cL_law 435 = .ok (.iconst 2, 1) := by decide +kernel
theorem dL_law_436 : decode cL_law 436 = .ok (.iadd, 1) := by decide +kernel
theorem dL_law_437 : decode cL_law 437 = .ok (.iaload, 1) := by decide +kernel
theorem dL_law_438 : decode cL_law 438 = .ok (.invokevirtual 54, 3) := by decide +kernel
theorem dL_law_441 : decode cL_law 441 = .ok (.if_icmp .eq 199, 3) := by decide +kernel
theorem dL_law_444 : decode cL_law 444 = .ok (.iconst 0, 1) := by decide +kernel
theorem dL_law_445 : decode cL_law 445 = .ok (.ireturn, 1) := by decide +kernel
theorem dL_law_446 : decode cL_law 446 = .ok (.aload_n 1, 1) := by decide +kernel
theorem dL_law_447 : decode cL_law 447 = .ok (.aload_n 0, 1) := by decide +kernel
theorem dL_law_448 : decode cL_law 448 = .ok (.iload 4, 2) := by decide +kernel
theorem dL_law_450 : decode cL_law 450 = .ok (.iconst 1, 1) := by decide +kernel
theorem dL_law_451 : decode cL_law 451 = .ok (.iadd, 1) := by decide +kernel
theorem dL_law_452 : decode cL_law 452 = .ok (.iaload, 1) := by decide +kernel
theorem dL_law_453 : decode cL_law 453 = .ok (.i2l, 1) := by decide +kernel
theorem dL_law_454 : decode cL_law 454 = .ok (.bipush 32, 2) := by decide +kernel
theorem dL_law_456 : decode cL_law 456 = .ok (.lshl, 1) := by decide +kernel
theorem dL_law_457 : decode cL_law 457 = .ok (.aload_n 0, 1) := by decide +kernel
theorem dL_law_458 : decode cL_law 458 = .ok (.iload 4, 2) := by decide +kernel
theorem dL_law_460 : decode cL_law 460 = .ok (.iconst 2, 1) := by decide +kernel
theorem dL_law_461 : decode cL_law 461 = .ok (.iadd, 1) := by decide +kernel
theorem dL_law_462 : decode cL_law 462 = .ok (.iaload, 1) := by decide +kernel
theorem dL_law_463 : decode cL_law 463 = .ok (.i2l, 1) := by decide +kernel
theorem dL_law_464 : decode cL_law 464 = .ok (.ldc2_w 39, 3) := by decide +kernel
theorem dL_law_467 : decode cL_law 467 = .ok (.land, 1) := by decide +kernel
theorem dL_law_468 : decode cL_law 468 = .ok (.lor, 1) := by decide +kernel
theorem dL_law_469 : decode cL_law 469 = .ok (.aload_n 0, 1) := by decide +kernel
theorem dL_law_470 : decode cL_law 470 = .ok (.iload 4, 2) := by decide +kernel
theorem dL_law_472 : decode cL_law 472 = .ok (.iconst 3, 1) := by decide +kernel
theorem dL_law_473 : decode cL_law 473 = .ok (.iadd, 1) := by decide +kernel
theorem dL_law_474 : decode cL_law 474 = .ok (.iaload, 1) := by decide +kernel
theorem dL_law_475 : decode cL_law 475 = .ok (.i2l, 1) := by decide +kernel
theorem dL_law_476 : decode cL_law 476 = .ok (.bipush 32, 2) := by decide +kernel
theorem dL_law_478 : decode cL_law 478 = .ok (.lshl, 1) := by decide +kernel
theorem dL_law_479 : decode cL_law 479 = .ok (.aload_n 0, 1) := by decide +kernel
theorem dL_law_480 : decode cL_law 480 = .ok (.iload 4, 2) := by decide +kernel
theorem dL_law_482 : decode cL_law 482 = .ok (.iconst 4, 1) := by decide +kernel
theorem dL_law_483 : decode cL_law 483 = .ok (.iadd, 1) := by decide +kernel
theorem dL_law_484 : decode cL_law 484 = .ok (.iaload, 1) := by decide +kernel
theorem dL_law_485 : decode cL_law 485 = .ok (.i2l, 1) := by decide +kernel
theorem dL_law_486 : decode cL_law 486 = .ok (.ldc2_w 39, 3) := by decide +kernel
theorem dL_law_489 : decode cL_law 489 = .ok (.land, 1) := by decide +kernel
theorem dL_law_490 : decode cL_law 490 = .ok (.lor, 1) := by decide +kernel
theorem dL_law_491 : decode cL_law 491 = .ok (.aload_n 3, 1) := by decide +kernel
theorem dL_law_492 : decode cL_law 492 = .ok (.invokestatic 55, 3) := by decide +kernel
theorem dL_law_495 : decode cL_law 495 = .ok (.istore 5, 2) := by decide +kernel
theorem dL_law_497 : decode cL_law 497 = .ok (.aload_n 2, 1) := by decide +kernel
theorem dL_law_498 : decode cL_law 498 = .ok (.aload_n 0, 1) := by decide +kernel
theorem dL_law_499 : decode cL_law 499 = .ok (.iload 4, 2) := by decide +kernel
theorem dL_law_501 : decode cL_law 501 = .ok (.iconst 1, 1) := by decide +kernel
theorem dL_law_502 : decode cL_law 502 = .ok (.iadd, 1) := by decide +kernel
theorem dL_law_503 : decode cL_law 503 = .ok (.iaload, 1) := by decide +kernel
theorem dL_law_504 : decode cL_law 504 = .ok (.i2l, 1) := by decide +kernel
theorem dL_law_505 : decode cL_law 505 = .ok (.bipush 32, 2) := by decide +kernel
theorem dL_law_507 : decode cL_law 507 = .ok (.lshl, 1) := by decide +kernel
theorem dL_law_508 : decode cL_law 508 = .ok (.aload_n 0, 1) := by decide +kernel
theorem dL_law_509 : decode cL_law 509 = .ok (.iload 4, 2) := by decide +kernel
theorem dL_law_511 : decode cL_law 511 = .ok (.iconst 2, 1) := by decide +kernel
theorem dL_law_512 : decode cL_law 512 = .ok (.iadd, 1) := by decide +kernel
theorem dL_law_513 : decode cL_law 513 = .ok (.iaload, 1) := by decide +kernel
theorem dL_law_514 : decode cL_law 514 = .ok (.i2l, 1) := by decide +kernel
theorem dL_law_515 : decode cL_law 515 = .ok (.ldc2_w 39, 3) := by decide +kernel
theorem dL_law_518 : decode cL_law 518 = .ok (.land, 1) := by decide +kernel
theorem dL_law_519 : decode cL_law 519 = .ok (.lor, 1) := by decide +kernel
theorem dL_law_520 : decode cL_law 520 = .ok (.aload_n 0, 1) := by decide +kernel
theorem dL_law_521 : decode cL_law 521 = .ok (.iload 4, 2) := by decide +kernel
theorem dL_law_523 : decode cL_law 523 = .ok (.iconst 3, 1) := by decide +kernel
theorem dL_law_524 : decode cL_law 524 = .ok (.iadd, 1) := by decide +kernel
theorem dL_law_525 : decode cL_law 525 = .ok (.iaload, 1) := by decide +kernel
theorem dL_law_526 : decode cL_law 526 = .ok (.i2l, 1) := by decide +kernel
theorem dL_law_527 : decode cL_law 527 = .ok (.bipush 32, 2) := by decide +kernel
theorem dL_law_529 : decode cL_law 529 = .ok (.lshl, 1) := by decide +kernel
theorem dL_law_530 : decode cL_law 530 = .ok (.aload_n 0, 1) := by decide +kernel
theorem dL_law_531 : decode cL_law 531 = .ok (.iload 4, 2) := by decide +kernel
theorem dL_law_533 : decode cL_law 533 = .ok (.iconst 4, 1) := by decide +kernel
theorem dL_law_534 : decode cL_law 534 = .ok (.iadd, 1) := by decide +kernel
theorem dL_law_535 : decode cL_law 535 = .ok (.iaload, 1) := by decide +kernel
theorem dL_law_536 : decode cL_law 536 = .ok (.i2l, 1) := by decide +kernel
theorem dL_law_537 : decode cL_law 537 = .ok (.ldc2_w 39, 3) := by decide +kernel
theorem dL_law_540 : decode cL_law 540 = .ok (.land, 1) := by decide +kernel
theorem dL_law_541 : decode cL_law 541 = .ok (.lor, 1) := by decide +kernel
theorem dL_law_542 : decode cL_law 542 = .ok (.invokevirtual 60, 3) := by decide +kernel
theorem dL_law_545 : decode cL_law 545 = .ok (.lstore 6, 2) := by decide +kernel
theorem dL_law_547 : decode cL_law 547 = .ok (.aload_n 2, 1) := by decide +kernel
theorem dL_law_548 : decode cL_law 548 = .ok (.invokevirtual 61, 3) := by decide +kernel
theorem dL_law_551 : decode cL_law 551 = .ok (.iload 5, 2) := by decide +kernel
theorem dL_law_553 : decode cL_law 553 = .ok (.if_icmp .eq 5, 3) := by decide +kernel
theorem dL_law_556 : decode cL_law 556 = .ok (.iconst 0, 1) := by decide +kernel
theorem dL_law_557 : decode cL_law 557 = .ok (.ireturn, 1) := by decide +kernel
theorem dL_law_558 : decode cL_law 558 = .ok (.iload 5, 2) := by decide +kernel
theorem dL_law_560 : decode cL_law 560 = .ok (.ifCond .ne 14, 3) := by decide +kernel
theorem dL_law_563 : decode cL_law 563 = .ok (.aload_n 3, 1) := by decide +kernel
theorem dL_law_564 : decode cL_law 564 = .ok (.iconst 0, 1) := by decide +kernel
theorem dL_law_565 : decode cL_law 565 = .ok (.laload, 1) := by decide +kernel
theorem dL_law_566 : decode cL_law 566 = .ok (.lload 6, 2) := by decide +kernel
theorem dL_law_568 : decode cL_law 568 = .ok (.lcmp, 1) := by decide +kernel
theorem dL_law_569 : decode cL_law 569 = .ok (.ifCond .eq 5, 3) := by decide +kernel
theorem dL_law_572 : decode cL_law 572 = .ok (.iconst 0, 1) := by decide +kernel
theorem dL_law_573 : decode cL_law 573 = .ok (.ireturn, 1) := by decide +kernel
theorem dL_law_574 : decode cL_law 574 = .ok (.goto 66, 3) := by decide +kernel
theorem dL_law_577 : decode cL_law 577 = .ok (.aload_n 1, 1) := by decide +kernel
theorem dL_law_578 : decode cL_law 578 = .ok (.aload_n 0, 1) := by decide +kernel
theorem dL_law_579 : decode cL_law 579 = .ok (.iload 4, 2) := by decide +kernel
theorem dL_law_581 : decode cL_law 581 = .ok (.iconst 1, 1) := by decide +kernel
theorem dL_law_582 : decode cL_law 582 = .ok (.iadd, 1) := by decide +kernel
theorem dL_law_583 : decode cL_law 583 = .ok (.iaload, 1) := by decide +kernel
theorem dL_law_584 : decode cL_law 584 = .ok (.invokevirtual 64, 3) := by decide +kernel
theorem dL_law_587 : decode cL_law 587 = .ok (.aload_n 2, 1) := by decide +kernel
theorem dL_law_588 : decode cL_law 588 = .ok (.aload_n 0, 1) := by decide +kernel
theorem dL_law_589 : decode cL_law 589 = .ok (.iload 4, 2) := by decide +kernel
theorem dL_law_591 : decode cL_law 591 = .ok (.iconst 1, 1) := by decide +kernel
theorem dL_law_592 : decode cL_law 592 = .ok (.iadd, 1) := by decide +kernel
theorem dL_law_593 : decode cL_law 593 = .ok (.iaload, 1) := by decide +kernel
theorem dL_law_594 : decode cL_law 594 = .ok (.invokevirtual 68, 3) := by decide +kernel
theorem dL_law_597 : decode cL_law 597 = .ok (.if_icmp .eq 43, 3) := by decide +kernel
theorem dL_law_600 : decode cL_law 600 = .ok (.iconst 0, 1) := by decide +kernel
theorem dL_law_601 : decode cL_law 601 = .ok (.ireturn, 1) := by decide +kernel
theorem dL_law_602 : decode cL_law 602 = .ok (.aload_n 1, 1) := by decide +kernel
theorem dL_law_603 : decode cL_law 603 = .ok (.invokevirtual 69, 3) := by decide +kernel
theorem dL_law_606 : decode cL_law 606 = .ok (.aload_n 2, 1) := by decide +kernel
theorem dL_law_607 : decode cL_law 607 = .ok (.invokevirtual 72, 3) := by decide +kernel
theorem dL_law_610 : decode cL_law 610 = .ok (.if_icmp .eq 30, 3) := by decide +kernel
theorem dL_law_613 : decode cL_law 613 = .ok (.iconst 0, 1) := by decide +kernel
theorem dL_law_614 : decode cL_law 614 = .ok (.ireturn, 1) := by decide +kernel
theorem dL_law_615 : decode cL_law 615 = .ok (.aload_n 1, 1) := by decide +kernel
theorem dL_law_616 : decode cL_law 616 = .ok (.aload_n 0, 1) := by decide +kernel
theorem dL_law_617 : decode cL_law 617 = .ok (.iload 4, 2) := by decide +kernel
theorem dL_law_619 : decode cL_law 619 = .ok (.iconst 1, 1) := by decide +kernel
theorem dL_law_620 : decode cL_law 620 = .ok (.iadd, 1) := by decide +kernel
theorem dL_law_621 : decode cL_law 621 = .ok (.iaload, 1) := by decide +kernel
theorem dL_law_622 : decode cL_law 622 = .ok (.invokevirtual 73, 3) := by decide +kernel
theorem dL_law_625 : decode cL_law 625 = .ok (.aload_n 2, 1) := by decide +kernel
theorem dL_law_626 : decode cL_law 626 = .ok (.aload_n 0, 1) := by decide +kernel
theorem dL_law_627 : decode cL_law 627 = .ok (.iload 4, 2) := by decide +kernel
theorem dL_law_629 : decode cL_law 629 = .ok (.iconst 1, 1) := by decide +kernel
theorem dL_law_630 : decode cL_law 630 = .ok (.iadd, 1) := by decide +kernel
theorem dL_law_631 : decode cL_law 631 = .ok (.iaload, 1) := by decide +kernel
theorem dL_law_632 : decode cL_law 632 = .ok (.invokevirtual 76, 3) := by decide +kernel
theorem dL_law_635 : decode cL_law 635 = .ok (.if_icmp .eq 5, 3) := by decide +kernel
theorem dL_law_638 : decode cL_law 638 = .ok (.iconst 0, 1) := by decide +kernel
theorem dL_law_639 : decode cL_law 639 = .ok (.ireturn, 1) := by decide +kernel
theorem dL_law_640 : decode cL_law 640 = .ok (.iinc 4 6, 3) := by decide +kernel
theorem dL_law_643 : decode cL_law 643 = .ok (.goto (-620), 3) := by decide +kernel
theorem dL_law_646 : decode cL_law 646 = .ok (.iconst 1, 1) := by decide +kernel
theorem dL_law_647 : decode cL_law 647 = .ok (.ireturn, 1) := by decide +kernel
end
section
/-! A small machine over whole numbers: values are numbers with a tag, the heap is a function (address, place) -> number, 'ty' says what a cell is. zX: from here the method comes to an end at which Q holds of answer, cells and heap. -/
abbrev zV := Int ⊕ (Int ⊕ Int)
abbrev iV (z : Int) : zV := .inl z
abbrev lV (z : Int) : zV := .inr (.inl z)
abbrev rV (z : Int) : zV := .inr (.inr z)
def zrf (z : Int) : Option Nat := if z < 0 then none else some z.toNat
def zcv : zV → Value
  | .inl z => .int (Int32.ofInt z)
  | .inr (.inl z) => .long (Int64.ofInt z)
  | .inr (.inr z) => va_rf (zrf z)
def zct (t : Nat) (z : Int) : Value := match t with
  | 0 => .int (Int32.ofInt z)
  | 1 => .long (Int64.ofInt z)
  | _ => va_rf (zrf z)
def zcat : zV → Nat
  | .inr (.inl _) => 2
  | _ => 1
def zC : List vw_C := [(RX0, TX0, 5), (RX1, TX1, 1), (RX2, TX2, 6), (RX3, TX3, 15), (RX4, TX4, 2), (RX5, TX5, 7), (RX6, TX6, 8), (RX7, TX7, 31)]
def zty (ci k : Nat) : FieldType := match ci with
  | 0 => tyX0 k
  | 1 => tyX1 k
  | 2 => tyX2 k
  | 3 => tyX3 k
  | 4 => tyX4 k
  | 5 => tyX5 k
  | 6 => tyX6 k
  | _ => tyX7 k
def ztg (t : FieldType) : Nat := match t with
  | .int => 0
  | .boolean => 0
  | .long => 1
  | _ => 2
def zat (k : Nat) : Nat := match k with
  | 8 => 0
  | 9 => 1
  | 10 => 0
  | _ => 2
abbrev zF := Int → Option Int
abbrev zn : zF := fun _ => none
abbrev zT := Int → Option (Nat × Nat × zF)
abbrev zH := Int → Int → Int
def zcell0 (D : va_G) (k n : Nat) (f : Int → Int) (a : Nat) (H : Heap) : Prop :=
  (k < 8 ∧ ∃ r : vw_C, zC[k]? = some r ∧ n = r.2.2 ∧ t_OB a (D.1 k) n (D.2 k) H (fun i => zct (ztg (zty k i)) (f i))) ∨ (8 ≤ k ∧ k < 14 ∧ n < 2 ^ 31 ∧ H[a]? = some (arrV (D.1 k) n (fun j => zct (zat k) (f j))))
/-- what never changes again (final fields, filled rows of references) stands in the cell's own table z -/
abbrev i32 (x : Int) : Prop := -2147483648 ≤ x ∧ x ≤ 2147483647
abbrev i64 (x : Int) : Prop := -9223372036854775808 ≤ x ∧ x ≤ 9223372036854775807
def ztagc (k i : Nat) : Nat := if k < 8 then ztg (zty k i) else zat k
def zrng (t : Nat) (z : Int) : Prop := (t = 0 → i32 z) ∧ (t = 1 → i64 z)
def zcell (D : va_G) (k n : Nat) (z : zF) (f : Int → Int) (a : Nat) (H : Heap) : Prop := zcell0 D k n f a H ∧ (∀ i v, z i = some v → f i = v) ∧ ∀ i : Nat, i < n → zrng (ztagc k i) (f i)
def zW (D : va_G) (ty : zT) (h : zH) (H : Heap) : Prop := ∀ (a : Int) (k n : Nat) (z : zF), ty a = some (k, n, z) → 0 ≤ a ∧ zcell D k n z (h a) a.toNat H
def ztys (D : va_G) : List (ClassId × FieldType) := [(D.1 8, .int), (D.1 9, .long), (D.1 10, .boolean), (D.1 11, .object RX2), (D.1 12, .object RX1), (D.1 13, .object RX3)]
abbrev zM := MethodName × ByteArray × Nat × Option FieldType × Option (Nat × Nat × (Nat → Int32))
def zTB : List Cond := lw_tbl.filter goodWord
abbrev zQ := Option zV → zT → Nat → zH → Prop
def zloc (L : List (Nat × zV)) : List (Nat × Value) := L.map (fun q => (q.1, zcv q.2))
def zisN : Cond → Bool
  | .methodLinkNest _ _ _ _ => true
  | _ => false
/-- links of nest mates: kept, but not by the kit's test of words -/
def zNL : List Cond := lw_tbl.filter zisN
def zAO (s : State) : Prop := va_AO RX2 s ∧ va_AO RX1 s ∧ va_AO RX3 s ∧ ∀ w ∈ zNL, va_Nw w s
def zS (D : va_G) (M : zM) (d : Nat) (p : Program) (R : Room) (s : State) (m : MethodId) (args : Array Value) (meth : Method) (c : Code) (A : Nat → Prop) (H0 : Heap) (mc ms : Nat) : Prop :=
  p.tables.exec = Jvm.exec ∧ c.code = M.2.1 ∧ meth.sig.returnType = M.2.2.2.1 ∧ c.maxLocals = M.2.2.1 ∧ s.vm.findClass M.1.cls = some m.cls ∧ (∀ w ∈ zTB, w.before args s = true) ∧ meth.locks = false ∧ va_K D zC (ztys D) s ∧ meth.name = M.1.name ∧ (∀ q, H0.size ≤ q → A q) ∧ d ≤ R.frames ∧ 60 * d ≤ R.locals ∧ mc ≤ R.cells ∧ ms ≤ R.slots ∧ (∀ b L xs, M.2.2.2.2 = some (b, L, xs) → va_X b L xs s H0 ∧ b < H0.size ∧ ¬ A b) ∧ zAO s
def zO (D : va_G) (ty : zT) (sz : Nat) (h : zH) (H : Heap) (locs : List Loc) (A : Nat → Prop) (H0 : Heap) : Prop :=
  zW D ty h H ∧ H.size = sz ∧ (∀ a q, ty a = some q → A a.toNat) ∧ va_S A H0 H locs
def zY (D : va_G) (M : zM) (k n : Nat) (L : List (Nat × zV)) (ty : zT) (sz : Nat) (h : zH) (H : Heap) (locs : List Loc) (ls : Array Slot) (cells slots : Nat) (A : Nat → Prop) (H0 : Heap) (mc ms : Nat) : Prop :=
  zO D ty sz h H locs A H0 ∧ lv_has ls M.2.2.1 (zloc L) ∧ cells + k ≤ mc ∧ slots + n ≤ ms
def zRet (M : zM) (pc : Nat) (v : Option zV) : Prop := match v with
  | none => decode M.2.1 pc = .ok (.return_, 1) ∧ M.2.2.2.1 = none
  | some (.inl z) => decode M.2.1 pc = .ok (.ireturn, 1) ∧ (M.2.2.2.1 = some .int ∨ (M.2.2.2.1 = some .boolean ∧ (z = 0 ∨ z = 1)))
  | some (.inr (.inl _)) => decode M.2.1 pc = .ok (.lreturn, 1) ∧ M.2.2.2.1 = some .long
  | some (.inr (.inr _)) => decode M.2.1 pc = .ok (.areturn, 1) ∧ ∃ C, M.2.2.2.1 = some (.object C)
def zX (D : va_G) (M : zM) (d k n pc : Nat) (L : List (Nat × zV)) (st : List zV) (ty : zT) (sz : Nat) (h : zH) (Q : zQ) : Prop :=
  ∀ (p : Program) (l : Launch) (e : Env) (R : Room) (s : State) (m : MethodId) (args : Array Value) (below : List Frame) (meth : Method) (c : Code) (H : Heap) (locs : List Loc) (ls : Array Slot) (cells slots mc ms : Nat) (A : Nat → Prop) (H0 : Heap) (G : State → Prop),
    zS D M d p R s m args meth c A H0 mc ms → zY D M k n L ty sz h H locs ls cells slots A H0 mc ms →
    (∀ v ty' sz' h' H' locs' ls' pc', Q v ty' sz' h' → zO D ty' sz' h' H' locs' A H0 → zRet M pc' v → W p l e R s m args below meth c H' locs' mc ms G (F0 m pc' ls' (v.toList.map zcv))) →
    W p l e R s m args below meth c H locs cells slots G (F0 m pc ls (st.map zcv))
def zlk (i : Nat) : List (Nat × zV) → Option zV
  | [] => none
  | q :: r => cond (Nat.beq q.1 i) (some q.2) (zlk i r)
theorem zlk_mem {i : Nat} {v : zV} : ∀ {L : List (Nat × zV)}, zlk i L = some v → (i, v) ∈ L
  | [], h => by simp [zlk] at h
  | (j, u) :: r, h => by
    unfold zlk at h
    cases hb : Nat.beq j i with
    | true =>
      rw [hb] at h
      have e : j = i := Nat.eq_of_beq_eq_true hb
      subst e
      cases h
      exact List.mem_cons_self
    | false =>
      rw [hb] at h
      exact List.mem_cons_of_mem _ (zlk_mem h)
theorem zlk_at {M : zM} {L : List (Nat × zV)} {ls : Array Slot} {i : Nat} {v : zV} (h : lv_has ls M.2.2.1 (zloc L)) (hl : zlk i L = some v) : ls[i]? = some (.val (zcv v)) :=
  h.2.2 (i, zcv v) (List.mem_map.mpr ⟨(i, v), zlk_mem hl, rfl⟩)
theorem zcat_cv (v : zV) : (zcv v).category = zcat v := by
  rcases v with z | z | z
  · rfl
  · rfl
  · show (va_rf (zrf z)).category = 1
    cases zrf z <;> rfl
/-- new locals behind a store of a short value, of a long one -/
def zst1 (i : Nat) (v : zV) (L : List (Nat × zV)) : List (Nat × zV) := (i, v) :: L.filter (fun q => !(q.1 == i) && !(q.1 + 1 == i && zcat q.2 == 2))
def zst2 (i : Nat) (v : zV) (L : List (Nat × zV)) : List (Nat × zV) := (i, v) :: L.filter (fun q => !(q.1 == i) && (!(q.1 == i + 1) && !(q.1 + 1 == i && zcat q.2 == 2)))
theorem zst1_loc (i : Nat) (v : zV) (L : List (Nat × zV)) : (i, zcv v) :: (zloc L).filter (fun q => !(q.1 == i) && !(q.1 + 1 == i && q.2.category == 2)) = zloc (zst1 i v L) := by
  unfold zst1 zloc
  rw [List.map_cons, List.filter_map]
  refine congrArg (fun f => (i, zcv v) :: List.map (fun q : Nat × zV => (q.1, zcv q.2)) (List.filter f L)) ?_
  funext q
  simp [Function.comp, zcat_cv]
theorem zst2_loc (i : Nat) (v : zV) (L : List (Nat × zV)) : (i, zcv v) :: (zloc L).filter (fun q => !(q.1 == i) && (!(q.1 == i + 1) && !(q.1 + 1 == i && q.2.category == 2))) = zloc (zst2 i v L) := by
  unfold zst2 zloc
  rw [List.map_cons, List.filter_map]
  refine congrArg (fun f => (i, zcv v) :: List.map (fun q : Nat × zV => (q.1, zcv q.2)) (List.filter f L)) ?_
  funext q
  simp [Function.comp, zcat_cv]
def w32 (z : Int) : Int := (Int32.ofInt z).toInt
def w64 (z : Int) : Int := (Int64.ofInt z).toInt
theorem w32_id {z : Int} (h1 : -2147483648 ≤ z) (h2 : z < 2147483648) : w32 z = z := Int32.toInt_ofInt_of_le h1 h2
theorem w64_id {z : Int} (h1 : -9223372036854775808 ≤ z) (h2 : z < 9223372036854775808) : w64 z = z := Int64.toInt_ofInt_of_le h1 h2
theorem w32_of (z : Int) : Int32.ofInt (w32 z) = Int32.ofInt z := Int32.ofInt_toInt _
theorem w64_of (z : Int) : Int64.ofInt (w64 z) = Int64.ofInt z := Int64.ofInt_toInt _
theorem w32_rng (z : Int) : -2147483648 ≤ w32 z ∧ w32 z < 2147483648 := ⟨Int32.le_toInt _, Int32.toInt_lt _⟩
theorem w64_rng (z : Int) : -9223372036854775808 ≤ w64 z ∧ w64 z < 9223372036854775808 := ⟨Int64.le_toInt _, Int64.toInt_lt _⟩
theorem z_eq (a b : Int) : Int32.ofInt a = Int32.ofInt b ↔ w32 a = w32 b := Int32.toInt_inj.symm
theorem z_lt (a b : Int) : Int32.ofInt a < Int32.ofInt b ↔ w32 a < w32 b := Int32.lt_iff_toInt_lt
theorem z_le (a b : Int) : Int32.ofInt a ≤ Int32.ofInt b ↔ w32 a ≤ w32 b := Int32.le_iff_toInt_le
theorem z_eqL (a b : Int) : Int64.ofInt a = Int64.ofInt b ↔ w64 a = w64 b := Int64.toInt_inj.symm
theorem z_ltL (a b : Int) : Int64.ofInt a < Int64.ofInt b ↔ w64 a < w64 b := Int64.lt_iff_toInt_lt
def zand (a b : Int) : Int := (Int32.ofInt a &&& Int32.ofInt b).toInt
def zor (a b : Int) : Int := (Int32.ofInt a ||| Int32.ofInt b).toInt
def zshl (a b : Int) : Int := (Int32.ofInt a <<< (Int32.ofInt b &&& 31)).toInt
def zushr (a b : Int) : Int := ((Int32.ofInt a).toUInt32 >>> ((Int32.ofInt b).toUInt32 &&& Int32.toUInt32 31)).toInt32.toInt
def zandL (a b : Int) : Int := (Int64.ofInt a &&& Int64.ofInt b).toInt
def zorL (a b : Int) : Int := (Int64.ofInt a ||| Int64.ofInt b).toInt
def zshlL (a b : Int) : Int := (Int64.ofInt a <<< ((Int32.ofInt b).toInt64 &&& 63)).toInt
def zup (h : zH) (a k v : Int) : zH := fun a' k' => if a' = a ∧ k' = k then v else h a' k'
def znew (ty : zT) (a : Int) (k n : Nat) : zT := fun a' => if a' = a then some (k, n, zn) else ty a'
def zrow (h : zH) (a : Int) (f : Int → Int) : zH := fun a' k' => if a' = a then f k' else h a' k'
section ZX
variable {D : va_G} {M : zM} {d k n pc : Nat} {L : List (Nat × zV)} {st : List zV} {ty : zT} {sz : Nat} {h : zH} {Q : zQ}

theorem x_iconst {i : Int} (hd : decode M.2.1 pc = .ok (.iconst i, 1)) (kk : zX D M d k n (pc + 1) L (iV i :: st) ty sz h Q) : zX D M d k n pc L (st) ty sz h Q := by
  intro p l e R s m args below meth c H locs ls cells slots mc ms A H0 G S Y hret
  have K := kk p l e R s m args below meth c H locs ls cells slots mc ms A H0 G S Y hret
  exact lv_iconst S.1 S.2.1 hd rfl K
theorem x_bipush {i : Int} (hd : decode M.2.1 pc = .ok (.bipush i, 2)) (hv : (Int8.ofInt i).toInt32 = Int32.ofInt i := by rfl) (kk : zX D M d k n (pc + 2) L (iV i :: st) ty sz h Q) : zX D M d k n pc L (st) ty sz h Q := by
  intro p l e R s m args below meth c H locs ls cells slots mc ms A H0 G S Y hret
  have K := kk p l e R s m args below meth c H locs ls cells slots mc ms A H0 G S Y hret
  exact lv_bipush S.1 S.2.1 hd hv K
theorem x_sipush {i : Int} (hd : decode M.2.1 pc = .ok (.sipush i, 3)) (hv : (Int16.ofInt i).toInt32 = Int32.ofInt i := by rfl) (kk : zX D M d k n (pc + 3) L (iV i :: st) ty sz h Q) : zX D M d k n pc L (st) ty sz h Q := by
  intro p l e R s m args below meth c H locs ls cells slots mc ms A H0 G S Y hret
  have K := kk p l e R s m args below meth c H locs ls cells slots mc ms A H0 G S Y hret
  exact lv_sipush S.1 S.2.1 hd hv K
theorem x_lconst {i : Fin 2} (hd : decode M.2.1 pc = .ok (.lconst i, 1)) (z : Int) (hv : Int64.ofNat (i : Nat) = Int64.ofInt z := by rfl) (kk : zX D M d k n (pc + 1) L (lV z :: st) ty sz h Q) : zX D M d k n pc L (st) ty sz h Q := by
  intro p l e R s m args below meth c H locs ls cells slots mc ms A H0 G S Y hret
  have K := kk p l e R s m args below meth c H locs ls cells slots mc ms A H0 G S Y hret
  exact lv_lconst S.1 S.2.1 hd hv K
theorem x_ldc {i : Nat} (hd : decode M.2.1 pc = .ok (.ldc i, 2)) (z : Int) {v : Int32} (hw : Cond.constant M.1.cls i v ∈ zTB) (hv : v = Int32.ofInt z := by rfl) (kk : zX D M d k n (pc + 2) L (iV z :: st) ty sz h Q) : zX D M d k n pc L (st) ty sz h Q := by
  intro p l e R s m args below meth c H locs ls cells slots mc ms A H0 G S Y hret
  have K := kk p l e R s m args below meth c H locs ls cells slots mc ms A H0 G S Y hret
  subst hv
  exact lv_ldc S.1 S.2.1 S.2.2.2.2.1 (S.2.2.2.2.2.1 _ hw) hd K
theorem x_ldc2 {i : Nat} (hd : decode M.2.1 pc = .ok (.ldc2_w i, 3)) (z : Int) {v : Int64} (hw : Cond.constantLong M.1.cls i v ∈ zTB) (hv : v = Int64.ofInt z := by rfl) (kk : zX D M d k n (pc + 3) L (lV z :: st) ty sz h Q) : zX D M d k n pc L (st) ty sz h Q := by
  intro p l e R s m args below meth c H locs ls cells slots mc ms A H0 G S Y hret
  have K := kk p l e R s m args below meth c H locs ls cells slots mc ms A H0 G S Y hret
  subst hv
  exact lv_ldc2 S.1 S.2.1 S.2.2.2.2.1 (S.2.2.2.2.2.1 _ hw) hd K
theorem x_null (hd : decode M.2.1 pc = .ok (.aconst_null, 1)) (kk : zX D M d k n (pc + 1) L (rV (-1) :: st) ty sz h Q) : zX D M d k n pc L (st) ty sz h Q := by
  intro p l e R s m args below meth c H locs ls cells slots mc ms A H0 G S Y hret
  have K := kk p l e R s m args below meth c H locs ls cells slots mc ms A H0 G S Y hret
  exact lv_null S.1 S.2.1 hd K
theorem x_iload_n {q : Fin 4} {z : Int} (hd : decode M.2.1 pc = .ok (.iload_n q, 1)) (hl : zlk (q : Nat) L = some (iV z)) (kk : zX D M d k n (pc + 1) L (iV z :: st) ty sz h Q) : zX D M d k n pc L (st) ty sz h Q := by
  intro p l e R s m args below meth c H locs ls cells slots mc ms A H0 G S Y hret
  have K := kk p l e R s m args below meth c H locs ls cells slots mc ms A H0 G S Y hret
  exact lv_iload_n S.1 S.2.1 hd rfl (zlk_at Y.2.1 hl) K
theorem x_iload {q : Nat} {z : Int} (hd : decode M.2.1 pc = .ok (.iload q, 2)) (hl : zlk q L = some (iV z)) (kk : zX D M d k n (pc + 2) L (iV z :: st) ty sz h Q) : zX D M d k n pc L (st) ty sz h Q := by
  intro p l e R s m args below meth c H locs ls cells slots mc ms A H0 G S Y hret
  have K := kk p l e R s m args below meth c H locs ls cells slots mc ms A H0 G S Y hret
  exact lv_iload S.1 S.2.1 hd (zlk_at Y.2.1 hl) K
theorem x_lload_n {q : Fin 4} {z : Int} (hd : decode M.2.1 pc = .ok (.lload_n q, 1)) (hl : zlk (q : Nat) L = some (lV z)) (kk : zX D M d k n (pc + 1) L (lV z :: st) ty sz h Q) : zX D M d k n pc L (st) ty sz h Q := by
  intro p l e R s m args below meth c H locs ls cells slots mc ms A H0 G S Y hret
  have K := kk p l e R s m args below meth c H locs ls cells slots mc ms A H0 G S Y hret
  exact lv_lload_n S.1 S.2.1 hd rfl (zlk_at Y.2.1 hl) K
theorem x_lload {q : Nat} {z : Int} (hd : decode M.2.1 pc = .ok (.lload q, 2)) (hl : zlk q L = some (lV z)) (kk : zX D M d k n (pc + 2) L (lV z :: st) ty sz h Q) : zX D M d k n pc L (st) ty sz h Q := by
  intro p l e R s m args below meth c H locs ls cells slots mc ms A H0 G S Y hret
  have K := kk p l e R s m args below meth c H locs ls cells slots mc ms A H0 G S Y hret
  exact lv_lload S.1 S.2.1 hd (zlk_at Y.2.1 hl) K
theorem x_aload_n {q : Fin 4} {z : Int} (hd : decode M.2.1 pc = .ok (.aload_n q, 1)) (hl : zlk (q : Nat) L = some (rV z)) (kk : zX D M d k n (pc + 1) L (rV z :: st) ty sz h Q) : zX D M d k n pc L (st) ty sz h Q := by
  intro p l e R s m args below meth c H locs ls cells slots mc ms A H0 G S Y hret
  have K := kk p l e R s m args below meth c H locs ls cells slots mc ms A H0 G S Y hret
  have hq := zlk_at Y.2.1 hl
  change W p l e R s m args below meth c H locs cells slots G (F0 m (pc + 1) ls (va_rf (zrf z) :: st.map zcv)) at K
  change ls[(q : Nat)]? = some (.val (va_rf (zrf z))) at hq
  cases hz : zrf z with
  | none => rw [hz] at hq K; exact lv_aload_nN S.1 S.2.1 hd rfl hq K
  | some b => rw [hz] at hq K; exact lv_aload_n S.1 S.2.1 hd rfl hq K
theorem x_aload {q : Nat} {z : Int} (hd : decode M.2.1 pc = .ok (.aload q, 2)) (hl : zlk q L = some (rV z)) (kk : zX D M d k n (pc + 2) L (rV z :: st) ty sz h Q) : zX D M d k n pc L (st) ty sz h Q := by
  intro p l e R s m args below meth c H locs ls cells slots mc ms A H0 G S Y hret
  have K := kk p l e R s m args below meth c H locs ls cells slots mc ms A H0 G S Y hret
  have hq := zlk_at Y.2.1 hl
  change W p l e R s m args below meth c H locs cells slots G (F0 m (pc + 2) ls (va_rf (zrf z) :: st.map zcv)) at K
  change ls[q]? = some (.val (va_rf (zrf z))) at hq
  cases hz : zrf z with
  | none => rw [hz] at hq K; exact lv_aloadN S.1 S.2.1 hd hq K
  | some b => rw [hz] at hq K; exact lv_aload S.1 S.2.1 hd hq K
theorem x_istore_n {q : Fin 4} {z : Int} (hd : decode M.2.1 pc = .ok (.istore_n q, 1)) (hn : (q : Nat) < M.2.2.1 := by decide) (kk : zX D M d k n (pc + 1) (zst1 (q : Nat) (iV z) L) st ty sz h Q) : zX D M d k n pc L (iV z :: st) ty sz h Q := by
  intro p l e R s m args below meth c H locs ls cells slots mc ms A H0 G S Y hret
  exact lv_istore_n S.1 S.2.1 hd rfl Y.2.1 hn (zst1_loc (q : Nat) (iV z) L) (fun ls' hl' => kk p l e R s m args below meth c H locs ls' cells slots mc ms A H0 G S ⟨Y.1, hl', Y.2.2⟩ hret)
theorem x_istore {q : Nat} {z : Int} (hd : decode M.2.1 pc = .ok (.istore q, 2)) (hn : q < M.2.2.1 := by decide) (kk : zX D M d k n (pc + 2) (zst1 q (iV z) L) st ty sz h Q) : zX D M d k n pc L (iV z :: st) ty sz h Q := by
  intro p l e R s m args below meth c H locs ls cells slots mc ms A H0 G S Y hret
  exact lv_istore S.1 S.2.1 hd Y.2.1 hn (zst1_loc q (iV z) L) (fun ls' hl' => kk p l e R s m args below meth c H locs ls' cells slots mc ms A H0 G S ⟨Y.1, hl', Y.2.2⟩ hret)
theorem x_lstore_n {q : Fin 4} {z : Int} (hd : decode M.2.1 pc = .ok (.lstore_n q, 1)) (hn : (q : Nat) + 1 < M.2.2.1 := by decide) (kk : zX D M d k n (pc + 1) (zst2 (q : Nat) (lV z) L) st ty sz h Q) : zX D M d k n pc L (lV z :: st) ty sz h Q := by
  intro p l e R s m args below meth c H locs ls cells slots mc ms A H0 G S Y hret
  exact lv_lstore_n S.1 S.2.1 hd rfl Y.2.1 hn (zst2_loc (q : Nat) (lV z) L) (fun ls' hl' => kk p l e R s m args below meth c H locs ls' cells slots mc ms A H0 G S ⟨Y.1, hl', Y.2.2⟩ hret)
theorem x_lstore {q : Nat} {z : Int} (hd : decode M.2.1 pc = .ok (.lstore q, 2)) (hn : q + 1 < M.2.2.1 := by decide) (kk : zX D M d k n (pc + 2) (zst2 q (lV z) L) st ty sz h Q) : zX D M d k n pc L (lV z :: st) ty sz h Q := by
  intro p l e R s m args below meth c H locs ls cells slots mc ms A H0 G S Y hret
  exact lv_lstore S.1 S.2.1 hd Y.2.1 hn (zst2_loc q (lV z) L) (fun ls' hl' => kk p l e R s m args below meth c H locs ls' cells slots mc ms A H0 G S ⟨Y.1, hl', Y.2.2⟩ hret)
theorem x_astore_n {q : Fin 4} {z : Int} (hd : decode M.2.1 pc = .ok (.astore_n q, 1)) (hn : (q : Nat) < M.2.2.1 := by decide) (kk : zX D M d k n (pc + 1) (zst1 (q : Nat) (rV z) L) st ty sz h Q) : zX D M d k n pc L (rV z :: st) ty sz h Q := by
  intro p l e R s m args below meth c H locs ls cells slots mc ms A H0 G S Y hret
  have ez := zst1_loc (q : Nat) (rV z) L
  change W p l e R s m args below meth c H locs cells slots G (F0 m pc ls (va_rf (zrf z) :: st.map zcv))
  change ((q : Nat), va_rf (zrf z)) :: _ = _ at ez
  cases hz : zrf z with
  | none => rw [hz] at ez; exact lv_astore_nN S.1 S.2.1 hd rfl Y.2.1 hn ez (fun ls' hl' => kk p l e R s m args below meth c H locs ls' cells slots mc ms A H0 G S ⟨Y.1, hl', Y.2.2⟩ hret)
  | some b => rw [hz] at ez; exact lv_astore_n S.1 S.2.1 hd rfl Y.2.1 hn ez (fun ls' hl' => kk p l e R s m args below meth c H locs ls' cells slots mc ms A H0 G S ⟨Y.1, hl', Y.2.2⟩ hret)
theorem x_astore {q : Nat} {z : Int} (hd : decode M.2.1 pc = .ok (.astore q, 2)) (hn : q < M.2.2.1 := by decide) (kk : zX D M d k n (pc + 2) (zst1 q (rV z) L) st ty sz h Q) : zX D M d k n pc L (rV z :: st) ty sz h Q := by
  intro p l e R s m args below meth c H locs ls cells slots mc ms A H0 G S Y hret
  have ez := zst1_loc q (rV z) L
  change W p l e R s m args below meth c H locs cells slots G (F0 m pc ls (va_rf (zrf z) :: st.map zcv))
  change (q, va_rf (zrf z)) :: _ = _ at ez
  cases hz : zrf z with
  | none => rw [hz] at ez; exact lv_astoreN S.1 S.2.1 hd Y.2.1 hn ez (fun ls' hl' => kk p l e R s m args below meth c H locs ls' cells slots mc ms A H0 G S ⟨Y.1, hl', Y.2.2⟩ hret)
  | some b => rw [hz] at ez; exact lv_astore S.1 S.2.1 hd Y.2.1 hn ez (fun ls' hl' => kk p l e R s m args below meth c H locs ls' cells slots mc ms A H0 G S ⟨Y.1, hl', Y.2.2⟩ hret)
theorem x_iinc {q : Nat} {i z : Int} (hd : decode M.2.1 pc = .ok (.iinc q i, 3)) (hl : zlk q L = some (iV z)) (hn : q < M.2.2.1 := by decide) (kk : zX D M d k n (pc + 3) (zst1 q (iV (z + i)) L) st ty sz h Q) : zX D M d k n pc L (st) ty sz h Q := by
  intro p l e R s m args below meth c H locs ls cells slots mc ms A H0 G S Y hret
  obtain ⟨j, hj⟩ := List.getElem?_of_mem (List.mem_map.mpr ⟨(q, iV z), zlk_mem hl, rfl⟩ : (q, zcv (iV z)) ∈ zloc L)
  exact lv_iinc (x := Int32.ofInt z) (v := Int32.ofInt (z + i)) S.1 S.2.1 hd Y.2.1 hj (Int32.ofInt_add z i).symm hn (zst1_loc q (iV (z + i)) L) (fun ls' hl' => kk p l e R s m args below meth c H locs ls' cells slots mc ms A H0 G S ⟨Y.1, hl', Y.2.2⟩ hret)
theorem x_iadd {a b : Int} (hd : decode M.2.1 pc = .ok (.iadd, 1)) (kk : zX D M d k n (pc + 1) L (iV (a + b) :: st) ty sz h Q) : zX D M d k n pc L (iV b :: iV a :: st) ty sz h Q := by
  intro p l e R s m args below meth c H locs ls cells slots mc ms A H0 G S Y hret
  have K := kk p l e R s m args below meth c H locs ls cells slots mc ms A H0 G S Y hret
  refine lv_iadd (x := Int32.ofInt a) (y := Int32.ofInt b) S.1 S.2.1 hd ?_
  rw [← Int32.ofInt_add]
  exact K
theorem x_isub {a b : Int} (hd : decode M.2.1 pc = .ok (.isub, 1)) (kk : zX D M d k n (pc + 1) L (iV (a - b) :: st) ty sz h Q) : zX D M d k n pc L (iV b :: iV a :: st) ty sz h Q := by
  intro p l e R s m args below meth c H locs ls cells slots mc ms A H0 G S Y hret
  have K := kk p l e R s m args below meth c H locs ls cells slots mc ms A H0 G S Y hret
  refine lv_isub (x := Int32.ofInt a) (y := Int32.ofInt b) S.1 S.2.1 hd ?_
  rw [← Int32.ofInt_sub]
  exact K
theorem x_imul {a b : Int} (hd : decode M.2.1 pc = .ok (.imul, 1)) (kk : zX D M d k n (pc + 1) L (iV (a * b) :: st) ty sz h Q) : zX D M d k n pc L (iV b :: iV a :: st) ty sz h Q := by
  intro p l e R s m args below meth c H locs ls cells slots mc ms A H0 G S Y hret
  have K := kk p l e R s m args below meth c H locs ls cells slots mc ms A H0 G S Y hret
  refine lv_imul (x := Int32.ofInt a) (y := Int32.ofInt b) S.1 S.2.1 hd ?_
  rw [← Int32.ofInt_mul]
  exact K
theorem x_ladd {a b : Int} (hd : decode M.2.1 pc = .ok (.ladd, 1)) (kk : zX D M d k n (pc + 1) L (lV (a + b) :: st) ty sz h Q) : zX D M d k n pc L (lV b :: lV a :: st) ty sz h Q := by
  intro p l e R s m args below meth c H locs ls cells slots mc ms A H0 G S Y hret
  have K := kk p l e R s m args below meth c H locs ls cells slots mc ms A H0 G S Y hret
  refine lv_ladd (x := Int64.ofInt a) (y := Int64.ofInt b) S.1 S.2.1 hd ?_
  rw [← Int64.ofInt_add]
  exact K
theorem x_lsub {a b : Int} (hd : decode M.2.1 pc = .ok (.lsub, 1)) (kk : zX D M d k n (pc + 1) L (lV (a - b) :: st) ty sz h Q) : zX D M d k n pc L (lV b :: lV a :: st) ty sz h Q := by
  intro p l e R s m args below meth c H locs ls cells slots mc ms A H0 G S Y hret
  have K := kk p l e R s m args below meth c H locs ls cells slots mc ms A H0 G S Y hret
  refine lv_lsub (x := Int64.ofInt a) (y := Int64.ofInt b) S.1 S.2.1 hd ?_
  rw [← Int64.ofInt_sub]
  exact K
theorem x_lmul {a b : Int} (hd : decode M.2.1 pc = .ok (.lmul, 1)) (kk : zX D M d k n (pc + 1) L (lV (a * b) :: st) ty sz h Q) : zX D M d k n pc L (lV b :: lV a :: st) ty sz h Q := by
  intro p l e R s m args below meth c H locs ls cells slots mc ms A H0 G S Y hret
  have K := kk p l e R s m args below meth c H locs ls cells slots mc ms A H0 G S Y hret
  refine lv_lmul (x := Int64.ofInt a) (y := Int64.ofInt b) S.1 S.2.1 hd ?_
  rw [← Int64.ofInt_mul]
  exact K
theorem z_div (a b : Int) : Int32.ofInt ((w32 a).tdiv (w32 b)) = Int32.ofInt a / Int32.ofInt b := by
  apply Int32.toInt_inj.mp
  rw [Int32.toInt_ofInt, Int32.toInt_div]
  rfl
theorem z_mod (a b : Int) : Int32.ofInt ((w32 a).tmod (w32 b)) = Int32.ofInt a - Int32.ofInt a / Int32.ofInt b * Int32.ofInt b := by
  rw [Int.tmod_def, Int32.ofInt_sub, Int32.ofInt_mul, w32_of, w32_of, z_div, Int32.mul_comm]
theorem z_divL (a b : Int) : Int64.ofInt ((w64 a).tdiv (w64 b)) = Int64.ofInt a / Int64.ofInt b := by
  apply Int64.toInt_inj.mp
  rw [Int64.toInt_ofInt, Int64.toInt_div]
  rfl
theorem z_modL (a b : Int) : Int64.ofInt ((w64 a).tmod (w64 b)) = Int64.ofInt a - Int64.ofInt a / Int64.ofInt b * Int64.ofInt b := by
  rw [Int.tmod_def, Int64.ofInt_sub, Int64.ofInt_mul, w64_of, w64_of, z_divL, Int64.mul_comm]
theorem z_ne0 {b : Int} (hb : w32 b ≠ 0) : ¬ Int32.ofInt b = 0 := fun q => hb (by unfold w32; rw [q]; rfl)
theorem z_ne0L {b : Int} (hb : w64 b ≠ 0) : ¬ Int64.ofInt b = 0 := fun q => hb (by unfold w64; rw [q]; rfl)
theorem x_idiv {a b : Int} (hd : decode M.2.1 pc = .ok (.idiv, 1)) (hb : w32 b ≠ 0) (kk : zX D M d k n (pc + 1) L (iV ((w32 a).tdiv (w32 b)) :: st) ty sz h Q) : zX D M d k n pc L (iV b :: iV a :: st) ty sz h Q := by
  intro p l e R s m args below meth c H locs ls cells slots mc ms A H0 G S Y hret
  have K := kk p l e R s m args below meth c H locs ls cells slots mc ms A H0 G S Y hret
  refine lv_idiv S.1 S.2.1 hd (z_ne0 hb) ?_
  rw [← z_div]
  exact K
theorem x_irem {a b : Int} (hd : decode M.2.1 pc = .ok (.irem, 1)) (hb : w32 b ≠ 0) (kk : zX D M d k n (pc + 1) L (iV ((w32 a).tmod (w32 b)) :: st) ty sz h Q) : zX D M d k n pc L (iV b :: iV a :: st) ty sz h Q := by
  intro p l e R s m args below meth c H locs ls cells slots mc ms A H0 G S Y hret
  have K := kk p l e R s m args below meth c H locs ls cells slots mc ms A H0 G S Y hret
  refine lv_irem S.1 S.2.1 hd (z_ne0 hb) ?_
  rw [← z_mod]
  exact K
theorem x_ldiv {a b : Int} (hd : decode M.2.1 pc = .ok (.ldiv, 1)) (hb : w64 b ≠ 0) (kk : zX D M d k n (pc + 1) L (lV ((w64 a).tdiv (w64 b)) :: st) ty sz h Q) : zX D M d k n pc L (lV b :: lV a :: st) ty sz h Q := by
  intro p l e R s m args below meth c H locs ls cells slots mc ms A H0 G S Y hret
  have K := kk p l e R s m args below meth c H locs ls cells slots mc ms A H0 G S Y hret
  refine lv_ldiv S.1 S.2.1 hd (z_ne0L hb) ?_
  rw [← z_divL]
  exact K
theorem x_lrem {a b : Int} (hd : decode M.2.1 pc = .ok (.lrem, 1)) (hb : w64 b ≠ 0) (kk : zX D M d k n (pc + 1) L (lV ((w64 a).tmod (w64 b)) :: st) ty sz h Q) : zX D M d k n pc L (lV b :: lV a :: st) ty sz h Q := by
  intro p l e R s m args below meth c H locs ls cells slots mc ms A H0 G S Y hret
  have K := kk p l e R s m args below meth c H locs ls cells slots mc ms A H0 G S Y hret
  refine lv_lrem S.1 S.2.1 hd (z_ne0L hb) ?_
  rw [← z_modL]
  exact K
theorem x_iand {a b : Int} (hd : decode M.2.1 pc = .ok (.iand, 1)) (kk : zX D M d k n (pc + 1) L (iV (zand a b) :: st) ty sz h Q) : zX D M d k n pc L (iV b :: iV a :: st) ty sz h Q := by
  intro p l e R s m args below meth c H locs ls cells slots mc ms A H0 G S Y hret
  have K := kk p l e R s m args below meth c H locs ls cells slots mc ms A H0 G S Y hret
  refine lv_iand S.1 S.2.1 hd ?_
  have e : Int32.ofInt (zand a b) = _ := Int32.ofInt_toInt _
  rw [← e]
  exact K
theorem x_ior {a b : Int} (hd : decode M.2.1 pc = .ok (.ior, 1)) (kk : zX D M d k n (pc + 1) L (iV (zor a b) :: st) ty sz h Q) : zX D M d k n pc L (iV b :: iV a :: st) ty sz h Q := by
  intro p l e R s m args below meth c H locs ls cells slots mc ms A H0 G S Y hret
  have K := kk p l e R s m args below meth c H locs ls cells slots mc ms A H0 G S Y hret
  refine lv_ior S.1 S.2.1 hd ?_
  have e : Int32.ofInt (zor a b) = _ := Int32.ofInt_toInt _
  rw [← e]
  exact K
theorem x_ishl {a b : Int} (hd : decode M.2.1 pc = .ok (.ishl, 1)) (kk : zX D M d k n (pc + 1) L (iV (zshl a b) :: st) ty sz h Q) : zX D M d k n pc L (iV b :: iV a :: st) ty sz h Q := by
  intro p l e R s m args below meth c H locs ls cells slots mc ms A H0 G S Y hret
  have K := kk p l e R s m args below meth c H locs ls cells slots mc ms A H0 G S Y hret
  refine lv_ishl S.1 S.2.1 hd ?_
  have e : Int32.ofInt (zshl a b) = _ := Int32.ofInt_toInt _
  rw [← e]
  exact K
theorem x_land {a b : Int} (hd : decode M.2.1 pc = .ok (.land, 1)) (kk : zX D M d k n (pc + 1) L (lV (zandL a b) :: st) ty sz h Q) : zX D M d k n pc L (lV b :: lV a :: st) ty sz h Q := by
  intro p l e R s m args below meth c H locs ls cells slots mc ms A H0 G S Y hret
  have K := kk p l e R s m args below meth c H locs ls cells slots mc ms A H0 G S Y hret
  refine lv_land S.1 S.2.1 hd ?_
  have e : Int64.ofInt (zandL a b) = _ := Int64.ofInt_toInt _
  rw [← e]
  exact K
theorem x_lor {a b : Int} (hd : decode M.2.1 pc = .ok (.lor, 1)) (kk : zX D M d k n (pc + 1) L (lV (zorL a b) :: st) ty sz h Q) : zX D M d k n pc L (lV b :: lV a :: st) ty sz h Q := by
  intro p l e R s m args below meth c H locs ls cells slots mc ms A H0 G S Y hret
  have K := kk p l e R s m args below meth c H locs ls cells slots mc ms A H0 G S Y hret
  refine lv_lor S.1 S.2.1 hd ?_
  have e : Int64.ofInt (zorL a b) = _ := Int64.ofInt_toInt _
  rw [← e]
  exact K
theorem x_iushr {a b : Int} (hd : decode M.2.1 pc = .ok (.iushr, 1)) (kk : zX D M d k n (pc + 1) L (iV (zushr a b) :: st) ty sz h Q) : zX D M d k n pc L (iV b :: iV a :: st) ty sz h Q := by
  intro p l e R s m args below meth c H locs ls cells slots mc ms A H0 G S Y hret
  have K := kk p l e R s m args below meth c H locs ls cells slots mc ms A H0 G S Y hret
  exact lv_iushr S.1 S.2.1 hd (Int32.ofInt_toInt _).symm K
theorem x_lshl {a b : Int} (hd : decode M.2.1 pc = .ok (.lshl, 1)) (kk : zX D M d k n (pc + 1) L (lV (zshlL a b) :: st) ty sz h Q) : zX D M d k n pc L (iV b :: lV a :: st) ty sz h Q := by
  intro p l e R s m args below meth c H locs ls cells slots mc ms A H0 G S Y hret
  have K := kk p l e R s m args below meth c H locs ls cells slots mc ms A H0 G S Y hret
  exact lv_lshl S.1 S.2.1 hd (Int64.ofInt_toInt _).symm K
theorem x_i2l {a : Int} (hd : decode M.2.1 pc = .ok (.i2l, 1)) (kk : zX D M d k n (pc + 1) L (lV (w32 a) :: st) ty sz h Q) : zX D M d k n pc L (iV a :: st) ty sz h Q := by
  intro p l e R s m args below meth c H locs ls cells slots mc ms A H0 G S Y hret
  have K := kk p l e R s m args below meth c H locs ls cells slots mc ms A H0 G S Y hret
  exact lv_i2l S.1 S.2.1 hd (Int64.ofInt_int32ToInt _).symm K
theorem x_l2i {a : Int} (hd : decode M.2.1 pc = .ok (.l2i, 1)) (kk : zX D M d k n (pc + 1) L (iV a :: st) ty sz h Q) : zX D M d k n pc L (lV a :: st) ty sz h Q := by
  intro p l e R s m args below meth c H locs ls cells slots mc ms A H0 G S Y hret
  have K := kk p l e R s m args below meth c H locs ls cells slots mc ms A H0 G S Y hret
  exact lv_l2i S.1 S.2.1 hd Int64.toInt32_ofInt K
theorem x_dup {v : zV} (hd : decode M.2.1 pc = .ok (.dup, 1)) (hv : zcat v = 1 := by rfl) (kk : zX D M d k n (pc + 1) L (v :: v :: st) ty sz h Q) : zX D M d k n pc L (v :: st) ty sz h Q := by
  intro p l e R s m args below meth c H locs ls cells slots mc ms A H0 G S Y hret
  have K := kk p l e R s m args below meth c H locs ls cells slots mc ms A H0 G S Y hret
  exact lv_dup S.1 S.2.1 hd ((zcat_cv v).trans hv) K
theorem x_pop {v : zV} (hd : decode M.2.1 pc = .ok (.pop, 1)) (hv : zcat v = 1 := by rfl) (kk : zX D M d k n (pc + 1) L (st) ty sz h Q) : zX D M d k n pc L (v :: st) ty sz h Q := by
  intro p l e R s m args below meth c H locs ls cells slots mc ms A H0 G S Y hret
  have K := kk p l e R s m args below meth c H locs ls cells slots mc ms A H0 G S Y hret
  exact lv_pop S.1 S.2.1 hd ((zcat_cv v).trans hv) K
theorem x_dup2 {u v : zV} (hd : decode M.2.1 pc = .ok (.dup2, 1)) (hu : zcat u = 1 := by rfl) (hv : zcat v = 1 := by rfl) (kk : zX D M d k n (pc + 1) L (u :: v :: u :: v :: st) ty sz h Q) : zX D M d k n pc L (u :: v :: st) ty sz h Q := by
  intro p l e R s m args below meth c H locs ls cells slots mc ms A H0 G S Y hret
  have K := kk p l e R s m args below meth c H locs ls cells slots mc ms A H0 G S Y hret
  exact lv_dup2_11 S.1 S.2.1 hd ((zcat_cv u).trans hu) ((zcat_cv v).trans hv) K
theorem x_goto (tgt : Nat) {off : Int} (hd : decode M.2.1 pc = .ok (.goto off, 3)) (ht : (pc : Int) + off = (tgt : Int) := by rfl) (kk : zX D M d k n tgt L (st) ty sz h Q) : zX D M d k n pc L (st) ty sz h Q := by
  intro p l e R s m args below meth c H locs ls cells slots mc ms A H0 G S Y hret
  have K := kk p l e R s m args below meth c H locs ls cells slots mc ms A H0 G S Y hret
  exact lv_goto S.1 S.2.1 hd ht K
theorem x_icmp_eq {a b : Int} (tgt : Nat) {off : Int} (hd : decode M.2.1 pc = .ok (.if_icmp .eq off, 3)) (ht : (pc : Int) + off = (tgt : Int) := by rfl) (kt : w32 a = w32 b → zX D M d k n tgt L st ty sz h Q) (kf : ¬ (w32 a = w32 b) → zX D M d k n (pc + 3) L st ty sz h Q) : zX D M d k n pc L (iV b :: iV a :: st) ty sz h Q := by
  intro p l e R s m args below meth c H locs ls cells slots mc ms A H0 G S Y hret
  have K1 := fun q => kt q p l e R s m args below meth c H locs ls cells slots mc ms A H0 G S Y hret
  have K2 := fun q => kf q p l e R s m args below meth c H locs ls cells slots mc ms A H0 G S Y hret
  refine lv_icmp_eq (x := Int32.ofInt a) (y := Int32.ofInt b) S.1 S.2.1 hd ht (fun q => K1 ?_) (fun q => K2 ?_) <;> simpa only [ne_eq, z_eq, z_lt, z_le, ge_iff_le, gt_iff_lt] using q
theorem x_if_eq {a : Int} (tgt : Nat) {off : Int} (hd : decode M.2.1 pc = .ok (.ifCond .eq off, 3)) (ht : (pc : Int) + off = (tgt : Int) := by rfl) (kt : w32 a = 0 → zX D M d k n tgt L st ty sz h Q) (kf : ¬ (w32 a = 0) → zX D M d k n (pc + 3) L st ty sz h Q) : zX D M d k n pc L (iV a :: st) ty sz h Q := by
  intro p l e R s m args below meth c H locs ls cells slots mc ms A H0 G S Y hret
  have K1 := fun q => kt q p l e R s m args below meth c H locs ls cells slots mc ms A H0 G S Y hret
  have K2 := fun q => kf q p l e R s m args below meth c H locs ls cells slots mc ms A H0 G S Y hret
  have e0 : w32 0 = 0 := rfl
  refine lv_if_eq (x := Int32.ofInt a) S.1 S.2.1 hd ht (fun q => K1 ?_) (fun q => K2 ?_) <;> rw [show (0 : Int32) = Int32.ofInt 0 from rfl] at q <;> simpa only [ne_eq, z_eq, z_lt, z_le, ge_iff_le, gt_iff_lt, e0] using q
theorem x_icmp_ne {a b : Int} (tgt : Nat) {off : Int} (hd : decode M.2.1 pc = .ok (.if_icmp .ne off, 3)) (ht : (pc : Int) + off = (tgt : Int) := by rfl) (kt : w32 a ≠ w32 b → zX D M d k n tgt L st ty sz h Q) (kf : w32 a = w32 b → zX D M d k n (pc + 3) L st ty sz h Q) : zX D M d k n pc L (iV b :: iV a :: st) ty sz h Q := by
  intro p l e R s m args below meth c H locs ls cells slots mc ms A H0 G S Y hret
  have K1 := fun q => kt q p l e R s m args below meth c H locs ls cells slots mc ms A H0 G S Y hret
  have K2 := fun q => kf q p l e R s m args below meth c H locs ls cells slots mc ms A H0 G S Y hret
  refine lv_icmp_ne (x := Int32.ofInt a) (y := Int32.ofInt b) S.1 S.2.1 hd ht (fun q => K1 ?_) (fun q => K2 ?_) <;> simpa only [ne_eq, z_eq, z_lt, z_le, ge_iff_le, gt_iff_lt] using q
theorem x_if_ne {a : Int} (tgt : Nat) {off : Int} (hd : decode M.2.1 pc = .ok (.ifCond .ne off, 3)) (ht : (pc : Int) + off = (tgt : Int) := by rfl) (kt : w32 a ≠ 0 → zX D M d k n tgt L st ty sz h Q) (kf : w32 a = 0 → zX D M d k n (pc + 3) L st ty sz h Q) : zX D M d k n pc L (iV a :: st) ty sz h Q := by
  intro p l e R s m args below meth c H locs ls cells slots mc ms A H0 G S Y hret
  have K1 := fun q => kt q p l e R s m args below meth c H locs ls cells slots mc ms A H0 G S Y hret
  have K2 := fun q => kf q p l e R s m args below meth c H locs ls cells slots mc ms A H0 G S Y hret
  have e0 : w32 0 = 0 := rfl
  refine lv_if_ne (x := Int32.ofInt a) S.1 S.2.1 hd ht (fun q => K1 ?_) (fun q => K2 ?_) <;> rw [show (0 : Int32) = Int32.ofInt 0 from rfl] at q <;> simpa only [ne_eq, z_eq, z_lt, z_le, ge_iff_le, gt_iff_lt, e0] using q
theorem x_icmp_lt {a b : Int} (tgt : Nat) {off : Int} (hd : decode M.2.1 pc = .ok (.if_icmp .lt off, 3)) (ht : (pc : Int) + off = (tgt : Int) := by rfl) (kt : w32 a < w32 b → zX D M d k n tgt L st ty sz h Q) (kf : ¬ (w32 a < w32 b) → zX D M d k n (pc + 3) L st ty sz h Q) : zX D M d k n pc L (iV b :: iV a :: st) ty sz h Q := by
  intro p l e R s m args below meth c H locs ls cells slots mc ms A H0 G S Y hret
  have K1 := fun q => kt q p l e R s m args below meth c H locs ls cells slots mc ms A H0 G S Y hret
  have K2 := fun q => kf q p l e R s m args below meth c H locs ls cells slots mc ms A H0 G S Y hret
  refine lv_icmp_lt (x := Int32.ofInt a) (y := Int32.ofInt b) S.1 S.2.1 hd ht (fun q => K1 ?_) (fun q => K2 ?_) <;> simpa only [ne_eq, z_eq, z_lt, z_le, ge_iff_le, gt_iff_lt] using q
theorem x_if_lt {a : Int} (tgt : Nat) {off : Int} (hd : decode M.2.1 pc = .ok (.ifCond .lt off, 3)) (ht : (pc : Int) + off = (tgt : Int) := by rfl) (kt : w32 a < 0 → zX D M d k n tgt L st ty sz h Q) (kf : ¬ (w32 a < 0) → zX D M d k n (pc + 3) L st ty sz h Q) : zX D M d k n pc L (iV a :: st) ty sz h Q := by
  intro p l e R s m args below meth c H locs ls cells slots mc ms A H0 G S Y hret
  have K1 := fun q => kt q p l e R s m args below meth c H locs ls cells slots mc ms A H0 G S Y hret
  have K2 := fun q => kf q p l e R s m args below meth c H locs ls cells slots mc ms A H0 G S Y hret
  have e0 : w32 0 = 0 := rfl
  refine lv_if_lt (x := Int32.ofInt a) S.1 S.2.1 hd ht (fun q => K1 ?_) (fun q => K2 ?_) <;> rw [show (0 : Int32) = Int32.ofInt 0 from rfl] at q <;> simpa only [ne_eq, z_eq, z_lt, z_le, ge_iff_le, gt_iff_lt, e0] using q
theorem x_icmp_ge {a b : Int} (tgt : Nat) {off : Int} (hd : decode M.2.1 pc = .ok (.if_icmp .ge off, 3)) (ht : (pc : Int) + off = (tgt : Int) := by rfl) (kt : w32 b ≤ w32 a → zX D M d k n tgt L st ty sz h Q) (kf : ¬ (w32 b ≤ w32 a) → zX D M d k n (pc + 3) L st ty sz h Q) : zX D M d k n pc L (iV b :: iV a :: st) ty sz h Q := by
  intro p l e R s m args below meth c H locs ls cells slots mc ms A H0 G S Y hret
  have K1 := fun q => kt q p l e R s m args below meth c H locs ls cells slots mc ms A H0 G S Y hret
  have K2 := fun q => kf q p l e R s m args below meth c H locs ls cells slots mc ms A H0 G S Y hret
  refine lv_icmp_ge (x := Int32.ofInt a) (y := Int32.ofInt b) S.1 S.2.1 hd ht (fun q => K1 ?_) (fun q => K2 ?_) <;> simpa only [ne_eq, z_eq, z_lt, z_le, ge_iff_le, gt_iff_lt] using q
theorem x_if_ge {a : Int} (tgt : Nat) {off : Int} (hd : decode M.2.1 pc = .ok (.ifCond .ge off, 3)) (ht : (pc : Int) + off = (tgt : Int) := by rfl) (kt : 0 ≤ w32 a → zX D M d k n tgt L st ty sz h Q) (kf : ¬ (0 ≤ w32 a) → zX D M d k n (pc + 3) L st ty sz h Q) : zX D M d k n pc L (iV a :: st) ty sz h Q := by
  intro p l e R s m args below meth c H locs ls cells slots mc ms A H0 G S Y hret
  have K1 := fun q => kt q p l e R s m args below meth c H locs ls cells slots mc ms A H0 G S Y hret
  have K2 := fun q => kf q p l e R s m args below meth c H locs ls cells slots mc ms A H0 G S Y hret
  have e0 : w32 0 = 0 := rfl
  refine lv_if_ge (x := Int32.ofInt a) S.1 S.2.1 hd ht (fun q => K1 ?_) (fun q => K2 ?_) <;> rw [show (0 : Int32) = Int32.ofInt 0 from rfl] at q <;> simpa only [ne_eq, z_eq, z_lt, z_le, ge_iff_le, gt_iff_lt, e0] using q
theorem x_icmp_gt {a b : Int} (tgt : Nat) {off : Int} (hd : decode M.2.1 pc = .ok (.if_icmp .gt off, 3)) (ht : (pc : Int) + off = (tgt : Int) := by rfl) (kt : w32 b < w32 a → zX D M d k n tgt L st ty sz h Q) (kf : ¬ (w32 b < w32 a) → zX D M d k n (pc + 3) L st ty sz h Q) : zX D M d k n pc L (iV b :: iV a :: st) ty sz h Q := by
  intro p l e R s m args below meth c H locs ls cells slots mc ms A H0 G S Y hret
  have K1 := fun q => kt q p l e R s m args below meth c H locs ls cells slots mc ms A H0 G S Y hret
  have K2 := fun q => kf q p l e R s m args below meth c H locs ls cells slots mc ms A H0 G S Y hret
  refine lv_icmp_gt (x := Int32.ofInt a) (y := Int32.ofInt b) S.1 S.2.1 hd ht (fun q => K1 ?_) (fun q => K2 ?_) <;> simpa only [ne_eq, z_eq, z_lt, z_le, ge_iff_le, gt_iff_lt] using q
theorem x_if_gt {a : Int} (tgt : Nat) {off : Int} (hd : decode M.2.1 pc = .ok (.ifCond .gt off, 3)) (ht : (pc : Int) + off = (tgt : Int) := by rfl) (kt : 0 < w32 a → zX D M d k n tgt L st ty sz h Q) (kf : ¬ (0 < w32 a) → zX D M d k n (pc + 3) L st ty sz h Q) : zX D M d k n pc L (iV a :: st) ty sz h Q := by
  intro p l e R s m args below meth c H locs ls cells slots mc ms A H0 G S Y hret
  have K1 := fun q => kt q p l e R s m args below meth c H locs ls cells slots mc ms A H0 G S Y hret
  have K2 := fun q => kf q p l e R s m args below meth c H locs ls cells slots mc ms A H0 G S Y hret
  have e0 : w32 0 = 0 := rfl
  refine lv_if_gt (x := Int32.ofInt a) S.1 S.2.1 hd ht (fun q => K1 ?_) (fun q => K2 ?_) <;> rw [show (0 : Int32) = Int32.ofInt 0 from rfl] at q <;> simpa only [ne_eq, z_eq, z_lt, z_le, ge_iff_le, gt_iff_lt, e0] using q
theorem x_icmp_le {a b : Int} (tgt : Nat) {off : Int} (hd : decode M.2.1 pc = .ok (.if_icmp .le off, 3)) (ht : (pc : Int) + off = (tgt : Int) := by rfl) (kt : w32 a ≤ w32 b → zX D M d k n tgt L st ty sz h Q) (kf : ¬ (w32 a ≤ w32 b) → zX D M d k n (pc + 3) L st ty sz h Q) : zX D M d k n pc L (iV b :: iV a :: st) ty sz h Q := by
  intro p l e R s m args below meth c H locs ls cells slots mc ms A H0 G S Y hret
  have K1 := fun q => kt q p l e R s m args below meth c H locs ls cells slots mc ms A H0 G S Y hret
  have K2 := fun q => kf q p l e R s m args below meth c H locs ls cells slots mc ms A H0 G S Y hret
  refine lv_icmp_le (x := Int32.ofInt a) (y := Int32.ofInt b) S.1 S.2.1 hd ht (fun q => K1 ?_) (fun q => K2 ?_) <;> simpa only [ne_eq, z_eq, z_lt, z_le, ge_iff_le, gt_iff_lt] using q
theorem x_if_le {a : Int} (tgt : Nat) {off : Int} (hd : decode M.2.1 pc = .ok (.ifCond .le off, 3)) (ht : (pc : Int) + off = (tgt : Int) := by rfl) (kt : w32 a ≤ 0 → zX D M d k n tgt L st ty sz h Q) (kf : ¬ (w32 a ≤ 0) → zX D M d k n (pc + 3) L st ty sz h Q) : zX D M d k n pc L (iV a :: st) ty sz h Q := by
  intro p l e R s m args below meth c H locs ls cells slots mc ms A H0 G S Y hret
  have K1 := fun q => kt q p l e R s m args below meth c H locs ls cells slots mc ms A H0 G S Y hret
  have K2 := fun q => kf q p l e R s m args below meth c H locs ls cells slots mc ms A H0 G S Y hret
  have e0 : w32 0 = 0 := rfl
  refine lv_if_le (x := Int32.ofInt a) S.1 S.2.1 hd ht (fun q => K1 ?_) (fun q => K2 ?_) <;> rw [show (0 : Int32) = Int32.ofInt 0 from rfl] at q <;> simpa only [ne_eq, z_eq, z_lt, z_le, ge_iff_le, gt_iff_lt, e0] using q
theorem x_ifnull {a : Int} (tgt : Nat) {off : Int} (hd : decode M.2.1 pc = .ok (.ifnull off, 3)) (ht : (pc : Int) + off = (tgt : Int) := by rfl) (kt : a < 0 → zX D M d k n tgt L st ty sz h Q) (kf : ¬ (a < 0) → zX D M d k n (pc + 3) L st ty sz h Q) : zX D M d k n pc L (rV a :: st) ty sz h Q := by
  intro p l e R s m args below meth c H locs ls cells slots mc ms A H0 G S Y hret
  have K1 := fun q => kt q p l e R s m args below meth c H locs ls cells slots mc ms A H0 G S Y hret
  have K2 := fun q => kf q p l e R s m args below meth c H locs ls cells slots mc ms A H0 G S Y hret
  change W p l e R s m args below meth c H locs cells slots G (F0 m pc ls (va_rf (zrf a) :: st.map zcv))
  by_cases ha : a < 0
  · rw [show zrf a = none from if_pos ha]
    exact lv_ifnullN S.1 S.2.1 hd ht (K1 ha)
  · rw [show zrf a = some a.toNat from if_neg ha]
    exact lv_ifnull S.1 S.2.1 hd (K2 ha)
theorem x_ifnonnull {a : Int} (tgt : Nat) {off : Int} (hd : decode M.2.1 pc = .ok (.ifnonnull off, 3)) (ht : (pc : Int) + off = (tgt : Int) := by rfl) (kt : 0 ≤ a → zX D M d k n tgt L st ty sz h Q) (kf : ¬ (0 ≤ a) → zX D M d k n (pc + 3) L st ty sz h Q) : zX D M d k n pc L (rV a :: st) ty sz h Q := by
  intro p l e R s m args below meth c H locs ls cells slots mc ms A H0 G S Y hret
  have K1 := fun q => kt q p l e R s m args below meth c H locs ls cells slots mc ms A H0 G S Y hret
  have K2 := fun q => kf q p l e R s m args below meth c H locs ls cells slots mc ms A H0 G S Y hret
  change W p l e R s m args below meth c H locs cells slots G (F0 m pc ls (va_rf (zrf a) :: st.map zcv))
  by_cases ha : a < 0
  · rw [show zrf a = none from if_pos ha]
    exact lv_ifnonnullN S.1 S.2.1 hd (K2 (by omega))
  · rw [show zrf a = some a.toNat from if_neg ha]
    exact lv_ifnonnull S.1 S.2.1 hd ht (K1 (by omega))
theorem x_acmp_ne {a b : Int} (tgt : Nat) {off : Int} (hd : decode M.2.1 pc = .ok (.if_acmp .ne off, 3)) (ht : (pc : Int) + off = (tgt : Int) := by rfl) (kt : zrf a ≠ zrf b → zX D M d k n tgt L st ty sz h Q) (kf : zrf a = zrf b → zX D M d k n (pc + 3) L st ty sz h Q) : zX D M d k n pc L (rV b :: rV a :: st) ty sz h Q := by
  intro p l e R s m args below meth c H locs ls cells slots mc ms A H0 G S Y hret
  have K1 := fun q => kt q p l e R s m args below meth c H locs ls cells slots mc ms A H0 G S Y hret
  have K2 := fun q => kf q p l e R s m args below meth c H locs ls cells slots mc ms A H0 G S Y hret
  exact lv_acmp_ne (rx := zrf a) (ry := zrf b) S.1 S.2.1 hd ht K1 K2
theorem z_lcmp (x y : Int64) : (lg_cmp x y < 0 ↔ x < y) ∧ (lg_cmp x y ≤ 0 ↔ x ≤ y) ∧ (lg_cmp x y = 0 ↔ x = y) := by
  unfold lg_cmp
  simp only [gt_iff_lt, Int64.lt_iff_toInt_lt, Int64.le_iff_toInt_le, ← Int64.toInt_inj]
  split
  · refine ⟨⟨fun q => ?_, fun q => ?_⟩, ⟨fun q => ?_, fun q => ?_⟩, ⟨fun q => ?_, fun q => ?_⟩⟩ <;> first | omega | exact absurd q (by decide)
  · split
    · refine ⟨⟨fun q => ?_, fun q => ?_⟩, ⟨fun q => ?_, fun q => ?_⟩, ⟨fun q => ?_, fun q => ?_⟩⟩ <;> first | omega | exact absurd q (by decide) | decide
    · refine ⟨⟨fun q => ?_, fun q => ?_⟩, ⟨fun q => ?_, fun q => ?_⟩, ⟨fun q => ?_, fun q => ?_⟩⟩ <;> first | omega | exact absurd q (by decide) | decide
theorem z_leL (a b : Int) : Int64.ofInt a ≤ Int64.ofInt b ↔ w64 a ≤ w64 b := Int64.le_iff_toInt_le
theorem z_i0 (x : Int32) : (0 ≤ x ↔ ¬ x < 0) ∧ (0 < x ↔ ¬ x ≤ 0) := by
  simp only [Int32.lt_iff_toInt_lt, Int32.le_iff_toInt_le]
  exact ⟨by omega, by omega⟩
theorem x_lcmp_eq {a b : Int} (tgt : Nat) {off : Int} (hd0 : decode M.2.1 pc = .ok (.lcmp, 1)) (hd : decode M.2.1 (pc + 1) = .ok (.ifCond .eq off, 3)) (ht : ((pc + 1 : Nat) : Int) + off = (tgt : Int) := by rfl) (kt : w64 a = w64 b → zX D M d k n tgt L st ty sz h Q) (kf : ¬ (w64 a = w64 b) → zX D M d k n (pc + 4) L st ty sz h Q) : zX D M d k n pc L (lV b :: lV a :: st) ty sz h Q := by
  intro p l e R s m args below meth c H locs ls cells slots mc ms A H0 G S Y hret
  have K1 := fun q => kt q p l e R s m args below meth c H locs ls cells slots mc ms A H0 G S Y hret
  have K2 := fun q => kf q p l e R s m args below meth c H locs ls cells slots mc ms A H0 G S Y hret
  have e := z_lcmp (Int64.ofInt a) (Int64.ofInt b)
  rw [z_ltL, z_leL, z_eqL] at e
  have f := z_i0 (lg_cmp (Int64.ofInt a) (Int64.ofInt b))
  refine W.lcmp S.1 S.2.1 hd0 (lv_if_eq S.1 S.2.1 hd ht (fun q => K1 ?_) (fun q => K2 ?_)) <;> simp only [ne_eq, ge_iff_le, gt_iff_lt, f.1, f.2, e.1, e.2.1, e.2.2] at q ⊢ <;> omega
theorem x_lcmp_ne {a b : Int} (tgt : Nat) {off : Int} (hd0 : decode M.2.1 pc = .ok (.lcmp, 1)) (hd : decode M.2.1 (pc + 1) = .ok (.ifCond .ne off, 3)) (ht : ((pc + 1 : Nat) : Int) + off = (tgt : Int) := by rfl) (kt : w64 a ≠ w64 b → zX D M d k n tgt L st ty sz h Q) (kf : w64 a = w64 b → zX D M d k n (pc + 4) L st ty sz h Q) : zX D M d k n pc L (lV b :: lV a :: st) ty sz h Q := by
  intro p l e R s m args below meth c H locs ls cells slots mc ms A H0 G S Y hret
  have K1 := fun q => kt q p l e R s m args below meth c H locs ls cells slots mc ms A H0 G S Y hret
  have K2 := fun q => kf q p l e R s m args below meth c H locs ls cells slots mc ms A H0 G S Y hret
  have e := z_lcmp (Int64.ofInt a) (Int64.ofInt b)
  rw [z_ltL, z_leL, z_eqL] at e
  have f := z_i0 (lg_cmp (Int64.ofInt a) (Int64.ofInt b))
  refine W.lcmp S.1 S.2.1 hd0 (lv_if_ne S.1 S.2.1 hd ht (fun q => K1 ?_) (fun q => K2 ?_)) <;> simp only [ne_eq, ge_iff_le, gt_iff_lt, f.1, f.2, e.1, e.2.1, e.2.2] at q ⊢ <;> omega
theorem x_lcmp_lt {a b : Int} (tgt : Nat) {off : Int} (hd0 : decode M.2.1 pc = .ok (.lcmp, 1)) (hd : decode M.2.1 (pc + 1) = .ok (.ifCond .lt off, 3)) (ht : ((pc + 1 : Nat) : Int) + off = (tgt : Int) := by rfl) (kt : w64 a < w64 b → zX D M d k n tgt L st ty sz h Q) (kf : ¬ (w64 a < w64 b) → zX D M d k n (pc + 4) L st ty sz h Q) : zX D M d k n pc L (lV b :: lV a :: st) ty sz h Q := by
  intro p l e R s m args below meth c H locs ls cells slots mc ms A H0 G S Y hret
  have K1 := fun q => kt q p l e R s m args below meth c H locs ls cells slots mc ms A H0 G S Y hret
  have K2 := fun q => kf q p l e R s m args below meth c H locs ls cells slots mc ms A H0 G S Y hret
  have e := z_lcmp (Int64.ofInt a) (Int64.ofInt b)
  rw [z_ltL, z_leL, z_eqL] at e
  have f := z_i0 (lg_cmp (Int64.ofInt a) (Int64.ofInt b))
  refine W.lcmp S.1 S.2.1 hd0 (lv_if_lt S.1 S.2.1 hd ht (fun q => K1 ?_) (fun q => K2 ?_)) <;> simp only [ne_eq, ge_iff_le, gt_iff_lt, f.1, f.2, e.1, e.2.1, e.2.2] at q ⊢ <;> omega
theorem x_lcmp_ge {a b : Int} (tgt : Nat) {off : Int} (hd0 : decode M.2.1 pc = .ok (.lcmp, 1)) (hd : decode M.2.1 (pc + 1) = .ok (.ifCond .ge off, 3)) (ht : ((pc + 1 : Nat) : Int) + off = (tgt : Int) := by rfl) (kt : w64 b ≤ w64 a → zX D M d k n tgt L st ty sz h Q) (kf : ¬ (w64 b ≤ w64 a) → zX D M d k n (pc + 4) L st ty sz h Q) : zX D M d k n pc L (lV b :: lV a :: st) ty sz h Q := by
  intro p l e R s m args below meth c H locs ls cells slots mc ms A H0 G S Y hret
  have K1 := fun q => kt q p l e R s m args below meth c H locs ls cells slots mc ms A H0 G S Y hret
  have K2 := fun q => kf q p l e R s m args below meth c H locs ls cells slots mc ms A H0 G S Y hret
  have e := z_lcmp (Int64.ofInt a) (Int64.ofInt b)
  rw [z_ltL, z_leL, z_eqL] at e
  have f := z_i0 (lg_cmp (Int64.ofInt a) (Int64.ofInt b))
  refine W.lcmp S.1 S.2.1 hd0 (lv_if_ge S.1 S.2.1 hd ht (fun q => K1 ?_) (fun q => K2 ?_)) <;> simp only [ne_eq, ge_iff_le, gt_iff_lt, f.1, f.2, e.1, e.2.1, e.2.2] at q ⊢ <;> omega
theorem x_lcmp_gt {a b : Int} (tgt : Nat) {off : Int} (hd0 : decode M.2.1 pc = .ok (.lcmp, 1)) (hd : decode M.2.1 (pc + 1) = .ok (.ifCond .gt off, 3)) (ht : ((pc + 1 : Nat) : Int) + off = (tgt : Int) := by rfl) (kt : w64 b < w64 a → zX D M d k n tgt L st ty sz h Q) (kf : ¬ (w64 b < w64 a) → zX D M d k n (pc + 4) L st ty sz h Q) : zX D M d k n pc L (lV b :: lV a :: st) ty sz h Q := by
  intro p l e R s m args below meth c H locs ls cells slots mc ms A H0 G S Y hret
  have K1 := fun q => kt q p l e R s m args below meth c H locs ls cells slots mc ms A H0 G S Y hret
  have K2 := fun q => kf q p l e R s m args below meth c H locs ls cells slots mc ms A H0 G S Y hret
  have e := z_lcmp (Int64.ofInt a) (Int64.ofInt b)
  rw [z_ltL, z_leL, z_eqL] at e
  have f := z_i0 (lg_cmp (Int64.ofInt a) (Int64.ofInt b))
  refine W.lcmp S.1 S.2.1 hd0 (lv_if_gt S.1 S.2.1 hd ht (fun q => K1 ?_) (fun q => K2 ?_)) <;> simp only [ne_eq, ge_iff_le, gt_iff_lt, f.1, f.2, e.1, e.2.1, e.2.2] at q ⊢ <;> omega
theorem x_lcmp_le {a b : Int} (tgt : Nat) {off : Int} (hd0 : decode M.2.1 pc = .ok (.lcmp, 1)) (hd : decode M.2.1 (pc + 1) = .ok (.ifCond .le off, 3)) (ht : ((pc + 1 : Nat) : Int) + off = (tgt : Int) := by rfl) (kt : w64 a ≤ w64 b → zX D M d k n tgt L st ty sz h Q) (kf : ¬ (w64 a ≤ w64 b) → zX D M d k n (pc + 4) L st ty sz h Q) : zX D M d k n pc L (lV b :: lV a :: st) ty sz h Q := by
  intro p l e R s m args below meth c H locs ls cells slots mc ms A H0 G S Y hret
  have K1 := fun q => kt q p l e R s m args below meth c H locs ls cells slots mc ms A H0 G S Y hret
  have K2 := fun q => kf q p l e R s m args below meth c H locs ls cells slots mc ms A H0 G S Y hret
  have e := z_lcmp (Int64.ofInt a) (Int64.ofInt b)
  rw [z_ltL, z_leL, z_eqL] at e
  have f := z_i0 (lg_cmp (Int64.ofInt a) (Int64.ofInt b))
  refine W.lcmp S.1 S.2.1 hd0 (lv_if_le S.1 S.2.1 hd ht (fun q => K1 ?_) (fun q => K2 ?_)) <;> simp only [ne_eq, ge_iff_le, gt_iff_lt, f.1, f.2, e.1, e.2.1, e.2.2] at q ⊢ <;> omega
theorem zcv_r {a : Int} (ha : 0 ≤ a) : zcv (rV a) = .ref a.toNat := by
  show va_rf (zrf a) = _
  rw [show zrf a = some a.toNat from if_neg (by omega)]
  rfl
/-- a field of an object: the constant pool's entry and the class's table -/
def zFL (own : String) (idx ci kf t : Nat) (fin : Bool) : Prop := ∃ r : vw_C, zC[ci]? = some r ∧ kf < r.2.2 ∧ ci < 8 ∧ Cond.fieldLink own idx (r.2.1 kf).1 (r.2.1 kf).2.1 (r.2.1 kf).2.2.1 ∈ zTB ∧ (∀ w ∈ u_ws r.1 r.2.1 r.2.2, w ∈ zTB) ∧ ztg (zty ci kf) = t ∧ (r.2.1 kf).2.2.2 = fin ∧ (r.2.1 kf).1 = r.1
theorem z_obj {ci N : Nat} {fz : zF} {r : vw_C} {f : Int → Int} {a : Nat} {H : Heap} (hc0 : zcell D ci N fz f a H) (h8 : ci < 8) (hr : zC[ci]? = some r) : N = r.2.2 ∧ t_OB a (D.1 ci) r.2.2 (D.2 ci) H (fun i => zct (ztg (zty ci i)) (f i)) := by
  have hc := hc0.1
  rcases hc with ⟨-, r', h1, h2, h3⟩ | ⟨h1, -⟩
  · cases hr.symm.trans h1
    subst h2
    exact ⟨rfl, h3⟩
  · omega
theorem z_arr {k N : Nat} {fz : zF} {f : Int → Int} {a : Nat} {H : Heap} (hc0 : zcell D k N fz f a H) (h8 : 8 ≤ k) : N < 2 ^ 31 ∧ H[a]? = some (arrV (D.1 k) N (fun j => zct (zat k) (f j))) := by
  have hc := hc0.1
  rcases hc with ⟨h1, -⟩ | ⟨-, -, h1, h2⟩
  · omega
  · exact ⟨h1, h2⟩
theorem x_getf {ci N kf idx t : Nat} {fz : zF} {fin : Bool} {r : Int} {v : zV} (hd : decode M.2.1 pc = .ok (.getfield idx, 3)) (hf : zFL M.1.cls idx ci kf t fin) (hty : ty r = some (ci, N, fz)) (hv : zcv v = zct t (h r kf)) (kk : zX D M d k n (pc + 3) L (v :: st) ty sz h Q) : zX D M d k n pc L (rV r :: st) ty sz h Q := by
  intro p l e R s m args below meth c H locs ls cells slots mc ms A H0 G S Y hret
  have K := kk p l e R s m args below meth c H locs ls cells slots mc ms A H0 G S Y hret
  obtain ⟨ha, hc⟩ := Y.1.1 r ci N fz hty
  obtain ⟨q, hq, hk, h8, hlink, hin, htg, -⟩ := hf
  obtain ⟨-, cell, q1, q2, q3, q4⟩ := z_obj hc h8 hq
  obtain ⟨hSl, hfc, kC, hkC, hkind⟩ := S.2.2.2.2.2.2.2.1.1 ci q hq
  obtain ⟨cf, kfc, fi, f, hi, hsl⟩ := hSl kf hk
  show W p l e R s m args below meth c H locs cells slots G (F0 m pc ls (zcv (rV r) :: st.map zcv))
  rw [zcv_r ha]
  refine W.getf S.1 S.2.1 S.2.2.2.2.1 (S.2.2.2.2.2.1 _ hlink) hi (u_facts hfc hkC (u_lays S.2.2.2.2.2.1 hin hk) hi).1 q1 (by rw [q3]; exact fun h => by cases h) (v := zcv v) ?_ rfl rfl hd K
  rw [hsl, q4 kf hk, hv, ← htg]
theorem z_rg {ci N kf idx t : Nat} {own : String} {fz : zF} {fin : Bool} {r : Int} {H : Heap} (hW : zW D ty h H) (hf : zFL own idx ci kf t fin) (hty : ty r = some (ci, N, fz)) : zrng t (h r kf) := by
  obtain ⟨-, hc⟩ := hW r ci N fz hty
  obtain ⟨q, hq, hk, h8, -, -, htg, -⟩ := hf
  obtain ⟨hN, -⟩ := z_obj hc h8 hq
  have := hc.2.2 kf (by omega)
  unfold ztagc at this
  rw [if_pos h8, htg] at this
  exact this
theorem x_getI {ci N kf idx : Nat} {fz : zF} {fin : Bool} {r : Int} (hd : decode M.2.1 pc = .ok (.getfield idx, 3)) (hf : zFL M.1.cls idx ci kf 0 fin) (hty : ty r = some (ci, N, fz)) (kk : i32 (h r kf) → zX D M d k n (pc + 3) L (iV (h r kf) :: st) ty sz h Q) : zX D M d k n pc L (rV r :: st) ty sz h Q := by
  intro p l e R s m args below meth c H locs ls cells slots mc ms A H0 G S Y hret
  exact x_getf hd hf hty rfl (kk ((z_rg Y.1.1 hf hty).1 rfl)) p l e R s m args below meth c H locs ls cells slots mc ms A H0 G S Y hret
theorem x_getL {ci N kf idx : Nat} {fz : zF} {fin : Bool} {r : Int} (hd : decode M.2.1 pc = .ok (.getfield idx, 3)) (hf : zFL M.1.cls idx ci kf 1 fin) (hty : ty r = some (ci, N, fz)) (kk : i64 (h r kf) → zX D M d k n (pc + 3) L (lV (h r kf) :: st) ty sz h Q) : zX D M d k n pc L (rV r :: st) ty sz h Q := by
  intro p l e R s m args below meth c H locs ls cells slots mc ms A H0 G S Y hret
  exact x_getf hd hf hty rfl (kk ((z_rg Y.1.1 hf hty).2 rfl)) p l e R s m args below meth c H locs ls cells slots mc ms A H0 G S Y hret
theorem x_getR {ci N kf idx : Nat} {fz : zF} {fin : Bool} {r : Int} (hd : decode M.2.1 pc = .ok (.getfield idx, 3)) (hf : zFL M.1.cls idx ci kf 2 fin) (hty : ty r = some (ci, N, fz)) (kk : zX D M d k n (pc + 3) L (rV (h r kf) :: st) ty sz h Q) : zX D M d k n pc L (rV r :: st) ty sz h Q := x_getf hd hf hty rfl kk
theorem x_getF {ci N kf idx : Nat} {fz : zF} {fin : Bool} {r v : Int} (hd : decode M.2.1 pc = .ok (.getfield idx, 3)) (hf : zFL M.1.cls idx ci kf 2 fin) (hty : ty r = some (ci, N, fz)) (hz : fz (kf : Int) = some v) (kk : zX D M d k n (pc + 3) L (rV v :: st) ty sz h Q) : zX D M d k n pc L (rV r :: st) ty sz h Q := by
  intro p l e R s m args below meth c H locs ls cells slots mc ms A H0 G S Y hret
  have e1 : h r kf = v := (Y.1.1 r ci N fz hty).2.2.1 _ _ hz
  subst e1
  exact x_getf hd hf hty rfl kk p l e R s m args below meth c H locs ls cells slots mc ms A H0 G S Y hret
theorem zup_ne {a r kf z : Int} (ha : a ≠ r) : zup h r kf z a = h a := by
  funext j
  simp [zup, ha]
theorem z_kept {a : Nat} {H H1 : Heap} {kc N : Nat} {fz : zF} {f : Int → Int} (hc0 : zcell D kc N fz f a H) (e : H1[a]? = H[a]?) : zcell D kc N fz f a H1 := by
  refine ⟨?_, hc0.2⟩
  have hc := hc0.1
  rcases hc with ⟨h8, r, h1, h2, h3⟩ | ⟨h8, h14, hn, h1⟩
  · exact Or.inl ⟨h8, r, h1, h2, h3.kept e⟩
  · exact Or.inr ⟨h8, h14, hn, e.trans h1⟩
/-- the world behind a store -/
theorem zO_put {kc N : Nat} {fz : zF} {r kf z : Int} {kl : Nat} {H H1 : Heap} {locs : List Loc} {A : Nat → Prop} {H0 : Heap} (hO : zO D ty sz h H locs A H0) (hty : ty r = some (kc, N, fz)) (hfz : fz kf = none) (hrg : ∀ i : Nat, (i : Int) = kf → zrng (ztagc kc i) z) (hc : zcell0 D kc N (zup h r kf z r) r.toNat H1) (hz : H1.size = H.size) (oq : ∀ q : Nat, q ≠ r.toNat → H1[q]? = H[q]?) : zO D ty sz (zup h r kf z) H1 (locs ++ [⟨r.toNat, kl⟩]) A H0 := by
  obtain ⟨hW, hsz, hA, hS⟩ := hO
  refine ⟨fun a k n fz2 ht => ?_, hz.trans hsz, hA, hS.put hz oq (hA r _ hty)⟩
  have h0 := (hW a k n fz2 ht).1
  refine ⟨h0, ?_⟩
  by_cases e : a = r
  · subst e
    have hold := (hW a _ _ _ hty).2.2
    cases hty.symm.trans ht
    refine ⟨hc, fun i v hi => ?_, fun i hi => ?_⟩
    · have hne : i ≠ kf := fun q => by rw [q, hfz] at hi; cases hi
      have : zup h a kf z a i = h a i := by simp [zup, hne]
      rw [this]
      exact hold.1 i v hi
    · · by_cases hik : (i : Int) = kf
        · have : zup h a kf z a i = z := by simp [zup, hik]
          rw [this]
          exact hrg i hik
        · have : zup h a kf z a i = h a i := by simp [zup, hik]
          rw [this]
          exact hold.2 i hi
  · rw [zup_ne e]
    have hr := (hW r _ _ _ hty).1
    exact z_kept (hW a k n fz2 ht).2 (oq _ (by omega))
theorem z_apart {ci : Nat} {r : vw_C} {s : State} {args : Array Value} (hts : ∀ w ∈ zTB, w.before args s = true) (hin : ∀ w ∈ u_ws r.1 r.2.1 r.2.2, w ∈ zTB) (ty0 : Nat → FieldType) (hty : ∀ k, k < r.2.2 → parseFieldDescriptor (r.2.1 k).2.2.1 = some (ty0 k)) (hnm : ∀ a, a < r.2.2 → ∀ b, b < r.2.2 → a ≠ b → (r.2.1 a).2.1 ≠ (r.2.1 b).2.1) (hK : va_K D zC (ztys D) s) (hc : zC[ci]? = some r) : ∀ x y, x < r.2.2 → y < r.2.2 → x ≠ y → (D.2 ci) x ≠ (D.2 ci) y := by
  intro x y hx hy hne
  obtain ⟨hS, -⟩ := hK.1 ci _ hc
  obtain ⟨_, _, _, fa, hia, ea⟩ := hS x hx
  obtain ⟨_, _, _, fb, hib, eb⟩ := hS y hy
  rw [← ea, ← eb]
  refine u_apart (u_lays hts hin hx) (u_lays hts hin hy) hia hib ?_
  rw [(State.fieldFound?_type hia (hty x hx)).1, (State.fieldFound?_type hib (hty y hy)).1]
  exact hnm x hx y hy hne
theorem zC_ok : ∀ (ci : Nat) (r : vw_C), zC[ci]? = some r → (∀ k, k < r.2.2 → parseFieldDescriptor (r.2.1 k).2.2.1 = some (zty ci k)) ∧ ∀ a, a < r.2.2 → ∀ b, b < r.2.2 → a ≠ b → (r.2.1 a).2.1 ≠ (r.2.1 b).2.1 := by
  intro ci r h
  match ci, h with
  | 0, h => cases h; exact ⟨tyX0_ok, nmX0⟩
  | 1, h => cases h; exact ⟨tyX1_ok, nmX1⟩
  | 2, h => cases h; exact ⟨tyX2_ok, nmX2⟩
  | 3, h => cases h; exact ⟨tyX3_ok, nmX3⟩
  | 4, h => cases h; exact ⟨tyX4_ok, nmX4⟩
  | 5, h => cases h; exact ⟨tyX5_ok, nmX5⟩
  | 6, h => cases h; exact ⟨tyX6_ok, nmX6⟩
  | 7, h => cases h; exact ⟨tyX7_ok, nmX7⟩
  | k + 8, h => simp [zC] at h
/-- putfield: v fits the field -/
def zfit (t : FieldType) (v : zV) : Prop := match t with
  | .int => ∃ z, v = iV z
  | .boolean => v = iV 0 ∨ v = iV 1
  | .long => ∃ z, v = lV z
  | .object _ => ∃ z, v = rV z
  | .array _ => ∃ z, v = rV z
  | _ => False
theorem zfit_ok {t : FieldType} {v : zV} (hv : zfit t v) : narrow t (zcv v) = zcv v ∧ fits t (zcv v) = true := by
  cases t with
  | int => obtain ⟨z, rfl⟩ := hv; exact ⟨rfl, rfl⟩
  | boolean => rcases hv with rfl | rfl <;> exact ⟨by decide, by decide⟩
  | long => obtain ⟨z, rfl⟩ := hv; exact ⟨rfl, rfl⟩
  | object C =>
    obtain ⟨z, rfl⟩ := hv
    show narrow _ (va_rf (zrf z)) = va_rf (zrf z) ∧ fits _ (va_rf (zrf z)) = true
    cases zrf z <;> exact ⟨rfl, rfl⟩
  | array C =>
    obtain ⟨z, rfl⟩ := hv
    show narrow _ (va_rf (zrf z)) = va_rf (zrf z) ∧ fits _ (va_rf (zrf z)) = true
    cases zrf z <;> exact ⟨rfl, rfl⟩
  | _ => exact hv.elim
theorem x_put {ci N kf idx t : Nat} {fz : zF} {fin : Bool} {r z : Int} {v : zV} (hd : decode M.2.1 pc = .ok (.putfield idx, 3)) (hf : zFL M.1.cls idx ci kf t fin) (hty : ty r = some (ci, N, fz)) (hv : zcv v = zct t z) (hfit : zfit (zty ci kf) v) (hfz : fz (kf : Int) = none) (hrg : zrng t z) (hfin : fin = false ∨ (fin = true ∧ M.1.name = "<init>" ∧ (zC[ci]?).map (fun q => q.1) = some M.1.cls)) (kk : zX D M d k n (pc + 3) L st ty sz (zup h r kf z) Q) : zX D M d k n pc L (v :: rV r :: st) ty sz h Q := by
  intro p l e R s m args below meth c H locs ls cells slots mc ms A H0 G S Y hret
  obtain ⟨ha, hc⟩ := Y.1.1 r ci N fz hty
  obtain ⟨q, hq, hk, h8, hlink, hin, htg, hfi, hown1⟩ := hf
  obtain ⟨hN, cell, q1, q2, q3, q4⟩ := z_obj hc h8 hq
  obtain ⟨hSl, hfc, kC, hkC, hkind⟩ := S.2.2.2.2.2.2.2.1.1 ci q hq
  obtain ⟨cf, kfc, fi, f, hi, hsl⟩ := hSl kf hk
  have hok := zC_ok ci q hq
  have hap := z_apart S.2.2.2.2.2.1 hin (zty ci) hok.1 hok.2 S.2.2.2.2.2.2.2.1 hq
  have hst := (u_facts hfc hkC (u_lays S.2.2.2.2.2.1 hin hk) hi).1
  have hlay := S.2.2.2.2.2.1 _ (hin _ (u_in_lay hk))
  unfold u_lay at hlay
  have hff := zfit_ok hfit
  have world : ∀ H1 : Heap, H1[r.toNat]? = some (cell.setSlot f.slot (zcv v)) → H1.size = H.size → (∀ q, q ≠ r.toNat → H1[q]? = H[q]?) → zO D ty sz (zup h r kf z) H1 (locs ++ [⟨r.toNat, f.slot⟩]) A H0 := by
    intro H1 e1 e2 e3
    refine zO_put Y.1 hty hfz (fun i hi => by rw [show i = kf by omega]; unfold ztagc; rw [if_pos h8, htg]; exact hrg) (Or.inl ⟨h8, q, hq, hN, ?_⟩) e2 e3
    subst hN
    refine t_OB.to (V := updV (fun i => zct (ztg (zty ci i)) (h r i)) kf (zcv v)) ⟨_, e1, q2, q3, by rw [hsl]; exact t_set q4 hap hk (zcv v)⟩ (fun j hj => ?_)
    by_cases hjk : j = kf
    · subst hjk
      simp [updV, zup, hv, htg]
    · have : ¬ ((j : Int) = (kf : Int)) := by omega
      simp [updV, zup, hjk, this]
  show W p l e R s m args below meth c H locs cells slots G (F0 m pc ls (zcv v :: zcv (rV r) :: st.map zcv))
  rw [zcv_r ha]
  rcases hfin with efi | ⟨efi, hn, ho⟩
  · rw [if_neg (by rw [hfi, efi]; decide)] at hlay
    have h6 := u_store hfc hkC hkind hlay hi (hok.1 kf hk) hff.1 hff.2
    refine W.putK S.1 S.2.1 (f := f) ⟨S.2.2.2.2.1, S.2.2.2.2.2.1 _ hlink, ⟨_, _, _, hi⟩, hst⟩ (by rw [q2]; exact h6) q1 q3 (by rw [hsl]; exact k2_hasslot (q4 kf hk)) rfl rfl hd fun H1 e1 e2 e3 => ?_
    exact kk p l e R s m args below meth c H1 _ ls cells slots mc ms A H0 G S ⟨world H1 e1 e2 e3, Y.2⟩ hret
  · rw [if_pos (by rw [hfi, efi])] at hlay
    have h6 := u_fits hfc hkC hkind (Or.inr hlay) hi (hok.1 kf hk) hff.1 hff.2
    have hcf : m.cls = cf := by
      obtain ⟨_, _, c', _, _, _, -, -, hf', -, -, -, hown2, -⟩ := Cond.laysFinal_spec hlay
      have e1 : c' = cf := by have := hi.symm.trans hf'; simp at this; exact this.1.symm
      rw [hown1] at hown2
      rw [hq] at ho
      have e2 : q.1 = M.1.cls := Option.some.inj ho
      rw [e2] at hown2
      rw [← e1]; exact Option.some.inj (S.2.2.2.2.1.symm.trans hown2)
    refine W.putFinK S.1 S.2.1 S.2.2.2.2.1 (S.2.2.2.2.2.1 _ hlink) hi hst hcf (S.2.2.2.2.2.2.2.2.1.trans hn) (by rw [q2]; exact h6) q1 q3 (by rw [hsl]; exact k2_hasslot (q4 kf hk)) rfl rfl hd fun H1 e1 e2 e3 => ?_
    exact kk p l e R s m args below meth c H1 _ ls cells slots mc ms A H0 G S ⟨world H1 e1 e2 e3, Y.2⟩ hret
theorem x_putI {ci N kf idx : Nat} {fz : zF} {r z : Int} (hd : decode M.2.1 pc = .ok (.putfield idx, 3)) (hf : zFL M.1.cls idx ci kf 0 false) (hty : ty r = some (ci, N, fz)) (hi : zty ci kf = .int) (hfz : fz (kf : Int) = none) (hrg : i32 z) (kk : zX D M d k n (pc + 3) L st ty sz (zup h r kf z) Q) : zX D M d k n pc L (iV z :: rV r :: st) ty sz h Q := x_put hd hf hty rfl (by rw [hi]; exact ⟨z, rfl⟩) hfz ⟨fun _ => hrg, fun q => by cases q⟩ (Or.inl rfl) kk
theorem x_putZ {ci N kf idx : Nat} {fz : zF} {r z : Int} (hd : decode M.2.1 pc = .ok (.putfield idx, 3)) (hf : zFL M.1.cls idx ci kf 0 false) (hty : ty r = some (ci, N, fz)) (hi : zty ci kf = .boolean) (hz : z = 0 ∨ z = 1) (hfz : fz (kf : Int) = none) (kk : zX D M d k n (pc + 3) L st ty sz (zup h r kf z) Q) : zX D M d k n pc L (iV z :: rV r :: st) ty sz h Q := x_put hd hf hty rfl (by rw [hi]; rcases hz with rfl | rfl; exact Or.inl rfl; exact Or.inr rfl) hfz ⟨fun _ => by omega, fun q => by cases q⟩ (Or.inl rfl) kk
theorem x_putL {ci N kf idx : Nat} {fz : zF} {r z : Int} (hd : decode M.2.1 pc = .ok (.putfield idx, 3)) (hf : zFL M.1.cls idx ci kf 1 false) (hty : ty r = some (ci, N, fz)) (hi : zty ci kf = .long) (hfz : fz (kf : Int) = none) (hrg : i64 z) (kk : zX D M d k n (pc + 3) L st ty sz (zup h r kf z) Q) : zX D M d k n pc L (lV z :: rV r :: st) ty sz h Q := x_put hd hf hty rfl (by rw [hi]; exact ⟨z, rfl⟩) hfz ⟨fun q => (by cases q), fun _ => hrg⟩ (Or.inl rfl) kk
theorem x_putR {ci N kf idx : Nat} {fz : zF} {r z : Int} {C : String} (hd : decode M.2.1 pc = .ok (.putfield idx, 3)) (hf : zFL M.1.cls idx ci kf 2 false) (hty : ty r = some (ci, N, fz)) (hi : zty ci kf = .object C) (hfz : fz (kf : Int) = none) (kk : zX D M d k n (pc + 3) L st ty sz (zup h r kf z) Q) : zX D M d k n pc L (rV z :: rV r :: st) ty sz h Q := x_put hd hf hty rfl (by rw [hi]; exact ⟨z, rfl⟩) hfz ⟨fun q => (by cases q), fun q => (by cases q)⟩ (Or.inl rfl) kk
theorem x_putIF {ci N kf idx : Nat} {fz : zF} {r z : Int} (hd : decode M.2.1 pc = .ok (.putfield idx, 3)) (hf : zFL M.1.cls idx ci kf 0 true) (hty : ty r = some (ci, N, fz)) (hi : zty ci kf = .int) (hn : M.1.name = "<init>" ∧ (zC[ci]?).map (fun q => q.1) = some M.1.cls) (hfz : fz (kf : Int) = none) (hrg : i32 z) (kk : zX D M d k n (pc + 3) L st ty sz (zup h r kf z) Q) : zX D M d k n pc L (iV z :: rV r :: st) ty sz h Q := x_put hd hf hty rfl (by rw [hi]; exact ⟨z, rfl⟩) hfz ⟨fun _ => hrg, fun q => by cases q⟩ (Or.inr ⟨rfl, hn⟩) kk
theorem x_putRF {ci N kf idx : Nat} {fz : zF} {r z : Int} (hd : decode M.2.1 pc = .ok (.putfield idx, 3)) (hf : zFL M.1.cls idx ci kf 2 true) (hty : ty r = some (ci, N, fz)) (hi : (∃ C, zty ci kf = .object C) ∨ ∃ C, zty ci kf = .array C) (hn : M.1.name = "<init>" ∧ (zC[ci]?).map (fun q => q.1) = some M.1.cls) (hfz : fz (kf : Int) = none) (kk : zX D M d k n (pc + 3) L st ty sz (zup h r kf z) Q) : zX D M d k n pc L (rV z :: rV r :: st) ty sz h Q := x_put hd hf hty rfl (by rcases hi with ⟨C, hi⟩ | ⟨C, hi⟩ <;> rw [hi] <;> exact ⟨z, rfl⟩) hfz ⟨fun q => (by cases q), fun q => (by cases q)⟩ (Or.inr ⟨rfl, hn⟩) kk
end ZX
end
section
section ZA
variable {D : va_G} {M : zM} {d k n pc : Nat} {L : List (Nat × zV)} {st : List zV} {ty : zT} {sz : Nat} {h : zH} {Q : zQ}
theorem z_ix {i : Int} {N : Nat} (h0 : 0 ≤ i) (h1 : i < N) (hN : N < 2 ^ 31) : (Int32.ofInt i).toNatClampNeg = i.toNat ∧ ¬ (Int32.ofInt i < 0 ∨ N ≤ (Int32.ofInt i).toNatClampNeg) := by
  have e : (Int32.ofInt i).toInt = i := w32_id (by omega) (by omega)
  have e2 : (Int32.ofInt i).toNatClampNeg = i.toNat := by
    show (Int32.ofInt i).toInt.toNat = i.toNat
    rw [e]
  refine ⟨e2, fun q => ?_⟩
  rcases q with q | q
  · rw [Int32.lt_iff_toInt_lt, e] at q
    have : (0 : Int32).toInt = 0 := rfl
    omega
  · rw [e2] at q
    omega
theorem z_kty {s : State} {D : va_G} (hK : va_K D zC (ztys D) s) : (∀ N z, s.isArrayOf (arrV (D.1 8) N z) .int) ∧ (∀ N z, s.isArrayOf (arrV (D.1 9) N z) .long) ∧ (∀ N z, s.isArrayOf (arrV (D.1 10) N z) .boolean) :=
  ⟨fun N z => (hK.2 0 _ rfl).1 N z, fun N z => (hK.2 1 _ rfl).1 N z, fun N z => (hK.2 2 _ rfl).1 N z⟩

theorem x_iald {N : Nat} {fz : zF} {r i : Int} (hd : decode M.2.1 pc = .ok (.iaload, 1)) (hty : ty r = some (8, N, fz)) (h0 : 0 ≤ i) (h1 : i < N) (kk : i32 (h r i) → zX D M d k n (pc + 1) L (iV (h r i) :: st) ty sz h Q) : zX D M d k n pc L (iV i :: rV r :: st) ty sz h Q := by
  intro p l e R s m args below meth c H locs ls cells slots mc ms A H0 G S Y hret
  have hrg : i32 (h r i) := by
    have := (Y.1.1 r 8 N fz hty).2.2.2 i.toNat (by omega)
    rw [Int.toNat_of_nonneg h0] at this
    exact this.1 rfl
  have K := kk hrg p l e R s m args below meth c H locs ls cells slots mc ms A H0 G S Y hret
  obtain ⟨ha, hc⟩ := Y.1.1 r 8 N fz hty
  obtain ⟨hN, hH⟩ := z_arr hc (by decide)
  obtain ⟨e1, e2⟩ := z_ix h0 h1 hN
  show W p l e R s m args below meth c H locs cells slots G (F0 m pc ls (.int (Int32.ofInt i) :: zcv (rV r) :: st.map zcv))
  rw [zcv_r ha]
  refine W.iald (v := zcv (iV (h r i))) S.1 S.2.1 hH ((z_kty S.2.2.2.2.2.2.2.1).1 N _) (fun q => by cases q) (by rw [arrV_size]; exact e2) ?_ rfl rfl hd K
  rw [e1, arrV_read _ _ (by omega), Int.toNat_of_nonneg h0]
  rfl
theorem x_lald {N : Nat} {fz : zF} {r i : Int} (hd : decode M.2.1 pc = .ok (.laload, 1)) (hty : ty r = some (9, N, fz)) (h0 : 0 ≤ i) (h1 : i < N) (kk : i64 (h r i) → zX D M d k n (pc + 1) L (lV (h r i) :: st) ty sz h Q) : zX D M d k n pc L (iV i :: rV r :: st) ty sz h Q := by
  intro p l e R s m args below meth c H locs ls cells slots mc ms A H0 G S Y hret
  have hrg : i64 (h r i) := by
    have := (Y.1.1 r 9 N fz hty).2.2.2 i.toNat (by omega)
    rw [Int.toNat_of_nonneg h0] at this
    exact this.2 rfl
  have K := kk hrg p l e R s m args below meth c H locs ls cells slots mc ms A H0 G S Y hret
  obtain ⟨ha, hc⟩ := Y.1.1 r 9 N fz hty
  obtain ⟨hN, hH⟩ := z_arr hc (by decide)
  obtain ⟨e1, e2⟩ := z_ix h0 h1 hN
  show W p l e R s m args below meth c H locs cells slots G (F0 m pc ls (.int (Int32.ofInt i) :: zcv (rV r) :: st.map zcv))
  rw [zcv_r ha]
  refine W.lald (v := zcv (lV (h r i))) S.1 S.2.1 hH ((z_kty S.2.2.2.2.2.2.2.1).2.1 N _) (fun q => by cases q) (by rw [arrV_size]; exact e2) ?_ rfl rfl hd K
  rw [e1, arrV_read _ _ (by omega), Int.toNat_of_nonneg h0]
  rfl
theorem x_zald {N : Nat} {fz : zF} {r i : Int} (hd : decode M.2.1 pc = .ok (.baload, 1)) (hty : ty r = some (10, N, fz)) (h0 : 0 ≤ i) (h1 : i < N) (kk : i32 (h r i) → zX D M d k n (pc + 1) L (iV (h r i) :: st) ty sz h Q) : zX D M d k n pc L (iV i :: rV r :: st) ty sz h Q := by
  intro p l e R s m args below meth c H locs ls cells slots mc ms A H0 G S Y hret
  have hrg : i32 (h r i) := by
    have := (Y.1.1 r 10 N fz hty).2.2.2 i.toNat (by omega)
    rw [Int.toNat_of_nonneg h0] at this
    exact this.1 rfl
  have K := kk hrg p l e R s m args below meth c H locs ls cells slots mc ms A H0 G S Y hret
  obtain ⟨ha, hc⟩ := Y.1.1 r 10 N fz hty
  obtain ⟨hN, hH⟩ := z_arr hc (by decide)
  obtain ⟨e1, e2⟩ := z_ix h0 h1 hN
  show W p l e R s m args below meth c H locs cells slots G (F0 m pc ls (.int (Int32.ofInt i) :: zcv (rV r) :: st.map zcv))
  rw [zcv_r ha]
  refine W.zald (v := zcv (iV (h r i))) S.1 S.2.1 hH ((z_kty S.2.2.2.2.2.2.2.1).2.2 N _) (fun q => by cases q) (by rw [arrV_size]; exact e2) ?_ rfl rfl hd K
  rw [e1, arrV_read _ _ (by omega), Int.toNat_of_nonneg h0]
  rfl
theorem x_aald {kc N : Nat} {fz : zF} {r i : Int} (hd : decode M.2.1 pc = .ok (.aaload, 1)) (hty : ty r = some (kc, N, fz)) (hk : kc = 11 ∨ kc = 12 ∨ kc = 13) (h0 : 0 ≤ i) (h1 : i < N) (kk : zX D M d k n (pc + 1) L (rV (h r i) :: st) ty sz h Q) : zX D M d k n pc L (iV i :: rV r :: st) ty sz h Q := by
  intro p l e R s m args below meth c H locs ls cells slots mc ms A H0 G S Y hret
  have K := kk p l e R s m args below meth c H locs ls cells slots mc ms A H0 G S Y hret
  obtain ⟨ha, hc⟩ := Y.1.1 r kc N fz hty
  obtain ⟨hN, hH⟩ := z_arr hc (by omega)
  obtain ⟨e1, e2⟩ := z_ix h0 h1 hN
  show W p l e R s m args below meth c H locs cells slots G (F0 m pc ls (.int (Int32.ofInt i) :: zcv (rV r) :: st.map zcv))
  rw [zcv_r ha]
  have hv : (arrV (D.1 kc) N (fun j => zct (zat kc) (h r j))).slots[(Int32.ofInt i).toNatClampNeg]? = some (zcv (rV (h r i))) := by
    rw [e1, arrV_read _ _ (by omega), Int.toNat_of_nonneg h0]
    rcases hk with rfl | rfl | rfl <;> rfl
  rcases hk with rfl | rfl | rfl
  · exact W.aald (v := zcv (rV (h r i))) (ty := .object RX2) S.1 S.2.1 hH ((S.2.2.2.2.2.2.2.1.2 3 _ rfl).1 N _) rfl (fun q => by cases q) (by rw [arrV_size]; exact e2) hv rfl rfl hd K
  · exact W.aald (v := zcv (rV (h r i))) (ty := .object RX1) S.1 S.2.1 hH ((S.2.2.2.2.2.2.2.1.2 4 _ rfl).1 N _) rfl (fun q => by cases q) (by rw [arrV_size]; exact e2) hv rfl rfl hd K
  · exact W.aald (v := zcv (rV (h r i))) (ty := .object RX3) S.1 S.2.1 hH ((S.2.2.2.2.2.2.2.1.2 5 _ rfl).1 N _) rfl (fun q => by cases q) (by rw [arrV_size]; exact e2) hv rfl rfl hd K
theorem z_arrOf {s : State} {kc N : Nat} {z : Nat → Value} (hK : va_K D zC (ztys D) s) (h8 : 8 ≤ kc) (h14 : kc < 14) : ∃ t, s.isArrayOf (arrV (D.1 kc) N z) t := by
  have : kc = 8 ∨ kc = 9 ∨ kc = 10 ∨ kc = 11 ∨ kc = 12 ∨ kc = 13 := by omega
  rcases this with rfl | rfl | rfl | rfl | rfl | rfl
  · exact ⟨_, (hK.2 0 _ rfl).1 N z⟩
  · exact ⟨_, (hK.2 1 _ rfl).1 N z⟩
  · exact ⟨_, (hK.2 2 _ rfl).1 N z⟩
  · exact ⟨_, (hK.2 3 _ rfl).1 N z⟩
  · exact ⟨_, (hK.2 4 _ rfl).1 N z⟩
  · exact ⟨_, (hK.2 5 _ rfl).1 N z⟩
theorem x_alen {kc N : Nat} {fz : zF} {r : Int} (hd : decode M.2.1 pc = .ok (.arraylength, 1)) (hty : ty r = some (kc, N, fz)) (hk : 8 ≤ kc) (kk : zX D M d k n (pc + 1) L (iV N :: st) ty sz h Q) : zX D M d k n pc L (rV r :: st) ty sz h Q := by
  intro p l e R s m args below meth c H locs ls cells slots mc ms A H0 G S Y hret
  have K := kk p l e R s m args below meth c H locs ls cells slots mc ms A H0 G S Y hret
  obtain ⟨ha, hc⟩ := Y.1.1 r kc N fz hty
  have h14 : kc < 14 := by
    rcases hc.1 with ⟨h1, -⟩ | ⟨-, h1, -⟩ <;> omega
  obtain ⟨hN, hH⟩ := z_arr hc hk
  obtain ⟨t, htt⟩ := z_arrOf (N := N) (z := fun j => zct (zat kc) (h r j)) S.2.2.2.2.2.2.2.1 hk h14
  show W p l e R s m args below meth c H locs cells slots G (F0 m pc ls (zcv (rV r) :: st.map zcv))
  rw [zcv_r ha]
  exact W.alen (n := Int32.ofInt N) S.1 S.2.1 hH htt (by rw [arrV_size]; rfl) rfl rfl hd K
theorem x_iast {N : Nat} {fz : zF} {r i z : Int} (hd : decode M.2.1 pc = .ok (.iastore, 1)) (hty : ty r = some (8, N, fz)) (h0 : 0 ≤ i) (h1 : i < N) (hfz : fz i = none) (hrg : i32 z) (kk : zX D M d k n (pc + 1) L st ty sz (zup h r i z) Q) : zX D M d k n pc L (iV z :: iV i :: rV r :: st) ty sz h Q := by
  intro p l e R s m args below meth c H locs ls cells slots mc ms A H0 G S Y hret
  obtain ⟨ha, hc⟩ := Y.1.1 r 8 N fz hty
  obtain ⟨hN, hH⟩ := z_arr hc (by decide)
  obtain ⟨e1, e2⟩ := z_ix h0 h1 hN
  show W p l e R s m args below meth c H locs cells slots G (F0 m pc ls (zcv (iV z) :: .int (Int32.ofInt i) :: zcv (rV r) :: st.map zcv))
  rw [zcv_r ha]
  refine W.iast S.1 S.2.1 hH ((z_kty S.2.2.2.2.2.2.2.1).1 N _) (fun q => by cases q) (by rw [arrV_size]; exact e2) rfl rfl hd fun H1 e3 e4 e5 => ?_
  refine kk p l e R s m args below meth c H1 _ ls cells slots mc ms A H0 G S ⟨zO_put Y.1 hty hfz (fun _ _ => ⟨fun _ => hrg, fun q => by cases q⟩) ?_ e4 e5, Y.2⟩ hret
  refine Or.inr ⟨by decide, by decide, hN, ?_⟩
  rw [e3, arrV_store]
  congr 2
  funext j
  by_cases hj : j = (Int32.ofInt i).toNatClampNeg
  · have : (j : Int) = i := by omega
    simp [updV, hj, zup, zct, zat, e1, Int.toNat_of_nonneg h0]
    try rfl
  · have : ¬ (j : Int) = i := by omega
    simp [updV, hj, zup, this]
theorem x_last {N : Nat} {fz : zF} {r i z : Int} (hd : decode M.2.1 pc = .ok (.lastore, 1)) (hty : ty r = some (9, N, fz)) (h0 : 0 ≤ i) (h1 : i < N) (hfz : fz i = none) (hrg : i64 z) (kk : zX D M d k n (pc + 1) L st ty sz (zup h r i z) Q) : zX D M d k n pc L (lV z :: iV i :: rV r :: st) ty sz h Q := by
  intro p l e R s m args below meth c H locs ls cells slots mc ms A H0 G S Y hret
  obtain ⟨ha, hc⟩ := Y.1.1 r 9 N fz hty
  obtain ⟨hN, hH⟩ := z_arr hc (by decide)
  obtain ⟨e1, e2⟩ := z_ix h0 h1 hN
  show W p l e R s m args below meth c H locs cells slots G (F0 m pc ls (zcv (lV z) :: .int (Int32.ofInt i) :: zcv (rV r) :: st.map zcv))
  rw [zcv_r ha]
  refine W.last S.1 S.2.1 hH ((z_kty S.2.2.2.2.2.2.2.1).2.1 N _) (fun q => by cases q) (by rw [arrV_size]; exact e2) rfl rfl hd fun H1 e3 e4 e5 => ?_
  refine kk p l e R s m args below meth c H1 _ ls cells slots mc ms A H0 G S ⟨zO_put Y.1 hty hfz (fun _ _ => ⟨fun q => (by cases q), fun _ => hrg⟩) ?_ e4 e5, Y.2⟩ hret
  refine Or.inr ⟨by decide, by decide, hN, ?_⟩
  rw [e3, arrV_store]
  congr 2
  funext j
  by_cases hj : j = (Int32.ofInt i).toNatClampNeg
  · have : (j : Int) = i := by omega
    simp [updV, hj, zup, zct, zat, e1, Int.toNat_of_nonneg h0]
    try rfl
  · have : ¬ (j : Int) = i := by omega
    simp [updV, hj, zup, this]
theorem x_zast {N : Nat} {fz : zF} {r i z : Int} (hd : decode M.2.1 pc = .ok (.bastore, 1)) (hty : ty r = some (10, N, fz)) (h0 : 0 ≤ i) (h1 : i < N) (hz : z = 0 ∨ z = 1) (hfz : fz i = none) (kk : zX D M d k n (pc + 1) L st ty sz (zup h r i z) Q) : zX D M d k n pc L (iV z :: iV i :: rV r :: st) ty sz h Q := by
  intro p l e R s m args below meth c H locs ls cells slots mc ms A H0 G S Y hret
  obtain ⟨ha, hc⟩ := Y.1.1 r 10 N fz hty
  obtain ⟨hN, hH⟩ := z_arr hc (by decide)
  obtain ⟨e1, e2⟩ := z_ix h0 h1 hN
  show W p l e R s m args below meth c H locs cells slots G (F0 m pc ls (zcv (iV z) :: .int (Int32.ofInt i) :: zcv (rV r) :: st.map zcv))
  rw [zcv_r ha]
  refine W.zast S.1 S.2.1 hH ((z_kty S.2.2.2.2.2.2.2.1).2.2 N _) (fun q => by cases q) (by rw [arrV_size]; exact e2) rfl rfl hd fun H1 e3 e4 e5 => ?_
  refine kk p l e R s m args below meth c H1 _ ls cells slots mc ms A H0 G S ⟨zO_put Y.1 hty hfz (fun _ _ => ⟨fun _ => by omega, fun q => by cases q⟩) ?_ e4 e5, Y.2⟩ hret
  refine Or.inr ⟨by decide, by decide, hN, ?_⟩
  have ez : narrow .boolean (.int (Int32.ofInt z)) = .int (Int32.ofInt z) := by rcases hz with rfl | rfl <;> decide
  rw [ez] at e3
  rw [e3, arrV_store]
  congr 2
  funext j
  by_cases hj : j = (Int32.ofInt i).toNatClampNeg
  · have : (j : Int) = i := by omega
    simp [updV, hj, zup, zct, zat, e1, Int.toNat_of_nonneg h0]
    try rfl
  · have : ¬ (j : Int) = i := by omega
    simp [updV, hj, zup, this]
theorem x_aast {kc ci N N2 : Nat} {fz fz2 : zF} {r i z : Int} (hd : decode M.2.1 pc = .ok (.aastore, 1)) (hty : ty r = some (kc, N, fz)) (hk : (kc = 11 ∧ ci = 2) ∨ (kc = 12 ∧ ci = 1) ∨ (kc = 13 ∧ ci = 3)) (hv : ty z = some (ci, N2, fz2)) (h0 : 0 ≤ i) (h1 : i < N) (hfz : fz i = none) (kk : zX D M d k n (pc + 1) L st ty sz (zup h r i z) Q) : zX D M d k n pc L (rV z :: iV i :: rV r :: st) ty sz h Q := by
  intro p l e R s m args below meth c H locs ls cells slots mc ms A H0 G S Y hret
  obtain ⟨ha, hc⟩ := Y.1.1 r kc N fz hty
  obtain ⟨hz, hcz⟩ := Y.1.1 z ci N2 fz2 hv
  obtain ⟨hN, hH⟩ := z_arr hc (by omega)
  obtain ⟨e1, e2⟩ := z_ix h0 h1 hN
  have hfin : ∃ (q : vw_C) (t0 : Nat), zC[ci]? = some q ∧ ci < 8 ∧ (ztys D)[t0]? = some (D.1 kc, .object q.1) ∧ zat kc = 2 ∧ kc < 14 := by
    rcases hk with ⟨rfl, rfl⟩ | ⟨rfl, rfl⟩ | ⟨rfl, rfl⟩
    · exact ⟨_, 3, rfl, by decide, rfl, rfl, by decide⟩
    · exact ⟨_, 4, rfl, by decide, rfl, rfl, by decide⟩
    · exact ⟨_, 5, rfl, by decide, rfl, rfl, by decide⟩
  obtain ⟨q, t0, hq, h8, ht, hat, h14⟩ := hfin
  obtain ⟨-, cellV, g1, g2, g3, -⟩ := z_obj hcz h8 hq
  have hcls := (S.2.2.2.2.2.2.2.1.1 ci q hq).2
  obtain ⟨kA, comp, k1, k2, k3, -⟩ := (S.2.2.2.2.2.2.2.1.2 t0 _ ht).2
  have hcomp : comp = D.1 ci := Option.some.inj (k3.symm.trans hcls.1)
  subst hcomp
  have hcl2 := hcls
  obtain ⟨-, kC, hkC, -⟩ := hcl2
  show W p l e R s m args below meth c H locs cells slots G (F0 m pc ls (zcv (rV z) :: .int (Int32.ofInt i) :: zcv (rV r) :: st.map zcv))
  rw [zcv_r ha, zcv_r hz]
  have h00 : ¬ Int32.ofInt i < 0 := fun q => e2 (Or.inl q)
  refine W.aast S.1 S.2.1 hH (fun q h => by cases h) (fun h => by cases h) k1 k2 rfl hkC ⟨h00, by rw [arrV_size]; omega⟩ g1 (fun q h => by rw [g3] at h; cases h) (by rw [g2]; exact hkC) (by rw [g2]; exact va_assign hcls) rfl rfl hd fun H1 e3 e4 e5 => ?_
  refine kk p l e R s m args below meth c H1 _ ls cells slots mc ms A H0 G S ⟨zO_put Y.1 hty hfz (fun _ _ => by unfold ztagc; rw [if_neg (by omega), hat]; exact ⟨fun q => (by cases q), fun q => (by cases q)⟩) ?_ e4 e5, Y.2⟩ hret
  refine Or.inr ⟨by omega, h14, hN, ?_⟩
  rw [e3, arrV_store]
  congr 2
  funext j
  by_cases hj : j = (Int32.ofInt i).toNatClampNeg
  · have : (j : Int) = i := by omega
    have e9 := zcv_r hz
    simp only [zcv] at e9
    simp [updV, hj, zup, zct, hat, e1, Int.toNat_of_nonneg h0]
    exact e9.symm
  · have : ¬ (j : Int) = i := by omega
    simp [updV, hj, zup, this]
/-- default contents -/
def zdef (ci : Nat) : Int → Int := fun j => if ztg (zty ci j.toNat) = 2 then -1 else 0
theorem zrow_ne {a b : Int} {f : Int → Int} (hab : a ≠ b) : zrow h b f a = h a := by
  funext j
  simp [zrow, hab]
/-- the world with one cell more -/
theorem zO_new {kc N : Nat} {f : Int → Int} {H H1 : Heap} {locs : List Loc} {A : Nat → Prop} {H0 : Heap} (hO : zO D ty sz h H locs A H0) (hAll : ∀ q, H0.size ≤ q → A q) (hrg : ∀ i : Nat, f i = 0 ∨ f i = -1) (hc : zcell0 D kc N f H.size H1) (hz : H1.size = H.size + 1) (oq : ∀ q : Nat, q < H.size → H1[q]? = H[q]?) : zO D (znew ty sz kc N) (sz + 1) (zrow h sz f) H1 locs A H0 := by
  obtain ⟨hW, rfl, hA, hS⟩ := hO
  have lt : ∀ a q, ty a = some q → a.toNat < H.size := by
    intro a q ht
    obtain ⟨-, hc⟩ := hW a q.1 q.2.1 q.2.2 ht
    rcases hc.1 with ⟨-, r, -, -, cell, h1, -⟩ | ⟨-, -, -, h1⟩ <;> exact (Array.getElem?_eq_some_iff.mp h1).1
  refine ⟨fun a k n fz2 ht => ?_, by omega, fun a q ht => ?_, ⟨Nat.le_trans hS.1 (by omega), fun x h1 h2 => (oq x (Nat.lt_of_lt_of_le h1 hS.1)).trans (hS.2.1 x h1 h2), hS.2.2⟩⟩
  · by_cases e : a = (H.size : Int)
    · subst e
      simp only [znew, if_true, Option.some.injEq, Prod.mk.injEq] at ht
      obtain ⟨rfl, rfl, rfl⟩ := ht
      refine ⟨Int.natCast_nonneg _, ?_⟩
      rw [show zrow h (H.size : Int) f (H.size : Int) = f from by funext j; simp [zrow], Int.toNat_natCast]
      exact ⟨hc, fun i v hi => (by cases hi), fun i _ => ⟨fun _ => by rcases hrg i with q | q <;> rw [q] <;> decide, fun _ => by rcases hrg i with q | q <;> rw [q] <;> decide⟩⟩
    · simp only [znew, if_neg e] at ht
      rw [zrow_ne e]
      obtain ⟨h0, hc0⟩ := hW a k n fz2 ht
      exact ⟨h0, z_kept hc0 (oq _ (lt a _ ht))⟩
  · by_cases e : a = (H.size : Int)
    · subst e
      rw [Int.toNat_natCast]
      exact hAll _ hS.1
    · simp only [znew, if_neg e] at ht
      exact hA a q ht
theorem z_dv (ci j : Nat) : defaultValue (zty ci j) = zct (ztg (zty ci j)) (if ztg (zty ci j) = 2 then -1 else 0) := by
  unfold zty
  split
  · unfold tyX0; split <;> rfl
  · unfold tyX1; rfl
  · unfold tyX2; split <;> rfl
  · unfold tyX3; split <;> rfl
  · unfold tyX4; split <;> rfl
  · unfold tyX5; split <;> rfl
  · unfold tyX6; split <;> rfl
  · unfold tyX7; split <;> rfl
theorem x_new {ci idx : Nat} {q : vw_C} (hd : decode M.2.1 pc = .ok (.new idx, 3)) (hq : zC[ci]? = some q) (h8 : ci < 8) (hcl : Cond.classLink M.1.cls idx q.1 ∈ zTB) (hins : Cond.instantiable q.1 q.2.2 ∈ zTB) (hini : Cond.initialized q.1 ∈ zTB) (hin : ∀ w ∈ u_ws q.1 q.2.1 q.2.2, w ∈ zTB) (kk : zX D M d k n (pc + 3) L (rV sz :: st) (znew ty sz ci q.2.2) (sz + 1) (zrow h sz (zdef ci)) Q) : zX D M d (k + 1) (n + q.2.2) pc L st ty sz h Q := by
  intro p l e R s m args below meth c H locs ls cells slots mc ms A H0 G S Y hret
  obtain ⟨hO, hL, hk1, hk2⟩ := Y
  have hsz := hO.2.1
  have hts := S.2.2.2.2.2.1
  have hKn := S.2.2.2.2.2.2.2.1.1 ci q hq
  refine W.newcK S.1 S.2.1 S.2.2.2.2.1 (hts _ hcl) (hts _ hins) (hts _ hini) rfl hd (by have := S.2.2.2.2.2.2.2.2.2.2.2.2.1; omega) (by have := S.2.2.2.2.2.2.2.2.2.2.2.2.2.1; omega) hKn.2.1 rfl fun H1 kC hkC e1 z1 o1 => ?_
  have K := kk p l e R s m args below meth c H1 locs ls (cells + 1) (slots + q.2.2) mc ms A H0 G S ⟨zO_new hO S.2.2.2.2.2.2.2.2.2.1 (fun i => by unfold zdef; split <;> simp) (Or.inl ⟨h8, q, hq, rfl, ?_⟩) z1 o1, hL, by omega, by omega⟩ hret
  · have ez : zcv (rV sz) = .ref H.size := by
      rw [zcv_r (by omega), Int.toNat_natCast, hsz]
    change W p l e R s m args below meth c H1 locs (cells + 1) (slots + q.2.2) G (F0 m (pc + 3) ls (zcv (rV sz) :: st.map zcv)) at K
    rw [ez] at K
    exact K
  · have hb := (u_born (zty ci) hts hin hKn hkC e1 (zC_ok ci q hq).1)
    refine hb.to (fun j hj => ?_)
    simp only [zdef, Int.toNat_natCast]
    exact z_dv ci j
theorem x_newI {N : Nat} (hd : decode M.2.1 pc = .ok (.newarray .int, 2)) (hw : Cond.arrayClass .int ∈ zTB) (hN : N ≤ 10000) (kk : zX D M d k n (pc + 2) L (rV sz :: st) (znew ty sz 8 N) (sz + 1) (zrow h sz (fun _ => 0)) Q) : zX D M d (k + 1) (n + N) pc L (iV N :: st) ty sz h Q := by
  intro p l e R s m args below meth c H locs ls cells slots mc ms A H0 G S Y hret
  obtain ⟨hO, hL, hk1, hk2⟩ := Y
  have hsz := hO.2.1
  have hts := S.2.2.2.2.2.1
  have eN : (Int32.ofInt (N : Int)).toInt = N := w32_id (by omega) (by omega)
  have eN2 : (Int32.ofInt (N : Int)).toNatClampNeg = N := by
    show (Int32.ofInt (N : Int)).toInt.toNat = N
    rw [eN]; rfl
  refine va_newaK (atype := .int) S.1 S.2.1 (hts _ hw) rfl hd rfl (fun q => by rw [Int32.lt_iff_toInt_lt, eN] at q; have : (0 : Int32).toInt = 0 := rfl; omega) eN2 (Nat.le_trans (Nat.mul_le_mul_right _ hN) (by decide)) (by have := S.2.2.2.2.2.2.2.2.2.2.2.2.1; omega) (by have := S.2.2.2.2.2.2.2.2.2.2.2.2.2.1; omega) rfl fun H1 cA e1 z1 o1 hAr hNm => ?_
  have hcA : cA = D.1 8 := by
    have := (S.2.2.2.2.2.2.2.1.2 0 _ rfl).2
    exact Option.some.inj (hNm.symm.trans this)
  subst hcA
  have K := kk p l e R s m args below meth c H1 locs ls (cells + 1) (slots + N) mc ms A H0 G S ⟨zO_new hO S.2.2.2.2.2.2.2.2.2.1 (fun _ => Or.inl rfl) (Or.inr ⟨by decide, by decide, by omega, ?_⟩) z1 o1, hL, by omega, by omega⟩ hret
  · have ez : zcv (rV sz) = .ref H.size := by
      rw [zcv_r (by omega), Int.toNat_natCast, hsz]
    change W p l e R s m args below meth c H1 locs (cells + 1) (slots + N) G (F0 m (pc + 2) ls (zcv (rV sz) :: st.map zcv)) at K
    rw [ez] at K
    exact K
  · rw [e1]
    rfl
theorem x_newJ {N : Nat} (hd : decode M.2.1 pc = .ok (.newarray .long, 2)) (hw : Cond.arrayClass .long ∈ zTB) (hN : N ≤ 10000) (kk : zX D M d k n (pc + 2) L (rV sz :: st) (znew ty sz 9 N) (sz + 1) (zrow h sz (fun _ => 0)) Q) : zX D M d (k + 1) (n + N) pc L (iV N :: st) ty sz h Q := by
  intro p l e R s m args below meth c H locs ls cells slots mc ms A H0 G S Y hret
  obtain ⟨hO, hL, hk1, hk2⟩ := Y
  have hsz := hO.2.1
  have hts := S.2.2.2.2.2.1
  have eN : (Int32.ofInt (N : Int)).toInt = N := w32_id (by omega) (by omega)
  have eN2 : (Int32.ofInt (N : Int)).toNatClampNeg = N := by
    show (Int32.ofInt (N : Int)).toInt.toNat = N
    rw [eN]; rfl
  refine va_newaK (atype := .long) S.1 S.2.1 (hts _ hw) rfl hd rfl (fun q => by rw [Int32.lt_iff_toInt_lt, eN] at q; have : (0 : Int32).toInt = 0 := rfl; omega) eN2 (Nat.le_trans (Nat.mul_le_mul_right _ hN) (by decide)) (by have := S.2.2.2.2.2.2.2.2.2.2.2.2.1; omega) (by have := S.2.2.2.2.2.2.2.2.2.2.2.2.2.1; omega) rfl fun H1 cA e1 z1 o1 hAr hNm => ?_
  have hcA : cA = D.1 9 := by
    have := (S.2.2.2.2.2.2.2.1.2 1 _ rfl).2
    exact Option.some.inj (hNm.symm.trans this)
  subst hcA
  have K := kk p l e R s m args below meth c H1 locs ls (cells + 1) (slots + N) mc ms A H0 G S ⟨zO_new hO S.2.2.2.2.2.2.2.2.2.1 (fun _ => Or.inl rfl) (Or.inr ⟨by decide, by decide, by omega, ?_⟩) z1 o1, hL, by omega, by omega⟩ hret
  · have ez : zcv (rV sz) = .ref H.size := by
      rw [zcv_r (by omega), Int.toNat_natCast, hsz]
    change W p l e R s m args below meth c H1 locs (cells + 1) (slots + N) G (F0 m (pc + 2) ls (zcv (rV sz) :: st.map zcv)) at K
    rw [ez] at K
    exact K
  · rw [e1]
    rfl
theorem x_newZ {N : Nat} (hd : decode M.2.1 pc = .ok (.newarray .boolean, 2)) (hw : Cond.arrayClass .boolean ∈ zTB) (hN : N ≤ 10000) (kk : zX D M d k n (pc + 2) L (rV sz :: st) (znew ty sz 10 N) (sz + 1) (zrow h sz (fun _ => 0)) Q) : zX D M d (k + 1) (n + N) pc L (iV N :: st) ty sz h Q := by
  intro p l e R s m args below meth c H locs ls cells slots mc ms A H0 G S Y hret
  obtain ⟨hO, hL, hk1, hk2⟩ := Y
  have hsz := hO.2.1
  have hts := S.2.2.2.2.2.1
  have eN : (Int32.ofInt (N : Int)).toInt = N := w32_id (by omega) (by omega)
  have eN2 : (Int32.ofInt (N : Int)).toNatClampNeg = N := by
    show (Int32.ofInt (N : Int)).toInt.toNat = N
    rw [eN]; rfl
  refine va_newaK (atype := .boolean) S.1 S.2.1 (hts _ hw) rfl hd rfl (fun q => by rw [Int32.lt_iff_toInt_lt, eN] at q; have : (0 : Int32).toInt = 0 := rfl; omega) eN2 (Nat.le_trans (Nat.mul_le_mul_right _ hN) (by decide)) (by have := S.2.2.2.2.2.2.2.2.2.2.2.2.1; omega) (by have := S.2.2.2.2.2.2.2.2.2.2.2.2.2.1; omega) rfl fun H1 cA e1 z1 o1 hAr hNm => ?_
  have hcA : cA = D.1 10 := by
    have := (S.2.2.2.2.2.2.2.1.2 2 _ rfl).2
    exact Option.some.inj (hNm.symm.trans this)
  subst hcA
  have K := kk p l e R s m args below meth c H1 locs ls (cells + 1) (slots + N) mc ms A H0 G S ⟨zO_new hO S.2.2.2.2.2.2.2.2.2.1 (fun _ => Or.inl rfl) (Or.inr ⟨by decide, by decide, by omega, ?_⟩) z1 o1, hL, by omega, by omega⟩ hret
  · have ez : zcv (rV sz) = .ref H.size := by
      rw [zcv_r (by omega), Int.toNat_natCast, hsz]
    change W p l e R s m args below meth c H1 locs (cells + 1) (slots + N) G (F0 m (pc + 2) ls (zcv (rV sz) :: st.map zcv)) at K
    rw [ez] at K
    exact K
  · rw [e1]
    rfl
theorem x_anew {kc idx N : Nat} {C : String} (hd : decode M.2.1 pc = .ok (.anewarray idx, 3)) (hk : (kc = 11 ∧ C = RX2) ∨ (kc = 12 ∧ C = RX1) ∨ (kc = 13 ∧ C = RX3)) (hcl : Cond.classLink M.1.cls idx C ∈ zTB) (hN : N ≤ 10000) (kk : zX D M d k n (pc + 3) L (rV sz :: st) (znew ty sz kc N) (sz + 1) (zrow h sz (fun _ => -1)) Q) : zX D M d (k + 1) (n + N) pc L (iV N :: st) ty sz h Q := by
  intro p l e R s m args below meth c H locs ls cells slots mc ms A H0 G S Y hret
  obtain ⟨hO, hL, hk1, hk2⟩ := Y
  have hsz := hO.2.1
  have hts := S.2.2.2.2.2.1
  have eN : (Int32.ofInt (N : Int)).toInt = N := w32_id (by omega) (by omega)
  have eN2 : (Int32.ofInt (N : Int)).toNatClampNeg = N := by
    show (Int32.ofInt (N : Int)).toInt.toNat = N
    rw [eN]; rfl
  have hao : va_AO C s := by
    have hA := S.2.2.2.2.2.2.2.2.2.2.2.2.2.2.2
    rcases hk with ⟨-, rfl⟩ | ⟨-, rfl⟩ | ⟨-, rfl⟩
    · exact hA.1
    · exact hA.2.1
    · exact hA.2.2.1
  have hfin : ∃ t0 : Nat, (ztys D)[t0]? = some (D.1 kc, FieldType.object C) ∧ zat kc = 2 ∧ 8 ≤ kc ∧ kc < 14 := by
    rcases hk with ⟨rfl, rfl⟩ | ⟨rfl, rfl⟩ | ⟨rfl, rfl⟩
    · exact ⟨3, rfl, rfl, by decide, by decide⟩
    · exact ⟨4, rfl, rfl, by decide, by decide⟩
    · exact ⟨5, rfl, rfl, by decide, by decide⟩
  obtain ⟨t0, ht, hat, h8, h14⟩ := hfin
  obtain ⟨kA0, comp0, k1, k2, k3, hNm⟩ := (S.2.2.2.2.2.2.2.1.2 t0 _ ht).2
  refine W.anew S.1 S.2.1 S.2.2.2.2.1 (hts _ hcl) (va_AO.use hao) rfl hd rfl (fun q => by rw [Int32.lt_iff_toInt_lt, eN] at q; have : (0 : Int32).toInt = 0 := rfl; omega) (by rw [eN2]; omega) (by have := S.2.2.2.2.2.2.2.2.2.2.2.2.1; omega) (by rw [eN2]; have := S.2.2.2.2.2.2.2.2.2.2.2.2.2.1; omega) fun cA kA comp f1 f2 f3 f4 => ?_
  rw [eN2]
  have hcA : cA = D.1 kc := Option.some.inj (f1.symm.trans hNm)
  subst hcA
  generalize hH1 : H.push ({ cls := D.1 kc, slots := Array.replicate N .null, vm := .none } : Cell) = H1
  have z1 : H1.size = H.size + 1 := by rw [← hH1, Array.size_push]
  have e1 : H1[H.size]? = some (arrV (D.1 kc) N (fun _ => .null)) := by rw [← hH1, Array.getElem?_push_size, ← arrV_new]
  have o1 : ∀ q : Nat, q < H.size → H1[q]? = H[q]? := fun q hq => by rw [← hH1, Array.getElem?_push, if_neg (Nat.ne_of_lt hq)]
  have K := kk p l e R s m args below meth c H1 locs ls (cells + 1) (slots + N) mc ms A H0 G S ⟨zO_new hO S.2.2.2.2.2.2.2.2.2.1 (fun _ => Or.inr rfl) (Or.inr ⟨h8, h14, by omega, ?_⟩) z1 o1, hL, by omega, by omega⟩ hret
  · have ez : zcv (rV sz) = .ref H.size := by
      rw [zcv_r (by omega), Int.toNat_natCast, hsz]
    change W p l e R s m args below meth c H1 locs (cells + 1) (slots + N) G (F0 m (pc + 3) ls (zcv (rV sz) :: st.map zcv)) at K
    rw [ez] at K
    exact K
  · rw [e1, hat]
    rfl
/-- ends -/
theorem x_ret (hr : zRet M pc none) (hq : Q none ty sz h) : zX D M d k n pc L [] ty sz h Q := by
  intro p l e R s m args below meth c H locs ls cells slots mc ms A H0 G S Y hret
  exact W.widen (by have := Y.2.2.1; omega) (by have := Y.2.2.2; omega) (hret none ty sz h H locs ls pc hq Y.1 hr)
theorem x_retv {v : zV} (hr : zRet M pc (some v)) (hq : Q (some v) ty sz h) : zX D M d k n pc L [v] ty sz h Q := by
  intro p l e R s m args below meth c H locs ls cells slots mc ms A H0 G S Y hret
  exact W.widen (by have := Y.2.2.1; omega) (by have := Y.2.2.2; omega) (hret (some v) ty sz h H locs ls pc hq Y.1 hr)
theorem x_q {Q' : zQ} (hx : zX D M d k n pc L st ty sz h Q') (hq : ∀ v t z g, Q' v t z g → Q v t z g) : zX D M d k n pc L st ty sz h Q := by
  intro p l e R s m args below meth c H locs ls cells slots mc ms A H0 G S Y hret
  exact hx p l e R s m args below meth c H locs ls cells slots mc ms A H0 G S Y (fun v t z g H' locs' ls' pc' q => hret v t z g H' locs' ls' pc' (hq v t z g q))
/-- fewer locals -/
def zlks (L : List (Nat × zV)) : List (Nat × zV) → Prop
  | [] => True
  | q :: r => zlk q.1 L = some q.2 ∧ zlks L r
theorem zlks_has {L : List (Nat × zV)} {nL : Nat} {ls : Array Slot} (hL : lv_has ls nL (zloc L)) : ∀ {L' : List (Nat × zV)}, zlks L L' → lv_has ls nL (zloc L')
  | [], _ => ⟨hL.1, hL.2.1, fun q hq => by simp [zloc] at hq⟩
  | q :: r, hh => by
    refine ⟨hL.1, hL.2.1, fun x hx => ?_⟩
    rcases List.mem_cons.mp hx with e | hx
    · subst e
      exact hL.2.2 _ (List.mem_map.mpr ⟨_, zlk_mem hh.1, rfl⟩)
    · exact (zlks_has hL hh.2).2.2 x hx
theorem x_loc (L' : List (Nat × zV)) (hl : zlks L L') (kk : zX D M d k n pc L' st ty sz h Q) : zX D M d k n pc L st ty sz h Q := by
  intro p l e R s m args below meth c H locs ls cells slots mc ms A H0 G S Y hret
  exact kk p l e R s m args below meth c H locs ls cells slots mc ms A H0 G S ⟨Y.1, zlks_has Y.2.1 hl, Y.2.2⟩ hret
/-- more room than is wanted -/
theorem x_room {d' k' n' : Nat} (hd : d' ≤ d) (hk : k' ≤ k) (hn : n' ≤ n) (kk : zX D M d' k' n' pc L st ty sz h Q) : zX D M d k n pc L st ty sz h Q := by
  intro p l e R s m args below meth c H locs ls cells slots mc ms A H0 G S Y hret
  obtain ⟨s1, s2, s3, s4, s5, s6, s7, s8, s9, s10, s11, s12, s13⟩ := S
  exact kk p l e R s m args below meth c H locs ls cells slots mc ms A H0 G ⟨s1, s2, s3, s4, s5, s6, s7, s8, s9, s10, by omega, by omega, s13⟩ ⟨Y.1, Y.2.1, by have := Y.2.2.1; omega, by have := Y.2.2.2; omega⟩ hret
theorem x_aaldF {kc N : Nat} {fz : zF} {r i v : Int} (hd : decode M.2.1 pc = .ok (.aaload, 1)) (hty : ty r = some (kc, N, fz)) (hk : kc = 11 ∨ kc = 12 ∨ kc = 13) (h0 : 0 ≤ i) (h1 : i < N) (hz : fz i = some v) (kk : zX D M d k n (pc + 1) L (rV v :: st) ty sz h Q) : zX D M d k n pc L (iV i :: rV r :: st) ty sz h Q := by
  intro p l e R s m args below meth c H locs ls cells slots mc ms A H0 G S Y hret
  have e1 : h r i = v := (Y.1.1 r kc N fz hty).2.2.1 _ _ hz
  subst e1
  exact x_aald hd hty hk h0 h1 kk p l e R s m args below meth c H locs ls cells slots mc ms A H0 G S Y hret
/-- from here on these places stay -/
def zfrz (ty : zT) (a : Int) (z : zF) : zT := fun a' => if a' = a then (ty a).map (fun q => (q.1, q.2.1, z)) else ty a'
theorem x_freeze {kc N : Nat} {r : Int} (z : zF) (hty : ty r = some (kc, N, zn)) (hz : ∀ i v, z i = some v → h r i = v) (kk : zX D M d k n pc L st (zfrz ty r z) sz h Q) : zX D M d k n pc L st ty sz h Q := by
  intro p l e R s m args below meth c H locs ls cells slots mc ms A H0 G S Y hret
  refine kk p l e R s m args below meth c H locs ls cells slots mc ms A H0 G S ⟨⟨fun a k n fz2 ht => ?_, Y.1.2.1, fun a q ht => ?_, Y.1.2.2.2⟩, Y.2⟩ hret
  · by_cases e : a = r
    · subst e
      simp only [zfrz, if_true, hty, Option.map_some, Option.some.injEq, Prod.mk.injEq] at ht
      obtain ⟨rfl, rfl, rfl⟩ := ht
      obtain ⟨h0, hc⟩ := Y.1.1 a kc N zn hty
      exact ⟨h0, hc.1, hz, hc.2.2⟩
    · simp only [zfrz, if_neg e] at ht
      exact Y.1.1 a k n fz2 ht
  · by_cases e : a = r
    · subst e
      exact Y.1.2.2.1 a _ hty
    · simp only [zfrz, if_neg e] at ht
      exact Y.1.2.2.1 a q ht
/-- addresses stand below the heap's size -/
theorem x_lt (kk : (∀ a q, ty a = some q → 0 ≤ a ∧ a < sz) → zX D M d k n pc L st ty sz h Q) : zX D M d k n pc L st ty sz h Q := by
  intro p l e R s m args below meth c H locs ls cells slots mc ms A H0 G S Y hret
  refine kk (fun a q ht => ?_) p l e R s m args below meth c H locs ls cells slots mc ms A H0 G S Y hret
  obtain ⟨h0, hc⟩ := Y.1.1 a q.1 q.2.1 q.2.2 ht
  have h2 := Y.1.2.1
  refine ⟨h0, ?_⟩
  rcases hc.1 with ⟨-, r, -, -, cell, h1, -⟩ | ⟨-, -, -, h1⟩
  · have := (Array.getElem?_eq_some_iff.mp h1).1
    omega
  · have := (Array.getElem?_eq_some_iff.mp h1).1
    omega
end ZA
end
section
section ZCALL
variable {D : va_G} {M M' : zM} {d k n pc : Nat} {L : List (Nat × zV)} {st : List zV} {ty : zT} {sz : Nat} {h : zH} {Q : zQ}
/-- what a method's own world may change -/
def zA (ty : zT) (sz : Nat) : Nat → Prop := fun q => (∃ a x, ty a = some x ∧ a.toNat = q) ∨ sz ≤ q
theorem zAO_warm {s U : State} (hW : s.WarmedH U.vm) (hA : zAO s) : zAO U := by
  refine ⟨va_AO.moved hW.alike hA.1, va_AO.moved hW.alike hA.2.1, va_AO.moved hW.alike hA.2.2.1, fun w hw => ?_⟩
  have h1 := hA.2.2.2 w hw
  have h2 := (List.mem_filter.mp hw).2
  cases w <;> first | exact va_Nw.warmM hW h1 | (simp [zisN] at h2)
def zP (D : va_G) (ty : zT) (sz : Nat) (h : zH) (U : State) : Prop := zW D ty h U.heap ∧ U.heap.size = sz ∧ va_K D zC (ztys D) U ∧ zAO U
def zQc (D : va_G) (Q : zQ) (A : Nat → Prop) : Array Value → State → Outcome → State → Prop := fun _ st o t =>
  (∃ v ty' sz' h', o = .returned (v.map zcv) ∧ Q v ty' sz' h' ∧ zW D ty' h' t.heap ∧ t.heap.size = sz' ∧ (∀ a x, ty' a = some x → A a.toNat)) ∧ va_F A st t
/-- the locals at the entry -/
def zargs : Nat → List zV → List (Nat × zV)
  | _, [] => []
  | i, v :: vs => (i, v) :: zargs (if zcat v = 2 then i + 2 else i + 1) vs
theorem zargs_loc : ∀ (As : List zV) (i : Nat), lv_args i (As.map zcv) = zloc (zargs i As)
  | [], _ => rfl
  | v :: vs, i => by
    show (i, zcv v) :: lv_args (if (zcv v).category = 2 then i + 2 else i + 1) (vs.map zcv) = _
    rw [zcat_cv, zargs_loc vs]
    rfl
def zsum (As : List zV) : Nat := (As.map zcat).sum
theorem zsum_sl : ∀ (As : List zV), (lg_sl (As.map zcv)).length = zsum As
  | [] => rfl
  | v :: vs => by
    have ih := zsum_sl vs
    unfold lg_sl zsum at *
    rw [List.map_cons, List.flatMap_cons, List.length_append, ih, List.map_cons, List.sum_cons, zcat_cv]
    congr 1
    rcases v with z | z | z <;> rfl
/-- from its entry on -/
def zXM (D : va_G) (M : zM) (d k n : Nat) (As : List zV) (ty : zT) (sz : Nat) (h : zH) (Q : zQ) : Prop := zX D M d k n 0 (zargs 0 As) [] ty sz h Q
/-- what the tables say of a method -/
def zMT (M : zM) (nA : Nat) : Prop := Cond.code M.1 M.2.1 M.2.2.1 M.2.2.2.1 ∈ zTB ∧ Cond.initialized M.1.cls ∈ zTB ∧ (M.1.cls ≠ "java/lang/invoke/MethodHandle" ∧ M.1.cls ≠ "java/lang/invoke/VarHandle") ∧ (parseMethodDescriptor M.1.desc).map (fun d => d.parameters.length) = some nA ∧ M.2.2.1 ≤ 41 ∧ plainName M.1.cls = true ∧ M.2.2.2.2 = none
theorem zTB_good {w : Cond} (hw : w ∈ zTB) : goodWord w = true := (List.mem_filter.mp hw).2
def zws (M : zM) : List Cond := Cond.code M.1 M.2.1 M.2.2.1 M.2.2.2.1 :: zTB
theorem zws_good {nA : Nat} (hM : zMT M nA) : GoodIn zTB (zws M) := by
  intro w hw
  rcases List.mem_cons.mp hw with e | hw
  · subst e
    exact ⟨hM.1, good_of_word (zTB_good hM.1)⟩
  · exact ⟨hw, good_of_word (zTB_good hw)⟩
def zrm (d k n : Nat) : Room := { frames := d, cells := k, slots := n, locals := 60 * d }
theorem zP_blind (As : List Value) (D : va_G) (ty : zT) (sz : Nat) (h : zH) : FrameBlind (va_Pc As (zP D ty sz h)) := by
  intro a U g mk q
  obtain ⟨q0, q1, q2, q3, q4, q5, q6⟩ := q
  have hal : Vm.Alike U.vm (U.calling g mk a).vm := Vm.Alike.refl U.vm
  obtain ⟨q6, q7⟩ := q6
  refine ⟨q0, q1, q2, va_K.moved hal q3, va_AO.moved hal q4, va_AO.moved hal q5, va_AO.moved hal q6, fun w hw => ?_⟩
  have h1 := q7 w hw
  have h2 := (List.mem_filter.mp hw).2
  cases w <;> first | exact va_Nw.same rfl rfl h1 | (simp [zisN] at h2)
theorem z_met {nA : Nat} {As : List zV} (hX : zXM D M d k n As ty sz h Q) (hM : zMT M nA) (hL : zsum As ≤ M.2.2.1) (l : Launch) : Met l M.1 (zws M) (zrm d k n) (va_Pc (As.map zcv) (zP D ty sz h)) (zQc D Q (zA ty sz)) k n (zA ty sz) := by
  refine Met.ofW (cc := M.2.1) (maxL := M.2.2.1) (ret := M.2.2.2.1) hM.2.2.2.2.2.1 rfl ?_
  intro p e s m args below meth c s₁ B hml hv
  obtain ⟨rfl, hW, hsz, hK, hAO⟩ := hv
  have hx := B.exec
  have hb := B.bytes
  have hr := B.returns
  have hts := atoms_spec (ws := zws M) B.pre
  have hown : s.vm.findClass M.1.cls = some m.cls := findClass_of_methodNamed B.named
  have hlocks := B.notSynchronized
  have hin : meth.name = M.1.name := (name_of_methodNamed B.named B.method).1
  have hl := lv_entry (As.map zcv) (n := M.2.2.1) (by rw [zsum_sl]; exact hL)
  rw [lg_entry_eq]
  rw [zargs_loc] at hl
  generalize (lg_sl (As.map zcv) ++ List.replicate (M.2.2.1 - (lg_sl (As.map zcv)).length) Slot.unset).toArray = ls at hl ⊢
  refine hX p l e _ s m _ below meth c s.heap [] ls 0 0 k n (zA ty sz) s.heap _ ?_ ⟨⟨hW, hsz, fun a q ht => Or.inl ⟨a, q, ht, rfl⟩, va_S.rf⟩, hl, Nat.le_of_eq (Nat.zero_add k), Nat.le_of_eq (Nat.zero_add n)⟩ ?_
  · refine ⟨hx, hb, hr, hml, hown, fun w hw => hts w (List.mem_cons_of_mem _ hw), hlocks, hK, hin, fun q hq => Or.inr (by omega), Nat.le_refl _, Nat.le_refl _, Nat.le_refl _, Nat.le_refl _, fun b L xs hs => ?_, hAO⟩
    have h0 := hM.2.2.2.2.2.2
    rw [hs] at h0
    cases h0
  · intro v ty' sz' h' H' locs' ls' pc' hq hO hrt
    obtain ⟨hW', hsz', hA', hS'⟩ := hO
    have hend : ∀ t : State, t.heap = H' → zQc D Q (zA ty sz) (As.map zcv).toArray s (.returned (v.map zcv)) t := by
      intro t ht
      refine ⟨⟨v, ty', sz', h', rfl, hq, by rw [ht]; exact hW', by rw [ht]; exact hsz', hA'⟩, hS'.F ht⟩
    rcases v with _ | z | z | z
    · rw [hrt.2] at hr
      exact W.vret hx hb hr (fun t ht hW => hend t ht) hS'.2.2 hrt.1
    · rcases hrt with ⟨h1, h2 | ⟨h2, hz⟩⟩
      · rw [h2] at hr
        exact W.iret hx hb hr (fun t ht hW => hend t ht) hS'.2.2 h1
      · rw [h2] at hr
        exact W.zret hx hb hr (by rcases hz with rfl | rfl <;> decide) (fun t ht hW => hend t ht) hS'.2.2 h1
    · rw [hrt.2] at hr
      exact W.lret hx hb hr (fun t ht hW => hend t ht) hS'.2.2 hrt.1
    · obtain ⟨h1, C, h2⟩ := hrt
      rw [h2] at hr
      refine W.aret hx hb hr (Or.inl ⟨C, rfl⟩) ?_ (fun t ht hW => hend t ht) hS'.2.2 h1
      show va_rf (zrf z) = .null ∨ ∃ a, va_rf (zrf z) = .ref a
      cases zrf z
      · exact Or.inl rfl
      · exact Or.inr ⟨_, rfl⟩
section BACK
variable {p : Program} {l : Launch} {e : Env} {R : Room} {s : State} {m : MethodId} {args : Array Value} {below : List Frame} {meth : Method} {c : Code} {H : Heap} {locs : List Loc} {cells slots : Nat} {G : State → Prop}
theorem z_back {Q' : zQ} {ls : Array Slot} {rest st0 : List Value} {a : Array Value} {A0 A1 : Nat → Prop} {H0 : Heap} {mc ms : Nat} {free : Addr → Prop} (hr : va_Run p l e R s m args below meth c H locs cells slots mc ms (F0 m pc ls st0) rest (zQc D Q' A1 a) free) (hS : va_S A0 H0 H locs) (hA : ∀ q, A1 q → A0 q) (hf : ∀ q, free q → A0 q)
    (kk : ∀ v ty' sz' h' (H1 : Heap) (locs1 : List Loc), Q' v ty' sz' h' → zO D ty' sz' h' H1 locs1 A0 H0 → W p l e R s m args below meth c H1 locs1 (cells + mc) (slots + ms) G (F0 m (pc + 3) ls (v.toList.map zcv ++ rest))) : W p l e R s m args below meth c H locs cells slots G (F0 m pc ls st0) := by
  intro T hT X
  obtain ⟨v, st₀, t, T', L, h0, X', hL, e1, e2, ⟨⟨u, ty', sz', h', hv, hq, hw, hsz, hcov⟩, hz, hk⟩, st⟩ := hr T hT X
  cases hv
  rw [h0] at hz hk
  have hS1 : va_S A0 H0 T'.heap (locs ++ L) := ⟨Nat.le_trans hS.1 (by rw [e1]; exact hz), fun q h1 h2 => by rw [e1, hk q (Nat.lt_of_lt_of_le h1 hS.1) (fun z => h2 (hA q z))]; exact hS.2.1 q h1 h2, fun q hq => by
      rcases List.mem_append.mp hq with h | h
      · exact hS.2.2 q h
      · exact hf _ (hL q h)⟩
  obtain ⟨t2, a1, b1⟩ := kk u ty' sz' h' T'.heap (locs ++ L) hq ⟨by rw [e1]; exact hw, by rw [e1]; exact hsz, fun a x hx => hA _ (hcov a x hx), hS1⟩ T' rfl X'
  refine ⟨t2, st t2 ?_, b1⟩
  have eo : (u.map zcv).toList ++ rest = u.toList.map zcv ++ rest := by cases u <;> rfl
  rw [eo]
  exact a1
end BACK
/-- the link of a call -/
def zLK (M : zM) (idx : Nat) (M' : zM) : Prop := Cond.methodLink M.1.cls idx M'.1 ∈ zTB ∨ ∃ host, Cond.methodLinkNest M.1.cls idx M'.1 host ∈ zNL
def zMV (M : zM) (nA : Nat) : Prop := zMT M nA ∧ Cond.instanceMethod M.1 ∈ zTB ∧ Cond.selects M.1.cls M.1 M.1 ∈ zTB
def zMS (M : zM) (nA : Nat) : Prop := zMT M nA ∧ Cond.static M.1 ∈ zTB
def zMI (M : zM) (nA : Nat) : Prop := zMT M nA ∧ Cond.instanceMethod M.1 ∈ zTB ∧ M.1.name = "<init>" ∧ M.2.2.2.1 = none
theorem z_sumc (st : List zV) : ((st.map zcv).map fun v => v.category).sum = zsum st := by
  unfold zsum
  rw [List.map_map]
  congr 1
  apply List.map_congr_left
  intro v _
  exact zcat_cv v
theorem z_cov {H : Heap} {locs : List Loc} {A : Nat → Prop} {H0 : Heap} (hO : zO D ty sz h H locs A H0) (hAll : ∀ q, H0.size ≤ q → A q) : ∀ q, zA ty sz q → A q := by
  intro q hq
  rcases hq with ⟨a, x, ht, rfl⟩ | hq
  · exact hO.2.2.1 a x ht
  · exact hAll q (Nat.le_trans hO.2.2.2.1 (by rw [hO.2.1]; exact hq))
theorem z_pre {s : State} {H : Heap} {locs : List Loc} {A : Nat → Prop} {H0 : Heap} {As : List Value} (hO : zO D ty sz h H locs A H0) (hK : va_K D zC (ztys D) s) (hAO : zAO s) : ∀ U : State, U.heap = H → s.WarmedH U.vm → va_Pc As (zP D ty sz h) As.toArray U := by
  intro U hU hW
  exact ⟨rfl, by rw [hU]; exact hO.1, by rw [hU]; exact hO.2.1, va_K.moved hW.alike hK, zAO_warm hW hAO⟩

theorem x_invV0 {idx k' n' : Nat} {r : Int} {As : List zV} {Q' : zQ} (hd : decode M.2.1 pc = .ok (.invokevirtual idx, 3)) (hlk : zLK M idx M') (hM : zMV M' As.length) (hr : ∃ ci N fz q, ty r = some (ci, N, fz) ∧ ci < 8 ∧ zC[ci]? = some q ∧ q.1 = M'.1.cls) (hst : zsum st ≤ 8) (hla : zsum (rV r :: As) ≤ M'.2.2.1) (hb : zXM D M' d k' n' (rV r :: As) ty sz h Q') (kk : ∀ v ty' sz' h', Q' v ty' sz' h' → zX D M (d + 1) k n (pc + 3) L (v.toList ++ st) ty' sz' h' Q) : zX D M (d + 1) (k + k') (n + n') pc L (As.reverse ++ rV r :: st) ty sz h Q := by
  intro p l e R s m args below meth c H locs ls cells slots mc ms A H0 G S Y hret
  have Y0 := Y
  obtain ⟨hO, hL, hk1, hk2⟩ := Y
  have hts := S.2.2.2.2.2.1
  have hK := S.2.2.2.2.2.2.2.1
  have hAO := S.2.2.2.2.2.2.2.2.2.2.2.2.2.2.2
  obtain ⟨ci, N, fz, q, htr, h8, hqc, hqn⟩ := hr
  obtain ⟨h0, hcr⟩ := hO.1 r ci N fz htr
  obtain ⟨-, cellB, g1, g2, g3, -⟩ := z_obj hcr h8 hqc
  have hrecv : ∃ cellB : Cell, H[r.toNat]? = some cellB ∧ cellB.vm.isStatics = false ∧ s.vm.findClass M'.1.cls = some cellB.cls := ⟨cellB, g1, by rw [g3]; rfl, by rw [g2, ← hqn]; exact (hK.1 ci q hqc).2.1⟩
  have hcov := z_cov hO S.2.2.2.2.2.2.2.2.2.1
  have hdd : d + 1 ≤ R.frames := S.2.2.2.2.2.2.2.2.2.2.1
  have hdl : 60 * (d + 1) ≤ R.locals := S.2.2.2.2.2.2.2.2.2.2.2.1
  have hcc : mc ≤ R.cells := S.2.2.2.2.2.2.2.2.2.2.2.2.1
  have hcs : ms ≤ R.slots := S.2.2.2.2.2.2.2.2.2.2.2.2.2.1
  have hgl := zws_good hM.1
  have h41 := hM.1.2.2.2.2.1
  have hrest : 2 * (F0 m pc ls (st.map zcv)).monitorRoom + ((st.map zcv).map fun v => v.category).sum ≤ 8 := lv_room (by rw [z_sumc]; exact hst)
  have hMet := z_met hb hM.1 hla l
  have fix : CallFix p m c M.2.1 M.2.2.1 s args zTB M.1.cls := ⟨S.1, S.2.1, S.2.2.2.1, S.2.2.2.2.1, hts⟩
  have kkk : ∀ v ty' sz' h' (H1 : Heap) (locs1 : List Loc), Q' v ty' sz' h' → zO D ty' sz' h' H1 locs1 A H0 → W p l e R s m args below meth c H1 locs1 (cells + k') (slots + n') G (F0 m (pc + 3) ls (v.toList.map zcv ++ st.map zcv)) := by
    intro v ty' sz' h' H1 locs1 hq hO1
    have := kk v ty' sz' h' hq p l e R s m args below meth c H1 locs1 ls (cells + k') (slots + n') mc ms A H0 G S ⟨hO1, hL, by omega, by omega⟩ hret
    rw [List.map_append] at this
    exact this
  show W p l e R s m args below meth c H locs cells slots G (F0 m pc ls ((As.reverse ++ rV r :: st).map zcv))
  rw [List.map_append, List.map_cons, List.map_reverse, zcv_r h0]
  have hMet2 : Met l M'.1 (zws M') (zrm d k' n') (va_Pc (Value.ref r.toNat :: As.map zcv) (zP D ty sz h)) (zQc D Q' (zA ty sz)) k' n' (zA ty sz) := by
    rw [← zcv_r h0]; exact hMet
  rcases hlk with hlk | ⟨host, hlk⟩
  · exact z_back (va_runV (C := M'.1.cls) (As := As.map zcv) (rest := st.map zcv) fix hMet2 ⟨callB_of As.length hts hgl rfl rfl rfl (hts _ hM.1.2.1) (hts _ hlk) ⟨hM.1.2.2.1.1, hM.1.2.2.1.2, hM.1.2.2.2.1⟩ ⟨hdd, by show 8 + (M'.2.2.1 + 11) + 60 * d ≤ R.locals; omega⟩, hts _ hM.2.1, hts _ hM.2.2⟩ ⟨zP_blind _ D ty sz h, hrecv, z_pre hO hK hAO⟩ rfl (by rw [List.length_map]) hL.1 rfl hrest hd ⟨by omega, by omega⟩) hO.2.2.2 hcov hcov kkk
  · exact z_back (va_runVN (C := M'.1.cls) (host := host) (As := As.map zcv) (rest := st.map zcv) fix hMet2 ⟨va_cnB As.length hts hgl rfl rfl rfl (hAO.2.2.2 _ hlk) (hts _ hM.1.2.1) ⟨hM.1.2.2.1.1, hM.1.2.2.1.2, hM.1.2.2.2.1⟩ ⟨hdd, by show 8 + (M'.2.2.1 + 11) + 60 * d ≤ R.locals; omega⟩, hts _ hM.2.1, hts _ hM.2.2⟩ ⟨zP_blind _ D ty sz h, hrecv, z_pre hO hK hAO⟩ rfl (by rw [List.length_map]) hL.1 rfl hrest hd ⟨by omega, by omega⟩) hO.2.2.2 hcov hcov kkk
theorem x_invS0 {idx k' n' : Nat} {As : List zV} {Q' : zQ} (hd : decode M.2.1 pc = .ok (.invokestatic idx, 3)) (hlk : zLK M idx M') (hM : zMS M' As.length) (hst : zsum st ≤ 8) (hla : zsum As ≤ M'.2.2.1) (hb : zXM D M' d k' n' As ty sz h Q') (kk : ∀ v ty' sz' h', Q' v ty' sz' h' → zX D M (d + 1) k n (pc + 3) L (v.toList ++ st) ty' sz' h' Q) : zX D M (d + 1) (k + k') (n + n') pc L (As.reverse ++ st) ty sz h Q := by
  intro p l e R s m args below meth c H locs ls cells slots mc ms A H0 G S Y hret
  have Y0 := Y
  obtain ⟨hO, hL, hk1, hk2⟩ := Y
  have hts := S.2.2.2.2.2.1
  have hK := S.2.2.2.2.2.2.2.1
  have hAO := S.2.2.2.2.2.2.2.2.2.2.2.2.2.2.2
  have hcov := z_cov hO S.2.2.2.2.2.2.2.2.2.1
  have hdd : d + 1 ≤ R.frames := S.2.2.2.2.2.2.2.2.2.2.1
  have hdl : 60 * (d + 1) ≤ R.locals := S.2.2.2.2.2.2.2.2.2.2.2.1
  have hcc : mc ≤ R.cells := S.2.2.2.2.2.2.2.2.2.2.2.2.1
  have hcs : ms ≤ R.slots := S.2.2.2.2.2.2.2.2.2.2.2.2.2.1
  have hgl := zws_good hM.1
  have h41 := hM.1.2.2.2.2.1
  have hrest : 2 * (F0 m pc ls (st.map zcv)).monitorRoom + ((st.map zcv).map fun v => v.category).sum ≤ 8 := lv_room (by rw [z_sumc]; exact hst)
  have hMet := z_met hb hM.1 hla l
  have fix : CallFix p m c M.2.1 M.2.2.1 s args zTB M.1.cls := ⟨S.1, S.2.1, S.2.2.2.1, S.2.2.2.2.1, hts⟩
  have kkk : ∀ v ty' sz' h' (H1 : Heap) (locs1 : List Loc), Q' v ty' sz' h' → zO D ty' sz' h' H1 locs1 A H0 → W p l e R s m args below meth c H1 locs1 (cells + k') (slots + n') G (F0 m (pc + 3) ls (v.toList.map zcv ++ st.map zcv)) := by
    intro v ty' sz' h' H1 locs1 hq hO1
    have := kk v ty' sz' h' hq p l e R s m args below meth c H1 locs1 ls (cells + k') (slots + n') mc ms A H0 G S ⟨hO1, hL, by omega, by omega⟩ hret
    rw [List.map_append] at this
    exact this
  show W p l e R s m args below meth c H locs cells slots G (F0 m pc ls ((As.reverse ++ st).map zcv))
  rw [List.map_append, List.map_reverse]
  rcases hlk with hlk | ⟨host, hlk⟩
  · exact z_back (va_runS (As := As.map zcv) (rest := st.map zcv) fix hMet ⟨callB_of As.length hts hgl rfl rfl rfl (hts _ hM.1.2.1) (hts _ hlk) ⟨hM.1.2.2.1.1, hM.1.2.2.1.2, hM.1.2.2.2.1⟩ ⟨hdd, by show 8 + (M'.2.2.1 + 11) + 60 * d ≤ R.locals; omega⟩, hts _ hM.2⟩ ⟨zP_blind _ D ty sz h, z_pre hO hK hAO⟩ rfl (by rw [List.length_map]) hL.1 rfl hrest hd ⟨by omega, by omega⟩) hO.2.2.2 hcov hcov kkk
  · exact z_back (va_runSN (host := host) (As := As.map zcv) (rest := st.map zcv) fix hMet ⟨va_cnB As.length hts hgl rfl rfl rfl (hAO.2.2.2 _ hlk) (hts _ hM.1.2.1) ⟨hM.1.2.2.1.1, hM.1.2.2.1.2, hM.1.2.2.2.1⟩ ⟨hdd, by show 8 + (M'.2.2.1 + 11) + 60 * d ≤ R.locals; omega⟩, hts _ hM.2, trivial⟩ ⟨zP_blind _ D ty sz h, z_pre hO hK hAO⟩ rfl (by rw [List.length_map]) hL.1 rfl hrest hd ⟨by omega, by omega⟩) hO.2.2.2 hcov hcov kkk
theorem x_invI0 {idx k' n' : Nat} {r : Int} {As : List zV} {Q' : zQ} (hd : decode M.2.1 pc = .ok (.invokespecial idx, 3)) (hlk : zLK M idx M') (hM : zMI M' As.length) (h0 : 0 ≤ r) (hst : zsum st ≤ 8) (hla : zsum (rV r :: As) ≤ M'.2.2.1) (hb : zXM D M' d k' n' (rV r :: As) ty sz h Q') (kk : ∀ v ty' sz' h', Q' v ty' sz' h' → zX D M (d + 1) k n (pc + 3) L (v.toList ++ st) ty' sz' h' Q) : zX D M (d + 1) (k + k') (n + n') pc L (As.reverse ++ rV r :: st) ty sz h Q := by
  intro p l e R s m args below meth c H locs ls cells slots mc ms A H0 G S Y hret
  have Y0 := Y
  obtain ⟨hO, hL, hk1, hk2⟩ := Y
  have hts := S.2.2.2.2.2.1
  have hK := S.2.2.2.2.2.2.2.1
  have hAO := S.2.2.2.2.2.2.2.2.2.2.2.2.2.2.2
  have hcov := z_cov hO S.2.2.2.2.2.2.2.2.2.1
  have hdd : d + 1 ≤ R.frames := S.2.2.2.2.2.2.2.2.2.2.1
  have hdl : 60 * (d + 1) ≤ R.locals := S.2.2.2.2.2.2.2.2.2.2.2.1
  have hcc : mc ≤ R.cells := S.2.2.2.2.2.2.2.2.2.2.2.2.1
  have hcs : ms ≤ R.slots := S.2.2.2.2.2.2.2.2.2.2.2.2.2.1
  have hgl := zws_good hM.1
  have h41 := hM.1.2.2.2.2.1
  have hrest : 2 * (F0 m pc ls (st.map zcv)).monitorRoom + ((st.map zcv).map fun v => v.category).sum ≤ 8 := lv_room (by rw [z_sumc]; exact hst)
  have hMet := z_met hb hM.1 hla l
  have fix : CallFix p m c M.2.1 M.2.2.1 s args zTB M.1.cls := ⟨S.1, S.2.1, S.2.2.2.1, S.2.2.2.2.1, hts⟩
  have kkk : ∀ v ty' sz' h' (H1 : Heap) (locs1 : List Loc), Q' v ty' sz' h' → zO D ty' sz' h' H1 locs1 A H0 → W p l e R s m args below meth c H1 locs1 (cells + k') (slots + n') G (F0 m (pc + 3) ls (v.toList.map zcv ++ st.map zcv)) := by
    intro v ty' sz' h' H1 locs1 hq hO1
    have := kk v ty' sz' h' hq p l e R s m args below meth c H1 locs1 ls (cells + k') (slots + n') mc ms A H0 G S ⟨hO1, hL, by omega, by omega⟩ hret
    rw [List.map_append] at this
    exact this
  show W p l e R s m args below meth c H locs cells slots G (F0 m pc ls ((As.reverse ++ rV r :: st).map zcv))
  rw [List.map_append, List.map_cons, List.map_reverse, zcv_r h0]
  have hMet2 : Met l M'.1 (zws M') (zrm d k' n') (va_Pc (Value.ref r.toNat :: As.map zcv) (zP D ty sz h)) (zQc D Q' (zA ty sz)) k' n' (zA ty sz) := by
    rw [← zcv_r h0]; exact hMet
  obtain ⟨hMT, hMi, hMn, hMr⟩ := hM
  rcases hlk with hlk | ⟨host, hlk⟩
  · exact z_back (va_runI (As := As.map zcv) (rest := st.map zcv) fix hMet2 ⟨callB_of (ret := none) As.length hts hgl (by unfold zws; rw [hMr]) rfl rfl (hts _ hMT.2.1) (hts _ hlk) ⟨hMT.2.2.1.1, hMT.2.2.1.2, hMT.2.2.2.1⟩ ⟨hdd, by show 8 + (M'.2.2.1 + 11) + 60 * d ≤ R.locals; omega⟩, hMn, hts _ hMi⟩ ⟨zP_blind _ D ty sz h, z_pre hO hK hAO⟩ rfl (by rw [List.length_map]) hL.1 rfl hrest hd ⟨by omega, by omega⟩) hO.2.2.2 hcov hcov kkk
  · exact z_back (va_runIN (host := host) (As := As.map zcv) (rest := st.map zcv) fix hMet2 ⟨va_cnB (ret := none) As.length hts hgl (by unfold zws; rw [hMr]) rfl rfl (hAO.2.2.2 _ hlk) (hts _ hMT.2.1) ⟨hMT.2.2.1.1, hMT.2.2.1.2, hMT.2.2.2.1⟩ ⟨hdd, by show 8 + (M'.2.2.1 + 11) + 60 * d ≤ R.locals; omega⟩, hMn, hts _ hMi⟩ ⟨zP_blind _ D ty sz h, z_pre hO hK hAO⟩ rfl (by rw [List.length_map]) hL.1 rfl hrest hd ⟨by omega, by omega⟩) hO.2.2.2 hcov hcov kkk
theorem x_objInit {idx : Nat} {r : Int} (hd : decode M.2.1 pc = .ok (.invokespecial idx, 3)) (hlk : Cond.methodLink M.1.cls idx objectInit ∈ zTB) (hin : Cond.instanceMethod objectInit ∈ zTB) (hco : Cond.code objectInit ⟨#[0xb1]⟩ 1 none ∈ zTB) (h0 : 0 ≤ r) (hst : zsum st ≤ 8) (kk : zX D M (d + 1) k n (pc + 3) L st ty sz h Q) : zX D M (d + 1) k n pc L (rV r :: st) ty sz h Q := by
  intro p l e R s m args below meth c H locs ls cells slots mc ms A H0 G S Y hret
  have K := kk p l e R s m args below meth c H locs ls cells slots mc ms A H0 G S Y hret
  have hts := S.2.2.2.2.2.1
  have hdd : d + 1 ≤ R.frames := S.2.2.2.2.2.2.2.2.2.2.1
  have hdl : 60 * (d + 1) ≤ R.locals := S.2.2.2.2.2.2.2.2.2.2.2.1
  show W p l e R s m args below meth c H locs cells slots G (F0 m pc ls (zcv (rV r) :: st.map zcv))
  rw [zcv_r h0]
  refine W.objInit S.1 S.2.1 S.2.2.2.2.1 (hts _ hlk) (hts _ hin) (hts _ hco) rfl (by rw [S.2.2.2.1]; exact Y.2.1.1) rfl hd (by omega) ?_ K
  show 2 * 0 + ((st.map zcv).map fun v => v.category).sum + 12 ≤ R.locals
  rw [z_sumc]
  omega
end ZCALL
end
section
set_option maxRecDepth 100000 in
theorem iX0 : ∀ w ∈ u_ws RX0 TX0 5, w ∈ zTB := by decide +kernel
set_option maxRecDepth 100000 in
theorem iX1 : ∀ w ∈ u_ws RX1 TX1 1, w ∈ zTB := by decide +kernel
set_option maxRecDepth 100000 in
theorem iX2 : ∀ w ∈ u_ws RX2 TX2 6, w ∈ zTB := by decide +kernel
set_option maxRecDepth 100000 in
theorem iX3 : ∀ w ∈ u_ws RX3 TX3 15, w ∈ zTB := by decide +kernel
set_option maxRecDepth 100000 in
theorem iX4 : ∀ w ∈ u_ws RX4 TX4 2, w ∈ zTB := by decide +kernel
set_option maxRecDepth 100000 in
theorem iX5 : ∀ w ∈ u_ws RX5 TX5 7, w ∈ zTB := by decide +kernel
set_option maxRecDepth 100000 in
theorem iX6 : ∀ w ∈ u_ws RX6 TX6 8, w ∈ zTB := by decide +kernel
set_option maxRecDepth 100000 in
theorem iX7 : ∀ w ∈ u_ws RX7 TX7 31, w ∈ zTB := by decide +kernel
theorem tini_RL : Cond.initialized RL ∈ zTB := List.mem_filter.mpr ⟨List.mem_of_getElem? (i := 56) (by decide +kernel), by decide +kernel⟩
theorem tini_RX6 : Cond.initialized RX6 ∈ zTB := List.mem_filter.mpr ⟨List.mem_of_getElem? (i := 57) (by decide +kernel), by decide +kernel⟩
theorem tini_RX5 : Cond.initialized RX5 ∈ zTB := List.mem_filter.mpr ⟨List.mem_of_getElem? (i := 58) (by decide +kernel), by decide +kernel⟩
theorem tini_RX4 : Cond.initialized RX4 ∈ zTB := List.mem_filter.mpr ⟨List.mem_of_getElem? (i := 59) (by decide +kernel), by decide +kernel⟩
theorem tini_RX0 : Cond.initialized RX0 ∈ zTB := List.mem_filter.mpr ⟨List.mem_of_getElem? (i := 60) (by decide +kernel), by decide +kernel⟩
theorem tini_RX1 : Cond.initialized RX1 ∈ zTB := List.mem_filter.mpr ⟨List.mem_of_getElem? (i := 61) (by decide +kernel), by decide +kernel⟩
theorem tini_RX3 : Cond.initialized RX3 ∈ zTB := List.mem_filter.mpr ⟨List.mem_of_getElem? (i := 62) (by decide +kernel), by decide +kernel⟩
theorem tini_RX7 : Cond.initialized RX7 ∈ zTB := List.mem_filter.mpr ⟨List.mem_of_getElem? (i := 63) (by decide +kernel), by decide +kernel⟩
theorem tini_RX2 : Cond.initialized RX2 ∈ zTB := List.mem_filter.mpr ⟨List.mem_of_getElem? (i := 64) (by decide +kernel), by decide +kernel⟩
theorem tini_RJ6 : Cond.initialized RJ6 ∈ zTB := List.mem_filter.mpr ⟨List.mem_of_getElem? (i := 65) (by decide +kernel), by decide +kernel⟩
theorem tini_RJ9 : Cond.initialized RJ9 ∈ zTB := List.mem_filter.mpr ⟨List.mem_of_getElem? (i := 66) (by decide +kernel), by decide +kernel⟩
theorem tini_RJ0 : Cond.initialized RJ0 ∈ zTB := List.mem_filter.mpr ⟨List.mem_of_getElem? (i := 71) (by decide +kernel), by decide +kernel⟩
abbrev mJ6_bitCount_0f7a4 : zM := (yJ6_bitCount_0f7a4, cJ6_bitCount_0f7a4, 1, (some (.int)), none)
theorem tcode_J6_bitCount_0f7a4 : Cond.code yJ6_bitCount_0f7a4 cJ6_bitCount_0f7a4 1 (some (.int)) ∈ zTB := List.mem_filter.mpr ⟨List.mem_of_getElem? (i := 438) (by decide +kernel), by decide +kernel⟩
theorem tm_J6_bitCount_0f7a4 : zMT mJ6_bitCount_0f7a4 1 := ⟨tcode_J6_bitCount_0f7a4, tini_RJ6, ⟨by decide +kernel, by decide +kernel⟩, by decide +kernel, by decide, by decide +kernel, rfl⟩
theorem tms_J6_bitCount_0f7a4 : zMS mJ6_bitCount_0f7a4 1 := ⟨tm_J6_bitCount_0f7a4, List.mem_filter.mpr ⟨List.mem_of_getElem? (i := 437) (by decide +kernel), by decide +kernel⟩⟩
abbrev mJ9_max_f86c9 : zM := (yJ9_max_f86c9, cJ9_max_f86c9, 4, (some (.long)), none)
theorem tcode_J9_max_f86c9 : Cond.code yJ9_max_f86c9 cJ9_max_f86c9 4 (some (.long)) ∈ zTB := List.mem_filter.mpr ⟨List.mem_of_getElem? (i := 483) (by decide +kernel), by decide +kernel⟩
theorem tstat_J9_max_f86c9 : Cond.static yJ9_max_f86c9 ∈ zTB := List.mem_filter.mpr ⟨List.mem_of_getElem? (i := 482) (by decide +kernel), by decide +kernel⟩
abbrev mX0_add : zM := (yX0_add, cX0_add, 5, none, none)
theorem tcode_X0_add : Cond.code yX0_add cX0_add 5 none ∈ zTB := List.mem_filter.mpr ⟨List.mem_of_getElem? (i := 496) (by decide +kernel), by decide +kernel⟩
theorem tm_X0_add : zMT mX0_add 3 := ⟨tcode_X0_add, tini_RX0, ⟨by decide +kernel, by decide +kernel⟩, by decide +kernel, by decide, by decide +kernel, rfl⟩
theorem tmv_X0_add : zMV mX0_add 3 := ⟨tm_X0_add, List.mem_filter.mpr ⟨List.mem_of_getElem? (i := 495) (by decide +kernel), by decide +kernel⟩, List.mem_filter.mpr ⟨List.mem_of_getElem? (i := 15) (by decide +kernel), by decide +kernel⟩⟩
abbrev mX0_addParts : zM := (yX0_addParts, cX0_addParts, 8, none, none)
theorem tcode_X0_addParts : Cond.code yX0_addParts cX0_addParts 8 none ∈ zTB := List.mem_filter.mpr ⟨List.mem_of_getElem? (i := 491) (by decide +kernel), by decide +kernel⟩
theorem tm_X0_addParts : zMT mX0_addParts 4 := ⟨tcode_X0_addParts, tini_RX0, ⟨by decide +kernel, by decide +kernel⟩, by decide +kernel, by decide, by decide +kernel, rfl⟩
theorem tmv_X0_addParts : zMV mX0_addParts 4 := ⟨tm_X0_addParts, List.mem_filter.mpr ⟨List.mem_of_getElem? (i := 490) (by decide +kernel), by decide +kernel⟩, List.mem_filter.mpr ⟨List.mem_of_getElem? (i := 14) (by decide +kernel), by decide +kernel⟩⟩
abbrev mX0_init : zM := (yX0_init, cX0_init, 1, none, none)
theorem tcode_X0_init : Cond.code yX0_init cX0_init 1 none ∈ zTB := List.mem_filter.mpr ⟨List.mem_of_getElem? (i := 128) (by decide +kernel), by decide +kernel⟩
theorem tm_X0_init : zMT mX0_init 0 := ⟨tcode_X0_init, tini_RX0, ⟨by decide +kernel, by decide +kernel⟩, by decide +kernel, by decide, by decide +kernel, rfl⟩
theorem tmi_X0_init : zMI mX0_init 0 := ⟨tm_X0_init, List.mem_filter.mpr ⟨List.mem_of_getElem? (i := 127) (by decide +kernel), by decide +kernel⟩, rfl, rfl⟩
abbrev mX0_make : zM := (yX0_make, cX0_make, 7, none, none)
theorem tcode_X0_make : Cond.code yX0_make cX0_make 7 none ∈ zTB := List.mem_filter.mpr ⟨List.mem_of_getElem? (i := 461) (by decide +kernel), by decide +kernel⟩
theorem tm_X0_make : zMT mX0_make 4 := ⟨tcode_X0_make, tini_RX0, ⟨by decide +kernel, by decide +kernel⟩, by decide +kernel, by decide, by decide +kernel, rfl⟩
theorem tmv_X0_make : zMV mX0_make 4 := ⟨tm_X0_make, List.mem_filter.mpr ⟨List.mem_of_getElem? (i := 459) (by decide +kernel), by decide +kernel⟩, List.mem_filter.mpr ⟨List.mem_of_getElem? (i := 460) (by decide +kernel), by decide +kernel⟩⟩
abbrev mX0_tell : zM := (yX0_tell, cX0_tell, 3, (some (.int)), none)
theorem tcode_X0_tell : Cond.code yX0_tell cX0_tell 3 (some (.int)) ∈ zTB := List.mem_filter.mpr ⟨List.mem_of_getElem? (i := 513) (by decide +kernel), by decide +kernel⟩
theorem tm_X0_tell : zMT mX0_tell 2 := ⟨tcode_X0_tell, tini_RX0, ⟨by decide +kernel, by decide +kernel⟩, by decide +kernel, by decide, by decide +kernel, rfl⟩
theorem tmv_X0_tell : zMV mX0_tell 2 := ⟨tm_X0_tell, List.mem_filter.mpr ⟨List.mem_of_getElem? (i := 511) (by decide +kernel), by decide +kernel⟩, List.mem_filter.mpr ⟨List.mem_of_getElem? (i := 512) (by decide +kernel), by decide +kernel⟩⟩
abbrev mX1_clear : zM := (yX1_clear, cX1_clear, 3, none, none)
theorem tcode_X1_clear : Cond.code yX1_clear cX1_clear 3 none ∈ zTB := List.mem_filter.mpr ⟨List.mem_of_getElem? (i := 298) (by decide +kernel), by decide +kernel⟩
theorem tm_X1_clear : zMT mX1_clear 0 := ⟨tcode_X1_clear, tini_RX1, ⟨by decide +kernel, by decide +kernel⟩, by decide +kernel, by decide, by decide +kernel, rfl⟩
theorem tmv_X1_clear : zMV mX1_clear 0 := ⟨tm_X1_clear, List.mem_filter.mpr ⟨List.mem_of_getElem? (i := 296) (by decide +kernel), by decide +kernel⟩, List.mem_filter.mpr ⟨List.mem_of_getElem? (i := 297) (by decide +kernel), by decide +kernel⟩⟩
abbrev mX1_init : zM := (yX1_init, cX1_init, 2, none, none)
theorem tcode_X1_init : Cond.code yX1_init cX1_init 2 none ∈ zTB := List.mem_filter.mpr ⟨List.mem_of_getElem? (i := 155) (by decide +kernel), by decide +kernel⟩
theorem tm_X1_init : zMT mX1_init 0 := ⟨tcode_X1_init, tini_RX1, ⟨by decide +kernel, by decide +kernel⟩, by decide +kernel, by decide, by decide +kernel, rfl⟩
theorem tmi_X1_init : zMI mX1_init 0 := ⟨tm_X1_init, List.mem_filter.mpr ⟨List.mem_of_getElem? (i := 154) (by decide +kernel), by decide +kernel⟩, rfl, rfl⟩
abbrev mX1_place : zM := (yX1_place, cX1_place, 2, (some (.object "PostTariff$Kind")), none)
theorem tcode_X1_place : Cond.code yX1_place cX1_place 2 (some (.object "PostTariff$Kind")) ∈ zTB := List.mem_filter.mpr ⟨List.mem_of_getElem? (i := 346) (by decide +kernel), by decide +kernel⟩
theorem tm_X1_place : zMT mX1_place 1 := ⟨tcode_X1_place, tini_RX1, ⟨by decide +kernel, by decide +kernel⟩, by decide +kernel, by decide, by decide +kernel, rfl⟩
theorem tmv_X1_place : zMV mX1_place 1 := ⟨tm_X1_place, List.mem_filter.mpr ⟨List.mem_of_getElem? (i := 344) (by decide +kernel), by decide +kernel⟩, List.mem_filter.mpr ⟨List.mem_of_getElem? (i := 345) (by decide +kernel), by decide +kernel⟩⟩
abbrev mX2_has : zM := (yX2_has, cX2_has, 2, (some (.boolean)), none)
theorem tcode_X2_has : Cond.code yX2_has cX2_has 2 (some (.boolean)) ∈ zTB := List.mem_filter.mpr ⟨List.mem_of_getElem? (i := 473) (by decide +kernel), by decide +kernel⟩
theorem tm_X2_has : zMT mX2_has 1 := ⟨tcode_X2_has, tini_RX2, ⟨by decide +kernel, by decide +kernel⟩, by decide +kernel, by decide, by decide +kernel, rfl⟩
theorem tmv_X2_has : zMV mX2_has 1 := ⟨tm_X2_has, List.mem_filter.mpr ⟨List.mem_of_getElem? (i := 471) (by decide +kernel), by decide +kernel⟩, List.mem_filter.mpr ⟨List.mem_of_getElem? (i := 472) (by decide +kernel), by decide +kernel⟩⟩
abbrev mX2_init : zM := (yX2_init, cX2_init, 6, none, none)
theorem tcode_X2_init : Cond.code yX2_init cX2_init 6 none ∈ zTB := List.mem_filter.mpr ⟨List.mem_of_getElem? (i := 399) (by decide +kernel), by decide +kernel⟩
theorem tm_X2_init : zMT mX2_init 5 := ⟨tcode_X2_init, tini_RX2, ⟨by decide +kernel, by decide +kernel⟩, by decide +kernel, by decide, by decide +kernel, rfl⟩
theorem tmi_X2_init : zMI mX2_init 5 := ⟨tm_X2_init, List.mem_filter.mpr ⟨List.mem_of_getElem? (i := 398) (by decide +kernel), by decide +kernel⟩, rfl, rfl⟩
abbrev mX3_addStep : zM := (yX3_addStep, cX3_addStep, 3, none, none)
theorem tcode_X3_addStep : Cond.code yX3_addStep cX3_addStep 3 none ∈ zTB := List.mem_filter.mpr ⟨List.mem_of_getElem? (i := 376) (by decide +kernel), by decide +kernel⟩
theorem tm_X3_addStep : zMT mX3_addStep 2 := ⟨tcode_X3_addStep, tini_RX3, ⟨by decide +kernel, by decide +kernel⟩, by decide +kernel, by decide, by decide +kernel, rfl⟩
theorem tmv_X3_addStep : zMV mX3_addStep 2 := ⟨tm_X3_addStep, List.mem_filter.mpr ⟨List.mem_of_getElem? (i := 374) (by decide +kernel), by decide +kernel⟩, List.mem_filter.mpr ⟨List.mem_of_getElem? (i := 375) (by decide +kernel), by decide +kernel⟩⟩
abbrev mX3_clear : zM := (yX3_clear, cX3_clear, 1, none, none)
theorem tcode_X3_clear : Cond.code yX3_clear cX3_clear 1 none ∈ zTB := List.mem_filter.mpr ⟨List.mem_of_getElem? (i := 302) (by decide +kernel), by decide +kernel⟩
theorem tm_X3_clear : zMT mX3_clear 0 := ⟨tcode_X3_clear, tini_RX3, ⟨by decide +kernel, by decide +kernel⟩, by decide +kernel, by decide, by decide +kernel, rfl⟩
theorem tmv_X3_clear : zMV mX3_clear 0 := ⟨tm_X3_clear, List.mem_filter.mpr ⟨List.mem_of_getElem? (i := 300) (by decide +kernel), by decide +kernel⟩, List.mem_filter.mpr ⟨List.mem_of_getElem? (i := 301) (by decide +kernel), by decide +kernel⟩⟩
abbrev mX3_exclude : zM := (yX3_exclude, cX3_exclude, 3, none, none)
theorem tcode_X3_exclude : Cond.code yX3_exclude cX3_exclude 3 none ∈ zTB := List.mem_filter.mpr ⟨List.mem_of_getElem? (i := 381) (by decide +kernel), by decide +kernel⟩
theorem tm_X3_exclude : zMT mX3_exclude 2 := ⟨tcode_X3_exclude, tini_RX3, ⟨by decide +kernel, by decide +kernel⟩, by decide +kernel, by decide, by decide +kernel, rfl⟩
theorem tmv_X3_exclude : zMV mX3_exclude 2 := ⟨tm_X3_exclude, List.mem_filter.mpr ⟨List.mem_of_getElem? (i := 379) (by decide +kernel), by decide +kernel⟩, List.mem_filter.mpr ⟨List.mem_of_getElem? (i := 380) (by decide +kernel), by decide +kernel⟩⟩
abbrev mX3_excludes : zM := (yX3_excludes, cX3_excludes, 3, (some (.boolean)), none)
theorem tcode_X3_excludes : Cond.code yX3_excludes cX3_excludes 3 (some (.boolean)) ∈ zTB := List.mem_filter.mpr ⟨List.mem_of_getElem? (i := 359) (by decide +kernel), by decide +kernel⟩
theorem tm_X3_excludes : zMT mX3_excludes 2 := ⟨tcode_X3_excludes, tini_RX3, ⟨by decide +kernel, by decide +kernel⟩, by decide +kernel, by decide, by decide +kernel, rfl⟩
theorem tmv_X3_excludes : zMV mX3_excludes 2 := ⟨tm_X3_excludes, List.mem_filter.mpr ⟨List.mem_of_getElem? (i := 357) (by decide +kernel), by decide +kernel⟩, List.mem_filter.mpr ⟨List.mem_of_getElem? (i := 358) (by decide +kernel), by decide +kernel⟩⟩
abbrev mX3_hasSameLimitsAs : zM := (yX3_hasSameLimitsAs, cX3_hasSameLimitsAs, 2, (some (.boolean)), none)
theorem tcode_X3_hasSameLimitsAs : Cond.code yX3_hasSameLimitsAs cX3_hasSameLimitsAs 2 (some (.boolean)) ∈ zTB := List.mem_filter.mpr ⟨List.mem_of_getElem? (i := 532) (by decide +kernel), by decide +kernel⟩
theorem tm_X3_hasSameLimitsAs : zMT mX3_hasSameLimitsAs 1 := ⟨tcode_X3_hasSameLimitsAs, tini_RX3, ⟨by decide +kernel, by decide +kernel⟩, by decide +kernel, by decide, by decide +kernel, rfl⟩
theorem tmv_X3_hasSameLimitsAs : zMV mX3_hasSameLimitsAs 1 := ⟨tm_X3_hasSameLimitsAs, List.mem_filter.mpr ⟨List.mem_of_getElem? (i := 530) (by decide +kernel), by decide +kernel⟩, List.mem_filter.mpr ⟨List.mem_of_getElem? (i := 531) (by decide +kernel), by decide +kernel⟩⟩
abbrev mX3_hasSameNamesAs : zM := (yX3_hasSameNamesAs, cX3_hasSameNamesAs, 3, (some (.boolean)), none)
theorem tcode_X3_hasSameNamesAs : Cond.code yX3_hasSameNamesAs cX3_hasSameNamesAs 3 (some (.boolean)) ∈ zTB := List.mem_filter.mpr ⟨List.mem_of_getElem? (i := 528) (by decide +kernel), by decide +kernel⟩
theorem tm_X3_hasSameNamesAs : zMT mX3_hasSameNamesAs 1 := ⟨tcode_X3_hasSameNamesAs, tini_RX3, ⟨by decide +kernel, by decide +kernel⟩, by decide +kernel, by decide, by decide +kernel, rfl⟩
theorem tmv_X3_hasSameNamesAs : zMV mX3_hasSameNamesAs 1 := ⟨tm_X3_hasSameNamesAs, List.mem_filter.mpr ⟨List.mem_of_getElem? (i := 526) (by decide +kernel), by decide +kernel⟩, List.mem_filter.mpr ⟨List.mem_of_getElem? (i := 527) (by decide +kernel), by decide +kernel⟩⟩
abbrev mX3_hasSameStepsAs : zM := (yX3_hasSameStepsAs, cX3_hasSameStepsAs, 3, (some (.boolean)), none)
theorem tcode_X3_hasSameStepsAs : Cond.code yX3_hasSameStepsAs cX3_hasSameStepsAs 3 (some (.boolean)) ∈ zTB := List.mem_filter.mpr ⟨List.mem_of_getElem? (i := 524) (by decide +kernel), by decide +kernel⟩
theorem tm_X3_hasSameStepsAs : zMT mX3_hasSameStepsAs 1 := ⟨tcode_X3_hasSameStepsAs, tini_RX3, ⟨by decide +kernel, by decide +kernel⟩, by decide +kernel, by decide, by decide +kernel, rfl⟩
theorem tmv_X3_hasSameStepsAs : zMV mX3_hasSameStepsAs 1 := ⟨tm_X3_hasSameStepsAs, List.mem_filter.mpr ⟨List.mem_of_getElem? (i := 522) (by decide +kernel), by decide +kernel⟩, List.mem_filter.mpr ⟨List.mem_of_getElem? (i := 523) (by decide +kernel), by decide +kernel⟩⟩
abbrev mX3_init : zM := (yX3_init, cX3_init, 1, none, none)
theorem tcode_X3_init : Cond.code yX3_init cX3_init 1 none ∈ zTB := List.mem_filter.mpr ⟨List.mem_of_getElem? (i := 162) (by decide +kernel), by decide +kernel⟩
theorem tm_X3_init : zMT mX3_init 0 := ⟨tcode_X3_init, tini_RX3, ⟨by decide +kernel, by decide +kernel⟩, by decide +kernel, by decide, by decide +kernel, rfl⟩
theorem tmi_X3_init : zMI mX3_init 0 := ⟨tm_X3_init, List.mem_filter.mpr ⟨List.mem_of_getElem? (i := 161) (by decide +kernel), by decide +kernel⟩, rfl, rfl⟩
abbrev mX3_lastWeight : zM := (yX3_lastWeight, cX3_lastWeight, 1, (some (.int)), none)
theorem tcode_X3_lastWeight : Cond.code yX3_lastWeight cX3_lastWeight 1 (some (.int)) ∈ zTB := List.mem_filter.mpr ⟨List.mem_of_getElem? (i := 350) (by decide +kernel), by decide +kernel⟩
theorem tm_X3_lastWeight : zMT mX3_lastWeight 0 := ⟨tcode_X3_lastWeight, tini_RX3, ⟨by decide +kernel, by decide +kernel⟩, by decide +kernel, by decide, by decide +kernel, rfl⟩
theorem tmv_X3_lastWeight : zMV mX3_lastWeight 0 := ⟨tm_X3_lastWeight, List.mem_filter.mpr ⟨List.mem_of_getElem? (i := 348) (by decide +kernel), by decide +kernel⟩, List.mem_filter.mpr ⟨List.mem_of_getElem? (i := 349) (by decide +kernel), by decide +kernel⟩⟩
abbrev mX3_stepFor : zM := (yX3_stepFor, cX3_stepFor, 4, (some (.int)), none)
theorem tcode_X3_stepFor : Cond.code yX3_stepFor cX3_stepFor 4 (some (.int)) ∈ zTB := List.mem_filter.mpr ⟨List.mem_of_getElem? (i := 487) (by decide +kernel), by decide +kernel⟩
theorem tm_X3_stepFor : zMT mX3_stepFor 1 := ⟨tcode_X3_stepFor, tini_RX3, ⟨by decide +kernel, by decide +kernel⟩, by decide +kernel, by decide, by decide +kernel, rfl⟩
theorem tmv_X3_stepFor : zMV mX3_stepFor 1 := ⟨tm_X3_stepFor, List.mem_filter.mpr ⟨List.mem_of_getElem? (i := 485) (by decide +kernel), by decide +kernel⟩, List.mem_filter.mpr ⟨List.mem_of_getElem? (i := 486) (by decide +kernel), by decide +kernel⟩⟩
abbrev mX3_takes : zM := (yX3_takes, cX3_takes, 7, (some (.boolean)), none)
theorem tcode_X3_takes : Cond.code yX3_takes cX3_takes 7 (some (.boolean)) ∈ zTB := List.mem_filter.mpr ⟨List.mem_of_getElem? (i := 465) (by decide +kernel), by decide +kernel⟩
theorem tm_X3_takes : zMT mX3_takes 3 := ⟨tcode_X3_takes, tini_RX3, ⟨by decide +kernel, by decide +kernel⟩, by decide +kernel, by decide, by decide +kernel, rfl⟩
theorem tmv_X3_takes : zMV mX3_takes 3 := ⟨tm_X3_takes, List.mem_filter.mpr ⟨List.mem_of_getElem? (i := 463) (by decide +kernel), by decide +kernel⟩, List.mem_filter.mpr ⟨List.mem_of_getElem? (i := 464) (by decide +kernel), by decide +kernel⟩⟩
abbrev mX3_takesServices : zM := (yX3_takesServices, cX3_takesServices, 3, (some (.boolean)), none)
theorem tcode_X3_takesServices : Cond.code yX3_takesServices cX3_takesServices 3 (some (.boolean)) ∈ zTB := List.mem_filter.mpr ⟨List.mem_of_getElem? (i := 469) (by decide +kernel), by decide +kernel⟩
theorem tm_X3_takesServices : zMT mX3_takesServices 1 := ⟨tcode_X3_takesServices, tini_RX3, ⟨by decide +kernel, by decide +kernel⟩, by decide +kernel, by decide, by decide +kernel, rfl⟩
theorem tmv_X3_takesServices : zMV mX3_takesServices 1 := ⟨tm_X3_takesServices, List.mem_filter.mpr ⟨List.mem_of_getElem? (i := 467) (by decide +kernel), by decide +kernel⟩, List.mem_filter.mpr ⟨List.mem_of_getElem? (i := 468) (by decide +kernel), by decide +kernel⟩⟩
abbrev mX3_weightOf : zM := (yX3_weightOf, cX3_weightOf, 2, (some (.long)), none)
theorem tcode_X3_weightOf : Cond.code yX3_weightOf cX3_weightOf 2 (some (.long)) ∈ zTB := List.mem_filter.mpr ⟨List.mem_of_getElem? (i := 477) (by decide +kernel), by decide +kernel⟩
theorem tm_X3_weightOf : zMT mX3_weightOf 1 := ⟨tcode_X3_weightOf, tini_RX3, ⟨by decide +kernel, by decide +kernel⟩, by decide +kernel, by decide, by decide +kernel, rfl⟩
theorem tmv_X3_weightOf : zMV mX3_weightOf 1 := ⟨tm_X3_weightOf, List.mem_filter.mpr ⟨List.mem_of_getElem? (i := 475) (by decide +kernel), by decide +kernel⟩, List.mem_filter.mpr ⟨List.mem_of_getElem? (i := 476) (by decide +kernel), by decide +kernel⟩⟩
abbrev mX4_addExclusions : zM := (yX4_addExclusions, cX4_addExclusions, 4, none, none)
theorem tcode_X4_addExclusions : Cond.code yX4_addExclusions cX4_addExclusions 4 none ∈ zTB := List.mem_filter.mpr ⟨List.mem_of_getElem? (i := 566) (by decide +kernel), by decide +kernel⟩
theorem tm_X4_addExclusions : zMT mX4_addExclusions 1 := ⟨tcode_X4_addExclusions, tini_RX4, ⟨by decide +kernel, by decide +kernel⟩, by decide +kernel, by decide, by decide +kernel, rfl⟩
theorem tmv_X4_addExclusions : zMV mX4_addExclusions 1 := ⟨tm_X4_addExclusions, List.mem_filter.mpr ⟨List.mem_of_getElem? (i := 565) (by decide +kernel), by decide +kernel⟩, List.mem_filter.mpr ⟨List.mem_of_getElem? (i := 20) (by decide +kernel), by decide +kernel⟩⟩
abbrev mX4_addKind : zM := (yX4_addKind, cX4_addKind, 4, none, none)
theorem tcode_X4_addKind : Cond.code yX4_addKind cX4_addKind 4 none ∈ zTB := List.mem_filter.mpr ⟨List.mem_of_getElem? (i := 544) (by decide +kernel), by decide +kernel⟩
theorem tm_X4_addKind : zMT mX4_addKind 2 := ⟨tcode_X4_addKind, tini_RX4, ⟨by decide +kernel, by decide +kernel⟩, by decide +kernel, by decide, by decide +kernel, rfl⟩
theorem tmv_X4_addKind : zMV mX4_addKind 2 := ⟨tm_X4_addKind, List.mem_filter.mpr ⟨List.mem_of_getElem? (i := 542) (by decide +kernel), by decide +kernel⟩, List.mem_filter.mpr ⟨List.mem_of_getElem? (i := 543) (by decide +kernel), by decide +kernel⟩⟩
abbrev mX4_addLimits : zM := (yX4_addLimits, cX4_addLimits, 2, none, none)
theorem tcode_X4_addLimits : Cond.code yX4_addLimits cX4_addLimits 2 none ∈ zTB := List.mem_filter.mpr ⟨List.mem_of_getElem? (i := 571) (by decide +kernel), by decide +kernel⟩
theorem tm_X4_addLimits : zMT mX4_addLimits 1 := ⟨tcode_X4_addLimits, tini_RX4, ⟨by decide +kernel, by decide +kernel⟩, by decide +kernel, by decide, by decide +kernel, rfl⟩
theorem tmv_X4_addLimits : zMV mX4_addLimits 1 := ⟨tm_X4_addLimits, List.mem_filter.mpr ⟨List.mem_of_getElem? (i := 570) (by decide +kernel), by decide +kernel⟩, List.mem_filter.mpr ⟨List.mem_of_getElem? (i := 21) (by decide +kernel), by decide +kernel⟩⟩
abbrev mX4_addNamed : zM := (yX4_addNamed, cX4_addNamed, 5, none, none)
theorem tcode_X4_addNamed : Cond.code yX4_addNamed cX4_addNamed 5 none ∈ zTB := List.mem_filter.mpr ⟨List.mem_of_getElem? (i := 562) (by decide +kernel), by decide +kernel⟩
theorem tm_X4_addNamed : zMT mX4_addNamed 2 := ⟨tcode_X4_addNamed, tini_RX4, ⟨by decide +kernel, by decide +kernel⟩, by decide +kernel, by decide, by decide +kernel, rfl⟩
theorem tmv_X4_addNamed : zMV mX4_addNamed 2 := ⟨tm_X4_addNamed, List.mem_filter.mpr ⟨List.mem_of_getElem? (i := 561) (by decide +kernel), by decide +kernel⟩, List.mem_filter.mpr ⟨List.mem_of_getElem? (i := 19) (by decide +kernel), by decide +kernel⟩⟩
abbrev mX4_addNumber : zM := (yX4_addNumber, cX4_addNumber, 4, none, none)
theorem tcode_X4_addNumber : Cond.code yX4_addNumber cX4_addNumber 4 none ∈ zTB := List.mem_filter.mpr ⟨List.mem_of_getElem? (i := 557) (by decide +kernel), by decide +kernel⟩
theorem tm_X4_addNumber : zMT mX4_addNumber 1 := ⟨tcode_X4_addNumber, tini_RX4, ⟨by decide +kernel, by decide +kernel⟩, by decide +kernel, by decide, by decide +kernel, rfl⟩
theorem tmv_X4_addNumber : zMV mX4_addNumber 1 := ⟨tm_X4_addNumber, List.mem_filter.mpr ⟨List.mem_of_getElem? (i := 556) (by decide +kernel), by decide +kernel⟩, List.mem_filter.mpr ⟨List.mem_of_getElem? (i := 18) (by decide +kernel), by decide +kernel⟩⟩
abbrev mX4_addRow : zM := (yX4_addRow, cX4_addRow, 5, none, none)
theorem tcode_X4_addRow : Cond.code yX4_addRow cX4_addRow 5 none ∈ zTB := List.mem_filter.mpr ⟨List.mem_of_getElem? (i := 548) (by decide +kernel), by decide +kernel⟩
theorem tm_X4_addRow : zMT mX4_addRow 4 := ⟨tcode_X4_addRow, tini_RX4, ⟨by decide +kernel, by decide +kernel⟩, by decide +kernel, by decide, by decide +kernel, rfl⟩
theorem tmv_X4_addRow : zMV mX4_addRow 4 := ⟨tm_X4_addRow, List.mem_filter.mpr ⟨List.mem_of_getElem? (i := 547) (by decide +kernel), by decide +kernel⟩, List.mem_filter.mpr ⟨List.mem_of_getElem? (i := 16) (by decide +kernel), by decide +kernel⟩⟩
abbrev mX4_addSign : zM := (yX4_addSign, cX4_addSign, 2, none, none)
theorem tcode_X4_addSign : Cond.code yX4_addSign cX4_addSign 2 none ∈ zTB := List.mem_filter.mpr ⟨List.mem_of_getElem? (i := 552) (by decide +kernel), by decide +kernel⟩
theorem tm_X4_addSign : zMT mX4_addSign 1 := ⟨tcode_X4_addSign, tini_RX4, ⟨by decide +kernel, by decide +kernel⟩, by decide +kernel, by decide, by decide +kernel, rfl⟩
theorem tmv_X4_addSign : zMV mX4_addSign 1 := ⟨tm_X4_addSign, List.mem_filter.mpr ⟨List.mem_of_getElem? (i := 551) (by decide +kernel), by decide +kernel⟩, List.mem_filter.mpr ⟨List.mem_of_getElem? (i := 17) (by decide +kernel), by decide +kernel⟩⟩
abbrev mX4_init : zM := (yX4_init, cX4_init, 1, none, none)
theorem tcode_X4_init : Cond.code yX4_init cX4_init 1 none ∈ zTB := List.mem_filter.mpr ⟨List.mem_of_getElem? (i := 113) (by decide +kernel), by decide +kernel⟩
theorem tm_X4_init : zMT mX4_init 0 := ⟨tcode_X4_init, tini_RX4, ⟨by decide +kernel, by decide +kernel⟩, by decide +kernel, by decide, by decide +kernel, rfl⟩
theorem tmi_X4_init : zMI mX4_init 0 := ⟨tm_X4_init, List.mem_filter.mpr ⟨List.mem_of_getElem? (i := 112) (by decide +kernel), by decide +kernel⟩, rfl, rfl⟩
abbrev mX4_start : zM := (yX4_start, cX4_start, 1, none, none)
theorem tcode_X4_start : Cond.code yX4_start cX4_start 1 none ∈ zTB := List.mem_filter.mpr ⟨List.mem_of_getElem? (i := 540) (by decide +kernel), by decide +kernel⟩
theorem tm_X4_start : zMT mX4_start 0 := ⟨tcode_X4_start, tini_RX4, ⟨by decide +kernel, by decide +kernel⟩, by decide +kernel, by decide, by decide +kernel, rfl⟩
theorem tmv_X4_start : zMV mX4_start 0 := ⟨tm_X4_start, List.mem_filter.mpr ⟨List.mem_of_getElem? (i := 538) (by decide +kernel), by decide +kernel⟩, List.mem_filter.mpr ⟨List.mem_of_getElem? (i := 539) (by decide +kernel), by decide +kernel⟩⟩
abbrev mX5_append : zM := (yX5_append, cX5_append, 2, none, none)
theorem tcode_X5_append : Cond.code yX5_append cX5_append 2 none ∈ zTB := List.mem_filter.mpr ⟨List.mem_of_getElem? (i := 278) (by decide +kernel), by decide +kernel⟩
theorem tm_X5_append : zMT mX5_append 1 := ⟨tcode_X5_append, tini_RX5, ⟨by decide +kernel, by decide +kernel⟩, by decide +kernel, by decide, by decide +kernel, rfl⟩
theorem tmv_X5_append : zMV mX5_append 1 := ⟨tm_X5_append, List.mem_filter.mpr ⟨List.mem_of_getElem? (i := 276) (by decide +kernel), by decide +kernel⟩, List.mem_filter.mpr ⟨List.mem_of_getElem? (i := 277) (by decide +kernel), by decide +kernel⟩⟩
abbrev mX5_begin : zM := (yX5_begin, cX5_begin, 2, none, none)
theorem tcode_X5_begin : Cond.code yX5_begin cX5_begin 2 none ∈ zTB := List.mem_filter.mpr ⟨List.mem_of_getElem? (i := 367) (by decide +kernel), by decide +kernel⟩
theorem tm_X5_begin : zMT mX5_begin 1 := ⟨tcode_X5_begin, tini_RX5, ⟨by decide +kernel, by decide +kernel⟩, by decide +kernel, by decide, by decide +kernel, rfl⟩
theorem tmv_X5_begin : zMV mX5_begin 1 := ⟨tm_X5_begin, List.mem_filter.mpr ⟨List.mem_of_getElem? (i := 366) (by decide +kernel), by decide +kernel⟩, List.mem_filter.mpr ⟨List.mem_of_getElem? (i := 9) (by decide +kernel), by decide +kernel⟩⟩
abbrev mX5_empty : zM := (yX5_empty, cX5_empty, 1, none, none)
theorem tcode_X5_empty : Cond.code yX5_empty cX5_empty 1 none ∈ zTB := List.mem_filter.mpr ⟨List.mem_of_getElem? (i := 385) (by decide +kernel), by decide +kernel⟩
theorem tm_X5_empty : zMT mX5_empty 0 := ⟨tcode_X5_empty, tini_RX5, ⟨by decide +kernel, by decide +kernel⟩, by decide +kernel, by decide, by decide +kernel, rfl⟩
theorem tmv_X5_empty : zMV mX5_empty 0 := ⟨tm_X5_empty, List.mem_filter.mpr ⟨List.mem_of_getElem? (i := 383) (by decide +kernel), by decide +kernel⟩, List.mem_filter.mpr ⟨List.mem_of_getElem? (i := 384) (by decide +kernel), by decide +kernel⟩⟩
abbrev mX5_expect : zM := (yX5_expect, cX5_expect, 2, none, none)
theorem tcode_X5_expect : Cond.code yX5_expect cX5_expect 2 none ∈ zTB := List.mem_filter.mpr ⟨List.mem_of_getElem? (i := 327) (by decide +kernel), by decide +kernel⟩
theorem tm_X5_expect : zMT mX5_expect 1 := ⟨tcode_X5_expect, tini_RX5, ⟨by decide +kernel, by decide +kernel⟩, by decide +kernel, by decide, by decide +kernel, rfl⟩
theorem tmv_X5_expect : zMV mX5_expect 1 := ⟨tm_X5_expect, List.mem_filter.mpr ⟨List.mem_of_getElem? (i := 326) (by decide +kernel), by decide +kernel⟩, List.mem_filter.mpr ⟨List.mem_of_getElem? (i := 4) (by decide +kernel), by decide +kernel⟩⟩
abbrev mX5_init : zM := (yX5_init, cX5_init, 1, none, none)
theorem tcode_X5_init : Cond.code yX5_init cX5_init 1 none ∈ zTB := List.mem_filter.mpr ⟨List.mem_of_getElem? (i := 84) (by decide +kernel), by decide +kernel⟩
theorem tm_X5_init : zMT mX5_init 0 := ⟨tcode_X5_init, tini_RX5, ⟨by decide +kernel, by decide +kernel⟩, by decide +kernel, by decide, by decide +kernel, rfl⟩
theorem tmi_X5_init : zMI mX5_init 0 := ⟨tm_X5_init, List.mem_filter.mpr ⟨List.mem_of_getElem? (i := 83) (by decide +kernel), by decide +kernel⟩, rfl, rfl⟩
abbrev mX5_isAsSaid : zM := (yX5_isAsSaid, cX5_isAsSaid, 4, (some (.boolean)), none)
theorem tcode_X5_isAsSaid : Cond.code yX5_isAsSaid cX5_isAsSaid 4 (some (.boolean)) ∈ zTB := List.mem_filter.mpr ⟨List.mem_of_getElem? (i := 336) (by decide +kernel), by decide +kernel⟩
theorem tm_X5_isAsSaid : zMT mX5_isAsSaid 3 := ⟨tcode_X5_isAsSaid, tini_RX5, ⟨by decide +kernel, by decide +kernel⟩, by decide +kernel, by decide, by decide +kernel, rfl⟩
theorem tmv_X5_isAsSaid : zMV mX5_isAsSaid 3 := ⟨tm_X5_isAsSaid, List.mem_filter.mpr ⟨List.mem_of_getElem? (i := 335) (by decide +kernel), by decide +kernel⟩, List.mem_filter.mpr ⟨List.mem_of_getElem? (i := 6) (by decide +kernel), by decide +kernel⟩⟩
abbrev mX5_isExcludable : zM := (yX5_isExcludable, cX5_isExcludable, 4, (some (.boolean)), none)
theorem tcode_X5_isExcludable : Cond.code yX5_isExcludable cX5_isExcludable 4 (some (.boolean)) ∈ zTB := List.mem_filter.mpr ⟨List.mem_of_getElem? (i := 355) (by decide +kernel), by decide +kernel⟩
theorem tm_X5_isExcludable : zMT mX5_isExcludable 2 := ⟨tcode_X5_isExcludable, tini_RX5, ⟨by decide +kernel, by decide +kernel⟩, by decide +kernel, by decide, by decide +kernel, rfl⟩
theorem tmv_X5_isExcludable : zMV mX5_isExcludable 2 := ⟨tm_X5_isExcludable, List.mem_filter.mpr ⟨List.mem_of_getElem? (i := 354) (by decide +kernel), by decide +kernel⟩, List.mem_filter.mpr ⟨List.mem_of_getElem? (i := 7) (by decide +kernel), by decide +kernel⟩⟩
abbrev mX5_mayBegin : zM := (yX5_mayBegin, cX5_mayBegin, 2, (some (.boolean)), none)
theorem tcode_X5_mayBegin : Cond.code yX5_mayBegin cX5_mayBegin 2 (some (.boolean)) ∈ zTB := List.mem_filter.mpr ⟨List.mem_of_getElem? (i := 320) (by decide +kernel), by decide +kernel⟩
theorem tm_X5_mayBegin : zMT mX5_mayBegin 1 := ⟨tcode_X5_mayBegin, tini_RX5, ⟨by decide +kernel, by decide +kernel⟩, by decide +kernel, by decide, by decide +kernel, rfl⟩
theorem tmv_X5_mayBegin : zMV mX5_mayBegin 1 := ⟨tm_X5_mayBegin, List.mem_filter.mpr ⟨List.mem_of_getElem? (i := 319) (by decide +kernel), by decide +kernel⟩, List.mem_filter.mpr ⟨List.mem_of_getElem? (i := 3) (by decide +kernel), by decide +kernel⟩⟩
abbrev mX5_numbersOf : zM := (yX5_numbersOf, cX5_numbersOf, 1, (some (.int)), none)
theorem tcode_X5_numbersOf : Cond.code yX5_numbersOf cX5_numbersOf 1 (some (.int)) ∈ zTB := List.mem_filter.mpr ⟨List.mem_of_getElem? (i := 323) (by decide +kernel), by decide +kernel⟩
theorem tm_X5_numbersOf : zMT mX5_numbersOf 1 := ⟨tcode_X5_numbersOf, tini_RX5, ⟨by decide +kernel, by decide +kernel⟩, by decide +kernel, by decide, by decide +kernel, rfl⟩
theorem tms_X5_numbersOf : zMS mX5_numbersOf 1 := ⟨tm_X5_numbersOf, List.mem_filter.mpr ⟨List.mem_of_getElem? (i := 322) (by decide +kernel), by decide +kernel⟩⟩
abbrev mX5_readInto : zM := (yX5_readInto, cX5_readInto, 4, (some (.int)), none)
theorem tcode_X5_readInto : Cond.code yX5_readInto cX5_readInto 4 (some (.int)) ∈ zTB := List.mem_filter.mpr ⟨List.mem_of_getElem? (i := 294) (by decide +kernel), by decide +kernel⟩
theorem tm_X5_readInto : zMT mX5_readInto 1 := ⟨tcode_X5_readInto, tini_RX5, ⟨by decide +kernel, by decide +kernel⟩, by decide +kernel, by decide, by decide +kernel, rfl⟩
theorem tmv_X5_readInto : zMV mX5_readInto 1 := ⟨tm_X5_readInto, List.mem_filter.mpr ⟨List.mem_of_getElem? (i := 292) (by decide +kernel), by decide +kernel⟩, List.mem_filter.mpr ⟨List.mem_of_getElem? (i := 293) (by decide +kernel), by decide +kernel⟩⟩
abbrev mX5_readNumber : zM := (yX5_readNumber, cX5_readNumber, 5, none, none)
theorem tcode_X5_readNumber : Cond.code yX5_readNumber cX5_readNumber 5 none ∈ zTB := List.mem_filter.mpr ⟨List.mem_of_getElem? (i := 331) (by decide +kernel), by decide +kernel⟩
theorem tm_X5_readNumber : zMT mX5_readNumber 2 := ⟨tcode_X5_readNumber, tini_RX5, ⟨by decide +kernel, by decide +kernel⟩, by decide +kernel, by decide, by decide +kernel, rfl⟩
theorem tmv_X5_readNumber : zMV mX5_readNumber 2 := ⟨tm_X5_readNumber, List.mem_filter.mpr ⟨List.mem_of_getElem? (i := 330) (by decide +kernel), by decide +kernel⟩, List.mem_filter.mpr ⟨List.mem_of_getElem? (i := 5) (by decide +kernel), by decide +kernel⟩⟩
abbrev mX5_readRow : zM := (yX5_readRow, cX5_readRow, 4, none, none)
theorem tcode_X5_readRow : Cond.code yX5_readRow cX5_readRow 4 none ∈ zTB := List.mem_filter.mpr ⟨List.mem_of_getElem? (i := 309) (by decide +kernel), by decide +kernel⟩
theorem tm_X5_readRow : zMT mX5_readRow 0 := ⟨tcode_X5_readRow, tini_RX5, ⟨by decide +kernel, by decide +kernel⟩, by decide +kernel, by decide, by decide +kernel, rfl⟩
theorem tmv_X5_readRow : zMV mX5_readRow 0 := ⟨tm_X5_readRow, List.mem_filter.mpr ⟨List.mem_of_getElem? (i := 308) (by decide +kernel), by decide +kernel⟩, List.mem_filter.mpr ⟨List.mem_of_getElem? (i := 1) (by decide +kernel), by decide +kernel⟩⟩
abbrev mX5_signHere : zM := (yX5_signHere, cX5_signHere, 1, (some (.int)), none)
theorem tcode_X5_signHere : Cond.code yX5_signHere cX5_signHere 1 (some (.int)) ∈ zTB := List.mem_filter.mpr ⟨List.mem_of_getElem? (i := 313) (by decide +kernel), by decide +kernel⟩
theorem tm_X5_signHere : zMT mX5_signHere 0 := ⟨tcode_X5_signHere, tini_RX5, ⟨by decide +kernel, by decide +kernel⟩, by decide +kernel, by decide, by decide +kernel, rfl⟩
theorem tmv_X5_signHere : zMV mX5_signHere 0 := ⟨tm_X5_signHere, List.mem_filter.mpr ⟨List.mem_of_getElem? (i := 312) (by decide +kernel), by decide +kernel⟩, List.mem_filter.mpr ⟨List.mem_of_getElem? (i := 2) (by decide +kernel), by decide +kernel⟩⟩
abbrev mX5_take : zM := (yX5_take, cX5_take, 4, none, none)
theorem tcode_X5_take : Cond.code yX5_take cX5_take 4 none ∈ zTB := List.mem_filter.mpr ⟨List.mem_of_getElem? (i := 363) (by decide +kernel), by decide +kernel⟩
theorem tm_X5_take : zMT mX5_take 1 := ⟨tcode_X5_take, tini_RX5, ⟨by decide +kernel, by decide +kernel⟩, by decide +kernel, by decide, by decide +kernel, rfl⟩
theorem tmv_X5_take : zMV mX5_take 1 := ⟨tm_X5_take, List.mem_filter.mpr ⟨List.mem_of_getElem? (i := 362) (by decide +kernel), by decide +kernel⟩, List.mem_filter.mpr ⟨List.mem_of_getElem? (i := 8) (by decide +kernel), by decide +kernel⟩⟩
abbrev mX5_takeOf : zM := (yX5_takeOf, cX5_takeOf, 5, none, none)
theorem tcode_X5_takeOf : Cond.code yX5_takeOf cX5_takeOf 5 none ∈ zTB := List.mem_filter.mpr ⟨List.mem_of_getElem? (i := 372) (by decide +kernel), by decide +kernel⟩
theorem tm_X5_takeOf : zMT mX5_takeOf 4 := ⟨tcode_X5_takeOf, tini_RX5, ⟨by decide +kernel, by decide +kernel⟩, by decide +kernel, by decide, by decide +kernel, rfl⟩
theorem tmv_X5_takeOf : zMV mX5_takeOf 4 := ⟨tm_X5_takeOf, List.mem_filter.mpr ⟨List.mem_of_getElem? (i := 371) (by decide +kernel), by decide +kernel⟩, List.mem_filter.mpr ⟨List.mem_of_getElem? (i := 10) (by decide +kernel), by decide +kernel⟩⟩
abbrev mX6_arePrintedAlike : zM := (yX6_arePrintedAlike, cX6_arePrintedAlike, 2, (some (.boolean)), none)
theorem tcode_X6_arePrintedAlike : Cond.code yX6_arePrintedAlike cX6_arePrintedAlike 2 (some (.boolean)) ∈ zTB := List.mem_filter.mpr ⟨List.mem_of_getElem? (i := 520) (by decide +kernel), by decide +kernel⟩
theorem tm_X6_arePrintedAlike : zMT mX6_arePrintedAlike 2 := ⟨tcode_X6_arePrintedAlike, tini_RX6, ⟨by decide +kernel, by decide +kernel⟩, by decide +kernel, by decide, by decide +kernel, rfl⟩
theorem tms_X6_arePrintedAlike : zMS mX6_arePrintedAlike 2 := ⟨tm_X6_arePrintedAlike, List.mem_filter.mpr ⟨List.mem_of_getElem? (i := 519) (by decide +kernel), by decide +kernel⟩⟩
abbrev mX6_at : zM := (yX6_at, cX6_at, 2, (some (.int)), none)
theorem tcode_X6_at : Cond.code yX6_at cX6_at 2 (some (.int)) ∈ zTB := List.mem_filter.mpr ⟨List.mem_of_getElem? (i := 575) (by decide +kernel), by decide +kernel⟩
theorem tm_X6_at : zMT mX6_at 1 := ⟨tcode_X6_at, tini_RX6, ⟨by decide +kernel, by decide +kernel⟩, by decide +kernel, by decide, by decide +kernel, rfl⟩
theorem tmv_X6_at : zMV mX6_at 1 := ⟨tm_X6_at, List.mem_filter.mpr ⟨List.mem_of_getElem? (i := 573) (by decide +kernel), by decide +kernel⟩, List.mem_filter.mpr ⟨List.mem_of_getElem? (i := 574) (by decide +kernel), by decide +kernel⟩⟩
abbrev mX6_cell : zM := (yX6_cell, cX6_cell, 2, (some (.int)), none)
theorem tcode_X6_cell : Cond.code yX6_cell cX6_cell 2 (some (.int)) ∈ zTB := List.mem_filter.mpr ⟨List.mem_of_getElem? (i := 316) (by decide +kernel), by decide +kernel⟩
theorem tm_X6_cell : zMT mX6_cell 2 := ⟨tcode_X6_cell, tini_RX6, ⟨by decide +kernel, by decide +kernel⟩, by decide +kernel, by decide, by decide +kernel, rfl⟩
theorem tms_X6_cell : zMS mX6_cell 2 := ⟨tm_X6_cell, List.mem_filter.mpr ⟨List.mem_of_getElem? (i := 315) (by decide +kernel), by decide +kernel⟩⟩
abbrev mX6_compare : zM := (yX6_compare, cX6_compare, 6, (some (.int)), none)
theorem tcode_X6_compare : Cond.code yX6_compare cX6_compare 6 (some (.int)) ∈ zTB := List.mem_filter.mpr ⟨List.mem_of_getElem? (i := 517) (by decide +kernel), by decide +kernel⟩
theorem tm_X6_compare : zMT mX6_compare 1 := ⟨tcode_X6_compare, tini_RX6, ⟨by decide +kernel, by decide +kernel⟩, by decide +kernel, by decide, by decide +kernel, rfl⟩
theorem tmv_X6_compare : zMV mX6_compare 1 := ⟨tm_X6_compare, List.mem_filter.mpr ⟨List.mem_of_getElem? (i := 515) (by decide +kernel), by decide +kernel⟩, List.mem_filter.mpr ⟨List.mem_of_getElem? (i := 516) (by decide +kernel), by decide +kernel⟩⟩
abbrev mX6_dimensional : zM := (yX6_dimensional, cX6_dimensional, 5, (some (.long)), none)
theorem tcode_X6_dimensional : Cond.code yX6_dimensional cX6_dimensional 5 (some (.long)) ∈ zTB := List.mem_filter.mpr ⟨List.mem_of_getElem? (i := 652) (by decide +kernel), by decide +kernel⟩
theorem tm_X6_dimensional : zMT mX6_dimensional 2 := ⟨tcode_X6_dimensional, tini_RX6, ⟨by decide +kernel, by decide +kernel⟩, by decide +kernel, by decide, by decide +kernel, rfl⟩
theorem tmv_X6_dimensional : zMV mX6_dimensional 2 := ⟨tm_X6_dimensional, List.mem_filter.mpr ⟨List.mem_of_getElem? (i := 650) (by decide +kernel), by decide +kernel⟩, List.mem_filter.mpr ⟨List.mem_of_getElem? (i := 651) (by decide +kernel), by decide +kernel⟩⟩
abbrev mX6_dividedUp : zM := (yX6_dividedUp, cX6_dividedUp, 4, (some (.long)), none)
theorem tcode_X6_dividedUp : Cond.code yX6_dividedUp cX6_dividedUp 4 (some (.long)) ∈ zTB := List.mem_filter.mpr ⟨List.mem_of_getElem? (i := 480) (by decide +kernel), by decide +kernel⟩
theorem tm_X6_dividedUp : zMT mX6_dividedUp 2 := ⟨tcode_X6_dividedUp, tini_RX6, ⟨by decide +kernel, by decide +kernel⟩, by decide +kernel, by decide, by decide +kernel, rfl⟩
theorem tms_X6_dividedUp : zMS mX6_dividedUp 2 := ⟨tm_X6_dividedUp, List.mem_filter.mpr ⟨List.mem_of_getElem? (i := 479) (by decide +kernel), by decide +kernel⟩⟩
abbrev mX6_explain : zM := (yX6_explain, cX6_explain, 3, (some (.int)), none)
theorem tcode_X6_explain : Cond.code yX6_explain cX6_explain 3 (some (.int)) ∈ zTB := List.mem_filter.mpr ⟨List.mem_of_getElem? (i := 509) (by decide +kernel), by decide +kernel⟩
theorem tm_X6_explain : zMT mX6_explain 2 := ⟨tcode_X6_explain, tini_RX6, ⟨by decide +kernel, by decide +kernel⟩, by decide +kernel, by decide, by decide +kernel, rfl⟩
theorem tmv_X6_explain : zMV mX6_explain 2 := ⟨tm_X6_explain, List.mem_filter.mpr ⟨List.mem_of_getElem? (i := 507) (by decide +kernel), by decide +kernel⟩, List.mem_filter.mpr ⟨List.mem_of_getElem? (i := 508) (by decide +kernel), by decide +kernel⟩⟩
abbrev mX6_fill : zM := (yX6_fill, cX6_fill, 3, none, none)
theorem tcode_X6_fill : Cond.code yX6_fill cX6_fill 3 none ∈ zTB := List.mem_filter.mpr ⟨List.mem_of_getElem? (i := 305) (by decide +kernel), by decide +kernel⟩
theorem tm_X6_fill : zMT mX6_fill 2 := ⟨tcode_X6_fill, tini_RX6, ⟨by decide +kernel, by decide +kernel⟩, by decide +kernel, by decide, by decide +kernel, rfl⟩
theorem tms_X6_fill : zMS mX6_fill 2 := ⟨tm_X6_fill, List.mem_filter.mpr ⟨List.mem_of_getElem? (i := 304) (by decide +kernel), by decide +kernel⟩⟩
abbrev mX6_init : zM := (yX6_init, cX6_init, 2, none, none)
theorem tcode_X6_init : Cond.code yX6_init cX6_init 2 none ∈ zTB := List.mem_filter.mpr ⟨List.mem_of_getElem? (i := 76) (by decide +kernel), by decide +kernel⟩
theorem tm_X6_init : zMT mX6_init 0 := ⟨tcode_X6_init, tini_RX6, ⟨by decide +kernel, by decide +kernel⟩, by decide +kernel, by decide, by decide +kernel, rfl⟩
theorem tmi_X6_init : zMI mX6_init 0 := ⟨tm_X6_init, List.mem_filter.mpr ⟨List.mem_of_getElem? (i := 75) (by decide +kernel), by decide +kernel⟩, rfl, rfl⟩
abbrev mX6_isMeasure : zM := (yX6_isMeasure, cX6_isMeasure, 1, (some (.boolean)), none)
theorem tcode_X6_isMeasure : Cond.code yX6_isMeasure cX6_isMeasure 1 (some (.boolean)) ∈ zTB := List.mem_filter.mpr ⟨List.mem_of_getElem? (i := 393) (by decide +kernel), by decide +kernel⟩
theorem tm_X6_isMeasure : zMT mX6_isMeasure 1 := ⟨tcode_X6_isMeasure, tini_RX6, ⟨by decide +kernel, by decide +kernel⟩, by decide +kernel, by decide, by decide +kernel, rfl⟩
theorem tms_X6_isMeasure : zMS mX6_isMeasure 1 := ⟨tm_X6_isMeasure, List.mem_filter.mpr ⟨List.mem_of_getElem? (i := 392) (by decide +kernel), by decide +kernel⟩⟩
abbrev mX6_isName : zM := (yX6_isName, cX6_isName, 1, (some (.boolean)), none)
theorem tcode_X6_isName : Cond.code yX6_isName cX6_isName 1 (some (.boolean)) ∈ zTB := List.mem_filter.mpr ⟨List.mem_of_getElem? (i := 339) (by decide +kernel), by decide +kernel⟩
theorem tm_X6_isName : zMT mX6_isName 1 := ⟨tcode_X6_isName, tini_RX6, ⟨by decide +kernel, by decide +kernel⟩, by decide +kernel, by decide, by decide +kernel, rfl⟩
theorem tms_X6_isName : zMS mX6_isName 1 := ⟨tm_X6_isName, List.mem_filter.mpr ⟨List.mem_of_getElem? (i := 338) (by decide +kernel), by decide +kernel⟩⟩
abbrev mX6_isWithin : zM := (yX6_isWithin, cX6_isWithin, 3, (some (.boolean)), none)
theorem tcode_X6_isWithin : Cond.code yX6_isWithin cX6_isWithin 3 (some (.boolean)) ∈ zTB := List.mem_filter.mpr ⟨List.mem_of_getElem? (i := 274) (by decide +kernel), by decide +kernel⟩
theorem tm_X6_isWithin : zMT mX6_isWithin 3 := ⟨tcode_X6_isWithin, tini_RX6, ⟨by decide +kernel, by decide +kernel⟩, by decide +kernel, by decide, by decide +kernel, rfl⟩
theorem tms_X6_isWithin : zMS mX6_isWithin 3 := ⟨tm_X6_isWithin, List.mem_filter.mpr ⟨List.mem_of_getElem? (i := 273) (by decide +kernel), by decide +kernel⟩⟩
abbrev mX6_item : zM := (yX6_item, cX6_item, 6, (some (.int)), none)
theorem tcode_X6_item : Cond.code yX6_item cX6_item 6 (some (.int)) ∈ zTB := List.mem_filter.mpr ⟨List.mem_of_getElem? (i := 389) (by decide +kernel), by decide +kernel⟩
theorem tm_X6_item : zMT mX6_item 5 := ⟨tcode_X6_item, tini_RX6, ⟨by decide +kernel, by decide +kernel⟩, by decide +kernel, by decide, by decide +kernel, rfl⟩
theorem tmv_X6_item : zMV mX6_item 5 := ⟨tm_X6_item, List.mem_filter.mpr ⟨List.mem_of_getElem? (i := 387) (by decide +kernel), by decide +kernel⟩, List.mem_filter.mpr ⟨List.mem_of_getElem? (i := 388) (by decide +kernel), by decide +kernel⟩⟩
abbrev mX6_itemOf : zM := (yX6_itemOf, cX6_itemOf, 2, (some (.object "PostTariff$Item")), none)
theorem tcode_X6_itemOf : Cond.code yX6_itemOf cX6_itemOf 2 (some (.object "PostTariff$Item")) ∈ zTB := List.mem_filter.mpr ⟨List.mem_of_getElem? (i := 434) (by decide +kernel), by decide +kernel⟩
theorem tm_X6_itemOf : zMT mX6_itemOf 1 := ⟨tcode_X6_itemOf, tini_RX6, ⟨by decide +kernel, by decide +kernel⟩, by decide +kernel, by decide, by decide +kernel, rfl⟩
theorem tmv_X6_itemOf : zMV mX6_itemOf 1 := ⟨tm_X6_itemOf, List.mem_filter.mpr ⟨List.mem_of_getElem? (i := 433) (by decide +kernel), by decide +kernel⟩, List.mem_filter.mpr ⟨List.mem_of_getElem? (i := 11) (by decide +kernel), by decide +kernel⟩⟩
abbrev mX6_kindOf : zM := (yX6_kindOf, cX6_kindOf, 3, (some (.object "PostTariff$Kind")), none)
theorem tcode_X6_kindOf : Cond.code yX6_kindOf cX6_kindOf 3 (some (.object "PostTariff$Kind")) ∈ zTB := List.mem_filter.mpr ⟨List.mem_of_getElem? (i := 342) (by decide +kernel), by decide +kernel⟩
theorem tm_X6_kindOf : zMT mX6_kindOf 2 := ⟨tcode_X6_kindOf, tini_RX6, ⟨by decide +kernel, by decide +kernel⟩, by decide +kernel, by decide, by decide +kernel, rfl⟩
theorem tms_X6_kindOf : zMS mX6_kindOf 2 := ⟨tm_X6_kindOf, List.mem_filter.mpr ⟨List.mem_of_getElem? (i := 341) (by decide +kernel), by decide +kernel⟩⟩
abbrev mX6_latest : zM := (yX6_latest, cX6_latest, 1, (some (.object "PostTariff$Edition")), none)
theorem tcode_X6_latest : Cond.code yX6_latest cX6_latest 1 (some (.object "PostTariff$Edition")) ∈ zTB := List.mem_filter.mpr ⟨List.mem_of_getElem? (i := 455) (by decide +kernel), by decide +kernel⟩
theorem tm_X6_latest : zMT mX6_latest 0 := ⟨tcode_X6_latest, tini_RX6, ⟨by decide +kernel, by decide +kernel⟩, by decide +kernel, by decide, by decide +kernel, rfl⟩
theorem tmv_X6_latest : zMV mX6_latest 0 := ⟨tm_X6_latest, List.mem_filter.mpr ⟨List.mem_of_getElem? (i := 454) (by decide +kernel), by decide +kernel⟩, List.mem_filter.mpr ⟨List.mem_of_getElem? (i := 13) (by decide +kernel), by decide +kernel⟩⟩
abbrev mX6_least : zM := (yX6_least, cX6_least, 12, (some (.int)), none)
theorem tcode_X6_least : Cond.code yX6_least cX6_least 12 (some (.int)) ∈ zTB := List.mem_filter.mpr ⟨List.mem_of_getElem? (i := 504) (by decide +kernel), by decide +kernel⟩
theorem tm_X6_least : zMT mX6_least 3 := ⟨tcode_X6_least, tini_RX6, ⟨by decide +kernel, by decide +kernel⟩, by decide +kernel, by decide, by decide +kernel, rfl⟩
theorem tmv_X6_least : zMV mX6_least 3 := ⟨tm_X6_least, List.mem_filter.mpr ⟨List.mem_of_getElem? (i := 502) (by decide +kernel), by decide +kernel⟩, List.mem_filter.mpr ⟨List.mem_of_getElem? (i := 503) (by decide +kernel), by decide +kernel⟩⟩
abbrev mX6_price : zM := (yX6_price, cX6_price, 7, (some (.long)), none)
theorem tcode_X6_price : Cond.code yX6_price cX6_price 7 (some (.long)) ∈ zTB := List.mem_filter.mpr ⟨List.mem_of_getElem? (i := 445) (by decide +kernel), by decide +kernel⟩
theorem tm_X6_price : zMT mX6_price 3 := ⟨tcode_X6_price, tini_RX6, ⟨by decide +kernel, by decide +kernel⟩, by decide +kernel, by decide, by decide +kernel, rfl⟩
theorem tmv_X6_price : zMV mX6_price 3 := ⟨tm_X6_price, List.mem_filter.mpr ⟨List.mem_of_getElem? (i := 443) (by decide +kernel), by decide +kernel⟩, List.mem_filter.mpr ⟨List.mem_of_getElem? (i := 444) (by decide +kernel), by decide +kernel⟩⟩
abbrev mX6_pricingRefusal : zM := (yX6_pricingRefusal, cX6_pricingRefusal, 4, (some (.int)), none)
theorem tcode_X6_pricingRefusal : Cond.code yX6_pricingRefusal cX6_pricingRefusal 4 (some (.int)) ∈ zTB := List.mem_filter.mpr ⟨List.mem_of_getElem? (i := 450) (by decide +kernel), by decide +kernel⟩
theorem tm_X6_pricingRefusal : zMT mX6_pricingRefusal 2 := ⟨tcode_X6_pricingRefusal, tini_RX6, ⟨by decide +kernel, by decide +kernel⟩, by decide +kernel, by decide, by decide +kernel, rfl⟩
theorem tmv_X6_pricingRefusal : zMV mX6_pricingRefusal 2 := ⟨tm_X6_pricingRefusal, List.mem_filter.mpr ⟨List.mem_of_getElem? (i := 449) (by decide +kernel), by decide +kernel⟩, List.mem_filter.mpr ⟨List.mem_of_getElem? (i := 12) (by decide +kernel), by decide +kernel⟩⟩
abbrev mX6_print : zM := (yX6_print, cX6_print, 3, (some (.int)), none)
theorem tcode_X6_print : Cond.code yX6_print cX6_print 3 (some (.int)) ∈ zTB := List.mem_filter.mpr ⟨List.mem_of_getElem? (i := 536) (by decide +kernel), by decide +kernel⟩
theorem tm_X6_print : zMT mX6_print 0 := ⟨tcode_X6_print, tini_RX6, ⟨by decide +kernel, by decide +kernel⟩, by decide +kernel, by decide, by decide +kernel, rfl⟩
theorem tmv_X6_print : zMV mX6_print 0 := ⟨tm_X6_print, List.mem_filter.mpr ⟨List.mem_of_getElem? (i := 534) (by decide +kernel), by decide +kernel⟩, List.mem_filter.mpr ⟨List.mem_of_getElem? (i := 535) (by decide +kernel), by decide +kernel⟩⟩
abbrev mX6_put : zM := (yX6_put, cX6_put, 3, none, none)
theorem tcode_X6_put : Cond.code yX6_put cX6_put 3 none ∈ zTB := List.mem_filter.mpr ⟨List.mem_of_getElem? (i := 281) (by decide +kernel), by decide +kernel⟩
theorem tm_X6_put : zMT mX6_put 3 := ⟨tcode_X6_put, tini_RX6, ⟨by decide +kernel, by decide +kernel⟩, by decide +kernel, by decide, by decide +kernel, rfl⟩
theorem tms_X6_put : zMS mX6_put 3 := ⟨tm_X6_put, List.mem_filter.mpr ⟨List.mem_of_getElem? (i := 280) (by decide +kernel), by decide +kernel⟩⟩
abbrev mX6_read : zM := (yX6_read, cX6_read, 3, (some (.int)), none)
theorem tcode_X6_read : Cond.code yX6_read cX6_read 3 (some (.int)) ∈ zTB := List.mem_filter.mpr ⟨List.mem_of_getElem? (i := 285) (by decide +kernel), by decide +kernel⟩
theorem tm_X6_read : zMT mX6_read 0 := ⟨tcode_X6_read, tini_RX6, ⟨by decide +kernel, by decide +kernel⟩, by decide +kernel, by decide, by decide +kernel, rfl⟩
theorem tmv_X6_read : zMV mX6_read 0 := ⟨tm_X6_read, List.mem_filter.mpr ⟨List.mem_of_getElem? (i := 283) (by decide +kernel), by decide +kernel⟩, List.mem_filter.mpr ⟨List.mem_of_getElem? (i := 284) (by decide +kernel), by decide +kernel⟩⟩
abbrev mX6_service : zM := (yX6_service, cX6_service, 4, (some (.int)), none)
theorem tcode_X6_service : Cond.code yX6_service cX6_service 4 (some (.int)) ∈ zTB := List.mem_filter.mpr ⟨List.mem_of_getElem? (i := 430) (by decide +kernel), by decide +kernel⟩
theorem tm_X6_service : zMT mX6_service 2 := ⟨tcode_X6_service, tini_RX6, ⟨by decide +kernel, by decide +kernel⟩, by decide +kernel, by decide, by decide +kernel, rfl⟩
theorem tmv_X6_service : zMV mX6_service 2 := ⟨tm_X6_service, List.mem_filter.mpr ⟨List.mem_of_getElem? (i := 428) (by decide +kernel), by decide +kernel⟩, List.mem_filter.mpr ⟨List.mem_of_getElem? (i := 429) (by decide +kernel), by decide +kernel⟩⟩
abbrev mX6_sign : zM := (yX6_sign, cX6_sign, 2, none, none)
theorem tcode_X6_sign : Cond.code yX6_sign cX6_sign 2 none ∈ zTB := List.mem_filter.mpr ⟨List.mem_of_getElem? (i := 271) (by decide +kernel), by decide +kernel⟩
theorem tm_X6_sign : zMT mX6_sign 1 := ⟨tcode_X6_sign, tini_RX6, ⟨by decide +kernel, by decide +kernel⟩, by decide +kernel, by decide, by decide +kernel, rfl⟩
theorem tmv_X6_sign : zMV mX6_sign 1 := ⟨tm_X6_sign, List.mem_filter.mpr ⟨List.mem_of_getElem? (i := 269) (by decide +kernel), by decide +kernel⟩, List.mem_filter.mpr ⟨List.mem_of_getElem? (i := 270) (by decide +kernel), by decide +kernel⟩⟩
abbrev mX6_slot : zM := (yX6_slot, cX6_slot, 2, (some (.object "PostTariff$Edition")), none)
theorem tcode_X6_slot : Cond.code yX6_slot cX6_slot 2 (some (.object "PostTariff$Edition")) ∈ zTB := List.mem_filter.mpr ⟨List.mem_of_getElem? (i := 289) (by decide +kernel), by decide +kernel⟩
theorem tm_X6_slot : zMT mX6_slot 1 := ⟨tcode_X6_slot, tini_RX6, ⟨by decide +kernel, by decide +kernel⟩, by decide +kernel, by decide, by decide +kernel, rfl⟩
theorem tmv_X6_slot : zMV mX6_slot 1 := ⟨tm_X6_slot, List.mem_filter.mpr ⟨List.mem_of_getElem? (i := 288) (by decide +kernel), by decide +kernel⟩, List.mem_filter.mpr ⟨List.mem_of_getElem? (i := 0) (by decide +kernel), by decide +kernel⟩⟩
abbrev mX7_add : zM := (yX7_add, cX7_add, 6, none, none)
theorem tcode_X7_add : Cond.code yX7_add cX7_add 6 none ∈ zTB := List.mem_filter.mpr ⟨List.mem_of_getElem? (i := 812) (by decide +kernel), by decide +kernel⟩
theorem tm_X7_add : zMT mX7_add 4 := ⟨tcode_X7_add, tini_RX7, ⟨by decide +kernel, by decide +kernel⟩, by decide +kernel, by decide, by decide +kernel, rfl⟩
theorem tmv_X7_add : zMV mX7_add 4 := ⟨tm_X7_add, List.mem_filter.mpr ⟨List.mem_of_getElem? (i := 811) (by decide +kernel), by decide +kernel⟩, List.mem_filter.mpr ⟨List.mem_of_getElem? (i := 32) (by decide +kernel), by decide +kernel⟩⟩
abbrev mX7_areApart : zM := (yX7_areApart, cX7_areApart, 5, (some (.boolean)), none)
theorem tcode_X7_areApart : Cond.code yX7_areApart cX7_areApart 5 (some (.boolean)) ∈ zTB := List.mem_filter.mpr ⟨List.mem_of_getElem? (i := 841) (by decide +kernel), by decide +kernel⟩
theorem tm_X7_areApart : zMT mX7_areApart 2 := ⟨tcode_X7_areApart, tini_RX7, ⟨by decide +kernel, by decide +kernel⟩, by decide +kernel, by decide, by decide +kernel, rfl⟩
theorem tmv_X7_areApart : zMV mX7_areApart 2 := ⟨tm_X7_areApart, List.mem_filter.mpr ⟨List.mem_of_getElem? (i := 840) (by decide +kernel), by decide +kernel⟩, List.mem_filter.mpr ⟨List.mem_of_getElem? (i := 39) (by decide +kernel), by decide +kernel⟩⟩
abbrev mX7_at : zM := (yX7_at, cX7_at, 2, (some (.int)), none)
theorem tcode_X7_at : Cond.code yX7_at cX7_at 2 (some (.int)) ∈ zTB := List.mem_filter.mpr ⟨List.mem_of_getElem? (i := 955) (by decide +kernel), by decide +kernel⟩
theorem tm_X7_at : zMT mX7_at 1 := ⟨tcode_X7_at, tini_RX7, ⟨by decide +kernel, by decide +kernel⟩, by decide +kernel, by decide, by decide +kernel, rfl⟩
theorem tmv_X7_at : zMV mX7_at 1 := ⟨tm_X7_at, List.mem_filter.mpr ⟨List.mem_of_getElem? (i := 953) (by decide +kernel), by decide +kernel⟩, List.mem_filter.mpr ⟨List.mem_of_getElem? (i := 954) (by decide +kernel), by decide +kernel⟩⟩
abbrev mX7_base : zM := (yX7_base, cX7_base, 1, (some (.int)), none)
theorem tcode_X7_base : Cond.code yX7_base cX7_base 1 (some (.int)) ∈ zTB := List.mem_filter.mpr ⟨List.mem_of_getElem? (i := 800) (by decide +kernel), by decide +kernel⟩
theorem tm_X7_base : zMT mX7_base 0 := ⟨tcode_X7_base, tini_RX7, ⟨by decide +kernel, by decide +kernel⟩, by decide +kernel, by decide, by decide +kernel, rfl⟩
theorem tmv_X7_base : zMV mX7_base 0 := ⟨tm_X7_base, List.mem_filter.mpr ⟨List.mem_of_getElem? (i := 799) (by decide +kernel), by decide +kernel⟩, List.mem_filter.mpr ⟨List.mem_of_getElem? (i := 29) (by decide +kernel), by decide +kernel⟩⟩
abbrev mX7_compare : zM := (yX7_compare, cX7_compare, 9, (some (.int)), none)
theorem tcode_X7_compare : Cond.code yX7_compare cX7_compare 9 (some (.int)) ∈ zTB := List.mem_filter.mpr ⟨List.mem_of_getElem? (i := 923) (by decide +kernel), by decide +kernel⟩
theorem tm_X7_compare : zMT mX7_compare 1 := ⟨tcode_X7_compare, tini_RX7, ⟨by decide +kernel, by decide +kernel⟩, by decide +kernel, by decide, by decide +kernel, rfl⟩
theorem tmv_X7_compare : zMV mX7_compare 1 := ⟨tm_X7_compare, List.mem_filter.mpr ⟨List.mem_of_getElem? (i := 921) (by decide +kernel), by decide +kernel⟩, List.mem_filter.mpr ⟨List.mem_of_getElem? (i := 922) (by decide +kernel), by decide +kernel⟩⟩
abbrev mX7_count : zM := (yX7_count, cX7_count, 4, (some (.int)), none)
theorem tcode_X7_count : Cond.code yX7_count cX7_count 4 (some (.int)) ∈ zTB := List.mem_filter.mpr ⟨List.mem_of_getElem? (i := 792) (by decide +kernel), by decide +kernel⟩
theorem tm_X7_count : zMT mX7_count 1 := ⟨tcode_X7_count, tini_RX7, ⟨by decide +kernel, by decide +kernel⟩, by decide +kernel, by decide, by decide +kernel, rfl⟩
theorem tmv_X7_count : zMV mX7_count 1 := ⟨tm_X7_count, List.mem_filter.mpr ⟨List.mem_of_getElem? (i := 791) (by decide +kernel), by decide +kernel⟩, List.mem_filter.mpr ⟨List.mem_of_getElem? (i := 27) (by decide +kernel), by decide +kernel⟩⟩
abbrev mX7_dimensional : zM := (yX7_dimensional, cX7_dimensional, 7, (some (.long)), none)
theorem tcode_X7_dimensional : Cond.code yX7_dimensional cX7_dimensional 7 (some (.long)) ∈ zTB := List.mem_filter.mpr ⟨List.mem_of_getElem? (i := 917) (by decide +kernel), by decide +kernel⟩
theorem tm_X7_dimensional : zMT mX7_dimensional 2 := ⟨tcode_X7_dimensional, tini_RX7, ⟨by decide +kernel, by decide +kernel⟩, by decide +kernel, by decide, by decide +kernel, rfl⟩
theorem tmv_X7_dimensional : zMV mX7_dimensional 2 := ⟨tm_X7_dimensional, List.mem_filter.mpr ⟨List.mem_of_getElem? (i := 915) (by decide +kernel), by decide +kernel⟩, List.mem_filter.mpr ⟨List.mem_of_getElem? (i := 916) (by decide +kernel), by decide +kernel⟩⟩
abbrev mX7_explain : zM := (yX7_explain, cX7_explain, 3, (some (.int)), none)
theorem tcode_X7_explain : Cond.code yX7_explain cX7_explain 3 (some (.int)) ∈ zTB := List.mem_filter.mpr ⟨List.mem_of_getElem? (i := 913) (by decide +kernel), by decide +kernel⟩
theorem tm_X7_explain : zMT mX7_explain 2 := ⟨tcode_X7_explain, tini_RX7, ⟨by decide +kernel, by decide +kernel⟩, by decide +kernel, by decide, by decide +kernel, rfl⟩
theorem tmv_X7_explain : zMV mX7_explain 2 := ⟨tm_X7_explain, List.mem_filter.mpr ⟨List.mem_of_getElem? (i := 911) (by decide +kernel), by decide +kernel⟩, List.mem_filter.mpr ⟨List.mem_of_getElem? (i := 912) (by decide +kernel), by decide +kernel⟩⟩
abbrev mX7_in : zM := (yX7_in, cX7_in, 6, (some (.boolean)), none)
theorem tcode_X7_in : Cond.code yX7_in cX7_in 6 (some (.boolean)) ∈ zTB := List.mem_filter.mpr ⟨List.mem_of_getElem? (i := 854) (by decide +kernel), by decide +kernel⟩
theorem tm_X7_in : zMT mX7_in 3 := ⟨tcode_X7_in, tini_RX7, ⟨by decide +kernel, by decide +kernel⟩, by decide +kernel, by decide, by decide +kernel, rfl⟩
theorem tms_X7_in : zMS mX7_in 3 := ⟨tm_X7_in, List.mem_filter.mpr ⟨List.mem_of_getElem? (i := 853) (by decide +kernel), by decide +kernel⟩⟩
abbrev mX7_init : zM := (yX7_init, cX7_init, 1, none, none)
theorem tcode_X7_init : Cond.code yX7_init cX7_init 1 none ∈ zTB := List.mem_filter.mpr ⟨List.mem_of_getElem? (i := 663) (by decide +kernel), by decide +kernel⟩
theorem tm_X7_init : zMT mX7_init 0 := ⟨tcode_X7_init, tini_RX7, ⟨by decide +kernel, by decide +kernel⟩, by decide +kernel, by decide, by decide +kernel, rfl⟩
theorem tmi_X7_init : zMI mX7_init 0 := ⟨tm_X7_init, List.mem_filter.mpr ⟨List.mem_of_getElem? (i := 662) (by decide +kernel), by decide +kernel⟩, rfl, rfl⟩
abbrev mX7_isDigit : zM := (yX7_isDigit, cX7_isDigit, 1, (some (.boolean)), none)
theorem tcode_X7_isDigit : Cond.code yX7_isDigit cX7_isDigit 1 (some (.boolean)) ∈ zTB := List.mem_filter.mpr ⟨List.mem_of_getElem? (i := 808) (by decide +kernel), by decide +kernel⟩
theorem tm_X7_isDigit : zMT mX7_isDigit 0 := ⟨tcode_X7_isDigit, tini_RX7, ⟨by decide +kernel, by decide +kernel⟩, by decide +kernel, by decide, by decide +kernel, rfl⟩
theorem tmv_X7_isDigit : zMV mX7_isDigit 0 := ⟨tm_X7_isDigit, List.mem_filter.mpr ⟨List.mem_of_getElem? (i := 807) (by decide +kernel), by decide +kernel⟩, List.mem_filter.mpr ⟨List.mem_of_getElem? (i := 31) (by decide +kernel), by decide +kernel⟩⟩
abbrev mX7_isThere : zM := (yX7_isThere, cX7_isThere, 5, (some (.boolean)), none)
theorem tcode_X7_isThere : Cond.code yX7_isThere cX7_isThere 5 (some (.boolean)) ∈ zTB := List.mem_filter.mpr ⟨List.mem_of_getElem? (i := 833) (by decide +kernel), by decide +kernel⟩
theorem tm_X7_isThere : zMT mX7_isThere 2 := ⟨tcode_X7_isThere, tini_RX7, ⟨by decide +kernel, by decide +kernel⟩, by decide +kernel, by decide, by decide +kernel, rfl⟩
theorem tmv_X7_isThere : zMV mX7_isThere 2 := ⟨tm_X7_isThere, List.mem_filter.mpr ⟨List.mem_of_getElem? (i := 832) (by decide +kernel), by decide +kernel⟩, List.mem_filter.mpr ⟨List.mem_of_getElem? (i := 37) (by decide +kernel), by decide +kernel⟩⟩
abbrev mX7_item : zM := (yX7_item, cX7_item, 6, (some (.int)), none)
theorem tcode_X7_item : Cond.code yX7_item cX7_item 6 (some (.int)) ∈ zTB := List.mem_filter.mpr ⟨List.mem_of_getElem? (i := 850) (by decide +kernel), by decide +kernel⟩
theorem tm_X7_item : zMT mX7_item 5 := ⟨tcode_X7_item, tini_RX7, ⟨by decide +kernel, by decide +kernel⟩, by decide +kernel, by decide, by decide +kernel, rfl⟩
theorem tmv_X7_item : zMV mX7_item 5 := ⟨tm_X7_item, List.mem_filter.mpr ⟨List.mem_of_getElem? (i := 848) (by decide +kernel), by decide +kernel⟩, List.mem_filter.mpr ⟨List.mem_of_getElem? (i := 849) (by decide +kernel), by decide +kernel⟩⟩
abbrev mX7_kindEnd : zM := (yX7_kindEnd, cX7_kindEnd, 4, (some (.int)), none)
theorem tcode_X7_kindEnd : Cond.code yX7_kindEnd cX7_kindEnd 4 (some (.int)) ∈ zTB := List.mem_filter.mpr ⟨List.mem_of_getElem? (i := 884) (by decide +kernel), by decide +kernel⟩
theorem tm_X7_kindEnd : zMT mX7_kindEnd 2 := ⟨tcode_X7_kindEnd, tini_RX7, ⟨by decide +kernel, by decide +kernel⟩, by decide +kernel, by decide, by decide +kernel, rfl⟩
theorem tmv_X7_kindEnd : zMV mX7_kindEnd 2 := ⟨tm_X7_kindEnd, List.mem_filter.mpr ⟨List.mem_of_getElem? (i := 883) (by decide +kernel), by decide +kernel⟩, List.mem_filter.mpr ⟨List.mem_of_getElem? (i := 44) (by decide +kernel), by decide +kernel⟩⟩
abbrev mX7_kindRow : zM := (yX7_kindRow, cX7_kindRow, 5, (some (.int)), none)
theorem tcode_X7_kindRow : Cond.code yX7_kindRow cX7_kindRow 5 (some (.int)) ∈ zTB := List.mem_filter.mpr ⟨List.mem_of_getElem? (i := 879) (by decide +kernel), by decide +kernel⟩
theorem tm_X7_kindRow : zMT mX7_kindRow 2 := ⟨tcode_X7_kindRow, tini_RX7, ⟨by decide +kernel, by decide +kernel⟩, by decide +kernel, by decide, by decide +kernel, rfl⟩
theorem tmv_X7_kindRow : zMV mX7_kindRow 2 := ⟨tm_X7_kindRow, List.mem_filter.mpr ⟨List.mem_of_getElem? (i := 878) (by decide +kernel), by decide +kernel⟩, List.mem_filter.mpr ⟨List.mem_of_getElem? (i := 43) (by decide +kernel), by decide +kernel⟩⟩
abbrev mX7_lastRow : zM := (yX7_lastRow, cX7_lastRow, 1, (some (.int)), none)
theorem tcode_X7_lastRow : Cond.code yX7_lastRow cX7_lastRow 1 (some (.int)) ∈ zTB := List.mem_filter.mpr ⟨List.mem_of_getElem? (i := 796) (by decide +kernel), by decide +kernel⟩
theorem tm_X7_lastRow : zMT mX7_lastRow 0 := ⟨tcode_X7_lastRow, tini_RX7, ⟨by decide +kernel, by decide +kernel⟩, by decide +kernel, by decide, by decide +kernel, rfl⟩
theorem tmv_X7_lastRow : zMV mX7_lastRow 0 := ⟨tm_X7_lastRow, List.mem_filter.mpr ⟨List.mem_of_getElem? (i := 795) (by decide +kernel), by decide +kernel⟩, List.mem_filter.mpr ⟨List.mem_of_getElem? (i := 28) (by decide +kernel), by decide +kernel⟩⟩
abbrev mX7_lastWeight : zM := (yX7_lastWeight, cX7_lastWeight, 3, (some (.int)), none)
theorem tcode_X7_lastWeight : Cond.code yX7_lastWeight cX7_lastWeight 3 (some (.int)) ∈ zTB := List.mem_filter.mpr ⟨List.mem_of_getElem? (i := 820) (by decide +kernel), by decide +kernel⟩
theorem tm_X7_lastWeight : zMT mX7_lastWeight 0 := ⟨tcode_X7_lastWeight, tini_RX7, ⟨by decide +kernel, by decide +kernel⟩, by decide +kernel, by decide, by decide +kernel, rfl⟩
theorem tmv_X7_lastWeight : zMV mX7_lastWeight 0 := ⟨tm_X7_lastWeight, List.mem_filter.mpr ⟨List.mem_of_getElem? (i := 819) (by decide +kernel), by decide +kernel⟩, List.mem_filter.mpr ⟨List.mem_of_getElem? (i := 34) (by decide +kernel), by decide +kernel⟩⟩
abbrev mX7_least : zM := (yX7_least, cX7_least, 13, (some (.int)), none)
theorem tcode_X7_least : Cond.code yX7_least cX7_least 13 (some (.int)) ∈ zTB := List.mem_filter.mpr ⟨List.mem_of_getElem? (i := 909) (by decide +kernel), by decide +kernel⟩
theorem tm_X7_least : zMT mX7_least 3 := ⟨tcode_X7_least, tini_RX7, ⟨by decide +kernel, by decide +kernel⟩, by decide +kernel, by decide, by decide +kernel, rfl⟩
theorem tmv_X7_least : zMV mX7_least 3 := ⟨tm_X7_least, List.mem_filter.mpr ⟨List.mem_of_getElem? (i := 907) (by decide +kernel), by decide +kernel⟩, List.mem_filter.mpr ⟨List.mem_of_getElem? (i := 908) (by decide +kernel), by decide +kernel⟩⟩
abbrev mX7_look : zM := (yX7_look, cX7_look, 1, (some (.int)), none)
theorem tcode_X7_look : Cond.code yX7_look cX7_look 1 (some (.int)) ∈ zTB := List.mem_filter.mpr ⟨List.mem_of_getElem? (i := 780) (by decide +kernel), by decide +kernel⟩
theorem tm_X7_look : zMT mX7_look 0 := ⟨tcode_X7_look, tini_RX7, ⟨by decide +kernel, by decide +kernel⟩, by decide +kernel, by decide, by decide +kernel, rfl⟩
theorem tmv_X7_look : zMV mX7_look 0 := ⟨tm_X7_look, List.mem_filter.mpr ⟨List.mem_of_getElem? (i := 779) (by decide +kernel), by decide +kernel⟩, List.mem_filter.mpr ⟨List.mem_of_getElem? (i := 24) (by decide +kernel), by decide +kernel⟩⟩
abbrev mX7_mayGo : zM := (yX7_mayGo, cX7_mayGo, 11, (some (.boolean)), none)
theorem tcode_X7_mayGo : Cond.code yX7_mayGo cX7_mayGo 11 (some (.boolean)) ∈ zTB := List.mem_filter.mpr ⟨List.mem_of_getElem? (i := 888) (by decide +kernel), by decide +kernel⟩
theorem tm_X7_mayGo : zMT mX7_mayGo 5 := ⟨tcode_X7_mayGo, tini_RX7, ⟨by decide +kernel, by decide +kernel⟩, by decide +kernel, by decide, by decide +kernel, rfl⟩
theorem tmv_X7_mayGo : zMV mX7_mayGo 5 := ⟨tm_X7_mayGo, List.mem_filter.mpr ⟨List.mem_of_getElem? (i := 887) (by decide +kernel), by decide +kernel⟩, List.mem_filter.mpr ⟨List.mem_of_getElem? (i := 45) (by decide +kernel), by decide +kernel⟩⟩
abbrev mX7_mayServe : zM := (yX7_mayServe, cX7_mayServe, 6, (some (.boolean)), none)
theorem tcode_X7_mayServe : Cond.code yX7_mayServe cX7_mayServe 6 (some (.boolean)) ∈ zTB := List.mem_filter.mpr ⟨List.mem_of_getElem? (i := 900) (by decide +kernel), by decide +kernel⟩
theorem tm_X7_mayServe : zMT mX7_mayServe 3 := ⟨tcode_X7_mayServe, tini_RX7, ⟨by decide +kernel, by decide +kernel⟩, by decide +kernel, by decide, by decide +kernel, rfl⟩
theorem tmv_X7_mayServe : zMV mX7_mayServe 3 := ⟨tm_X7_mayServe, List.mem_filter.mpr ⟨List.mem_of_getElem? (i := 899) (by decide +kernel), by decide +kernel⟩, List.mem_filter.mpr ⟨List.mem_of_getElem? (i := 48) (by decide +kernel), by decide +kernel⟩⟩
abbrev mX7_must : zM := (yX7_must, cX7_must, 3, (some (.boolean)), none)
theorem tcode_X7_must : Cond.code yX7_must cX7_must 3 (some (.boolean)) ∈ zTB := List.mem_filter.mpr ⟨List.mem_of_getElem? (i := 784) (by decide +kernel), by decide +kernel⟩
theorem tm_X7_must : zMT mX7_must 2 := ⟨tcode_X7_must, tini_RX7, ⟨by decide +kernel, by decide +kernel⟩, by decide +kernel, by decide, by decide +kernel, rfl⟩
theorem tmv_X7_must : zMV mX7_must 2 := ⟨tm_X7_must, List.mem_filter.mpr ⟨List.mem_of_getElem? (i := 783) (by decide +kernel), by decide +kernel⟩, List.mem_filter.mpr ⟨List.mem_of_getElem? (i := 25) (by decide +kernel), by decide +kernel⟩⟩
abbrev mX7_next : zM := (yX7_next, cX7_next, 3, (some (.int)), none)
theorem tcode_X7_next : Cond.code yX7_next cX7_next 3 (some (.int)) ∈ zTB := List.mem_filter.mpr ⟨List.mem_of_getElem? (i := 825) (by decide +kernel), by decide +kernel⟩
theorem tm_X7_next : zMT mX7_next 2 := ⟨tcode_X7_next, tini_RX7, ⟨by decide +kernel, by decide +kernel⟩, by decide +kernel, by decide, by decide +kernel, rfl⟩
theorem tmv_X7_next : zMV mX7_next 2 := ⟨tm_X7_next, List.mem_filter.mpr ⟨List.mem_of_getElem? (i := 824) (by decide +kernel), by decide +kernel⟩, List.mem_filter.mpr ⟨List.mem_of_getElem? (i := 35) (by decide +kernel), by decide +kernel⟩⟩
abbrev mX7_number : zM := (yX7_number, cX7_number, 6, (some (.int)), none)
theorem tcode_X7_number : Cond.code yX7_number cX7_number 6 (some (.int)) ∈ zTB := List.mem_filter.mpr ⟨List.mem_of_getElem? (i := 804) (by decide +kernel), by decide +kernel⟩
theorem tm_X7_number : zMT mX7_number 2 := ⟨tcode_X7_number, tini_RX7, ⟨by decide +kernel, by decide +kernel⟩, by decide +kernel, by decide, by decide +kernel, rfl⟩
theorem tmv_X7_number : zMV mX7_number 2 := ⟨tm_X7_number, List.mem_filter.mpr ⟨List.mem_of_getElem? (i := 803) (by decide +kernel), by decide +kernel⟩, List.mem_filter.mpr ⟨List.mem_of_getElem? (i := 30) (by decide +kernel), by decide +kernel⟩⟩
abbrev mX7_onlyRow : zM := (yX7_onlyRow, cX7_onlyRow, 6, (some (.int)), none)
theorem tcode_X7_onlyRow : Cond.code yX7_onlyRow cX7_onlyRow 6 (some (.int)) ∈ zTB := List.mem_filter.mpr ⟨List.mem_of_getElem? (i := 892) (by decide +kernel), by decide +kernel⟩
theorem tm_X7_onlyRow : zMT mX7_onlyRow 3 := ⟨tcode_X7_onlyRow, tini_RX7, ⟨by decide +kernel, by decide +kernel⟩, by decide +kernel, by decide, by decide +kernel, rfl⟩
theorem tmv_X7_onlyRow : zMV mX7_onlyRow 3 := ⟨tm_X7_onlyRow, List.mem_filter.mpr ⟨List.mem_of_getElem? (i := 891) (by decide +kernel), by decide +kernel⟩, List.mem_filter.mpr ⟨List.mem_of_getElem? (i := 46) (by decide +kernel), by decide +kernel⟩⟩
abbrev mX7_part : zM := (yX7_part, cX7_part, 5, none, none)
theorem tcode_X7_part : Cond.code yX7_part cX7_part 5 none ∈ zTB := List.mem_filter.mpr ⟨List.mem_of_getElem? (i := 904) (by decide +kernel), by decide +kernel⟩
theorem tm_X7_part : zMT mX7_part 3 := ⟨tcode_X7_part, tini_RX7, ⟨by decide +kernel, by decide +kernel⟩, by decide +kernel, by decide, by decide +kernel, rfl⟩
theorem tmv_X7_part : zMV mX7_part 3 := ⟨tm_X7_part, List.mem_filter.mpr ⟨List.mem_of_getElem? (i := 903) (by decide +kernel), by decide +kernel⟩, List.mem_filter.mpr ⟨List.mem_of_getElem? (i := 49) (by decide +kernel), by decide +kernel⟩⟩
abbrev mX7_price : zM := (yX7_price, cX7_price, 6, (some (.long)), none)
theorem tcode_X7_price : Cond.code yX7_price cX7_price 6 (some (.long)) ∈ zTB := List.mem_filter.mpr ⟨List.mem_of_getElem? (i := 865) (by decide +kernel), by decide +kernel⟩
theorem tm_X7_price : zMT mX7_price 3 := ⟨tcode_X7_price, tini_RX7, ⟨by decide +kernel, by decide +kernel⟩, by decide +kernel, by decide, by decide +kernel, rfl⟩
theorem tmv_X7_price : zMV mX7_price 3 := ⟨tm_X7_price, List.mem_filter.mpr ⟨List.mem_of_getElem? (i := 863) (by decide +kernel), by decide +kernel⟩, List.mem_filter.mpr ⟨List.mem_of_getElem? (i := 864) (by decide +kernel), by decide +kernel⟩⟩
abbrev mX7_print : zM := (yX7_print, cX7_print, 3, (some (.int)), none)
theorem tcode_X7_print : Cond.code yX7_print cX7_print 3 (some (.int)) ∈ zTB := List.mem_filter.mpr ⟨List.mem_of_getElem? (i := 951) (by decide +kernel), by decide +kernel⟩
theorem tm_X7_print : zMT mX7_print 0 := ⟨tcode_X7_print, tini_RX7, ⟨by decide +kernel, by decide +kernel⟩, by decide +kernel, by decide, by decide +kernel, rfl⟩
theorem tmv_X7_print : zMV mX7_print 0 := ⟨tm_X7_print, List.mem_filter.mpr ⟨List.mem_of_getElem? (i := 949) (by decide +kernel), by decide +kernel⟩, List.mem_filter.mpr ⟨List.mem_of_getElem? (i := 950) (by decide +kernel), by decide +kernel⟩⟩
abbrev mX7_put : zM := (yX7_put, cX7_put, 2, none, none)
theorem tcode_X7_put : Cond.code yX7_put cX7_put 2 none ∈ zTB := List.mem_filter.mpr ⟨List.mem_of_getElem? (i := 931) (by decide +kernel), by decide +kernel⟩
theorem tm_X7_put : zMT mX7_put 1 := ⟨tcode_X7_put, tini_RX7, ⟨by decide +kernel, by decide +kernel⟩, by decide +kernel, by decide, by decide +kernel, rfl⟩
theorem tmv_X7_put : zMV mX7_put 1 := ⟨tm_X7_put, List.mem_filter.mpr ⟨List.mem_of_getElem? (i := 930) (by decide +kernel), by decide +kernel⟩, List.mem_filter.mpr ⟨List.mem_of_getElem? (i := 51) (by decide +kernel), by decide +kernel⟩⟩
abbrev mX7_putEach : zM := (yX7_putEach, cX7_putEach, 6, none, none)
theorem tcode_X7_putEach : Cond.code yX7_putEach cX7_putEach 6 none ∈ zTB := List.mem_filter.mpr ⟨List.mem_of_getElem? (i := 943) (by decide +kernel), by decide +kernel⟩
theorem tm_X7_putEach : zMT mX7_putEach 3 := ⟨tcode_X7_putEach, tini_RX7, ⟨by decide +kernel, by decide +kernel⟩, by decide +kernel, by decide, by decide +kernel, rfl⟩
theorem tmv_X7_putEach : zMV mX7_putEach 3 := ⟨tm_X7_putEach, List.mem_filter.mpr ⟨List.mem_of_getElem? (i := 942) (by decide +kernel), by decide +kernel⟩, List.mem_filter.mpr ⟨List.mem_of_getElem? (i := 54) (by decide +kernel), by decide +kernel⟩⟩
abbrev mX7_putKind : zM := (yX7_putKind, cX7_putKind, 8, (some (.boolean)), none)
theorem tcode_X7_putKind : Cond.code yX7_putKind cX7_putKind 8 (some (.boolean)) ∈ zTB := List.mem_filter.mpr ⟨List.mem_of_getElem? (i := 927) (by decide +kernel), by decide +kernel⟩
theorem tm_X7_putKind : zMT mX7_putKind 2 := ⟨tcode_X7_putKind, tini_RX7, ⟨by decide +kernel, by decide +kernel⟩, by decide +kernel, by decide, by decide +kernel, rfl⟩
theorem tmv_X7_putKind : zMV mX7_putKind 2 := ⟨tm_X7_putKind, List.mem_filter.mpr ⟨List.mem_of_getElem? (i := 926) (by decide +kernel), by decide +kernel⟩, List.mem_filter.mpr ⟨List.mem_of_getElem? (i := 50) (by decide +kernel), by decide +kernel⟩⟩
abbrev mX7_putNumber : zM := (yX7_putNumber, cX7_putNumber, 3, none, none)
theorem tcode_X7_putNumber : Cond.code yX7_putNumber cX7_putNumber 3 none ∈ zTB := List.mem_filter.mpr ⟨List.mem_of_getElem? (i := 935) (by decide +kernel), by decide +kernel⟩
theorem tm_X7_putNumber : zMT mX7_putNumber 1 := ⟨tcode_X7_putNumber, tini_RX7, ⟨by decide +kernel, by decide +kernel⟩, by decide +kernel, by decide, by decide +kernel, rfl⟩
theorem tmv_X7_putNumber : zMV mX7_putNumber 1 := ⟨tm_X7_putNumber, List.mem_filter.mpr ⟨List.mem_of_getElem? (i := 934) (by decide +kernel), by decide +kernel⟩, List.mem_filter.mpr ⟨List.mem_of_getElem? (i := 52) (by decide +kernel), by decide +kernel⟩⟩
abbrev mX7_putOnly : zM := (yX7_putOnly, cX7_putOnly, 6, none, none)
theorem tcode_X7_putOnly : Cond.code yX7_putOnly cX7_putOnly 6 none ∈ zTB := List.mem_filter.mpr ⟨List.mem_of_getElem? (i := 947) (by decide +kernel), by decide +kernel⟩
theorem tm_X7_putOnly : zMT mX7_putOnly 4 := ⟨tcode_X7_putOnly, tini_RX7, ⟨by decide +kernel, by decide +kernel⟩, by decide +kernel, by decide, by decide +kernel, rfl⟩
theorem tmv_X7_putOnly : zMV mX7_putOnly 4 := ⟨tm_X7_putOnly, List.mem_filter.mpr ⟨List.mem_of_getElem? (i := 946) (by decide +kernel), by decide +kernel⟩, List.mem_filter.mpr ⟨List.mem_of_getElem? (i := 55) (by decide +kernel), by decide +kernel⟩⟩
abbrev mX7_putRow : zM := (yX7_putRow, cX7_putRow, 6, none, none)
theorem tcode_X7_putRow : Cond.code yX7_putRow cX7_putRow 6 none ∈ zTB := List.mem_filter.mpr ⟨List.mem_of_getElem? (i := 939) (by decide +kernel), by decide +kernel⟩
theorem tm_X7_putRow : zMT mX7_putRow 5 := ⟨tcode_X7_putRow, tini_RX7, ⟨by decide +kernel, by decide +kernel⟩, by decide +kernel, by decide, by decide +kernel, rfl⟩
theorem tmv_X7_putRow : zMV mX7_putRow 5 := ⟨tm_X7_putRow, List.mem_filter.mpr ⟨List.mem_of_getElem? (i := 938) (by decide +kernel), by decide +kernel⟩, List.mem_filter.mpr ⟨List.mem_of_getElem? (i := 53) (by decide +kernel), by decide +kernel⟩⟩
abbrev mX7_read : zM := (yX7_read, cX7_read, 4, (some (.int)), none)
theorem tcode_X7_read : Cond.code yX7_read cX7_read 4 (some (.int)) ∈ zTB := List.mem_filter.mpr ⟨List.mem_of_getElem? (i := 772) (by decide +kernel), by decide +kernel⟩
theorem tm_X7_read : zMT mX7_read 0 := ⟨tcode_X7_read, tini_RX7, ⟨by decide +kernel, by decide +kernel⟩, by decide +kernel, by decide, by decide +kernel, rfl⟩
theorem tmv_X7_read : zMV mX7_read 0 := ⟨tm_X7_read, List.mem_filter.mpr ⟨List.mem_of_getElem? (i := 770) (by decide +kernel), by decide +kernel⟩, List.mem_filter.mpr ⟨List.mem_of_getElem? (i := 771) (by decide +kernel), by decide +kernel⟩⟩
abbrev mX7_readApart : zM := (yX7_readApart, cX7_readApart, 6, none, none)
theorem tcode_X7_readApart : Cond.code yX7_readApart cX7_readApart 6 none ∈ zTB := List.mem_filter.mpr ⟨List.mem_of_getElem? (i := 837) (by decide +kernel), by decide +kernel⟩
theorem tm_X7_readApart : zMT mX7_readApart 1 := ⟨tcode_X7_readApart, tini_RX7, ⟨by decide +kernel, by decide +kernel⟩, by decide +kernel, by decide, by decide +kernel, rfl⟩
theorem tmv_X7_readApart : zMV mX7_readApart 1 := ⟨tm_X7_readApart, List.mem_filter.mpr ⟨List.mem_of_getElem? (i := 836) (by decide +kernel), by decide +kernel⟩, List.mem_filter.mpr ⟨List.mem_of_getElem? (i := 38) (by decide +kernel), by decide +kernel⟩⟩
abbrev mX7_readKind : zM := (yX7_readKind, cX7_readKind, 6, none, none)
theorem tcode_X7_readKind : Cond.code yX7_readKind cX7_readKind 6 none ∈ zTB := List.mem_filter.mpr ⟨List.mem_of_getElem? (i := 788) (by decide +kernel), by decide +kernel⟩
theorem tm_X7_readKind : zMT mX7_readKind 1 := ⟨tcode_X7_readKind, tini_RX7, ⟨by decide +kernel, by decide +kernel⟩, by decide +kernel, by decide, by decide +kernel, rfl⟩
theorem tmv_X7_readKind : zMV mX7_readKind 1 := ⟨tm_X7_readKind, List.mem_filter.mpr ⟨List.mem_of_getElem? (i := 787) (by decide +kernel), by decide +kernel⟩, List.mem_filter.mpr ⟨List.mem_of_getElem? (i := 26) (by decide +kernel), by decide +kernel⟩⟩
abbrev mX7_readOnce : zM := (yX7_readOnce, cX7_readOnce, 7, none, none)
theorem tcode_X7_readOnce : Cond.code yX7_readOnce cX7_readOnce 7 none ∈ zTB := List.mem_filter.mpr ⟨List.mem_of_getElem? (i := 845) (by decide +kernel), by decide +kernel⟩
theorem tm_X7_readOnce : zMT mX7_readOnce 2 := ⟨tcode_X7_readOnce, tini_RX7, ⟨by decide +kernel, by decide +kernel⟩, by decide +kernel, by decide, by decide +kernel, rfl⟩
theorem tmv_X7_readOnce : zMV mX7_readOnce 2 := ⟨tm_X7_readOnce, List.mem_filter.mpr ⟨List.mem_of_getElem? (i := 844) (by decide +kernel), by decide +kernel⟩, List.mem_filter.mpr ⟨List.mem_of_getElem? (i := 40) (by decide +kernel), by decide +kernel⟩⟩
abbrev mX7_readOnceEach : zM := (yX7_readOnceEach, cX7_readOnceEach, 6, none, none)
theorem tcode_X7_readOnceEach : Cond.code yX7_readOnceEach cX7_readOnceEach 6 none ∈ zTB := List.mem_filter.mpr ⟨List.mem_of_getElem? (i := 829) (by decide +kernel), by decide +kernel⟩
theorem tm_X7_readOnceEach : zMT mX7_readOnceEach 2 := ⟨tcode_X7_readOnceEach, tini_RX7, ⟨by decide +kernel, by decide +kernel⟩, by decide +kernel, by decide, by decide +kernel, rfl⟩
theorem tmv_X7_readOnceEach : zMV mX7_readOnceEach 2 := ⟨tm_X7_readOnceEach, List.mem_filter.mpr ⟨List.mem_of_getElem? (i := 828) (by decide +kernel), by decide +kernel⟩, List.mem_filter.mpr ⟨List.mem_of_getElem? (i := 36) (by decide +kernel), by decide +kernel⟩⟩
abbrev mX7_readRow : zM := (yX7_readRow, cX7_readRow, 3, none, none)
theorem tcode_X7_readRow : Cond.code yX7_readRow cX7_readRow 3 none ∈ zTB := List.mem_filter.mpr ⟨List.mem_of_getElem? (i := 776) (by decide +kernel), by decide +kernel⟩
theorem tm_X7_readRow : zMT mX7_readRow 0 := ⟨tcode_X7_readRow, tini_RX7, ⟨by decide +kernel, by decide +kernel⟩, by decide +kernel, by decide, by decide +kernel, rfl⟩
theorem tmv_X7_readRow : zMV mX7_readRow 0 := ⟨tm_X7_readRow, List.mem_filter.mpr ⟨List.mem_of_getElem? (i := 775) (by decide +kernel), by decide +kernel⟩, List.mem_filter.mpr ⟨List.mem_of_getElem? (i := 23) (by decide +kernel), by decide +kernel⟩⟩
abbrev mX7_readStep : zM := (yX7_readStep, cX7_readStep, 4, none, none)
theorem tcode_X7_readStep : Cond.code yX7_readStep cX7_readStep 4 none ∈ zTB := List.mem_filter.mpr ⟨List.mem_of_getElem? (i := 816) (by decide +kernel), by decide +kernel⟩
theorem tm_X7_readStep : zMT mX7_readStep 1 := ⟨tcode_X7_readStep, tini_RX7, ⟨by decide +kernel, by decide +kernel⟩, by decide +kernel, by decide, by decide +kernel, rfl⟩
theorem tmv_X7_readStep : zMV mX7_readStep 1 := ⟨tm_X7_readStep, List.mem_filter.mpr ⟨List.mem_of_getElem? (i := 815) (by decide +kernel), by decide +kernel⟩, List.mem_filter.mpr ⟨List.mem_of_getElem? (i := 33) (by decide +kernel), by decide +kernel⟩⟩
abbrev mX7_reckon : zM := (yX7_reckon, cX7_reckon, 21, (some (.long)), none)
theorem tcode_X7_reckon : Cond.code yX7_reckon cX7_reckon 21 (some (.long)) ∈ zTB := List.mem_filter.mpr ⟨List.mem_of_getElem? (i := 875) (by decide +kernel), by decide +kernel⟩
theorem tm_X7_reckon : zMT mX7_reckon 4 := ⟨tcode_X7_reckon, tini_RX7, ⟨by decide +kernel, by decide +kernel⟩, by decide +kernel, by decide, by decide +kernel, rfl⟩
theorem tmv_X7_reckon : zMV mX7_reckon 4 := ⟨tm_X7_reckon, List.mem_filter.mpr ⟨List.mem_of_getElem? (i := 874) (by decide +kernel), by decide +kernel⟩, List.mem_filter.mpr ⟨List.mem_of_getElem? (i := 42) (by decide +kernel), by decide +kernel⟩⟩
abbrev mX7_refusal : zM := (yX7_refusal, cX7_refusal, 5, (some (.int)), none)
theorem tcode_X7_refusal : Cond.code yX7_refusal cX7_refusal 5 (some (.int)) ∈ zTB := List.mem_filter.mpr ⟨List.mem_of_getElem? (i := 869) (by decide +kernel), by decide +kernel⟩
theorem tm_X7_refusal : zMT mX7_refusal 3 := ⟨tcode_X7_refusal, tini_RX7, ⟨by decide +kernel, by decide +kernel⟩, by decide +kernel, by decide, by decide +kernel, rfl⟩
theorem tmv_X7_refusal : zMV mX7_refusal 3 := ⟨tm_X7_refusal, List.mem_filter.mpr ⟨List.mem_of_getElem? (i := 868) (by decide +kernel), by decide +kernel⟩, List.mem_filter.mpr ⟨List.mem_of_getElem? (i := 41) (by decide +kernel), by decide +kernel⟩⟩
abbrev mX7_rowOf : zM := (yX7_rowOf, cX7_rowOf, 7, (some (.int)), none)
theorem tcode_X7_rowOf : Cond.code yX7_rowOf cX7_rowOf 7 (some (.int)) ∈ zTB := List.mem_filter.mpr ⟨List.mem_of_getElem? (i := 896) (by decide +kernel), by decide +kernel⟩
theorem tm_X7_rowOf : zMT mX7_rowOf 4 := ⟨tcode_X7_rowOf, tini_RX7, ⟨by decide +kernel, by decide +kernel⟩, by decide +kernel, by decide, by decide +kernel, rfl⟩
theorem tmv_X7_rowOf : zMV mX7_rowOf 4 := ⟨tm_X7_rowOf, List.mem_filter.mpr ⟨List.mem_of_getElem? (i := 895) (by decide +kernel), by decide +kernel⟩, List.mem_filter.mpr ⟨List.mem_of_getElem? (i := 47) (by decide +kernel), by decide +kernel⟩⟩
abbrev mX7_service : zM := (yX7_service, cX7_service, 5, (some (.int)), none)
theorem tcode_X7_service : Cond.code yX7_service cX7_service 5 (some (.int)) ∈ zTB := List.mem_filter.mpr ⟨List.mem_of_getElem? (i := 860) (by decide +kernel), by decide +kernel⟩
theorem tm_X7_service : zMT mX7_service 2 := ⟨tcode_X7_service, tini_RX7, ⟨by decide +kernel, by decide +kernel⟩, by decide +kernel, by decide, by decide +kernel, rfl⟩
theorem tmv_X7_service : zMV mX7_service 2 := ⟨tm_X7_service, List.mem_filter.mpr ⟨List.mem_of_getElem? (i := 858) (by decide +kernel), by decide +kernel⟩, List.mem_filter.mpr ⟨List.mem_of_getElem? (i := 859) (by decide +kernel), by decide +kernel⟩⟩
abbrev mX7_sign : zM := (yX7_sign, cX7_sign, 2, none, none)
theorem tcode_X7_sign : Cond.code yX7_sign cX7_sign 2 none ∈ zTB := List.mem_filter.mpr ⟨List.mem_of_getElem? (i := 768) (by decide +kernel), by decide +kernel⟩
theorem tm_X7_sign : zMT mX7_sign 1 := ⟨tcode_X7_sign, tini_RX7, ⟨by decide +kernel, by decide +kernel⟩, by decide +kernel, by decide, by decide +kernel, rfl⟩
theorem tmv_X7_sign : zMV mX7_sign 1 := ⟨tm_X7_sign, List.mem_filter.mpr ⟨List.mem_of_getElem? (i := 766) (by decide +kernel), by decide +kernel⟩, List.mem_filter.mpr ⟨List.mem_of_getElem? (i := 767) (by decide +kernel), by decide +kernel⟩⟩
abbrev mX7_thrown : zM := (yX7_thrown, cX7_thrown, 1, (some (.int)), none)
theorem tcode_X7_thrown : Cond.code yX7_thrown cX7_thrown 1 (some (.int)) ∈ zTB := List.mem_filter.mpr ⟨List.mem_of_getElem? (i := 764) (by decide +kernel), by decide +kernel⟩
theorem tm_X7_thrown : zMT mX7_thrown 0 := ⟨tcode_X7_thrown, tini_RX7, ⟨by decide +kernel, by decide +kernel⟩, by decide +kernel, by decide, by decide +kernel, rfl⟩
theorem tmv_X7_thrown : zMV mX7_thrown 0 := ⟨tm_X7_thrown, List.mem_filter.mpr ⟨List.mem_of_getElem? (i := 762) (by decide +kernel), by decide +kernel⟩, List.mem_filter.mpr ⟨List.mem_of_getElem? (i := 763) (by decide +kernel), by decide +kernel⟩⟩
theorem k_RL_15 (M : zM) (hM : M.1.cls = RL) : zLK M 15 mX6_init := Or.inl (by rw [hM]; exact List.mem_filter.mpr ⟨List.mem_of_getElem? (i := 74) (by decide +kernel), by decide +kernel⟩)
theorem k_RX6_3 (M : zM) (hM : M.1.cls = RX6) : Cond.methodLink M.1.cls 3 objectInit ∈ zTB := by rw [hM]; exact List.mem_filter.mpr ⟨List.mem_of_getElem? (i := 77) (by decide +kernel), by decide +kernel⟩
theorem k_RX5_3 (M : zM) (hM : M.1.cls = RX5) : Cond.methodLink M.1.cls 3 objectInit ∈ zTB := by rw [hM]; exact List.mem_filter.mpr ⟨List.mem_of_getElem? (i := 85) (by decide +kernel), by decide +kernel⟩
theorem k_RX4_3 (M : zM) (hM : M.1.cls = RX4) : Cond.methodLink M.1.cls 3 objectInit ∈ zTB := by rw [hM]; exact List.mem_filter.mpr ⟨List.mem_of_getElem? (i := 114) (by decide +kernel), by decide +kernel⟩
theorem k_RX0_3 (M : zM) (hM : M.1.cls = RX0) : Cond.methodLink M.1.cls 3 objectInit ∈ zTB := by rw [hM]; exact List.mem_filter.mpr ⟨List.mem_of_getElem? (i := 129) (by decide +kernel), by decide +kernel⟩
theorem k_RX6_45 (M : zM) (hM : M.1.cls = RX6) : zLK M 45 mX1_init := Or.inl (by rw [hM]; exact List.mem_filter.mpr ⟨List.mem_of_getElem? (i := 153) (by decide +kernel), by decide +kernel⟩)
theorem k_RX1_3 (M : zM) (hM : M.1.cls = RX1) : Cond.methodLink M.1.cls 3 objectInit ∈ zTB := by rw [hM]; exact List.mem_filter.mpr ⟨List.mem_of_getElem? (i := 156) (by decide +kernel), by decide +kernel⟩
theorem k_RX3_3 (M : zM) (hM : M.1.cls = RX3) : Cond.methodLink M.1.cls 3 objectInit ∈ zTB := by rw [hM]; exact List.mem_filter.mpr ⟨List.mem_of_getElem? (i := 163) (by decide +kernel), by decide +kernel⟩
theorem k_RL_19 (M : zM) (hM : M.1.cls = RL) : zLK M 19 mX6_sign := Or.inl (by rw [hM]; exact List.mem_filter.mpr ⟨List.mem_of_getElem? (i := 268) (by decide +kernel), by decide +kernel⟩)
theorem k_RX6_46 (M : zM) (hM : M.1.cls = RX6) : zLK M 46 mX6_isWithin := Or.inl (by rw [hM]; exact List.mem_filter.mpr ⟨List.mem_of_getElem? (i := 272) (by decide +kernel), by decide +kernel⟩)
theorem k_RX6_50 (M : zM) (hM : M.1.cls = RX6) : zLK M 50 mX5_append := Or.inl (by rw [hM]; exact List.mem_filter.mpr ⟨List.mem_of_getElem? (i := 275) (by decide +kernel), by decide +kernel⟩)
theorem k_RL_24 (M : zM) (hM : M.1.cls = RL) : zLK M 24 mX6_read := Or.inl (by rw [hM]; exact List.mem_filter.mpr ⟨List.mem_of_getElem? (i := 282) (by decide +kernel), by decide +kernel⟩)
theorem k_RX6_58 (M : zM) (hM : M.1.cls = RX6) : zLK M 58 mX6_slot := Or.inl (by rw [hM]; exact List.mem_filter.mpr ⟨List.mem_of_getElem? (i := 286) (by decide +kernel), by decide +kernel⟩)
theorem k_RX6_63 (M : zM) (hM : M.1.cls = RX6) : zLK M 63 mX5_readInto := Or.inl (by rw [hM]; exact List.mem_filter.mpr ⟨List.mem_of_getElem? (i := 291) (by decide +kernel), by decide +kernel⟩)
theorem k_RX5_30 (M : zM) (hM : M.1.cls = RX5) : zLK M 30 mX1_clear := Or.inl (by rw [hM]; exact List.mem_filter.mpr ⟨List.mem_of_getElem? (i := 295) (by decide +kernel), by decide +kernel⟩)
theorem k_RX1_18 (M : zM) (hM : M.1.cls = RX1) : zLK M 18 mX3_clear := Or.inl (by rw [hM]; exact List.mem_filter.mpr ⟨List.mem_of_getElem? (i := 299) (by decide +kernel), by decide +kernel⟩)
theorem k_RX5_45 (M : zM) (hM : M.1.cls = RX5) : zLK M 45 mX5_readRow := Or.inl (by rw [hM]; exact List.mem_filter.mpr ⟨List.mem_of_getElem? (i := 306) (by decide +kernel), by decide +kernel⟩)
theorem k_RX5_57 (M : zM) (hM : M.1.cls = RX5) : zLK M 57 mX5_signHere := Or.inl (by rw [hM]; exact List.mem_filter.mpr ⟨List.mem_of_getElem? (i := 310) (by decide +kernel), by decide +kernel⟩)
theorem k_RX5_61 (M : zM) (hM : M.1.cls = RX5) : zLK M 61 mX5_mayBegin := Or.inl (by rw [hM]; exact List.mem_filter.mpr ⟨List.mem_of_getElem? (i := 317) (by decide +kernel), by decide +kernel⟩)
theorem k_RX5_65 (M : zM) (hM : M.1.cls = RX5) : zLK M 65 mX5_numbersOf := Or.inl (by rw [hM]; exact List.mem_filter.mpr ⟨List.mem_of_getElem? (i := 321) (by decide +kernel), by decide +kernel⟩)
theorem k_RX5_48 (M : zM) (hM : M.1.cls = RX5) : zLK M 48 mX5_expect := Or.inl (by rw [hM]; exact List.mem_filter.mpr ⟨List.mem_of_getElem? (i := 324) (by decide +kernel), by decide +kernel⟩)
theorem k_RX5_69 (M : zM) (hM : M.1.cls = RX5) : zLK M 69 mX5_readNumber := Or.inl (by rw [hM]; exact List.mem_filter.mpr ⟨List.mem_of_getElem? (i := 328) (by decide +kernel), by decide +kernel⟩)
theorem k_RX5_84 (M : zM) (hM : M.1.cls = RX5) : zLK M 84 mX5_isAsSaid := Or.inl (by rw [hM]; exact List.mem_filter.mpr ⟨List.mem_of_getElem? (i := 333) (by decide +kernel), by decide +kernel⟩)
theorem k_RX6_170 (M : zM) (hM : M.1.cls = RX6) : zLK M 170 mX1_place := Or.inl (by rw [hM]; exact List.mem_filter.mpr ⟨List.mem_of_getElem? (i := 343) (by decide +kernel), by decide +kernel⟩)
theorem k_RX5_109 (M : zM) (hM : M.1.cls = RX5) : zLK M 109 mX3_lastWeight := Or.inl (by rw [hM]; exact List.mem_filter.mpr ⟨List.mem_of_getElem? (i := 347) (by decide +kernel), by decide +kernel⟩)
theorem k_RX5_118 (M : zM) (hM : M.1.cls = RX5) : zLK M 118 mX5_isExcludable := Or.inl (by rw [hM]; exact List.mem_filter.mpr ⟨List.mem_of_getElem? (i := 352) (by decide +kernel), by decide +kernel⟩)
theorem k_RX5_122 (M : zM) (hM : M.1.cls = RX5) : zLK M 122 mX3_excludes := Or.inl (by rw [hM]; exact List.mem_filter.mpr ⟨List.mem_of_getElem? (i := 356) (by decide +kernel), by decide +kernel⟩)
theorem k_RX5_73 (M : zM) (hM : M.1.cls = RX5) : zLK M 73 mX5_take := Or.inl (by rw [hM]; exact List.mem_filter.mpr ⟨List.mem_of_getElem? (i := 360) (by decide +kernel), by decide +kernel⟩)
theorem k_RX5_125 (M : zM) (hM : M.1.cls = RX5) : zLK M 125 mX5_begin := Or.inl (by rw [hM]; exact List.mem_filter.mpr ⟨List.mem_of_getElem? (i := 364) (by decide +kernel), by decide +kernel⟩)
theorem k_RX5_132 (M : zM) (hM : M.1.cls = RX5) : zLK M 132 mX1_place := Or.inl (by rw [hM]; exact List.mem_filter.mpr ⟨List.mem_of_getElem? (i := 368) (by decide +kernel), by decide +kernel⟩)
theorem k_RX5_128 (M : zM) (hM : M.1.cls = RX5) : zLK M 128 mX5_takeOf := Or.inl (by rw [hM]; exact List.mem_filter.mpr ⟨List.mem_of_getElem? (i := 369) (by decide +kernel), by decide +kernel⟩)
theorem k_RX5_140 (M : zM) (hM : M.1.cls = RX5) : zLK M 140 mX3_addStep := Or.inl (by rw [hM]; exact List.mem_filter.mpr ⟨List.mem_of_getElem? (i := 373) (by decide +kernel), by decide +kernel⟩)
theorem k_RX5_143 (M : zM) (hM : M.1.cls = RX5) : zLK M 143 mX3_exclude := Or.inl (by rw [hM]; exact List.mem_filter.mpr ⟨List.mem_of_getElem? (i := 378) (by decide +kernel), by decide +kernel⟩)
theorem k_RX6_67 (M : zM) (hM : M.1.cls = RX6) : zLK M 67 mX5_empty := Or.inl (by rw [hM]; exact List.mem_filter.mpr ⟨List.mem_of_getElem? (i := 382) (by decide +kernel), by decide +kernel⟩)
theorem k_RL_29 (M : zM) (hM : M.1.cls = RL) : zLK M 29 mX6_item := Or.inl (by rw [hM]; exact List.mem_filter.mpr ⟨List.mem_of_getElem? (i := 386) (by decide +kernel), by decide +kernel⟩)
theorem k_RX6_70 (M : zM) (hM : M.1.cls = RX6) : zLK M 70 mX6_isName := Or.inl (by rw [hM]; exact List.mem_filter.mpr ⟨List.mem_of_getElem? (i := 390) (by decide +kernel), by decide +kernel⟩)
theorem k_RX6_74 (M : zM) (hM : M.1.cls = RX6) : zLK M 74 mX6_isMeasure := Or.inl (by rw [hM]; exact List.mem_filter.mpr ⟨List.mem_of_getElem? (i := 391) (by decide +kernel), by decide +kernel⟩)
theorem k_RX6_81 (M : zM) (hM : M.1.cls = RX6) : zLK M 81 mX2_init := Or.inl (by rw [hM]; exact List.mem_filter.mpr ⟨List.mem_of_getElem? (i := 397) (by decide +kernel), by decide +kernel⟩)
theorem k_RX2_1 (M : zM) (hM : M.1.cls = RX2) : Cond.methodLink M.1.cls 1 objectInit ∈ zTB := by rw [hM]; exact List.mem_filter.mpr ⟨List.mem_of_getElem? (i := 400) (by decide +kernel), by decide +kernel⟩
theorem k_RL_34 (M : zM) (hM : M.1.cls = RL) : zLK M 34 mX6_service := Or.inl (by rw [hM]; exact List.mem_filter.mpr ⟨List.mem_of_getElem? (i := 427) (by decide +kernel), by decide +kernel⟩)
theorem k_RX6_84 (M : zM) (hM : M.1.cls = RX6) : zLK M 84 mX6_itemOf := Or.inl (by rw [hM]; exact List.mem_filter.mpr ⟨List.mem_of_getElem? (i := 431) (by decide +kernel), by decide +kernel⟩)
theorem k_RX6_92 (M : zM) (hM : M.1.cls = RX6) : zLK M 92 mJ6_bitCount_0f7a4 := Or.inl (by rw [hM]; exact List.mem_filter.mpr ⟨List.mem_of_getElem? (i := 436) (by decide +kernel), by decide +kernel⟩)
theorem k_RL_41 (M : zM) (hM : M.1.cls = RL) : zLK M 41 mX6_price := Or.inl (by rw [hM]; exact List.mem_filter.mpr ⟨List.mem_of_getElem? (i := 442) (by decide +kernel), by decide +kernel⟩)
theorem k_RX6_100 (M : zM) (hM : M.1.cls = RX6) : zLK M 100 mX6_pricingRefusal := Or.inl (by rw [hM]; exact List.mem_filter.mpr ⟨List.mem_of_getElem? (i := 447) (by decide +kernel), by decide +kernel⟩)
theorem k_RX6_104 (M : zM) (hM : M.1.cls = RX6) : zLK M 104 mX6_latest := Or.inl (by rw [hM]; exact List.mem_filter.mpr ⟨List.mem_of_getElem? (i := 452) (by decide +kernel), by decide +kernel⟩)
theorem k_RX6_111 (M : zM) (hM : M.1.cls = RX6) : zLK M 111 mX6_kindOf := Or.inl (by rw [hM]; exact List.mem_filter.mpr ⟨List.mem_of_getElem? (i := 457) (by decide +kernel), by decide +kernel⟩)
theorem k_RX6_115 (M : zM) (hM : M.1.cls = RX6) : zLK M 115 mX0_make := Or.inl (by rw [hM]; exact List.mem_filter.mpr ⟨List.mem_of_getElem? (i := 458) (by decide +kernel), by decide +kernel⟩)
theorem k_RX0_31 (M : zM) (hM : M.1.cls = RX0) : zLK M 31 mX3_takes := Or.inl (by rw [hM]; exact List.mem_filter.mpr ⟨List.mem_of_getElem? (i := 462) (by decide +kernel), by decide +kernel⟩)
theorem k_RX3_76 (M : zM) (hM : M.1.cls = RX3) : zLK M 76 mX3_takesServices := Or.inl (by rw [hM]; exact List.mem_filter.mpr ⟨List.mem_of_getElem? (i := 466) (by decide +kernel), by decide +kernel⟩)
theorem k_RX3_80 (M : zM) (hM : M.1.cls = RX3) : zLK M 80 mX2_has := Or.inl (by rw [hM]; exact List.mem_filter.mpr ⟨List.mem_of_getElem? (i := 470) (by decide +kernel), by decide +kernel⟩)
theorem k_RX0_37 (M : zM) (hM : M.1.cls = RX0) : zLK M 37 mX3_weightOf := Or.inl (by rw [hM]; exact List.mem_filter.mpr ⟨List.mem_of_getElem? (i := 474) (by decide +kernel), by decide +kernel⟩)
theorem tl_RX3_93 : Cond.methodLink RX3 93 yJ9_max_f86c9 ∈ zTB := List.mem_filter.mpr ⟨List.mem_of_getElem? (i := 481) (by decide +kernel), by decide +kernel⟩
theorem k_RX0_41 (M : zM) (hM : M.1.cls = RX0) : zLK M 41 mX3_stepFor := Or.inl (by rw [hM]; exact List.mem_filter.mpr ⟨List.mem_of_getElem? (i := 484) (by decide +kernel), by decide +kernel⟩)
theorem k_RX0_45 (M : zM) (hM : M.1.cls = RX0) : zLK M 45 mX0_addParts := Or.inl (by rw [hM]; exact List.mem_filter.mpr ⟨List.mem_of_getElem? (i := 488) (by decide +kernel), by decide +kernel⟩)
theorem k_RX0_56 (M : zM) (hM : M.1.cls = RX0) : zLK M 56 mX0_add := Or.inl (by rw [hM]; exact List.mem_filter.mpr ⟨List.mem_of_getElem? (i := 493) (by decide +kernel), by decide +kernel⟩)
theorem k_RX0_65 (M : zM) (hM : M.1.cls = RX0) : zLK M 65 mX2_has := Or.inl (by rw [hM]; exact List.mem_filter.mpr ⟨List.mem_of_getElem? (i := 499) (by decide +kernel), by decide +kernel⟩)
theorem k_RL_46 (M : zM) (hM : M.1.cls = RL) : zLK M 46 mX6_least := Or.inl (by rw [hM]; exact List.mem_filter.mpr ⟨List.mem_of_getElem? (i := 501) (by decide +kernel), by decide +kernel⟩)
theorem k_RL_51 (M : zM) (hM : M.1.cls = RL) : zLK M 51 mX6_explain := Or.inl (by rw [hM]; exact List.mem_filter.mpr ⟨List.mem_of_getElem? (i := 506) (by decide +kernel), by decide +kernel⟩)
theorem k_RX6_125 (M : zM) (hM : M.1.cls = RX6) : zLK M 125 mX0_tell := Or.inl (by rw [hM]; exact List.mem_filter.mpr ⟨List.mem_of_getElem? (i := 510) (by decide +kernel), by decide +kernel⟩)
theorem k_RL_64 (M : zM) (hM : M.1.cls = RL) : zLK M 64 mX6_compare := Or.inl (by rw [hM]; exact List.mem_filter.mpr ⟨List.mem_of_getElem? (i := 514) (by decide +kernel), by decide +kernel⟩)
theorem k_RX6_144 (M : zM) (hM : M.1.cls = RX6) : zLK M 144 mX6_arePrintedAlike := Or.inl (by rw [hM]; exact List.mem_filter.mpr ⟨List.mem_of_getElem? (i := 518) (by decide +kernel), by decide +kernel⟩)
theorem k_RX6_180 (M : zM) (hM : M.1.cls = RX6) : zLK M 180 mX3_hasSameStepsAs := Or.inl (by rw [hM]; exact List.mem_filter.mpr ⟨List.mem_of_getElem? (i := 521) (by decide +kernel), by decide +kernel⟩)
theorem k_RX6_184 (M : zM) (hM : M.1.cls = RX6) : zLK M 184 mX3_hasSameNamesAs := Or.inl (by rw [hM]; exact List.mem_filter.mpr ⟨List.mem_of_getElem? (i := 525) (by decide +kernel), by decide +kernel⟩)
theorem k_RX6_187 (M : zM) (hM : M.1.cls = RX6) : zLK M 187 mX3_hasSameLimitsAs := Or.inl (by rw [hM]; exact List.mem_filter.mpr ⟨List.mem_of_getElem? (i := 529) (by decide +kernel), by decide +kernel⟩)
theorem k_RL_69 (M : zM) (hM : M.1.cls = RL) : zLK M 69 mX6_print := Or.inl (by rw [hM]; exact List.mem_filter.mpr ⟨List.mem_of_getElem? (i := 533) (by decide +kernel), by decide +kernel⟩)
theorem k_RX6_149 (M : zM) (hM : M.1.cls = RX6) : zLK M 149 mX4_start := Or.inl (by rw [hM]; exact List.mem_filter.mpr ⟨List.mem_of_getElem? (i := 537) (by decide +kernel), by decide +kernel⟩)
theorem k_RX6_152 (M : zM) (hM : M.1.cls = RX6) : zLK M 152 mX4_addKind := Or.inl (by rw [hM]; exact List.mem_filter.mpr ⟨List.mem_of_getElem? (i := 541) (by decide +kernel), by decide +kernel⟩)
theorem k_RX4_19 (M : zM) (hM : M.1.cls = RX4) : zLK M 19 mX4_addRow := Or.inl (by rw [hM]; exact List.mem_filter.mpr ⟨List.mem_of_getElem? (i := 545) (by decide +kernel), by decide +kernel⟩)
theorem k_RX4_80 (M : zM) (hM : M.1.cls = RX4) : zLK M 80 mX4_addSign := Or.inl (by rw [hM]; exact List.mem_filter.mpr ⟨List.mem_of_getElem? (i := 549) (by decide +kernel), by decide +kernel⟩)
theorem k_RX4_84 (M : zM) (hM : M.1.cls = RX4) : zLK M 84 mX4_addNumber := Or.inl (by rw [hM]; exact List.mem_filter.mpr ⟨List.mem_of_getElem? (i := 554) (by decide +kernel), by decide +kernel⟩)
theorem k_RX4_41 (M : zM) (hM : M.1.cls = RX4) : zLK M 41 mX4_addNamed := Or.inl (by rw [hM]; exact List.mem_filter.mpr ⟨List.mem_of_getElem? (i := 559) (by decide +kernel), by decide +kernel⟩)
theorem k_RX4_48 (M : zM) (hM : M.1.cls = RX4) : zLK M 48 mX4_addExclusions := Or.inl (by rw [hM]; exact List.mem_filter.mpr ⟨List.mem_of_getElem? (i := 563) (by decide +kernel), by decide +kernel⟩)
theorem k_RX4_55 (M : zM) (hM : M.1.cls = RX4) : zLK M 55 mX3_excludes := Or.inl (by rw [hM]; exact List.mem_filter.mpr ⟨List.mem_of_getElem? (i := 567) (by decide +kernel), by decide +kernel⟩)
theorem k_RX4_52 (M : zM) (hM : M.1.cls = RX4) : zLK M 52 mX4_addLimits := Or.inl (by rw [hM]; exact List.mem_filter.mpr ⟨List.mem_of_getElem? (i := 568) (by decide +kernel), by decide +kernel⟩)
theorem k_RL_73 (M : zM) (hM : M.1.cls = RL) : zLK M 73 mX6_at := Or.inl (by rw [hM]; exact List.mem_filter.mpr ⟨List.mem_of_getElem? (i := 572) (by decide +kernel), by decide +kernel⟩)
theorem k_RX6_163 (M : zM) (hM : M.1.cls = RX6) : zLK M 163 mX6_cell := Or.inl (by rw [hM]; exact List.mem_filter.mpr ⟨List.mem_of_getElem? (i := 576) (by decide +kernel), by decide +kernel⟩)
theorem k_RL_7 (M : zM) (hM : M.1.cls = RL) : zLK M 7 mX6_dimensional := Or.inl (by rw [hM]; exact List.mem_filter.mpr ⟨List.mem_of_getElem? (i := 649) (by decide +kernel), by decide +kernel⟩)
theorem k_RX6_140 (M : zM) (hM : M.1.cls = RX6) : zLK M 140 mX6_dividedUp := Or.inl (by rw [hM]; exact List.mem_filter.mpr ⟨List.mem_of_getElem? (i := 658) (by decide +kernel), by decide +kernel⟩)
theorem k_RL_18 (M : zM) (hM : M.1.cls = RL) : zLK M 18 mX7_init := Or.inl (by rw [hM]; exact List.mem_filter.mpr ⟨List.mem_of_getElem? (i := 661) (by decide +kernel), by decide +kernel⟩)
theorem k_RX7_1 (M : zM) (hM : M.1.cls = RX7) : Cond.methodLink M.1.cls 1 objectInit ∈ zTB := by rw [hM]; exact List.mem_filter.mpr ⟨List.mem_of_getElem? (i := 664) (by decide +kernel), by decide +kernel⟩
theorem k_RL_61 (M : zM) (hM : M.1.cls = RL) : zLK M 61 mX7_thrown := Or.inl (by rw [hM]; exact List.mem_filter.mpr ⟨List.mem_of_getElem? (i := 761) (by decide +kernel), by decide +kernel⟩)
theorem k_RL_23 (M : zM) (hM : M.1.cls = RL) : zLK M 23 mX7_sign := Or.inl (by rw [hM]; exact List.mem_filter.mpr ⟨List.mem_of_getElem? (i := 765) (by decide +kernel), by decide +kernel⟩)
theorem k_RL_28 (M : zM) (hM : M.1.cls = RL) : zLK M 28 mX7_read := Or.inl (by rw [hM]; exact List.mem_filter.mpr ⟨List.mem_of_getElem? (i := 769) (by decide +kernel), by decide +kernel⟩)
theorem k_RX7_152 (M : zM) (hM : M.1.cls = RX7) : zLK M 152 mX7_readRow := Or.inl (by rw [hM]; exact List.mem_filter.mpr ⟨List.mem_of_getElem? (i := 773) (by decide +kernel), by decide +kernel⟩)
theorem k_RX7_88 (M : zM) (hM : M.1.cls = RX7) : zLK M 88 mX7_look := Or.inl (by rw [hM]; exact List.mem_filter.mpr ⟨List.mem_of_getElem? (i := 777) (by decide +kernel), by decide +kernel⟩)
theorem k_RX7_96 (M : zM) (hM : M.1.cls = RX7) : zLK M 96 mX7_must := Or.inl (by rw [hM]; exact List.mem_filter.mpr ⟨List.mem_of_getElem? (i := 781) (by decide +kernel), by decide +kernel⟩)
theorem k_RX7_135 (M : zM) (hM : M.1.cls = RX7) : zLK M 135 mX7_readKind := Or.inl (by rw [hM]; exact List.mem_filter.mpr ⟨List.mem_of_getElem? (i := 785) (by decide +kernel), by decide +kernel⟩)
theorem k_RX7_113 (M : zM) (hM : M.1.cls = RX7) : zLK M 113 mX7_count := Or.inl (by rw [hM]; exact List.mem_filter.mpr ⟨List.mem_of_getElem? (i := 789) (by decide +kernel), by decide +kernel⟩)
theorem k_RX7_110 (M : zM) (hM : M.1.cls = RX7) : zLK M 110 mX7_lastRow := Or.inl (by rw [hM]; exact List.mem_filter.mpr ⟨List.mem_of_getElem? (i := 793) (by decide +kernel), by decide +kernel⟩)
theorem k_RX7_104 (M : zM) (hM : M.1.cls = RX7) : zLK M 104 mX7_base := Or.inl (by rw [hM]; exact List.mem_filter.mpr ⟨List.mem_of_getElem? (i := 797) (by decide +kernel), by decide +kernel⟩)
theorem k_RX7_100 (M : zM) (hM : M.1.cls = RX7) : zLK M 100 mX7_number := Or.inl (by rw [hM]; exact List.mem_filter.mpr ⟨List.mem_of_getElem? (i := 801) (by decide +kernel), by decide +kernel⟩)
theorem k_RX7_92 (M : zM) (hM : M.1.cls = RX7) : zLK M 92 mX7_isDigit := Or.inl (by rw [hM]; exact List.mem_filter.mpr ⟨List.mem_of_getElem? (i := 805) (by decide +kernel), by decide +kernel⟩)
theorem k_RX7_117 (M : zM) (hM : M.1.cls = RX7) : zLK M 117 mX7_add := Or.inl (by rw [hM]; exact List.mem_filter.mpr ⟨List.mem_of_getElem? (i := 809) (by decide +kernel), by decide +kernel⟩)
theorem k_RX7_139 (M : zM) (hM : M.1.cls = RX7) : zLK M 139 mX7_readStep := Or.inl (by rw [hM]; exact List.mem_filter.mpr ⟨List.mem_of_getElem? (i := 813) (by decide +kernel), by decide +kernel⟩)
theorem k_RX7_121 (M : zM) (hM : M.1.cls = RX7) : zLK M 121 mX7_lastWeight := Or.inl (by rw [hM]; exact List.mem_filter.mpr ⟨List.mem_of_getElem? (i := 817) (by decide +kernel), by decide +kernel⟩)
theorem k_RX7_125 (M : zM) (hM : M.1.cls = RX7) : zLK M 125 mX7_next := Or.inl (by rw [hM]; exact List.mem_filter.mpr ⟨List.mem_of_getElem? (i := 822) (by decide +kernel), by decide +kernel⟩)
theorem k_RX7_142 (M : zM) (hM : M.1.cls = RX7) : zLK M 142 mX7_readOnceEach := Or.inl (by rw [hM]; exact List.mem_filter.mpr ⟨List.mem_of_getElem? (i := 826) (by decide +kernel), by decide +kernel⟩)
theorem k_RX7_128 (M : zM) (hM : M.1.cls = RX7) : zLK M 128 mX7_isThere := Or.inl (by rw [hM]; exact List.mem_filter.mpr ⟨List.mem_of_getElem? (i := 830) (by decide +kernel), by decide +kernel⟩)
theorem k_RX7_146 (M : zM) (hM : M.1.cls = RX7) : zLK M 146 mX7_readApart := Or.inl (by rw [hM]; exact List.mem_filter.mpr ⟨List.mem_of_getElem? (i := 834) (by decide +kernel), by decide +kernel⟩)
theorem k_RX7_132 (M : zM) (hM : M.1.cls = RX7) : zLK M 132 mX7_areApart := Or.inl (by rw [hM]; exact List.mem_filter.mpr ⟨List.mem_of_getElem? (i := 838) (by decide +kernel), by decide +kernel⟩)
theorem k_RX7_149 (M : zM) (hM : M.1.cls = RX7) : zLK M 149 mX7_readOnce := Or.inl (by rw [hM]; exact List.mem_filter.mpr ⟨List.mem_of_getElem? (i := 842) (by decide +kernel), by decide +kernel⟩)
theorem k_RL_33 (M : zM) (hM : M.1.cls = RL) : zLK M 33 mX7_item := Or.inl (by rw [hM]; exact List.mem_filter.mpr ⟨List.mem_of_getElem? (i := 847) (by decide +kernel), by decide +kernel⟩)
theorem k_RX7_161 (M : zM) (hM : M.1.cls = RX7) : zLK M 161 mX7_in := Or.inl (by rw [hM]; exact List.mem_filter.mpr ⟨List.mem_of_getElem? (i := 852) (by decide +kernel), by decide +kernel⟩)
theorem k_RL_38 (M : zM) (hM : M.1.cls = RL) : zLK M 38 mX7_service := Or.inl (by rw [hM]; exact List.mem_filter.mpr ⟨List.mem_of_getElem? (i := 857) (by decide +kernel), by decide +kernel⟩)
theorem k_RL_45 (M : zM) (hM : M.1.cls = RL) : zLK M 45 mX7_price := Or.inl (by rw [hM]; exact List.mem_filter.mpr ⟨List.mem_of_getElem? (i := 862) (by decide +kernel), by decide +kernel⟩)
theorem k_RX7_208 (M : zM) (hM : M.1.cls = RX7) : zLK M 208 mX7_refusal := Or.inl (by rw [hM]; exact List.mem_filter.mpr ⟨List.mem_of_getElem? (i := 866) (by decide +kernel), by decide +kernel⟩)
theorem k_RX7_212 (M : zM) (hM : M.1.cls = RX7) : zLK M 212 mX7_reckon := Or.inl (by rw [hM]; exact List.mem_filter.mpr ⟨List.mem_of_getElem? (i := 872) (by decide +kernel), by decide +kernel⟩)
theorem k_RX7_187 (M : zM) (hM : M.1.cls = RX7) : zLK M 187 mX7_kindRow := Or.inl (by rw [hM]; exact List.mem_filter.mpr ⟨List.mem_of_getElem? (i := 876) (by decide +kernel), by decide +kernel⟩)
theorem k_RX7_192 (M : zM) (hM : M.1.cls = RX7) : zLK M 192 mX7_kindEnd := Or.inl (by rw [hM]; exact List.mem_filter.mpr ⟨List.mem_of_getElem? (i := 881) (by decide +kernel), by decide +kernel⟩)
theorem k_RX7_195 (M : zM) (hM : M.1.cls = RX7) : zLK M 195 mX7_mayGo := Or.inl (by rw [hM]; exact List.mem_filter.mpr ⟨List.mem_of_getElem? (i := 885) (by decide +kernel), by decide +kernel⟩)
theorem k_RX7_179 (M : zM) (hM : M.1.cls = RX7) : zLK M 179 mX7_onlyRow := Or.inl (by rw [hM]; exact List.mem_filter.mpr ⟨List.mem_of_getElem? (i := 889) (by decide +kernel), by decide +kernel⟩)
theorem k_RX7_175 (M : zM) (hM : M.1.cls = RX7) : zLK M 175 mX7_rowOf := Or.inl (by rw [hM]; exact List.mem_filter.mpr ⟨List.mem_of_getElem? (i := 893) (by decide +kernel), by decide +kernel⟩)
theorem k_RX7_183 (M : zM) (hM : M.1.cls = RX7) : zLK M 183 mX7_mayServe := Or.inl (by rw [hM]; exact List.mem_filter.mpr ⟨List.mem_of_getElem? (i := 897) (by decide +kernel), by decide +kernel⟩)
theorem k_RX7_199 (M : zM) (hM : M.1.cls = RX7) : zLK M 199 mX7_part := Or.inl (by rw [hM]; exact List.mem_filter.mpr ⟨List.mem_of_getElem? (i := 901) (by decide +kernel), by decide +kernel⟩)
theorem k_RL_50 (M : zM) (hM : M.1.cls = RL) : zLK M 50 mX7_least := Or.inl (by rw [hM]; exact List.mem_filter.mpr ⟨List.mem_of_getElem? (i := 906) (by decide +kernel), by decide +kernel⟩)
theorem k_RL_54 (M : zM) (hM : M.1.cls = RL) : zLK M 54 mX7_explain := Or.inl (by rw [hM]; exact List.mem_filter.mpr ⟨List.mem_of_getElem? (i := 910) (by decide +kernel), by decide +kernel⟩)
theorem k_RL_60 (M : zM) (hM : M.1.cls = RL) : zLK M 60 mX7_dimensional := Or.inl (by rw [hM]; exact List.mem_filter.mpr ⟨List.mem_of_getElem? (i := 914) (by decide +kernel), by decide +kernel⟩)
theorem k_RL_68 (M : zM) (hM : M.1.cls = RL) : zLK M 68 mX7_compare := Or.inl (by rw [hM]; exact List.mem_filter.mpr ⟨List.mem_of_getElem? (i := 920) (by decide +kernel), by decide +kernel⟩)
theorem k_RX7_240 (M : zM) (hM : M.1.cls = RX7) : zLK M 240 mX7_putKind := Or.inl (by rw [hM]; exact List.mem_filter.mpr ⟨List.mem_of_getElem? (i := 924) (by decide +kernel), by decide +kernel⟩)
theorem k_RX7_223 (M : zM) (hM : M.1.cls = RX7) : zLK M 223 mX7_put := Or.inl (by rw [hM]; exact List.mem_filter.mpr ⟨List.mem_of_getElem? (i := 928) (by decide +kernel), by decide +kernel⟩)
theorem k_RX7_226 (M : zM) (hM : M.1.cls = RX7) : zLK M 226 mX7_putNumber := Or.inl (by rw [hM]; exact List.mem_filter.mpr ⟨List.mem_of_getElem? (i := 932) (by decide +kernel), by decide +kernel⟩)
theorem k_RX7_229 (M : zM) (hM : M.1.cls = RX7) : zLK M 229 mX7_putRow := Or.inl (by rw [hM]; exact List.mem_filter.mpr ⟨List.mem_of_getElem? (i := 936) (by decide +kernel), by decide +kernel⟩)
theorem k_RX7_233 (M : zM) (hM : M.1.cls = RX7) : zLK M 233 mX7_putEach := Or.inl (by rw [hM]; exact List.mem_filter.mpr ⟨List.mem_of_getElem? (i := 940) (by decide +kernel), by decide +kernel⟩)
theorem k_RX7_237 (M : zM) (hM : M.1.cls = RX7) : zLK M 237 mX7_putOnly := Or.inl (by rw [hM]; exact List.mem_filter.mpr ⟨List.mem_of_getElem? (i := 944) (by decide +kernel), by decide +kernel⟩)
theorem k_RL_72 (M : zM) (hM : M.1.cls = RL) : zLK M 72 mX7_print := Or.inl (by rw [hM]; exact List.mem_filter.mpr ⟨List.mem_of_getElem? (i := 948) (by decide +kernel), by decide +kernel⟩)
theorem k_RL_76 (M : zM) (hM : M.1.cls = RL) : zLK M 76 mX7_at := Or.inl (by rw [hM]; exact List.mem_filter.mpr ⟨List.mem_of_getElem? (i := 952) (by decide +kernel), by decide +kernel⟩)
theorem k_RX6_11 (M : zM) (hM : M.1.cls = RX6) : zLK M 11 mX5_init := Or.inr ⟨"PostTariff", by rw [hM]; exact List.mem_filter.mpr ⟨List.mem_of_getElem? (i := 82) (by decide +kernel), rfl⟩⟩
theorem k_RX6_18 (M : zM) (hM : M.1.cls = RX6) : zLK M 18 mX4_init := Or.inr ⟨"PostTariff", by rw [hM]; exact List.mem_filter.mpr ⟨List.mem_of_getElem? (i := 111) (by decide +kernel), rfl⟩⟩
theorem k_RX6_25 (M : zM) (hM : M.1.cls = RX6) : zLK M 25 mX0_init := Or.inr ⟨"PostTariff", by rw [hM]; exact List.mem_filter.mpr ⟨List.mem_of_getElem? (i := 126) (by decide +kernel), rfl⟩⟩
theorem k_RX1_17 (M : zM) (hM : M.1.cls = RX1) : zLK M 17 mX3_init := Or.inr ⟨"PostTariff", by rw [hM]; exact List.mem_filter.mpr ⟨List.mem_of_getElem? (i := 160) (by decide +kernel), rfl⟩⟩
theorem k_RX5_22 (M : zM) (hM : M.1.cls = RX5) : zLK M 22 mX6_put := Or.inr ⟨"PostTariff", by rw [hM]; exact List.mem_filter.mpr ⟨List.mem_of_getElem? (i := 279) (by decide +kernel), rfl⟩⟩
theorem k_RX3_35 (M : zM) (hM : M.1.cls = RX3) : zLK M 35 mX6_fill := Or.inr ⟨"PostTariff", by rw [hM]; exact List.mem_filter.mpr ⟨List.mem_of_getElem? (i := 303) (by decide +kernel), rfl⟩⟩
theorem k_RX5_76 (M : zM) (hM : M.1.cls = RX5) : zLK M 76 mX6_cell := Or.inr ⟨"PostTariff", by rw [hM]; exact List.mem_filter.mpr ⟨List.mem_of_getElem? (i := 314) (by decide +kernel), rfl⟩⟩
theorem k_RX5_80 (M : zM) (hM : M.1.cls = RX5) : zLK M 80 mX6_isWithin := Or.inr ⟨"PostTariff", by rw [hM]; exact List.mem_filter.mpr ⟨List.mem_of_getElem? (i := 332) (by decide +kernel), rfl⟩⟩
theorem k_RX5_102 (M : zM) (hM : M.1.cls = RX5) : zLK M 102 mX6_isName := Or.inr ⟨"PostTariff", by rw [hM]; exact List.mem_filter.mpr ⟨List.mem_of_getElem? (i := 337) (by decide +kernel), rfl⟩⟩
theorem k_RX5_105 (M : zM) (hM : M.1.cls = RX5) : zLK M 105 mX6_kindOf := Or.inr ⟨"PostTariff", by rw [hM]; exact List.mem_filter.mpr ⟨List.mem_of_getElem? (i := 340) (by decide +kernel), rfl⟩⟩
theorem k_RX3_67 (M : zM) (hM : M.1.cls = RX3) : zLK M 67 mX6_cell := Or.inr ⟨"PostTariff", by rw [hM]; exact List.mem_filter.mpr ⟨List.mem_of_getElem? (i := 351) (by decide +kernel), rfl⟩⟩
theorem k_RX3_63 (M : zM) (hM : M.1.cls = RX3) : zLK M 63 mX6_put := Or.inr ⟨"PostTariff", by rw [hM]; exact List.mem_filter.mpr ⟨List.mem_of_getElem? (i := 377) (by decide +kernel), rfl⟩⟩
theorem k_RX3_89 (M : zM) (hM : M.1.cls = RX3) : zLK M 89 mX6_dividedUp := Or.inr ⟨"PostTariff", by rw [hM]; exact List.mem_filter.mpr ⟨List.mem_of_getElem? (i := 478) (by decide +kernel), rfl⟩⟩
theorem k_RX0_52 (M : zM) (hM : M.1.cls = RX0) : zLK M 52 mX6_cell := Or.inr ⟨"PostTariff", by rw [hM]; exact List.mem_filter.mpr ⟨List.mem_of_getElem? (i := 492) (by decide +kernel), rfl⟩⟩
theorem k_RX0_81 (M : zM) (hM : M.1.cls = RX0) : zLK M 81 mX6_put := Or.inr ⟨"PostTariff", by rw [hM]; exact List.mem_filter.mpr ⟨List.mem_of_getElem? (i := 497) (by decide +kernel), rfl⟩⟩
theorem k_RX0_77 (M : zM) (hM : M.1.cls = RX0) : zLK M 77 mX6_dividedUp := Or.inr ⟨"PostTariff", by rw [hM]; exact List.mem_filter.mpr ⟨List.mem_of_getElem? (i := 500) (by decide +kernel), rfl⟩⟩
theorem k_RX4_87 (M : zM) (hM : M.1.cls = RX4) : zLK M 87 mX6_put := Or.inr ⟨"PostTariff", by rw [hM]; exact List.mem_filter.mpr ⟨List.mem_of_getElem? (i := 553) (by decide +kernel), rfl⟩⟩
theorem k_RX4_31 (M : zM) (hM : M.1.cls = RX4) : zLK M 31 mX6_cell := Or.inr ⟨"PostTariff", by rw [hM]; exact List.mem_filter.mpr ⟨List.mem_of_getElem? (i := 558) (by decide +kernel), rfl⟩⟩
theorem f_RX5_9 : zFL RX5 9 5 0 2 true := ⟨(RX5, TX5, 7), rfl, by decide, by decide, List.mem_filter.mpr ⟨List.mem_of_getElem? (i := 86) (by decide +kernel), by decide +kernel⟩, iX5, rfl, rfl, rfl⟩
theorem f_RX5_18 : zFL RX5 18 5 1 0 false := ⟨(RX5, TX5, 7), rfl, by decide, by decide, List.mem_filter.mpr ⟨List.mem_of_getElem? (i := 87) (by decide +kernel), by decide +kernel⟩, iX5, rfl, rfl, rfl⟩
theorem f_RX5_39 : zFL RX5 39 5 2 0 false := ⟨(RX5, TX5, 7), rfl, by decide, by decide, List.mem_filter.mpr ⟨List.mem_of_getElem? (i := 88) (by decide +kernel), by decide +kernel⟩, iX5, rfl, rfl, rfl⟩
theorem f_RX5_42 : zFL RX5 42 5 3 0 false := ⟨(RX5, TX5, 7), rfl, by decide, by decide, List.mem_filter.mpr ⟨List.mem_of_getElem? (i := 89) (by decide +kernel), by decide +kernel⟩, iX5, rfl, rfl, rfl⟩
theorem f_RX5_26 : zFL RX5 26 5 4 2 false := ⟨(RX5, TX5, 7), rfl, by decide, by decide, List.mem_filter.mpr ⟨List.mem_of_getElem? (i := 90) (by decide +kernel), by decide +kernel⟩, iX5, rfl, rfl, rfl⟩
theorem f_RX5_35 : zFL RX5 35 5 5 2 false := ⟨(RX5, TX5, 7), rfl, by decide, by decide, List.mem_filter.mpr ⟨List.mem_of_getElem? (i := 91) (by decide +kernel), by decide +kernel⟩, iX5, rfl, rfl, rfl⟩
theorem f_RX5_15 : zFL RX5 15 5 6 2 true := ⟨(RX5, TX5, 7), rfl, by decide, by decide, List.mem_filter.mpr ⟨List.mem_of_getElem? (i := 92) (by decide +kernel), by decide +kernel⟩, iX5, rfl, rfl, rfl⟩
theorem f_RX4_9 : zFL RX4 9 4 0 2 true := ⟨(RX4, TX4, 2), rfl, by decide, by decide, List.mem_filter.mpr ⟨List.mem_of_getElem? (i := 115) (by decide +kernel), by decide +kernel⟩, iX4, rfl, rfl, rfl⟩
theorem f_RX6_159 : zFL RX6 159 4 0 2 true := ⟨(RX4, TX4, 2), rfl, by decide, by decide, List.mem_filter.mpr ⟨List.mem_of_getElem? (i := 116) (by decide +kernel), by decide +kernel⟩, iX4, rfl, rfl, rfl⟩
theorem f_RX4_15 : zFL RX4 15 4 1 0 false := ⟨(RX4, TX4, 2), rfl, by decide, by decide, List.mem_filter.mpr ⟨List.mem_of_getElem? (i := 117) (by decide +kernel), by decide +kernel⟩, iX4, rfl, rfl, rfl⟩
theorem f_RX6_156 : zFL RX6 156 4 1 0 false := ⟨(RX4, TX4, 2), rfl, by decide, by decide, List.mem_filter.mpr ⟨List.mem_of_getElem? (i := 118) (by decide +kernel), by decide +kernel⟩, iX4, rfl, rfl, rfl⟩
theorem f_RX0_9 : zFL RX0 9 0 0 2 true := ⟨(RX0, TX0, 5), rfl, by decide, by decide, List.mem_filter.mpr ⟨List.mem_of_getElem? (i := 131) (by decide +kernel), by decide +kernel⟩, iX0, rfl, rfl, rfl⟩
theorem f_RX0_15 : zFL RX0 15 0 1 2 true := ⟨(RX0, TX0, 5), rfl, by decide, by decide, List.mem_filter.mpr ⟨List.mem_of_getElem? (i := 132) (by decide +kernel), by decide +kernel⟩, iX0, rfl, rfl, rfl⟩
theorem f_RX0_18 : zFL RX0 18 0 2 2 true := ⟨(RX0, TX0, 5), rfl, by decide, by decide, List.mem_filter.mpr ⟨List.mem_of_getElem? (i := 133) (by decide +kernel), by decide +kernel⟩, iX0, rfl, rfl, rfl⟩
theorem f_RX0_27 : zFL RX0 27 0 3 0 false := ⟨(RX0, TX0, 5), rfl, by decide, by decide, List.mem_filter.mpr ⟨List.mem_of_getElem? (i := 134) (by decide +kernel), by decide +kernel⟩, iX0, rfl, rfl, rfl⟩
theorem f_RX0_23 : zFL RX0 23 0 4 1 false := ⟨(RX0, TX0, 5), rfl, by decide, by decide, List.mem_filter.mpr ⟨List.mem_of_getElem? (i := 135) (by decide +kernel), by decide +kernel⟩, iX0, rfl, rfl, rfl⟩
theorem f_RX6_119 : zFL RX6 119 0 4 1 false := ⟨(RX0, TX0, 5), rfl, by decide, by decide, List.mem_filter.mpr ⟨List.mem_of_getElem? (i := 136) (by decide +kernel), by decide +kernel⟩, iX0, rfl, rfl, rfl⟩
theorem f_RX3_27 : zFL RX3 27 3 0 0 false := ⟨(RX3, TX3, 15), rfl, by decide, by decide, List.mem_filter.mpr ⟨List.mem_of_getElem? (i := 164) (by decide +kernel), by decide +kernel⟩, iX3, rfl, rfl, rfl⟩
theorem f_RX5_136 : zFL RX5 136 3 0 0 false := ⟨(RX3, TX3, 15), rfl, by decide, by decide, List.mem_filter.mpr ⟨List.mem_of_getElem? (i := 165) (by decide +kernel), by decide +kernel⟩, iX3, rfl, rfl, rfl⟩
theorem f_RX6_174 : zFL RX6 174 3 0 0 false := ⟨(RX3, TX3, 15), rfl, by decide, by decide, List.mem_filter.mpr ⟨List.mem_of_getElem? (i := 166) (by decide +kernel), by decide +kernel⟩, iX3, rfl, rfl, rfl⟩
theorem f_RX3_31 : zFL RX3 31 3 1 0 false := ⟨(RX3, TX3, 15), rfl, by decide, by decide, List.mem_filter.mpr ⟨List.mem_of_getElem? (i := 167) (by decide +kernel), by decide +kernel⟩, iX3, rfl, rfl, rfl⟩
theorem f_RX4_23 : zFL RX4 23 3 1 0 false := ⟨(RX3, TX3, 15), rfl, by decide, by decide, List.mem_filter.mpr ⟨List.mem_of_getElem? (i := 168) (by decide +kernel), by decide +kernel⟩, iX3, rfl, rfl, rfl⟩
theorem f_RX5_52 : zFL RX5 52 3 1 0 false := ⟨(RX3, TX3, 15), rfl, by decide, by decide, List.mem_filter.mpr ⟨List.mem_of_getElem? (i := 169) (by decide +kernel), by decide +kernel⟩, iX3, rfl, rfl, rfl⟩
theorem f_RX3_9 : zFL RX3 9 3 2 2 true := ⟨(RX3, TX3, 15), rfl, by decide, by decide, List.mem_filter.mpr ⟨List.mem_of_getElem? (i := 170) (by decide +kernel), by decide +kernel⟩, iX3, rfl, rfl, rfl⟩
theorem f_RX4_28 : zFL RX4 28 3 2 2 true := ⟨(RX3, TX3, 15), rfl, by decide, by decide, List.mem_filter.mpr ⟨List.mem_of_getElem? (i := 171) (by decide +kernel), by decide +kernel⟩, iX3, rfl, rfl, rfl⟩
theorem f_RX3_15 : zFL RX3 15 3 3 2 true := ⟨(RX3, TX3, 15), rfl, by decide, by decide, List.mem_filter.mpr ⟨List.mem_of_getElem? (i := 172) (by decide +kernel), by decide +kernel⟩, iX3, rfl, rfl, rfl⟩
theorem f_RX0_49 : zFL RX0 49 3 3 2 true := ⟨(RX3, TX3, 15), rfl, by decide, by decide, List.mem_filter.mpr ⟨List.mem_of_getElem? (i := 173) (by decide +kernel), by decide +kernel⟩, iX3, rfl, rfl, rfl⟩
theorem f_RX4_35 : zFL RX4 35 3 3 2 true := ⟨(RX3, TX3, 15), rfl, by decide, by decide, List.mem_filter.mpr ⟨List.mem_of_getElem? (i := 174) (by decide +kernel), by decide +kernel⟩, iX3, rfl, rfl, rfl⟩
theorem f_RX3_18 : zFL RX3 18 3 4 2 true := ⟨(RX3, TX3, 15), rfl, by decide, by decide, List.mem_filter.mpr ⟨List.mem_of_getElem? (i := 175) (by decide +kernel), by decide +kernel⟩, iX3, rfl, rfl, rfl⟩
theorem f_RX0_60 : zFL RX0 60 3 4 2 true := ⟨(RX3, TX3, 15), rfl, by decide, by decide, List.mem_filter.mpr ⟨List.mem_of_getElem? (i := 176) (by decide +kernel), by decide +kernel⟩, iX3, rfl, rfl, rfl⟩
theorem f_RX4_38 : zFL RX4 38 3 4 2 true := ⟨(RX3, TX3, 15), rfl, by decide, by decide, List.mem_filter.mpr ⟨List.mem_of_getElem? (i := 177) (by decide +kernel), by decide +kernel⟩, iX3, rfl, rfl, rfl⟩
theorem f_RX5_112 : zFL RX5 112 3 4 2 true := ⟨(RX3, TX3, 15), rfl, by decide, by decide, List.mem_filter.mpr ⟨List.mem_of_getElem? (i := 178) (by decide +kernel), by decide +kernel⟩, iX3, rfl, rfl, rfl⟩
theorem f_RX3_21 : zFL RX3 21 3 5 2 true := ⟨(RX3, TX3, 15), rfl, by decide, by decide, List.mem_filter.mpr ⟨List.mem_of_getElem? (i := 179) (by decide +kernel), by decide +kernel⟩, iX3, rfl, rfl, rfl⟩
theorem f_RX0_71 : zFL RX0 71 3 5 2 true := ⟨(RX3, TX3, 15), rfl, by decide, by decide, List.mem_filter.mpr ⟨List.mem_of_getElem? (i := 180) (by decide +kernel), by decide +kernel⟩, iX3, rfl, rfl, rfl⟩
theorem f_RX4_45 : zFL RX4 45 3 5 2 true := ⟨(RX3, TX3, 15), rfl, by decide, by decide, List.mem_filter.mpr ⟨List.mem_of_getElem? (i := 181) (by decide +kernel), by decide +kernel⟩, iX3, rfl, rfl, rfl⟩
theorem f_RX5_115 : zFL RX5 115 3 5 2 true := ⟨(RX3, TX3, 15), rfl, by decide, by decide, List.mem_filter.mpr ⟨List.mem_of_getElem? (i := 182) (by decide +kernel), by decide +kernel⟩, iX3, rfl, rfl, rfl⟩
theorem f_RX3_24 : zFL RX3 24 3 6 2 true := ⟨(RX3, TX3, 15), rfl, by decide, by decide, List.mem_filter.mpr ⟨List.mem_of_getElem? (i := 183) (by decide +kernel), by decide +kernel⟩, iX3, rfl, rfl, rfl⟩
theorem f_RX3_39 : zFL RX3 39 3 7 0 false := ⟨(RX3, TX3, 15), rfl, by decide, by decide, List.mem_filter.mpr ⟨List.mem_of_getElem? (i := 184) (by decide +kernel), by decide +kernel⟩, iX3, rfl, rfl, rfl⟩
theorem f_RX5_87 : zFL RX5 87 3 7 0 false := ⟨(RX3, TX3, 15), rfl, by decide, by decide, List.mem_filter.mpr ⟨List.mem_of_getElem? (i := 185) (by decide +kernel), by decide +kernel⟩, iX3, rfl, rfl, rfl⟩
theorem f_RX3_42 : zFL RX3 42 3 8 0 false := ⟨(RX3, TX3, 15), rfl, by decide, by decide, List.mem_filter.mpr ⟨List.mem_of_getElem? (i := 186) (by decide +kernel), by decide +kernel⟩, iX3, rfl, rfl, rfl⟩
theorem f_RX4_59 : zFL RX4 59 3 8 0 false := ⟨(RX3, TX3, 15), rfl, by decide, by decide, List.mem_filter.mpr ⟨List.mem_of_getElem? (i := 187) (by decide +kernel), by decide +kernel⟩, iX3, rfl, rfl, rfl⟩
theorem f_RX5_90 : zFL RX5 90 3 8 0 false := ⟨(RX3, TX3, 15), rfl, by decide, by decide, List.mem_filter.mpr ⟨List.mem_of_getElem? (i := 188) (by decide +kernel), by decide +kernel⟩, iX3, rfl, rfl, rfl⟩
theorem f_RX3_45 : zFL RX3 45 3 9 0 false := ⟨(RX3, TX3, 15), rfl, by decide, by decide, List.mem_filter.mpr ⟨List.mem_of_getElem? (i := 189) (by decide +kernel), by decide +kernel⟩, iX3, rfl, rfl, rfl⟩
theorem f_RX4_62 : zFL RX4 62 3 9 0 false := ⟨(RX3, TX3, 15), rfl, by decide, by decide, List.mem_filter.mpr ⟨List.mem_of_getElem? (i := 190) (by decide +kernel), by decide +kernel⟩, iX3, rfl, rfl, rfl⟩
theorem f_RX5_146 : zFL RX5 146 3 9 0 false := ⟨(RX3, TX3, 15), rfl, by decide, by decide, List.mem_filter.mpr ⟨List.mem_of_getElem? (i := 191) (by decide +kernel), by decide +kernel⟩, iX3, rfl, rfl, rfl⟩
theorem f_RX3_48 : zFL RX3 48 3 10 0 false := ⟨(RX3, TX3, 15), rfl, by decide, by decide, List.mem_filter.mpr ⟨List.mem_of_getElem? (i := 192) (by decide +kernel), by decide +kernel⟩, iX3, rfl, rfl, rfl⟩
theorem f_RX4_65 : zFL RX4 65 3 10 0 false := ⟨(RX3, TX3, 15), rfl, by decide, by decide, List.mem_filter.mpr ⟨List.mem_of_getElem? (i := 193) (by decide +kernel), by decide +kernel⟩, iX3, rfl, rfl, rfl⟩
theorem f_RX5_149 : zFL RX5 149 3 10 0 false := ⟨(RX3, TX3, 15), rfl, by decide, by decide, List.mem_filter.mpr ⟨List.mem_of_getElem? (i := 194) (by decide +kernel), by decide +kernel⟩, iX3, rfl, rfl, rfl⟩
theorem f_RX3_51 : zFL RX3 51 3 11 0 false := ⟨(RX3, TX3, 15), rfl, by decide, by decide, List.mem_filter.mpr ⟨List.mem_of_getElem? (i := 195) (by decide +kernel), by decide +kernel⟩, iX3, rfl, rfl, rfl⟩
theorem f_RX4_68 : zFL RX4 68 3 11 0 false := ⟨(RX3, TX3, 15), rfl, by decide, by decide, List.mem_filter.mpr ⟨List.mem_of_getElem? (i := 196) (by decide +kernel), by decide +kernel⟩, iX3, rfl, rfl, rfl⟩
theorem f_RX5_93 : zFL RX5 93 3 11 0 false := ⟨(RX3, TX3, 15), rfl, by decide, by decide, List.mem_filter.mpr ⟨List.mem_of_getElem? (i := 197) (by decide +kernel), by decide +kernel⟩, iX3, rfl, rfl, rfl⟩
theorem f_RX3_54 : zFL RX3 54 3 12 0 false := ⟨(RX3, TX3, 15), rfl, by decide, by decide, List.mem_filter.mpr ⟨List.mem_of_getElem? (i := 198) (by decide +kernel), by decide +kernel⟩, iX3, rfl, rfl, rfl⟩
theorem f_RX4_71 : zFL RX4 71 3 12 0 false := ⟨(RX3, TX3, 15), rfl, by decide, by decide, List.mem_filter.mpr ⟨List.mem_of_getElem? (i := 199) (by decide +kernel), by decide +kernel⟩, iX3, rfl, rfl, rfl⟩
theorem f_RX5_96 : zFL RX5 96 3 12 0 false := ⟨(RX3, TX3, 15), rfl, by decide, by decide, List.mem_filter.mpr ⟨List.mem_of_getElem? (i := 200) (by decide +kernel), by decide +kernel⟩, iX3, rfl, rfl, rfl⟩
theorem f_RX3_57 : zFL RX3 57 3 13 0 false := ⟨(RX3, TX3, 15), rfl, by decide, by decide, List.mem_filter.mpr ⟨List.mem_of_getElem? (i := 201) (by decide +kernel), by decide +kernel⟩, iX3, rfl, rfl, rfl⟩
theorem f_RX4_74 : zFL RX4 74 3 13 0 false := ⟨(RX3, TX3, 15), rfl, by decide, by decide, List.mem_filter.mpr ⟨List.mem_of_getElem? (i := 202) (by decide +kernel), by decide +kernel⟩, iX3, rfl, rfl, rfl⟩
theorem f_RX5_152 : zFL RX5 152 3 13 0 false := ⟨(RX3, TX3, 15), rfl, by decide, by decide, List.mem_filter.mpr ⟨List.mem_of_getElem? (i := 203) (by decide +kernel), by decide +kernel⟩, iX3, rfl, rfl, rfl⟩
theorem f_RX3_60 : zFL RX3 60 3 14 0 false := ⟨(RX3, TX3, 15), rfl, by decide, by decide, List.mem_filter.mpr ⟨List.mem_of_getElem? (i := 204) (by decide +kernel), by decide +kernel⟩, iX3, rfl, rfl, rfl⟩
theorem f_RX0_74 : zFL RX0 74 3 14 0 false := ⟨(RX3, TX3, 15), rfl, by decide, by decide, List.mem_filter.mpr ⟨List.mem_of_getElem? (i := 205) (by decide +kernel), by decide +kernel⟩, iX3, rfl, rfl, rfl⟩
theorem f_RX4_77 : zFL RX4 77 3 14 0 false := ⟨(RX3, TX3, 15), rfl, by decide, by decide, List.mem_filter.mpr ⟨List.mem_of_getElem? (i := 206) (by decide +kernel), by decide +kernel⟩, iX3, rfl, rfl, rfl⟩
theorem f_RX5_99 : zFL RX5 99 3 14 0 false := ⟨(RX3, TX3, 15), rfl, by decide, by decide, List.mem_filter.mpr ⟨List.mem_of_getElem? (i := 207) (by decide +kernel), by decide +kernel⟩, iX3, rfl, rfl, rfl⟩
theorem f_RX1_11 : zFL RX1 11 1 0 2 true := ⟨(RX1, TX1, 1), rfl, by decide, by decide, List.mem_filter.mpr ⟨List.mem_of_getElem? (i := 239) (by decide +kernel), by decide +kernel⟩, iX1, rfl, rfl, rfl⟩
theorem f_RX6_12 : zFL RX6 12 6 0 2 true := ⟨(RX6, TX6, 8), rfl, by decide, by decide, List.mem_filter.mpr ⟨List.mem_of_getElem? (i := 243) (by decide +kernel), by decide +kernel⟩, iX6, rfl, rfl, rfl⟩
theorem f_RX6_19 : zFL RX6 19 6 1 2 true := ⟨(RX6, TX6, 8), rfl, by decide, by decide, List.mem_filter.mpr ⟨List.mem_of_getElem? (i := 244) (by decide +kernel), by decide +kernel⟩, iX6, rfl, rfl, rfl⟩
theorem f_RX6_26 : zFL RX6 26 6 2 2 true := ⟨(RX6, TX6, 8), rfl, by decide, by decide, List.mem_filter.mpr ⟨List.mem_of_getElem? (i := 245) (by decide +kernel), by decide +kernel⟩, iX6, rfl, rfl, rfl⟩
theorem f_RX6_30 : zFL RX6 30 6 3 2 true := ⟨(RX6, TX6, 8), rfl, by decide, by decide, List.mem_filter.mpr ⟨List.mem_of_getElem? (i := 246) (by decide +kernel), by decide +kernel⟩, iX6, rfl, rfl, rfl⟩
theorem f_RX6_35 : zFL RX6 35 6 4 2 true := ⟨(RX6, TX6, 8), rfl, by decide, by decide, List.mem_filter.mpr ⟨List.mem_of_getElem? (i := 247) (by decide +kernel), by decide +kernel⟩, iX6, rfl, rfl, rfl⟩
theorem f_RX6_78 : zFL RX6 78 6 5 0 false := ⟨(RX6, TX6, 8), rfl, by decide, by decide, List.mem_filter.mpr ⟨List.mem_of_getElem? (i := 248) (by decide +kernel), by decide +kernel⟩, iX6, rfl, rfl, rfl⟩
theorem f_RX6_41 : zFL RX6 41 6 6 2 true := ⟨(RX6, TX6, 8), rfl, by decide, by decide, List.mem_filter.mpr ⟨List.mem_of_getElem? (i := 249) (by decide +kernel), by decide +kernel⟩, iX6, rfl, rfl, rfl⟩
theorem f_RX6_54 : zFL RX6 54 6 7 0 false := ⟨(RX6, TX6, 8), rfl, by decide, by decide, List.mem_filter.mpr ⟨List.mem_of_getElem? (i := 250) (by decide +kernel), by decide +kernel⟩, iX6, rfl, rfl, rfl⟩
theorem f_RX2_7 : zFL RX2 7 2 0 0 true := ⟨(RX2, TX2, 6), rfl, by decide, by decide, List.mem_filter.mpr ⟨List.mem_of_getElem? (i := 401) (by decide +kernel), by decide +kernel⟩, iX2, rfl, rfl, rfl⟩
theorem f_RX6_108 : zFL RX6 108 2 0 0 true := ⟨(RX2, TX2, 6), rfl, by decide, by decide, List.mem_filter.mpr ⟨List.mem_of_getElem? (i := 402) (by decide +kernel), by decide +kernel⟩, iX2, rfl, rfl, rfl⟩
theorem f_RX2_13 : zFL RX2 13 2 1 0 true := ⟨(RX2, TX2, 6), rfl, by decide, by decide, List.mem_filter.mpr ⟨List.mem_of_getElem? (i := 403) (by decide +kernel), by decide +kernel⟩, iX2, rfl, rfl, rfl⟩
theorem f_RX3_86 : zFL RX3 86 2 1 0 true := ⟨(RX2, TX2, 6), rfl, by decide, by decide, List.mem_filter.mpr ⟨List.mem_of_getElem? (i := 404) (by decide +kernel), by decide +kernel⟩, iX2, rfl, rfl, rfl⟩
theorem f_RX2_16 : zFL RX2 16 2 2 0 true := ⟨(RX2, TX2, 6), rfl, by decide, by decide, List.mem_filter.mpr ⟨List.mem_of_getElem? (i := 405) (by decide +kernel), by decide +kernel⟩, iX2, rfl, rfl, rfl⟩
theorem f_RX3_71 : zFL RX3 71 2 2 0 true := ⟨(RX2, TX2, 6), rfl, by decide, by decide, List.mem_filter.mpr ⟨List.mem_of_getElem? (i := 406) (by decide +kernel), by decide +kernel⟩, iX2, rfl, rfl, rfl⟩
theorem f_RX2_19 : zFL RX2 19 2 3 0 true := ⟨(RX2, TX2, 6), rfl, by decide, by decide, List.mem_filter.mpr ⟨List.mem_of_getElem? (i := 407) (by decide +kernel), by decide +kernel⟩, iX2, rfl, rfl, rfl⟩
theorem f_RX3_74 : zFL RX3 74 2 3 0 true := ⟨(RX2, TX2, 6), rfl, by decide, by decide, List.mem_filter.mpr ⟨List.mem_of_getElem? (i := 408) (by decide +kernel), by decide +kernel⟩, iX2, rfl, rfl, rfl⟩
theorem f_RX2_22 : zFL RX2 22 2 4 0 true := ⟨(RX2, TX2, 6), rfl, by decide, by decide, List.mem_filter.mpr ⟨List.mem_of_getElem? (i := 409) (by decide +kernel), by decide +kernel⟩, iX2, rfl, rfl, rfl⟩
theorem f_RX3_75 : zFL RX3 75 2 4 0 true := ⟨(RX2, TX2, 6), rfl, by decide, by decide, List.mem_filter.mpr ⟨List.mem_of_getElem? (i := 410) (by decide +kernel), by decide +kernel⟩, iX2, rfl, rfl, rfl⟩
theorem f_RX2_25 : zFL RX2 25 2 5 0 false := ⟨(RX2, TX2, 6), rfl, by decide, by decide, List.mem_filter.mpr ⟨List.mem_of_getElem? (i := 411) (by decide +kernel), by decide +kernel⟩, iX2, rfl, rfl, rfl⟩
theorem f_RX6_89 : zFL RX6 89 2 5 0 false := ⟨(RX2, TX2, 6), rfl, by decide, by decide, List.mem_filter.mpr ⟨List.mem_of_getElem? (i := 412) (by decide +kernel), by decide +kernel⟩, iX2, rfl, rfl, rfl⟩
theorem f_RX3_84 : zFL RX3 84 2 5 0 false := ⟨(RX2, TX2, 6), rfl, by decide, by decide, List.mem_filter.mpr ⟨List.mem_of_getElem? (i := 413) (by decide +kernel), by decide +kernel⟩, iX2, rfl, rfl, rfl⟩
theorem f_RX7_75 : zFL RX7 75 7 0 0 false := ⟨(RX7, TX7, 31), rfl, by decide, by decide, List.mem_filter.mpr ⟨List.mem_of_getElem? (i := 665) (by decide +kernel), by decide +kernel⟩, iX7, rfl, rfl, rfl⟩
theorem f_RX7_7 : zFL RX7 7 7 1 2 true := ⟨(RX7, TX7, 31), rfl, by decide, by decide, List.mem_filter.mpr ⟨List.mem_of_getElem? (i := 666) (by decide +kernel), by decide +kernel⟩, iX7, rfl, rfl, rfl⟩
theorem f_RX7_79 : zFL RX7 79 7 2 0 false := ⟨(RX7, TX7, 31), rfl, by decide, by decide, List.mem_filter.mpr ⟨List.mem_of_getElem? (i := 667) (by decide +kernel), by decide +kernel⟩, iX7, rfl, rfl, rfl⟩
theorem f_RX7_82 : zFL RX7 82 7 3 0 false := ⟨(RX7, TX7, 31), rfl, by decide, by decide, List.mem_filter.mpr ⟨List.mem_of_getElem? (i := 668) (by decide +kernel), by decide +kernel⟩, iX7, rfl, rfl, rfl⟩
theorem f_RX7_85 : zFL RX7 85 7 4 0 false := ⟨(RX7, TX7, 31), rfl, by decide, by decide, List.mem_filter.mpr ⟨List.mem_of_getElem? (i := 669) (by decide +kernel), by decide +kernel⟩, iX7, rfl, rfl, rfl⟩
theorem f_RX7_13 : zFL RX7 13 7 5 2 true := ⟨(RX7, TX7, 31), rfl, by decide, by decide, List.mem_filter.mpr ⟨List.mem_of_getElem? (i := 670) (by decide +kernel), by decide +kernel⟩, iX7, rfl, rfl, rfl⟩
theorem f_RX7_16 : zFL RX7 16 7 6 2 true := ⟨(RX7, TX7, 31), rfl, by decide, by decide, List.mem_filter.mpr ⟨List.mem_of_getElem? (i := 671) (by decide +kernel), by decide +kernel⟩, iX7, rfl, rfl, rfl⟩
theorem f_RX7_19 : zFL RX7 19 7 7 2 true := ⟨(RX7, TX7, 31), rfl, by decide, by decide, List.mem_filter.mpr ⟨List.mem_of_getElem? (i := 672) (by decide +kernel), by decide +kernel⟩, iX7, rfl, rfl, rfl⟩
theorem f_RX7_22 : zFL RX7 22 7 8 2 true := ⟨(RX7, TX7, 31), rfl, by decide, by decide, List.mem_filter.mpr ⟨List.mem_of_getElem? (i := 673) (by decide +kernel), by decide +kernel⟩, iX7, rfl, rfl, rfl⟩
theorem f_RX7_25 : zFL RX7 25 7 9 2 true := ⟨(RX7, TX7, 31), rfl, by decide, by decide, List.mem_filter.mpr ⟨List.mem_of_getElem? (i := 674) (by decide +kernel), by decide +kernel⟩, iX7, rfl, rfl, rfl⟩
theorem f_RX7_155 : zFL RX7 155 7 10 0 false := ⟨(RX7, TX7, 31), rfl, by decide, by decide, List.mem_filter.mpr ⟨List.mem_of_getElem? (i := 675) (by decide +kernel), by decide +kernel⟩, iX7, rfl, rfl, rfl⟩
theorem f_RX7_107 : zFL RX7 107 7 11 0 false := ⟨(RX7, TX7, 31), rfl, by decide, by decide, List.mem_filter.mpr ⟨List.mem_of_getElem? (i := 676) (by decide +kernel), by decide +kernel⟩, iX7, rfl, rfl, rfl⟩
theorem f_RX7_168 : zFL RX7 168 7 12 0 false := ⟨(RX7, TX7, 31), rfl, by decide, by decide, List.mem_filter.mpr ⟨List.mem_of_getElem? (i := 677) (by decide +kernel), by decide +kernel⟩, iX7, rfl, rfl, rfl⟩
theorem f_RX7_28 : zFL RX7 28 7 13 2 true := ⟨(RX7, TX7, 31), rfl, by decide, by decide, List.mem_filter.mpr ⟨List.mem_of_getElem? (i := 678) (by decide +kernel), by decide +kernel⟩, iX7, rfl, rfl, rfl⟩
theorem f_RX7_31 : zFL RX7 31 7 14 2 true := ⟨(RX7, TX7, 31), rfl, by decide, by decide, List.mem_filter.mpr ⟨List.mem_of_getElem? (i := 679) (by decide +kernel), by decide +kernel⟩, iX7, rfl, rfl, rfl⟩
theorem f_RX7_34 : zFL RX7 34 7 15 2 true := ⟨(RX7, TX7, 31), rfl, by decide, by decide, List.mem_filter.mpr ⟨List.mem_of_getElem? (i := 680) (by decide +kernel), by decide +kernel⟩, iX7, rfl, rfl, rfl⟩
theorem f_RX7_37 : zFL RX7 37 7 16 2 true := ⟨(RX7, TX7, 31), rfl, by decide, by decide, List.mem_filter.mpr ⟨List.mem_of_getElem? (i := 681) (by decide +kernel), by decide +kernel⟩, iX7, rfl, rfl, rfl⟩
theorem f_RX7_40 : zFL RX7 40 7 17 2 true := ⟨(RX7, TX7, 31), rfl, by decide, by decide, List.mem_filter.mpr ⟨List.mem_of_getElem? (i := 682) (by decide +kernel), by decide +kernel⟩, iX7, rfl, rfl, rfl⟩
theorem f_RX7_43 : zFL RX7 43 7 18 2 true := ⟨(RX7, TX7, 31), rfl, by decide, by decide, List.mem_filter.mpr ⟨List.mem_of_getElem? (i := 683) (by decide +kernel), by decide +kernel⟩, iX7, rfl, rfl, rfl⟩
theorem f_RX7_172 : zFL RX7 172 7 19 0 false := ⟨(RX7, TX7, 31), rfl, by decide, by decide, List.mem_filter.mpr ⟨List.mem_of_getElem? (i := 684) (by decide +kernel), by decide +kernel⟩, iX7, rfl, rfl, rfl⟩
theorem f_RX7_47 : zFL RX7 47 7 20 2 true := ⟨(RX7, TX7, 31), rfl, by decide, by decide, List.mem_filter.mpr ⟨List.mem_of_getElem? (i := 685) (by decide +kernel), by decide +kernel⟩, iX7, rfl, rfl, rfl⟩
theorem f_RX7_50 : zFL RX7 50 7 21 2 true := ⟨(RX7, TX7, 31), rfl, by decide, by decide, List.mem_filter.mpr ⟨List.mem_of_getElem? (i := 686) (by decide +kernel), by decide +kernel⟩, iX7, rfl, rfl, rfl⟩
theorem f_RX7_54 : zFL RX7 54 7 22 2 true := ⟨(RX7, TX7, 31), rfl, by decide, by decide, List.mem_filter.mpr ⟨List.mem_of_getElem? (i := 687) (by decide +kernel), by decide +kernel⟩, iX7, rfl, rfl, rfl⟩
theorem f_RX7_243 : zFL RX7 243 7 23 0 false := ⟨(RX7, TX7, 31), rfl, by decide, by decide, List.mem_filter.mpr ⟨List.mem_of_getElem? (i := 688) (by decide +kernel), by decide +kernel⟩, iX7, rfl, rfl, rfl⟩
theorem f_RX7_57 : zFL RX7 57 7 24 2 true := ⟨(RX7, TX7, 31), rfl, by decide, by decide, List.mem_filter.mpr ⟨List.mem_of_getElem? (i := 689) (by decide +kernel), by decide +kernel⟩, iX7, rfl, rfl, rfl⟩
theorem f_RX7_220 : zFL RX7 220 7 25 0 false := ⟨(RX7, TX7, 31), rfl, by decide, by decide, List.mem_filter.mpr ⟨List.mem_of_getElem? (i := 690) (by decide +kernel), by decide +kernel⟩, iX7, rfl, rfl, rfl⟩
theorem f_RX7_60 : zFL RX7 60 7 26 2 true := ⟨(RX7, TX7, 31), rfl, by decide, by decide, List.mem_filter.mpr ⟨List.mem_of_getElem? (i := 691) (by decide +kernel), by decide +kernel⟩, iX7, rfl, rfl, rfl⟩
theorem f_RX7_63 : zFL RX7 63 7 27 2 true := ⟨(RX7, TX7, 31), rfl, by decide, by decide, List.mem_filter.mpr ⟨List.mem_of_getElem? (i := 692) (by decide +kernel), by decide +kernel⟩, iX7, rfl, rfl, rfl⟩
theorem f_RX7_66 : zFL RX7 66 7 28 2 true := ⟨(RX7, TX7, 31), rfl, by decide, by decide, List.mem_filter.mpr ⟨List.mem_of_getElem? (i := 693) (by decide +kernel), by decide +kernel⟩, iX7, rfl, rfl, rfl⟩
theorem f_RX7_69 : zFL RX7 69 7 29 2 true := ⟨(RX7, TX7, 31), rfl, by decide, by decide, List.mem_filter.mpr ⟨List.mem_of_getElem? (i := 694) (by decide +kernel), by decide +kernel⟩, iX7, rfl, rfl, rfl⟩
theorem f_RX7_72 : zFL RX7 72 7 30 2 true := ⟨(RX7, TX7, 31), rfl, by decide, by decide, List.mem_filter.mpr ⟨List.mem_of_getElem? (i := 695) (by decide +kernel), by decide +kernel⟩, iX7, rfl, rfl, rfl⟩
theorem tc_RX6_62 : Cond.constant RX6 62 (-1000004) ∈ zTB := List.mem_filter.mpr ⟨List.mem_of_getElem? (i := 290) (by decide +kernel), by decide +kernel⟩
theorem tc_RX6_169 : Cond.constant RX6 169 (100000) ∈ zTB := List.mem_filter.mpr ⟨List.mem_of_getElem? (i := 394) (by decide +kernel), by decide +kernel⟩
theorem tc_RX6_77 : Cond.constant RX6 77 (-1000002) ∈ zTB := List.mem_filter.mpr ⟨List.mem_of_getElem? (i := 395) (by decide +kernel), by decide +kernel⟩
theorem tc_RX6_88 : Cond.constant RX6 88 (-1000001) ∈ zTB := List.mem_filter.mpr ⟨List.mem_of_getElem? (i := 435) (by decide +kernel), by decide +kernel⟩
theorem tc_RJ6_265 : Cond.constant RJ6 265 (1431655765) ∈ zTB := List.mem_filter.mpr ⟨List.mem_of_getElem? (i := 439) (by decide +kernel), by decide +kernel⟩
theorem tc_RJ6_266 : Cond.constant RJ6 266 (858993459) ∈ zTB := List.mem_filter.mpr ⟨List.mem_of_getElem? (i := 440) (by decide +kernel), by decide +kernel⟩
theorem tc_RJ6_267 : Cond.constant RJ6 267 (252645135) ∈ zTB := List.mem_filter.mpr ⟨List.mem_of_getElem? (i := 441) (by decide +kernel), by decide +kernel⟩
theorem tc_RX6_148 : Cond.constant RX6 148 (-1000003) ∈ zTB := List.mem_filter.mpr ⟨List.mem_of_getElem? (i := 456) (by decide +kernel), by decide +kernel⟩
theorem tc_RX7_124 : Cond.constant RX7 124 (9999999) ∈ zTB := List.mem_filter.mpr ⟨List.mem_of_getElem? (i := 821) (by decide +kernel), by decide +kernel⟩
theorem tc_RX7_158 : Cond.constant RX7 158 (-1000004) ∈ zTB := List.mem_filter.mpr ⟨List.mem_of_getElem? (i := 846) (by decide +kernel), by decide +kernel⟩
theorem tc_RX7_167 : Cond.constant RX7 167 (-1000002) ∈ zTB := List.mem_filter.mpr ⟨List.mem_of_getElem? (i := 856) (by decide +kernel), by decide +kernel⟩
theorem tc_RX7_171 : Cond.constant RX7 171 (-1000001) ∈ zTB := List.mem_filter.mpr ⟨List.mem_of_getElem? (i := 861) (by decide +kernel), by decide +kernel⟩
theorem tc_RX7_207 : Cond.constant RX7 207 (-1000003) ∈ zTB := List.mem_filter.mpr ⟨List.mem_of_getElem? (i := 871) (by decide +kernel), by decide +kernel⟩
theorem tc_RX0_21 : Cond.constantLong RX0 21 (-1) ∈ zTB := List.mem_filter.mpr ⟨List.mem_of_getElem? (i := 130) (by decide +kernel), by decide +kernel⟩
theorem tc_RX6_98 : Cond.constantLong RX6 98 (-1000001) ∈ zTB := List.mem_filter.mpr ⟨List.mem_of_getElem? (i := 446) (by decide +kernel), by decide +kernel⟩
theorem tc_RX6_167 : Cond.constantLong RX6 167 (9999999) ∈ zTB := List.mem_filter.mpr ⟨List.mem_of_getElem? (i := 451) (by decide +kernel), by decide +kernel⟩
theorem tc_RX0_63 : Cond.constantLong RX0 63 (100) ∈ zTB := List.mem_filter.mpr ⟨List.mem_of_getElem? (i := 498) (by decide +kernel), by decide +kernel⟩
theorem tc_RX6_123 : Cond.constantLong RX6 123 (-1) ∈ zTB := List.mem_filter.mpr ⟨List.mem_of_getElem? (i := 505) (by decide +kernel), by decide +kernel⟩
theorem tc_RX6_129 : Cond.constantLong RX6 129 (1000000000000000) ∈ zTB := List.mem_filter.mpr ⟨List.mem_of_getElem? (i := 653) (by decide +kernel), by decide +kernel⟩
theorem tc_RX6_131 : Cond.constantLong RX6 131 (-1000002) ∈ zTB := List.mem_filter.mpr ⟨List.mem_of_getElem? (i := 654) (by decide +kernel), by decide +kernel⟩
theorem tc_RX7_159 : Cond.constantLong RX7 159 (9) ∈ zTB := List.mem_filter.mpr ⟨List.mem_of_getElem? (i := 851) (by decide +kernel), by decide +kernel⟩
theorem tc_RX7_165 : Cond.constantLong RX7 165 (100000) ∈ zTB := List.mem_filter.mpr ⟨List.mem_of_getElem? (i := 855) (by decide +kernel), by decide +kernel⟩
theorem tc_RX7_205 : Cond.constantLong RX7 205 (9999999) ∈ zTB := List.mem_filter.mpr ⟨List.mem_of_getElem? (i := 870) (by decide +kernel), by decide +kernel⟩
theorem tc_RX7_190 : Cond.constantLong RX7 190 (-1) ∈ zTB := List.mem_filter.mpr ⟨List.mem_of_getElem? (i := 880) (by decide +kernel), by decide +kernel⟩
theorem tc_RX7_203 : Cond.constantLong RX7 203 (100) ∈ zTB := List.mem_filter.mpr ⟨List.mem_of_getElem? (i := 905) (by decide +kernel), by decide +kernel⟩
theorem tc_RX7_216 : Cond.constantLong RX7 216 (1000000000000000) ∈ zTB := List.mem_filter.mpr ⟨List.mem_of_getElem? (i := 918) (by decide +kernel), by decide +kernel⟩
theorem tc_RX7_218 : Cond.constantLong RX7 218 (-1000002) ∈ zTB := List.mem_filter.mpr ⟨List.mem_of_getElem? (i := 919) (by decide +kernel), by decide +kernel⟩
theorem tc_RL_39 : Cond.constantLong RL 39 (4294967295) ∈ zTB := List.mem_filter.mpr ⟨List.mem_of_getElem? (i := 956) (by decide +kernel), by decide +kernel⟩
theorem tcl_RL_8 : Cond.classLink RL 8 RX6 ∈ zTB := List.mem_filter.mpr ⟨List.mem_of_getElem? (i := 72) (by decide +kernel), by decide +kernel⟩
theorem tcl_RX6_9 : Cond.classLink RX6 9 RX5 ∈ zTB := List.mem_filter.mpr ⟨List.mem_of_getElem? (i := 80) (by decide +kernel), by decide +kernel⟩
theorem tcl_RX6_16 : Cond.classLink RX6 16 RX4 ∈ zTB := List.mem_filter.mpr ⟨List.mem_of_getElem? (i := 109) (by decide +kernel), by decide +kernel⟩
theorem tcl_RX6_23 : Cond.classLink RX6 23 RX0 ∈ zTB := List.mem_filter.mpr ⟨List.mem_of_getElem? (i := 124) (by decide +kernel), by decide +kernel⟩
theorem tcl_RX6_33 : Cond.classLink RX6 33 RX2 ∈ zTB := List.mem_filter.mpr ⟨List.mem_of_getElem? (i := 148) (by decide +kernel), by decide +kernel⟩
theorem tcl_RX6_39 : Cond.classLink RX6 39 RX1 ∈ zTB := List.mem_filter.mpr ⟨List.mem_of_getElem? (i := 150) (by decide +kernel), by decide +kernel⟩
theorem tcl_RX1_9 : Cond.classLink RX1 9 RX3 ∈ zTB := List.mem_filter.mpr ⟨List.mem_of_getElem? (i := 157) (by decide +kernel), by decide +kernel⟩
theorem tcl_RL_16 : Cond.classLink RL 16 RX7 ∈ zTB := List.mem_filter.mpr ⟨List.mem_of_getElem? (i := 659) (by decide +kernel), by decide +kernel⟩
theorem tin_RX6 : Cond.instantiable RX6 8 ∈ zTB := List.mem_filter.mpr ⟨List.mem_of_getElem? (i := 73) (by decide +kernel), by decide +kernel⟩
theorem tin_RX5 : Cond.instantiable RX5 7 ∈ zTB := List.mem_filter.mpr ⟨List.mem_of_getElem? (i := 81) (by decide +kernel), by decide +kernel⟩
theorem tin_RX4 : Cond.instantiable RX4 2 ∈ zTB := List.mem_filter.mpr ⟨List.mem_of_getElem? (i := 110) (by decide +kernel), by decide +kernel⟩
theorem tin_RX0 : Cond.instantiable RX0 5 ∈ zTB := List.mem_filter.mpr ⟨List.mem_of_getElem? (i := 125) (by decide +kernel), by decide +kernel⟩
theorem tin_RX1 : Cond.instantiable RX1 1 ∈ zTB := List.mem_filter.mpr ⟨List.mem_of_getElem? (i := 152) (by decide +kernel), by decide +kernel⟩
theorem tin_RX3 : Cond.instantiable RX3 15 ∈ zTB := List.mem_filter.mpr ⟨List.mem_of_getElem? (i := 159) (by decide +kernel), by decide +kernel⟩
theorem tin_RX2 : Cond.instantiable RX2 6 ∈ zTB := List.mem_filter.mpr ⟨List.mem_of_getElem? (i := 396) (by decide +kernel), by decide +kernel⟩
theorem tin_RX7 : Cond.instantiable RX7 31 ∈ zTB := List.mem_filter.mpr ⟨List.mem_of_getElem? (i := 660) (by decide +kernel), by decide +kernel⟩
theorem tarr_int : Cond.arrayClass .int ∈ zTB := List.mem_filter.mpr ⟨List.mem_of_getElem? (i := 108) (by decide +kernel), by decide +kernel⟩
theorem tarr_byte : Cond.arrayClass .byte ∈ zTB := List.mem_filter.mpr ⟨List.mem_of_getElem? (i := 644) (by decide +kernel), by decide +kernel⟩
theorem tarr_boolean : Cond.arrayClass .boolean ∈ zTB := List.mem_filter.mpr ⟨List.mem_of_getElem? (i := 759) (by decide +kernel), by decide +kernel⟩
theorem tarr_long : Cond.arrayClass .long ∈ zTB := List.mem_filter.mpr ⟨List.mem_of_getElem? (i := 760) (by decide +kernel), by decide +kernel⟩
theorem tobj_in : Cond.instanceMethod objectInit ∈ zTB := List.mem_filter.mpr ⟨List.mem_of_getElem? (i := 78) (by decide +kernel), by decide +kernel⟩
theorem tobj_code : Cond.code objectInit ⟨#[0xb1]⟩ 1 none ∈ zTB := List.mem_filter.mpr ⟨List.mem_of_getElem? (i := 79) (by decide +kernel), by decide +kernel⟩
end
section
section ZD
variable {D : va_G} {M M' : zM} {d k n pc : Nat} {L : List (Nat × zV)} {st : List zV} {ty : zT} {sz : Nat} {h : zH} {Q : zQ}
theorem zC_lt {ci : Nat} {C : String} (hc : (zC[ci]?).map (fun q => q.1) = some C) : ∃ q, ci < 8 ∧ zC[ci]? = some q ∧ q.1 = C := by
  cases hq : zC[ci]? with
  | none => rw [hq] at hc; cases hc
  | some q =>
    rw [hq] at hc
    exact ⟨q, (List.getElem?_eq_some_iff.mp hq).1, rfl, Option.some.inj hc⟩
theorem x_k0 (hx : zX D M d (k + 0) (n + 0) pc L st ty sz h Q) : zX D M d k n pc L st ty sz h Q := hx

theorem x_callV0 {idx ci N : Nat} {fz : zF} {r : Int} (hd : decode M.2.1 pc = .ok (.invokevirtual idx, 3)) (hlk : zLK M idx M') (hM : zMV M' 0) (hr : ty r = some (ci, N, fz)) (hc : (zC[ci]?).map (fun q => q.1) = some M'.1.cls) (hst : Nat.ble (zsum st) 8 = true) (hla : Nat.ble (zsum (rV r :: [])) M'.2.2.1 = true) (hb : zXM D M' d 0 0 (rV r :: []) ty sz h (fun v ty' sz' h' => zX D M (d + 1) k n (pc + 3) L (v.toList ++ st) ty' sz' h' Q)) : zX D M (d + 1) k n pc L (rV r :: st) ty sz h Q := by
  obtain ⟨q, h8, hq, hn⟩ := zC_lt hc
  exact x_k0 (x_invV0 (As := []) hd hlk hM ⟨ci, N, fz, q, hr, h8, hq, hn⟩ (Nat.le_of_ble_eq_true hst) (Nat.le_of_ble_eq_true hla) hb (fun v ty' sz' h' q => q))
theorem x_callS0 {idx : Nat} (hd : decode M.2.1 pc = .ok (.invokestatic idx, 3)) (hlk : zLK M idx M') (hM : zMS M' 0) (hst : Nat.ble (zsum st) 8 = true) (hla : Nat.ble (zsum []) M'.2.2.1 = true) (hb : zXM D M' d 0 0 [] ty sz h (fun v ty' sz' h' => zX D M (d + 1) k n (pc + 3) L (v.toList ++ st) ty' sz' h' Q)) : zX D M (d + 1) k n pc L (st) ty sz h Q :=
  x_k0 (x_invS0 (As := []) hd hlk hM (Nat.le_of_ble_eq_true hst) (Nat.le_of_ble_eq_true hla) hb (fun v ty' sz' h' q => q))
theorem x_callI0 {idx : Nat} {r : Int} (k' n' : Nat) (hd : decode M.2.1 pc = .ok (.invokespecial idx, 3)) (hlk : zLK M idx M') (hM : zMI M' 0) (hr : 0 ≤ r) (hst : Nat.ble (zsum st) 8 = true) (hla : Nat.ble (zsum (rV r :: [])) M'.2.2.1 = true) (hb : zXM D M' d k' n' (rV r :: []) ty sz h (fun v ty' sz' h' => zX D M (d + 1) k n (pc + 3) L (v.toList ++ st) ty' sz' h' Q)) : zX D M (d + 1) (k + k') (n + n') pc L (rV r :: st) ty sz h Q :=
  x_invI0 (As := []) hd hlk hM hr (Nat.le_of_ble_eq_true hst) (Nat.le_of_ble_eq_true hla) hb (fun v ty' sz' h' q => q)
theorem x_callV1 {idx ci N : Nat} {fz : zF} {r : Int} {a0 : zV} (hd : decode M.2.1 pc = .ok (.invokevirtual idx, 3)) (hlk : zLK M idx M') (hM : zMV M' 1) (hr : ty r = some (ci, N, fz)) (hc : (zC[ci]?).map (fun q => q.1) = some M'.1.cls) (hst : Nat.ble (zsum st) 8 = true) (hla : Nat.ble (zsum (rV r :: [a0])) M'.2.2.1 = true) (hb : zXM D M' d 0 0 (rV r :: [a0]) ty sz h (fun v ty' sz' h' => zX D M (d + 1) k n (pc + 3) L (v.toList ++ st) ty' sz' h' Q)) : zX D M (d + 1) k n pc L (a0 :: rV r :: st) ty sz h Q := by
  obtain ⟨q, h8, hq, hn⟩ := zC_lt hc
  exact x_k0 (x_invV0 (As := [a0]) hd hlk hM ⟨ci, N, fz, q, hr, h8, hq, hn⟩ (Nat.le_of_ble_eq_true hst) (Nat.le_of_ble_eq_true hla) hb (fun v ty' sz' h' q => q))
theorem x_callS1 {idx : Nat} {a0 : zV} (hd : decode M.2.1 pc = .ok (.invokestatic idx, 3)) (hlk : zLK M idx M') (hM : zMS M' 1) (hst : Nat.ble (zsum st) 8 = true) (hla : Nat.ble (zsum [a0]) M'.2.2.1 = true) (hb : zXM D M' d 0 0 [a0] ty sz h (fun v ty' sz' h' => zX D M (d + 1) k n (pc + 3) L (v.toList ++ st) ty' sz' h' Q)) : zX D M (d + 1) k n pc L (a0 :: st) ty sz h Q :=
  x_k0 (x_invS0 (As := [a0]) hd hlk hM (Nat.le_of_ble_eq_true hst) (Nat.le_of_ble_eq_true hla) hb (fun v ty' sz' h' q => q))
theorem x_callI1 {idx : Nat} {r : Int} {a0 : zV} (k' n' : Nat) (hd : decode M.2.1 pc = .ok (.invokespecial idx, 3)) (hlk : zLK M idx M') (hM : zMI M' 1) (hr : 0 ≤ r) (hst : Nat.ble (zsum st) 8 = true) (hla : Nat.ble (zsum (rV r :: [a0])) M'.2.2.1 = true) (hb : zXM D M' d k' n' (rV r :: [a0]) ty sz h (fun v ty' sz' h' => zX D M (d + 1) k n (pc + 3) L (v.toList ++ st) ty' sz' h' Q)) : zX D M (d + 1) (k + k') (n + n') pc L (a0 :: rV r :: st) ty sz h Q :=
  x_invI0 (As := [a0]) hd hlk hM hr (Nat.le_of_ble_eq_true hst) (Nat.le_of_ble_eq_true hla) hb (fun v ty' sz' h' q => q)
theorem x_callV2 {idx ci N : Nat} {fz : zF} {r : Int} {a0 a1 : zV} (hd : decode M.2.1 pc = .ok (.invokevirtual idx, 3)) (hlk : zLK M idx M') (hM : zMV M' 2) (hr : ty r = some (ci, N, fz)) (hc : (zC[ci]?).map (fun q => q.1) = some M'.1.cls) (hst : Nat.ble (zsum st) 8 = true) (hla : Nat.ble (zsum (rV r :: [a0, a1])) M'.2.2.1 = true) (hb : zXM D M' d 0 0 (rV r :: [a0, a1]) ty sz h (fun v ty' sz' h' => zX D M (d + 1) k n (pc + 3) L (v.toList ++ st) ty' sz' h' Q)) : zX D M (d + 1) k n pc L (a1 :: a0 :: rV r :: st) ty sz h Q := by
  obtain ⟨q, h8, hq, hn⟩ := zC_lt hc
  exact x_k0 (x_invV0 (As := [a0, a1]) hd hlk hM ⟨ci, N, fz, q, hr, h8, hq, hn⟩ (Nat.le_of_ble_eq_true hst) (Nat.le_of_ble_eq_true hla) hb (fun v ty' sz' h' q => q))
theorem x_callS2 {idx : Nat} {a0 a1 : zV} (hd : decode M.2.1 pc = .ok (.invokestatic idx, 3)) (hlk : zLK M idx M') (hM : zMS M' 2) (hst : Nat.ble (zsum st) 8 = true) (hla : Nat.ble (zsum [a0, a1]) M'.2.2.1 = true) (hb : zXM D M' d 0 0 [a0, a1] ty sz h (fun v ty' sz' h' => zX D M (d + 1) k n (pc + 3) L (v.toList ++ st) ty' sz' h' Q)) : zX D M (d + 1) k n pc L (a1 :: a0 :: st) ty sz h Q :=
  x_k0 (x_invS0 (As := [a0, a1]) hd hlk hM (Nat.le_of_ble_eq_true hst) (Nat.le_of_ble_eq_true hla) hb (fun v ty' sz' h' q => q))
theorem x_callI2 {idx : Nat} {r : Int} {a0 a1 : zV} (k' n' : Nat) (hd : decode M.2.1 pc = .ok (.invokespecial idx, 3)) (hlk : zLK M idx M') (hM : zMI M' 2) (hr : 0 ≤ r) (hst : Nat.ble (zsum st) 8 = true) (hla : Nat.ble (zsum (rV r :: [a0, a1])) M'.2.2.1 = true) (hb : zXM D M' d k' n' (rV r :: [a0, a1]) ty sz h (fun v ty' sz' h' => zX D M (d + 1) k n (pc + 3) L (v.toList ++ st) ty' sz' h' Q)) : zX D M (d + 1) (k + k') (n + n') pc L (a1 :: a0 :: rV r :: st) ty sz h Q :=
  x_invI0 (As := [a0, a1]) hd hlk hM hr (Nat.le_of_ble_eq_true hst) (Nat.le_of_ble_eq_true hla) hb (fun v ty' sz' h' q => q)
theorem x_callV3 {idx ci N : Nat} {fz : zF} {r : Int} {a0 a1 a2 : zV} (hd : decode M.2.1 pc = .ok (.invokevirtual idx, 3)) (hlk : zLK M idx M') (hM : zMV M' 3) (hr : ty r = some (ci, N, fz)) (hc : (zC[ci]?).map (fun q => q.1) = some M'.1.cls) (hst : Nat.ble (zsum st) 8 = true) (hla : Nat.ble (zsum (rV r :: [a0, a1, a2])) M'.2.2.1 = true) (hb : zXM D M' d 0 0 (rV r :: [a0, a1, a2]) ty sz h (fun v ty' sz' h' => zX D M (d + 1) k n (pc + 3) L (v.toList ++ st) ty' sz' h' Q)) : zX D M (d + 1) k n pc L (a2 :: a1 :: a0 :: rV r :: st) ty sz h Q := by
  obtain ⟨q, h8, hq, hn⟩ := zC_lt hc
  exact x_k0 (x_invV0 (As := [a0, a1, a2]) hd hlk hM ⟨ci, N, fz, q, hr, h8, hq, hn⟩ (Nat.le_of_ble_eq_true hst) (Nat.le_of_ble_eq_true hla) hb (fun v ty' sz' h' q => q))
theorem x_callS3 {idx : Nat} {a0 a1 a2 : zV} (hd : decode M.2.1 pc = .ok (.invokestatic idx, 3)) (hlk : zLK M idx M') (hM : zMS M' 3) (hst : Nat.ble (zsum st) 8 = true) (hla : Nat.ble (zsum [a0, a1, a2]) M'.2.2.1 = true) (hb : zXM D M' d 0 0 [a0, a1, a2] ty sz h (fun v ty' sz' h' => zX D M (d + 1) k n (pc + 3) L (v.toList ++ st) ty' sz' h' Q)) : zX D M (d + 1) k n pc L (a2 :: a1 :: a0 :: st) ty sz h Q :=
  x_k0 (x_invS0 (As := [a0, a1, a2]) hd hlk hM (Nat.le_of_ble_eq_true hst) (Nat.le_of_ble_eq_true hla) hb (fun v ty' sz' h' q => q))
theorem x_callI3 {idx : Nat} {r : Int} {a0 a1 a2 : zV} (k' n' : Nat) (hd : decode M.2.1 pc = .ok (.invokespecial idx, 3)) (hlk : zLK M idx M') (hM : zMI M' 3) (hr : 0 ≤ r) (hst : Nat.ble (zsum st) 8 = true) (hla : Nat.ble (zsum (rV r :: [a0, a1, a2])) M'.2.2.1 = true) (hb : zXM D M' d k' n' (rV r :: [a0, a1, a2]) ty sz h (fun v ty' sz' h' => zX D M (d + 1) k n (pc + 3) L (v.toList ++ st) ty' sz' h' Q)) : zX D M (d + 1) (k + k') (n + n') pc L (a2 :: a1 :: a0 :: rV r :: st) ty sz h Q :=
  x_invI0 (As := [a0, a1, a2]) hd hlk hM hr (Nat.le_of_ble_eq_true hst) (Nat.le_of_ble_eq_true hla) hb (fun v ty' sz' h' q => q)
theorem x_callV4 {idx ci N : Nat} {fz : zF} {r : Int} {a0 a1 a2 a3 : zV} (hd : decode M.2.1 pc = .ok (.invokevirtual idx, 3)) (hlk : zLK M idx M') (hM : zMV M' 4) (hr : ty r = some (ci, N, fz)) (hc : (zC[ci]?).map (fun q => q.1) = some M'.1.cls) (hst : Nat.ble (zsum st) 8 = true) (hla : Nat.ble (zsum (rV r :: [a0, a1, a2, a3])) M'.2.2.1 = true) (hb : zXM D M' d 0 0 (rV r :: [a0, a1, a2, a3]) ty sz h (fun v ty' sz' h' => zX D M (d + 1) k n (pc + 3) L (v.toList ++ st) ty' sz' h' Q)) : zX D M (d + 1) k n pc L (a3 :: a2 :: a1 :: a0 :: rV r :: st) ty sz h Q := by
  obtain ⟨q, h8, hq, hn⟩ := zC_lt hc
  exact x_k0 (x_invV0 (As := [a0, a1, a2, a3]) hd hlk hM ⟨ci, N, fz, q, hr, h8, hq, hn⟩ (Nat.le_of_ble_eq_true hst) (Nat.le_of_ble_eq_true hla) hb (fun v ty' sz' h' q => q))
theorem x_callS4 {idx : Nat} {a0 a1 a2 a3 : zV} (hd : decode M.2.1 pc = .ok (.invokestatic idx, 3)) (hlk : zLK M idx M') (hM : zMS M' 4) (hst : Nat.ble (zsum st) 8 = true) (hla : Nat.ble (zsum [a0, a1, a2, a3]) M'.2.2.1 = true) (hb : zXM D M' d 0 0 [a0, a1, a2, a3] ty sz h (fun v ty' sz' h' => zX D M (d + 1) k n (pc + 3) L (v.toList ++ st) ty' sz' h' Q)) : zX D M (d + 1) k n pc L (a3 :: a2 :: a1 :: a0 :: st) ty sz h Q :=
  x_k0 (x_invS0 (As := [a0, a1, a2, a3]) hd hlk hM (Nat.le_of_ble_eq_true hst) (Nat.le_of_ble_eq_true hla) hb (fun v ty' sz' h' q => q))
theorem x_callI4 {idx : Nat} {r : Int} {a0 a1 a2 a3 : zV} (k' n' : Nat) (hd : decode M.2.1 pc = .ok (.invokespecial idx, 3)) (hlk : zLK M idx M') (hM : zMI M' 4) (hr : 0 ≤ r) (hst : Nat.ble (zsum st) 8 = true) (hla : Nat.ble (zsum (rV r :: [a0, a1, a2, a3])) M'.2.2.1 = true) (hb : zXM D M' d k' n' (rV r :: [a0, a1, a2, a3]) ty sz h (fun v ty' sz' h' => zX D M (d + 1) k n (pc + 3) L (v.toList ++ st) ty' sz' h' Q)) : zX D M (d + 1) (k + k') (n + n') pc L (a3 :: a2 :: a1 :: a0 :: rV r :: st) ty sz h Q :=
  x_invI0 (As := [a0, a1, a2, a3]) hd hlk hM hr (Nat.le_of_ble_eq_true hst) (Nat.le_of_ble_eq_true hla) hb (fun v ty' sz' h' q => q)
theorem x_callV5 {idx ci N : Nat} {fz : zF} {r : Int} {a0 a1 a2 a3 a4 : zV} (hd : decode M.2.1 pc = .ok (.invokevirtual idx, 3)) (hlk : zLK M idx M') (hM : zMV M' 5) (hr : ty r = some (ci, N, fz)) (hc : (zC[ci]?).map (fun q => q.1) = some M'.1.cls) (hst : Nat.ble (zsum st) 8 = true) (hla : Nat.ble (zsum (rV r :: [a0, a1, a2, a3, a4])) M'.2.2.1 = true) (hb : zXM D M' d 0 0 (rV r :: [a0, a1, a2, a3, a4]) ty sz h (fun v ty' sz' h' => zX D M (d + 1) k n (pc + 3) L (v.toList ++ st) ty' sz' h' Q)) : zX D M (d + 1) k n pc L (a4 :: a3 :: a2 :: a1 :: a0 :: rV r :: st) ty sz h Q := by
  obtain ⟨q, h8, hq, hn⟩ := zC_lt hc
  exact x_k0 (x_invV0 (As := [a0, a1, a2, a3, a4]) hd hlk hM ⟨ci, N, fz, q, hr, h8, hq, hn⟩ (Nat.le_of_ble_eq_true hst) (Nat.le_of_ble_eq_true hla) hb (fun v ty' sz' h' q => q))
theorem x_callS5 {idx : Nat} {a0 a1 a2 a3 a4 : zV} (hd : decode M.2.1 pc = .ok (.invokestatic idx, 3)) (hlk : zLK M idx M') (hM : zMS M' 5) (hst : Nat.ble (zsum st) 8 = true) (hla : Nat.ble (zsum [a0, a1, a2, a3, a4]) M'.2.2.1 = true) (hb : zXM D M' d 0 0 [a0, a1, a2, a3, a4] ty sz h (fun v ty' sz' h' => zX D M (d + 1) k n (pc + 3) L (v.toList ++ st) ty' sz' h' Q)) : zX D M (d + 1) k n pc L (a4 :: a3 :: a2 :: a1 :: a0 :: st) ty sz h Q :=
  x_k0 (x_invS0 (As := [a0, a1, a2, a3, a4]) hd hlk hM (Nat.le_of_ble_eq_true hst) (Nat.le_of_ble_eq_true hla) hb (fun v ty' sz' h' q => q))
theorem x_callI5 {idx : Nat} {r : Int} {a0 a1 a2 a3 a4 : zV} (k' n' : Nat) (hd : decode M.2.1 pc = .ok (.invokespecial idx, 3)) (hlk : zLK M idx M') (hM : zMI M' 5) (hr : 0 ≤ r) (hst : Nat.ble (zsum st) 8 = true) (hla : Nat.ble (zsum (rV r :: [a0, a1, a2, a3, a4])) M'.2.2.1 = true) (hb : zXM D M' d k' n' (rV r :: [a0, a1, a2, a3, a4]) ty sz h (fun v ty' sz' h' => zX D M (d + 1) k n (pc + 3) L (v.toList ++ st) ty' sz' h' Q)) : zX D M (d + 1) (k + k') (n + n') pc L (a4 :: a3 :: a2 :: a1 :: a0 :: rV r :: st) ty sz h Q :=
  x_invI0 (As := [a0, a1, a2, a3, a4]) hd hlk hM hr (Nat.le_of_ble_eq_true hst) (Nat.le_of_ble_eq_true hla) hb (fun v ty' sz' h' q => q)
theorem y_getI (kI : Int) {ci N kf idx : Nat} {fz : zF} {fin : Bool} {r : Int} (hd : decode M.2.1 pc = .ok (.getfield idx, 3)) (hf : zFL M.1.cls idx ci kf 0 fin) (hty : ty r = some (ci, N, fz)) (hkI : (kf : Int) = kI) (kk : i32 (h r kI) → zX D M d k n (pc + 3) L (iV (h r kI) :: st) ty sz h Q) : zX D M d k n pc L (rV r :: st) ty sz h Q := by
  subst hkI
  exact x_getI hd hf hty kk
theorem y_getL (kI : Int) {ci N kf idx : Nat} {fz : zF} {fin : Bool} {r : Int} (hd : decode M.2.1 pc = .ok (.getfield idx, 3)) (hf : zFL M.1.cls idx ci kf 1 fin) (hty : ty r = some (ci, N, fz)) (hkI : (kf : Int) = kI) (kk : i64 (h r kI) → zX D M d k n (pc + 3) L (lV (h r kI) :: st) ty sz h Q) : zX D M d k n pc L (rV r :: st) ty sz h Q := by
  subst hkI
  exact x_getL hd hf hty kk
theorem y_getR (kI : Int) {ci N kf idx : Nat} {fz : zF} {fin : Bool} {r : Int} (hd : decode M.2.1 pc = .ok (.getfield idx, 3)) (hf : zFL M.1.cls idx ci kf 2 fin) (hty : ty r = some (ci, N, fz)) (hkI : (kf : Int) = kI) (kk : zX D M d k n (pc + 3) L (rV (h r kI) :: st) ty sz h Q) : zX D M d k n pc L (rV r :: st) ty sz h Q := by
  subst hkI
  exact x_getR hd hf hty kk
theorem y_putI (kI : Int) {ci N kf idx : Nat} {fz : zF} {r z : Int} (hd : decode M.2.1 pc = .ok (.putfield idx, 3)) (hf : zFL M.1.cls idx ci kf 0 false) (hty : ty r = some (ci, N, fz)) (hi : zty ci kf = .int) (hfz : fz (kf : Int) = none) (hrg : i32 z) (hkI : (kf : Int) = kI) (kk : zX D M d k n (pc + 3) L st ty sz (zup h r kI z) Q) : zX D M d k n pc L (iV z :: rV r :: st) ty sz h Q := by
  subst hkI
  exact x_putI hd hf hty hi hfz hrg kk
theorem y_putZ (kI : Int) {ci N kf idx : Nat} {fz : zF} {r z : Int} (hd : decode M.2.1 pc = .ok (.putfield idx, 3)) (hf : zFL M.1.cls idx ci kf 0 false) (hty : ty r = some (ci, N, fz)) (hi : zty ci kf = .boolean) (hz : z = 0 ∨ z = 1) (hfz : fz (kf : Int) = none) (hkI : (kf : Int) = kI) (kk : zX D M d k n (pc + 3) L st ty sz (zup h r kI z) Q) : zX D M d k n pc L (iV z :: rV r :: st) ty sz h Q := by
  subst hkI
  exact x_putZ hd hf hty hi hz hfz  kk
theorem y_putL (kI : Int) {ci N kf idx : Nat} {fz : zF} {r z : Int} (hd : decode M.2.1 pc = .ok (.putfield idx, 3)) (hf : zFL M.1.cls idx ci kf 1 false) (hty : ty r = some (ci, N, fz)) (hi : zty ci kf = .long) (hfz : fz (kf : Int) = none) (hrg : i64 z) (hkI : (kf : Int) = kI) (kk : zX D M d k n (pc + 3) L st ty sz (zup h r kI z) Q) : zX D M d k n pc L (lV z :: rV r :: st) ty sz h Q := by
  subst hkI
  exact x_putL hd hf hty hi hfz hrg kk
theorem y_putR (kI : Int) {ci N kf idx : Nat} {fz : zF} {r z : Int} {C : String} (hd : decode M.2.1 pc = .ok (.putfield idx, 3)) (hf : zFL M.1.cls idx ci kf 2 false) (hty : ty r = some (ci, N, fz)) (hi : zty ci kf = .object C) (hfz : fz (kf : Int) = none) (hkI : (kf : Int) = kI) (kk : zX D M d k n (pc + 3) L st ty sz (zup h r kI z) Q) : zX D M d k n pc L (rV z :: rV r :: st) ty sz h Q := by
  subst hkI
  exact x_putR hd hf hty hi hfz  kk
theorem y_putIF (kI : Int) {ci N kf idx : Nat} {fz : zF} {r z : Int} (hd : decode M.2.1 pc = .ok (.putfield idx, 3)) (hf : zFL M.1.cls idx ci kf 0 true) (hty : ty r = some (ci, N, fz)) (hi : zty ci kf = .int) (hn : M.1.name = "<init>" ∧ (zC[ci]?).map (fun q => q.1) = some M.1.cls) (hfz : fz (kf : Int) = none) (hrg : i32 z) (hkI : (kf : Int) = kI) (kk : zX D M d k n (pc + 3) L st ty sz (zup h r kI z) Q) : zX D M d k n pc L (iV z :: rV r :: st) ty sz h Q := by
  subst hkI
  exact x_putIF hd hf hty hi hn hfz hrg kk
theorem y_putRF (kI : Int) {ci N kf idx : Nat} {fz : zF} {r z : Int} (hd : decode M.2.1 pc = .ok (.putfield idx, 3)) (hf : zFL M.1.cls idx ci kf 2 true) (hty : ty r = some (ci, N, fz)) (hi : (∃ C, zty ci kf = .object C) ∨ ∃ C, zty ci kf = .array C) (hn : M.1.name = "<init>" ∧ (zC[ci]?).map (fun q => q.1) = some M.1.cls) (hfz : fz (kf : Int) = none) (hkI : (kf : Int) = kI) (kk : zX D M d k n (pc + 3) L st ty sz (zup h r kI z) Q) : zX D M d k n pc L (rV z :: rV r :: st) ty sz h Q := by
  subst hkI
  exact x_putRF hd hf hty hi hn hfz  kk

theorem x_tswIn {a dflt lo hi off : Int} {offs : Array Int} {len : Nat} (tgt : Nat) (hd : decode M.2.1 pc = .ok (.tableswitch dflt lo hi offs, len)) (h1 : lo ≤ w32 a) (h2 : w32 a ≤ hi) (ho : offs[(w32 a - lo).toNat]? = some off) (ht : (pc : Int) + off = (tgt : Int)) (kk : zX D M d k n tgt L st ty sz h Q) : zX D M d k n pc L (iV a :: st) ty sz h Q := by
  intro p l e R s m args below meth c H locs ls cells slots mc ms A H0 G S Y hret
  have K := kk p l e R s m args below meth c H locs ls cells slots mc ms A H0 G S Y hret
  exact lv_tableIn (x := Int32.ofInt a) S.1 S.2.1 hd (by show ¬ w32 a < lo; omega) (by show ¬ hi < w32 a; omega) ho ht K
theorem x_tswOut {a dflt lo hi : Int} {offs : Array Int} {len : Nat} (tgt : Nat) (hd : decode M.2.1 pc = .ok (.tableswitch dflt lo hi offs, len)) (h1 : w32 a < lo ∨ hi < w32 a) (ht : (pc : Int) + dflt = (tgt : Int)) (kk : zX D M d k n tgt L st ty sz h Q) : zX D M d k n pc L (iV a :: st) ty sz h Q := by
  intro p l e R s m args below meth c H locs ls cells slots mc ms A H0 G S Y hret
  have K := kk p l e R s m args below meth c H locs ls cells slots mc ms A H0 G S Y hret
  exact lv_tableOut (x := Int32.ofInt a) S.1 S.2.1 hd h1 ht K
theorem x_lsw {a dflt off : Int} {ps : Array (Int × Int)} {len : Nat} (tgt : Nat) (hd : decode M.2.1 pc = .ok (.lookupswitch dflt ps, len)) (hp : (ps.toList.zip (ps.toList.drop 1)).all (fun (a, next) => a.1 < next.1) = true) (ho : Op.lookupswitch.offset ps.toList dflt (w32 a) = off) (ht : (pc : Int) + off = (tgt : Int)) (kk : zX D M d k n tgt L st ty sz h Q) : zX D M d k n pc L (iV a :: st) ty sz h Q := by
  intro p l e R s m args below meth c H locs ls cells slots mc ms A H0 G S Y hret
  have K := kk p l e R s m args below meth c H locs ls cells slots mc ms A H0 G S Y hret
  exact lv_lookup (x := Int32.ofInt a) S.1 S.2.1 hd hp ho ht K

theorem zup_app (h : zH) (a k v a' k' : Int) : zup h a k v a' k' = if a' = a ∧ k' = k then v else h a' k' := rfl
theorem zrow_app (h : zH) (a : Int) (f : Int → Int) (a' k' : Int) : zrow h a f a' k' = if a' = a then f k' else h a' k' := rfl
theorem znew_app (ty : zT) (a : Int) (k n : Nat) (a' : Int) : znew ty a k n a' = if a' = a then some (k, n, zn) else ty a' := rfl
theorem zo1 (a c d : Int) : (a + c = a + d) = (c = d) := by simp
theorem zo2 (a c : Int) : (a + c = a) = (c = 0) := propext ⟨by omega, by omega⟩
theorem zo3 (a c : Int) : (a = a + c) = (c = 0) := propext ⟨by omega, by omega⟩
/-- Math.max of two longs -/
theorem x_max {idx : Nat} {a b : Int} {own : String} (hM : M.1.cls = own) (hd : decode M.2.1 pc = .ok (.invokestatic idx, 3)) (hlk : Cond.methodLink own idx yJ9_max_f86c9 ∈ zTB) (hst : Nat.ble (zsum st) 8 = true) (kk : zX D M (d + 1) k n (pc + 3) L (lV (if w64 b < w64 a then a else b) :: st) ty sz h Q) : zX D M (d + 1) k n pc L (lV b :: lV a :: st) ty sz h Q := by
  intro p l e R s m args below meth c H locs ls cells slots mc ms A H0 G S Y hret
  have K := kk p l e R s m args below meth c H locs ls cells slots mc ms A H0 G S Y hret
  have hts := S.2.2.2.2.2.1
  have hdd : d + 1 ≤ R.frames := S.2.2.2.2.2.2.2.2.2.2.1
  have hdl : 60 * (d + 1) ≤ R.locals := S.2.2.2.2.2.2.2.2.2.2.2.1
  have hcc : mc ≤ R.cells := S.2.2.2.2.2.2.2.2.2.2.2.2.1
  have hcs : ms ≤ R.slots := S.2.2.2.2.2.2.2.2.2.2.2.2.2.1
  subst hM
  refine va_mmax_long (x := Int64.ofInt a) (y := Int64.ofInt b) S.1 S.2.1 (by rw [S.2.2.2.1]; exact Y.2.1.1.symm) S.2.2.2.2.1 (hts _ hlk) (hts _ tstat_J9_max_f86c9) (hts _ tini_RJ9) (hts _ tcode_J9_max_f86c9) (by omega) (by have := Nat.le_of_ble_eq_true hst; rw [z_sumc]; omega) (by have := Y.2.2.1; omega) (by have := Y.2.2.2; omega) hd ?_
  have e : Value.long (if Int64.ofInt b < Int64.ofInt a then Int64.ofInt a else Int64.ofInt b) = zcv (lV (if w64 b < w64 a then a else b)) := by
    by_cases hc : w64 b < w64 a
    · rw [if_pos ((z_ltL b a).mpr hc), if_pos hc]; rfl
    · rw [if_neg (fun q => hc ((z_ltL b a).mp q)), if_neg hc]; rfl
  rw [e]
  exact K
end ZD
end
section
section C1
variable {D : va_G} {d : Nat} {ty : zT} {sz : Nat} {h : zH} {Q : zQ}
noncomputable def zb (p : Prop) : Int := @ite _ p (Classical.propDecidable p) 1 0
theorem zb_t {p : Prop} (hp : p) : zb p = 1 := if_pos hp
theorem zb_f {p : Prop} (hp : ¬ p) : zb p = 0 := if_neg hp
theorem zb_01 (p : Prop) : zb p = 0 ∨ zb p = 1 := by
  by_cases hp : p
  · exact Or.inr (zb_t hp)
  · exact Or.inl (zb_f hp)
theorem zb_c {p q : Prop} (e : p ↔ q) : zb p = zb q := by rw [propext e]
theorem zb_e0 (p : Prop) : (w32 (zb p) = 0) = ¬ p := by
  by_cases hp : p
  · rw [zb_t hp]; simp [hp, w32]
  · rw [zb_f hp]; simp [hp, w32]
theorem zb_n0 (p : Prop) : (w32 (zb p) ≠ 0) = p := by
  rw [ne_eq, zb_e0, Classical.not_not]
def zcl (h : zH) (row : Int) (N : Nat) (i : Int) : Int := if 0 ≤ i ∧ i < N then h row i else -1
theorem zcl_in {h : zH} {row : Int} {N : Nat} {i : Int} (h0 : 0 ≤ i) (h1 : i < N) : zcl h row N i = h row i := if_pos ⟨h0, h1⟩
def zfil (h : zH) (row : Int) (n : Int) (v : Int) : zH := fun a k => if a = row ∧ 0 ≤ k ∧ k < n then v else h a k
def zdu (v dv : Int) : Int := if 0 < dv then (v + dv - 1).tdiv dv else 0
/-- outside lo .. hi nothing has changed -/
def Fr (lo hi : Int) (h h' : zH) : Prop := ∀ a, a < lo ∨ hi < a → h' a = h a
theorem Fr.rf (lo hi : Int) (h : zH) : Fr lo hi h h := fun _ _ => rfl
theorem Fr.tr {l1 h1 l2 h2 lo hi : Int} {a b c : zH} (x : Fr l1 h1 a b) (y : Fr l2 h2 b c) (e1 : lo ≤ l1) (e2 : h1 ≤ hi) (e3 : lo ≤ l2) (e4 : h2 ≤ hi) : Fr lo hi a c := fun q hq => (y q (by omega)).trans (x q (by omega))
theorem Fr.wd {l1 h1 lo hi : Int} {a b : zH} (x : Fr l1 h1 a b) (e1 : lo ≤ l1) (e2 : h1 ≤ hi) : Fr lo hi a b := fun q hq => x q (by omega)
theorem Fr.up {lo hi a k v : Int} {h h' : zH} (x : Fr lo hi h h') (h1 : lo ≤ a) (h2 : a ≤ hi) : Fr lo hi h (zup h' a k v) := by
  intro q hq
  rw [zup_ne (by omega), x q hq]
def isKT (ty : zT) (a : Int) : Prop := 0 ≤ a ∧ ty a = some (3, 15, fun i => if i = 2 then some (a + 1) else if i = 3 then some (a + 2) else if i = 4 then some (a + 3) else if i = 5 then some (a + 4) else if i = 6 then some (a + 5) else none) ∧ ty (a + 1) = some (8, 10, zn) ∧ ty (a + 2) = some (8, 10, zn) ∧ ty (a + 3) = some (8, 10, zn) ∧ ty (a + 4) = some (8, 10, zn) ∧ ty (a + 5) = some (8, 10, zn)
def isIT (ty : zT) (a : Int) : Prop := 0 ≤ a ∧ ty a = some (2, 6, zn)

set_option maxHeartbeats 4000000 in
set_option maxRecDepth 100000 in
theorem c_isWithin {x lo hi : Int} (hx : i32 x) (hl : i32 lo) (hh : i32 hi) (hq : Q (some (iV (zb (lo ≤ x ∧ x ≤ hi)))) ty sz h) : zXM D mX6_isWithin d 0 0 [iV x, iV lo, iV hi] ty sz h Q := by
  refine x_iload_n (pc := 0) dX6_isWithin_0 rfl ?_
  refine x_iload_n (pc := 1) dX6_isWithin_1 rfl ?_
  refine x_icmp_lt (pc := 2) 14 dX6_isWithin_2 rfl (fun c_2 => ?_) (fun c_2 => ?_)
  · (try simp (disch := omega) only [zb_e0, zb_n0, w32_id, w64_id, ne_eq, Classical.not_not] at c_2)
    refine x_iconst (pc := 14) dX6_isWithin_14 ?_
    refine x_retv (pc := 15) ⟨dX6_isWithin_15, Or.inr ⟨rfl, (by decide)⟩⟩ ?_
    first | rw [zb_t (by omega)] at hq | rw [zb_f (by omega)] at hq
    exact hq
  · (try simp (disch := omega) only [zb_e0, zb_n0, w32_id, w64_id, ne_eq, Classical.not_not] at c_2)
    refine x_iload_n (pc := 5) dX6_isWithin_5 rfl ?_
    refine x_iload_n (pc := 6) dX6_isWithin_6 rfl ?_
    refine x_icmp_gt (pc := 7) 14 dX6_isWithin_7 rfl (fun c_7 => ?_) (fun c_7 => ?_)
    · (try simp (disch := omega) only [zb_e0, zb_n0, w32_id, w64_id, ne_eq, Classical.not_not] at c_7)
      refine x_iconst (pc := 14) dX6_isWithin_14 ?_
      refine x_retv (pc := 15) ⟨dX6_isWithin_15, Or.inr ⟨rfl, (by decide)⟩⟩ ?_
      first | rw [zb_t (by omega)] at hq | rw [zb_f (by omega)] at hq
      exact hq
    · (try simp (disch := omega) only [zb_e0, zb_n0, w32_id, w64_id, ne_eq, Classical.not_not] at c_7)
      refine x_iconst (pc := 10) dX6_isWithin_10 ?_
      refine x_goto (pc := 11) 15 dX6_isWithin_11 rfl ?_
      refine x_retv (pc := 15) ⟨dX6_isWithin_15, Or.inr ⟨rfl, (by decide)⟩⟩ ?_
      first | rw [zb_t (by omega)] at hq | rw [zb_f (by omega)] at hq
      exact hq

set_option maxHeartbeats 4000000 in
set_option maxRecDepth 100000 in
theorem c_isName {x : Int} (hx : i32 x) (hq : Q (some (iV (zb (0 ≤ x ∧ x ≤ 9)))) ty sz h) : zXM D mX6_isName (d + 1) 0 0 [iV x] ty sz h Q := by
  refine x_iload_n (pc := 0) dX6_isName_0 rfl ?_
  refine x_iconst (pc := 1) dX6_isName_1 ?_
  refine x_bipush (pc := 2) dX6_isName_2 (by decide) ?_
  refine x_callS3 (pc := 4) dX6_isName_4 (k_RX6_46 _ rfl) tms_X6_isWithin rfl rfl ?_
  refine c_isWithin (by omega) (by omega) (by omega) ?_
  dsimp only [Option.toList, List.cons_append, List.nil_append]
  refine x_retv (pc := 7) ⟨dX6_isName_7, Or.inr ⟨rfl, (zb_01 _)⟩⟩ ?_
  exact hq

set_option maxHeartbeats 4000000 in
set_option maxRecDepth 100000 in
theorem c_isMeasure {x : Int} (hx : i32 x) (hq : Q (some (iV (zb (1 ≤ x ∧ x ≤ 100000)))) ty sz h) : zXM D mX6_isMeasure (d + 1) 0 0 [iV x] ty sz h Q := by
  refine x_iload_n (pc := 0) dX6_isMeasure_0 rfl ?_
  refine x_iconst (pc := 1) dX6_isMeasure_1 ?_
  refine x_ldc (pc := 2) dX6_isMeasure_2 (100000) tc_RX6_169 (by decide) ?_
  refine x_callS3 (pc := 4) dX6_isMeasure_4 (k_RX6_46 _ rfl) tms_X6_isWithin rfl rfl ?_
  refine c_isWithin (by omega) (by omega) (by omega) ?_
  dsimp only [Option.toList, List.cons_append, List.nil_append]
  refine x_retv (pc := 7) ⟨dX6_isMeasure_7, Or.inr ⟨rfl, (zb_01 _)⟩⟩ ?_
  exact hq

set_option maxHeartbeats 4000000 in
set_option maxRecDepth 100000 in
theorem c_cell {row i : Int} {N : Nat} (hi : i32 i) (ht : ty row = some (8, N, zn)) (hN : N ≤ 10000) (h0 : 0 ≤ row) (hq : i32 (zcl h row N i) → Q (some (iV (zcl h row N i))) ty sz h) : zXM D mX6_cell d 0 0 [rV row, iV i] ty sz h Q := by
  refine x_aload_n (pc := 0) dX6_cell_0 rfl ?_
  refine x_ifnull (pc := 1) 20 dX6_cell_1 rfl (fun c_1 => ?_) (fun c_1 => ?_)
  · (try simp (disch := omega) only [zb_e0, zb_n0, w32_id, w64_id, ne_eq, Classical.not_not] at c_1)
    refine x_iconst (pc := 20) dX6_cell_20 ?_
    refine x_retv (pc := 21) ⟨dX6_cell_21, Or.inl rfl⟩ ?_
    first | (exfalso; omega) | (rw [zcl_in (by omega) (by omega)] at hq; exact hq (by omega)) | (rw [show zcl h row N i = -1 from if_neg (by omega)] at hq; exact hq (by omega))
  · (try simp (disch := omega) only [zb_e0, zb_n0, w32_id, w64_id, ne_eq, Classical.not_not] at c_1)
    refine x_iload_n (pc := 4) dX6_cell_4 rfl ?_
    refine x_if_lt (pc := 5) 20 dX6_cell_5 rfl (fun c_5 => ?_) (fun c_5 => ?_)
    · (try simp (disch := omega) only [zb_e0, zb_n0, w32_id, w64_id, ne_eq, Classical.not_not] at c_5)
      refine x_iconst (pc := 20) dX6_cell_20 ?_
      refine x_retv (pc := 21) ⟨dX6_cell_21, Or.inl rfl⟩ ?_
      first | (exfalso; omega) | (rw [zcl_in (by omega) (by omega)] at hq; exact hq (by omega)) | (rw [show zcl h row N i = -1 from if_neg (by omega)] at hq; exact hq (by omega))
    · (try simp (disch := omega) only [zb_e0, zb_n0, w32_id, w64_id, ne_eq, Classical.not_not] at c_5)
      refine x_iload_n (pc := 8) dX6_cell_8 rfl ?_
      refine x_aload_n (pc := 9) dX6_cell_9 rfl ?_
      refine x_alen (pc := 10) dX6_cell_10 (by assumption) (by decide) ?_
      refine x_icmp_ge (pc := 11) 20 dX6_cell_11 rfl (fun c_11 => ?_) (fun c_11 => ?_)
      · (try simp (disch := omega) only [zb_e0, zb_n0, w32_id, w64_id, ne_eq, Classical.not_not] at c_11)
        refine x_iconst (pc := 20) dX6_cell_20 ?_
        refine x_retv (pc := 21) ⟨dX6_cell_21, Or.inl rfl⟩ ?_
        first | (exfalso; omega) | (rw [zcl_in (by omega) (by omega)] at hq; exact hq (by omega)) | (rw [show zcl h row N i = -1 from if_neg (by omega)] at hq; exact hq (by omega))
      · (try simp (disch := omega) only [zb_e0, zb_n0, w32_id, w64_id, ne_eq, Classical.not_not] at c_11)
        refine x_aload_n (pc := 14) dX6_cell_14 rfl ?_
        refine x_iload_n (pc := 15) dX6_cell_15 rfl ?_
        refine x_iald (pc := 16) dX6_cell_16 (by assumption) (by omega) (by omega) (fun b_16 => ?_)
        refine x_goto (pc := 17) 21 dX6_cell_17 rfl ?_
        refine x_retv (pc := 21) ⟨dX6_cell_21, Or.inl rfl⟩ ?_
        first | (exfalso; omega) | (rw [zcl_in (by omega) (by omega)] at hq; exact hq (by omega)) | (rw [show zcl h row N i = -1 from if_neg (by omega)] at hq; exact hq (by omega))

theorem c_cellIn {row i : Int} {N : Nat} (h0 : 0 ≤ i) (h1 : i < N) (ht : ty row = some (8, N, zn)) (hN : N ≤ 10000) (hr : 0 ≤ row) (hq : i32 (h row i) → Q (some (iV (h row i))) ty sz h) : zXM D mX6_cell d 0 0 [rV row, iV i] ty sz h Q := c_cell (by omega) ht hN hr (by rw [zcl_in h0 h1]; exact hq)
set_option maxHeartbeats 4000000 in
set_option maxRecDepth 100000 in
theorem c_put {row i v : Int} {N : Nat} (hi : 0 ≤ i) (hi2 : i < N) (hv : i32 v) (ht : ty row = some (8, N, zn)) (hN : N ≤ 10000) (h0 : 0 ≤ row) (hq : Q none ty sz (zup h row i v)) : zXM D mX6_put d 0 0 [rV row, iV i, iV v] ty sz h Q := by
  refine x_aload_n (pc := 0) dX6_put_0 rfl ?_
  refine x_ifnull (pc := 1) 18 dX6_put_1 rfl (fun c_1 => ?_) (fun c_1 => ?_)
  · (try simp (disch := omega) only [zb_e0, zb_n0, w32_id, w64_id, ne_eq, Classical.not_not] at c_1)
    refine x_ret (pc := 18) ⟨dX6_put_18, rfl⟩ ?_
    first | (exfalso; omega) | exact hq
  · (try simp (disch := omega) only [zb_e0, zb_n0, w32_id, w64_id, ne_eq, Classical.not_not] at c_1)
    refine x_iload_n (pc := 4) dX6_put_4 rfl ?_
    refine x_if_lt (pc := 5) 18 dX6_put_5 rfl (fun c_5 => ?_) (fun c_5 => ?_)
    · (try simp (disch := omega) only [zb_e0, zb_n0, w32_id, w64_id, ne_eq, Classical.not_not] at c_5)
      refine x_ret (pc := 18) ⟨dX6_put_18, rfl⟩ ?_
      first | (exfalso; omega) | exact hq
    · (try simp (disch := omega) only [zb_e0, zb_n0, w32_id, w64_id, ne_eq, Classical.not_not] at c_5)
      refine x_iload_n (pc := 8) dX6_put_8 rfl ?_
      refine x_aload_n (pc := 9) dX6_put_9 rfl ?_
      refine x_alen (pc := 10) dX6_put_10 (by assumption) (by decide) ?_
      refine x_icmp_ge (pc := 11) 18 dX6_put_11 rfl (fun c_11 => ?_) (fun c_11 => ?_)
      · (try simp (disch := omega) only [zb_e0, zb_n0, w32_id, w64_id, ne_eq, Classical.not_not] at c_11)
        refine x_ret (pc := 18) ⟨dX6_put_18, rfl⟩ ?_
        first | (exfalso; omega) | exact hq
      · (try simp (disch := omega) only [zb_e0, zb_n0, w32_id, w64_id, ne_eq, Classical.not_not] at c_11)
        refine x_aload_n (pc := 14) dX6_put_14 rfl ?_
        refine x_iload_n (pc := 15) dX6_put_15 rfl ?_
        refine x_iload_n (pc := 16) dX6_put_16 rfl ?_
        refine x_iast (pc := 17) dX6_put_17 (by assumption) (by omega) (by omega) (by rfl) (by omega) ?_
        refine x_ret (pc := 18) ⟨dX6_put_18, rfl⟩ ?_
        first | (exfalso; omega) | exact hq

theorem zfil_0 (h : zH) (row v : Int) : zfil h row 0 v = h := by funext a k; unfold zfil; rw [if_neg (by omega)]
theorem zfil_s (h : zH) (row v i : Int) (h0 : 0 ≤ i) : zup (zfil h row i v) row i v = zfil h row (i + 1) v := by
  funext a k
  unfold zup zfil
  by_cases ha : a = row
  · by_cases hk : k = i
    · rw [if_pos ⟨ha, hk⟩, if_pos ⟨ha, by omega, by omega⟩]
    · rw [if_neg (fun q => hk q.2)]
      by_cases hk2 : 0 ≤ k ∧ k < i
      · rw [if_pos ⟨ha, hk2⟩, if_pos ⟨ha, by omega, by omega⟩]
      · rw [if_neg (fun q => hk2 q.2), if_neg (fun q => by omega)]
  · rw [if_neg (fun q => ha q.1), if_neg (fun q => ha q.1), if_neg (fun q => ha q.1)]
set_option maxHeartbeats 4000000 in
set_option maxRecDepth 100000 in
theorem c_fill_l {row v : Int} {N : Nat} (hv : i32 v) (ht : ty row = some (8, N, zn)) (hN : N ≤ 10000) (h0 : 0 ≤ row) (hq : Q none ty sz (zfil h row N v)) : ∀ (n : Nat) (i : Int) (g : zH), 0 ≤ i → N - i = n → g = zfil h row i v → zX D mX6_fill d 0 0 2 [(2, iV i), (0, rV row), (1, iV v)] [] ty sz g Q := by
  intro n
  induction n with
  | zero =>
    intro i g h1 h2 hg
    have hi : i = N := by omega
    subst hi
    subst hg
    refine x_aload_n (pc := 2) dX6_fill_2 rfl ?_
    refine x_ifnull (pc := 3) 22 dX6_fill_3 rfl (fun c => by omega) (fun c => ?_)
    refine x_iload_n (pc := 6) dX6_fill_6 rfl ?_
    refine x_aload_n (pc := 7) dX6_fill_7 rfl ?_
    refine x_alen (pc := 8) dX6_fill_8 ht (by decide) ?_
    refine x_icmp_ge (pc := 9) 22 dX6_fill_9 rfl (fun c => ?_) (fun c => by simp (disch := omega) only [w32_id] at c; omega)
    exact x_ret (pc := 22) ⟨dX6_fill_22, rfl⟩ hq
  | succ n ih =>
    intro i g h1 h2 hg
    refine x_aload_n (pc := 2) dX6_fill_2 rfl ?_
    refine x_ifnull (pc := 3) 22 dX6_fill_3 rfl (fun c_3 => ?_) (fun c_3 => ?_)
    · (try simp (disch := omega) only [zb_e0, zb_n0, w32_id, w64_id, ne_eq, Classical.not_not] at c_3)
      omega
    · (try simp (disch := omega) only [zb_e0, zb_n0, w32_id, w64_id, ne_eq, Classical.not_not] at c_3)
      refine x_iload_n (pc := 6) dX6_fill_6 rfl ?_
      refine x_aload_n (pc := 7) dX6_fill_7 rfl ?_
      refine x_alen (pc := 8) dX6_fill_8 (by assumption) (by decide) ?_
      refine x_icmp_ge (pc := 9) 22 dX6_fill_9 rfl (fun c_9 => ?_) (fun c_9 => ?_)
      · (try simp (disch := omega) only [zb_e0, zb_n0, w32_id, w64_id, ne_eq, Classical.not_not] at c_9)
        omega
      · (try simp (disch := omega) only [zb_e0, zb_n0, w32_id, w64_id, ne_eq, Classical.not_not] at c_9)
        refine x_aload_n (pc := 12) dX6_fill_12 rfl ?_
        refine x_iload_n (pc := 13) dX6_fill_13 rfl ?_
        refine x_iload_n (pc := 14) dX6_fill_14 rfl ?_
        refine x_iast (pc := 15) dX6_fill_15 (by assumption) (by omega) (by omega) (by rfl) (by omega) ?_
        refine x_iinc (pc := 16) dX6_fill_16 rfl (by decide) ?_
        refine x_goto (pc := 19) 2 dX6_fill_19 rfl ?_
        exact x_loc _ (by exact ⟨rfl, rfl, rfl, trivial⟩) (ih (i + 1) _ (by omega) (by omega) (by rw [hg, zfil_s h row v i h1]))

set_option maxHeartbeats 4000000 in
set_option maxRecDepth 100000 in
theorem c_fill {row v : Int} {N : Nat} (hv : i32 v) (ht : ty row = some (8, N, zn)) (hN : N ≤ 10000) (h0 : 0 ≤ row) (hq : Q none ty sz (zfil h row N v)) : zXM D mX6_fill d 0 0 [rV row, iV v] ty sz h Q := by
  refine x_iconst (pc := 0) dX6_fill_0 ?_
  refine x_istore_n (pc := 1) dX6_fill_1 (by decide) ?_
  exact x_loc _ (by exact ⟨rfl, rfl, rfl, trivial⟩) (c_fill_l hv ht hN h0 hq N 0 h (by omega) (by omega) (zfil_0 h row v).symm)

set_option maxHeartbeats 4000000 in
set_option maxRecDepth 100000 in
theorem c_dividedUp {a b : Int} (ha : 0 ≤ a) (ha2 : a ≤ 2000000000000000) (hb : 0 ≤ b) (hb2 : b ≤ 1000000000000000) (hq : Q (some (lV (zdu a b))) ty sz h) : zXM D mX6_dividedUp d 0 0 [lV a, lV b] ty sz h Q := by
  refine x_lload_n (pc := 0) dX6_dividedUp_0 rfl ?_
  refine x_lconst (pc := 1) dX6_dividedUp_1 0 (by decide) ?_
  refine x_lcmp_le (pc := 2) 16 dX6_dividedUp_2 dX6_dividedUp_3 rfl (fun c_2 => ?_) (fun c_2 => ?_)
  · (try simp (disch := omega) only [zb_e0, zb_n0, w32_id, w64_id, ne_eq, Classical.not_not] at c_2)
    refine x_lconst (pc := 16) dX6_dividedUp_16 0 (by decide) ?_
    refine x_retv (pc := 17) ⟨dX6_dividedUp_17, rfl⟩ ?_
    unfold zdu at hq
    first
      | (rw [if_pos (by omega)] at hq; rw [w64_id (by omega) (by omega), w64_id (by omega) (by omega)]; exact hq)
      | (rw [if_neg (by omega)] at hq; exact hq)
  · (try simp (disch := omega) only [zb_e0, zb_n0, w32_id, w64_id, ne_eq, Classical.not_not] at c_2)
    refine x_lload_n (pc := 6) dX6_dividedUp_6 rfl ?_
    refine x_lload_n (pc := 7) dX6_dividedUp_7 rfl ?_
    refine x_ladd (pc := 8) dX6_dividedUp_8 ?_
    refine x_lconst (pc := 9) dX6_dividedUp_9 1 (by decide) ?_
    refine x_lsub (pc := 10) dX6_dividedUp_10 ?_
    refine x_lload_n (pc := 11) dX6_dividedUp_11 rfl ?_
    refine x_ldiv (pc := 12) dX6_dividedUp_12 (by rw [w64_id (by omega) (by omega)]; omega) ?_
    refine x_goto (pc := 13) 17 dX6_dividedUp_13 rfl ?_
    refine x_retv (pc := 17) ⟨dX6_dividedUp_17, rfl⟩ ?_
    unfold zdu at hq
    first
      | (rw [if_pos (by omega)] at hq; rw [w64_id (by omega) (by omega), w64_id (by omega) (by omega)]; exact hq)
      | (rw [if_neg (by omega)] at hq; exact hq)

end C1
end
section
section C2
variable {D : va_G} {d : Nat} {ty : zT} {sz : Nat} {h : zH} {Q : zQ}
theorem zor_rng (a b : Int) : i32 (zor a b) := ⟨Int32.le_toInt _, by have := Int32.toInt_lt (Int32.ofInt a ||| Int32.ofInt b); unfold zor; omega⟩
theorem zand_rng (a b : Int) : i32 (zand a b) := ⟨Int32.le_toInt _, by have := Int32.toInt_lt (Int32.ofInt a &&& Int32.ofInt b); unfold zand; omega⟩
theorem zvol {a b c : Int} (ha : 1 ≤ a ∧ a ≤ 100000) (hb : 1 ≤ b ∧ b ≤ 100000) (hc : 1 ≤ c ∧ c ≤ 100000) : (1 ≤ a * b ∧ a * b ≤ 10000000000) ∧ 1 ≤ a * b * c ∧ a * b * c ≤ 1000000000000000 := by
  have h1 : 1 * 1 ≤ a * b := Int.mul_le_mul ha.1 hb.1 (by omega) (by omega)
  have h2 : a * b ≤ 100000 * 100000 := Int.mul_le_mul ha.2 hb.2 (by omega) (by omega)
  have h3 : 1 * 1 ≤ a * b * c := Int.mul_le_mul (by omega) hc.1 (by omega) (by omega)
  have h4 : a * b * c ≤ 10000000000 * 100000 := Int.mul_le_mul (by omega) hc.2 (by omega) (by omega)
  exact ⟨⟨by omega, by omega⟩, by omega, by omega⟩
theorem zdu_rng {a b : Int} (h0 : 0 ≤ a) (h1 : a ≤ 1000000000000000) (hb : b ≤ 1000000000000000) : 0 ≤ zdu a b ∧ zdu a b ≤ 2000000000000000 := by
  unfold zdu
  by_cases hb0 : 0 < b
  · rw [if_pos hb0]
    have e : (a + b - 1).tdiv b = (a + b - 1) / b := Int.tdiv_eq_ediv_of_nonneg (by omega)
    rw [e]
    have h3 : 0 ≤ (a + b - 1) / b := Int.ediv_nonneg (by omega) (by omega)
    have h4 : (a + b - 1) / b ≤ a + b - 1 := Int.ediv_le_self _ (by omega)
    omega
  · rw [if_neg hb0]
    omega
/-- the first place from i on, n places, at which p holds; -1 -/
noncomputable def zfst (p : Int → Prop) : Nat → Int → Int
  | 0, _ => -1
  | n + 1, i => @ite _ (p i) (Classical.propDecidable _) i (zfst p n (i + 1))
theorem zfst_y {p : Int → Prop} {n : Nat} {i : Int} (hp : p i) : zfst p (n + 1) i = i := if_pos hp
theorem zfst_n {p : Int → Prop} {n : Nat} {i : Int} (hp : ¬ p i) : zfst p (n + 1) i = zfst p n (i + 1) := if_neg hp
def hasS (h : zH) (it s : Int) : Prop := zand (h it 5) (zshl 1 s) ≠ 0
def kServ (h : zH) (a it : Int) : Prop := ∀ s, 0 ≤ s → s < 10 → hasS h it s → h (a + 4) s ≠ -1 ∧ zand (h (a + 5) s) (h it 5) = 0
def kTakes (h : zH) (a it zone day : Int) : Prop := (h a 12 = -1 ∨ (h a 12 ≤ day ∧ day ≤ h a 13)) ∧ (h a 8 = -1 ∨ (h it 2 ≤ h a 8 ∧ h it 3 ≤ h a 9 ∧ h it 4 ≤ h a 10)) ∧ h (a + 3) zone ≠ -1 ∧ kServ h a it
def kWeight (h : zH) (a it : Int) : Int := if h a 11 = -1 then h it 1 else (if zdu (h it 2 * h it 3 * h it 4) (h a 11) < h it 1 then h it 1 else zdu (h it 2 * h it 3 * h it 4) (h a 11))
noncomputable def kStep (h : zH) (a wt : Int) : Int := zfst (fun i => wt ≤ h (a + 1) i) (h a 1).toNat 0
def itOK (h : zH) (it : Int) : Prop := (1 ≤ h it 1 ∧ h it 1 ≤ 100000) ∧ (1 ≤ h it 2 ∧ h it 2 ≤ 100000) ∧ (1 ≤ h it 3 ∧ h it 3 ≤ 100000) ∧ (1 ≤ h it 4 ∧ h it 4 ≤ 100000)
def kClr (h : zH) (a : Int) : Prop := h a 0 = 0 ∧ h a 1 = 0 ∧ h a 7 = 0 ∧ (h a 8 = -1 ∧ h a 9 = -1 ∧ h a 10 = -1 ∧ h a 11 = -1 ∧ h a 12 = -1 ∧ h a 13 = -1 ∧ h a 14 = -1) ∧ ∀ z, 0 ≤ z → z < 10 → h (a + 3) z = -1 ∧ h (a + 4) z = -1 ∧ h (a + 5) z = 0
def kSameS (h : zH) (a b : Int) : Prop := h a 1 = h b 1 ∧ ∀ i, 0 ≤ i → i < h a 1 → h (a + 1) i = h (b + 1) i ∧ h (a + 2) i = h (b + 2) i
def kSameN (h : zH) (a b : Int) : Prop := ∀ i, 0 ≤ i → i < 10 → h (a + 3) i = h (b + 3) i ∧ h (a + 4) i = h (b + 4) i ∧ h (a + 5) i = h (b + 5) i
def kSameL (h : zH) (a b : Int) : Prop := h a 8 = h b 8 ∧ h a 9 = h b 9 ∧ h a 10 = h b 10 ∧ h a 11 = h b 11 ∧ h a 12 = h b 12 ∧ h a 13 = h b 13 ∧ h a 14 = h b 14

set_option maxHeartbeats 4000000 in
set_option maxRecDepth 100000 in
theorem c_has {it s : Int} (hI : isIT ty it) (hs : 0 ≤ s ∧ s ≤ 9) (hq : Q (some (iV (zb (hasS h it s)))) ty sz h) : zXM D mX2_has d 0 0 [rV it, iV s] ty sz h Q := by
  obtain ⟨i9, i0⟩ := hI
  have hz := zand_rng (h it 5) (zshl 1 s)
  unfold hasS at hq
  refine x_aload_n (pc := 0) dX2_has_0 rfl ?_
  refine y_getI 5 (pc := 1) dX2_has_1 f_RX2_25 (by assumption) rfl (fun b_1 => ?_)
  refine x_iconst (pc := 4) dX2_has_4 ?_
  refine x_iload_n (pc := 5) dX2_has_5 rfl ?_
  refine x_ishl (pc := 6) dX2_has_6 ?_
  refine x_iand (pc := 7) dX2_has_7 ?_
  refine x_if_eq (pc := 8) 15 dX2_has_8 rfl (fun c_8 => ?_) (fun c_8 => ?_)
  · (try simp (disch := omega) only [zb_e0, zb_n0, w32_id, w64_id, ne_eq, Classical.not_not] at c_8)
    refine x_iconst (pc := 15) dX2_has_15 ?_
    refine x_retv (pc := 16) ⟨dX2_has_16, Or.inr ⟨rfl, (by decide)⟩⟩ ?_
    first | (rw [zb_f (by omega)] at hq; exact hq) | (rw [zb_t (by omega)] at hq; exact hq)
  · (try simp (disch := omega) only [zb_e0, zb_n0, w32_id, w64_id, ne_eq, Classical.not_not] at c_8)
    refine x_iconst (pc := 11) dX2_has_11 ?_
    refine x_goto (pc := 12) 16 dX2_has_12 rfl ?_
    refine x_retv (pc := 16) ⟨dX2_has_16, Or.inr ⟨rfl, (by decide)⟩⟩ ?_
    first | (rw [zb_f (by omega)] at hq; exact hq) | (rw [zb_t (by omega)] at hq; exact hq)

set_option maxHeartbeats 4000000 in
set_option maxRecDepth 100000 in
theorem c_item_init {it a b c e f : Int} (hI : isIT ty it) (ha : i32 a ∧ i32 b ∧ i32 c ∧ i32 e ∧ i32 f) (hq : Q none ty sz (zup (zup (zup (zup (zup h it 0 a) it 1 b) it 2 c) it 3 e) it 4 f)) : zXM D mX2_init (d + 1) 0 0 [rV it, iV a, iV b, iV c, iV e, iV f] ty sz h Q := by
  obtain ⟨i9, i0⟩ := hI
  refine x_aload_n (pc := 0) dX2_init_0 rfl ?_
  refine x_objInit (pc := 1) dX2_init_1 (k_RX2_1 _ rfl) tobj_in tobj_code (by omega) (Nat.le_of_ble_eq_true rfl) ?_
  refine x_aload_n (pc := 4) dX2_init_4 rfl ?_
  refine x_iload_n (pc := 5) dX2_init_5 rfl ?_
  refine y_putIF 0 (pc := 6) dX2_init_6 f_RX2_7 (by assumption) rfl ⟨rfl, rfl⟩ (by rfl) (by omega) rfl ?_
  refine x_aload_n (pc := 9) dX2_init_9 rfl ?_
  refine x_iload_n (pc := 10) dX2_init_10 rfl ?_
  refine y_putIF 1 (pc := 11) dX2_init_11 f_RX2_13 (by assumption) rfl ⟨rfl, rfl⟩ (by rfl) (by omega) rfl ?_
  refine x_aload_n (pc := 14) dX2_init_14 rfl ?_
  refine x_iload_n (pc := 15) dX2_init_15 rfl ?_
  refine y_putIF 2 (pc := 16) dX2_init_16 f_RX2_16 (by assumption) rfl ⟨rfl, rfl⟩ (by rfl) (by omega) rfl ?_
  refine x_aload_n (pc := 19) dX2_init_19 rfl ?_
  refine x_iload (pc := 20) dX2_init_20 rfl ?_
  refine y_putIF 3 (pc := 22) dX2_init_22 f_RX2_19 (by assumption) rfl ⟨rfl, rfl⟩ (by rfl) (by omega) rfl ?_
  refine x_aload_n (pc := 25) dX2_init_25 rfl ?_
  refine x_iload (pc := 26) dX2_init_26 rfl ?_
  refine y_putIF 4 (pc := 28) dX2_init_28 f_RX2_22 (by assumption) rfl ⟨rfl, rfl⟩ (by rfl) (by omega) rfl ?_
  refine x_ret (pc := 31) ⟨dX2_init_31, rfl⟩ ?_
  exact hq

set_option maxHeartbeats 4000000 in
set_option maxRecDepth 100000 in
theorem c_k_addStep {a x y : Int} (hK : isKT ty a) (hx : i32 x) (hy : i32 y) (hs : 0 ≤ h a 1 ∧ h a 1 < 10) (hq : Q none ty sz (zup (zup (zup h (a + 1) (h a 1) x) (a + 2) (h a 1) y) a 1 (h a 1 + 1))) : zXM D mX3_addStep (d + 1) 0 0 [rV a, iV x, iV y] ty sz h Q := by
  obtain ⟨k9, k0, k1, k2, k3, k4, k5⟩ := hK
  refine x_aload_n (pc := 0) dX3_addStep_0 rfl ?_
  refine x_getF (pc := 1) dX3_addStep_1 f_RX3_9 (by assumption) (by rfl) ?_
  refine x_aload_n (pc := 4) dX3_addStep_4 rfl ?_
  refine y_getI 1 (pc := 5) dX3_addStep_5 f_RX3_31 (by assumption) rfl (fun b_5 => ?_)
  refine x_iload_n (pc := 8) dX3_addStep_8 rfl ?_
  refine x_callS3 (pc := 9) dX3_addStep_9 (k_RX3_63 _ rfl) tms_X6_put rfl rfl ?_
  refine c_put (N := 10) (by omega) (by omega) (by omega) (by assumption) (by decide) (by omega) ?_
  dsimp only [Option.toList, List.cons_append, List.nil_append]
  refine x_aload_n (pc := 12) dX3_addStep_12 rfl ?_
  refine x_getF (pc := 13) dX3_addStep_13 f_RX3_15 (by assumption) (by rfl) ?_
  refine x_aload_n (pc := 16) dX3_addStep_16 rfl ?_
  refine y_getI 1 (pc := 17) dX3_addStep_17 f_RX3_31 (by assumption) rfl (fun b_17 => ?_)
  refine x_iload_n (pc := 20) dX3_addStep_20 rfl ?_
  refine x_callS3 (pc := 21) dX3_addStep_21 (k_RX3_63 _ rfl) tms_X6_put rfl rfl ?_
  have e1 : zup h (a + 1) (h a 1) x a 1 = h a 1 := by rw [zup_ne (by omega)]
  rw [e1]
  refine c_put (N := 10) (by omega) (by omega) (by omega) (by assumption) (by decide) (by omega) ?_
  have e2 : zup (zup h (a + 1) (h a 1) x) (a + 2) (h a 1) y a 1 = h a 1 := by rw [zup_ne (by omega), zup_ne (by omega)]
  dsimp only [Option.toList, List.cons_append, List.nil_append]
  refine x_aload_n (pc := 24) dX3_addStep_24 rfl ?_
  refine x_dup (pc := 25) dX3_addStep_25 rfl ?_
  refine y_getI 1 (pc := 26) dX3_addStep_26 f_RX3_31 (by assumption) rfl (fun b_26 => ?_)
  rw [e2]
  refine x_iconst (pc := 29) dX3_addStep_29 ?_
  refine x_iadd (pc := 30) dX3_addStep_30 ?_
  refine y_putI 1 (pc := 31) dX3_addStep_31 f_RX3_31 (by assumption) rfl (by rfl) (by omega) rfl ?_
  refine x_ret (pc := 34) ⟨dX3_addStep_34, rfl⟩ ?_
  exact hq

set_option maxHeartbeats 4000000 in
set_option maxRecDepth 100000 in
theorem c_k_exclude {a s t : Int} (hK : isKT ty a) (hs : 0 ≤ s ∧ s ≤ 9) (ht : 0 ≤ t ∧ t ≤ 9) (hst : s ≠ t) (hn : 0 ≤ h a 7 ∧ h a 7 ≤ 100) (hq : Q none ty sz (zup (zup (zup h (a + 5) s (zor (h (a + 5) s) (zshl 1 t))) (a + 5) t (zor (h (a + 5) t) (zshl 1 s))) a 7 (h a 7 + 1))) : zXM D mX3_exclude (d + 1) 0 0 [rV a, iV s, iV t] ty sz h Q := by
  obtain ⟨k9, k0, k1, k2, k3, k4, k5⟩ := hK
  refine x_aload_n (pc := 0) dX3_exclude_0 rfl ?_
  refine x_getF (pc := 1) dX3_exclude_1 f_RX3_24 (by assumption) (by rfl) ?_
  refine x_iload_n (pc := 4) dX3_exclude_4 rfl ?_
  refine x_aload_n (pc := 5) dX3_exclude_5 rfl ?_
  refine x_getF (pc := 6) dX3_exclude_6 f_RX3_24 (by assumption) (by rfl) ?_
  refine x_iload_n (pc := 9) dX3_exclude_9 rfl ?_
  refine x_callS2 (pc := 10) dX3_exclude_10 (k_RX3_67 _ rfl) tms_X6_cell rfl rfl ?_
  refine c_cellIn (N := 10) (by omega) (by omega) (by assumption) (by decide) (by omega) (fun bb => ?_)
  dsimp only [Option.toList, List.cons_append, List.nil_append]
  refine x_iconst (pc := 13) dX3_exclude_13 ?_
  refine x_iload_n (pc := 14) dX3_exclude_14 rfl ?_
  refine x_ishl (pc := 15) dX3_exclude_15 ?_
  refine x_ior (pc := 16) dX3_exclude_16 ?_
  refine x_callS3 (pc := 17) dX3_exclude_17 (k_RX3_63 _ rfl) tms_X6_put rfl rfl ?_
  refine c_put (N := 10) (by omega) (by omega) (zor_rng _ _) (by assumption) (by decide) (by omega) ?_
  dsimp only [Option.toList, List.cons_append, List.nil_append]
  refine x_aload_n (pc := 20) dX3_exclude_20 rfl ?_
  refine x_getF (pc := 21) dX3_exclude_21 f_RX3_24 (by assumption) (by rfl) ?_
  refine x_iload_n (pc := 24) dX3_exclude_24 rfl ?_
  refine x_aload_n (pc := 25) dX3_exclude_25 rfl ?_
  refine x_getF (pc := 26) dX3_exclude_26 f_RX3_24 (by assumption) (by rfl) ?_
  refine x_iload_n (pc := 29) dX3_exclude_29 rfl ?_
  refine x_callS2 (pc := 30) dX3_exclude_30 (k_RX3_67 _ rfl) tms_X6_cell rfl rfl ?_
  refine c_cellIn (N := 10) (by omega) (by omega) (by assumption) (by decide) (by omega) (fun bb => ?_)
  dsimp only [Option.toList, List.cons_append, List.nil_append]
  refine x_iconst (pc := 33) dX3_exclude_33 ?_
  refine x_iload_n (pc := 34) dX3_exclude_34 rfl ?_
  refine x_ishl (pc := 35) dX3_exclude_35 ?_
  refine x_ior (pc := 36) dX3_exclude_36 ?_
  refine x_callS3 (pc := 37) dX3_exclude_37 (k_RX3_63 _ rfl) tms_X6_put rfl rfl ?_
  have e1 : zup h (a + 5) s (zor (h (a + 5) s) (zshl 1 t)) (a + 5) t = h (a + 5) t := by
    rw [zup_app, if_neg (fun q => hst q.2.symm)]
  rw [e1]
  refine c_put (N := 10) (by omega) (by omega) (zor_rng _ _) (by assumption) (by decide) (by omega) ?_
  have e2 : zup (zup h (a + 5) s (zor (h (a + 5) s) (zshl 1 t))) (a + 5) t (zor (h (a + 5) t) (zshl 1 s)) a 7 = h a 7 := by rw [zup_ne (by omega), zup_ne (by omega)]
  dsimp only [Option.toList, List.cons_append, List.nil_append]
  refine x_aload_n (pc := 40) dX3_exclude_40 rfl ?_
  refine x_dup (pc := 41) dX3_exclude_41 rfl ?_
  refine y_getI 7 (pc := 42) dX3_exclude_42 f_RX3_39 (by assumption) rfl (fun b_42 => ?_)
  rw [e2]
  refine x_iconst (pc := 45) dX3_exclude_45 ?_
  refine x_iadd (pc := 46) dX3_exclude_46 ?_
  refine y_putI 7 (pc := 47) dX3_exclude_47 f_RX3_39 (by assumption) rfl (by rfl) (by omega) rfl ?_
  refine x_ret (pc := 50) ⟨dX3_exclude_50, rfl⟩ ?_
  exact hq

set_option maxHeartbeats 4000000 in
set_option maxRecDepth 100000 in
theorem c_k_excludes {a s t : Int} (hK : isKT ty a) (hs : 0 ≤ s ∧ s ≤ 9) (hq : Q (some (iV (zb (zand (h (a + 5) s) (zshl 1 t) ≠ 0)))) ty sz h) : zXM D mX3_excludes (d + 1) 0 0 [rV a, iV s, iV t] ty sz h Q := by
  obtain ⟨k9, k0, k1, k2, k3, k4, k5⟩ := hK
  have hz := zand_rng (h (a + 5) s) (zshl 1 t)
  refine x_aload_n (pc := 0) dX3_excludes_0 rfl ?_
  refine x_getF (pc := 1) dX3_excludes_1 f_RX3_24 (by assumption) (by rfl) ?_
  refine x_iload_n (pc := 4) dX3_excludes_4 rfl ?_
  refine x_callS2 (pc := 5) dX3_excludes_5 (k_RX3_67 _ rfl) tms_X6_cell rfl rfl ?_
  refine c_cellIn (N := 10) (by omega) (by omega) (by assumption) (by decide) (by omega) (fun bb => ?_)
  dsimp only [Option.toList, List.cons_append, List.nil_append]
  refine x_iconst (pc := 8) dX3_excludes_8 ?_
  refine x_iload_n (pc := 9) dX3_excludes_9 rfl ?_
  refine x_ishl (pc := 10) dX3_excludes_10 ?_
  refine x_iand (pc := 11) dX3_excludes_11 ?_
  refine x_if_eq (pc := 12) 19 dX3_excludes_12 rfl (fun c_12 => ?_) (fun c_12 => ?_)
  · (try simp (disch := omega) only [zb_e0, zb_n0, w32_id, w64_id, ne_eq, Classical.not_not] at c_12)
    refine x_iconst (pc := 19) dX3_excludes_19 ?_
    refine x_retv (pc := 20) ⟨dX3_excludes_20, Or.inr ⟨rfl, (by decide)⟩⟩ ?_
    first | (rw [zb_f (by omega)] at hq; exact hq) | (rw [zb_t (by omega)] at hq; exact hq)
  · (try simp (disch := omega) only [zb_e0, zb_n0, w32_id, w64_id, ne_eq, Classical.not_not] at c_12)
    refine x_iconst (pc := 15) dX3_excludes_15 ?_
    refine x_goto (pc := 16) 20 dX3_excludes_16 rfl ?_
    refine x_retv (pc := 20) ⟨dX3_excludes_20, Or.inr ⟨rfl, (by decide)⟩⟩ ?_
    first | (rw [zb_f (by omega)] at hq; exact hq) | (rw [zb_t (by omega)] at hq; exact hq)

set_option maxHeartbeats 4000000 in
set_option maxRecDepth 100000 in
theorem c_k_lastWeight {a : Int} (hK : isKT ty a) (hs : 0 ≤ h a 1 ∧ h a 1 ≤ 10) (hq : i32 (if 0 < h a 1 then h (a + 1) (h a 1 - 1) else 0) → Q (some (iV (if 0 < h a 1 then h (a + 1) (h a 1 - 1) else 0))) ty sz h) : zXM D mX3_lastWeight (d + 1) 0 0 [rV a] ty sz h Q := by
  obtain ⟨k9, k0, k1, k2, k3, k4, k5⟩ := hK
  refine x_aload_n (pc := 0) dX3_lastWeight_0 rfl ?_
  refine y_getI 1 (pc := 1) dX3_lastWeight_1 f_RX3_31 (by assumption) rfl (fun b_1 => ?_)
  refine x_if_le (pc := 4) 23 dX3_lastWeight_4 rfl (fun c_4 => ?_) (fun c_4 => ?_)
  · (try simp (disch := omega) only [zb_e0, zb_n0, w32_id, w64_id, ne_eq, Classical.not_not] at c_4)
    refine x_iconst (pc := 23) dX3_lastWeight_23 ?_
    refine x_retv (pc := 24) ⟨dX3_lastWeight_24, Or.inl rfl⟩ ?_
    first | (rw [if_neg (by omega)] at hq; exact hq (by omega)) | (rw [if_pos (by omega)] at hq; exact hq (by omega))
  · (try simp (disch := omega) only [zb_e0, zb_n0, w32_id, w64_id, ne_eq, Classical.not_not] at c_4)
    refine x_aload_n (pc := 7) dX3_lastWeight_7 rfl ?_
    refine x_getF (pc := 8) dX3_lastWeight_8 f_RX3_9 (by assumption) (by rfl) ?_
    refine x_aload_n (pc := 11) dX3_lastWeight_11 rfl ?_
    refine y_getI 1 (pc := 12) dX3_lastWeight_12 f_RX3_31 (by assumption) rfl (fun b_12 => ?_)
    refine x_iconst (pc := 15) dX3_lastWeight_15 ?_
    refine x_isub (pc := 16) dX3_lastWeight_16 ?_
    refine x_callS2 (pc := 17) dX3_lastWeight_17 (k_RX3_67 _ rfl) tms_X6_cell rfl rfl ?_
    refine c_cellIn (N := 10) (by omega) (by omega) (by assumption) (by decide) (by omega) (fun bb => ?_)
    dsimp only [Option.toList, List.cons_append, List.nil_append]
    refine x_goto (pc := 20) 24 dX3_lastWeight_20 rfl ?_
    refine x_retv (pc := 24) ⟨dX3_lastWeight_24, Or.inl rfl⟩ ?_
    first | (rw [if_neg (by omega)] at hq; exact hq (by omega)) | (rw [if_pos (by omega)] at hq; exact hq (by omega))

set_option maxHeartbeats 4000000 in
set_option maxRecDepth 100000 in
theorem c_k_tS_l {a it : Int} (hK : isKT ty a) (hI : isIT ty it) (hq : Q (some (iV (zb (kServ h a it)))) ty sz h) : ∀ (n : Nat) (s : Int), 0 ≤ s ∧ s ≤ 10 → (∀ u, 0 ≤ u → u < s → hasS h it u → h (a + 4) u ≠ -1 ∧ zand (h (a + 5) u) (h it 5) = 0) → 10 - s < n → zX D mX3_takesServices (d + 1) 0 0 2 [(2, iV s), (0, rV a), (1, rV it)] [] ty sz h Q := by
  intro n
  induction n with
  | zero =>
    intro s h1 h2 hm
    exfalso
    omega
  | succ n ih =>
    intro s h1 h2 hm
    have hK0 := hK
    have hI0 := hI
    obtain ⟨k9, k0, k1, k2, k3, k4, k5⟩ := hK
    obtain ⟨i9, i0⟩ := hI
    refine x_iload_n (pc := 2) dX3_takesServices_2 rfl ?_
    refine x_bipush (pc := 3) dX3_takesServices_3 (by decide) ?_
    refine x_icmp_ge (pc := 5) 52 dX3_takesServices_5 rfl (fun c_5 => ?_) (fun c_5 => ?_)
    · (try simp (disch := omega) only [zb_e0, zb_n0, w32_id, w64_id, ne_eq, Classical.not_not] at c_5)
      refine x_iconst (pc := 52) dX3_takesServices_52 ?_
      refine x_retv (pc := 53) ⟨dX3_takesServices_53, Or.inr ⟨rfl, (by decide)⟩⟩ ?_
      rw [zb_t (p := kServ h a it) (fun u hu1 hu2 => h2 u hu1 (by omega))] at hq
      exact hq
    · (try simp (disch := omega) only [zb_e0, zb_n0, w32_id, w64_id, ne_eq, Classical.not_not] at c_5)
      refine x_aload_n (pc := 8) dX3_takesServices_8 rfl ?_
      refine x_iload_n (pc := 9) dX3_takesServices_9 rfl ?_
      refine x_callV1 (pc := 10) dX3_takesServices_10 (k_RX3_80 _ rfl) tmv_X2_has (by assumption) rfl rfl rfl ?_
      refine c_has hI0 (by omega) ?_
      dsimp only [Option.toList, List.cons_append, List.nil_append]
      refine x_if_eq (pc := 13) 46 dX3_takesServices_13 rfl (fun c_13 => ?_) (fun c_13 => ?_)
      · (try simp (disch := omega) only [zb_e0, zb_n0, w32_id, w64_id, ne_eq, Classical.not_not] at c_13)
        refine x_iinc (pc := 46) dX3_takesServices_46 rfl (by decide) ?_
        refine x_goto (pc := 49) 2 dX3_takesServices_49 rfl ?_
        refine x_loc _ (by exact ⟨rfl, rfl, rfl, trivial⟩) (ih (s + 1) (by omega) (fun u hu1 hu2 hu3 => ?_) (by omega))
        by_cases e : u = s
        · subst e
          first
            | exact absurd hu3 c_13
            | exact ⟨c_25, by omega⟩
        · exact h2 u hu1 (by omega) hu3
      · (try simp (disch := omega) only [zb_e0, zb_n0, w32_id, w64_id, ne_eq, Classical.not_not] at c_13)
        refine x_aload_n (pc := 16) dX3_takesServices_16 rfl ?_
        refine x_getF (pc := 17) dX3_takesServices_17 f_RX3_21 (by assumption) (by rfl) ?_
        refine x_iload_n (pc := 20) dX3_takesServices_20 rfl ?_
        refine x_callS2 (pc := 21) dX3_takesServices_21 (k_RX3_67 _ rfl) tms_X6_cell rfl rfl ?_
        refine c_cellIn (N := 10) (by omega) (by omega) (by assumption) (by decide) (by omega) (fun bb => ?_)
        dsimp only [Option.toList, List.cons_append, List.nil_append]
        refine x_iconst (pc := 24) dX3_takesServices_24 ?_
        refine x_icmp_eq (pc := 25) 44 dX3_takesServices_25 rfl (fun c_25 => ?_) (fun c_25 => ?_)
        · (try simp (disch := omega) only [zb_e0, zb_n0, w32_id, w64_id, ne_eq, Classical.not_not] at c_25)
          refine x_iconst (pc := 44) dX3_takesServices_44 ?_
          refine x_retv (pc := 45) ⟨dX3_takesServices_45, Or.inr ⟨rfl, (by decide)⟩⟩ ?_
          rw [zb_f (p := kServ h a it) (fun q => ?_)] at hq
          · exact hq
          · have := q s (by omega) (by omega) c_13
            omega
        · (try simp (disch := omega) only [zb_e0, zb_n0, w32_id, w64_id, ne_eq, Classical.not_not] at c_25)
          refine x_aload_n (pc := 28) dX3_takesServices_28 rfl ?_
          refine x_getF (pc := 29) dX3_takesServices_29 f_RX3_24 (by assumption) (by rfl) ?_
          refine x_iload_n (pc := 32) dX3_takesServices_32 rfl ?_
          refine x_callS2 (pc := 33) dX3_takesServices_33 (k_RX3_67 _ rfl) tms_X6_cell rfl rfl ?_
          refine c_cellIn (N := 10) (by omega) (by omega) (by assumption) (by decide) (by omega) (fun bb => ?_)
          have hz := zand_rng (h (a + 5) s) (h it 5)
          dsimp only [Option.toList, List.cons_append, List.nil_append]
          refine x_aload_n (pc := 36) dX3_takesServices_36 rfl ?_
          refine y_getI 5 (pc := 37) dX3_takesServices_37 f_RX3_84 (by assumption) rfl (fun b_37 => ?_)
          refine x_iand (pc := 40) dX3_takesServices_40 ?_
          refine x_if_eq (pc := 41) 46 dX3_takesServices_41 rfl (fun c_41 => ?_) (fun c_41 => ?_)
          · (try simp (disch := omega) only [zb_e0, zb_n0, w32_id, w64_id, ne_eq, Classical.not_not] at c_41)
            refine x_iinc (pc := 46) dX3_takesServices_46 rfl (by decide) ?_
            refine x_goto (pc := 49) 2 dX3_takesServices_49 rfl ?_
            refine x_loc _ (by exact ⟨rfl, rfl, rfl, trivial⟩) (ih (s + 1) (by omega) (fun u hu1 hu2 hu3 => ?_) (by omega))
            by_cases e : u = s
            · subst e
              first
                | exact absurd hu3 c_13
                | exact ⟨c_25, by omega⟩
            · exact h2 u hu1 (by omega) hu3
          · (try simp (disch := omega) only [zb_e0, zb_n0, w32_id, w64_id, ne_eq, Classical.not_not] at c_41)
            refine x_iconst (pc := 44) dX3_takesServices_44 ?_
            refine x_retv (pc := 45) ⟨dX3_takesServices_45, Or.inr ⟨rfl, (by decide)⟩⟩ ?_
            rw [zb_f (p := kServ h a it) (fun q => ?_)] at hq
            · exact hq
            · have := q s (by omega) (by omega) c_13
              omega

set_option maxHeartbeats 4000000 in
set_option maxRecDepth 100000 in
theorem c_k_takesServices {a it : Int} (hK : isKT ty a) (hI : isIT ty it) (hq : Q (some (iV (zb (kServ h a it)))) ty sz h) : zXM D mX3_takesServices (d + 1) 0 0 [rV a, rV it] ty sz h Q := by
  refine x_iconst (pc := 0) dX3_takesServices_0 ?_
  refine x_istore_n (pc := 1) dX3_takesServices_1 (by decide) ?_
  exact x_loc _ (by exact ⟨rfl, rfl, rfl, trivial⟩) (c_k_tS_l hK hI hq 11 0 (by omega) (fun u h1 h2 => by omega) (by omega))

end C2
end
section
section C3
variable {D : va_G} {d : Nat} {ty : zT} {sz : Nat} {h : zH} {Q : zQ}
set_option maxHeartbeats 4000000 in
set_option maxRecDepth 100000 in
theorem c_k_tk81 {a it zone day : Int} (hK : isKT ty a) (hI : isIT ty it) (hz : 0 ≤ zone ∧ zone ≤ 9) (hd : 0 ≤ day ∧ day ≤ 9999999) (hq : Q (some (iV (zb (kTakes h a it zone day)))) ty sz h) : zX D mX3_takes (d + 2) 0 0 81 [(5, iV (zb (h a 12 = -1 ∨ (h a 12 ≤ day ∧ day ≤ h a 13)))), (0, rV a), (1, rV it), (2, iV zone), (3, lV day)] [iV (zb (h a 8 = -1 ∨ (h it 2 ≤ h a 8 ∧ h it 3 ≤ h a 9 ∧ h it 4 ≤ h a 10)))] ty sz h Q := by
  have hK0 := hK
  have hI0 := hI
  obtain ⟨k9, k0, k1, k2, k3, k4, k5⟩ := hK
  obtain ⟨i9, i0⟩ := hI
  refine x_istore (pc := 81) dX3_takes_81 (by decide) ?_
  refine x_iload (pc := 83) dX3_takes_83 rfl ?_
  refine x_if_eq (pc := 85) 117 dX3_takes_85 rfl (fun c_85 => ?_) (fun c_85 => ?_)
  · (try simp (disch := omega) only [zb_e0, zb_n0, w32_id, w64_id, ne_eq, Classical.not_not] at c_85)
    refine x_iconst (pc := 117) dX3_takes_117 ?_
    refine x_retv (pc := 118) ⟨dX3_takes_118, Or.inr ⟨rfl, (by decide)⟩⟩ ?_
    first
      | (rw [zb_f (p := kTakes h a it zone day) (fun q => c_85 q.1)] at hq; exact hq)
      | (rw [zb_f (p := kTakes h a it zone day) (fun q => c_90 q.2.1)] at hq; exact hq)
      | (rw [zb_f (p := kTakes h a it zone day) (fun q => q.2.2.1 c_102)] at hq; exact hq)
      | (rw [zb_f (p := kTakes h a it zone day) (fun q => c_110 q.2.2.2)] at hq; exact hq)
      | (rw [zb_t (p := kTakes h a it zone day) ⟨c_85, c_90, c_102, c_110⟩] at hq; exact hq)
  · (try simp (disch := omega) only [zb_e0, zb_n0, w32_id, w64_id, ne_eq, Classical.not_not] at c_85)
    refine x_iload (pc := 88) dX3_takes_88 rfl ?_
    refine x_if_eq (pc := 90) 117 dX3_takes_90 rfl (fun c_90 => ?_) (fun c_90 => ?_)
    · (try simp (disch := omega) only [zb_e0, zb_n0, w32_id, w64_id, ne_eq, Classical.not_not] at c_90)
      refine x_iconst (pc := 117) dX3_takes_117 ?_
      refine x_retv (pc := 118) ⟨dX3_takes_118, Or.inr ⟨rfl, (by decide)⟩⟩ ?_
      first
        | (rw [zb_f (p := kTakes h a it zone day) (fun q => c_85 q.1)] at hq; exact hq)
        | (rw [zb_f (p := kTakes h a it zone day) (fun q => c_90 q.2.1)] at hq; exact hq)
        | (rw [zb_f (p := kTakes h a it zone day) (fun q => q.2.2.1 c_102)] at hq; exact hq)
        | (rw [zb_f (p := kTakes h a it zone day) (fun q => c_110 q.2.2.2)] at hq; exact hq)
        | (rw [zb_t (p := kTakes h a it zone day) ⟨c_85, c_90, c_102, c_110⟩] at hq; exact hq)
    · (try simp (disch := omega) only [zb_e0, zb_n0, w32_id, w64_id, ne_eq, Classical.not_not] at c_90)
      refine x_aload_n (pc := 93) dX3_takes_93 rfl ?_
      refine x_getF (pc := 94) dX3_takes_94 f_RX3_18 (by assumption) (by rfl) ?_
      refine x_iload_n (pc := 97) dX3_takes_97 rfl ?_
      refine x_callS2 (pc := 98) dX3_takes_98 (k_RX3_67 _ rfl) tms_X6_cell rfl rfl ?_
      refine c_cellIn (N := 10) (by omega) (by omega) (by assumption) (by decide) (by omega) (fun bb => ?_)
      dsimp only [Option.toList, List.cons_append, List.nil_append]
      refine x_iconst (pc := 101) dX3_takes_101 ?_
      refine x_icmp_eq (pc := 102) 117 dX3_takes_102 rfl (fun c_102 => ?_) (fun c_102 => ?_)
      · (try simp (disch := omega) only [zb_e0, zb_n0, w32_id, w64_id, ne_eq, Classical.not_not] at c_102)
        refine x_iconst (pc := 117) dX3_takes_117 ?_
        refine x_retv (pc := 118) ⟨dX3_takes_118, Or.inr ⟨rfl, (by decide)⟩⟩ ?_
        first
          | (rw [zb_f (p := kTakes h a it zone day) (fun q => c_85 q.1)] at hq; exact hq)
          | (rw [zb_f (p := kTakes h a it zone day) (fun q => c_90 q.2.1)] at hq; exact hq)
          | (rw [zb_f (p := kTakes h a it zone day) (fun q => q.2.2.1 c_102)] at hq; exact hq)
          | (rw [zb_f (p := kTakes h a it zone day) (fun q => c_110 q.2.2.2)] at hq; exact hq)
          | (rw [zb_t (p := kTakes h a it zone day) ⟨c_85, c_90, c_102, c_110⟩] at hq; exact hq)
      · (try simp (disch := omega) only [zb_e0, zb_n0, w32_id, w64_id, ne_eq, Classical.not_not] at c_102)
        refine x_aload_n (pc := 105) dX3_takes_105 rfl ?_
        refine x_aload_n (pc := 106) dX3_takes_106 rfl ?_
        refine x_callV1 (pc := 107) dX3_takes_107 (k_RX3_76 _ rfl) tmv_X3_takesServices (by assumption) rfl rfl rfl ?_
        refine c_k_takesServices hK0 hI0 ?_
        dsimp only [Option.toList, List.cons_append, List.nil_append]
        refine x_if_eq (pc := 110) 117 dX3_takes_110 rfl (fun c_110 => ?_) (fun c_110 => ?_)
        · (try simp (disch := omega) only [zb_e0, zb_n0, w32_id, w64_id, ne_eq, Classical.not_not] at c_110)
          refine x_iconst (pc := 117) dX3_takes_117 ?_
          refine x_retv (pc := 118) ⟨dX3_takes_118, Or.inr ⟨rfl, (by decide)⟩⟩ ?_
          first
            | (rw [zb_f (p := kTakes h a it zone day) (fun q => c_85 q.1)] at hq; exact hq)
            | (rw [zb_f (p := kTakes h a it zone day) (fun q => c_90 q.2.1)] at hq; exact hq)
            | (rw [zb_f (p := kTakes h a it zone day) (fun q => q.2.2.1 c_102)] at hq; exact hq)
            | (rw [zb_f (p := kTakes h a it zone day) (fun q => c_110 q.2.2.2)] at hq; exact hq)
            | (rw [zb_t (p := kTakes h a it zone day) ⟨c_85, c_90, c_102, c_110⟩] at hq; exact hq)
        · (try simp (disch := omega) only [zb_e0, zb_n0, w32_id, w64_id, ne_eq, Classical.not_not] at c_110)
          refine x_iconst (pc := 113) dX3_takes_113 ?_
          refine x_goto (pc := 114) 118 dX3_takes_114 rfl ?_
          refine x_retv (pc := 118) ⟨dX3_takes_118, Or.inr ⟨rfl, (by decide)⟩⟩ ?_
          first
            | (rw [zb_f (p := kTakes h a it zone day) (fun q => c_85 q.1)] at hq; exact hq)
            | (rw [zb_f (p := kTakes h a it zone day) (fun q => c_90 q.2.1)] at hq; exact hq)
            | (rw [zb_f (p := kTakes h a it zone day) (fun q => q.2.2.1 c_102)] at hq; exact hq)
            | (rw [zb_f (p := kTakes h a it zone day) (fun q => c_110 q.2.2.2)] at hq; exact hq)
            | (rw [zb_t (p := kTakes h a it zone day) ⟨c_85, c_90, c_102, c_110⟩] at hq; exact hq)

set_option maxHeartbeats 4000000 in
set_option maxRecDepth 100000 in
theorem c_k_tk33 {a it zone day : Int} (hK : isKT ty a) (hI : isIT ty it) (hz : 0 ≤ zone ∧ zone ≤ 9) (hd : 0 ≤ day ∧ day ≤ 9999999) (hq : Q (some (iV (zb (kTakes h a it zone day)))) ty sz h) : zX D mX3_takes (d + 2) 0 0 33 [(0, rV a), (1, rV it), (2, iV zone), (3, lV day)] [iV (zb (h a 12 = -1 ∨ (h a 12 ≤ day ∧ day ≤ h a 13)))] ty sz h Q := by
  have T := c_k_tk81 (D := D) (d := d) hK hI hz hd hq
  have hK0 := hK
  have hI0 := hI
  obtain ⟨k9, k0, k1, k2, k3, k4, k5⟩ := hK
  obtain ⟨i9, i0⟩ := hI
  refine x_istore (pc := 33) dX3_takes_33 (by decide) ?_
  refine x_aload_n (pc := 35) dX3_takes_35 rfl ?_
  refine y_getI 8 (pc := 36) dX3_takes_36 f_RX3_42 (by assumption) rfl (fun b_36 => ?_)
  refine x_iconst (pc := 39) dX3_takes_39 ?_
  refine x_icmp_eq (pc := 40) 76 dX3_takes_40 rfl (fun c_40 => ?_) (fun c_40 => ?_)
  · (try simp (disch := omega) only [zb_e0, zb_n0, w32_id, w64_id, ne_eq, Classical.not_not] at c_40)
    refine x_iconst (pc := 76) dX3_takes_76 ?_
    refine x_goto (pc := 77) 81 dX3_takes_77 rfl ?_
    refine x_loc [(5, iV (zb (h a 12 = -1 ∨ (h a 12 ≤ day ∧ day ≤ h a 13)))), (0, rV a), (1, rV it), (2, iV zone), (3, lV day)] ⟨rfl, rfl, rfl, rfl, rfl, trivial⟩ ?_
    first | (rw [zb_t (p := (h a 8 = -1 ∨ (h it 2 ≤ h a 8 ∧ h it 3 ≤ h a 9 ∧ h it 4 ≤ h a 10))) (by omega)] at T; exact T) | (rw [zb_f (p := (h a 8 = -1 ∨ (h it 2 ≤ h a 8 ∧ h it 3 ≤ h a 9 ∧ h it 4 ≤ h a 10))) (by omega)] at T; exact T)
  · (try simp (disch := omega) only [zb_e0, zb_n0, w32_id, w64_id, ne_eq, Classical.not_not] at c_40)
    refine x_aload_n (pc := 43) dX3_takes_43 rfl ?_
    refine y_getI 2 (pc := 44) dX3_takes_44 f_RX3_71 (by assumption) rfl (fun b_44 => ?_)
    refine x_aload_n (pc := 47) dX3_takes_47 rfl ?_
    refine y_getI 8 (pc := 48) dX3_takes_48 f_RX3_42 (by assumption) rfl (fun b_48 => ?_)
    refine x_icmp_gt (pc := 51) 80 dX3_takes_51 rfl (fun c_51 => ?_) (fun c_51 => ?_)
    · (try simp (disch := omega) only [zb_e0, zb_n0, w32_id, w64_id, ne_eq, Classical.not_not] at c_51)
      refine x_iconst (pc := 80) dX3_takes_80 ?_
      refine x_loc [(5, iV (zb (h a 12 = -1 ∨ (h a 12 ≤ day ∧ day ≤ h a 13)))), (0, rV a), (1, rV it), (2, iV zone), (3, lV day)] ⟨rfl, rfl, rfl, rfl, rfl, trivial⟩ ?_
      first | (rw [zb_t (p := (h a 8 = -1 ∨ (h it 2 ≤ h a 8 ∧ h it 3 ≤ h a 9 ∧ h it 4 ≤ h a 10))) (by omega)] at T; exact T) | (rw [zb_f (p := (h a 8 = -1 ∨ (h it 2 ≤ h a 8 ∧ h it 3 ≤ h a 9 ∧ h it 4 ≤ h a 10))) (by omega)] at T; exact T)
    · (try simp (disch := omega) only [zb_e0, zb_n0, w32_id, w64_id, ne_eq, Classical.not_not] at c_51)
      refine x_aload_n (pc := 54) dX3_takes_54 rfl ?_
      refine y_getI 3 (pc := 55) dX3_takes_55 f_RX3_74 (by assumption) rfl (fun b_55 => ?_)
      refine x_aload_n (pc := 58) dX3_takes_58 rfl ?_
      refine y_getI 9 (pc := 59) dX3_takes_59 f_RX3_45 (by assumption) rfl (fun b_59 => ?_)
      refine x_icmp_gt (pc := 62) 80 dX3_takes_62 rfl (fun c_62 => ?_) (fun c_62 => ?_)
      · (try simp (disch := omega) only [zb_e0, zb_n0, w32_id, w64_id, ne_eq, Classical.not_not] at c_62)
        refine x_iconst (pc := 80) dX3_takes_80 ?_
        refine x_loc [(5, iV (zb (h a 12 = -1 ∨ (h a 12 ≤ day ∧ day ≤ h a 13)))), (0, rV a), (1, rV it), (2, iV zone), (3, lV day)] ⟨rfl, rfl, rfl, rfl, rfl, trivial⟩ ?_
        first | (rw [zb_t (p := (h a 8 = -1 ∨ (h it 2 ≤ h a 8 ∧ h it 3 ≤ h a 9 ∧ h it 4 ≤ h a 10))) (by omega)] at T; exact T) | (rw [zb_f (p := (h a 8 = -1 ∨ (h it 2 ≤ h a 8 ∧ h it 3 ≤ h a 9 ∧ h it 4 ≤ h a 10))) (by omega)] at T; exact T)
      · (try simp (disch := omega) only [zb_e0, zb_n0, w32_id, w64_id, ne_eq, Classical.not_not] at c_62)
        refine x_aload_n (pc := 65) dX3_takes_65 rfl ?_
        refine y_getI 4 (pc := 66) dX3_takes_66 f_RX3_75 (by assumption) rfl (fun b_66 => ?_)
        refine x_aload_n (pc := 69) dX3_takes_69 rfl ?_
        refine y_getI 10 (pc := 70) dX3_takes_70 f_RX3_48 (by assumption) rfl (fun b_70 => ?_)
        refine x_icmp_gt (pc := 73) 80 dX3_takes_73 rfl (fun c_73 => ?_) (fun c_73 => ?_)
        · (try simp (disch := omega) only [zb_e0, zb_n0, w32_id, w64_id, ne_eq, Classical.not_not] at c_73)
          refine x_iconst (pc := 80) dX3_takes_80 ?_
          refine x_loc [(5, iV (zb (h a 12 = -1 ∨ (h a 12 ≤ day ∧ day ≤ h a 13)))), (0, rV a), (1, rV it), (2, iV zone), (3, lV day)] ⟨rfl, rfl, rfl, rfl, rfl, trivial⟩ ?_
          first | (rw [zb_t (p := (h a 8 = -1 ∨ (h it 2 ≤ h a 8 ∧ h it 3 ≤ h a 9 ∧ h it 4 ≤ h a 10))) (by omega)] at T; exact T) | (rw [zb_f (p := (h a 8 = -1 ∨ (h it 2 ≤ h a 8 ∧ h it 3 ≤ h a 9 ∧ h it 4 ≤ h a 10))) (by omega)] at T; exact T)
        · (try simp (disch := omega) only [zb_e0, zb_n0, w32_id, w64_id, ne_eq, Classical.not_not] at c_73)
          refine x_iconst (pc := 76) dX3_takes_76 ?_
          refine x_goto (pc := 77) 81 dX3_takes_77 rfl ?_
          refine x_loc [(5, iV (zb (h a 12 = -1 ∨ (h a 12 ≤ day ∧ day ≤ h a 13)))), (0, rV a), (1, rV it), (2, iV zone), (3, lV day)] ⟨rfl, rfl, rfl, rfl, rfl, trivial⟩ ?_
          first | (rw [zb_t (p := (h a 8 = -1 ∨ (h it 2 ≤ h a 8 ∧ h it 3 ≤ h a 9 ∧ h it 4 ≤ h a 10))) (by omega)] at T; exact T) | (rw [zb_f (p := (h a 8 = -1 ∨ (h it 2 ≤ h a 8 ∧ h it 3 ≤ h a 9 ∧ h it 4 ≤ h a 10))) (by omega)] at T; exact T)

set_option maxHeartbeats 4000000 in
set_option maxRecDepth 100000 in
theorem c_k_takes {a it zone day : Int} (hK : isKT ty a) (hI : isIT ty it) (hz : 0 ≤ zone ∧ zone ≤ 9) (hd : 0 ≤ day ∧ day ≤ 9999999) (hq : Q (some (iV (zb (kTakes h a it zone day)))) ty sz h) : zXM D mX3_takes (d + 2) 0 0 [rV a, rV it, iV zone, lV day] ty sz h Q := by
  have T := c_k_tk33 (D := D) (d := d) hK hI hz hd hq
  have hK0 := hK
  have hI0 := hI
  obtain ⟨k9, k0, k1, k2, k3, k4, k5⟩ := hK
  obtain ⟨i9, i0⟩ := hI
  refine x_aload_n (pc := 0) dX3_takes_0 rfl ?_
  refine y_getI 12 (pc := 1) dX3_takes_1 f_RX3_54 (by assumption) rfl (fun b_1 => ?_)
  refine x_iconst (pc := 4) dX3_takes_4 ?_
  refine x_icmp_eq (pc := 5) 28 dX3_takes_5 rfl (fun c_5 => ?_) (fun c_5 => ?_)
  · (try simp (disch := omega) only [zb_e0, zb_n0, w32_id, w64_id, ne_eq, Classical.not_not] at c_5)
    refine x_iconst (pc := 28) dX3_takes_28 ?_
    refine x_goto (pc := 29) 33 dX3_takes_29 rfl ?_
    refine x_loc [(0, rV a), (1, rV it), (2, iV zone), (3, lV day)] ⟨rfl, rfl, rfl, rfl, trivial⟩ ?_
    first | (rw [zb_t (p := (h a 12 = -1 ∨ (h a 12 ≤ day ∧ day ≤ h a 13))) (by omega)] at T; exact T) | (rw [zb_f (p := (h a 12 = -1 ∨ (h a 12 ≤ day ∧ day ≤ h a 13))) (by omega)] at T; exact T)
  · (try simp (disch := omega) only [zb_e0, zb_n0, w32_id, w64_id, ne_eq, Classical.not_not] at c_5)
    refine x_lload_n (pc := 8) dX3_takes_8 rfl ?_
    refine x_aload_n (pc := 9) dX3_takes_9 rfl ?_
    refine y_getI 12 (pc := 10) dX3_takes_10 f_RX3_54 (by assumption) rfl (fun b_10 => ?_)
    refine x_i2l (pc := 13) dX3_takes_13 ?_
    refine x_lcmp_lt (pc := 14) 32 dX3_takes_14 dX3_takes_15 rfl (fun c_14 => ?_) (fun c_14 => ?_)
    · (try simp (disch := omega) only [zb_e0, zb_n0, w32_id, w64_id, ne_eq, Classical.not_not] at c_14)
      refine x_iconst (pc := 32) dX3_takes_32 ?_
      refine x_loc [(0, rV a), (1, rV it), (2, iV zone), (3, lV day)] ⟨rfl, rfl, rfl, rfl, trivial⟩ ?_
      first | (rw [zb_t (p := (h a 12 = -1 ∨ (h a 12 ≤ day ∧ day ≤ h a 13))) (by omega)] at T; exact T) | (rw [zb_f (p := (h a 12 = -1 ∨ (h a 12 ≤ day ∧ day ≤ h a 13))) (by omega)] at T; exact T)
    · (try simp (disch := omega) only [zb_e0, zb_n0, w32_id, w64_id, ne_eq, Classical.not_not] at c_14)
      refine x_lload_n (pc := 18) dX3_takes_18 rfl ?_
      refine x_aload_n (pc := 19) dX3_takes_19 rfl ?_
      refine y_getI 13 (pc := 20) dX3_takes_20 f_RX3_57 (by assumption) rfl (fun b_20 => ?_)
      refine x_i2l (pc := 23) dX3_takes_23 ?_
      refine x_lcmp_gt (pc := 24) 32 dX3_takes_24 dX3_takes_25 rfl (fun c_24 => ?_) (fun c_24 => ?_)
      · (try simp (disch := omega) only [zb_e0, zb_n0, w32_id, w64_id, ne_eq, Classical.not_not] at c_24)
        refine x_iconst (pc := 32) dX3_takes_32 ?_
        refine x_loc [(0, rV a), (1, rV it), (2, iV zone), (3, lV day)] ⟨rfl, rfl, rfl, rfl, trivial⟩ ?_
        first | (rw [zb_t (p := (h a 12 = -1 ∨ (h a 12 ≤ day ∧ day ≤ h a 13))) (by omega)] at T; exact T) | (rw [zb_f (p := (h a 12 = -1 ∨ (h a 12 ≤ day ∧ day ≤ h a 13))) (by omega)] at T; exact T)
      · (try simp (disch := omega) only [zb_e0, zb_n0, w32_id, w64_id, ne_eq, Classical.not_not] at c_24)
        refine x_iconst (pc := 28) dX3_takes_28 ?_
        refine x_goto (pc := 29) 33 dX3_takes_29 rfl ?_
        refine x_loc [(0, rV a), (1, rV it), (2, iV zone), (3, lV day)] ⟨rfl, rfl, rfl, rfl, trivial⟩ ?_
        first | (rw [zb_t (p := (h a 12 = -1 ∨ (h a 12 ≤ day ∧ day ≤ h a 13))) (by omega)] at T; exact T) | (rw [zb_f (p := (h a 12 = -1 ∨ (h a 12 ≤ day ∧ day ≤ h a 13))) (by omega)] at T; exact T)

set_option maxHeartbeats 4000000 in
set_option maxRecDepth 100000 in
theorem c_k_weightOf {a it : Int} (hK : isKT ty a) (hI : isIT ty it) (hO : itOK h it) (hD : h a 11 = -1 ∨ (1 ≤ h a 11 ∧ h a 11 ≤ 9999999)) (hq : 1 ≤ kWeight h a it ∧ kWeight h a it ≤ 2000000000000000 → Q (some (lV (kWeight h a it))) ty sz h) : zXM D mX3_weightOf (d + 1) 0 0 [rV a, rV it] ty sz h Q := by
  obtain ⟨k9, k0, k1, k2, k3, k4, k5⟩ := hK
  obtain ⟨i9, i0⟩ := hI
  obtain ⟨o1, o2, o3, o4⟩ := hO
  obtain ⟨v1, v2⟩ := zvol o2 o3 o4
  refine x_aload_n (pc := 0) dX3_weightOf_0 rfl ?_
  refine y_getI 11 (pc := 1) dX3_weightOf_1 f_RX3_51 (by assumption) rfl (fun b_1 => ?_)
  refine x_iconst (pc := 4) dX3_weightOf_4 ?_
  refine x_icmp_ne (pc := 5) 14 dX3_weightOf_5 rfl (fun c_5 => ?_) (fun c_5 => ?_)
  · (try simp (disch := omega) only [zb_e0, zb_n0, w32_id, w64_id, ne_eq, Classical.not_not] at c_5)
    refine x_aload_n (pc := 14) dX3_weightOf_14 rfl ?_
    refine y_getI 1 (pc := 15) dX3_weightOf_15 f_RX3_86 (by assumption) rfl (fun b_15 => ?_)
    refine x_i2l (pc := 18) dX3_weightOf_18 ?_
    rw [w32_id (by omega) (by omega)]
    refine x_aload_n (pc := 19) dX3_weightOf_19 rfl ?_
    refine y_getI 2 (pc := 20) dX3_weightOf_20 f_RX3_71 (by assumption) rfl (fun b_20 => ?_)
    refine x_i2l (pc := 23) dX3_weightOf_23 ?_
    rw [w32_id (by omega) (by omega)]
    refine x_aload_n (pc := 24) dX3_weightOf_24 rfl ?_
    refine y_getI 3 (pc := 25) dX3_weightOf_25 f_RX3_74 (by assumption) rfl (fun b_25 => ?_)
    refine x_i2l (pc := 28) dX3_weightOf_28 ?_
    rw [w32_id (by omega) (by omega)]
    refine x_lmul (pc := 29) dX3_weightOf_29 ?_
    refine x_aload_n (pc := 30) dX3_weightOf_30 rfl ?_
    refine y_getI 4 (pc := 31) dX3_weightOf_31 f_RX3_75 (by assumption) rfl (fun b_31 => ?_)
    refine x_i2l (pc := 34) dX3_weightOf_34 ?_
    rw [w32_id (by omega) (by omega)]
    refine x_lmul (pc := 35) dX3_weightOf_35 ?_
    refine x_aload_n (pc := 36) dX3_weightOf_36 rfl ?_
    refine y_getI 11 (pc := 37) dX3_weightOf_37 f_RX3_51 (by assumption) rfl (fun b_37 => ?_)
    refine x_i2l (pc := 40) dX3_weightOf_40 ?_
    rw [w32_id (by omega) (by omega)]
    refine x_callS2 (pc := 41) dX3_weightOf_41 (k_RX3_89 _ rfl) tms_X6_dividedUp rfl rfl ?_
    refine c_dividedUp (by omega) (by omega) (by omega) (by omega) ?_
    have hdu : 0 ≤ zdu (h it 2 * h it 3 * h it 4) (h a 11) ∧ zdu (h it 2 * h it 3 * h it 4) (h a 11) ≤ 2000000000000000 := zdu_rng (by omega) (by omega) (by omega)
    dsimp only [Option.toList, List.cons_append, List.nil_append]
    refine x_max (pc := 44) (own := RX3) rfl dX3_weightOf_44 tl_RX3_93 rfl ?_
    refine x_retv (pc := 47) ⟨dX3_weightOf_47, rfl⟩ ?_
    unfold kWeight at hq
    rw [if_neg c_5] at hq
    rw [w64_id (by omega) (by omega), w64_id (by omega) (by omega)]
    exact hq (by split <;> omega)
  · (try simp (disch := omega) only [zb_e0, zb_n0, w32_id, w64_id, ne_eq, Classical.not_not] at c_5)
    refine x_aload_n (pc := 8) dX3_weightOf_8 rfl ?_
    refine y_getI 1 (pc := 9) dX3_weightOf_9 f_RX3_86 (by assumption) rfl (fun b_9 => ?_)
    refine x_i2l (pc := 12) dX3_weightOf_12 ?_
    rw [w32_id (by omega) (by omega)]
    refine x_retv (pc := 13) ⟨dX3_weightOf_13, rfl⟩ ?_
    unfold kWeight at hq
    rw [if_pos c_5] at hq
    exact hq (by omega)

set_option maxHeartbeats 4000000 in
set_option maxRecDepth 100000 in
theorem c_k_sF_l {a wt : Int} (hK : isKT ty a) (hs : 0 ≤ h a 1 ∧ h a 1 ≤ 10) (hw : i64 wt) (hq : -1 ≤ kStep h a wt ∧ kStep h a wt < 10 → Q (some (iV (kStep h a wt))) ty sz h) : ∀ (n : Nat) (i : Int), 0 ≤ i ∧ i ≤ h a 1 → kStep h a wt = zfst (fun i => wt ≤ h (a + 1) i) (h a 1 - i).toNat i → h a 1 - i < n → zX D mX3_stepFor (d + 1) 0 0 2 [(3, iV i), (0, rV a), (1, lV wt)] [] ty sz h Q := by
  intro n
  induction n with
  | zero =>
    intro i h1 h2 hm
    exfalso
    omega
  | succ n ih =>
    intro i h1 h2 hm
    have hK0 := hK
    obtain ⟨k9, k0, k1, k2, k3, k4, k5⟩ := hK
    refine x_iload_n (pc := 2) dX3_stepFor_2 rfl ?_
    refine x_aload_n (pc := 3) dX3_stepFor_3 rfl ?_
    refine y_getI 1 (pc := 4) dX3_stepFor_4 f_RX3_31 (by assumption) rfl (fun b_4 => ?_)
    refine x_icmp_ge (pc := 7) 32 dX3_stepFor_7 rfl (fun c_7 => ?_) (fun c_7 => ?_)
    · (try simp (disch := omega) only [zb_e0, zb_n0, w32_id, w64_id, ne_eq, Classical.not_not] at c_7)
      refine x_iconst (pc := 32) dX3_stepFor_32 ?_
      refine x_retv (pc := 33) ⟨dX3_stepFor_33, Or.inl rfl⟩ ?_
      have e : kStep h a wt = -1 := by
        rw [h2, show (h a 1 - i).toNat = 0 by omega]
        rfl
      rw [e] at hq
      exact hq (by omega)
    · (try simp (disch := omega) only [zb_e0, zb_n0, w32_id, w64_id, ne_eq, Classical.not_not] at c_7)
      refine x_aload_n (pc := 10) dX3_stepFor_10 rfl ?_
      refine x_getF (pc := 11) dX3_stepFor_11 f_RX3_9 (by assumption) (by rfl) ?_
      refine x_iload_n (pc := 14) dX3_stepFor_14 rfl ?_
      refine x_callS2 (pc := 15) dX3_stepFor_15 (k_RX3_67 _ rfl) tms_X6_cell rfl rfl ?_
      refine c_cellIn (N := 10) (by omega) (by omega) (by assumption) (by decide) (by omega) (fun bb => ?_)
      dsimp only [Option.toList, List.cons_append, List.nil_append]
      refine x_i2l (pc := 18) dX3_stepFor_18 ?_
      rw [w32_id (by omega) (by omega)]
      refine x_lload_n (pc := 19) dX3_stepFor_19 rfl ?_
      refine x_lcmp_lt (pc := 20) 26 dX3_stepFor_20 dX3_stepFor_21 rfl (fun c_20 => ?_) (fun c_20 => ?_)
      · (try simp (disch := omega) only [zb_e0, zb_n0, w32_id, w64_id, ne_eq, Classical.not_not] at c_20)
        refine x_iinc (pc := 26) dX3_stepFor_26 rfl (by decide) ?_
        refine x_goto (pc := 29) 2 dX3_stepFor_29 rfl ?_
        refine x_loc _ (by exact ⟨rfl, rfl, rfl, trivial⟩) (ih (i + 1) (by omega) ?_ (by omega))
        rw [h2, show (h a 1 - i).toNat = (h a 1 - (i + 1)).toNat + 1 by omega]
        exact zfst_n (by omega)
      · (try simp (disch := omega) only [zb_e0, zb_n0, w32_id, w64_id, ne_eq, Classical.not_not] at c_20)
        refine x_iload_n (pc := 24) dX3_stepFor_24 rfl ?_
        refine x_retv (pc := 25) ⟨dX3_stepFor_25, Or.inl rfl⟩ ?_
        have e : kStep h a wt = i := by
          rw [h2, show (h a 1 - i).toNat = (h a 1 - (i + 1)).toNat + 1 by omega]
          exact zfst_y (by omega)
        rw [e] at hq
        exact hq (by omega)

set_option maxHeartbeats 4000000 in
set_option maxRecDepth 100000 in
theorem c_k_stepFor {a wt : Int} (hK : isKT ty a) (hs : 0 ≤ h a 1 ∧ h a 1 ≤ 10) (hw : i64 wt) (hq : -1 ≤ kStep h a wt ∧ kStep h a wt < 10 → Q (some (iV (kStep h a wt))) ty sz h) : zXM D mX3_stepFor (d + 1) 0 0 [rV a, lV wt] ty sz h Q := by
  refine x_iconst (pc := 0) dX3_stepFor_0 ?_
  refine x_istore_n (pc := 1) dX3_stepFor_1 (by decide) ?_
  exact x_loc _ (by exact ⟨rfl, rfl, rfl, trivial⟩) (c_k_sF_l hK hs hw hq 11 0 (by omega) (by unfold kStep; rw [Int.sub_zero]) (by omega))

set_option maxHeartbeats 4000000 in
set_option maxRecDepth 100000 in
theorem c_k_sS_l {a b : Int} (hK : isKT ty a) (hL : isKT ty b) (hs : 0 ≤ h a 1 ∧ h a 1 ≤ 10) (he : h a 1 = h b 1) (hq : Q (some (iV (zb (kSameS h a b)))) ty sz h) : ∀ (n : Nat) (i : Int), 0 ≤ i ∧ i ≤ h a 1 → (∀ u, 0 ≤ u → u < i → h (a + 1) u = h (b + 1) u ∧ h (a + 2) u = h (b + 2) u) → h a 1 - i < n → zX D mX3_hasSameStepsAs (d + 1) 0 0 15 [(2, iV i), (0, rV a), (1, rV b)] [] ty sz h Q := by
  intro n
  induction n with
  | zero =>
    intro i h1 h2 hm
    exfalso
    omega
  | succ n ih =>
    intro i h1 h2 hm
    obtain ⟨k9, k0, k1, k2, k3, k4, k5⟩ := hK
    obtain ⟨l9, l0, l1, l2, l3, l4, l5⟩ := hL
    refine x_iload_n (pc := 15) dX3_hasSameStepsAs_15 rfl ?_
    refine x_aload_n (pc := 16) dX3_hasSameStepsAs_16 rfl ?_
    refine y_getI 1 (pc := 17) dX3_hasSameStepsAs_17 f_RX3_31 (by assumption) rfl (fun b_17 => ?_)
    refine x_icmp_ge (pc := 20) 69 dX3_hasSameStepsAs_20 rfl (fun c_20 => ?_) (fun c_20 => ?_)
    · (try simp (disch := omega) only [zb_e0, zb_n0, w32_id, w64_id, ne_eq, Classical.not_not] at c_20)
      refine x_iconst (pc := 69) dX3_hasSameStepsAs_69 ?_
      refine x_retv (pc := 70) ⟨dX3_hasSameStepsAs_70, Or.inr ⟨rfl, (by decide)⟩⟩ ?_
      rw [zb_t (p := kSameS h a b) ⟨he, fun u hu1 hu2 => h2 u hu1 (by omega)⟩] at hq
      exact hq
    · (try simp (disch := omega) only [zb_e0, zb_n0, w32_id, w64_id, ne_eq, Classical.not_not] at c_20)
      refine x_aload_n (pc := 23) dX3_hasSameStepsAs_23 rfl ?_
      refine x_getF (pc := 24) dX3_hasSameStepsAs_24 f_RX3_9 (by assumption) (by rfl) ?_
      refine x_iload_n (pc := 27) dX3_hasSameStepsAs_27 rfl ?_
      refine x_callS2 (pc := 28) dX3_hasSameStepsAs_28 (k_RX3_67 _ rfl) tms_X6_cell rfl rfl ?_
      refine c_cellIn (N := 10) (by omega) (by omega) (by assumption) (by decide) (by omega) (fun bb => ?_)
      dsimp only [Option.toList, List.cons_append, List.nil_append]
      refine x_aload_n (pc := 31) dX3_hasSameStepsAs_31 rfl ?_
      refine x_getF (pc := 32) dX3_hasSameStepsAs_32 f_RX3_9 (by assumption) (by rfl) ?_
      refine x_iload_n (pc := 35) dX3_hasSameStepsAs_35 rfl ?_
      refine x_callS2 (pc := 36) dX3_hasSameStepsAs_36 (k_RX3_67 _ rfl) tms_X6_cell rfl rfl ?_
      refine c_cellIn (N := 10) (by omega) (by omega) (by assumption) (by decide) (by omega) (fun bb => ?_)
      dsimp only [Option.toList, List.cons_append, List.nil_append]
      refine x_icmp_ne (pc := 39) 61 dX3_hasSameStepsAs_39 rfl (fun c_39 => ?_) (fun c_39 => ?_)
      · (try simp (disch := omega) only [zb_e0, zb_n0, w32_id, w64_id, ne_eq, Classical.not_not] at c_39)
        refine x_iconst (pc := 61) dX3_hasSameStepsAs_61 ?_
        refine x_retv (pc := 62) ⟨dX3_hasSameStepsAs_62, Or.inr ⟨rfl, (by decide)⟩⟩ ?_
        rw [zb_f (p := kSameS h a b) (fun q => ?_)] at hq
        · exact hq
        · have := q.2 i (by omega) (by omega)
          omega
      · (try simp (disch := omega) only [zb_e0, zb_n0, w32_id, w64_id, ne_eq, Classical.not_not] at c_39)
        refine x_aload_n (pc := 42) dX3_hasSameStepsAs_42 rfl ?_
        refine x_getF (pc := 43) dX3_hasSameStepsAs_43 f_RX3_15 (by assumption) (by rfl) ?_
        refine x_iload_n (pc := 46) dX3_hasSameStepsAs_46 rfl ?_
        refine x_callS2 (pc := 47) dX3_hasSameStepsAs_47 (k_RX3_67 _ rfl) tms_X6_cell rfl rfl ?_
        refine c_cellIn (N := 10) (by omega) (by omega) (by assumption) (by decide) (by omega) (fun bb => ?_)
        dsimp only [Option.toList, List.cons_append, List.nil_append]
        refine x_aload_n (pc := 50) dX3_hasSameStepsAs_50 rfl ?_
        refine x_getF (pc := 51) dX3_hasSameStepsAs_51 f_RX3_15 (by assumption) (by rfl) ?_
        refine x_iload_n (pc := 54) dX3_hasSameStepsAs_54 rfl ?_
        refine x_callS2 (pc := 55) dX3_hasSameStepsAs_55 (k_RX3_67 _ rfl) tms_X6_cell rfl rfl ?_
        refine c_cellIn (N := 10) (by omega) (by omega) (by assumption) (by decide) (by omega) (fun bb => ?_)
        dsimp only [Option.toList, List.cons_append, List.nil_append]
        refine x_icmp_eq (pc := 58) 63 dX3_hasSameStepsAs_58 rfl (fun c_58 => ?_) (fun c_58 => ?_)
        · (try simp (disch := omega) only [zb_e0, zb_n0, w32_id, w64_id, ne_eq, Classical.not_not] at c_58)
          refine x_iinc (pc := 63) dX3_hasSameStepsAs_63 rfl (by decide) ?_
          refine x_goto (pc := 66) 15 dX3_hasSameStepsAs_66 rfl ?_
          refine x_loc _ (by exact ⟨rfl, rfl, rfl, trivial⟩) (ih (i + 1) (by omega) (fun u hu1 hu2 => ?_) (by omega))
          by_cases e : u = i
          · subst e
            exact ⟨c_39, c_58⟩
          · exact h2 u hu1 (by omega)
        · (try simp (disch := omega) only [zb_e0, zb_n0, w32_id, w64_id, ne_eq, Classical.not_not] at c_58)
          refine x_iconst (pc := 61) dX3_hasSameStepsAs_61 ?_
          refine x_retv (pc := 62) ⟨dX3_hasSameStepsAs_62, Or.inr ⟨rfl, (by decide)⟩⟩ ?_
          rw [zb_f (p := kSameS h a b) (fun q => ?_)] at hq
          · exact hq
          · have := q.2 i (by omega) (by omega)
            omega

set_option maxHeartbeats 4000000 in
set_option maxRecDepth 100000 in
theorem c_k_sameS {a b : Int} (hK : isKT ty a) (hL : isKT ty b) (hs : 0 ≤ h a 1 ∧ h a 1 ≤ 10) (hq : Q (some (iV (zb (kSameS h a b)))) ty sz h) : zXM D mX3_hasSameStepsAs (d + 1) 0 0 [rV a, rV b] ty sz h Q := by
  have hK0 := hK
  have hL0 := hL
  obtain ⟨k9, k0, k1, k2, k3, k4, k5⟩ := hK
  obtain ⟨l9, l0, l1, l2, l3, l4, l5⟩ := hL
  refine x_aload_n (pc := 0) dX3_hasSameStepsAs_0 rfl ?_
  refine y_getI 1 (pc := 1) dX3_hasSameStepsAs_1 f_RX3_31 (by assumption) rfl (fun b_1 => ?_)
  refine x_aload_n (pc := 4) dX3_hasSameStepsAs_4 rfl ?_
  refine y_getI 1 (pc := 5) dX3_hasSameStepsAs_5 f_RX3_31 (by assumption) rfl (fun b_5 => ?_)
  refine x_icmp_eq (pc := 8) 13 dX3_hasSameStepsAs_8 rfl (fun c_8 => ?_) (fun c_8 => ?_)
  · (try simp (disch := omega) only [zb_e0, zb_n0, w32_id, w64_id, ne_eq, Classical.not_not] at c_8)
    refine x_iconst (pc := 13) dX3_hasSameStepsAs_13 ?_
    refine x_istore_n (pc := 14) dX3_hasSameStepsAs_14 (by decide) ?_
    exact x_loc _ (by exact ⟨rfl, rfl, rfl, trivial⟩) (c_k_sS_l hK0 hL0 hs c_8 hq 11 0 (by omega) (fun u h1 h2 => by omega) (by omega))
  · (try simp (disch := omega) only [zb_e0, zb_n0, w32_id, w64_id, ne_eq, Classical.not_not] at c_8)
    refine x_iconst (pc := 11) dX3_hasSameStepsAs_11 ?_
    refine x_retv (pc := 12) ⟨dX3_hasSameStepsAs_12, Or.inr ⟨rfl, (by decide)⟩⟩ ?_
    rw [zb_f (p := kSameS h a b) (fun q => c_8 q.1)] at hq
    exact hq

set_option maxHeartbeats 4000000 in
set_option maxRecDepth 100000 in
theorem c_k_sN_l {a b : Int} (hK : isKT ty a) (hL : isKT ty b) (hq : Q (some (iV (zb (kSameN h a b)))) ty sz h) : ∀ (n : Nat) (i : Int), 0 ≤ i ∧ i ≤ 10 → (∀ u, 0 ≤ u → u < i → h (a + 3) u = h (b + 3) u ∧ h (a + 4) u = h (b + 4) u ∧ h (a + 5) u = h (b + 5) u) → 10 - i < n → zX D mX3_hasSameNamesAs (d + 1) 0 0 2 [(2, iV i), (0, rV a), (1, rV b)] [] ty sz h Q := by
  intro n
  induction n with
  | zero =>
    intro i h1 h2 hm
    exfalso
    omega
  | succ n ih =>
    intro i h1 h2 hm
    obtain ⟨k9, k0, k1, k2, k3, k4, k5⟩ := hK
    obtain ⟨l9, l0, l1, l2, l3, l4, l5⟩ := hL
    refine x_iload_n (pc := 2) dX3_hasSameNamesAs_2 rfl ?_
    refine x_bipush (pc := 3) dX3_hasSameNamesAs_3 (by decide) ?_
    refine x_icmp_ge (pc := 5) 73 dX3_hasSameNamesAs_5 rfl (fun c_5 => ?_) (fun c_5 => ?_)
    · (try simp (disch := omega) only [zb_e0, zb_n0, w32_id, w64_id, ne_eq, Classical.not_not] at c_5)
      refine x_iconst (pc := 73) dX3_hasSameNamesAs_73 ?_
      refine x_retv (pc := 74) ⟨dX3_hasSameNamesAs_74, Or.inr ⟨rfl, (by decide)⟩⟩ ?_
      first
        | (rw [zb_t (p := kSameN h a b) (fun u hu1 hu2 => h2 u hu1 (by omega))] at hq; exact hq)
        | (rw [zb_f (p := kSameN h a b) (fun q => by have := q i (by omega) (by omega); omega)] at hq; exact hq)
    · (try simp (disch := omega) only [zb_e0, zb_n0, w32_id, w64_id, ne_eq, Classical.not_not] at c_5)
      refine x_aload_n (pc := 8) dX3_hasSameNamesAs_8 rfl ?_
      refine x_getF (pc := 9) dX3_hasSameNamesAs_9 f_RX3_18 (by assumption) (by rfl) ?_
      refine x_iload_n (pc := 12) dX3_hasSameNamesAs_12 rfl ?_
      refine x_callS2 (pc := 13) dX3_hasSameNamesAs_13 (k_RX3_67 _ rfl) tms_X6_cell rfl rfl ?_
      refine c_cellIn (N := 10) (by omega) (by omega) (by assumption) (by decide) (by omega) (fun bb => ?_)
      dsimp only [Option.toList, List.cons_append, List.nil_append]
      refine x_aload_n (pc := 16) dX3_hasSameNamesAs_16 rfl ?_
      refine x_getF (pc := 17) dX3_hasSameNamesAs_17 f_RX3_18 (by assumption) (by rfl) ?_
      refine x_iload_n (pc := 20) dX3_hasSameNamesAs_20 rfl ?_
      refine x_callS2 (pc := 21) dX3_hasSameNamesAs_21 (k_RX3_67 _ rfl) tms_X6_cell rfl rfl ?_
      refine c_cellIn (N := 10) (by omega) (by omega) (by assumption) (by decide) (by omega) (fun bb => ?_)
      dsimp only [Option.toList, List.cons_append, List.nil_append]
      refine x_icmp_ne (pc := 24) 65 dX3_hasSameNamesAs_24 rfl (fun c_24 => ?_) (fun c_24 => ?_)
      · (try simp (disch := omega) only [zb_e0, zb_n0, w32_id, w64_id, ne_eq, Classical.not_not] at c_24)
        refine x_iconst (pc := 65) dX3_hasSameNamesAs_65 ?_
        refine x_retv (pc := 66) ⟨dX3_hasSameNamesAs_66, Or.inr ⟨rfl, (by decide)⟩⟩ ?_
        first
          | (rw [zb_t (p := kSameN h a b) (fun u hu1 hu2 => h2 u hu1 (by omega))] at hq; exact hq)
          | (rw [zb_f (p := kSameN h a b) (fun q => by have := q i (by omega) (by omega); omega)] at hq; exact hq)
      · (try simp (disch := omega) only [zb_e0, zb_n0, w32_id, w64_id, ne_eq, Classical.not_not] at c_24)
        refine x_aload_n (pc := 27) dX3_hasSameNamesAs_27 rfl ?_
        refine x_getF (pc := 28) dX3_hasSameNamesAs_28 f_RX3_21 (by assumption) (by rfl) ?_
        refine x_iload_n (pc := 31) dX3_hasSameNamesAs_31 rfl ?_
        refine x_callS2 (pc := 32) dX3_hasSameNamesAs_32 (k_RX3_67 _ rfl) tms_X6_cell rfl rfl ?_
        refine c_cellIn (N := 10) (by omega) (by omega) (by assumption) (by decide) (by omega) (fun bb => ?_)
        dsimp only [Option.toList, List.cons_append, List.nil_append]
        refine x_aload_n (pc := 35) dX3_hasSameNamesAs_35 rfl ?_
        refine x_getF (pc := 36) dX3_hasSameNamesAs_36 f_RX3_21 (by assumption) (by rfl) ?_
        refine x_iload_n (pc := 39) dX3_hasSameNamesAs_39 rfl ?_
        refine x_callS2 (pc := 40) dX3_hasSameNamesAs_40 (k_RX3_67 _ rfl) tms_X6_cell rfl rfl ?_
        refine c_cellIn (N := 10) (by omega) (by omega) (by assumption) (by decide) (by omega) (fun bb => ?_)
        dsimp only [Option.toList, List.cons_append, List.nil_append]
        refine x_icmp_ne (pc := 43) 65 dX3_hasSameNamesAs_43 rfl (fun c_43 => ?_) (fun c_43 => ?_)
        · (try simp (disch := omega) only [zb_e0, zb_n0, w32_id, w64_id, ne_eq, Classical.not_not] at c_43)
          refine x_iconst (pc := 65) dX3_hasSameNamesAs_65 ?_
          refine x_retv (pc := 66) ⟨dX3_hasSameNamesAs_66, Or.inr ⟨rfl, (by decide)⟩⟩ ?_
          first
            | (rw [zb_t (p := kSameN h a b) (fun u hu1 hu2 => h2 u hu1 (by omega))] at hq; exact hq)
            | (rw [zb_f (p := kSameN h a b) (fun q => by have := q i (by omega) (by omega); omega)] at hq; exact hq)
        · (try simp (disch := omega) only [zb_e0, zb_n0, w32_id, w64_id, ne_eq, Classical.not_not] at c_43)
          refine x_aload_n (pc := 46) dX3_hasSameNamesAs_46 rfl ?_
          refine x_getF (pc := 47) dX3_hasSameNamesAs_47 f_RX3_24 (by assumption) (by rfl) ?_
          refine x_iload_n (pc := 50) dX3_hasSameNamesAs_50 rfl ?_
          refine x_callS2 (pc := 51) dX3_hasSameNamesAs_51 (k_RX3_67 _ rfl) tms_X6_cell rfl rfl ?_
          refine c_cellIn (N := 10) (by omega) (by omega) (by assumption) (by decide) (by omega) (fun bb => ?_)
          dsimp only [Option.toList, List.cons_append, List.nil_append]
          refine x_aload_n (pc := 54) dX3_hasSameNamesAs_54 rfl ?_
          refine x_getF (pc := 55) dX3_hasSameNamesAs_55 f_RX3_24 (by assumption) (by rfl) ?_
          refine x_iload_n (pc := 58) dX3_hasSameNamesAs_58 rfl ?_
          refine x_callS2 (pc := 59) dX3_hasSameNamesAs_59 (k_RX3_67 _ rfl) tms_X6_cell rfl rfl ?_
          refine c_cellIn (N := 10) (by omega) (by omega) (by assumption) (by decide) (by omega) (fun bb => ?_)
          dsimp only [Option.toList, List.cons_append, List.nil_append]
          refine x_icmp_eq (pc := 62) 67 dX3_hasSameNamesAs_62 rfl (fun c_62 => ?_) (fun c_62 => ?_)
          · (try simp (disch := omega) only [zb_e0, zb_n0, w32_id, w64_id, ne_eq, Classical.not_not] at c_62)
            refine x_iinc (pc := 67) dX3_hasSameNamesAs_67 rfl (by decide) ?_
            refine x_goto (pc := 70) 2 dX3_hasSameNamesAs_70 rfl ?_
            refine x_loc _ (by exact ⟨rfl, rfl, rfl, trivial⟩) (ih (i + 1) (by omega) (fun u hu1 hu2 => ?_) (by omega))
            by_cases e : u = i
            · subst e
              refine ⟨?_, ?_, ?_⟩ <;> assumption
            · exact h2 u hu1 (by omega)
          · (try simp (disch := omega) only [zb_e0, zb_n0, w32_id, w64_id, ne_eq, Classical.not_not] at c_62)
            refine x_iconst (pc := 65) dX3_hasSameNamesAs_65 ?_
            refine x_retv (pc := 66) ⟨dX3_hasSameNamesAs_66, Or.inr ⟨rfl, (by decide)⟩⟩ ?_
            first
              | (rw [zb_t (p := kSameN h a b) (fun u hu1 hu2 => h2 u hu1 (by omega))] at hq; exact hq)
              | (rw [zb_f (p := kSameN h a b) (fun q => by have := q i (by omega) (by omega); omega)] at hq; exact hq)

set_option maxHeartbeats 4000000 in
set_option maxRecDepth 100000 in
theorem c_k_sameN {a b : Int} (hK : isKT ty a) (hL : isKT ty b) (hq : Q (some (iV (zb (kSameN h a b)))) ty sz h) : zXM D mX3_hasSameNamesAs (d + 1) 0 0 [rV a, rV b] ty sz h Q := by
  refine x_iconst (pc := 0) dX3_hasSameNamesAs_0 ?_
  refine x_istore_n (pc := 1) dX3_hasSameNamesAs_1 (by decide) ?_
  exact x_loc _ (by exact ⟨rfl, rfl, rfl, trivial⟩) (c_k_sN_l hK hL hq 11 0 (by omega) (fun u h1 h2 => by omega) (by omega))

set_option maxHeartbeats 4000000 in
set_option maxRecDepth 100000 in
theorem c_k_sameL {a b : Int} (hK : isKT ty a) (hL : isKT ty b) (hq : Q (some (iV (zb (kSameL h a b)))) ty sz h) : zXM D mX3_hasSameLimitsAs d 0 0 [rV a, rV b] ty sz h Q := by
  obtain ⟨k9, k0, k1, k2, k3, k4, k5⟩ := hK
  obtain ⟨l9, l0, l1, l2, l3, l4, l5⟩ := hL
  refine x_aload_n (pc := 0) dX3_hasSameLimitsAs_0 rfl ?_
  refine y_getI 8 (pc := 1) dX3_hasSameLimitsAs_1 f_RX3_42 (by assumption) rfl (fun b_1 => ?_)
  refine x_aload_n (pc := 4) dX3_hasSameLimitsAs_4 rfl ?_
  refine y_getI 8 (pc := 5) dX3_hasSameLimitsAs_5 f_RX3_42 (by assumption) rfl (fun b_5 => ?_)
  refine x_icmp_ne (pc := 8) 81 dX3_hasSameLimitsAs_8 rfl (fun c_8 => ?_) (fun c_8 => ?_)
  · (try simp (disch := omega) only [zb_e0, zb_n0, w32_id, w64_id, ne_eq, Classical.not_not] at c_8)
    refine x_iconst (pc := 81) dX3_hasSameLimitsAs_81 ?_
    refine x_retv (pc := 82) ⟨dX3_hasSameLimitsAs_82, Or.inr ⟨rfl, (by decide)⟩⟩ ?_
    first
      | (rw [zb_t (p := kSameL h a b) ⟨by assumption, by assumption, by assumption, by assumption, by assumption, by assumption, by assumption⟩] at hq; exact hq)
      | (rw [zb_f (p := kSameL h a b) (fun q => by unfold kSameL at q; omega)] at hq; exact hq)
  · (try simp (disch := omega) only [zb_e0, zb_n0, w32_id, w64_id, ne_eq, Classical.not_not] at c_8)
    refine x_aload_n (pc := 11) dX3_hasSameLimitsAs_11 rfl ?_
    refine y_getI 9 (pc := 12) dX3_hasSameLimitsAs_12 f_RX3_45 (by assumption) rfl (fun b_12 => ?_)
    refine x_aload_n (pc := 15) dX3_hasSameLimitsAs_15 rfl ?_
    refine y_getI 9 (pc := 16) dX3_hasSameLimitsAs_16 f_RX3_45 (by assumption) rfl (fun b_16 => ?_)
    refine x_icmp_ne (pc := 19) 81 dX3_hasSameLimitsAs_19 rfl (fun c_19 => ?_) (fun c_19 => ?_)
    · (try simp (disch := omega) only [zb_e0, zb_n0, w32_id, w64_id, ne_eq, Classical.not_not] at c_19)
      refine x_iconst (pc := 81) dX3_hasSameLimitsAs_81 ?_
      refine x_retv (pc := 82) ⟨dX3_hasSameLimitsAs_82, Or.inr ⟨rfl, (by decide)⟩⟩ ?_
      first
        | (rw [zb_t (p := kSameL h a b) ⟨by assumption, by assumption, by assumption, by assumption, by assumption, by assumption, by assumption⟩] at hq; exact hq)
        | (rw [zb_f (p := kSameL h a b) (fun q => by unfold kSameL at q; omega)] at hq; exact hq)
    · (try simp (disch := omega) only [zb_e0, zb_n0, w32_id, w64_id, ne_eq, Classical.not_not] at c_19)
      refine x_aload_n (pc := 22) dX3_hasSameLimitsAs_22 rfl ?_
      refine y_getI 10 (pc := 23) dX3_hasSameLimitsAs_23 f_RX3_48 (by assumption) rfl (fun b_23 => ?_)
      refine x_aload_n (pc := 26) dX3_hasSameLimitsAs_26 rfl ?_
      refine y_getI 10 (pc := 27) dX3_hasSameLimitsAs_27 f_RX3_48 (by assumption) rfl (fun b_27 => ?_)
      refine x_icmp_ne (pc := 30) 81 dX3_hasSameLimitsAs_30 rfl (fun c_30 => ?_) (fun c_30 => ?_)
      · (try simp (disch := omega) only [zb_e0, zb_n0, w32_id, w64_id, ne_eq, Classical.not_not] at c_30)
        refine x_iconst (pc := 81) dX3_hasSameLimitsAs_81 ?_
        refine x_retv (pc := 82) ⟨dX3_hasSameLimitsAs_82, Or.inr ⟨rfl, (by decide)⟩⟩ ?_
        first
          | (rw [zb_t (p := kSameL h a b) ⟨by assumption, by assumption, by assumption, by assumption, by assumption, by assumption, by assumption⟩] at hq; exact hq)
          | (rw [zb_f (p := kSameL h a b) (fun q => by unfold kSameL at q; omega)] at hq; exact hq)
      · (try simp (disch := omega) only [zb_e0, zb_n0, w32_id, w64_id, ne_eq, Classical.not_not] at c_30)
        refine x_aload_n (pc := 33) dX3_hasSameLimitsAs_33 rfl ?_
        refine y_getI 11 (pc := 34) dX3_hasSameLimitsAs_34 f_RX3_51 (by assumption) rfl (fun b_34 => ?_)
        refine x_aload_n (pc := 37) dX3_hasSameLimitsAs_37 rfl ?_
        refine y_getI 11 (pc := 38) dX3_hasSameLimitsAs_38 f_RX3_51 (by assumption) rfl (fun b_38 => ?_)
        refine x_icmp_ne (pc := 41) 81 dX3_hasSameLimitsAs_41 rfl (fun c_41 => ?_) (fun c_41 => ?_)
        · (try simp (disch := omega) only [zb_e0, zb_n0, w32_id, w64_id, ne_eq, Classical.not_not] at c_41)
          refine x_iconst (pc := 81) dX3_hasSameLimitsAs_81 ?_
          refine x_retv (pc := 82) ⟨dX3_hasSameLimitsAs_82, Or.inr ⟨rfl, (by decide)⟩⟩ ?_
          first
            | (rw [zb_t (p := kSameL h a b) ⟨by assumption, by assumption, by assumption, by assumption, by assumption, by assumption, by assumption⟩] at hq; exact hq)
            | (rw [zb_f (p := kSameL h a b) (fun q => by unfold kSameL at q; omega)] at hq; exact hq)
        · (try simp (disch := omega) only [zb_e0, zb_n0, w32_id, w64_id, ne_eq, Classical.not_not] at c_41)
          refine x_aload_n (pc := 44) dX3_hasSameLimitsAs_44 rfl ?_
          refine y_getI 12 (pc := 45) dX3_hasSameLimitsAs_45 f_RX3_54 (by assumption) rfl (fun b_45 => ?_)
          refine x_aload_n (pc := 48) dX3_hasSameLimitsAs_48 rfl ?_
          refine y_getI 12 (pc := 49) dX3_hasSameLimitsAs_49 f_RX3_54 (by assumption) rfl (fun b_49 => ?_)
          refine x_icmp_ne (pc := 52) 81 dX3_hasSameLimitsAs_52 rfl (fun c_52 => ?_) (fun c_52 => ?_)
          · (try simp (disch := omega) only [zb_e0, zb_n0, w32_id, w64_id, ne_eq, Classical.not_not] at c_52)
            refine x_iconst (pc := 81) dX3_hasSameLimitsAs_81 ?_
            refine x_retv (pc := 82) ⟨dX3_hasSameLimitsAs_82, Or.inr ⟨rfl, (by decide)⟩⟩ ?_
            first
              | (rw [zb_t (p := kSameL h a b) ⟨by assumption, by assumption, by assumption, by assumption, by assumption, by assumption, by assumption⟩] at hq; exact hq)
              | (rw [zb_f (p := kSameL h a b) (fun q => by unfold kSameL at q; omega)] at hq; exact hq)
          · (try simp (disch := omega) only [zb_e0, zb_n0, w32_id, w64_id, ne_eq, Classical.not_not] at c_52)
            refine x_aload_n (pc := 55) dX3_hasSameLimitsAs_55 rfl ?_
            refine y_getI 13 (pc := 56) dX3_hasSameLimitsAs_56 f_RX3_57 (by assumption) rfl (fun b_56 => ?_)
            refine x_aload_n (pc := 59) dX3_hasSameLimitsAs_59 rfl ?_
            refine y_getI 13 (pc := 60) dX3_hasSameLimitsAs_60 f_RX3_57 (by assumption) rfl (fun b_60 => ?_)
            refine x_icmp_ne (pc := 63) 81 dX3_hasSameLimitsAs_63 rfl (fun c_63 => ?_) (fun c_63 => ?_)
            · (try simp (disch := omega) only [zb_e0, zb_n0, w32_id, w64_id, ne_eq, Classical.not_not] at c_63)
              refine x_iconst (pc := 81) dX3_hasSameLimitsAs_81 ?_
              refine x_retv (pc := 82) ⟨dX3_hasSameLimitsAs_82, Or.inr ⟨rfl, (by decide)⟩⟩ ?_
              first
                | (rw [zb_t (p := kSameL h a b) ⟨by assumption, by assumption, by assumption, by assumption, by assumption, by assumption, by assumption⟩] at hq; exact hq)
                | (rw [zb_f (p := kSameL h a b) (fun q => by unfold kSameL at q; omega)] at hq; exact hq)
            · (try simp (disch := omega) only [zb_e0, zb_n0, w32_id, w64_id, ne_eq, Classical.not_not] at c_63)
              refine x_aload_n (pc := 66) dX3_hasSameLimitsAs_66 rfl ?_
              refine y_getI 14 (pc := 67) dX3_hasSameLimitsAs_67 f_RX3_60 (by assumption) rfl (fun b_67 => ?_)
              refine x_aload_n (pc := 70) dX3_hasSameLimitsAs_70 rfl ?_
              refine y_getI 14 (pc := 71) dX3_hasSameLimitsAs_71 f_RX3_60 (by assumption) rfl (fun b_71 => ?_)
              refine x_icmp_ne (pc := 74) 81 dX3_hasSameLimitsAs_74 rfl (fun c_74 => ?_) (fun c_74 => ?_)
              · (try simp (disch := omega) only [zb_e0, zb_n0, w32_id, w64_id, ne_eq, Classical.not_not] at c_74)
                refine x_iconst (pc := 81) dX3_hasSameLimitsAs_81 ?_
                refine x_retv (pc := 82) ⟨dX3_hasSameLimitsAs_82, Or.inr ⟨rfl, (by decide)⟩⟩ ?_
                first
                  | (rw [zb_t (p := kSameL h a b) ⟨by assumption, by assumption, by assumption, by assumption, by assumption, by assumption, by assumption⟩] at hq; exact hq)
                  | (rw [zb_f (p := kSameL h a b) (fun q => by unfold kSameL at q; omega)] at hq; exact hq)
              · (try simp (disch := omega) only [zb_e0, zb_n0, w32_id, w64_id, ne_eq, Classical.not_not] at c_74)
                refine x_iconst (pc := 77) dX3_hasSameLimitsAs_77 ?_
                refine x_goto (pc := 78) 82 dX3_hasSameLimitsAs_78 rfl ?_
                refine x_retv (pc := 82) ⟨dX3_hasSameLimitsAs_82, Or.inr ⟨rfl, (by decide)⟩⟩ ?_
                first
                  | (rw [zb_t (p := kSameL h a b) ⟨by assumption, by assumption, by assumption, by assumption, by assumption, by assumption, by assumption⟩] at hq; exact hq)
                  | (rw [zb_f (p := kSameL h a b) (fun q => by unfold kSameL at q; omega)] at hq; exact hq)

end C3
end
section
section C4
variable {D : va_G} {M : zM} {d k n : Nat} {L : List (Nat × zV)} {st : List zV} {ty : zT} {sz : Nat} {h : zH} {Q : zQ}
theorem sw_X0_tell_15 {a : Int} (k0 : w32 a = 0 → zX D mX0_tell d k n 40 L st ty sz h Q) (k1 : w32 a = 1 → zX D mX0_tell d k n 49 L st ty sz h Q) (k2 : w32 a = 2 → zX D mX0_tell d k n 58 L st ty sz h Q) (kd : (w32 a ≠ 0 ∧ w32 a ≠ 1 ∧ w32 a ≠ 2) → zX D mX0_tell d k n 67 L st ty sz h Q) : zX D mX0_tell d k n 15 L (iV a :: st) ty sz h Q := by
  by_cases h0 : w32 a = 0
  · exact x_tswIn 40 dX0_tell_15 (by omega) (by omega) (by rw [h0]; rfl) rfl (k0 h0)
  by_cases h1 : w32 a = 1
  · exact x_tswIn 49 dX0_tell_15 (by omega) (by omega) (by rw [h1]; rfl) rfl (k1 h1)
  by_cases h2 : w32 a = 2
  · exact x_tswIn 58 dX0_tell_15 (by omega) (by omega) (by rw [h2]; rfl) rfl (k2 h2)
  exact x_tswOut 67 dX0_tell_15 (by omega) rfl (kd (by omega))

theorem sw_X5_numbersOf_1 {a : Int} (k0 : w32 a = 68 → zX D mX5_numbersOf d k n 46 L st ty sz h Q) (k1 : w32 a = 75 → zX D mX5_numbersOf d k n 44 L st ty sz h Q) (k2 : w32 a = 77 → zX D mX5_numbersOf d k n 44 L st ty sz h Q) (k3 : w32 a = 82 → zX D mX5_numbersOf d k n 44 L st ty sz h Q) (kd : (w32 a ≠ 68 ∧ w32 a ≠ 75 ∧ w32 a ≠ 77 ∧ w32 a ≠ 82) → zX D mX5_numbersOf d k n 48 L st ty sz h Q) : zX D mX5_numbersOf d k n 1 L (iV a :: st) ty sz h Q := by
  by_cases h0 : w32 a = 68
  · exact x_lsw 46 dX5_numbersOf_1 (by decide) (by rw [h0] <;> rfl) rfl (k0 h0)
  by_cases h1 : w32 a = 75
  · exact x_lsw 44 dX5_numbersOf_1 (by decide) (by rw [h1] <;> rfl) rfl (k1 h1)
  by_cases h2 : w32 a = 77
  · exact x_lsw 44 dX5_numbersOf_1 (by decide) (by rw [h2] <;> rfl) rfl (k2 h2)
  by_cases h3 : w32 a = 82
  · exact x_lsw 44 dX5_numbersOf_1 (by decide) (by rw [h3] <;> rfl) rfl (k3 h3)
  have f0 : ¬ (68 : Int) = w32 a := fun q => h0 q.symm
  have f1 : ¬ (75 : Int) = w32 a := fun q => h1 q.symm
  have f2 : ¬ (77 : Int) = w32 a := fun q => h2 q.symm
  have f3 : ¬ (82 : Int) = w32 a := fun q => h3 q.symm
  exact x_lsw (off := 47) 48 dX5_numbersOf_1 (by decide) (by simp [Op.lookupswitch.offset, f0, f1, f2, f3]) rfl (kd ⟨h0, h1, h2, h3⟩)

theorem sw_X5_mayBegin_20 {a : Int} (k0 : w32 a = 68 → zX D mX5_mayBegin d k n 182 L st ty sz h Q) (k1 : w32 a = 69 → zX D mX5_mayBegin d k n 164 L st ty sz h Q) (k2 : w32 a = 70 → zX D mX5_mayBegin d k n 216 L st ty sz h Q) (k3 : w32 a = 75 → zX D mX5_mayBegin d k n 128 L st ty sz h Q) (k4 : w32 a = 77 → zX D mX5_mayBegin d k n 199 L st ty sz h Q) (k5 : w32 a = 82 → zX D mX5_mayBegin d k n 233 L st ty sz h Q) (k6 : w32 a = 83 → zX D mX5_mayBegin d k n 144 L st ty sz h Q) (k7 : w32 a = 88 → zX D mX5_mayBegin d k n 162 L st ty sz h Q) (k8 : w32 a = 90 → zX D mX5_mayBegin d k n 162 L st ty sz h Q) (kd : (w32 a ≠ 68 ∧ w32 a ≠ 69 ∧ w32 a ≠ 70 ∧ w32 a ≠ 75 ∧ w32 a ≠ 77 ∧ w32 a ≠ 82 ∧ w32 a ≠ 83 ∧ w32 a ≠ 88 ∧ w32 a ≠ 90) → zX D mX5_mayBegin d k n 250 L st ty sz h Q) : zX D mX5_mayBegin d k n 20 L (iV a :: st) ty sz h Q := by
  by_cases h0 : w32 a = 68
  · exact x_tswIn 182 dX5_mayBegin_20 (by omega) (by omega) (by rw [h0]; rfl) rfl (k0 h0)
  by_cases h1 : w32 a = 69
  · exact x_tswIn 164 dX5_mayBegin_20 (by omega) (by omega) (by rw [h1]; rfl) rfl (k1 h1)
  by_cases h2 : w32 a = 70
  · exact x_tswIn 216 dX5_mayBegin_20 (by omega) (by omega) (by rw [h2]; rfl) rfl (k2 h2)
  by_cases h3 : w32 a = 75
  · exact x_tswIn 128 dX5_mayBegin_20 (by omega) (by omega) (by rw [h3]; rfl) rfl (k3 h3)
  by_cases h4 : w32 a = 77
  · exact x_tswIn 199 dX5_mayBegin_20 (by omega) (by omega) (by rw [h4]; rfl) rfl (k4 h4)
  by_cases h5 : w32 a = 82
  · exact x_tswIn 233 dX5_mayBegin_20 (by omega) (by omega) (by rw [h5]; rfl) rfl (k5 h5)
  by_cases h6 : w32 a = 83
  · exact x_tswIn 144 dX5_mayBegin_20 (by omega) (by omega) (by rw [h6]; rfl) rfl (k6 h6)
  by_cases h7 : w32 a = 88
  · exact x_tswIn 162 dX5_mayBegin_20 (by omega) (by omega) (by rw [h7]; rfl) rfl (k7 h7)
  by_cases h8 : w32 a = 90
  · exact x_tswIn 162 dX5_mayBegin_20 (by omega) (by omega) (by rw [h8]; rfl) rfl (k8 h8)
  by_cases g3 : w32 a = 71
  · exact x_tswIn 250 dX5_mayBegin_20 (by omega) (by omega) (by rw [g3]; rfl) rfl (kd (by omega))
  by_cases g4 : w32 a = 72
  · exact x_tswIn 250 dX5_mayBegin_20 (by omega) (by omega) (by rw [g4]; rfl) rfl (kd (by omega))
  by_cases g5 : w32 a = 73
  · exact x_tswIn 250 dX5_mayBegin_20 (by omega) (by omega) (by rw [g5]; rfl) rfl (kd (by omega))
  by_cases g6 : w32 a = 74
  · exact x_tswIn 250 dX5_mayBegin_20 (by omega) (by omega) (by rw [g6]; rfl) rfl (kd (by omega))
  by_cases g8 : w32 a = 76
  · exact x_tswIn 250 dX5_mayBegin_20 (by omega) (by omega) (by rw [g8]; rfl) rfl (kd (by omega))
  by_cases g10 : w32 a = 78
  · exact x_tswIn 250 dX5_mayBegin_20 (by omega) (by omega) (by rw [g10]; rfl) rfl (kd (by omega))
  by_cases g11 : w32 a = 79
  · exact x_tswIn 250 dX5_mayBegin_20 (by omega) (by omega) (by rw [g11]; rfl) rfl (kd (by omega))
  by_cases g12 : w32 a = 80
  · exact x_tswIn 250 dX5_mayBegin_20 (by omega) (by omega) (by rw [g12]; rfl) rfl (kd (by omega))
  by_cases g13 : w32 a = 81
  · exact x_tswIn 250 dX5_mayBegin_20 (by omega) (by omega) (by rw [g13]; rfl) rfl (kd (by omega))
  by_cases g16 : w32 a = 84
  · exact x_tswIn 250 dX5_mayBegin_20 (by omega) (by omega) (by rw [g16]; rfl) rfl (kd (by omega))
  by_cases g17 : w32 a = 85
  · exact x_tswIn 250 dX5_mayBegin_20 (by omega) (by omega) (by rw [g17]; rfl) rfl (kd (by omega))
  by_cases g18 : w32 a = 86
  · exact x_tswIn 250 dX5_mayBegin_20 (by omega) (by omega) (by rw [g18]; rfl) rfl (kd (by omega))
  by_cases g19 : w32 a = 87
  · exact x_tswIn 250 dX5_mayBegin_20 (by omega) (by omega) (by rw [g19]; rfl) rfl (kd (by omega))
  by_cases g21 : w32 a = 89
  · exact x_tswIn 250 dX5_mayBegin_20 (by omega) (by omega) (by rw [g21]; rfl) rfl (kd (by omega))
  exact x_tswOut 250 dX5_mayBegin_20 (by omega) rfl (kd (by omega))

theorem sw_X5_isAsSaid_40 {a : Int} (k0 : w32 a = 69 → zX D mX5_isAsSaid d k n 200 L st ty sz h Q) (k1 : w32 a = 70 → zX D mX5_isAsSaid d k n 207 L st ty sz h Q) (k2 : w32 a = 82 → zX D mX5_isAsSaid d k n 229 L st ty sz h Q) (k3 : w32 a = 83 → zX D mX5_isAsSaid d k n 100 L st ty sz h Q) (k4 : w32 a = 88 → zX D mX5_isAsSaid d k n 168 L st ty sz h Q) (k5 : w32 a = 90 → zX D mX5_isAsSaid d k n 121 L st ty sz h Q) (kd : (w32 a ≠ 69 ∧ w32 a ≠ 70 ∧ w32 a ≠ 82 ∧ w32 a ≠ 83 ∧ w32 a ≠ 88 ∧ w32 a ≠ 90) → zX D mX5_isAsSaid d k n 238 L st ty sz h Q) : zX D mX5_isAsSaid d k n 40 L (iV a :: st) ty sz h Q := by
  by_cases h0 : w32 a = 69
  · exact x_lsw 200 dX5_isAsSaid_40 (by decide) (by rw [h0] <;> rfl) rfl (k0 h0)
  by_cases h1 : w32 a = 70
  · exact x_lsw 207 dX5_isAsSaid_40 (by decide) (by rw [h1] <;> rfl) rfl (k1 h1)
  by_cases h2 : w32 a = 82
  · exact x_lsw 229 dX5_isAsSaid_40 (by decide) (by rw [h2] <;> rfl) rfl (k2 h2)
  by_cases h3 : w32 a = 83
  · exact x_lsw 100 dX5_isAsSaid_40 (by decide) (by rw [h3] <;> rfl) rfl (k3 h3)
  by_cases h4 : w32 a = 88
  · exact x_lsw 168 dX5_isAsSaid_40 (by decide) (by rw [h4] <;> rfl) rfl (k4 h4)
  by_cases h5 : w32 a = 90
  · exact x_lsw 121 dX5_isAsSaid_40 (by decide) (by rw [h5] <;> rfl) rfl (k5 h5)
  have f0 : ¬ (69 : Int) = w32 a := fun q => h0 q.symm
  have f1 : ¬ (70 : Int) = w32 a := fun q => h1 q.symm
  have f2 : ¬ (82 : Int) = w32 a := fun q => h2 q.symm
  have f3 : ¬ (83 : Int) = w32 a := fun q => h3 q.symm
  have f4 : ¬ (88 : Int) = w32 a := fun q => h4 q.symm
  have f5 : ¬ (90 : Int) = w32 a := fun q => h5 q.symm
  exact x_lsw (off := 198) 238 dX5_isAsSaid_40 (by decide) (by simp [Op.lookupswitch.offset, f0, f1, f2, f3, f4, f5]) rfl (kd ⟨h0, h1, h2, h3, h4, h5⟩)

theorem sw_X5_takeOf_1 {a : Int} (k0 : w32 a = 68 → zX D mX5_takeOf d k n 154 L st ty sz h Q) (k1 : w32 a = 69 → zX D mX5_takeOf d k n 144 L st ty sz h Q) (k2 : w32 a = 70 → zX D mX5_takeOf d k n 188 L st ty sz h Q) (k3 : w32 a = 77 → zX D mX5_takeOf d k n 180 L st ty sz h Q) (k4 : w32 a = 82 → zX D mX5_takeOf d k n 202 L st ty sz h Q) (k5 : w32 a = 83 → zX D mX5_takeOf d k n 108 L st ty sz h Q) (k6 : w32 a = 88 → zX D mX5_takeOf d k n 131 L st ty sz h Q) (k7 : w32 a = 90 → zX D mX5_takeOf d k n 118 L st ty sz h Q) (kd : (w32 a ≠ 68 ∧ w32 a ≠ 69 ∧ w32 a ≠ 70 ∧ w32 a ≠ 77 ∧ w32 a ≠ 82 ∧ w32 a ≠ 83 ∧ w32 a ≠ 88 ∧ w32 a ≠ 90) → zX D mX5_takeOf d k n 210 L st ty sz h Q) : zX D mX5_takeOf d k n 1 L (iV a :: st) ty sz h Q := by
  by_cases h0 : w32 a = 68
  · exact x_tswIn 154 dX5_takeOf_1 (by omega) (by omega) (by rw [h0]; rfl) rfl (k0 h0)
  by_cases h1 : w32 a = 69
  · exact x_tswIn 144 dX5_takeOf_1 (by omega) (by omega) (by rw [h1]; rfl) rfl (k1 h1)
  by_cases h2 : w32 a = 70
  · exact x_tswIn 188 dX5_takeOf_1 (by omega) (by omega) (by rw [h2]; rfl) rfl (k2 h2)
  by_cases h3 : w32 a = 77
  · exact x_tswIn 180 dX5_takeOf_1 (by omega) (by omega) (by rw [h3]; rfl) rfl (k3 h3)
  by_cases h4 : w32 a = 82
  · exact x_tswIn 202 dX5_takeOf_1 (by omega) (by omega) (by rw [h4]; rfl) rfl (k4 h4)
  by_cases h5 : w32 a = 83
  · exact x_tswIn 108 dX5_takeOf_1 (by omega) (by omega) (by rw [h5]; rfl) rfl (k5 h5)
  by_cases h6 : w32 a = 88
  · exact x_tswIn 131 dX5_takeOf_1 (by omega) (by omega) (by rw [h6]; rfl) rfl (k6 h6)
  by_cases h7 : w32 a = 90
  · exact x_tswIn 118 dX5_takeOf_1 (by omega) (by omega) (by rw [h7]; rfl) rfl (k7 h7)
  by_cases g3 : w32 a = 71
  · exact x_tswIn 210 dX5_takeOf_1 (by omega) (by omega) (by rw [g3]; rfl) rfl (kd (by omega))
  by_cases g4 : w32 a = 72
  · exact x_tswIn 210 dX5_takeOf_1 (by omega) (by omega) (by rw [g4]; rfl) rfl (kd (by omega))
  by_cases g5 : w32 a = 73
  · exact x_tswIn 210 dX5_takeOf_1 (by omega) (by omega) (by rw [g5]; rfl) rfl (kd (by omega))
  by_cases g6 : w32 a = 74
  · exact x_tswIn 210 dX5_takeOf_1 (by omega) (by omega) (by rw [g6]; rfl) rfl (kd (by omega))
  by_cases g7 : w32 a = 75
  · exact x_tswIn 210 dX5_takeOf_1 (by omega) (by omega) (by rw [g7]; rfl) rfl (kd (by omega))
  by_cases g8 : w32 a = 76
  · exact x_tswIn 210 dX5_takeOf_1 (by omega) (by omega) (by rw [g8]; rfl) rfl (kd (by omega))
  by_cases g10 : w32 a = 78
  · exact x_tswIn 210 dX5_takeOf_1 (by omega) (by omega) (by rw [g10]; rfl) rfl (kd (by omega))
  by_cases g11 : w32 a = 79
  · exact x_tswIn 210 dX5_takeOf_1 (by omega) (by omega) (by rw [g11]; rfl) rfl (kd (by omega))
  by_cases g12 : w32 a = 80
  · exact x_tswIn 210 dX5_takeOf_1 (by omega) (by omega) (by rw [g12]; rfl) rfl (kd (by omega))
  by_cases g13 : w32 a = 81
  · exact x_tswIn 210 dX5_takeOf_1 (by omega) (by omega) (by rw [g13]; rfl) rfl (kd (by omega))
  by_cases g16 : w32 a = 84
  · exact x_tswIn 210 dX5_takeOf_1 (by omega) (by omega) (by rw [g16]; rfl) rfl (kd (by omega))
  by_cases g17 : w32 a = 85
  · exact x_tswIn 210 dX5_takeOf_1 (by omega) (by omega) (by rw [g17]; rfl) rfl (kd (by omega))
  by_cases g18 : w32 a = 86
  · exact x_tswIn 210 dX5_takeOf_1 (by omega) (by omega) (by rw [g18]; rfl) rfl (kd (by omega))
  by_cases g19 : w32 a = 87
  · exact x_tswIn 210 dX5_takeOf_1 (by omega) (by omega) (by rw [g19]; rfl) rfl (kd (by omega))
  by_cases g21 : w32 a = 89
  · exact x_tswIn 210 dX5_takeOf_1 (by omega) (by omega) (by rw [g21]; rfl) rfl (kd (by omega))
  exact x_tswOut 210 dX5_takeOf_1 (by omega) rfl (kd (by omega))

theorem sw_L_law_40 {M : zM} (hM : M.2.1 = cL_law) {a : Int} (k0 : w32 a = 0 → zX D M d k n 100 L st ty sz h Q) (k1 : w32 a = 1 → zX D M d k n 123 L st ty sz h Q) (k2 : w32 a = 2 → zX D M d k n 136 L st ty sz h Q) (k3 : w32 a = 3 → zX D M d k n 209 L st ty sz h Q) (k4 : w32 a = 4 → zX D M d k n 246 L st ty sz h Q) (k5 : w32 a = 5 → zX D M d k n 328 L st ty sz h Q) (k6 : w32 a = 6 → zX D M d k n 409 L st ty sz h Q) (k7 : w32 a = 7 → zX D M d k n 446 L st ty sz h Q) (k8 : w32 a = 8 → zX D M d k n 577 L st ty sz h Q) (k9 : w32 a = 9 → zX D M d k n 602 L st ty sz h Q) (k10 : w32 a = 10 → zX D M d k n 615 L st ty sz h Q) (kd : (w32 a ≠ 0 ∧ w32 a ≠ 1 ∧ w32 a ≠ 2 ∧ w32 a ≠ 3 ∧ w32 a ≠ 4 ∧ w32 a ≠ 5 ∧ w32 a ≠ 6 ∧ w32 a ≠ 7 ∧ w32 a ≠ 8 ∧ w32 a ≠ 9 ∧ w32 a ≠ 10) → zX D M d k n 640 L st ty sz h Q) : zX D M d k n 40 L (iV a :: st) ty sz h Q := by
  by_cases h0 : w32 a = 0
  · exact x_tswIn 100 (by rw [hM]; exact dL_law_40) (by omega) (by omega) (by rw [h0]; rfl) rfl (k0 h0)
  by_cases h1 : w32 a = 1
  · exact x_tswIn 123 (by rw [hM]; exact dL_law_40) (by omega) (by omega) (by rw [h1]; rfl) rfl (k1 h1)
  by_cases h2 : w32 a = 2
  · exact x_tswIn 136 (by rw [hM]; exact dL_law_40) (by omega) (by omega) (by rw [h2]; rfl) rfl (k2 h2)
  by_cases h3 : w32 a = 3
  · exact x_tswIn 209 (by rw [hM]; exact dL_law_40) (by omega) (by omega) (by rw [h3]; rfl) rfl (k3 h3)
  by_cases h4 : w32 a = 4
  · exact x_tswIn 246 (by rw [hM]; exact dL_law_40) (by omega) (by omega) (by rw [h4]; rfl) rfl (k4 h4)
  by_cases h5 : w32 a = 5
  · exact x_tswIn 328 (by rw [hM]; exact dL_law_40) (by omega) (by omega) (by rw [h5]; rfl) rfl (k5 h5)
  by_cases h6 : w32 a = 6
  · exact x_tswIn 409 (by rw [hM]; exact dL_law_40) (by omega) (by omega) (by rw [h6]; rfl) rfl (k6 h6)
  by_cases h7 : w32 a = 7
  · exact x_tswIn 446 (by rw [hM]; exact dL_law_40) (by omega) (by omega) (by rw [h7]; rfl) rfl (k7 h7)
  by_cases h8 : w32 a = 8
  · exact x_tswIn 577 (by rw [hM]; exact dL_law_40) (by omega) (by omega) (by rw [h8]; rfl) rfl (k8 h8)
  by_cases h9 : w32 a = 9
  · exact x_tswIn 602 (by rw [hM]; exact dL_law_40) (by omega) (by omega) (by rw [h9]; rfl) rfl (k9 h9)
  by_cases h10 : w32 a = 10
  · exact x_tswIn 615 (by rw [hM]; exact dL_law_40) (by omega) (by omega) (by rw [h10]; rfl) rfl (k10 h10)
  exact x_tswOut 640 (by rw [hM]; exact dL_law_40) (by omega) rfl (kd (by omega))

def isET (ty : zT) (e : Int) : Prop := 0 ≤ e ∧ ty e = some (1, 1, fun i => if i = 0 then some (e + 1) else none) ∧ ty (e + 1) = some (13, 10, fun i => if 0 ≤ i ∧ i < 10 then some (e + 2 + 6 * i) else none) ∧ ∀ k, 0 ≤ k → k < 10 → isKT ty (e + 2 + 6 * k)
def isBT (ty : zT) (b : Int) : Prop := 0 ≤ b ∧ ty b = some (0, 5, fun i => if i = 0 then some (b + 1) else if i = 1 then some (b + 2) else if i = 2 then some (b + 3) else none) ∧ ty (b + 1) = some (8, 13, zn) ∧ ty (b + 2) = some (8, 13, zn) ∧ ty (b + 3) = some (8, 13, zn)
def isPT (ty : zT) (p : Int) : Prop := 0 ≤ p ∧ ty p = some (4, 2, fun i => if i = 0 then some (p + 1) else none) ∧ ty (p + 1) = some (8, 1500, zn)
def isRT (ty : zT) (r : Int) : Prop := 0 ≤ r ∧ ty r = some (5, 7, fun i => if i = 0 then some (r + 1) else if i = 6 then some (r + 2) else none) ∧ ty (r + 1) = some (8, 1500, zn) ∧ ty (r + 2) = some (8, 3, zn)
/-- the class's object, with all that never moves -/
def isXT (ty : zT) (x : Int) : Prop := 0 ≤ x ∧ ty x = some (6, 8, fun i => if i = 0 then some (x + 1) else if i = 1 then some (x + 4) else if i = 2 then some (x + 6) else if i = 3 then some (x + 10) else if i = 4 then some (x + 14) else if i = 6 then some (x + 15) else none)
  ∧ isRT ty (x + 1) ∧ isPT ty (x + 4) ∧ isBT ty (x + 6) ∧ isBT ty (x + 10) ∧ ty (x + 14) = some (11, 100, zn) ∧ ty (x + 15) = some (12, 6, fun i => if 0 ≤ i ∧ i < 6 then some (x + 16 + 62 * i) else none) ∧ ∀ e, 0 ≤ e → e < 6 → isET ty (x + 16 + 62 * e)
theorem kClr_fr {h h' : zH} {a : Int} (hc : kClr h a) (hf : ∀ q, a ≤ q → q ≤ a + 5 → h' q = h q) : kClr h' a := by
  unfold kClr at *
  rw [hf a (by omega) (by omega), hf (a + 3) (by omega) (by omega), hf (a + 4) (by omega) (by omega), hf (a + 5) (by omega) (by omega)]
  exact hc

set_option maxHeartbeats 4000000 in
set_option maxRecDepth 100000 in
theorem c_k_clear {a : Int} (hK : isKT ty a) (hq : ∀ h', Fr a (a + 5) h h' → kClr h' a → Q none ty sz h') : zXM D mX3_clear (d + 1) 0 0 [rV a] ty sz h Q := by
  obtain ⟨k9, k0, k1, k2, k3, k4, k5⟩ := hK
  refine x_aload_n (pc := 0) dX3_clear_0 rfl ?_
  refine x_iconst (pc := 1) dX3_clear_1 ?_
  refine y_putZ 0 (pc := 2) dX3_clear_2 f_RX3_27 (by assumption) rfl (Or.inl rfl) (by rfl) rfl ?_
  refine x_aload_n (pc := 5) dX3_clear_5 rfl ?_
  refine x_iconst (pc := 6) dX3_clear_6 ?_
  refine y_putI 1 (pc := 7) dX3_clear_7 f_RX3_31 (by assumption) rfl (by rfl) (by omega) rfl ?_
  refine x_aload_n (pc := 10) dX3_clear_10 rfl ?_
  refine x_getF (pc := 11) dX3_clear_11 f_RX3_18 (by assumption) (by rfl) ?_
  refine x_iconst (pc := 14) dX3_clear_14 ?_
  refine x_callS2 (pc := 15) dX3_clear_15 (k_RX3_35 _ rfl) tms_X6_fill rfl rfl ?_
  refine c_fill (N := 10) (by omega) (by assumption) (by decide) (by omega) ?_
  dsimp only [Option.toList, List.cons_append, List.nil_append]
  refine x_aload_n (pc := 18) dX3_clear_18 rfl ?_
  refine x_getF (pc := 19) dX3_clear_19 f_RX3_21 (by assumption) (by rfl) ?_
  refine x_iconst (pc := 22) dX3_clear_22 ?_
  refine x_callS2 (pc := 23) dX3_clear_23 (k_RX3_35 _ rfl) tms_X6_fill rfl rfl ?_
  refine c_fill (N := 10) (by omega) (by assumption) (by decide) (by omega) ?_
  dsimp only [Option.toList, List.cons_append, List.nil_append]
  refine x_aload_n (pc := 26) dX3_clear_26 rfl ?_
  refine x_getF (pc := 27) dX3_clear_27 f_RX3_24 (by assumption) (by rfl) ?_
  refine x_iconst (pc := 30) dX3_clear_30 ?_
  refine x_callS2 (pc := 31) dX3_clear_31 (k_RX3_35 _ rfl) tms_X6_fill rfl rfl ?_
  refine c_fill (N := 10) (by omega) (by assumption) (by decide) (by omega) ?_
  dsimp only [Option.toList, List.cons_append, List.nil_append]
  refine x_aload_n (pc := 34) dX3_clear_34 rfl ?_
  refine x_iconst (pc := 35) dX3_clear_35 ?_
  refine y_putI 7 (pc := 36) dX3_clear_36 f_RX3_39 (by assumption) rfl (by rfl) (by omega) rfl ?_
  refine x_aload_n (pc := 39) dX3_clear_39 rfl ?_
  refine x_iconst (pc := 40) dX3_clear_40 ?_
  refine y_putI 8 (pc := 41) dX3_clear_41 f_RX3_42 (by assumption) rfl (by rfl) (by omega) rfl ?_
  refine x_aload_n (pc := 44) dX3_clear_44 rfl ?_
  refine x_iconst (pc := 45) dX3_clear_45 ?_
  refine y_putI 9 (pc := 46) dX3_clear_46 f_RX3_45 (by assumption) rfl (by rfl) (by omega) rfl ?_
  refine x_aload_n (pc := 49) dX3_clear_49 rfl ?_
  refine x_iconst (pc := 50) dX3_clear_50 ?_
  refine y_putI 10 (pc := 51) dX3_clear_51 f_RX3_48 (by assumption) rfl (by rfl) (by omega) rfl ?_
  refine x_aload_n (pc := 54) dX3_clear_54 rfl ?_
  refine x_iconst (pc := 55) dX3_clear_55 ?_
  refine y_putI 11 (pc := 56) dX3_clear_56 f_RX3_51 (by assumption) rfl (by rfl) (by omega) rfl ?_
  refine x_aload_n (pc := 59) dX3_clear_59 rfl ?_
  refine x_iconst (pc := 60) dX3_clear_60 ?_
  refine y_putI 12 (pc := 61) dX3_clear_61 f_RX3_54 (by assumption) rfl (by rfl) (by omega) rfl ?_
  refine x_aload_n (pc := 64) dX3_clear_64 rfl ?_
  refine x_iconst (pc := 65) dX3_clear_65 ?_
  refine y_putI 13 (pc := 66) dX3_clear_66 f_RX3_57 (by assumption) rfl (by rfl) (by omega) rfl ?_
  refine x_aload_n (pc := 69) dX3_clear_69 rfl ?_
  refine x_iconst (pc := 70) dX3_clear_70 ?_
  refine y_putI 14 (pc := 71) dX3_clear_71 f_RX3_60 (by assumption) rfl (by rfl) (by omega) rfl ?_
  refine x_ret (pc := 74) ⟨dX3_clear_74, rfl⟩ ?_
  refine hq _ (fun q hq2 => ?_) ?_
  · funext j
    simp only [zup_app, zfil]
    have e0 : ¬ q = a := by omega
    have e3 : ¬ q = a + 3 := by omega
    have e4 : ¬ q = a + 4 := by omega
    have e5 : ¬ q = a + 5 := by omega
    simp only [e0, e3, e4, e5, false_and, if_false]
  · have e3 : ¬ a + 3 = a := by omega
    have e4 : ¬ a + 4 = a := by omega
    have e5 : ¬ a + 5 = a := by omega
    have e34 : ¬ a + 3 = a + 4 := by omega
    have e35 : ¬ a + 3 = a + 5 := by omega
    have e45 : ¬ a + 4 = a + 5 := by omega
    have S0 : ∀ u : Int, ¬ a = a + 3 ∧ ¬ a = a + 4 ∧ ¬ a = a + 5 := fun u => by omega
    refine ⟨?_, ?_, ?_, ⟨?_, ?_, ?_, ?_, ?_, ?_, ?_⟩, fun z h0 h1 => ?_⟩
    all_goals try (simp [zup_app, zfil, (S0 0).1, (S0 0).2.1, (S0 0).2.2]; done)
    refine ⟨?_, ?_, ?_⟩ <;> simp [zup_app, zfil, e3, e4, e5, e34, e35, e45, h0, h1]

set_option maxHeartbeats 4000000 in
set_option maxRecDepth 100000 in
theorem c_e_place {e k : Int} (hE : isET ty e) (hk : 0 ≤ k ∧ k < 10) (hq : Q (some (rV (e + 2 + 6 * k))) ty sz h) : zXM D mX1_place d 0 0 [rV e, iV k] ty sz h Q := by
  obtain ⟨e9, e0, e1, e2⟩ := hE
  refine x_iload_n (pc := 0) dX1_place_0 rfl ?_
  refine x_if_lt (pc := 1) 22 dX1_place_1 rfl (fun c_1 => ?_) (fun c_1 => ?_)
  · (try simp (disch := omega) only [zb_e0, zb_n0, w32_id, w64_id, ne_eq, Classical.not_not] at c_1)
    omega
  · (try simp (disch := omega) only [zb_e0, zb_n0, w32_id, w64_id, ne_eq, Classical.not_not] at c_1)
    refine x_iload_n (pc := 4) dX1_place_4 rfl ?_
    refine x_aload_n (pc := 5) dX1_place_5 rfl ?_
    refine x_getF (pc := 6) dX1_place_6 f_RX1_11 (by assumption) (by rfl) ?_
    refine x_alen (pc := 9) dX1_place_9 (by assumption) (by decide) ?_
    refine x_icmp_ge (pc := 10) 22 dX1_place_10 rfl (fun c_10 => ?_) (fun c_10 => ?_)
    · (try simp (disch := omega) only [zb_e0, zb_n0, w32_id, w64_id, ne_eq, Classical.not_not] at c_10)
      omega
    · (try simp (disch := omega) only [zb_e0, zb_n0, w32_id, w64_id, ne_eq, Classical.not_not] at c_10)
      refine x_aload_n (pc := 13) dX1_place_13 rfl ?_
      refine x_getF (pc := 14) dX1_place_14 f_RX1_11 (by assumption) (by rfl) ?_
      refine x_iload_n (pc := 17) dX1_place_17 rfl ?_
      refine x_aaldF (pc := 18) dX1_place_18 (by assumption) (by decide) (by omega) (by omega) (by exact if_pos ⟨by omega, by omega⟩) ?_
      refine x_goto (pc := 19) 23 dX1_place_19 rfl ?_
      refine x_retv (pc := 23) ⟨dX1_place_23, _, rfl⟩ ?_
      exact hq

set_option maxHeartbeats 4000000 in
set_option maxRecDepth 100000 in
theorem c_e_clear_l {e : Int} (hE : isET ty e) (hq : ∀ h', Fr e (e + 61) h h' → (∀ k, 0 ≤ k → k < 10 → kClr h' (e + 2 + 6 * k)) → Q none ty sz h') : ∀ (n : Nat) (i : Int) (g : zH), 0 ≤ i ∧ i ≤ 10 → Fr e (e + 61) h g → (∀ k, 0 ≤ k → k < i → kClr g (e + 2 + 6 * k)) → 10 - i < n → zX D mX1_clear (d + 2) 0 0 2 [(1, iV i), (0, rV e)] [] ty sz g Q := by
  intro n
  induction n with
  | zero =>
    intro i g h1 hF h2 hm
    exfalso
    omega
  | succ n ih =>
    intro i g h1 hF h2 hm
    obtain ⟨e9, e0, e1, e2⟩ := hE
    refine x_iload_n (pc := 2) dX1_clear_2 rfl ?_
    refine x_aload_n (pc := 3) dX1_clear_3 rfl ?_
    refine x_getF (pc := 4) dX1_clear_4 f_RX1_11 (by assumption) (by rfl) ?_
    refine x_alen (pc := 7) dX1_clear_7 (by assumption) (by decide) ?_
    refine x_icmp_ge (pc := 8) 32 dX1_clear_8 rfl (fun c_8 => ?_) (fun c_8 => ?_)
    · (try simp (disch := omega) only [zb_e0, zb_n0, w32_id, w64_id, ne_eq, Classical.not_not] at c_8)
      refine x_ret (pc := 32) ⟨dX1_clear_32, rfl⟩ ?_
      exact hq g hF (fun k hk1 hk2 => h2 k hk1 (by omega))
    · (try simp (disch := omega) only [zb_e0, zb_n0, w32_id, w64_id, ne_eq, Classical.not_not] at c_8)
      refine x_aload_n (pc := 11) dX1_clear_11 rfl ?_
      refine x_getF (pc := 12) dX1_clear_12 f_RX1_11 (by assumption) (by rfl) ?_
      refine x_iload_n (pc := 15) dX1_clear_15 rfl ?_
      refine x_aaldF (pc := 16) dX1_clear_16 (by assumption) (by decide) (by omega) (by omega) (by exact if_pos ⟨by omega, by omega⟩) ?_
      refine x_astore_n (pc := 17) dX1_clear_17 (by decide) ?_
      refine x_aload_n (pc := 18) dX1_clear_18 rfl ?_
      refine x_ifnull (pc := 19) 26 dX1_clear_19 rfl (fun c_19 => ?_) (fun c_19 => ?_)
      · (try simp (disch := omega) only [zb_e0, zb_n0, w32_id, w64_id, ne_eq, Classical.not_not] at c_19)
        omega
      · (try simp (disch := omega) only [zb_e0, zb_n0, w32_id, w64_id, ne_eq, Classical.not_not] at c_19)
        refine x_aload_n (pc := 22) dX1_clear_22 rfl ?_
        refine x_callV0 (pc := 23) dX1_clear_23 (k_RX1_18 _ rfl) tmv_X3_clear (e2 i (by omega) (by omega)).2.1 rfl rfl rfl ?_
        refine c_k_clear (e2 i (by omega) (by omega)) (fun g' hF2 hc2 => ?_)
        dsimp only [Option.toList, List.cons_append, List.nil_append]
        refine x_iinc (pc := 26) dX1_clear_26 rfl (by decide) ?_
        refine x_goto (pc := 29) 2 dX1_clear_29 rfl ?_
        refine x_loc [(1, iV (i + 1)), (0, rV e)] ⟨rfl, rfl, trivial⟩ (ih (i + 1) g' (by omega) (Fr.tr hF hF2 (by omega) (by omega) (by omega) (by omega)) (fun k hk1 hk2 => ?_) (by omega))
        by_cases ek : k = i
        · subst ek
          exact hc2
        · exact kClr_fr (h2 k hk1 (by omega)) (fun q q1 q2 => hF2 q (by omega))

set_option maxHeartbeats 4000000 in
set_option maxRecDepth 100000 in
theorem c_e_clear {e : Int} (hE : isET ty e) (hq : ∀ h', Fr e (e + 61) h h' → (∀ k, 0 ≤ k → k < 10 → kClr h' (e + 2 + 6 * k)) → Q none ty sz h') : zXM D mX1_clear (d + 2) 0 0 [rV e] ty sz h Q := by
  refine x_iconst (pc := 0) dX1_clear_0 ?_
  refine x_istore_n (pc := 1) dX1_clear_1 (by decide) ?_
  exact x_loc _ (by exact ⟨rfl, rfl, trivial⟩) (c_e_clear_l hE hq 11 0 h (by omega) (Fr.rf _ _ _) (fun u h1 h2 => by omega) (by omega))

set_option maxHeartbeats 4000000 in
set_option maxRecDepth 100000 in
theorem c_kindOf {e k : Int} (hE : isET ty e) (hk : 0 ≤ k ∧ k < 10) (hn : h (e + 2 + 6 * k) 0 = 0 → Q (some (rV (-1))) ty sz h) (hy : h (e + 2 + 6 * k) 0 ≠ 0 → Q (some (rV (e + 2 + 6 * k))) ty sz h) : zXM D mX6_kindOf (d + 1) 0 0 [rV e, iV k] ty sz h Q := by
  have hE0 := hE
  obtain ⟨e9, e0, e1, e2⟩ := hE
  refine x_aload_n (pc := 0) dX6_kindOf_0 rfl ?_
  refine x_ifnonnull (pc := 1) 8 dX6_kindOf_1 rfl (fun c_1 => ?_) (fun c_1 => ?_)
  · (try simp (disch := omega) only [zb_e0, zb_n0, w32_id, w64_id, ne_eq, Classical.not_not] at c_1)
    refine x_aload_n (pc := 8) dX6_kindOf_8 rfl ?_
    refine x_iload_n (pc := 9) dX6_kindOf_9 rfl ?_
    refine x_callV1 (pc := 10) dX6_kindOf_10 (k_RX6_170 _ rfl) tmv_X1_place (by assumption) rfl rfl rfl ?_
    refine c_e_place hE0 hk ?_
    dsimp only [Option.toList, List.cons_append, List.nil_append]
    refine x_astore_n (pc := 13) dX6_kindOf_13 (by decide) ?_
    refine x_aload_n (pc := 14) dX6_kindOf_14 rfl ?_
    refine x_ifnull (pc := 15) 29 dX6_kindOf_15 rfl (fun c_15 => ?_) (fun c_15 => ?_)
    · (try simp (disch := omega) only [zb_e0, zb_n0, w32_id, w64_id, ne_eq, Classical.not_not] at c_15)
      omega
    · (try simp (disch := omega) only [zb_e0, zb_n0, w32_id, w64_id, ne_eq, Classical.not_not] at c_15)
      refine x_aload_n (pc := 18) dX6_kindOf_18 rfl ?_
      refine y_getI 0 (pc := 19) dX6_kindOf_19 f_RX6_174 (e2 k (by omega) (by omega)).2.1 rfl (fun b_19 => ?_)
      refine x_if_eq (pc := 22) 29 dX6_kindOf_22 rfl (fun c_22 => ?_) (fun c_22 => ?_)
      · (try simp (disch := omega) only [zb_e0, zb_n0, w32_id, w64_id, ne_eq, Classical.not_not] at c_22)
        refine x_null (pc := 29) dX6_kindOf_29 ?_
        refine x_retv (pc := 30) ⟨dX6_kindOf_30, _, rfl⟩ ?_
        first | exact hn (by assumption) | exact hy (by assumption)
      · (try simp (disch := omega) only [zb_e0, zb_n0, w32_id, w64_id, ne_eq, Classical.not_not] at c_22)
        refine x_aload_n (pc := 25) dX6_kindOf_25 rfl ?_
        refine x_goto (pc := 26) 30 dX6_kindOf_26 rfl ?_
        refine x_retv (pc := 30) ⟨dX6_kindOf_30, _, rfl⟩ ?_
        first | exact hn (by assumption) | exact hy (by assumption)
  · (try simp (disch := omega) only [zb_e0, zb_n0, w32_id, w64_id, ne_eq, Classical.not_not] at c_1)
    omega

set_option maxHeartbeats 4000000 in
set_option maxRecDepth 100000 in
theorem c_slot {x i : Int} (hX : isXT ty x) (hi : i32 i) (hn : ¬ (0 ≤ i ∧ i < 6) → Q (some (rV (-1))) ty sz h) (hy : 0 ≤ i ∧ i < 6 → Q (some (rV (x + 16 + 62 * i))) ty sz h) : zXM D mX6_slot d 0 0 [rV x, iV i] ty sz h Q := by
  have hX0 := hX
  obtain ⟨x9, x0, hR, hP, hB, hB2, x14, x15, hEd⟩ := hX
  refine x_iload_n (pc := 0) dX6_slot_0 rfl ?_
  refine x_if_lt (pc := 1) 22 dX6_slot_1 rfl (fun c_1 => ?_) (fun c_1 => ?_)
  · (try simp (disch := omega) only [zb_e0, zb_n0, w32_id, w64_id, ne_eq, Classical.not_not] at c_1)
    refine x_null (pc := 22) dX6_slot_22 ?_
    refine x_retv (pc := 23) ⟨dX6_slot_23, _, rfl⟩ ?_
    first | exact hn (by omega) | exact hy (by omega)
  · (try simp (disch := omega) only [zb_e0, zb_n0, w32_id, w64_id, ne_eq, Classical.not_not] at c_1)
    refine x_iload_n (pc := 4) dX6_slot_4 rfl ?_
    refine x_aload_n (pc := 5) dX6_slot_5 rfl ?_
    refine x_getF (pc := 6) dX6_slot_6 f_RX6_41 (by assumption) (by rfl) ?_
    refine x_alen (pc := 9) dX6_slot_9 (by assumption) (by decide) ?_
    refine x_icmp_ge (pc := 10) 22 dX6_slot_10 rfl (fun c_10 => ?_) (fun c_10 => ?_)
    · (try simp (disch := omega) only [zb_e0, zb_n0, w32_id, w64_id, ne_eq, Classical.not_not] at c_10)
      refine x_null (pc := 22) dX6_slot_22 ?_
      refine x_retv (pc := 23) ⟨dX6_slot_23, _, rfl⟩ ?_
      first | exact hn (by omega) | exact hy (by omega)
    · (try simp (disch := omega) only [zb_e0, zb_n0, w32_id, w64_id, ne_eq, Classical.not_not] at c_10)
      refine x_aload_n (pc := 13) dX6_slot_13 rfl ?_
      refine x_getF (pc := 14) dX6_slot_14 f_RX6_41 (by assumption) (by rfl) ?_
      refine x_iload_n (pc := 17) dX6_slot_17 rfl ?_
      refine x_aaldF (pc := 18) dX6_slot_18 (by assumption) (by decide) (by omega) (by omega) (by exact if_pos ⟨by omega, by omega⟩) ?_
      refine x_goto (pc := 19) 23 dX6_slot_19 rfl ?_
      refine x_retv (pc := 23) ⟨dX6_slot_23, _, rfl⟩ ?_
      first | exact hn (by omega) | exact hy (by omega)

set_option maxHeartbeats 4000000 in
set_option maxRecDepth 100000 in
theorem c_latest {x : Int} (hX : isXT ty x) (hc : 0 ≤ h x 7 ∧ h x 7 ≤ 5) (hn : h x 7 = 0 → Q (some (rV (-1))) ty sz h) (hy : 0 < h x 7 → Q (some (rV (x + 16 + 62 * (h x 7 - 1)))) ty sz h) : zXM D mX6_latest (d + 1) 0 0 [rV x] ty sz h Q := by
  have hX0 := hX
  obtain ⟨x9, x0, hR, hP, hB, hB2, x14, x15, hEd⟩ := hX
  refine x_aload_n (pc := 0) dX6_latest_0 rfl ?_
  refine x_aload_n (pc := 1) dX6_latest_1 rfl ?_
  refine y_getI 7 (pc := 2) dX6_latest_2 f_RX6_54 (by assumption) rfl (fun b_2 => ?_)
  refine x_iconst (pc := 5) dX6_latest_5 ?_
  refine x_isub (pc := 6) dX6_latest_6 ?_
  refine x_callV1 (pc := 7) dX6_latest_7 (k_RX6_58 _ rfl) tmv_X6_slot (by assumption) rfl rfl rfl ?_
  refine c_slot hX0 (by omega) (fun c => ?_) (fun c => ?_)
  

  · refine x_retv (pc := 10) ⟨dX6_latest_10, _, rfl⟩ ?_
    exact hn (by omega)
  · refine x_retv (pc := 10) ⟨dX6_latest_10, _, rfl⟩ ?_
    exact hy (by omega)

set_option maxHeartbeats 4000000 in
set_option maxRecDepth 100000 in
theorem c_itemOf {x i : Int} (hX : isXT ty x) (hi : i32 i) (hc : 0 ≤ h x 5 ∧ h x 5 ≤ 100) (hn : ¬ (0 ≤ i ∧ i < h x 5) → Q (some (rV (-1))) ty sz h) (hy : 0 ≤ i ∧ i < h x 5 → Q (some (rV (h (x + 14) i))) ty sz h) : zXM D mX6_itemOf d 0 0 [rV x, iV i] ty sz h Q := by
  have hX0 := hX
  obtain ⟨x9, x0, hR, hP, hB, hB2, x14, x15, hEd⟩ := hX
  refine x_iload_n (pc := 0) dX6_itemOf_0 rfl ?_
  refine x_if_lt (pc := 1) 30 dX6_itemOf_1 rfl (fun c_1 => ?_) (fun c_1 => ?_)
  · (try simp (disch := omega) only [zb_e0, zb_n0, w32_id, w64_id, ne_eq, Classical.not_not] at c_1)
    refine x_null (pc := 30) dX6_itemOf_30 ?_
    refine x_retv (pc := 31) ⟨dX6_itemOf_31, _, rfl⟩ ?_
    first | exact hn (by omega) | exact hy (by omega)
  · (try simp (disch := omega) only [zb_e0, zb_n0, w32_id, w64_id, ne_eq, Classical.not_not] at c_1)
    refine x_iload_n (pc := 4) dX6_itemOf_4 rfl ?_
    refine x_aload_n (pc := 5) dX6_itemOf_5 rfl ?_
    refine y_getI 5 (pc := 6) dX6_itemOf_6 f_RX6_78 (by assumption) rfl (fun b_6 => ?_)
    refine x_icmp_ge (pc := 9) 30 dX6_itemOf_9 rfl (fun c_9 => ?_) (fun c_9 => ?_)
    · (try simp (disch := omega) only [zb_e0, zb_n0, w32_id, w64_id, ne_eq, Classical.not_not] at c_9)
      refine x_null (pc := 30) dX6_itemOf_30 ?_
      refine x_retv (pc := 31) ⟨dX6_itemOf_31, _, rfl⟩ ?_
      first | exact hn (by omega) | exact hy (by omega)
    · (try simp (disch := omega) only [zb_e0, zb_n0, w32_id, w64_id, ne_eq, Classical.not_not] at c_9)
      refine x_iload_n (pc := 12) dX6_itemOf_12 rfl ?_
      refine x_aload_n (pc := 13) dX6_itemOf_13 rfl ?_
      refine x_getF (pc := 14) dX6_itemOf_14 f_RX6_35 (by assumption) (by rfl) ?_
      refine x_alen (pc := 17) dX6_itemOf_17 (by assumption) (by decide) ?_
      refine x_icmp_ge (pc := 18) 30 dX6_itemOf_18 rfl (fun c_18 => ?_) (fun c_18 => ?_)
      · (try simp (disch := omega) only [zb_e0, zb_n0, w32_id, w64_id, ne_eq, Classical.not_not] at c_18)
        omega
      · (try simp (disch := omega) only [zb_e0, zb_n0, w32_id, w64_id, ne_eq, Classical.not_not] at c_18)
        refine x_aload_n (pc := 21) dX6_itemOf_21 rfl ?_
        refine x_getF (pc := 22) dX6_itemOf_22 f_RX6_35 (by assumption) (by rfl) ?_
        refine x_iload_n (pc := 25) dX6_itemOf_25 rfl ?_
        refine x_aald (pc := 26) dX6_itemOf_26 (by assumption) (by decide) (by omega) (by omega) ?_
        refine x_goto (pc := 27) 31 dX6_itemOf_27 rfl ?_
        refine x_retv (pc := 31) ⟨dX6_itemOf_31, _, rfl⟩ ?_
        first | exact hn (by omega) | exact hy (by omega)

end C4
end
section
section C5
variable {D : va_G} {d : Nat} {ty : zT} {sz : Nat} {h : zH} {Q : zQ}
theorem zrf_eq {a b : Int} (ha : -1 ≤ a) (hb : -1 ≤ b) : (zrf a = zrf b) = (a = b) := by
  apply propext
  unfold zrf
  by_cases h1 : a < 0
  · rw [if_pos h1]
    by_cases h2 : b < 0
    · rw [if_pos h2]; exact ⟨fun _ => (by omega), fun _ => rfl⟩
    · rw [if_neg h2]; exact ⟨fun q => (by cases q), fun q => (by omega)⟩
  · rw [if_neg h1]
    by_cases h2 : b < 0
    · rw [if_pos h2]; exact ⟨fun q => (by cases q), fun q => (by omega)⟩
    · rw [if_neg h2]; exact ⟨fun q => (by have := Option.some.inj q; omega), fun q => (by rw [q])⟩
def kAlike (h : zH) (a b : Int) : Prop := (a < 0 ∧ b < 0) ∨ (0 ≤ a ∧ 0 ≤ b ∧ kSameS h a b ∧ kSameN h a b ∧ kSameL h a b)

set_option maxHeartbeats 4000000 in
set_option maxRecDepth 100000 in
theorem c_alike {a b : Int} (ha : a = -1 ∨ isKT ty a ∧ 0 ≤ h a 1 ∧ h a 1 ≤ 10) (hb : b = -1 ∨ isKT ty b) (hq : Q (some (iV (zb (kAlike h a b)))) ty sz h) : zXM D mX6_arePrintedAlike (d + 2) 0 0 [rV a, rV b] ty sz h Q := by
  have ha1 : -1 ≤ a := by
    rcases ha with e | ⟨e, -⟩
    · omega
    · have := e.1; omega
  have hb1 : -1 ≤ b := by
    rcases hb with e | e
    · omega
    · have := e.1; omega
  refine x_aload_n (pc := 0) dX6_arePrintedAlike_0 rfl ?_
  refine x_ifnull (pc := 1) 8 dX6_arePrintedAlike_1 rfl (fun c_1 => ?_) (fun c_1 => ?_)
  · (try simp (disch := omega) only [zb_e0, zb_n0, w32_id, w64_id, ne_eq, Classical.not_not] at c_1)
    refine x_aload_n (pc := 8) dX6_arePrintedAlike_8 rfl ?_
    refine x_aload_n (pc := 9) dX6_arePrintedAlike_9 rfl ?_
    refine x_acmp_ne (pc := 10) 17 dX6_arePrintedAlike_10 rfl (fun c_10 => ?_) (fun c_10 => ?_)
    · (try simp (disch := omega) only [zb_e0, zb_n0, w32_id, w64_id, ne_eq, Classical.not_not] at c_10)
      simp only [ne_eq, zrf_eq ha1 hb1] at c_10
      refine x_iconst (pc := 17) dX6_arePrintedAlike_17 ?_
      refine x_retv (pc := 18) ⟨dX6_arePrintedAlike_18, Or.inr ⟨rfl, (by decide)⟩⟩ ?_
      by_cases hk : kAlike h a b
      · rw [zb_t hk] at hq
        first
          | exact hq
          | (exfalso; rcases hk with hk | ⟨qa, qb, q1, q2, q3⟩ <;> first | omega | contradiction)
      · rw [zb_f hk] at hq
        first
          | exact hq
          | (exfalso; exact hk (Or.inl ⟨by omega, by omega⟩))
          | (exfalso; exact hk (Or.inr ⟨by omega, by omega, by assumption, by assumption, by assumption⟩))
    · (try simp (disch := omega) only [zb_e0, zb_n0, w32_id, w64_id, ne_eq, Classical.not_not] at c_10)
      simp only [ne_eq, zrf_eq ha1 hb1] at c_10
      refine x_iconst (pc := 13) dX6_arePrintedAlike_13 ?_
      refine x_goto (pc := 14) 18 dX6_arePrintedAlike_14 rfl ?_
      refine x_retv (pc := 18) ⟨dX6_arePrintedAlike_18, Or.inr ⟨rfl, (by decide)⟩⟩ ?_
      by_cases hk : kAlike h a b
      · rw [zb_t hk] at hq
        first
          | exact hq
          | (exfalso; rcases hk with hk | ⟨qa, qb, q1, q2, q3⟩ <;> first | omega | contradiction)
      · rw [zb_f hk] at hq
        first
          | exact hq
          | (exfalso; exact hk (Or.inl ⟨by omega, by omega⟩))
          | (exfalso; exact hk (Or.inr ⟨by omega, by omega, by assumption, by assumption, by assumption⟩))
  · (try simp (disch := omega) only [zb_e0, zb_n0, w32_id, w64_id, ne_eq, Classical.not_not] at c_1)
    refine x_aload_n (pc := 4) dX6_arePrintedAlike_4 rfl ?_
    refine x_ifnonnull (pc := 5) 19 dX6_arePrintedAlike_5 rfl (fun c_5 => ?_) (fun c_5 => ?_)
    · (try simp (disch := omega) only [zb_e0, zb_n0, w32_id, w64_id, ne_eq, Classical.not_not] at c_5)
      have hK : isKT ty a ∧ 0 ≤ h a 1 ∧ h a 1 ≤ 10 := by
        rcases ha with e | e
        · omega
        · exact e
      have hL : isKT ty b := by
        rcases hb with e | e
        · omega
        · exact e
      refine x_aload_n (pc := 19) dX6_arePrintedAlike_19 rfl ?_
      refine x_aload_n (pc := 20) dX6_arePrintedAlike_20 rfl ?_
      refine x_callV1 (pc := 21) dX6_arePrintedAlike_21 (k_RX6_180 _ rfl) tmv_X3_hasSameStepsAs hK.1.2.1 rfl rfl rfl ?_
      refine c_k_sameS hK.1 hL hK.2 ?_
      dsimp only [Option.toList, List.cons_append, List.nil_append]
      refine x_if_eq (pc := 24) 47 dX6_arePrintedAlike_24 rfl (fun c_24 => ?_) (fun c_24 => ?_)
      · (try simp (disch := omega) only [zb_e0, zb_n0, w32_id, w64_id, ne_eq, Classical.not_not] at c_24)
        refine x_iconst (pc := 47) dX6_arePrintedAlike_47 ?_
        refine x_retv (pc := 48) ⟨dX6_arePrintedAlike_48, Or.inr ⟨rfl, (by decide)⟩⟩ ?_
        by_cases hk : kAlike h a b
        · rw [zb_t hk] at hq
          first
            | exact hq
            | (exfalso; rcases hk with hk | ⟨qa, qb, q1, q2, q3⟩ <;> first | omega | contradiction)
        · rw [zb_f hk] at hq
          first
            | exact hq
            | (exfalso; exact hk (Or.inl ⟨by omega, by omega⟩))
            | (exfalso; exact hk (Or.inr ⟨by omega, by omega, by assumption, by assumption, by assumption⟩))
      · (try simp (disch := omega) only [zb_e0, zb_n0, w32_id, w64_id, ne_eq, Classical.not_not] at c_24)
        refine x_aload_n (pc := 27) dX6_arePrintedAlike_27 rfl ?_
        refine x_aload_n (pc := 28) dX6_arePrintedAlike_28 rfl ?_
        refine x_callV1 (pc := 29) dX6_arePrintedAlike_29 (k_RX6_184 _ rfl) tmv_X3_hasSameNamesAs hK.1.2.1 rfl rfl rfl ?_
        refine c_k_sameN hK.1 hL ?_
        dsimp only [Option.toList, List.cons_append, List.nil_append]
        refine x_if_eq (pc := 32) 47 dX6_arePrintedAlike_32 rfl (fun c_32 => ?_) (fun c_32 => ?_)
        · (try simp (disch := omega) only [zb_e0, zb_n0, w32_id, w64_id, ne_eq, Classical.not_not] at c_32)
          refine x_iconst (pc := 47) dX6_arePrintedAlike_47 ?_
          refine x_retv (pc := 48) ⟨dX6_arePrintedAlike_48, Or.inr ⟨rfl, (by decide)⟩⟩ ?_
          by_cases hk : kAlike h a b
          · rw [zb_t hk] at hq
            first
              | exact hq
              | (exfalso; rcases hk with hk | ⟨qa, qb, q1, q2, q3⟩ <;> first | omega | contradiction)
          · rw [zb_f hk] at hq
            first
              | exact hq
              | (exfalso; exact hk (Or.inl ⟨by omega, by omega⟩))
              | (exfalso; exact hk (Or.inr ⟨by omega, by omega, by assumption, by assumption, by assumption⟩))
        · (try simp (disch := omega) only [zb_e0, zb_n0, w32_id, w64_id, ne_eq, Classical.not_not] at c_32)
          refine x_aload_n (pc := 35) dX6_arePrintedAlike_35 rfl ?_
          refine x_aload_n (pc := 36) dX6_arePrintedAlike_36 rfl ?_
          refine x_callV1 (pc := 37) dX6_arePrintedAlike_37 (k_RX6_187 _ rfl) tmv_X3_hasSameLimitsAs hK.1.2.1 rfl rfl rfl ?_
          refine c_k_sameL hK.1 hL ?_
          dsimp only [Option.toList, List.cons_append, List.nil_append]
          refine x_if_eq (pc := 40) 47 dX6_arePrintedAlike_40 rfl (fun c_40 => ?_) (fun c_40 => ?_)
          · (try simp (disch := omega) only [zb_e0, zb_n0, w32_id, w64_id, ne_eq, Classical.not_not] at c_40)
            refine x_iconst (pc := 47) dX6_arePrintedAlike_47 ?_
            refine x_retv (pc := 48) ⟨dX6_arePrintedAlike_48, Or.inr ⟨rfl, (by decide)⟩⟩ ?_
            by_cases hk : kAlike h a b
            · rw [zb_t hk] at hq
              first
                | exact hq
                | (exfalso; rcases hk with hk | ⟨qa, qb, q1, q2, q3⟩ <;> first | omega | contradiction)
            · rw [zb_f hk] at hq
              first
                | exact hq
                | (exfalso; exact hk (Or.inl ⟨by omega, by omega⟩))
                | (exfalso; exact hk (Or.inr ⟨by omega, by omega, by assumption, by assumption, by assumption⟩))
          · (try simp (disch := omega) only [zb_e0, zb_n0, w32_id, w64_id, ne_eq, Classical.not_not] at c_40)
            refine x_iconst (pc := 43) dX6_arePrintedAlike_43 ?_
            refine x_goto (pc := 44) 48 dX6_arePrintedAlike_44 rfl ?_
            refine x_retv (pc := 48) ⟨dX6_arePrintedAlike_48, Or.inr ⟨rfl, (by decide)⟩⟩ ?_
            by_cases hk : kAlike h a b
            · rw [zb_t hk] at hq
              first
                | exact hq
                | (exfalso; rcases hk with hk | ⟨qa, qb, q1, q2, q3⟩ <;> first | omega | contradiction)
            · rw [zb_f hk] at hq
              first
                | exact hq
                | (exfalso; exact hk (Or.inl ⟨by omega, by omega⟩))
                | (exfalso; exact hk (Or.inr ⟨by omega, by omega, by assumption, by assumption, by assumption⟩))
    · (try simp (disch := omega) only [zb_e0, zb_n0, w32_id, w64_id, ne_eq, Classical.not_not] at c_5)
      refine x_aload_n (pc := 8) dX6_arePrintedAlike_8 rfl ?_
      refine x_aload_n (pc := 9) dX6_arePrintedAlike_9 rfl ?_
      refine x_acmp_ne (pc := 10) 17 dX6_arePrintedAlike_10 rfl (fun c_10 => ?_) (fun c_10 => ?_)
      · (try simp (disch := omega) only [zb_e0, zb_n0, w32_id, w64_id, ne_eq, Classical.not_not] at c_10)
        simp only [ne_eq, zrf_eq ha1 hb1] at c_10
        refine x_iconst (pc := 17) dX6_arePrintedAlike_17 ?_
        refine x_retv (pc := 18) ⟨dX6_arePrintedAlike_18, Or.inr ⟨rfl, (by decide)⟩⟩ ?_
        by_cases hk : kAlike h a b
        · rw [zb_t hk] at hq
          first
            | exact hq
            | (exfalso; rcases hk with hk | ⟨qa, qb, q1, q2, q3⟩ <;> first | omega | contradiction)
        · rw [zb_f hk] at hq
          first
            | exact hq
            | (exfalso; exact hk (Or.inl ⟨by omega, by omega⟩))
            | (exfalso; exact hk (Or.inr ⟨by omega, by omega, by assumption, by assumption, by assumption⟩))
      · (try simp (disch := omega) only [zb_e0, zb_n0, w32_id, w64_id, ne_eq, Classical.not_not] at c_10)
        simp only [ne_eq, zrf_eq ha1 hb1] at c_10
        refine x_iconst (pc := 13) dX6_arePrintedAlike_13 ?_
        refine x_goto (pc := 14) 18 dX6_arePrintedAlike_14 rfl ?_
        refine x_retv (pc := 18) ⟨dX6_arePrintedAlike_18, Or.inr ⟨rfl, (by decide)⟩⟩ ?_
        by_cases hk : kAlike h a b
        · rw [zb_t hk] at hq
          first
            | exact hq
            | (exfalso; rcases hk with hk | ⟨qa, qb, q1, q2, q3⟩ <;> first | omega | contradiction)
        · rw [zb_f hk] at hq
          first
            | exact hq
            | (exfalso; exact hk (Or.inl ⟨by omega, by omega⟩))
            | (exfalso; exact hk (Or.inr ⟨by omega, by omega, by assumption, by assumption, by assumption⟩))

def zRefuse (h : zH) (x zone day : Int) : Int := if ¬ (0 ≤ zone ∧ zone ≤ 9) ∨ day < 0 ∨ 9999999 < day then -1000002 else if h x 7 = 0 then -1000003 else 0


set_option maxHeartbeats 4000000 in
set_option maxRecDepth 100000 in
theorem c_refuse {x zone day : Int} (hX : isXT ty x) (hz : i32 zone) (hd : i64 day) (hc : 0 ≤ h x 7 ∧ h x 7 ≤ 5) (hq : Q (some (iV (zRefuse h x zone day))) ty sz h) : zXM D mX6_pricingRefusal (d + 2) 0 0 [rV x, iV zone, lV day] ty sz h Q := by
  have hX0 := hX
  obtain ⟨x9, x0, hR, hP, hB, hB2, x14, x15, hEd⟩ := hX
  unfold zRefuse at hq
  refine x_iload_n (pc := 0) dX6_pricingRefusal_0 rfl ?_
  refine x_callS1 (pc := 1) dX6_pricingRefusal_1 (k_RX6_70 _ rfl) tms_X6_isName rfl rfl ?_
  refine c_isName (by omega) ?_
  dsimp only [Option.toList, List.cons_append, List.nil_append]
  refine x_if_eq (pc := 4) 21 dX6_pricingRefusal_4 rfl (fun c_4 => ?_) (fun c_4 => ?_)
  · (try simp (disch := omega) only [zb_e0, zb_n0, w32_id, w64_id, ne_eq, Classical.not_not] at c_4)
    refine x_ldc (pc := 21) dX6_pricingRefusal_21 (-1000002) tc_RX6_77 (by decide) ?_
    refine x_retv (pc := 23) ⟨dX6_pricingRefusal_23, Or.inl rfl⟩ ?_
    rw [if_pos (by omega)] at hq
    exact hq
  · (try simp (disch := omega) only [zb_e0, zb_n0, w32_id, w64_id, ne_eq, Classical.not_not] at c_4)
    refine x_lload_n (pc := 7) dX6_pricingRefusal_7 rfl ?_
    refine x_lconst (pc := 8) dX6_pricingRefusal_8 0 (by decide) ?_
    refine x_lcmp_lt (pc := 9) 21 dX6_pricingRefusal_9 dX6_pricingRefusal_10 rfl (fun c_9 => ?_) (fun c_9 => ?_)
    · (try simp (disch := omega) only [zb_e0, zb_n0, w32_id, w64_id, ne_eq, Classical.not_not] at c_9)
      refine x_ldc (pc := 21) dX6_pricingRefusal_21 (-1000002) tc_RX6_77 (by decide) ?_
      refine x_retv (pc := 23) ⟨dX6_pricingRefusal_23, Or.inl rfl⟩ ?_
      rw [if_pos (by omega)] at hq
      exact hq
    · (try simp (disch := omega) only [zb_e0, zb_n0, w32_id, w64_id, ne_eq, Classical.not_not] at c_9)
      refine x_lload_n (pc := 13) dX6_pricingRefusal_13 rfl ?_
      refine x_ldc2 (pc := 14) dX6_pricingRefusal_14 (9999999) tc_RX6_167 (by decide) ?_
      refine x_lcmp_le (pc := 17) 24 dX6_pricingRefusal_17 dX6_pricingRefusal_18 rfl (fun c_17 => ?_) (fun c_17 => ?_)
      · (try simp (disch := omega) only [zb_e0, zb_n0, w32_id, w64_id, ne_eq, Classical.not_not] at c_17)
        refine x_aload_n (pc := 24) dX6_pricingRefusal_24 rfl ?_
        refine x_callV0 (pc := 25) dX6_pricingRefusal_25 (k_RX6_104 _ rfl) tmv_X6_latest (by assumption) rfl rfl rfl ?_
        have hF : ∀ r, (r < 0 ↔ h x 7 = 0) → zX D mX6_pricingRefusal (d + 2) 0 0 28 [(0, rV x), (1, iV zone), (2, lV day)] [rV r] ty sz h Q := by
          intro r hr
          refine x_ifnonnull (pc := 28) 36 dX6_pricingRefusal_28 rfl (fun c_28 => ?_) (fun c_28 => ?_)
          · refine x_iconst (pc := 36) dX6_pricingRefusal_36 ?_
            refine x_retv (pc := 37) ⟨dX6_pricingRefusal_37, Or.inl rfl⟩ ?_
            rw [if_neg (by omega), if_neg (fun q => by have := hr.mpr q; omega)] at hq
            exact hq
          · refine x_ldc (pc := 31) dX6_pricingRefusal_31 (-1000003) tc_RX6_148 (by decide) ?_
            refine x_goto (pc := 33) 37 dX6_pricingRefusal_33 rfl ?_
            refine x_retv (pc := 37) ⟨dX6_pricingRefusal_37, Or.inl rfl⟩ ?_
            rw [if_neg (by omega), if_pos (hr.mp (by omega))] at hq
            exact hq
        refine c_latest hX0 hc (fun c => ?_) (fun c => ?_)
        · exact hF (-1) (by omega)
        · exact hF _ (by omega)
      · (try simp (disch := omega) only [zb_e0, zb_n0, w32_id, w64_id, ne_eq, Classical.not_not] at c_17)
        refine x_ldc (pc := 21) dX6_pricingRefusal_21 (-1000002) tc_RX6_77 (by decide) ?_
        refine x_retv (pc := 23) ⟨dX6_pricingRefusal_23, Or.inl rfl⟩ ?_
        rw [if_pos (by omega)] at hq
        exact hq

abbrev PT := Int × Int × Int
def BillIs (h : zH) (b : Int) (pl : List PT) (tot : Int) : Prop := h b 3 = pl.length ∧ h b 4 = tot ∧ ∀ (i : Nat) (q : PT), pl[i]? = some q → h (b + 1) i = q.1 ∧ h (b + 2) i = q.2.1 ∧ h (b + 3) i = q.2.2
theorem BillIs.fr {h h' : zH} {b tot : Int} {pl : List PT} (hB : BillIs h b pl tot) (hf : ∀ q, b ≤ q → q ≤ b + 3 → h' q = h q) : BillIs h' b pl tot := by
  unfold BillIs at *
  rw [hf b (by omega) (by omega), hf (b + 1) (by omega) (by omega), hf (b + 2) (by omega) (by omega), hf (b + 3) (by omega) (by omega)]
  exact hB

set_option maxHeartbeats 4000000 in
set_option maxRecDepth 100000 in
theorem c_b_add {b s u m tot : Int} {pl : List PT} (hb : isBT ty b) (hs : i32 s ∧ i32 u ∧ i32 m) (hB : BillIs h b pl tot) (hn : pl.length < 13) (ht : i64 tot ∧ i64 (tot + u)) (hq : ∀ h', Fr b (b + 3) h h' → BillIs h' b (pl ++ [(s, u, m)]) (tot + u) → Q none ty sz h') : zXM D mX0_add (d + 1) 0 0 [rV b, iV s, lV u, iV m] ty sz h Q := by
  obtain ⟨b9, b0, b1, b2, b3⟩ := hb
  obtain ⟨p3, p4, p5⟩ := hB
  refine x_aload_n (pc := 0) dX0_add_0 rfl ?_
  refine x_getF (pc := 1) dX0_add_1 f_RX0_9 (by assumption) (by rfl) ?_
  refine x_aload_n (pc := 4) dX0_add_4 rfl ?_
  refine y_getI 3 (pc := 5) dX0_add_5 f_RX0_27 (by assumption) rfl (fun b_5 => ?_)
  refine x_iload_n (pc := 8) dX0_add_8 rfl ?_
  refine x_callS3 (pc := 9) dX0_add_9 (k_RX0_81 _ rfl) tms_X6_put rfl rfl ?_
  refine c_put (N := 13) (by omega) (by omega) (by omega) (by assumption) (by decide) (by omega) ?_
  dsimp only [Option.toList, List.cons_append, List.nil_append]
  refine x_aload_n (pc := 12) dX0_add_12 rfl ?_
  refine x_getF (pc := 13) dX0_add_13 f_RX0_15 (by assumption) (by rfl) ?_
  refine x_aload_n (pc := 16) dX0_add_16 rfl ?_
  refine y_getI 3 (pc := 17) dX0_add_17 f_RX0_27 (by assumption) rfl (fun b_17 => ?_)
  refine x_lload_n (pc := 20) dX0_add_20 rfl ?_
  refine x_l2i (pc := 21) dX0_add_21 ?_
  refine x_callS3 (pc := 22) dX0_add_22 (k_RX0_81 _ rfl) tms_X6_put rfl rfl ?_
  rw [zup_ne (by omega)]
  refine c_put (N := 13) (by omega) (by omega) (by omega) (by assumption) (by decide) (by omega) ?_
  dsimp only [Option.toList, List.cons_append, List.nil_append]
  refine x_aload_n (pc := 25) dX0_add_25 rfl ?_
  refine x_getF (pc := 26) dX0_add_26 f_RX0_18 (by assumption) (by rfl) ?_
  refine x_aload_n (pc := 29) dX0_add_29 rfl ?_
  refine y_getI 3 (pc := 30) dX0_add_30 f_RX0_27 (by assumption) rfl (fun b_30 => ?_)
  refine x_iload (pc := 33) dX0_add_33 rfl ?_
  refine x_callS3 (pc := 35) dX0_add_35 (k_RX0_81 _ rfl) tms_X6_put rfl rfl ?_
  rw [zup_ne (by omega), zup_ne (by omega)]
  refine c_put (N := 13) (by omega) (by omega) (by omega) (by assumption) (by decide) (by omega) ?_
  dsimp only [Option.toList, List.cons_append, List.nil_append]
  refine x_aload_n (pc := 38) dX0_add_38 rfl ?_
  refine x_dup (pc := 39) dX0_add_39 rfl ?_
  refine y_getI 3 (pc := 40) dX0_add_40 f_RX0_27 (by assumption) rfl (fun b_40 => ?_)
  refine x_iconst (pc := 43) dX0_add_43 ?_
  rw [zup_ne (by omega), zup_ne (by omega), zup_ne (by omega)]
  refine x_iadd (pc := 44) dX0_add_44 ?_
  refine y_putI 3 (pc := 45) dX0_add_45 f_RX0_27 (by assumption) rfl (by rfl) (by omega) rfl ?_
  refine x_aload_n (pc := 48) dX0_add_48 rfl ?_
  refine x_dup (pc := 49) dX0_add_49 rfl ?_
  refine y_getL 4 (pc := 50) dX0_add_50 f_RX0_23 (by assumption) rfl (fun b_50 => ?_)
  refine x_lload_n (pc := 53) dX0_add_53 rfl ?_
  have e9 : (zup (zup (zup (zup h (b + 1) (h b 3) s) (b + 2) (h b 3) u) (b + 3) (h b 3) m) b 3 (h b 3 + 1)) b 4 = h b 4 := by simp [zup_app, zo1, zo2, zo3]
  rw [e9]
  refine x_ladd (pc := 54) dX0_add_54 ?_
  refine y_putL 4 (pc := 55) dX0_add_55 f_RX0_23 (by assumption) rfl (by rfl) (by omega) rfl ?_
  refine x_ret (pc := 58) ⟨dX0_add_58, rfl⟩ ?_
  refine hq _ ?_ ?_
  · exact ((((Fr.rf _ _ _).up (by omega) (by omega)).up (by omega) (by omega)).up (by omega) (by omega) |>.up (by omega) (by omega)).up (by omega) (by omega)
  · refine ⟨?_, ?_, ?_⟩
    · simp [zup_app, zo1, zo2, zo3, p3]
    · simp [zup_app, zo1, zo2, zo3, p4]
    · intro i q hi
      rw [p3]
      by_cases hl : i < pl.length
      · rw [List.getElem?_append_left hl] at hi
        have := p5 i q hi
        have e : ¬ ((i : Int) = pl.length) := by omega
        simp [zup_app, zo1, zo2, zo3, e, this]
      · rw [List.getElem?_append_right (by omega)] at hi
        have h0 : i - pl.length = 0 := by
          have := (List.getElem?_eq_some_iff.mp hi).1
          simp at this
          omega
        rw [h0] at hi
        cases hi
        have e : i = pl.length := by omega
        subst e
        simp [zup_app, zo1, zo2, zo3]

set_option maxHeartbeats 4000000 in
set_option maxRecDepth 100000 in
theorem c_b_tell {b i q tot : Int} {pl : List PT} (hb : isBT ty b) (hi : i32 i ∧ i32 q) (hB : BillIs h b pl tot) (hn : pl.length ≤ 13) (hq : Q (some (iV (if 0 ≤ i ∧ i < pl.length ∧ q = 0 then h (b + 1) i else if 0 ≤ i ∧ i < pl.length ∧ q = 1 then h (b + 2) i else if 0 ≤ i ∧ i < pl.length ∧ q = 2 then h (b + 3) i else -1))) ty sz h) : zXM D mX0_tell (d + 1) 0 0 [rV b, iV i, iV q] ty sz h Q := by
  obtain ⟨b9, b0, b1, b2, b3⟩ := hb
  obtain ⟨p3, p4, p5⟩ := hB
  refine x_iload_n (pc := 0) dX0_tell_0 rfl ?_
  refine x_if_lt (pc := 1) 12 dX0_tell_1 rfl (fun c_1 => ?_) (fun c_1 => ?_)
  · (try simp (disch := omega) only [zb_e0, zb_n0, w32_id, w64_id, ne_eq, Classical.not_not] at c_1)
    refine x_iconst (pc := 12) dX0_tell_12 ?_
    refine x_retv (pc := 13) ⟨dX0_tell_13, Or.inl rfl⟩ ?_
    first
      | (rw [if_neg (by omega), if_neg (by omega), if_neg (by omega)] at hq; exact hq)
      | (rw [if_pos (by omega)] at hq; exact hq)
      | (rw [if_neg (by omega), if_pos (by omega)] at hq; exact hq)
      | (rw [if_neg (by omega), if_neg (by omega), if_pos (by omega)] at hq; exact hq)
  · (try simp (disch := omega) only [zb_e0, zb_n0, w32_id, w64_id, ne_eq, Classical.not_not] at c_1)
    refine x_iload_n (pc := 4) dX0_tell_4 rfl ?_
    refine x_aload_n (pc := 5) dX0_tell_5 rfl ?_
    refine y_getI 3 (pc := 6) dX0_tell_6 f_RX0_27 (by assumption) rfl (fun b_6 => ?_)
    refine x_icmp_lt (pc := 9) 14 dX0_tell_9 rfl (fun c_9 => ?_) (fun c_9 => ?_)
    · (try simp (disch := omega) only [zb_e0, zb_n0, w32_id, w64_id, ne_eq, Classical.not_not] at c_9)
      refine x_iload_n (pc := 14) dX0_tell_14 rfl ?_
      refine sw_X0_tell_15 (fun t_15 => ?_) (fun t_15 => ?_) (fun t_15 => ?_) (fun t_15 => ?_)
      · (try simp (disch := omega) only [zb_e0, zb_n0, w32_id, w64_id, ne_eq, Classical.not_not] at t_15)
        refine x_aload_n (pc := 40) dX0_tell_40 rfl ?_
        refine x_getF (pc := 41) dX0_tell_41 f_RX0_9 (by assumption) (by rfl) ?_
        refine x_iload_n (pc := 44) dX0_tell_44 rfl ?_
        refine x_callS2 (pc := 45) dX0_tell_45 (k_RX0_52 _ rfl) tms_X6_cell rfl rfl ?_
        refine c_cellIn (N := 13) (by omega) (by omega) (by assumption) (by decide) (by omega) (fun bb => ?_)
        dsimp only [Option.toList, List.cons_append, List.nil_append]
        refine x_retv (pc := 48) ⟨dX0_tell_48, Or.inl rfl⟩ ?_
        first
          | (rw [if_neg (by omega), if_neg (by omega), if_neg (by omega)] at hq; exact hq)
          | (rw [if_pos (by omega)] at hq; exact hq)
          | (rw [if_neg (by omega), if_pos (by omega)] at hq; exact hq)
          | (rw [if_neg (by omega), if_neg (by omega), if_pos (by omega)] at hq; exact hq)
      · (try simp (disch := omega) only [zb_e0, zb_n0, w32_id, w64_id, ne_eq, Classical.not_not] at t_15)
        refine x_aload_n (pc := 49) dX0_tell_49 rfl ?_
        refine x_getF (pc := 50) dX0_tell_50 f_RX0_15 (by assumption) (by rfl) ?_
        refine x_iload_n (pc := 53) dX0_tell_53 rfl ?_
        refine x_callS2 (pc := 54) dX0_tell_54 (k_RX0_52 _ rfl) tms_X6_cell rfl rfl ?_
        refine c_cellIn (N := 13) (by omega) (by omega) (by assumption) (by decide) (by omega) (fun bb => ?_)
        dsimp only [Option.toList, List.cons_append, List.nil_append]
        refine x_retv (pc := 57) ⟨dX0_tell_57, Or.inl rfl⟩ ?_
        first
          | (rw [if_neg (by omega), if_neg (by omega), if_neg (by omega)] at hq; exact hq)
          | (rw [if_pos (by omega)] at hq; exact hq)
          | (rw [if_neg (by omega), if_pos (by omega)] at hq; exact hq)
          | (rw [if_neg (by omega), if_neg (by omega), if_pos (by omega)] at hq; exact hq)
      · (try simp (disch := omega) only [zb_e0, zb_n0, w32_id, w64_id, ne_eq, Classical.not_not] at t_15)
        refine x_aload_n (pc := 58) dX0_tell_58 rfl ?_
        refine x_getF (pc := 59) dX0_tell_59 f_RX0_18 (by assumption) (by rfl) ?_
        refine x_iload_n (pc := 62) dX0_tell_62 rfl ?_
        refine x_callS2 (pc := 63) dX0_tell_63 (k_RX0_52 _ rfl) tms_X6_cell rfl rfl ?_
        refine c_cellIn (N := 13) (by omega) (by omega) (by assumption) (by decide) (by omega) (fun bb => ?_)
        dsimp only [Option.toList, List.cons_append, List.nil_append]
        refine x_retv (pc := 66) ⟨dX0_tell_66, Or.inl rfl⟩ ?_
        first
          | (rw [if_neg (by omega), if_neg (by omega), if_neg (by omega)] at hq; exact hq)
          | (rw [if_pos (by omega)] at hq; exact hq)
          | (rw [if_neg (by omega), if_pos (by omega)] at hq; exact hq)
          | (rw [if_neg (by omega), if_neg (by omega), if_pos (by omega)] at hq; exact hq)
      · (try simp (disch := omega) only [zb_e0, zb_n0, w32_id, w64_id, ne_eq, Classical.not_not] at t_15)
        refine x_iconst (pc := 67) dX0_tell_67 ?_
        refine x_retv (pc := 68) ⟨dX0_tell_68, Or.inl rfl⟩ ?_
        first
          | (rw [if_neg (by omega), if_neg (by omega), if_neg (by omega)] at hq; exact hq)
          | (rw [if_pos (by omega)] at hq; exact hq)
          | (rw [if_neg (by omega), if_pos (by omega)] at hq; exact hq)
          | (rw [if_neg (by omega), if_neg (by omega), if_pos (by omega)] at hq; exact hq)
    · (try simp (disch := omega) only [zb_e0, zb_n0, w32_id, w64_id, ne_eq, Classical.not_not] at c_9)
      refine x_iconst (pc := 12) dX0_tell_12 ?_
      refine x_retv (pc := 13) ⟨dX0_tell_13, Or.inl rfl⟩ ?_
      first
        | (rw [if_neg (by omega), if_neg (by omega), if_neg (by omega)] at hq; exact hq)
        | (rw [if_pos (by omega)] at hq; exact hq)
        | (rw [if_neg (by omega), if_pos (by omega)] at hq; exact hq)
        | (rw [if_neg (by omega), if_neg (by omega), if_pos (by omega)] at hq; exact hq)

end C5
end
section
section C6
variable {D : va_G} {d : Nat} {ty : zT} {sz : Nat} {h : zH} {Q : zQ}
noncomputable def svL (h : zH) (a it : Int) : Nat → List PT
  | 0 => []
  | n + 1 => svL h a it n ++ @ite _ (hasS h it n) (Classical.propDecidable _) [(2, h (a + 4) n, (n : Int))] []
def kBase (h : zH) (a zone step : Int) : List PT := [(0, h (a + 2) step, step), (1, (h (a + 2) step * h (a + 3) zone).tdiv 100, zone)]
def sumP (pl : List PT) : Int := (pl.map (fun q => q.2.1)).sum
theorem sumP_app (l m : List PT) : sumP (l ++ m) = sumP l + sumP m := by
  unfold sumP
  rw [List.map_append, List.sum_append]
theorem sumP_1 (a b c : Int) : sumP [(a, b, c)] = b := by simp [sumP]
noncomputable def kPl0 (h : zH) (a it zone step : Int) : List PT := kBase h a zone step ++ svL h a it 10
noncomputable def kPl (h : zH) (a it zone step : Int) : List PT := if 0 < h a 14 then kPl0 h a it zone step ++ [(3, zdu (sumP (kPl0 h a it zone step)) (h a 14) * h a 14 - sumP (kPl0 h a it zone step), h a 14)] else kPl0 h a it zone step
def kOKp (h : zH) (a it zone step : Int) : Prop := (0 ≤ step ∧ step < 10) ∧ (0 ≤ h (a + 2) step ∧ h (a + 2) step ≤ 9999999) ∧ (0 ≤ h (a + 3) zone ∧ h (a + 3) zone ≤ 1000) ∧ (∀ s, 0 ≤ s → s < 10 → hasS h it s → 0 ≤ h (a + 4) s ∧ h (a + 4) s ≤ 9999999) ∧ (h a 14 = -1 ∨ (1 ≤ h a 14 ∧ h a 14 ≤ 1000))
theorem zpct {c p : Int} (hc : 0 ≤ c ∧ c ≤ 9999999) (hp : 0 ≤ p ∧ p ≤ 1000) : (0 ≤ c * p ∧ c * p ≤ 9999999000) ∧ 0 ≤ (c * p).tdiv 100 ∧ (c * p).tdiv 100 ≤ 99999990 := by
  have h1 : 0 * 0 ≤ c * p := Int.mul_le_mul hc.1 hp.1 (by omega) (by omega)
  have h2 : c * p ≤ 9999999 * 1000 := Int.mul_le_mul hc.2 hp.2 (by omega) (by omega)
  rw [Int.tdiv_eq_ediv_of_nonneg (by omega)]
  omega
theorem svL_y {a it : Int} {n : Nat} (hp : hasS h it n) : svL h a it (n + 1) = svL h a it n ++ [(2, h (a + 4) n, (n : Int))] := by
  show svL h a it n ++ @ite _ (hasS h it n) (Classical.propDecidable _) _ _ = _
  rw [if_pos hp]
theorem svL_n {a it : Int} {n : Nat} (hp : ¬ hasS h it n) : svL h a it (n + 1) = svL h a it n := by
  show svL h a it n ++ @ite _ (hasS h it n) (Classical.propDecidable _) _ _ = _
  rw [if_neg hp, List.append_nil]
theorem kPart_b {a it zone step : Int} (hk : kOKp h a it zone step) : ∀ n : Nat, n ≤ 10 → (kBase h a zone step ++ svL h a it n).length ≤ 2 + n ∧ 0 ≤ sumP (kBase h a zone step ++ svL h a it n) ∧ sumP (kBase h a zone step ++ svL h a it n) ≤ 110000000 + 10000000 * n
  | 0, _ => by
    obtain ⟨-, h1, h2, -⟩ := hk
    have := zpct h1 h2
    refine ⟨by simp [kBase, svL], ?_⟩
    simp only [svL, List.append_nil, kBase, sumP, List.map_cons, List.map_nil, List.sum_cons, List.sum_nil]
    omega
  | n + 1, hn => by
    obtain ⟨i1, i2, i3⟩ := kPart_b hk n (by omega)
    by_cases hp : hasS h it n
    · rw [svL_y hp, ← List.append_assoc, sumP_app, sumP_1, List.length_append, List.length_singleton]
      have := hk.2.2.2.1 n (by omega) (by omega) hp
      refine ⟨by omega, by omega, by omega⟩
    · rw [svL_n hp]
      refine ⟨by omega, i2, by omega⟩
theorem zdu_up {t n : Int} (ht : 0 ≤ t) (hn : 1 ≤ n) : 0 ≤ zdu t n * n - t ∧ zdu t n * n - t < n := by
  unfold zdu
  rw [if_pos (by omega), Int.tdiv_eq_ediv_of_nonneg (by omega)]
  have h1 := Int.emod_add_mul_ediv (t + n - 1) n
  have h2 := Int.emod_nonneg (t + n - 1) (show n ≠ 0 by omega)
  have h3 := Int.emod_lt_of_pos (t + n - 1) (show 0 < n by omega)
  rw [Int.mul_comm] at h1
  omega

set_option maxHeartbeats 4000000 in
set_option maxRecDepth 100000 in
theorem c_b_aP85 {b a it zone step : Int} (hb : isBT ty b) (hK : isKT ty a) (hI : isIT ty it) (hd1 : a + 5 < b ∨ b + 3 < a) (hd2 : it < b ∨ b + 3 < it) (hz : 0 ≤ zone ∧ zone ≤ 9) (hk : kOKp h a it zone step) (hq : ∀ h', Fr b (b + 3) h h' → BillIs h' b (kPl h a it zone step) (sumP (kPl h a it zone step)) → Q none ty sz h') {g : zH} (hF : Fr b (b + 3) h g) (hB : BillIs g b (kPl0 h a it zone step) (sumP (kPl0 h a it zone step))) : zX D mX0_addParts (d + 2) 0 0 85 [(0, rV b), (1, rV it), (2, rV a), (3, iV step), (4, iV zone)] [] ty sz g Q := by
  have hb0 := hb
  have hK0 := hK
  have hI0 := hI
  obtain ⟨b9, b0, b1, b2, b3⟩ := hb
  obtain ⟨k9, k0, k1, k2, k3, k4, k5⟩ := hK
  obtain ⟨i9, i0⟩ := hI
  obtain ⟨kk1, kk2, kk3, kk4, kk5⟩ := id hk
  have ea : ∀ q, a ≤ q → q ≤ a + 5 → g q = h q := fun q q1 q2 => hF q (by omega)
  have ei : g it = h it := hF it (by omega)
  have hp := kPart_b hk 10 (by omega)
  have hp0 : kPl0 h a it zone step = kBase h a zone step ++ svL h a it 10 := rfl
  rw [← hp0] at hp
  have e14 : g a 14 = h a 14 := by rw [ea a (by omega) (by omega)]
  have e4 : g b 4 = sumP (kPl0 h a it zone step) := hB.2.1
  refine x_aload_n (pc := 85) dX0_addParts_85 rfl ?_
  refine y_getI 14 (pc := 86) dX0_addParts_86 f_RX0_74 (by assumption) rfl (fun b_86 => ?_)
  refine x_if_le (pc := 89) 124 dX0_addParts_89 rfl (fun c_89 => ?_) (fun c_89 => ?_)
  · (try simp (disch := omega) only [zb_e0, zb_n0, w32_id, w64_id, ne_eq, Classical.not_not] at c_89)
    refine x_ret (pc := 124) ⟨dX0_addParts_124, rfl⟩ ?_
    first
      | (have eP : kPl h a it zone step = kPl0 h a it zone step := if_neg (by omega)
         rw [eP] at hq
         exact hq g hF hB)
      | (refine hq h' (Fr.tr hF hF2 (by omega) (by omega) (by omega) (by omega)) ?_
         rw [eP, sumP_app, sumP_1]
         exact hB2)
  · (try simp (disch := omega) only [zb_e0, zb_n0, w32_id, w64_id, ne_eq, Classical.not_not] at c_89)
    refine x_aload_n (pc := 92) dX0_addParts_92 rfl ?_
    refine x_iconst (pc := 93) dX0_addParts_93 ?_
    refine x_aload_n (pc := 94) dX0_addParts_94 rfl ?_
    refine y_getL 4 (pc := 95) dX0_addParts_95 f_RX0_23 (by assumption) rfl (fun b_95 => ?_)
    rw [e4]
    refine x_aload_n (pc := 98) dX0_addParts_98 rfl ?_
    refine y_getI 14 (pc := 99) dX0_addParts_99 f_RX0_74 (by assumption) rfl (fun b_99 => ?_)
    rw [e14]
    refine x_i2l (pc := 102) dX0_addParts_102 ?_
    rw [w32_id (by omega) (by omega)]
    refine x_callS2 (pc := 103) dX0_addParts_103 (k_RX0_77 _ rfl) tms_X6_dividedUp rfl rfl ?_
    refine c_dividedUp (by omega) (by omega) (by omega) (by omega) ?_
    dsimp only [Option.toList, List.cons_append, List.nil_append]
    refine x_aload_n (pc := 106) dX0_addParts_106 rfl ?_
    refine y_getI 14 (pc := 107) dX0_addParts_107 f_RX0_74 (by assumption) rfl (fun b_107 => ?_)
    rw [e14]
    refine x_i2l (pc := 110) dX0_addParts_110 ?_
    rw [w32_id (by omega) (by omega)]
    refine x_lmul (pc := 111) dX0_addParts_111 ?_
    refine x_aload_n (pc := 112) dX0_addParts_112 rfl ?_
    refine y_getL 4 (pc := 113) dX0_addParts_113 f_RX0_23 (by assumption) rfl (fun b_113 => ?_)
    rw [e4]
    refine x_lsub (pc := 116) dX0_addParts_116 ?_
    refine x_aload_n (pc := 117) dX0_addParts_117 rfl ?_
    refine y_getI 14 (pc := 118) dX0_addParts_118 f_RX0_74 (by assumption) rfl (fun b_118 => ?_)
    rw [e14]
    refine x_callV3 (pc := 121) dX0_addParts_121 (k_RX0_56 _ rfl) tmv_X0_add (by assumption) rfl rfl rfl ?_
    have hu := zdu_up (t := sumP (kPl0 h a it zone step)) (n := h a 14) (by omega) (by omega)
    refine c_b_add hb0 ⟨by omega, by omega, by omega⟩ hB (by omega) ⟨by omega, by omega⟩ (fun h' hF2 hB2 => ?_)
    have eP : kPl h a it zone step = kPl0 h a it zone step ++ [(3, zdu (sumP (kPl0 h a it zone step)) (h a 14) * h a 14 - sumP (kPl0 h a it zone step), h a 14)] := if_pos (by omega)
    dsimp only [Option.toList, List.cons_append, List.nil_append]
    refine x_ret (pc := 124) ⟨dX0_addParts_124, rfl⟩ ?_
    first
      | (have eP : kPl h a it zone step = kPl0 h a it zone step := if_neg (by omega)
         rw [eP] at hq
         exact hq g hF hB)
      | (refine hq h' (Fr.tr hF hF2 (by omega) (by omega) (by omega) (by omega)) ?_
         rw [eP, sumP_app, sumP_1]
         exact hB2)

set_option maxHeartbeats 4000000 in
set_option maxRecDepth 100000 in
theorem c_b_aP46 {b a it zone step : Int} (hb : isBT ty b) (hK : isKT ty a) (hI : isIT ty it) (hd1 : a + 5 < b ∨ b + 3 < a) (hd2 : it < b ∨ b + 3 < it) (hz : 0 ≤ zone ∧ zone ≤ 9) (hk : kOKp h a it zone step) (hq : ∀ h', Fr b (b + 3) h h' → BillIs h' b (kPl h a it zone step) (sumP (kPl h a it zone step)) → Q none ty sz h') : ∀ (n : Nat) (s : Nat) (g : zH), s ≤ 10 → Fr b (b + 3) h g → BillIs g b (kBase h a zone step ++ svL h a it s) (sumP (kBase h a zone step ++ svL h a it s)) → 10 - s < n → zX D mX0_addParts (d + 2) 0 0 46 [(7, iV (s : Int)), (0, rV b), (1, rV it), (2, rV a), (3, iV step), (4, iV zone)] [] ty sz g Q := by
  intro n
  induction n with
  | zero =>
    intro s g h1 hF hB hm
    exfalso
    omega
  | succ n ih =>
    intro s g h1 hF hB hm
    have hb0 := hb
    have hK0 := hK
    have hI0 := hI
    obtain ⟨b9, b0, b1, b2, b3⟩ := hb
    obtain ⟨k9, k0, k1, k2, k3, k4, k5⟩ := hK
    obtain ⟨i9, i0⟩ := hI
    obtain ⟨kk1, kk2, kk3, kk4, kk5⟩ := id hk
    have ea : ∀ q, a ≤ q → q ≤ a + 5 → g q = h q := fun q q1 q2 => hF q (by omega)
    have ei : g it = h it := hF it (by omega)
    have hp := kPart_b hk s (by omega)
    refine x_iload (pc := 46) dX0_addParts_46 rfl ?_
    refine x_bipush (pc := 48) dX0_addParts_48 (by decide) ?_
    refine x_icmp_ge (pc := 50) 85 dX0_addParts_50 rfl (fun c_50 => ?_) (fun c_50 => ?_)
    · (try simp (disch := omega) only [zb_e0, zb_n0, w32_id, w64_id, ne_eq, Classical.not_not] at c_50)
      have es : s = 10 := by omega
      subst es
      exact x_loc _ (by exact ⟨rfl, rfl, rfl, rfl, rfl, trivial⟩) (c_b_aP85 hb0 hK0 hI0 hd1 hd2 hz hk hq hF hB)
    · (try simp (disch := omega) only [zb_e0, zb_n0, w32_id, w64_id, ne_eq, Classical.not_not] at c_50)
      refine x_aload_n (pc := 53) dX0_addParts_53 rfl ?_
      refine x_iload (pc := 54) dX0_addParts_54 rfl ?_
      refine x_callV1 (pc := 56) dX0_addParts_56 (k_RX0_65 _ rfl) tmv_X2_has (by assumption) rfl rfl rfl ?_
      refine c_has hI0 (by omega) ?_
      dsimp only [Option.toList, List.cons_append, List.nil_append]
      refine x_if_eq (pc := 59) 79 dX0_addParts_59 rfl (fun c_59 => ?_) (fun c_59 => ?_)
      · (try simp (disch := omega) only [zb_e0, zb_n0, w32_id, w64_id, ne_eq, Classical.not_not] at c_59)
        refine x_iinc (pc := 79) dX0_addParts_79 rfl (by decide) ?_
        refine x_goto (pc := 82) 46 dX0_addParts_82 rfl ?_
        first
          | (have hs : ¬ hasS h it s := by unfold hasS at c_59 ⊢; rw [ei] at c_59; exact c_59
             refine x_loc _ (by exact ⟨rfl, rfl, rfl, rfl, rfl, rfl, trivial⟩) (ih (s + 1) g (by omega) hF (by rw [svL_n hs]; exact hB) (by omega)))
          | (refine x_loc _ (by exact ⟨rfl, rfl, rfl, rfl, rfl, rfl, trivial⟩) (ih (s + 1) h2 (by omega) (Fr.tr hF hF2 (by omega) (by omega) (by omega) (by omega)) (by rw [svL_y hs, ← List.append_assoc, sumP_app, sumP_1]; exact hB2) (by omega)))
      · (try simp (disch := omega) only [zb_e0, zb_n0, w32_id, w64_id, ne_eq, Classical.not_not] at c_59)
        refine x_aload_n (pc := 62) dX0_addParts_62 rfl ?_
        refine x_iconst (pc := 63) dX0_addParts_63 ?_
        refine x_aload_n (pc := 64) dX0_addParts_64 rfl ?_
        refine x_getF (pc := 65) dX0_addParts_65 f_RX0_71 (by assumption) (by rfl) ?_
        refine x_iload (pc := 68) dX0_addParts_68 rfl ?_
        refine x_callS2 (pc := 70) dX0_addParts_70 (k_RX0_52 _ rfl) tms_X6_cell rfl rfl ?_
        refine c_cellIn (N := 10) (by omega) (by omega) (by assumption) (by decide) (by omega) (fun bb => ?_)
        dsimp only [Option.toList, List.cons_append, List.nil_append]
        refine x_i2l (pc := 73) dX0_addParts_73 ?_
        refine x_iload (pc := 74) dX0_addParts_74 rfl ?_
        refine x_callV3 (pc := 76) dX0_addParts_76 (k_RX0_56 _ rfl) tmv_X0_add (by assumption) rfl rfl rfl ?_
        have hs : hasS h it s := by
          unfold hasS at c_59 ⊢
          rw [ei] at c_59
          exact c_59
        have hs4 := kk4 s (by omega) (by omega) hs
        have e4 : g (a + 4) s = h (a + 4) s := by rw [ea (a + 4) (by omega) (by omega)]
        rw [e4, w32_id (by omega) (by omega)]
        refine c_b_add hb0 ⟨by omega, by omega, by omega⟩ hB (by omega) ⟨by omega, by omega⟩ (fun h2 hF2 hB2 => ?_)
        dsimp only [Option.toList, List.cons_append, List.nil_append]
        refine x_iinc (pc := 79) dX0_addParts_79 rfl (by decide) ?_
        refine x_goto (pc := 82) 46 dX0_addParts_82 rfl ?_
        first
          | (have hs : ¬ hasS h it s := by unfold hasS at c_59 ⊢; rw [ei] at c_59; exact c_59
             refine x_loc _ (by exact ⟨rfl, rfl, rfl, rfl, rfl, rfl, trivial⟩) (ih (s + 1) g (by omega) hF (by rw [svL_n hs]; exact hB) (by omega)))
          | (refine x_loc _ (by exact ⟨rfl, rfl, rfl, rfl, rfl, rfl, trivial⟩) (ih (s + 1) h2 (by omega) (Fr.tr hF hF2 (by omega) (by omega) (by omega) (by omega)) (by rw [svL_y hs, ← List.append_assoc, sumP_app, sumP_1]; exact hB2) (by omega)))

set_option maxHeartbeats 4000000 in
set_option maxRecDepth 100000 in
theorem c_b_addParts {b a it zone step : Int} (hb : isBT ty b) (hK : isKT ty a) (hI : isIT ty it) (hd1 : a + 5 < b ∨ b + 3 < a) (hd2 : it < b ∨ b + 3 < it) (hz : 0 ≤ zone ∧ zone ≤ 9) (hk : kOKp h a it zone step) (hq : ∀ h', Fr b (b + 3) h h' → BillIs h' b (kPl h a it zone step) (sumP (kPl h a it zone step)) → Q none ty sz h') (hB : BillIs h b [] 0) : zXM D mX0_addParts (d + 2) 0 0 [rV b, rV it, rV a, iV step, iV zone] ty sz h Q := by
  have hb0 := hb
  have hK0 := hK
  have hI0 := hI
  obtain ⟨b9, b0, b1, b2, b3⟩ := hb
  obtain ⟨k9, k0, k1, k2, k3, k4, k5⟩ := hK
  obtain ⟨i9, i0⟩ := hI
  obtain ⟨kk1, kk2, kk3, kk4, kk5⟩ := id hk
  have hz2 := zpct kk2 kk3
  refine x_aload_n (pc := 0) dX0_addParts_0 rfl ?_
  refine x_getF (pc := 1) dX0_addParts_1 f_RX0_49 (by assumption) (by rfl) ?_
  refine x_iload_n (pc := 4) dX0_addParts_4 rfl ?_
  refine x_callS2 (pc := 5) dX0_addParts_5 (k_RX0_52 _ rfl) tms_X6_cell rfl rfl ?_
  refine c_cellIn (N := 10) (by omega) (by omega) (by assumption) (by decide) (by omega) (fun bb => ?_)
  dsimp only [Option.toList, List.cons_append, List.nil_append]
  refine x_i2l (pc := 8) dX0_addParts_8 ?_
  refine x_lstore (pc := 9) dX0_addParts_9 (by decide) ?_
  refine x_aload_n (pc := 11) dX0_addParts_11 rfl ?_
  refine x_iconst (pc := 12) dX0_addParts_12 ?_
  refine x_lload (pc := 13) dX0_addParts_13 rfl ?_
  refine x_iload_n (pc := 15) dX0_addParts_15 rfl ?_
  refine x_callV3 (pc := 16) dX0_addParts_16 (k_RX0_56 _ rfl) tmv_X0_add (by assumption) rfl rfl rfl ?_
  rw [w32_id (by omega) (by omega)]
  refine c_b_add hb0 ⟨by omega, by omega, by omega⟩ hB (by simp) ⟨by omega, by omega⟩ (fun h1 hF1 hB1 => ?_)
  have e3 : h1 (a + 3) = h (a + 3) := hF1 _ (by omega)
  dsimp only [Option.toList, List.cons_append, List.nil_append]
  refine x_aload_n (pc := 19) dX0_addParts_19 rfl ?_
  refine x_iconst (pc := 20) dX0_addParts_20 ?_
  refine x_lload (pc := 21) dX0_addParts_21 rfl ?_
  refine x_aload_n (pc := 23) dX0_addParts_23 rfl ?_
  refine x_getF (pc := 24) dX0_addParts_24 f_RX0_60 (by assumption) (by rfl) ?_
  refine x_iload (pc := 27) dX0_addParts_27 rfl ?_
  refine x_callS2 (pc := 29) dX0_addParts_29 (k_RX0_52 _ rfl) tms_X6_cell rfl rfl ?_
  refine c_cellIn (N := 10) (by omega) (by omega) (by assumption) (by decide) (by omega) (fun bb => ?_)
  rw [e3]
  dsimp only [Option.toList, List.cons_append, List.nil_append]
  refine x_i2l (pc := 32) dX0_addParts_32 ?_
  rw [w32_id (by omega) (by omega)]
  refine x_lmul (pc := 33) dX0_addParts_33 ?_
  refine x_ldc2 (pc := 34) dX0_addParts_34 (100) tc_RX0_63 (by decide) ?_
  refine x_ldiv (pc := 37) dX0_addParts_37 (by rw [w64_id (by omega) (by omega)]; omega) ?_
  refine x_iload (pc := 38) dX0_addParts_38 rfl ?_
  refine x_callV3 (pc := 40) dX0_addParts_40 (k_RX0_56 _ rfl) tmv_X0_add (by assumption) rfl rfl rfl ?_
  rw [w64_id (z := h (a + 2) step * h (a + 3) zone) (by omega) (by omega), w64_id (z := 100) (by omega) (by omega)]
  refine c_b_add hb0 ⟨by omega, by omega, by omega⟩ hB1 (by simp) ⟨by omega, by omega⟩ (fun h2 hF2 hB2 => ?_)
  dsimp only [Option.toList, List.cons_append, List.nil_append]
  refine x_iconst (pc := 43) dX0_addParts_43 ?_
  refine x_istore (pc := 44) dX0_addParts_44 (by decide) ?_
  refine x_loc _ (by exact ⟨rfl, rfl, rfl, rfl, rfl, rfl, trivial⟩) (c_b_aP46 hb0 hK0 hI0 hd1 hd2 hz hk hq 11 0 h2 (by omega) (Fr.tr hF1 hF2 (by omega) (by omega) (by omega) (by omega)) ?_ (by omega))
  have e9 : kBase h a zone step ++ svL h a it 0 = [] ++ [(0, h (a + 2) step, step)] ++ [(1, (h (a + 2) step * h (a + 3) zone).tdiv 100, zone)] := rfl
  rw [e9, sumP_app, sumP_app, sumP_1, sumP_1]
  exact hB2

end C6
end
section
section C7
variable {D : va_G} {d : Nat} {ty : zT} {sz : Nat} {h : zH} {Q : zQ}
def kGood (h : zH) (a : Int) : Prop := (0 ≤ h a 1 ∧ h a 1 ≤ 10) ∧ (∀ i, 0 ≤ i → i < h a 1 → 0 ≤ h (a + 2) i ∧ h (a + 2) i ≤ 9999999) ∧ (∀ z, 0 ≤ z → z < 10 → h (a + 3) z = -1 ∨ (0 ≤ h (a + 3) z ∧ h (a + 3) z ≤ 1000)) ∧ (∀ z, 0 ≤ z → z < 10 → h (a + 4) z = -1 ∨ (0 ≤ h (a + 4) z ∧ h (a + 4) z ≤ 9999999)) ∧ (h a 11 = -1 ∨ (1 ≤ h a 11 ∧ h a 11 ≤ 9999999)) ∧ (h a 14 = -1 ∨ (1 ≤ h a 14 ∧ h a 14 ≤ 1000))
def kBillP (h : zH) (a it zone day : Int) : Prop := 0 ≤ a ∧ kTakes h a it zone day ∧ kStep h a (kWeight h a it) ≠ -1
noncomputable def kBill (h : zH) (a it zone day : Int) : List PT × Int := @ite _ (kBillP h a it zone day) (Classical.propDecidable _) (kPl h a it zone (kStep h a (kWeight h a it)), sumP (kPl h a it zone (kStep h a (kWeight h a it)))) ([], -1)
theorem kBill_y {a it zone day : Int} (hp : kBillP h a it zone day) : kBill h a it zone day = (kPl h a it zone (kStep h a (kWeight h a it)), sumP (kPl h a it zone (kStep h a (kWeight h a it)))) := if_pos hp
theorem kBill_n {a it zone day : Int} (hp : ¬ kBillP h a it zone day) : kBill h a it zone day = ([], -1) := if_neg hp
theorem zfst_r {p : Int → Prop} : ∀ (n : Nat) (i : Int), 0 ≤ i → zfst p n i = -1 ∨ (i ≤ zfst p n i ∧ zfst p n i < i + n ∧ p (zfst p n i))
  | 0, i, _ => Or.inl rfl
  | n + 1, i, hi => by
    by_cases hp : p i
    · rw [zfst_y hp]
      exact Or.inr ⟨by omega, by omega, hp⟩
    · rw [zfst_n hp]
      rcases zfst_r n (i + 1) (by omega) with q | ⟨q1, q2, q3⟩
      · exact Or.inl q
      · exact Or.inr ⟨by omega, by omega, q3⟩
section KFR
variable {h' : zH} {a it : Int} (ea : ∀ q, a ≤ q → q ≤ a + 5 → h' q = h q) (ei : h' it = h it)
theorem kTakes_fr (ea : ∀ q, a ≤ q → q ≤ a + 5 → h' q = h q) (ei : h' it = h it) (zone day : Int) : kTakes h' a it zone day = kTakes h a it zone day := by
  unfold kTakes kServ hasS
  rw [ei, ea a (by omega) (by omega), ea (a + 3) (by omega) (by omega), ea (a + 4) (by omega) (by omega), ea (a + 5) (by omega) (by omega)]
theorem kWeight_fr (ea : ∀ q, a ≤ q → q ≤ a + 5 → h' q = h q) (ei : h' it = h it) : kWeight h' a it = kWeight h a it := by
  unfold kWeight
  rw [ei, ea a (by omega) (by omega)]
theorem kStep_fr (ea : ∀ q, a ≤ q → q ≤ a + 5 → h' q = h q) (wt : Int) : kStep h' a wt = kStep h a wt := by
  unfold kStep
  rw [ea a (by omega) (by omega), ea (a + 1) (by omega) (by omega)]
theorem svL_fr (ea : ∀ q, a ≤ q → q ≤ a + 5 → h' q = h q) (ei : h' it = h it) : ∀ n, svL h' a it n = svL h a it n
  | 0 => rfl
  | n + 1 => by
    have e : hasS h' it n = hasS h it n := by unfold hasS; rw [ei]
    by_cases hp : hasS h it n
    · rw [svL_y hp, svL_y (by rw [e]; exact hp), svL_fr ea ei n, ea (a + 4) (by omega) (by omega)]
    · rw [svL_n hp, svL_n (by rw [e]; exact hp), svL_fr ea ei n]
theorem kPl_fr (ea : ∀ q, a ≤ q → q ≤ a + 5 → h' q = h q) (ei : h' it = h it) (zone step : Int) : kPl h' a it zone step = kPl h a it zone step := by
  unfold kPl kPl0 kBase
  rw [svL_fr ea ei, ea a (by omega) (by omega), ea (a + 2) (by omega) (by omega), ea (a + 3) (by omega) (by omega)]
theorem kBill_fr (ea : ∀ q, a ≤ q → q ≤ a + 5 → h' q = h q) (ei : h' it = h it) (zone day : Int) : kBill h' a it zone day = kBill h a it zone day := by
  unfold kBill kBillP
  rw [kTakes_fr ea ei, kWeight_fr ea ei, kStep_fr ea, kPl_fr ea ei]
theorem kGood_fr (ea : ∀ q, a ≤ q → q ≤ a + 5 → h' q = h q) : kGood h' a = kGood h a := by
  unfold kGood
  rw [ea a (by omega) (by omega), ea (a + 2) (by omega) (by omega), ea (a + 3) (by omega) (by omega), ea (a + 4) (by omega) (by omega)]
end KFR
theorem kOKp_of {a it zone day : Int} (hg : kGood h a) (hz : 0 ≤ zone ∧ zone ≤ 9) (ht : kTakes h a it zone day) (hs : kStep h a (kWeight h a it) ≠ -1) : kOKp h a it zone (kStep h a (kWeight h a it)) := by
  obtain ⟨g1, g2, g3, g4, g5, g6⟩ := hg
  obtain ⟨t1, t2, t3, t4⟩ := ht
  have hr : 0 ≤ kStep h a (kWeight h a it) ∧ kStep h a (kWeight h a it) < h a 1 := by
    rcases zfst_r (p := fun i => kWeight h a it ≤ h (a + 1) i) (h a 1).toNat 0 (by omega) with q | ⟨q1, q2, -⟩
    · exact absurd q hs
    · unfold kStep
      omega
  refine ⟨⟨hr.1, by omega⟩, g2 _ hr.1 hr.2, ?_, fun s s0 s1 hh => ?_, g6⟩
  · rcases g3 zone (by omega) (by omega) with q | q
    · exact absurd q t3
    · exact q
  · rcases g4 s s0 s1 with q | q
    · exact absurd q (t4 s s0 s1 hh).1
    · exact q

set_option maxHeartbeats 4000000 in
set_option maxRecDepth 100000 in
theorem c_b_make {b a it zone day : Int} (hb : isBT ty b) (hKa : a = -1 ∨ isKT ty a ∧ kGood h a) (hI : isIT ty it) (hit : itOK h it) (hd1 : a + 5 < b ∨ b + 3 < a) (hd2 : it < b ∨ b + 3 < it) (hz : 0 ≤ zone ∧ zone ≤ 9) (hdy : 0 ≤ day ∧ day ≤ 9999999) (hq : ∀ h', Fr b (b + 3) h h' → BillIs h' b (kBill h a it zone day).1 (kBill h a it zone day).2 → Q none ty sz h') : zXM D mX0_make (d + 3) 0 0 [rV b, rV it, rV a, iV zone, lV day] ty sz h Q := by
  have hb0 := hb
  have hI0 := hI
  obtain ⟨b9, b0, b1, b2, b3⟩ := hb
  obtain ⟨i9, i0⟩ := hI
  have F1 : Fr b (b + 3) h (zup (zup h b 3 0) b 4 (-1)) := ((Fr.rf _ _ _).up (by omega) (by omega)).up (by omega) (by omega)
  have B1 : BillIs (zup (zup h b 3 0) b 4 (-1)) b [] (-1) := ⟨by simp [zup_app], by simp [zup_app], fun i q hi => by simp at hi⟩
  have B2 : BillIs (zup (zup (zup h b 3 0) b 4 (-1)) b 4 0) b [] 0 := ⟨by simp [zup_app], by simp [zup_app], fun i q hi => by simp at hi⟩
  have F2 : Fr b (b + 3) h (zup (zup (zup h b 3 0) b 4 (-1)) b 4 0) := F1.up (by omega) (by omega)
  have ei : (zup (zup h b 3 0) b 4 (-1)) it = h it := F1 it (by omega)
  have ei2 : (zup (zup (zup h b 3 0) b 4 (-1)) b 4 0) it = h it := F2 it (by omega)
  have hN : ¬ kBillP h a it zone day → Q none ty sz (zup (zup h b 3 0) b 4 (-1)) := by
    intro hn
    rw [kBill_n hn] at hq
    exact hq _ F1 B1
  refine x_aload_n (pc := 0) dX0_make_0 rfl ?_
  refine x_iconst (pc := 1) dX0_make_1 ?_
  refine y_putI 3 (pc := 2) dX0_make_2 f_RX0_27 (by assumption) rfl (by rfl) (by omega) rfl ?_
  refine x_aload_n (pc := 5) dX0_make_5 rfl ?_
  refine x_ldc2 (pc := 6) dX0_make_6 (-1) tc_RX0_21 (by decide) ?_
  refine y_putL 4 (pc := 9) dX0_make_9 f_RX0_23 (by assumption) rfl (by rfl) (by omega) rfl ?_
  refine x_aload_n (pc := 12) dX0_make_12 rfl ?_
  refine x_ifnull (pc := 13) 31 dX0_make_13 rfl (fun c_13 => ?_) (fun c_13 => ?_)
  · (try simp (disch := omega) only [zb_e0, zb_n0, w32_id, w64_id, ne_eq, Classical.not_not] at c_13)
    omega
  · (try simp (disch := omega) only [zb_e0, zb_n0, w32_id, w64_id, ne_eq, Classical.not_not] at c_13)
    refine x_aload_n (pc := 16) dX0_make_16 rfl ?_
    refine x_ifnull (pc := 17) 31 dX0_make_17 rfl (fun c_17 => ?_) (fun c_17 => ?_)
    · (try simp (disch := omega) only [zb_e0, zb_n0, w32_id, w64_id, ne_eq, Classical.not_not] at c_17)
      refine x_ret (pc := 31) ⟨dX0_make_31, rfl⟩ ?_
      exact hN (fun q => by have := q.1; omega)
    · (try simp (disch := omega) only [zb_e0, zb_n0, w32_id, w64_id, ne_eq, Classical.not_not] at c_17)
      have hK : isKT ty a ∧ kGood h a := by
        rcases hKa with e | e
        · omega
        · exact e
      obtain ⟨hK, hg⟩ := hK
      have hK0 := hK
      obtain ⟨k9, k0, k1, k2, k3, k4, k5⟩ := hK
      have ea : ∀ q, a ≤ q → q ≤ a + 5 → (zup (zup h b 3 0) b 4 (-1)) q = h q := fun q q1 q2 => F1 q (by omega)
      have ea2 : ∀ q, a ≤ q → q ≤ a + 5 → (zup (zup (zup h b 3 0) b 4 (-1)) b 4 0) q = h q := fun q q1 q2 => F2 q (by omega)
      have hg1 : kGood (zup (zup h b 3 0) b 4 (-1)) a := by rw [kGood_fr ea]; exact hg
      have hit1 : itOK (zup (zup h b 3 0) b 4 (-1)) it := by unfold itOK; rw [ei]; exact hit
      refine x_aload_n (pc := 20) dX0_make_20 rfl ?_
      refine x_aload_n (pc := 21) dX0_make_21 rfl ?_
      refine x_iload_n (pc := 22) dX0_make_22 rfl ?_
      refine x_lload (pc := 23) dX0_make_23 rfl ?_
      refine x_callV3 (pc := 25) dX0_make_25 (k_RX0_31 _ rfl) tmv_X3_takes (by assumption) rfl rfl rfl ?_
      refine c_k_takes hK0 hI0 hz hdy ?_
      rw [kTakes_fr ea ei]
      dsimp only [Option.toList, List.cons_append, List.nil_append]
      refine x_if_ne (pc := 28) 32 dX0_make_28 rfl (fun c_28 => ?_) (fun c_28 => ?_)
      · (try simp (disch := omega) only [zb_e0, zb_n0, w32_id, w64_id, ne_eq, Classical.not_not] at c_28)
        refine x_aload_n (pc := 32) dX0_make_32 rfl ?_
        refine x_aload_n (pc := 33) dX0_make_33 rfl ?_
        refine x_aload_n (pc := 34) dX0_make_34 rfl ?_
        refine x_callV1 (pc := 35) dX0_make_35 (k_RX0_37 _ rfl) tmv_X3_weightOf (by assumption) rfl rfl rfl ?_
        refine c_k_weightOf hK0 hI0 hit1 hg1.2.2.2.2.1 (fun bw => ?_)
        rw [kWeight_fr ea ei] at bw ⊢
        dsimp only [Option.toList, List.cons_append, List.nil_append]
        refine x_callV1 (pc := 38) dX0_make_38 (k_RX0_41 _ rfl) tmv_X3_stepFor (by assumption) rfl rfl rfl ?_
        refine c_k_stepFor hK0 hg1.1 (by omega) (fun bs => ?_)
        rw [kStep_fr ea] at bs ⊢
        dsimp only [Option.toList, List.cons_append, List.nil_append]
        refine x_istore (pc := 41) dX0_make_41 (by decide) ?_
        refine x_iload (pc := 43) dX0_make_43 rfl ?_
        refine x_iconst (pc := 45) dX0_make_45 ?_
        refine x_icmp_ne (pc := 46) 50 dX0_make_46 rfl (fun c_46 => ?_) (fun c_46 => ?_)
        · (try simp (disch := omega) only [zb_e0, zb_n0, w32_id, w64_id, ne_eq, Classical.not_not] at c_46)
          refine x_aload_n (pc := 50) dX0_make_50 rfl ?_
          refine x_lconst (pc := 51) dX0_make_51 0 (by decide) ?_
          refine y_putL 4 (pc := 52) dX0_make_52 f_RX0_23 (by assumption) rfl (by rfl) (by omega) rfl ?_
          refine x_aload_n (pc := 55) dX0_make_55 rfl ?_
          refine x_aload_n (pc := 56) dX0_make_56 rfl ?_
          refine x_aload_n (pc := 57) dX0_make_57 rfl ?_
          refine x_iload (pc := 58) dX0_make_58 rfl ?_
          refine x_iload_n (pc := 60) dX0_make_60 rfl ?_
          refine x_callV4 (pc := 61) dX0_make_61 (k_RX0_45 _ rfl) tmv_X0_addParts (by assumption) rfl rfl rfl ?_
          have hP : kBillP h a it zone day := ⟨by omega, c_28, c_46⟩
          have hko := kOKp_of hg hz c_28 c_46
          have hko2 : kOKp (zup (zup (zup h b 3 0) b 4 (-1)) b 4 0) a it zone (kStep h a (kWeight h a it)) := by
            unfold kOKp hasS at hko ⊢
            rw [ei2, ea2 a (by omega) (by omega), ea2 (a + 2) (by omega) (by omega), ea2 (a + 3) (by omega) (by omega), ea2 (a + 4) (by omega) (by omega)]
            exact hko
          refine c_b_addParts hb0 hK0 hI0 hd1 hd2 hz hko2 (fun h' hF hB => ?_) B2
          dsimp only [Option.toList, List.cons_append, List.nil_append]
          refine x_ret (pc := 64) ⟨dX0_make_64, rfl⟩ ?_
          rw [kPl_fr ea2 ei2] at hB
          rw [kBill_y hP] at hq
          exact hq h' (Fr.tr F2 hF (by omega) (by omega) (by omega) (by omega)) hB
        · (try simp (disch := omega) only [zb_e0, zb_n0, w32_id, w64_id, ne_eq, Classical.not_not] at c_46)
          refine x_ret (pc := 49) ⟨dX0_make_49, rfl⟩ ?_
          exact hN (fun q => q.2.2 c_46)
      · (try simp (disch := omega) only [zb_e0, zb_n0, w32_id, w64_id, ne_eq, Classical.not_not] at c_28)
        refine x_ret (pc := 31) ⟨dX0_make_31, rfl⟩ ?_
        exact hN (fun q => c_28 q.2.1)

end C7
end
section
section C8
variable {D : va_G} {d : Nat} {ty : zT} {sz : Nat} {h : zH} {Q : zQ}
/-- a number's digits, from the greatest unit on -/
def utF : Nat → Int → Int → Int
  | 0, _, u => u
  | n + 1, v, u => if 10 * u ≤ v then utF n v (10 * u) else u
def dgF : Nat → Int → Int → List Int
  | 0, _, _ => []
  | n + 1, v, u => if 0 < u then (48 + v / u % 10) :: dgF n v (u / 10) else []
def numT (v : Int) : List Int := dgF 8 v (utF 6 v 1)
abbrev PR := Int × Int × Int × Int
def rT (r : PR) : List Int := r.1 :: (numT r.2.1 ++ ((if r.2.2.1 = -1 then [] else 32 :: numT r.2.2.1) ++ (if r.2.2.2 = -1 then [] else 32 :: numT r.2.2.2)))
def semT (rs : List PR) : List Int := rs.flatMap (fun r => 59 :: rT r)
theorem semT_app (l m : List PR) : semT (l ++ m) = semT l ++ semT m := List.flatMap_append
theorem semT_1 (r : PR) : semT [r] = 59 :: rT r := by simp [semT]
theorem semT_nil : semT [] = [] := rfl
def PrIs (h : zH) (p : Int) (T : List Int) : Prop := h p 1 = T.length ∧ ∀ (i : Nat) (c : Int), T[i]? = some c → h (p + 1) i = c
theorem PrIs.fr {h h' : zH} {p : Int} {T : List Int} (hP : PrIs h p T) (hf : ∀ q, p ≤ q → q ≤ p + 1 → h' q = h q) : PrIs h' p T := by
  unfold PrIs at *
  rw [hf p (by omega) (by omega), hf (p + 1) (by omega) (by omega)]
  exact hP
theorem PrIs.push {h : zH} {p c : Int} {T : List Int} (hP : PrIs h p T) : PrIs (zup (zup h (p + 1) T.length c) p 1 (T.length + 1)) p (T ++ [c]) := by
  obtain ⟨h1, h2⟩ := hP
  refine ⟨by simp [zup_app, zo1, zo2, zo3], fun i q hi => ?_⟩
  by_cases hl : i < T.length
  · rw [List.getElem?_append_left hl] at hi
    have := h2 i q hi
    have e : ¬ ((i : Int) = T.length) := by omega
    simp [zup_app, zo1, zo2, zo3, e, this]
  · rw [List.getElem?_append_right (by omega)] at hi
    have h0 : i - T.length = 0 := by
      have := (List.getElem?_eq_some_iff.mp hi).1
      simp at this
      omega
    rw [h0] at hi
    cases hi
    have e : i = T.length := by omega
    subst e
    simp [zup_app, zo1, zo2, zo3]
def PrR (h : zH) (p : Int) (rs : List PR) : Prop := PrIs h p (semT rs).tail
/-- f 0 ++ f 1 ++ .. -/
def gL {α : Type} (f : Nat → List α) : Nat → List α
  | 0 => []
  | n + 1 => gL f n ++ f n
theorem gL_le {f : Nat → List PR} (rs : List PR) {n m : Nat} (h : n ≤ m) : (semT (rs ++ gL f n)).length ≤ (semT (rs ++ gL f m)).length := by
  induction m with
  | zero => rw [show n = 0 by omega]; exact Nat.le_refl _
  | succ m ih =>
    by_cases e : n = m + 1
    · rw [e]; exact Nat.le_refl _
    · refine Nat.le_trans (ih (by omega)) ?_
      show _ ≤ (semT (rs ++ (gL f m ++ f m))).length
      rw [← List.append_assoc, semT_app (rs ++ gL f m), List.length_append]
      omega
theorem utF_r : ∀ (n : Nat) (v u : Int), 1 ≤ u → u ≤ 9999999 → v ≤ 9999999 → 1 ≤ utF n v u ∧ utF n v u ≤ 9999999
  | 0, v, u, h1, h2, h3 => ⟨h1, h2⟩
  | n + 1, v, u, h1, h2, h3 => by
    unfold utF
    split
    · exact utF_r n v (10 * u) (by omega) (by omega) h3
    · exact ⟨h1, h2⟩

set_option maxHeartbeats 4000000 in
set_option maxRecDepth 100000 in
theorem c_p_start {p : Int} (hp : isPT ty p) (hq : ∀ h', Fr p (p + 1) h h' → PrR h' p [] → Q none ty sz h') : zXM D mX4_start d 0 0 [rV p] ty sz h Q := by
  obtain ⟨p9, p0, p1⟩ := hp
  refine x_aload_n (pc := 0) dX4_start_0 rfl ?_
  refine x_iconst (pc := 1) dX4_start_1 ?_
  refine y_putI 1 (pc := 2) dX4_start_2 f_RX4_15 (by assumption) rfl (by rfl) (by omega) rfl ?_
  refine x_ret (pc := 5) ⟨dX4_start_5, rfl⟩ ?_
  exact hq _ ((Fr.rf _ _ _).up (by omega) (by omega)) ⟨by simp [zup_app, semT], fun i c hi => by simp [semT] at hi⟩

set_option maxHeartbeats 4000000 in
set_option maxRecDepth 100000 in
theorem c_p_sign {p c : Int} {T : List Int} (hp : isPT ty p) (hc : i32 c) (hP : PrIs h p T) (hn : T.length < 1500) (hq : ∀ h', Fr p (p + 1) h h' → PrIs h' p (T ++ [c]) → Q none ty sz h') : zXM D mX4_addSign (d + 1) 0 0 [rV p, iV c] ty sz h Q := by
  obtain ⟨p9, p0, p1⟩ := hp
  have hl := hP.1
  refine x_aload_n (pc := 0) dX4_addSign_0 rfl ?_
  refine y_getI 1 (pc := 1) dX4_addSign_1 f_RX4_15 (by assumption) rfl (fun b_1 => ?_)
  refine x_sipush (pc := 4) dX4_addSign_4 (by decide) ?_
  refine x_icmp_ge (pc := 7) 32 dX4_addSign_7 rfl (fun c_7 => ?_) (fun c_7 => ?_)
  · (try simp (disch := omega) only [zb_e0, zb_n0, w32_id, w64_id, ne_eq, Classical.not_not] at c_7)
    omega
  · (try simp (disch := omega) only [zb_e0, zb_n0, w32_id, w64_id, ne_eq, Classical.not_not] at c_7)
    refine x_aload_n (pc := 10) dX4_addSign_10 rfl ?_
    refine x_getF (pc := 11) dX4_addSign_11 f_RX4_9 (by assumption) (by rfl) ?_
    refine x_aload_n (pc := 14) dX4_addSign_14 rfl ?_
    refine y_getI 1 (pc := 15) dX4_addSign_15 f_RX4_15 (by assumption) rfl (fun b_15 => ?_)
    refine x_iload_n (pc := 18) dX4_addSign_18 rfl ?_
    refine x_callS3 (pc := 19) dX4_addSign_19 (k_RX4_87 _ rfl) tms_X6_put rfl rfl ?_
    refine c_put (N := 1500) (by omega) (by omega) (by omega) (by assumption) (by decide) (by omega) ?_
    dsimp only [Option.toList, List.cons_append, List.nil_append]
    refine x_aload_n (pc := 22) dX4_addSign_22 rfl ?_
    refine x_dup (pc := 23) dX4_addSign_23 rfl ?_
    refine y_getI 1 (pc := 24) dX4_addSign_24 f_RX4_15 (by assumption) rfl (fun b_24 => ?_)
    rw [zup_ne (by omega)]
    refine x_iconst (pc := 27) dX4_addSign_27 ?_
    refine x_iadd (pc := 28) dX4_addSign_28 ?_
    refine y_putI 1 (pc := 29) dX4_addSign_29 f_RX4_15 (by assumption) rfl (by rfl) (by omega) rfl ?_
    refine x_ret (pc := 32) ⟨dX4_addSign_32, rfl⟩ ?_
    refine hq _ (((Fr.rf _ _ _).up (by omega) (by omega)).up (by omega) (by omega)) ?_
    have := hP.push (c := c)
    rw [hl]
    exact this

set_option maxHeartbeats 4000000 in
set_option maxRecDepth 100000 in
theorem c_p_num29 {p v : Int} (hp : isPT ty p) (hv : 0 ≤ v ∧ v ≤ 9999999) : ∀ (n : Nat) (u : Int) (g : zH) (T : List Int), 0 ≤ u → u ≤ 9999999 → u < 10 ^ n → PrIs g p T → T.length + (dgF n v u).length ≤ 1500 → Fr p (p + 1) h g → (∀ h', Fr p (p + 1) h h' → PrIs h' p (T ++ dgF n v u) → Q none ty sz h') → zX D mX4_addNumber (d + 2) 0 0 29 [(2, iV u), (0, rV p), (1, iV v)] [] ty sz g Q := by
  intro n
  induction n with
  | zero =>
    intro u g T h1 h1b h2 hP hl hF hq
    have e : u = 0 := by simp at h2; omega
    subst e
    refine x_iload_n (pc := 29) dX4_addNumber_29 rfl ?_
    refine x_if_le (pc := 30) 54 dX4_addNumber_30 rfl (fun c => ?_) (fun c => absurd (by decide) c)
    refine x_ret (pc := 54) ⟨dX4_addNumber_54, rfl⟩ ?_
    refine hq g hF ?_
    rw [show dgF 0 v 0 = [] from rfl, List.append_nil]
    exact hP
  | succ n ih =>
    intro u g T h1 h1b h2 hP hl hF hq
    have hp0 := hp
    obtain ⟨p9, p0, p1⟩ := hp
    have hm0 := Int.emod_nonneg (v / u) (show (10 : Int) ≠ 0 by decide)
    have hm1 := Int.emod_lt_of_pos (v / u) (show (0 : Int) < 10 by decide)
    refine x_iload_n (pc := 29) dX4_addNumber_29 rfl ?_
    refine x_if_le (pc := 30) 54 dX4_addNumber_30 rfl (fun c_30 => ?_) (fun c_30 => ?_)
    · (try simp (disch := omega) only [zb_e0, zb_n0, w32_id, w64_id, ne_eq, Classical.not_not] at c_30)
      refine x_ret (pc := 54) ⟨dX4_addNumber_54, rfl⟩ ?_
      refine hq g hF ?_
      have e : dgF (n + 1) v u = [] := if_neg (by omega)
      rw [e, List.append_nil]
      exact hP
    · (try simp (disch := omega) only [zb_e0, zb_n0, w32_id, w64_id, ne_eq, Classical.not_not] at c_30)
      refine x_aload_n (pc := 33) dX4_addNumber_33 rfl ?_
      refine x_bipush (pc := 34) dX4_addNumber_34 (by decide) ?_
      refine x_iload_n (pc := 36) dX4_addNumber_36 rfl ?_
      refine x_iload_n (pc := 37) dX4_addNumber_37 rfl ?_
      refine x_idiv (pc := 38) dX4_addNumber_38 (by rw [w32_id (by omega) (by omega)]; omega) ?_
      rw [w32_id (z := v) (by omega) (by omega), w32_id (z := u) (by omega) (by omega), Int.tdiv_eq_ediv_of_nonneg (by omega)]
      have hd0 : 0 ≤ v / u := Int.ediv_nonneg (by omega) (by omega)
      have hd1 : v / u ≤ v := Int.ediv_le_self _ (by omega)
      refine x_bipush (pc := 39) dX4_addNumber_39 (by decide) ?_
      refine x_irem (pc := 41) dX4_addNumber_41 (by decide) ?_
      rw [w32_id (z := v / u) (by omega) (by omega), show w32 10 = 10 from rfl, Int.tmod_eq_emod_of_nonneg (by omega)]
      refine x_iadd (pc := 42) dX4_addNumber_42 ?_
      refine x_callV1 (pc := 43) dX4_addNumber_43 (k_RX4_80 _ rfl) tmv_X4_addSign (by assumption) rfl rfl rfl ?_
      have e : dgF (n + 1) v u = (48 + v / u % 10) :: dgF n v (u / 10) := if_pos (by omega)
      rw [e] at hl hq
      rw [List.length_cons] at hl
      refine c_p_sign hp0 (by omega) hP (by omega) (fun g2 hF2 hP2 => ?_)
      dsimp only [Option.toList, List.cons_append, List.nil_append]
      refine x_iload_n (pc := 46) dX4_addNumber_46 rfl ?_
      refine x_bipush (pc := 47) dX4_addNumber_47 (by decide) ?_
      refine x_idiv (pc := 49) dX4_addNumber_49 (by decide) ?_
      rw [w32_id (z := u) (by omega) (by omega), show w32 10 = 10 from rfl, Int.tdiv_eq_ediv_of_nonneg (by omega)]
      refine x_istore_n (pc := 50) dX4_addNumber_50 (by decide) ?_
      refine x_goto (pc := 51) 29 dX4_addNumber_51 rfl ?_
      refine x_loc _ (by exact ⟨rfl, rfl, rfl, trivial⟩) (ih (u / 10) g2 (T ++ [48 + v / u % 10]) (by omega) (by omega) ?_ hP2 (by rw [List.length_append, List.length_singleton]; omega) (Fr.tr hF hF2 (by omega) (by omega) (by omega) (by omega)) (fun h' hf hp' => hq h' hf ?_))
      · rw [Int.pow_succ] at h2; omega
      · rw [List.append_assoc] at hp'; exact hp'

set_option maxHeartbeats 4000000 in
set_option maxRecDepth 100000 in
theorem c_p_num4 {p v : Int} {T : List Int} (hp : isPT ty p) (hv : 0 ≤ v ∧ v ≤ 9999999) (hP : PrIs h p T) (hl : T.length + (numT v).length ≤ 1500) (hq : ∀ h', Fr p (p + 1) h h' → PrIs h' p (T ++ numT v) → Q none ty sz h') : ∀ (n : Nat) (u j : Int), 1 ≤ u → u ≤ 9999999 → j = 7 - n → n ≤ 6 → utF n v u = utF 6 v 1 → zX D mX4_addNumber (d + 2) 0 0 4 [(3, iV j), (2, iV u), (0, rV p), (1, iV v)] [] ty sz h Q := by
  have E : ∀ (u j : Int), 1 ≤ u → u ≤ 9999999 → u = utF 6 v 1 → zX D mX4_addNumber (d + 2) 0 0 29 [(3, iV j), (2, iV u), (0, rV p), (1, iV v)] [] ty sz h Q := by
    intro u j h1 h2 h3
    have e : dgF 8 v u = numT v := by rw [h3]; rfl
    exact x_loc _ (by exact ⟨rfl, rfl, rfl, trivial⟩) (c_p_num29 hp hv 8 u h T (by omega) h2 (by omega) hP (by rw [e]; exact hl) (Fr.rf _ _ _) (by rw [e]; exact hq))
  intro n
  induction n with
  | zero =>
    intro u j h1 h2 hj hn hu
    refine x_iload_n (pc := 4) dX4_addNumber_4 rfl ?_
    refine x_bipush (pc := 5) dX4_addNumber_5 (by decide) ?_
    refine x_icmp_ge (pc := 7) 29 dX4_addNumber_7 rfl (fun c => E u j h1 h2 hu) (fun c => ?_)
    simp (disch := omega) only [w32_id] at c
    omega
  | succ n ih =>
    intro u j h1 h2 hj hn hu
    refine x_iload_n (pc := 4) dX4_addNumber_4 rfl ?_
    refine x_bipush (pc := 5) dX4_addNumber_5 (by decide) ?_
    refine x_icmp_ge (pc := 7) 29 dX4_addNumber_7 rfl (fun c_7 => ?_) (fun c_7 => ?_)
    · (try simp (disch := omega) only [zb_e0, zb_n0, w32_id, w64_id, ne_eq, Classical.not_not] at c_7)
      omega
    · (try simp (disch := omega) only [zb_e0, zb_n0, w32_id, w64_id, ne_eq, Classical.not_not] at c_7)
      refine x_iload_n (pc := 10) dX4_addNumber_10 rfl ?_
      refine x_iload_n (pc := 11) dX4_addNumber_11 rfl ?_
      refine x_bipush (pc := 12) dX4_addNumber_12 (by decide) ?_
      refine x_imul (pc := 14) dX4_addNumber_14 ?_
      refine x_icmp_lt (pc := 15) 29 dX4_addNumber_15 rfl (fun c_15 => ?_) (fun c_15 => ?_)
      · (try simp (disch := omega) only [zb_e0, zb_n0, w32_id, w64_id, ne_eq, Classical.not_not] at c_15)
        have e : utF (n + 1) v u = u := if_neg (by omega)
        rw [e] at hu
        exact E u j h1 h2 hu
      · (try simp (disch := omega) only [zb_e0, zb_n0, w32_id, w64_id, ne_eq, Classical.not_not] at c_15)
        refine x_iload_n (pc := 18) dX4_addNumber_18 rfl ?_
        refine x_bipush (pc := 19) dX4_addNumber_19 (by decide) ?_
        refine x_imul (pc := 21) dX4_addNumber_21 ?_
        refine x_istore_n (pc := 22) dX4_addNumber_22 (by decide) ?_
        refine x_iinc (pc := 23) dX4_addNumber_23 rfl (by decide) ?_
        refine x_goto (pc := 26) 4 dX4_addNumber_26 rfl ?_
        have e : utF (n + 1) v u = utF n v (10 * u) := if_pos (by omega)
        rw [e] at hu
        rw [Int.mul_comm u 10]
        exact x_loc _ (by exact ⟨rfl, rfl, rfl, rfl, trivial⟩) (ih (10 * u) (j + 1) (by omega) (by omega) (by omega) (by omega) hu)

set_option maxHeartbeats 4000000 in
set_option maxRecDepth 100000 in
theorem c_p_number {p v : Int} {T : List Int} (hp : isPT ty p) (hv : 0 ≤ v ∧ v ≤ 9999999) (hP : PrIs h p T) (hl : T.length + (numT v).length ≤ 1500) (hq : ∀ h', Fr p (p + 1) h h' → PrIs h' p (T ++ numT v) → Q none ty sz h') : zXM D mX4_addNumber (d + 2) 0 0 [rV p, iV v] ty sz h Q := by
  refine x_iconst (pc := 0) dX4_addNumber_0 ?_
  refine x_istore_n (pc := 1) dX4_addNumber_1 (by decide) ?_
  refine x_iconst (pc := 2) dX4_addNumber_2 ?_
  refine x_istore_n (pc := 3) dX4_addNumber_3 (by decide) ?_
  exact x_loc _ (by exact ⟨rfl, rfl, rfl, rfl, trivial⟩) (c_p_num4 hp hv hP hl hq 6 1 1 (by omega) (by omega) (by omega) (by omega) rfl)

end C8
end
section
section C9
variable {D : va_G} {d : Nat} {ty : zT} {sz : Nat} {h : zH} {Q : zQ}
theorem Fr.t {lo hi : Int} {a b c : zH} (x : Fr lo hi a b) (y : Fr lo hi b c) : Fr lo hi a c := fun q hq => (y q hq).trans (x q hq)
abbrev i10 (x : Int) : Prop := 0 ≤ x ∧ x ≤ 9999999
theorem semT_tail_snoc (rs : List PR) (r : PR) : (semT (rs ++ [r])).tail = (semT rs).tail ++ ((if rs = [] then [] else [59]) ++ rT r) := by
  cases rs with
  | nil => simp [semT]
  | cons q l =>
    rw [semT_app, semT_1]
    simp [semT]
theorem semT_tail_len (rs : List PR) (hne : rs ≠ []) : (semT rs).tail.length + 1 = (semT rs).length ∧ 0 < (semT rs).tail.length := by
  cases rs with
  | nil => exact absurd rfl hne
  | cons q l => simp [semT, rT]

set_option maxHeartbeats 4000000 in
set_option maxRecDepth 100000 in
theorem c_p_row39 {p c a b e : Int} (hp : isPT ty p) (hc : i32 c) (ha : i10 a) (hb : b = -1 ∨ i10 b) (he : e = -1 ∨ i10 e) {g : zH} {T U : List Int} (hF : Fr p (p + 1) h g) (hP : PrIs g p T) (hU : T ++ (if e = -1 then [] else 32 :: numT e) = U) (hl : U.length ≤ 1500) (hq : ∀ h', Fr p (p + 1) h h' → PrIs h' p U → Q none ty sz h') : zX D mX4_addRow (d + 3) 0 0 39 [(0, rV p), (1, iV c), (2, iV a), (3, iV b), (4, iV e)] [] ty sz g Q := by
  have hp0 := hp
  obtain ⟨p9, p0, p1⟩ := hp
  refine x_iload (pc := 39) dX4_addRow_39 rfl ?_
  refine x_iconst (pc := 41) dX4_addRow_41 ?_
  refine x_icmp_eq (pc := 42) 57 dX4_addRow_42 rfl (fun c_42 => ?_) (fun c_42 => ?_)
  · (try simp (disch := omega) only [zb_e0, zb_n0, w32_id, w64_id, ne_eq, Classical.not_not] at c_42)
    refine x_ret (pc := 57) ⟨dX4_addRow_57, rfl⟩ ?_
    first
      | (refine hq _ (Fr.t (Fr.t hF hF1) hF2) ?_
         rw [List.append_assoc] at hP2
         exact hP2)
      | (rw [if_pos (by assumption), List.append_nil] at hU
         subst hU
         exact hq g hF hP)
  · (try simp (disch := omega) only [zb_e0, zb_n0, w32_id, w64_id, ne_eq, Classical.not_not] at c_42)
    rw [if_neg c_42] at hU
    subst hU
    refine x_aload_n (pc := 45) dX4_addRow_45 rfl ?_
    refine x_bipush (pc := 46) dX4_addRow_46 (by decide) ?_
    refine x_callV1 (pc := 48) dX4_addRow_48 (k_RX4_80 _ rfl) tmv_X4_addSign (by assumption) rfl rfl rfl ?_
    refine c_p_sign hp0 (by omega) hP (by (try simp only [List.length_append, List.length_singleton, List.length_cons, List.length_nil] at *); omega) (fun g1 hF1 hP1 => ?_)
    dsimp only [Option.toList, List.cons_append, List.nil_append]
    refine x_aload_n (pc := 51) dX4_addRow_51 rfl ?_
    refine x_iload (pc := 52) dX4_addRow_52 rfl ?_
    refine x_callV1 (pc := 54) dX4_addRow_54 (k_RX4_84 _ rfl) tmv_X4_addNumber (by assumption) rfl rfl rfl ?_
    refine c_p_number hp0 (by omega) hP1 (by (try simp only [List.length_append, List.length_singleton, List.length_cons, List.length_nil] at *); omega) (fun g2 hF2 hP2 => ?_)
    dsimp only [Option.toList, List.cons_append, List.nil_append]
    refine x_ret (pc := 57) ⟨dX4_addRow_57, rfl⟩ ?_
    first
      | (refine hq _ (Fr.t (Fr.t hF hF1) hF2) ?_
         rw [List.append_assoc] at hP2
         exact hP2)
      | (rw [if_pos (by assumption), List.append_nil] at hU
         subst hU
         exact hq g hF hP)

set_option maxHeartbeats 4000000 in
set_option maxRecDepth 100000 in
theorem c_p_row13 {p c a b e : Int} (hp : isPT ty p) (hc : i32 c) (ha : i10 a) (hb : b = -1 ∨ i10 b) (he : e = -1 ∨ i10 e) {g : zH} {T U : List Int} (hF : Fr p (p + 1) h g) (hP : PrIs g p T) (hU : T ++ rT (c, a, b, e) = U) (hl : U.length ≤ 1500) (hq : ∀ h', Fr p (p + 1) h h' → PrIs h' p U → Q none ty sz h') : zX D mX4_addRow (d + 3) 0 0 13 [(0, rV p), (1, iV c), (2, iV a), (3, iV b), (4, iV e)] [] ty sz g Q := by
  have hp0 := hp
  obtain ⟨p9, p0, p1⟩ := hp
  have hl2 : (T ++ rT (c, a, b, e)).length ≤ 1500 := by rw [hU]; exact hl
  simp only [rT, List.length_append, List.length_cons] at hl2
  refine x_aload_n (pc := 13) dX4_addRow_13 rfl ?_
  refine x_iload_n (pc := 14) dX4_addRow_14 rfl ?_
  refine x_callV1 (pc := 15) dX4_addRow_15 (k_RX4_80 _ rfl) tmv_X4_addSign (by assumption) rfl rfl rfl ?_
  refine c_p_sign hp0 (by omega) hP (by (try simp only [List.length_append, List.length_singleton, List.length_cons, List.length_nil] at *); omega) (fun g1 hF1 hP1 => ?_)
  dsimp only [Option.toList, List.cons_append, List.nil_append]
  refine x_aload_n (pc := 18) dX4_addRow_18 rfl ?_
  refine x_iload_n (pc := 19) dX4_addRow_19 rfl ?_
  refine x_callV1 (pc := 20) dX4_addRow_20 (k_RX4_84 _ rfl) tmv_X4_addNumber (by assumption) rfl rfl rfl ?_
  refine c_p_number hp0 (by omega) hP1 (by (try simp only [List.length_append, List.length_singleton, List.length_cons, List.length_nil] at *); omega) (fun g2 hF2 hP2 => ?_)
  dsimp only [Option.toList, List.cons_append, List.nil_append]
  refine x_iload_n (pc := 23) dX4_addRow_23 rfl ?_
  refine x_iconst (pc := 24) dX4_addRow_24 ?_
  refine x_icmp_eq (pc := 25) 39 dX4_addRow_25 rfl (fun c_25 => ?_) (fun c_25 => ?_)
  · (try simp (disch := omega) only [zb_e0, zb_n0, w32_id, w64_id, ne_eq, Classical.not_not] at c_25)
    first
      | exact c_p_row39 hp0 hc ha hb he (Fr.t (Fr.t (Fr.t (Fr.t hF hF1) hF2) hF3) hF4) hP4 (by rw [← hU, rT, if_neg c_25]; simp) hl hq
      | exact c_p_row39 hp0 hc ha hb he (Fr.t (Fr.t hF hF1) hF2) hP2 (by rw [← hU, rT, if_pos c_25]; simp) hl hq
  · (try simp (disch := omega) only [zb_e0, zb_n0, w32_id, w64_id, ne_eq, Classical.not_not] at c_25)
    refine x_aload_n (pc := 28) dX4_addRow_28 rfl ?_
    refine x_bipush (pc := 29) dX4_addRow_29 (by decide) ?_
    refine x_callV1 (pc := 31) dX4_addRow_31 (k_RX4_80 _ rfl) tmv_X4_addSign (by assumption) rfl rfl rfl ?_
    rw [if_neg c_25] at hl2
    refine c_p_sign hp0 (by omega) hP2 (by (try simp only [List.length_append, List.length_singleton, List.length_cons, List.length_nil] at *); omega) (fun g3 hF3 hP3 => ?_)
    dsimp only [Option.toList, List.cons_append, List.nil_append]
    refine x_aload_n (pc := 34) dX4_addRow_34 rfl ?_
    refine x_iload_n (pc := 35) dX4_addRow_35 rfl ?_
    refine x_callV1 (pc := 36) dX4_addRow_36 (k_RX4_84 _ rfl) tmv_X4_addNumber (by assumption) rfl rfl rfl ?_
    refine c_p_number hp0 (by omega) hP3 (by (try simp only [List.length_append, List.length_singleton, List.length_cons, List.length_nil] at *); omega) (fun g4 hF4 hP4 => ?_)
    dsimp only [Option.toList, List.cons_append, List.nil_append]
    first
      | exact c_p_row39 hp0 hc ha hb he (Fr.t (Fr.t (Fr.t (Fr.t hF hF1) hF2) hF3) hF4) hP4 (by rw [← hU, rT, if_neg c_25]; simp) hl hq
      | exact c_p_row39 hp0 hc ha hb he (Fr.t (Fr.t hF hF1) hF2) hP2 (by rw [← hU, rT, if_pos c_25]; simp) hl hq

set_option maxHeartbeats 4000000 in
set_option maxRecDepth 100000 in
theorem c_p_row {p c a b e : Int} (hp : isPT ty p) (hc : i32 c) (ha : i10 a) (hb : b = -1 ∨ i10 b) (he : e = -1 ∨ i10 e) {rs : List PR} (hP : PrR h p rs) (hl : (semT (rs ++ [(c, a, b, e)])).length ≤ 1501) (hq : ∀ h', Fr p (p + 1) h h' → PrR h' p (rs ++ [(c, a, b, e)]) → Q none ty sz h') : zXM D mX4_addRow (d + 3) 0 0 [rV p, iV c, iV a, iV b, iV e] ty sz h Q := by
  have hp0 := hp
  obtain ⟨p9, p0, p1⟩ := hp
  have e1 : h p 1 = (semT rs).tail.length := hP.1
  unfold PrR at hP hq
  rw [semT_tail_snoc] at hq
  have hls := (semT_tail_len (rs ++ [(c, a, b, e)]) (by simp)).1
  rw [semT_tail_snoc] at hls
  by_cases hrs : rs = []
  · subst hrs
    simp only [if_true, List.nil_append] at hq hls hl
    refine x_aload_n (pc := 0) dX4_addRow_0 rfl ?_
    refine y_getI 1 (pc := 1) dX4_addRow_1 f_RX4_15 (by assumption) rfl (fun b_1 => ?_)
    rw [e1]
    refine x_if_le (pc := 4) 13 dX4_addRow_4 rfl (fun c_4 => ?_) (fun c_4 => absurd (by decide) c_4)
    exact c_p_row13 hp0 hc ha hb he (Fr.rf _ _ _) hP rfl (by omega) hq
  have hpos := (semT_tail_len rs hrs).2
  simp only [if_neg hrs] at hq hls
  refine x_aload_n (pc := 0) dX4_addRow_0 rfl ?_
  refine y_getI 1 (pc := 1) dX4_addRow_1 f_RX4_15 (by assumption) rfl (fun b_1 => ?_)
  refine x_if_le (pc := 4) 13 dX4_addRow_4 rfl (fun c_4 => ?_) (fun c_4 => ?_)
  · (try simp (disch := omega) only [zb_e0, zb_n0, w32_id, w64_id, ne_eq, Classical.not_not] at c_4)
    omega
  · (try simp (disch := omega) only [zb_e0, zb_n0, w32_id, w64_id, ne_eq, Classical.not_not] at c_4)
    refine x_aload_n (pc := 7) dX4_addRow_7 rfl ?_
    refine x_bipush (pc := 8) dX4_addRow_8 (by decide) ?_
    refine x_callV1 (pc := 10) dX4_addRow_10 (k_RX4_80 _ rfl) tmv_X4_addSign (by assumption) rfl rfl rfl ?_
    refine c_p_sign hp0 (by omega) hP (by (try simp only [List.length_append, List.length_singleton, List.length_cons, List.length_nil] at *); omega) (fun g1 hF1 hP1 => ?_)
    dsimp only [Option.toList, List.cons_append, List.nil_append]
    exact c_p_row13 hp0 hc ha hb he hF1 hP1 (by simp) (by omega) hq

def nmF (f : Int → Int) (c : Int) (i : Nat) : List PR := if f i = -1 then [] else [(c, (i : Int), f i, -1)]
noncomputable def exF1 (f : Int → Int) (s t : Nat) : List PR := @ite _ (s < t ∧ zand (f s) (zshl 1 t) ≠ 0) (Classical.propDecidable _) [(69, (s : Int), (t : Int), -1)] []
noncomputable def exF (f : Int → Int) (s : Nat) : List PR := gL (exF1 f s) 10
def lmF1 (f : Int → Int) : List PR := if f 8 = -1 then [] else [(68, f 8, f 9, f 10)]
def lmF2 (f : Int → Int) : List PR := if f 11 = -1 then [] else [(77, f 11, -1, -1)]
def lmF3 (f : Int → Int) : List PR := if f 12 = -1 then [] else [(70, f 12, f 13, -1)]
def lmF4 (f : Int → Int) : List PR := if f 14 = -1 then [] else [(82, f 14, -1, -1)]
def stF (f g : Int → Int) (i : Nat) : List PR := [(83, f i, g i, -1)]
noncomputable def kPR (h : zH) (a k : Int) : List PR := [(75, k, -1, -1)] ++ (gL (stF (h (a + 1)) (h (a + 2))) (h a 1).toNat ++ (gL (nmF (h (a + 3)) 90) 10 ++ (gL (nmF (h (a + 4)) 88) 10 ++ (gL (exF (h (a + 5))) 10 ++ (lmF1 (h a) ++ (lmF2 (h a) ++ (lmF3 (h a) ++ lmF4 (h a))))))))
theorem exF1_z (f : Int → Int) (s : Nat) : gL (exF1 f s) (s + 1) = [] := by
  have : ∀ n, n ≤ s + 1 → gL (exF1 f s) n = [] := by
    intro n
    induction n with
    | zero => intro _; rfl
    | succ n ih =>
      intro hn
      show gL (exF1 f s) n ++ exF1 f s n = []
      rw [ih (by omega), List.nil_append]
      exact if_neg (fun q => by omega)
  exact this _ (Nat.le_refl _)
theorem semT_le (l m : List PR) : (semT l).length ≤ (semT (l ++ m)).length := by rw [semT_app, List.length_append]; omega

set_option maxHeartbeats 4000000 in
set_option maxRecDepth 100000 in
theorem c_p_named_l {p c q : Int} {rs : List PR} (hp : isPT ty p) (hc : i32 c) (hq0 : 0 ≤ q ∧ ty q = some (8, 10, zn)) (hd : q < p ∨ p + 1 < q) (hv : ∀ i, 0 ≤ i → i < 10 → h q i = -1 ∨ i10 (h q i)) (hl : (semT (rs ++ gL (nmF (h q) c) 10)).length ≤ 1501) (hq : ∀ h', Fr p (p + 1) h h' → PrR h' p (rs ++ gL (nmF (h q) c) 10) → Q none ty sz h') : ∀ (n : Nat) (i : Nat) (g : zH), i ≤ 10 → Fr p (p + 1) h g → PrR g p (rs ++ gL (nmF (h q) c) i) → 10 - i < n → zX D mX4_addNamed (d + 4) 0 0 2 [(3, iV (i : Int)), (0, rV p), (1, iV c), (2, rV q)] [] ty sz g Q := by
  intro n
  induction n with
  | zero =>
    intro i g h1 hF hP hm
    exfalso
    omega
  | succ n ih =>
    intro i g h1 hF hP hm
    have hp0 := hp
    obtain ⟨p9, p0, p1⟩ := hp
    have ht := hq0.2
    have e : g q = h q := hF q (by omega)
    refine x_iload_n (pc := 2) dX4_addNamed_2 rfl ?_
    refine x_bipush (pc := 3) dX4_addNamed_3 (by decide) ?_
    refine x_icmp_ge (pc := 5) 36 dX4_addNamed_5 rfl (fun c_5 => ?_) (fun c_5 => ?_)
    · (try simp (disch := omega) only [zb_e0, zb_n0, w32_id, w64_id, ne_eq, Classical.not_not] at c_5)
      refine x_ret (pc := 36) ⟨dX4_addNamed_36, rfl⟩ ?_
      have ei : i = 10 := by omega
      subst ei
      exact hq g hF hP
    · (try simp (disch := omega) only [zb_e0, zb_n0, w32_id, w64_id, ne_eq, Classical.not_not] at c_5)
      refine x_aload_n (pc := 8) dX4_addNamed_8 rfl ?_
      refine x_iload_n (pc := 9) dX4_addNamed_9 rfl ?_
      refine x_callS2 (pc := 10) dX4_addNamed_10 (k_RX4_31 _ rfl) tms_X6_cell rfl rfl ?_
      refine c_cellIn (N := 10) (by omega) (by omega) (by assumption) (by decide) (by omega) (fun bb => ?_)
      rw [e] at bb ⊢
      have hvi := hv i (by omega) (by omega)
      dsimp only [Option.toList, List.cons_append, List.nil_append]
      refine x_istore (pc := 13) dX4_addNamed_13 (by decide) ?_
      refine x_iload (pc := 15) dX4_addNamed_15 rfl ?_
      refine x_iconst (pc := 17) dX4_addNamed_17 ?_
      refine x_icmp_eq (pc := 18) 30 dX4_addNamed_18 rfl (fun c_18 => ?_) (fun c_18 => ?_)
      · (try simp (disch := omega) only [zb_e0, zb_n0, w32_id, w64_id, ne_eq, Classical.not_not] at c_18)
        refine x_iinc (pc := 30) dX4_addNamed_30 rfl (by decide) ?_
        refine x_goto (pc := 33) 2 dX4_addNamed_33 rfl ?_
        first
          | (refine x_loc _ (by exact ⟨rfl, rfl, rfl, rfl, trivial⟩) (ih (i + 1) g2 (by omega) (Fr.tr hF hF2 (by omega) (by omega) (by omega) (by omega)) (by rw [hs, ← List.append_assoc]; exact hP2) (by omega)))
          | (refine x_loc _ (by exact ⟨rfl, rfl, rfl, rfl, trivial⟩) (ih (i + 1) g (by omega) hF (by rw [show gL (nmF (h q) c) (i + 1) = gL (nmF (h q) c) i ++ nmF (h q) c i from rfl, nmF, if_pos c_18, List.append_nil]; exact hP) (by omega)))
      · (try simp (disch := omega) only [zb_e0, zb_n0, w32_id, w64_id, ne_eq, Classical.not_not] at c_18)
        refine x_aload_n (pc := 21) dX4_addNamed_21 rfl ?_
        refine x_iload_n (pc := 22) dX4_addNamed_22 rfl ?_
        refine x_iload_n (pc := 23) dX4_addNamed_23 rfl ?_
        refine x_iload (pc := 24) dX4_addNamed_24 rfl ?_
        refine x_iconst (pc := 26) dX4_addNamed_26 ?_
        refine x_callV4 (pc := 27) dX4_addNamed_27 (k_RX4_19 _ rfl) tmv_X4_addRow (by assumption) rfl rfl rfl ?_
        have hs : gL (nmF (h q) c) (i + 1) = gL (nmF (h q) c) i ++ [(c, (i : Int), h q i, -1)] := by
          show _ ++ nmF (h q) c i = _
          rw [nmF, if_neg c_18]
        have hgl := gL_le (f := nmF (h q) c) rs (show i + 1 ≤ 10 by omega)
        rw [hs] at hgl
        refine c_p_row hp0 hc (by omega) (by omega) (Or.inl rfl) hP (by rw [List.append_assoc]; omega) (fun g2 hF2 hP2 => ?_)
        dsimp only [Option.toList, List.cons_append, List.nil_append]
        refine x_iinc (pc := 30) dX4_addNamed_30 rfl (by decide) ?_
        refine x_goto (pc := 33) 2 dX4_addNamed_33 rfl ?_
        first
          | (refine x_loc _ (by exact ⟨rfl, rfl, rfl, rfl, trivial⟩) (ih (i + 1) g2 (by omega) (Fr.tr hF hF2 (by omega) (by omega) (by omega) (by omega)) (by rw [hs, ← List.append_assoc]; exact hP2) (by omega)))
          | (refine x_loc _ (by exact ⟨rfl, rfl, rfl, rfl, trivial⟩) (ih (i + 1) g (by omega) hF (by rw [show gL (nmF (h q) c) (i + 1) = gL (nmF (h q) c) i ++ nmF (h q) c i from rfl, nmF, if_pos c_18, List.append_nil]; exact hP) (by omega)))

set_option maxHeartbeats 4000000 in
set_option maxRecDepth 100000 in
theorem c_p_named {p c q : Int} {rs : List PR} (hp : isPT ty p) (hc : i32 c) (hq0 : 0 ≤ q ∧ ty q = some (8, 10, zn)) (hd : q < p ∨ p + 1 < q) (hv : ∀ i, 0 ≤ i → i < 10 → h q i = -1 ∨ i10 (h q i)) (hP : PrR h p rs) (hl : (semT (rs ++ gL (nmF (h q) c) 10)).length ≤ 1501) (hq : ∀ h', Fr p (p + 1) h h' → PrR h' p (rs ++ gL (nmF (h q) c) 10) → Q none ty sz h') : zXM D mX4_addNamed (d + 4) 0 0 [rV p, iV c, rV q] ty sz h Q := by
  refine x_iconst (pc := 0) dX4_addNamed_0 ?_
  refine x_istore_n (pc := 1) dX4_addNamed_1 (by decide) ?_
  exact x_loc _ (by exact ⟨rfl, rfl, rfl, rfl, trivial⟩) (c_p_named_l hp hc hq0 hd hv hl hq 11 0 h (by omega) (Fr.rf _ _ _) (by rw [show gL (nmF (h q) c) 0 = [] from rfl, List.append_nil]; exact hP) (by omega))

set_option maxHeartbeats 4000000 in
set_option maxRecDepth 100000 in
theorem c_p_ex12 {p a : Int} {rs : List PR} (hp : isPT ty p) (hK : isKT ty a) (hd : a + 5 < p ∨ p + 1 < a) (s : Nat) (hs : s < 10) (hl : (semT (rs ++ exF (h (a + 5)) s)).length ≤ 1501) (hq : ∀ h', Fr p (p + 1) h h' → PrR h' p (rs ++ exF (h (a + 5)) s) → zX D mX4_addExclusions (d + 4) 0 0 42 [(2, iV (s : Int)), (0, rV p), (1, rV a)] [] ty sz h' Q) : ∀ (n : Nat) (t : Nat) (g : zH), t ≤ 10 → Fr p (p + 1) h g → s < t → PrR g p (rs ++ gL (exF1 (h (a + 5)) s) t) → 10 - t < n → zX D mX4_addExclusions (d + 4) 0 0 12 [(3, iV (t : Int)), (2, iV (s : Int)), (0, rV p), (1, rV a)] [] ty sz g Q := by
  intro n
  induction n with
  | zero =>
    intro t g h1 hF h2 hP hm
    exfalso
    omega
  | succ n ih =>
    intro t g h1 hF h2 hP hm
    have hp0 := hp
    obtain ⟨p9, p0, p1⟩ := hp
    have hK0 := hK
    obtain ⟨k9, k0, k1, k2, k3, k4, k5⟩ := hK
    have e : g (a + 5) = h (a + 5) := hF (a + 5) (by omega)
    refine x_iload_n (pc := 12) dX4_addExclusions_12 rfl ?_
    refine x_bipush (pc := 13) dX4_addExclusions_13 (by decide) ?_
    refine x_icmp_ge (pc := 15) 42 dX4_addExclusions_15 rfl (fun c_15 => ?_) (fun c_15 => ?_)
    · (try simp (disch := omega) only [zb_e0, zb_n0, w32_id, w64_id, ne_eq, Classical.not_not] at c_15)
      have et : t = 10 := by omega
      subst et
      exact x_loc _ (by exact ⟨rfl, rfl, rfl, trivial⟩) (hq g hF hP)
    · (try simp (disch := omega) only [zb_e0, zb_n0, w32_id, w64_id, ne_eq, Classical.not_not] at c_15)
      refine x_aload_n (pc := 18) dX4_addExclusions_18 rfl ?_
      refine x_iload_n (pc := 19) dX4_addExclusions_19 rfl ?_
      refine x_iload_n (pc := 20) dX4_addExclusions_20 rfl ?_
      refine x_callV2 (pc := 21) dX4_addExclusions_21 (k_RX4_55 _ rfl) tmv_X3_excludes (by assumption) rfl rfl rfl ?_
      refine c_k_excludes hK0 (by omega) ?_
      rw [e]
      dsimp only [Option.toList, List.cons_append, List.nil_append]
      refine x_if_eq (pc := 24) 36 dX4_addExclusions_24 rfl (fun c_24 => ?_) (fun c_24 => ?_)
      · (try simp (disch := omega) only [zb_e0, zb_n0, w32_id, w64_id, ne_eq, Classical.not_not] at c_24)
        refine x_iinc (pc := 36) dX4_addExclusions_36 rfl (by decide) ?_
        refine x_goto (pc := 39) 12 dX4_addExclusions_39 rfl ?_
        first
          | (refine x_loc _ (by exact ⟨rfl, rfl, rfl, rfl, trivial⟩) (ih (t + 1) g2 (by omega) (Fr.t hF hF2) (by omega) (by rw [hs2, ← List.append_assoc]; exact hP2) (by omega)))
          | (refine x_loc _ (by exact ⟨rfl, rfl, rfl, rfl, trivial⟩) (ih (t + 1) g (by omega) hF (by omega) (by rw [show gL (exF1 (h (a + 5)) s) (t + 1) = gL (exF1 (h (a + 5)) s) t ++ exF1 (h (a + 5)) s t from rfl, exF1, if_neg (fun q => absurd c_24 (by simpa using q.2)), List.append_nil]; exact hP) (by omega)))
      · (try simp (disch := omega) only [zb_e0, zb_n0, w32_id, w64_id, ne_eq, Classical.not_not] at c_24)
        refine x_aload_n (pc := 27) dX4_addExclusions_27 rfl ?_
        refine x_bipush (pc := 28) dX4_addExclusions_28 (by decide) ?_
        refine x_iload_n (pc := 30) dX4_addExclusions_30 rfl ?_
        refine x_iload_n (pc := 31) dX4_addExclusions_31 rfl ?_
        refine x_iconst (pc := 32) dX4_addExclusions_32 ?_
        refine x_callV4 (pc := 33) dX4_addExclusions_33 (k_RX4_19 _ rfl) tmv_X4_addRow (by assumption) rfl rfl rfl ?_
        have hs2 : gL (exF1 (h (a + 5)) s) (t + 1) = gL (exF1 (h (a + 5)) s) t ++ [(69, (s : Int), (t : Int), -1)] := by
          show _ ++ exF1 (h (a + 5)) s t = _
          rw [exF1, if_pos ⟨by omega, c_24⟩]
        have hgl := gL_le (f := exF1 (h (a + 5)) s) rs (show t + 1 ≤ 10 by omega)
        rw [hs2] at hgl
        refine c_p_row hp0 (by omega) (by omega) (by omega) (Or.inl rfl) hP (by rw [List.append_assoc]; unfold exF at hl; omega) (fun g2 hF2 hP2 => ?_)
        dsimp only [Option.toList, List.cons_append, List.nil_append]
        refine x_iinc (pc := 36) dX4_addExclusions_36 rfl (by decide) ?_
        refine x_goto (pc := 39) 12 dX4_addExclusions_39 rfl ?_
        first
          | (refine x_loc _ (by exact ⟨rfl, rfl, rfl, rfl, trivial⟩) (ih (t + 1) g2 (by omega) (Fr.t hF hF2) (by omega) (by rw [hs2, ← List.append_assoc]; exact hP2) (by omega)))
          | (refine x_loc _ (by exact ⟨rfl, rfl, rfl, rfl, trivial⟩) (ih (t + 1) g (by omega) hF (by omega) (by rw [show gL (exF1 (h (a + 5)) s) (t + 1) = gL (exF1 (h (a + 5)) s) t ++ exF1 (h (a + 5)) s t from rfl, exF1, if_neg (fun q => absurd c_24 (by simpa using q.2)), List.append_nil]; exact hP) (by omega)))

set_option maxHeartbeats 4000000 in
set_option maxRecDepth 100000 in
theorem c_p_ex2 {p a : Int} {rs : List PR} (hp : isPT ty p) (hK : isKT ty a) (hd : a + 5 < p ∨ p + 1 < a) (hl : (semT (rs ++ gL (exF (h (a + 5))) 10)).length ≤ 1501) (hq : ∀ h', Fr p (p + 1) h h' → PrR h' p (rs ++ gL (exF (h (a + 5))) 10) → Q none ty sz h') : ∀ (n : Nat) (s : Nat) (g : zH), s ≤ 10 → Fr p (p + 1) h g → PrR g p (rs ++ gL (exF (h (a + 5))) s) → 10 - s < n → zX D mX4_addExclusions (d + 4) 0 0 2 [(2, iV (s : Int)), (0, rV p), (1, rV a)] [] ty sz g Q := by
  intro n
  induction n with
  | zero =>
    intro s g h1 hF hP hm
    exfalso
    omega
  | succ n ih =>
    intro s g h1 hF hP hm
    have e : g (a + 5) = h (a + 5) := hF (a + 5) (by omega)
    refine x_iload_n (pc := 2) dX4_addExclusions_2 rfl ?_
    refine x_bipush (pc := 3) dX4_addExclusions_3 (by decide) ?_
    refine x_icmp_ge (pc := 5) 48 dX4_addExclusions_5 rfl (fun c_5 => ?_) (fun c_5 => ?_)
    · (try simp (disch := omega) only [zb_e0, zb_n0, w32_id, w64_id, ne_eq, Classical.not_not] at c_5)
      refine x_ret (pc := 48) ⟨dX4_addExclusions_48, rfl⟩ ?_
      have es : s = 10 := by omega
      subst es
      exact hq g hF hP
    · (try simp (disch := omega) only [zb_e0, zb_n0, w32_id, w64_id, ne_eq, Classical.not_not] at c_5)
      refine x_iload_n (pc := 8) dX4_addExclusions_8 rfl ?_
      refine x_iconst (pc := 9) dX4_addExclusions_9 ?_
      refine x_iadd (pc := 10) dX4_addExclusions_10 ?_
      refine x_istore_n (pc := 11) dX4_addExclusions_11 (by decide) ?_
      have hgl := gL_le (f := exF (h (a + 5))) rs (show s + 1 ≤ 10 by omega)
      rw [show gL (exF (h (a + 5))) (s + 1) = gL (exF (h (a + 5))) s ++ exF (h (a + 5)) s from rfl] at hgl
      refine x_loc [(3, iV ((s + 1 : Nat) : Int)), (2, iV (s : Int)), (0, rV p), (1, rV a)] ⟨rfl, rfl, rfl, rfl, trivial⟩ (c_p_ex12 (h := g) (rs := rs ++ gL (exF (h (a + 5))) s) hp hK hd s (by omega) (by rw [e, List.append_assoc]; omega) (fun g2 hF2 hP2 => ?_) 11 (s + 1) g (by omega) (Fr.rf _ _ _) (by omega) (by rw [exF1_z, List.append_nil]; exact hP) (by omega))
      rw [e] at hP2
      refine x_iinc (pc := 42) dX4_addExclusions_42 rfl (by decide) ?_
      refine x_goto (pc := 45) 2 dX4_addExclusions_45 rfl ?_
      exact x_loc _ (by exact ⟨rfl, rfl, rfl, trivial⟩) (ih (s + 1) g2 (by omega) (Fr.t hF hF2) (by rw [show gL (exF (h (a + 5))) (s + 1) = gL (exF (h (a + 5))) s ++ exF (h (a + 5)) s from rfl, ← List.append_assoc]; exact hP2) (by omega))

set_option maxHeartbeats 4000000 in
set_option maxRecDepth 100000 in
theorem c_p_excl {p a : Int} {rs : List PR} (hp : isPT ty p) (hK : isKT ty a) (hd : a + 5 < p ∨ p + 1 < a) (hP : PrR h p rs) (hl : (semT (rs ++ gL (exF (h (a + 5))) 10)).length ≤ 1501) (hq : ∀ h', Fr p (p + 1) h h' → PrR h' p (rs ++ gL (exF (h (a + 5))) 10) → Q none ty sz h') : zXM D mX4_addExclusions (d + 4) 0 0 [rV p, rV a] ty sz h Q := by
  refine x_iconst (pc := 0) dX4_addExclusions_0 ?_
  refine x_istore_n (pc := 1) dX4_addExclusions_1 (by decide) ?_
  exact x_loc _ (by exact ⟨rfl, rfl, rfl, trivial⟩) (c_p_ex2 hp hK hd hl hq 11 0 h (by omega) (Fr.rf _ _ _) (by rw [show gL (exF (h (a + 5))) 0 = [] from rfl, List.append_nil]; exact hP) (by omega))

def kLimOK (f : Int → Int) : Prop := (f 8 = -1 ∨ (i10 (f 8) ∧ i10 (f 9) ∧ i10 (f 10))) ∧ (f 11 = -1 ∨ i10 (f 11)) ∧ (f 12 = -1 ∨ (i10 (f 12) ∧ i10 (f 13))) ∧ (f 14 = -1 ∨ i10 (f 14))

set_option maxHeartbeats 4000000 in
set_option maxRecDepth 100000 in
theorem c_p_lim69 {p a : Int} {rs : List PR} (hp : isPT ty p) (hK : isKT ty a) (hd : a + 5 < p ∨ p + 1 < a) (hO : kLimOK (h a)) (hP : PrR h p rs) (hl : (semT (rs ++ lmF4 (h a))).length ≤ 1501) (hq : ∀ h', Fr p (p + 1) h h' → PrR h' p (rs ++ lmF4 (h a)) → Q none ty sz h') : zX D mX4_addLimits (d + 4) 0 0 69 [(0, rV p), (1, rV a)] [] ty sz h Q := by
  have hp0 := hp
  obtain ⟨p9, p0, p1⟩ := hp
  have hK0 := hK
  obtain ⟨k9, k0, k1, k2, k3, k4, k5⟩ := hK
  have hO0 := hO
  obtain ⟨o1, o2, o3, o4⟩ := hO
  refine x_aload_n (pc := 69) dX4_addLimits_69 rfl ?_
  refine y_getI 14 (pc := 70) dX4_addLimits_70 f_RX4_77 (by assumption) rfl (fun b_70 => ?_)
  refine x_iconst (pc := 73) dX4_addLimits_73 ?_
  refine x_icmp_eq (pc := 74) 89 dX4_addLimits_74 rfl (fun c_74 => ?_) (fun c_74 => ?_)
  · (try simp (disch := omega) only [zb_e0, zb_n0, w32_id, w64_id, ne_eq, Classical.not_not] at c_74)
    refine x_ret (pc := 89) ⟨dX4_addLimits_89, rfl⟩ ?_
    first
      | exact hq g2 hF2 hP2
      | (rw [show lmF4 (h a) = [] from if_pos c_74, List.append_nil] at hq
         exact hq h (Fr.rf _ _ _) hP)
  · (try simp (disch := omega) only [zb_e0, zb_n0, w32_id, w64_id, ne_eq, Classical.not_not] at c_74)
    refine x_aload_n (pc := 77) dX4_addLimits_77 rfl ?_
    refine x_bipush (pc := 78) dX4_addLimits_78 (by decide) ?_
    refine x_aload_n (pc := 80) dX4_addLimits_80 rfl ?_
    refine y_getI 14 (pc := 81) dX4_addLimits_81 f_RX4_77 (by assumption) rfl (fun b_81 => ?_)
    refine x_iconst (pc := 84) dX4_addLimits_84 ?_
    refine x_iconst (pc := 85) dX4_addLimits_85 ?_
    refine x_callV4 (pc := 86) dX4_addLimits_86 (k_RX4_19 _ rfl) tmv_X4_addRow (by assumption) rfl rfl rfl ?_
    have hs : lmF4 (h a) = [(82, h a 14, -1, -1)] := if_neg c_74
    rw [hs] at hl hq
    have hl2 : (semT (rs ++ [(82, h a 14, -1, -1)])).length ≤ 1501 := hl
    refine c_p_row hp0 (by omega) (by omega) (by omega) (by omega) hP hl2 (fun g2 hF2 hP2 => ?_)
    dsimp only [Option.toList, List.cons_append, List.nil_append]
    refine x_ret (pc := 89) ⟨dX4_addLimits_89, rfl⟩ ?_
    first
      | exact hq g2 hF2 hP2
      | (rw [show lmF4 (h a) = [] from if_pos c_74, List.append_nil] at hq
         exact hq h (Fr.rf _ _ _) hP)

set_option maxHeartbeats 4000000 in
set_option maxRecDepth 100000 in
theorem c_p_lim46 {p a : Int} {rs : List PR} (hp : isPT ty p) (hK : isKT ty a) (hd : a + 5 < p ∨ p + 1 < a) (hO : kLimOK (h a)) (hP : PrR h p rs) (hl : (semT (rs ++ (lmF3 (h a) ++ lmF4 (h a)))).length ≤ 1501) (hq : ∀ h', Fr p (p + 1) h h' → PrR h' p (rs ++ (lmF3 (h a) ++ lmF4 (h a))) → Q none ty sz h') : zX D mX4_addLimits (d + 4) 0 0 46 [(0, rV p), (1, rV a)] [] ty sz h Q := by
  have hp0 := hp
  obtain ⟨p9, p0, p1⟩ := hp
  have hK0 := hK
  obtain ⟨k9, k0, k1, k2, k3, k4, k5⟩ := hK
  have hO0 := hO
  obtain ⟨o1, o2, o3, o4⟩ := hO
  refine x_aload_n (pc := 46) dX4_addLimits_46 rfl ?_
  refine y_getI 12 (pc := 47) dX4_addLimits_47 f_RX4_71 (by assumption) rfl (fun b_47 => ?_)
  refine x_iconst (pc := 50) dX4_addLimits_50 ?_
  refine x_icmp_eq (pc := 51) 69 dX4_addLimits_51 rfl (fun c_51 => ?_) (fun c_51 => ?_)
  · (try simp (disch := omega) only [zb_e0, zb_n0, w32_id, w64_id, ne_eq, Classical.not_not] at c_51)
    first
      | (have e : g2 a = h a := hF2 a (by omega)
         rw [← List.append_assoc] at hl hq
         exact x_loc _ (by exact ⟨rfl, rfl, trivial⟩) (c_p_lim69 (h := g2) hp0 hK0 hd (by rw [e]; exact hO0) hP2 (by rw [e]; exact hl) (fun h' hf hp' => hq h' (Fr.t hF2 hf) (by rw [e] at hp'; exact hp'))))
      | (rw [show lmF3 (h a) = [] from if_pos c_51, List.nil_append] at hq hl
         exact x_loc _ (by exact ⟨rfl, rfl, trivial⟩) (c_p_lim69 hp0 hK0 hd hO0 hP hl hq))
  · (try simp (disch := omega) only [zb_e0, zb_n0, w32_id, w64_id, ne_eq, Classical.not_not] at c_51)
    refine x_aload_n (pc := 54) dX4_addLimits_54 rfl ?_
    refine x_bipush (pc := 55) dX4_addLimits_55 (by decide) ?_
    refine x_aload_n (pc := 57) dX4_addLimits_57 rfl ?_
    refine y_getI 12 (pc := 58) dX4_addLimits_58 f_RX4_71 (by assumption) rfl (fun b_58 => ?_)
    refine x_aload_n (pc := 61) dX4_addLimits_61 rfl ?_
    refine y_getI 13 (pc := 62) dX4_addLimits_62 f_RX4_74 (by assumption) rfl (fun b_62 => ?_)
    refine x_iconst (pc := 65) dX4_addLimits_65 ?_
    refine x_callV4 (pc := 66) dX4_addLimits_66 (k_RX4_19 _ rfl) tmv_X4_addRow (by assumption) rfl rfl rfl ?_
    have hs : lmF3 (h a) = [(70, h a 12, h a 13, -1)] := if_neg c_51
    rw [hs] at hl hq
    have hl2 : (semT (rs ++ [(70, h a 12, h a 13, -1)])).length ≤ 1501 := by rw [← List.append_assoc] at hl; exact Nat.le_trans (semT_le _ _) hl
    refine c_p_row hp0 (by omega) (by omega) (by omega) (by omega) hP hl2 (fun g2 hF2 hP2 => ?_)
    dsimp only [Option.toList, List.cons_append, List.nil_append]
    first
      | (have e : g2 a = h a := hF2 a (by omega)
         rw [← List.append_assoc] at hl hq
         exact x_loc _ (by exact ⟨rfl, rfl, trivial⟩) (c_p_lim69 (h := g2) hp0 hK0 hd (by rw [e]; exact hO0) hP2 (by rw [e]; exact hl) (fun h' hf hp' => hq h' (Fr.t hF2 hf) (by rw [e] at hp'; exact hp'))))
      | (rw [show lmF3 (h a) = [] from if_pos c_51, List.nil_append] at hq hl
         exact x_loc _ (by exact ⟨rfl, rfl, trivial⟩) (c_p_lim69 hp0 hK0 hd hO0 hP hl hq))

set_option maxHeartbeats 4000000 in
set_option maxRecDepth 100000 in
theorem c_p_lim26 {p a : Int} {rs : List PR} (hp : isPT ty p) (hK : isKT ty a) (hd : a + 5 < p ∨ p + 1 < a) (hO : kLimOK (h a)) (hP : PrR h p rs) (hl : (semT (rs ++ (lmF2 (h a) ++ (lmF3 (h a) ++ lmF4 (h a))))).length ≤ 1501) (hq : ∀ h', Fr p (p + 1) h h' → PrR h' p (rs ++ (lmF2 (h a) ++ (lmF3 (h a) ++ lmF4 (h a)))) → Q none ty sz h') : zX D mX4_addLimits (d + 4) 0 0 26 [(0, rV p), (1, rV a)] [] ty sz h Q := by
  have hp0 := hp
  obtain ⟨p9, p0, p1⟩ := hp
  have hK0 := hK
  obtain ⟨k9, k0, k1, k2, k3, k4, k5⟩ := hK
  have hO0 := hO
  obtain ⟨o1, o2, o3, o4⟩ := hO
  refine x_aload_n (pc := 26) dX4_addLimits_26 rfl ?_
  refine y_getI 11 (pc := 27) dX4_addLimits_27 f_RX4_68 (by assumption) rfl (fun b_27 => ?_)
  refine x_iconst (pc := 30) dX4_addLimits_30 ?_
  refine x_icmp_eq (pc := 31) 46 dX4_addLimits_31 rfl (fun c_31 => ?_) (fun c_31 => ?_)
  · (try simp (disch := omega) only [zb_e0, zb_n0, w32_id, w64_id, ne_eq, Classical.not_not] at c_31)
    first
      | (have e : g2 a = h a := hF2 a (by omega)
         rw [← List.append_assoc] at hl hq
         exact x_loc _ (by exact ⟨rfl, rfl, trivial⟩) (c_p_lim46 (h := g2) hp0 hK0 hd (by rw [e]; exact hO0) hP2 (by rw [e]; exact hl) (fun h' hf hp' => hq h' (Fr.t hF2 hf) (by rw [e] at hp'; exact hp'))))
      | (rw [show lmF2 (h a) = [] from if_pos c_31, List.nil_append] at hq hl
         exact x_loc _ (by exact ⟨rfl, rfl, trivial⟩) (c_p_lim46 hp0 hK0 hd hO0 hP hl hq))
  · (try simp (disch := omega) only [zb_e0, zb_n0, w32_id, w64_id, ne_eq, Classical.not_not] at c_31)
    refine x_aload_n (pc := 34) dX4_addLimits_34 rfl ?_
    refine x_bipush (pc := 35) dX4_addLimits_35 (by decide) ?_
    refine x_aload_n (pc := 37) dX4_addLimits_37 rfl ?_
    refine y_getI 11 (pc := 38) dX4_addLimits_38 f_RX4_68 (by assumption) rfl (fun b_38 => ?_)
    refine x_iconst (pc := 41) dX4_addLimits_41 ?_
    refine x_iconst (pc := 42) dX4_addLimits_42 ?_
    refine x_callV4 (pc := 43) dX4_addLimits_43 (k_RX4_19 _ rfl) tmv_X4_addRow (by assumption) rfl rfl rfl ?_
    have hs : lmF2 (h a) = [(77, h a 11, -1, -1)] := if_neg c_31
    rw [hs] at hl hq
    have hl2 : (semT (rs ++ [(77, h a 11, -1, -1)])).length ≤ 1501 := by rw [← List.append_assoc] at hl; exact Nat.le_trans (semT_le _ _) hl
    refine c_p_row hp0 (by omega) (by omega) (by omega) (by omega) hP hl2 (fun g2 hF2 hP2 => ?_)
    dsimp only [Option.toList, List.cons_append, List.nil_append]
    first
      | (have e : g2 a = h a := hF2 a (by omega)
         rw [← List.append_assoc] at hl hq
         exact x_loc _ (by exact ⟨rfl, rfl, trivial⟩) (c_p_lim46 (h := g2) hp0 hK0 hd (by rw [e]; exact hO0) hP2 (by rw [e]; exact hl) (fun h' hf hp' => hq h' (Fr.t hF2 hf) (by rw [e] at hp'; exact hp'))))
      | (rw [show lmF2 (h a) = [] from if_pos c_31, List.nil_append] at hq hl
         exact x_loc _ (by exact ⟨rfl, rfl, trivial⟩) (c_p_lim46 hp0 hK0 hd hO0 hP hl hq))

set_option maxHeartbeats 4000000 in
set_option maxRecDepth 100000 in
theorem c_p_lim {p a : Int} {rs : List PR} (hp : isPT ty p) (hK : isKT ty a) (hd : a + 5 < p ∨ p + 1 < a) (hO : kLimOK (h a)) (hP : PrR h p rs) (hl : (semT (rs ++ (lmF1 (h a) ++ (lmF2 (h a) ++ (lmF3 (h a) ++ lmF4 (h a)))))).length ≤ 1501) (hq : ∀ h', Fr p (p + 1) h h' → PrR h' p (rs ++ (lmF1 (h a) ++ (lmF2 (h a) ++ (lmF3 (h a) ++ lmF4 (h a))))) → Q none ty sz h') : zXM D mX4_addLimits (d + 4) 0 0 [rV p, rV a] ty sz h Q := by
  have hp0 := hp
  obtain ⟨p9, p0, p1⟩ := hp
  have hK0 := hK
  obtain ⟨k9, k0, k1, k2, k3, k4, k5⟩ := hK
  have hO0 := hO
  obtain ⟨o1, o2, o3, o4⟩ := hO
  refine x_aload_n (pc := 0) dX4_addLimits_0 rfl ?_
  refine y_getI 8 (pc := 1) dX4_addLimits_1 f_RX4_59 (by assumption) rfl (fun b_1 => ?_)
  refine x_iconst (pc := 4) dX4_addLimits_4 ?_
  refine x_icmp_eq (pc := 5) 26 dX4_addLimits_5 rfl (fun c_5 => ?_) (fun c_5 => ?_)
  · (try simp (disch := omega) only [zb_e0, zb_n0, w32_id, w64_id, ne_eq, Classical.not_not] at c_5)
    first
      | (have e : g2 a = h a := hF2 a (by omega)
         rw [← List.append_assoc] at hl hq
         exact x_loc _ (by exact ⟨rfl, rfl, trivial⟩) (c_p_lim26 (h := g2) hp0 hK0 hd (by rw [e]; exact hO0) hP2 (by rw [e]; exact hl) (fun h' hf hp' => hq h' (Fr.t hF2 hf) (by rw [e] at hp'; exact hp'))))
      | (rw [show lmF1 (h a) = [] from if_pos c_5, List.nil_append] at hq hl
         exact x_loc _ (by exact ⟨rfl, rfl, trivial⟩) (c_p_lim26 hp0 hK0 hd hO0 hP hl hq))
  · (try simp (disch := omega) only [zb_e0, zb_n0, w32_id, w64_id, ne_eq, Classical.not_not] at c_5)
    refine x_aload_n (pc := 8) dX4_addLimits_8 rfl ?_
    refine x_bipush (pc := 9) dX4_addLimits_9 (by decide) ?_
    refine x_aload_n (pc := 11) dX4_addLimits_11 rfl ?_
    refine y_getI 8 (pc := 12) dX4_addLimits_12 f_RX4_59 (by assumption) rfl (fun b_12 => ?_)
    refine x_aload_n (pc := 15) dX4_addLimits_15 rfl ?_
    refine y_getI 9 (pc := 16) dX4_addLimits_16 f_RX4_62 (by assumption) rfl (fun b_16 => ?_)
    refine x_aload_n (pc := 19) dX4_addLimits_19 rfl ?_
    refine y_getI 10 (pc := 20) dX4_addLimits_20 f_RX4_65 (by assumption) rfl (fun b_20 => ?_)
    refine x_callV4 (pc := 23) dX4_addLimits_23 (k_RX4_19 _ rfl) tmv_X4_addRow (by assumption) rfl rfl rfl ?_
    have hs : lmF1 (h a) = [(68, h a 8, h a 9, h a 10)] := if_neg c_5
    rw [hs] at hl hq
    have hl2 : (semT (rs ++ [(68, h a 8, h a 9, h a 10)])).length ≤ 1501 := by rw [← List.append_assoc] at hl; exact Nat.le_trans (semT_le _ _) hl
    refine c_p_row hp0 (by omega) (by omega) (by omega) (by omega) hP hl2 (fun g2 hF2 hP2 => ?_)
    dsimp only [Option.toList, List.cons_append, List.nil_append]
    first
      | (have e : g2 a = h a := hF2 a (by omega)
         rw [← List.append_assoc] at hl hq
         exact x_loc _ (by exact ⟨rfl, rfl, trivial⟩) (c_p_lim26 (h := g2) hp0 hK0 hd (by rw [e]; exact hO0) hP2 (by rw [e]; exact hl) (fun h' hf hp' => hq h' (Fr.t hF2 hf) (by rw [e] at hp'; exact hp'))))
      | (rw [show lmF1 (h a) = [] from if_pos c_5, List.nil_append] at hq hl
         exact x_loc _ (by exact ⟨rfl, rfl, trivial⟩) (c_p_lim26 hp0 hK0 hd hO0 hP hl hq))

def kPrOK (h : zH) (a : Int) : Prop := (0 ≤ h a 1 ∧ h a 1 ≤ 10) ∧ (∀ i, 0 ≤ i → i < h a 1 → i10 (h (a + 1) i) ∧ i10 (h (a + 2) i)) ∧ (∀ i, 0 ≤ i → i < 10 → h (a + 3) i = -1 ∨ i10 (h (a + 3) i)) ∧ (∀ i, 0 ≤ i → i < 10 → h (a + 4) i = -1 ∨ i10 (h (a + 4) i)) ∧ kLimOK (h a)
theorem kPrOK_fr {h' : zH} {a : Int} (ea : ∀ q, a ≤ q → q ≤ a + 5 → h' q = h q) : kPrOK h' a = kPrOK h a := by
  unfold kPrOK
  rw [ea a (by omega) (by omega), ea (a + 1) (by omega) (by omega), ea (a + 2) (by omega) (by omega), ea (a + 3) (by omega) (by omega), ea (a + 4) (by omega) (by omega)]
noncomputable def kPR2 (h : zH) (a : Int) : List PR := gL (nmF (h (a + 3)) 90) 10 ++ (gL (nmF (h (a + 4)) 88) 10 ++ (gL (exF (h (a + 5))) 10 ++ (lmF1 (h a) ++ (lmF2 (h a) ++ (lmF3 (h a) ++ lmF4 (h a))))))
theorem kPR_eq (h : zH) (a k : Int) : kPR h a k = [(75, k, -1, -1)] ++ (gL (stF (h (a + 1)) (h (a + 2))) (h a 1).toNat ++ kPR2 h a) := rfl

set_option maxHeartbeats 4000000 in
set_option maxRecDepth 100000 in
theorem c_p_kind53 {p a k : Int} {rs : List PR} (hp : isPT ty p) (hK : isKT ty a) (hd : a + 5 < p ∨ p + 1 < a) (hO : kPrOK h a) (hP : PrR h p rs) (hl : (semT (rs ++ kPR2 h a)).length ≤ 1501) (hq : ∀ h', Fr p (p + 1) h h' → PrR h' p (rs ++ kPR2 h a) → Q none ty sz h') : zX D mX4_addKind (d + 5) 0 0 53 [(0, rV p), (1, iV k), (2, rV a)] [] ty sz h Q := by
  have hp0 := hp
  obtain ⟨p9, p0, p1⟩ := hp
  have hK0 := hK
  obtain ⟨k9, k0, k1, k2, k3, k4, k5⟩ := hK
  have hO0 := hO
  obtain ⟨o1, o2, o3, o4, o5⟩ := hO
  unfold kPR2 at hl hq
  simp only [← List.append_assoc] at hl hq
  have le4 := semT_le (rs ++ gL (nmF (h (a + 3)) 90) 10 ++ gL (nmF (h (a + 4)) 88) 10 ++ gL (exF (h (a + 5))) 10) (lmF1 (h a) ++ (lmF2 (h a) ++ (lmF3 (h a) ++ lmF4 (h a))))
  simp only [← List.append_assoc] at le4
  have le3 := semT_le (rs ++ gL (nmF (h (a + 3)) 90) 10 ++ gL (nmF (h (a + 4)) 88) 10) (gL (exF (h (a + 5))) 10)
  have le2 := semT_le (rs ++ gL (nmF (h (a + 3)) 90) 10) (gL (nmF (h (a + 4)) 88) 10)
  refine x_aload_n (pc := 53) dX4_addKind_53 rfl ?_
  refine x_bipush (pc := 54) dX4_addKind_54 (by decide) ?_
  refine x_aload_n (pc := 56) dX4_addKind_56 rfl ?_
  refine x_getF (pc := 57) dX4_addKind_57 f_RX4_38 (by assumption) (by rfl) ?_
  refine x_callV2 (pc := 60) dX4_addKind_60 (k_RX4_41 _ rfl) tmv_X4_addNamed (by assumption) rfl rfl rfl ?_
  refine c_p_named hp0 (by omega) ⟨by omega, by assumption⟩ (by omega) o3 hP (by omega) (fun g1 hF1 hP1 => ?_)
  have e4 : g1 (a + 4) = h (a + 4) := hF1 _ (by omega)
  have e5 : g1 (a + 5) = h (a + 5) := hF1 _ (by omega)
  have e0 : g1 a = h a := hF1 _ (by omega)
  dsimp only [Option.toList, List.cons_append, List.nil_append]
  refine x_aload_n (pc := 63) dX4_addKind_63 rfl ?_
  refine x_bipush (pc := 64) dX4_addKind_64 (by decide) ?_
  refine x_aload_n (pc := 66) dX4_addKind_66 rfl ?_
  refine x_getF (pc := 67) dX4_addKind_67 f_RX4_45 (by assumption) (by rfl) ?_
  refine x_callV2 (pc := 70) dX4_addKind_70 (k_RX4_41 _ rfl) tmv_X4_addNamed (by assumption) rfl rfl rfl ?_
  refine c_p_named hp0 (by omega) ⟨by omega, by assumption⟩ (by omega) (by rw [e4]; exact o4) hP1 (by rw [e4]; omega) (fun g2 hF2 hP2 => ?_)
  rw [e4] at hP2
  have e52 : g2 (a + 5) = h (a + 5) := (hF2 _ (by omega)).trans e5
  have e02 : g2 a = h a := (hF2 _ (by omega)).trans e0
  dsimp only [Option.toList, List.cons_append, List.nil_append]
  refine x_aload_n (pc := 73) dX4_addKind_73 rfl ?_
  refine x_aload_n (pc := 74) dX4_addKind_74 rfl ?_
  refine x_callV1 (pc := 75) dX4_addKind_75 (k_RX4_48 _ rfl) tmv_X4_addExclusions (by assumption) rfl rfl rfl ?_
  refine c_p_excl hp0 hK0 hd hP2 (by rw [e52]; omega) (fun g3 hF3 hP3 => ?_)
  rw [e52] at hP3
  have e03 : g3 a = h a := (hF3 _ (by omega)).trans e02
  dsimp only [Option.toList, List.cons_append, List.nil_append]
  refine x_aload_n (pc := 78) dX4_addKind_78 rfl ?_
  refine x_aload_n (pc := 79) dX4_addKind_79 rfl ?_
  refine x_callV1 (pc := 80) dX4_addKind_80 (k_RX4_52 _ rfl) tmv_X4_addLimits (by assumption) rfl rfl rfl ?_
  refine c_p_lim hp0 hK0 hd (by rw [e03]; exact o5) hP3 (by rw [e03]; simp only [← List.append_assoc]; exact hl) (fun g4 hF4 hP4 => ?_)
  rw [e03] at hP4
  simp only [← List.append_assoc] at hP4
  dsimp only [Option.toList, List.cons_append, List.nil_append]
  refine x_ret (pc := 83) ⟨dX4_addKind_83, rfl⟩ ?_
  exact hq g4 (Fr.t (Fr.t (Fr.t hF1 hF2) hF3) hF4) hP4

set_option maxHeartbeats 4000000 in
set_option maxRecDepth 100000 in
theorem c_p_kind16 {p a k : Int} {rs : List PR} (hp : isPT ty p) (hK : isKT ty a) (hd : a + 5 < p ∨ p + 1 < a) (hO : kPrOK h a) (hl : (semT (rs ++ gL (stF (h (a + 1)) (h (a + 2))) (h a 1).toNat ++ kPR2 h a)).length ≤ 1501) (hq : ∀ h', Fr p (p + 1) h h' → PrR h' p (rs ++ gL (stF (h (a + 1)) (h (a + 2))) (h a 1).toNat ++ kPR2 h a) → Q none ty sz h') : ∀ (n : Nat) (i : Nat) (g : zH), (i : Int) ≤ h a 1 → Fr p (p + 1) h g → PrR g p (rs ++ gL (stF (h (a + 1)) (h (a + 2))) i) → h a 1 - i < n → zX D mX4_addKind (d + 5) 0 0 16 [(3, iV (i : Int)), (0, rV p), (1, iV k), (2, rV a)] [] ty sz g Q := by
  intro n
  induction n with
  | zero =>
    intro i g h1 hF hP hm
    exfalso
    omega
  | succ n ih =>
    intro i g h1 hF hP hm
    have hp0 := hp
    obtain ⟨p9, p0, p1⟩ := hp
    have hK0 := hK
    obtain ⟨k9, k0, k1, k2, k3, k4, k5⟩ := hK
    have hO0 := hO
    obtain ⟨o1, o2, o3, o4, o5⟩ := hO
    have e0 : g a = h a := hF _ (by omega)
    have e1 : g (a + 1) = h (a + 1) := hF _ (by omega)
    have e2 : g (a + 2) = h (a + 2) := hF _ (by omega)
    refine x_iload_n (pc := 16) dX4_addKind_16 rfl ?_
    refine x_aload_n (pc := 17) dX4_addKind_17 rfl ?_
    refine y_getI 1 (pc := 18) dX4_addKind_18 f_RX4_23 (by assumption) rfl (fun b_18 => ?_)
    rw [e0] at b_18 ⊢
    refine x_icmp_ge (pc := 21) 53 dX4_addKind_21 rfl (fun c_21 => ?_) (fun c_21 => ?_)
    · (try simp (disch := omega) only [zb_e0, zb_n0, w32_id, w64_id, ne_eq, Classical.not_not] at c_21)
      have ei : (h a 1).toNat = i := by omega
      rw [ei] at hl hq
      have ea : ∀ q, a ≤ q → q ≤ a + 5 → g q = h q := fun q q1 q2 => hF q (by omega)
      have ek : kPR2 g a = kPR2 h a := by unfold kPR2; rw [e0, ea (a + 3) (by omega) (by omega), ea (a + 4) (by omega) (by omega), ea (a + 5) (by omega) (by omega)]
      exact x_loc _ (by exact ⟨rfl, rfl, rfl, trivial⟩) (c_p_kind53 (h := g) hp0 hK0 hd (by rw [kPrOK_fr ea]; exact hO0) hP (by rw [ek]; exact hl) (fun h' hf hp' => hq h' (Fr.t hF hf) (by rw [← ek]; exact hp')))
    · (try simp (disch := omega) only [zb_e0, zb_n0, w32_id, w64_id, ne_eq, Classical.not_not] at c_21)
      refine x_aload_n (pc := 24) dX4_addKind_24 rfl ?_
      refine x_bipush (pc := 25) dX4_addKind_25 (by decide) ?_
      refine x_aload_n (pc := 27) dX4_addKind_27 rfl ?_
      refine x_getF (pc := 28) dX4_addKind_28 f_RX4_28 (by assumption) (by rfl) ?_
      refine x_iload_n (pc := 31) dX4_addKind_31 rfl ?_
      refine x_callS2 (pc := 32) dX4_addKind_32 (k_RX4_31 _ rfl) tms_X6_cell rfl rfl ?_
      refine c_cellIn (N := 10) (by omega) (by omega) (by assumption) (by decide) (by omega) (fun bb => ?_)
      rw [e1]
      dsimp only [Option.toList, List.cons_append, List.nil_append]
      refine x_aload_n (pc := 35) dX4_addKind_35 rfl ?_
      refine x_getF (pc := 36) dX4_addKind_36 f_RX4_35 (by assumption) (by rfl) ?_
      refine x_iload_n (pc := 39) dX4_addKind_39 rfl ?_
      refine x_callS2 (pc := 40) dX4_addKind_40 (k_RX4_31 _ rfl) tms_X6_cell rfl rfl ?_
      refine c_cellIn (N := 10) (by omega) (by omega) (by assumption) (by decide) (by omega) (fun bb2 => ?_)
      rw [e2]
      dsimp only [Option.toList, List.cons_append, List.nil_append]
      refine x_iconst (pc := 43) dX4_addKind_43 ?_
      refine x_callV4 (pc := 44) dX4_addKind_44 (k_RX4_19 _ rfl) tmv_X4_addRow (by assumption) rfl rfl rfl ?_
      have hb := o2 i (by omega) (by omega)
      have hgl := gL_le (f := stF (h (a + 1)) (h (a + 2))) rs (show i + 1 ≤ (h a 1).toNat by omega)
      have hgl2 := semT_le (rs ++ gL (stF (h (a + 1)) (h (a + 2))) (h a 1).toNat) (kPR2 h a)
      refine c_p_row hp0 (by omega) hb.1 (Or.inr hb.2) (Or.inl rfl) hP (by rw [List.append_assoc]; exact Nat.le_trans hgl (by omega)) (fun g2 hF2 hP2 => ?_)
      dsimp only [Option.toList, List.cons_append, List.nil_append]
      refine x_iinc (pc := 47) dX4_addKind_47 rfl (by decide) ?_
      refine x_goto (pc := 50) 16 dX4_addKind_50 rfl ?_
      refine x_loc _ (by exact ⟨rfl, rfl, rfl, rfl, trivial⟩) (ih (i + 1) g2 (by omega) (Fr.t hF hF2) (by rw [List.append_assoc] at hP2; exact hP2) (by omega))

set_option maxHeartbeats 4000000 in
set_option maxRecDepth 100000 in
theorem c_p_kind {p a k : Int} {rs : List PR} (hp : isPT ty p) (hK : isKT ty a) (hd : a + 5 < p ∨ p + 1 < a) (hk : i10 k) (hO : kPrOK h a) (hP : PrR h p rs) (hl : (semT (rs ++ kPR h a k)).length ≤ 1501) (hq : ∀ h', Fr p (p + 1) h h' → PrR h' p (rs ++ kPR h a k) → Q none ty sz h') : zXM D mX4_addKind (d + 5) 0 0 [rV p, iV k, rV a] ty sz h Q := by
  have hp0 := hp
  obtain ⟨p9, p0, p1⟩ := hp
  have hK0 := hK
  obtain ⟨k9, k0, k1, k2, k3, k4, k5⟩ := hK
  rw [kPR_eq] at hl hq
  simp only [← List.append_assoc] at hl hq
  have le1 := semT_le (rs ++ [(75, k, -1, -1)] ++ gL (stF (h (a + 1)) (h (a + 2))) (h a 1).toNat) (kPR2 h a)
  have le2 := semT_le (rs ++ [(75, k, -1, -1)]) (gL (stF (h (a + 1)) (h (a + 2))) (h a 1).toNat)
  refine x_aload_n (pc := 0) dX4_addKind_0 rfl ?_
  refine x_ifnonnull (pc := 1) 5 dX4_addKind_1 rfl (fun c_1 => ?_) (fun c_1 => ?_)
  · (try simp (disch := omega) only [zb_e0, zb_n0, w32_id, w64_id, ne_eq, Classical.not_not] at c_1)
    refine x_aload_n (pc := 5) dX4_addKind_5 rfl ?_
    refine x_bipush (pc := 6) dX4_addKind_6 (by decide) ?_
    refine x_iload_n (pc := 8) dX4_addKind_8 rfl ?_
    refine x_iconst (pc := 9) dX4_addKind_9 ?_
    refine x_iconst (pc := 10) dX4_addKind_10 ?_
    refine x_callV4 (pc := 11) dX4_addKind_11 (k_RX4_19 _ rfl) tmv_X4_addRow (by assumption) rfl rfl rfl ?_
    refine c_p_row hp0 (by omega) hk (Or.inl rfl) (Or.inl rfl) hP (by omega) (fun g hF hP2 => ?_)
    have ea : ∀ q, a ≤ q → q ≤ a + 5 → g q = h q := fun q q1 q2 => hF q (by omega)
    have e0 : g a = h a := ea a (by omega) (by omega)
    have e1 : g (a + 1) = h (a + 1) := ea _ (by omega) (by omega)
    have e2 : g (a + 2) = h (a + 2) := ea _ (by omega) (by omega)
    have ek : kPR2 g a = kPR2 h a := by unfold kPR2; rw [e0, ea (a + 3) (by omega) (by omega), ea (a + 4) (by omega) (by omega), ea (a + 5) (by omega) (by omega)]
    dsimp only [Option.toList, List.cons_append, List.nil_append]
    refine x_iconst (pc := 14) dX4_addKind_14 ?_
    refine x_istore_n (pc := 15) dX4_addKind_15 (by decide) ?_
    exact x_loc _ (by exact ⟨rfl, rfl, rfl, rfl, trivial⟩) (c_p_kind16 (h := g) hp0 hK0 hd (by rw [kPrOK_fr ea]; exact hO) (by rw [ek, e0, e1, e2]; exact hl) (fun h' hf hp' => hq h' (Fr.t hF hf) (by rw [ek, e0, e1, e2] at hp'; exact hp')) 11 0 g (by have := hO.1; rw [e0]; omega) (Fr.rf _ _ _) (by rw [show gL (stF (g (a + 1)) (g (a + 2))) 0 = [] from rfl, List.append_nil]; exact hP2) (by have := hO.1; rw [e0]; omega))
  · (try simp (disch := omega) only [zb_e0, zb_n0, w32_id, w64_id, ne_eq, Classical.not_not] at c_1)
    omega

end C9
end
section
section MA1
/-! rows of an edition, and what they tell -/
abbrev Row := Int × Int × Int × Int
theorem snoc_ind {α : Type} {P : List α → Prop} (h0 : P []) (hs : ∀ l a, P l → P (l ++ [a])) : ∀ l, P l := by
  have : ∀ l : List α, P l.reverse := by
    intro l
    induction l with
    | nil => exact h0
    | cons a l ih => rw [List.reverse_cons]; exact hs _ _ ih
  intro l
  have h := this l.reverse
  rwa [List.reverse_reverse] at h
def lastR (p : Row → Bool) (l : List Row) : Option Row := l.foldl (fun acc r => if p r then some r else acc) none
theorem lastR_snoc (p : Row → Bool) (l : List Row) (r : Row) : lastR p (l ++ [r]) = if p r = true then some r else lastR p l := by
  unfold lastR
  rw [List.foldl_append]
  rfl
theorem lastR_mem {p : Row → Bool} {r : Row} : ∀ l : List Row, lastR p l = some r → r ∈ l ∧ p r = true := by
  refine snoc_ind ?_ ?_
  · intro h; cases h
  · intro l a ih h
    rw [lastR_snoc] at h
    by_cases hp : p a = true
    · rw [if_pos hp] at h
      cases h
      exact ⟨by simp, hp⟩
    · rw [if_neg hp] at h
      have := ih h
      exact ⟨List.mem_append_left _ this.1, this.2⟩
theorem lastR_none {p : Row → Bool} : ∀ l : List Row, lastR p l = none ↔ ∀ r ∈ l, ¬ p r = true := by
  refine snoc_ind ?_ ?_
  · exact ⟨fun _ r hr => by simp at hr, fun _ => rfl⟩
  · intro l a ih
    rw [lastR_snoc]
    by_cases hp : p a = true
    · rw [if_pos hp]
      exact ⟨fun h => (by cases h), fun h => absurd hp (h a (by simp))⟩
    · rw [if_neg hp, ih]
      refine ⟨fun h r hr => ?_, fun h r hr => h r (List.mem_append_left _ hr)⟩
      rcases List.mem_append.mp hr with q | q
      · exact h r q
      · rw [List.mem_singleton.mp q]; exact hp
def nL (c : Int) (l : List Row) : Nat := (l.filter (fun r => r.1 == c)).length
theorem nL_snoc (c : Int) (l : List Row) (r : Row) : nL c (l ++ [r]) = if r.1 = c then nL c l + 1 else nL c l := by
  unfold nL
  rw [List.filter_append, List.length_append]
  by_cases h : r.1 = c <;> simp [h]
theorem nL_nil (c : Int) : nL c [] = 0 := rfl
def stp (l : List Row) : List (Int × Int) := (l.filter (fun r => r.1 == 83)).map (fun r => (r.2.1, r.2.2.1))
theorem stp_len (l : List Row) : (stp l).length = nL 83 l := by unfold stp nL; rw [List.length_map]
theorem stp_snoc (l : List Row) (r : Row) : stp (l ++ [r]) = if r.1 = 83 then stp l ++ [(r.2.1, r.2.2.1)] else stp l := by
  unfold stp
  rw [List.filter_append, List.map_append]
  by_cases h : r.1 = 83 <;> simp [h]
def lk (c z : Int) (l : List Row) : Int := match lastR (fun r => r.1 == c && r.2.1 == z) l with
  | some r => r.2.2.1
  | none => -1
theorem lk_snoc (c z : Int) (l : List Row) (r : Row) : lk c z (l ++ [r]) = if r.1 = c ∧ r.2.1 = z then r.2.2.1 else lk c z l := by
  unfold lk
  rw [lastR_snoc]
  by_cases h : r.1 = c ∧ r.2.1 = z
  · rw [if_pos h, if_pos (by simp [h.1, h.2])]
  · rw [if_neg h, if_neg (by simpa using h)]
def fl (c : Int) (f : Row → Int) (l : List Row) : Int := match lastR (fun r => r.1 == c) l with
  | some r => f r
  | none => -1
theorem fl_snoc (c : Int) (f : Row → Int) (l : List Row) (r : Row) : fl c f (l ++ [r]) = if r.1 = c then f r else fl c f l := by
  unfold fl
  rw [lastR_snoc]
  by_cases h : r.1 = c
  · rw [if_pos h, if_pos (by simp [h])]
  · rw [if_neg h, if_neg (by simpa using h)]
def exS (s : Int) (m : Nat) (r : Row) : Nat := if r.1 = 69 then (if r.2.1 = s then m ||| 2 ^ r.2.2.1.toNat else if r.2.2.1 = s then m ||| 2 ^ r.2.1.toNat else m) else m
def exM (l : List Row) (s : Int) : Nat := l.foldl (exS s) 0
theorem exM_snoc (l : List Row) (r : Row) (s : Int) : exM (l ++ [r]) s = exS s (exM l s) r := by
  unfold exM
  rw [List.foldl_append]
  rfl
/-- the number of the kind that is read; the rows of a kind -/
def ck (l : List Row) : Int := fl 75 (fun r => r.2.1) l
theorem ck_snoc (l : List Row) (r : Row) : ck (l ++ [r]) = if r.1 = 75 then r.2.1 else ck l := fl_snoc 75 _ l r
def kRs (k : Int) (s : Int × List Row) (r : Row) : Int × List Row := (if r.1 = 75 then r.2.1 else s.1, if (if r.1 = 75 then r.2.1 else s.1) = k then s.2 ++ [r] else s.2)
def kS (k : Int) (l : List Row) : Int × List Row := l.foldl (kRs k) (-1, [])
def kR (k : Int) (l : List Row) : List Row := (kS k l).2
theorem kS_snoc (k : Int) (l : List Row) (r : Row) : kS k (l ++ [r]) = kRs k (kS k l) r := by
  unfold kS
  rw [List.foldl_append]
  rfl
theorem kS_ck (k : Int) : ∀ l, (kS k l).1 = ck l := by
  refine snoc_ind rfl ?_
  intro l r ih
  rw [kS_snoc, ck_snoc]
  unfold kRs
  rw [ih]
theorem kR_snoc (k : Int) (l : List Row) (r : Row) : kR k (l ++ [r]) = if ck (l ++ [r]) = k then kR k l ++ [r] else kR k l := by
  unfold kR
  rw [kS_snoc, ck_snoc]
  unfold kRs
  rw [kS_ck]
theorem kR_nil (k : Int) : kR k [] = [] := rfl
theorem ck_nil : ck [] = -1 := rfl
def curK (l : List Row) : List Row := kR (ck l) l
def lastW (kr : List Row) : Int := match (stp kr).getLast? with
  | some q => q.1
  | none => 0
/-- may a row with this letter come now -/
def mayB (l : List Row) (c : Int) : Prop := (c = 75 ∧ (l = [] ∨ 0 < nL 83 (curK l))) ∨ (l ≠ [] ∧ ((c = 83 ∧ nL 83 (curK l) < 10) ∨ c = 90 ∨ c = 88 ∨ (c = 69 ∧ nL 69 (curK l) < 10) ∨ ((c = 68 ∨ c = 77 ∨ c = 70 ∨ c = 82) ∧ nL c (curK l) = 0)))
/-- may a row's n-th number be v (a0: its first one) -/
def okN (l : List Row) (c n v a0 : Int) : Prop :=
  (c = 75 ∧ (0 ≤ v ∧ v ≤ 9) ∧ kR v l = []) ∨ (c = 83 ∧ (0 < n ∨ lastW (curK l) < v)) ∨ (c = 90 ∧ ((0 < n ∧ v ≤ 1000) ∨ (n = 0 ∧ (0 ≤ v ∧ v ≤ 9) ∧ lk 90 v (curK l) = -1))) ∨ (c = 88 ∧ (0 < n ∨ (n = 0 ∧ (0 ≤ v ∧ v ≤ 9) ∧ lk 88 v (curK l) = -1))) ∨ (c = 69 ∧ (0 ≤ v ∧ v ≤ 9) ∧ lk 88 v (curK l) ≠ -1 ∧ (n = 0 ∨ (v ≠ a0 ∧ (exM (curK l) a0).testBit v.toNat = false))) ∨ (c = 70 ∧ (n = 0 ∨ a0 ≤ v)) ∨ (c = 82 ∧ 1 ≤ v ∧ v ≤ 1000) ∨ ((c = 68 ∨ c = 77) ∧ 1 ≤ v)
def nms (c : Int) : Int := if c = 75 ∨ c = 77 ∨ c = 82 then 1 else if c = 68 then 3 else 2
/-- a row that may come behind l -/
def okRow (l : List Row) (r : Row) : Prop := mayB l r.1 ∧ i10 r.2.1 ∧ i10 r.2.2.1 ∧ i10 r.2.2.2 ∧ okN l r.1 0 r.2.1 0 ∧ (if nms r.1 = 1 then r.2.2.1 = 0 else okN l r.1 1 r.2.2.1 r.2.1) ∧ (if nms r.1 = 3 then okN l r.1 2 r.2.2.2 r.2.1 else r.2.2.2 = 0)
def WF (l : List Row) : Prop := ∀ (i : Nat) (r : Row), l[i]? = some r → okRow (l.take i) r
theorem WF_nil : WF [] := fun i r h => by simp at h
theorem WF_snoc {l : List Row} {r : Row} : WF (l ++ [r]) ↔ WF l ∧ okRow l r := by
  constructor
  · intro h
    refine ⟨fun i q hi => ?_, ?_⟩
    · have hl := (List.getElem?_eq_some_iff.mp hi).1
      have := h i q (by rw [List.getElem?_append_left hl]; exact hi)
      rwa [List.take_append_of_le_length (by omega)] at this
    · have := h l.length r (by simp)
      rwa [List.take_append_of_le_length (by omega), List.take_length] at this
  · intro ⟨h1, h2⟩ i q hi
    by_cases hl : i < l.length
    · rw [List.getElem?_append_left hl] at hi
      rw [List.take_append_of_le_length (by omega)]
      exact h1 i q hi
    · rw [List.getElem?_append_right (by omega)] at hi
      have h0 : i - l.length = 0 := by
        have := (List.getElem?_eq_some_iff.mp hi).1
        simp at this
        omega
      rw [h0] at hi
      cases hi
      rw [show i = l.length by omega, List.take_append_of_le_length (by omega), List.take_length]
      exact h2
def isRowL (c : Int) : Prop := c = 75 ∨ c = 83 ∨ c = 90 ∨ c = 88 ∨ c = 69 ∨ c = 68 ∨ c = 77 ∨ c = 70 ∨ c = 82
theorem mayB_l {l : List Row} {c : Int} (h : mayB l c) : isRowL c := by
  unfold mayB at h
  unfold isRowL
  omega
/-- what a row's numbers are, whatever stands before it -/
def rowB (r : Row) : Prop := isRowL r.1 ∧ i10 r.2.1 ∧ i10 r.2.2.1 ∧ i10 r.2.2.2 ∧ (r.1 = 75 → 0 ≤ r.2.1 ∧ r.2.1 ≤ 9) ∧ (r.1 = 90 → (0 ≤ r.2.1 ∧ r.2.1 ≤ 9) ∧ r.2.2.1 ≤ 1000) ∧ (r.1 = 88 → 0 ≤ r.2.1 ∧ r.2.1 ≤ 9) ∧ (r.1 = 69 → (0 ≤ r.2.1 ∧ r.2.1 ≤ 9) ∧ (0 ≤ r.2.2.1 ∧ r.2.2.1 ≤ 9) ∧ r.2.1 ≠ r.2.2.1) ∧ (r.1 = 68 → 1 ≤ r.2.1 ∧ 1 ≤ r.2.2.1 ∧ 1 ≤ r.2.2.2) ∧ (r.1 = 77 → 1 ≤ r.2.1) ∧ (r.1 = 70 → r.2.1 ≤ r.2.2.1) ∧ (r.1 = 82 → 1 ≤ r.2.1 ∧ r.2.1 ≤ 1000)
theorem okRow_B {l : List Row} {r : Row} (h : okRow l r) : rowB r := by
  obtain ⟨h1, h2, h3, h4, h5, h6, h7⟩ := h
  have hl := mayB_l h1
  unfold okN nms at *
  refine ⟨hl, h2, h3, h4, ?_, ?_, ?_, ?_, ?_, ?_, ?_, ?_⟩ <;> intro e <;> simp [e] at h5 h6 h7 <;> omega
theorem WF_B : ∀ l, WF l → ∀ r ∈ l, rowB r := by
  refine snoc_ind (fun _ r hr => by simp at hr) ?_
  intro l a ih h r hr
  obtain ⟨h1, h2⟩ := WF_snoc.mp h
  rcases List.mem_append.mp hr with q | q
  · exact ih h1 r q
  · rw [List.mem_singleton.mp q]; exact okRow_B h2
theorem ck_rng : ∀ l, WF l → l ≠ [] → 0 ≤ ck l ∧ ck l ≤ 9 := by
  refine snoc_ind (fun _ h => absurd rfl h) ?_
  intro l r ih h _
  obtain ⟨h1, h2⟩ := WF_snoc.mp h
  rw [ck_snoc]
  by_cases e : r.1 = 75
  · rw [if_pos e]
    exact (okRow_B h2).2.2.2.2.1 e
  · rw [if_neg e]
    refine ih h1 ?_
    intro q
    subst q
    have := h2.1
    unfold mayB at this
    simp at this
    exact e this
theorem kR_sub (k : Int) : ∀ l, ∀ r ∈ kR k l, r ∈ l := by
  refine snoc_ind (fun r hr => by simp [kR, kS] at hr) ?_
  intro l a ih r hr
  rw [kR_snoc] at hr
  split at hr
  · rcases List.mem_append.mp hr with q | q
    · exact List.mem_append_left _ (ih r q)
    · exact List.mem_append_right _ q
  · exact List.mem_append_left _ (ih r hr)
theorem kR_cur_ne : ∀ l, l ≠ [] → WF l → curK l ≠ [] := by
  refine snoc_ind (fun h => absurd rfl h) ?_
  intro l r ih _ _
  unfold curK
  rw [kR_snoc, if_pos rfl]
  simp
/-- the counts of a kind -/
def cntOK (kr : List Row) : Prop := nL 83 kr ≤ 10 ∧ nL 69 kr ≤ 10 ∧ nL 68 kr ≤ 1 ∧ nL 77 kr ≤ 1 ∧ nL 70 kr ≤ 1 ∧ nL 82 kr ≤ 1
theorem curK_K {l : List Row} {r : Row} (h : okRow l r) (e : r.1 = 75) : kR r.2.1 l = [] := by
  have h5 := h.2.2.2.2.1
  unfold okN at h5
  rcases h5 with ⟨-, -, q⟩ | q | q | q | q | q | q | q <;> first | exact q | omega
theorem kR_cnt : ∀ l, WF l → ∀ k, cntOK (kR k l) := by
  refine snoc_ind (fun _ k => by simp [cntOK, kR, kS, nL]) ?_
  intro l r ih h k
  obtain ⟨h1, h2⟩ := WF_snoc.mp h
  have i1 := ih h1 k
  rw [kR_snoc]
  by_cases e : ck (l ++ [r]) = k
  · rw [if_pos e]
    rw [ck_snoc] at e
    unfold cntOK at *
    simp only [nL_snoc]
    by_cases e75 : r.1 = 75
    · simp [e75]; omega
    · rw [if_neg e75] at e
      have hm := h2.1
      unfold mayB curK at hm
      rw [e] at hm
      rcases hm with hm | ⟨-, hm⟩
      · omega
      · rcases hm with ⟨hc, hn⟩ | hc | hc | ⟨hc, hn⟩ | ⟨hc | hc | hc | hc, hn⟩ <;> (try rw [hc] at hn) <;> simp [hc] <;> omega
  · rw [if_neg e]
    exact i1
end MA1
end
