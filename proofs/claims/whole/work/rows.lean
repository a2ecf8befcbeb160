section
-- ===== PART A: goes FIRST, ahead of the names: the tables' words, and 'selects' of the private methods out of them =====
/-- a private method of a class that the tables say can be made, by its rows of tables_1 -/
def lw_okq (q : MethodName × Nat) : Prop := (q.1.cls ≠ "java/lang/invoke/MethodHandle" ∧ q.1.cls ≠ "java/lang/invoke/VarHandle") ∧ Cond.instantiable q.1.cls q.2 ∈ tables_1 ∧ Cond.privateMethod q.1 ∈ tables_1 ∧ Cond.instanceMethod q.1 ∈ tables_1
theorem lw_p0 : lw_okq (⟨"HourPromised", "everyServiceHasChapel", "()Z"⟩, 14) := ⟨⟨by decide +kernel, by decide +kernel⟩, List.mem_of_getElem? (i := 21) (by decide +kernel), List.mem_of_getElem? (i := 229) (by decide +kernel), List.mem_of_getElem? (i := 230) (by decide +kernel)⟩
theorem lw_p1 : lw_okq (⟨"HourPromised", "openChapels", "(I)I"⟩, 14) := ⟨⟨by decide +kernel, by decide +kernel⟩, List.mem_of_getElem? (i := 21) (by decide +kernel), List.mem_of_getElem? (i := 237) (by decide +kernel), List.mem_of_getElem? (i := 238) (by decide +kernel)⟩
theorem lw_p2 : lw_okq (⟨"HourPromised", "isOpen", "(II)Z"⟩, 14) := ⟨⟨by decide +kernel, by decide +kernel⟩, List.mem_of_getElem? (i := 21) (by decide +kernel), List.mem_of_getElem? (i := 241) (by decide +kernel), List.mem_of_getElem? (i := 242) (by decide +kernel)⟩
theorem lw_p3 : lw_okq (⟨"HourPromised$LawReader", "skip", "()I"⟩, 7) := ⟨⟨by decide +kernel, by decide +kernel⟩, List.mem_of_getElem? (i := 90) (by decide +kernel), List.mem_of_getElem? (i := 277) (by decide +kernel), List.mem_of_getElem? (i := 278) (by decide +kernel)⟩
theorem lw_p4 : lw_okq (⟨"HourPromised$LawReader", "readPart", "(LHourPromised$Text;LHourPromised$Law;)I"⟩, 7) := ⟨⟨by decide +kernel, by decide +kernel⟩, List.mem_of_getElem? (i := 90) (by decide +kernel), List.mem_of_getElem? (i := 281) (by decide +kernel), List.mem_of_getElem? (i := 282) (by decide +kernel)⟩
theorem lw_p5 : lw_okq (⟨"HourPromised$LawReader", "readClause", "(I)I"⟩, 7) := ⟨⟨by decide +kernel, by decide +kernel⟩, List.mem_of_getElem? (i := 90) (by decide +kernel), List.mem_of_getElem? (i := 288) (by decide +kernel), List.mem_of_getElem? (i := 289) (by decide +kernel)⟩
theorem lw_p6 : lw_okq (⟨"HourPromised$LawReader", "goOn", "(I)I"⟩, 7) := ⟨⟨by decide +kernel, by decide +kernel⟩, List.mem_of_getElem? (i := 90) (by decide +kernel), List.mem_of_getElem? (i := 293) (by decide +kernel), List.mem_of_getElem? (i := 294) (by decide +kernel)⟩
theorem lw_p7 : lw_okq (⟨"HourPromised$LawReader", "readItem", "(ILHourPromised$Law;)I"⟩, 7) := ⟨⟨by decide +kernel, by decide +kernel⟩, List.mem_of_getElem? (i := 90) (by decide +kernel), List.mem_of_getElem? (i := 300) (by decide +kernel), List.mem_of_getElem? (i := 301) (by decide +kernel)⟩
theorem lw_p8 : lw_okq (⟨"HourPromised$LawReader", "readNumber", "(LHourPromised$Text;LHourPromised$Law;)I"⟩, 7) := ⟨⟨by decide +kernel, by decide +kernel⟩, List.mem_of_getElem? (i := 90) (by decide +kernel), List.mem_of_getElem? (i := 312) (by decide +kernel), List.mem_of_getElem? (i := 313) (by decide +kernel)⟩
theorem lw_p9 : lw_okq (⟨"HourPromised", "undoBroken", "(LHourPromised$CaseFile;)I"⟩, 14) := ⟨⟨by decide +kernel, by decide +kernel⟩, List.mem_of_getElem? (i := 21) (by decide +kernel), List.mem_of_getElem? (i := 342) (by decide +kernel), List.mem_of_getElem? (i := 343) (by decide +kernel)⟩
theorem lw_p10 : lw_okq (⟨"HourPromised$CaseFile", "hasPapers", "(II)Z"⟩, 8) := ⟨⟨by decide +kernel, by decide +kernel⟩, List.mem_of_getElem? (i := 364) (by decide +kernel), List.mem_of_getElem? (i := 362) (by decide +kernel), List.mem_of_getElem? (i := 363) (by decide +kernel)⟩
theorem lw_p11 : lw_okq (⟨"HourPromised$CaseFile", "hasStepsAhead", "(II)Z"⟩, 8) := ⟨⟨by decide +kernel, by decide +kernel⟩, List.mem_of_getElem? (i := 364) (by decide +kernel), List.mem_of_getElem? (i := 372) (by decide +kernel), List.mem_of_getElem? (i := 373) (by decide +kernel)⟩
theorem lw_p12 : lw_okq (⟨"HourPromised", "takeBack", "(LHourPromised$CaseFile;I)V"⟩, 14) := ⟨⟨by decide +kernel, by decide +kernel⟩, List.mem_of_getElem? (i := 21) (by decide +kernel), List.mem_of_getElem? (i := 376) (by decide +kernel), List.mem_of_getElem? (i := 377) (by decide +kernel)⟩
theorem lw_p13 : lw_okq (⟨"java/util/ArrayList", "add", "(Ljava/lang/Object;[Ljava/lang/Object;I)V"⟩, 3) := ⟨⟨by decide +kernel, by decide +kernel⟩, List.mem_of_getElem? (i := 138) (by decide +kernel), List.mem_of_getElem? (i := 461) (by decide +kernel), List.mem_of_getElem? (i := 462) (by decide +kernel)⟩
theorem lw_p14 : lw_okq (⟨"java/util/ArrayList", "grow", "()[Ljava/lang/Object;"⟩, 3) := ⟨⟨by decide +kernel, by decide +kernel⟩, List.mem_of_getElem? (i := 138) (by decide +kernel), List.mem_of_getElem? (i := 465) (by decide +kernel), List.mem_of_getElem? (i := 466) (by decide +kernel)⟩
theorem lw_p15 : lw_okq (⟨"java/util/ArrayList", "grow", "(I)[Ljava/lang/Object;"⟩, 3) := ⟨⟨by decide +kernel, by decide +kernel⟩, List.mem_of_getElem? (i := 138) (by decide +kernel), List.mem_of_getElem? (i := 469) (by decide +kernel), List.mem_of_getElem? (i := 470) (by decide +kernel)⟩
def lw_privs_1 : List (MethodName × Nat) := [(⟨"HourPromised", "everyServiceHasChapel", "()Z"⟩, 14), (⟨"HourPromised", "openChapels", "(I)I"⟩, 14), (⟨"HourPromised", "isOpen", "(II)Z"⟩, 14), (⟨"HourPromised$LawReader", "skip", "()I"⟩, 7), (⟨"HourPromised$LawReader", "readPart", "(LHourPromised$Text;LHourPromised$Law;)I"⟩, 7), (⟨"HourPromised$LawReader", "readClause", "(I)I"⟩, 7), (⟨"HourPromised$LawReader", "goOn", "(I)I"⟩, 7), (⟨"HourPromised$LawReader", "readItem", "(ILHourPromised$Law;)I"⟩, 7), (⟨"HourPromised$LawReader", "readNumber", "(LHourPromised$Text;LHourPromised$Law;)I"⟩, 7), (⟨"HourPromised", "undoBroken", "(LHourPromised$CaseFile;)I"⟩, 14), (⟨"HourPromised$CaseFile", "hasPapers", "(II)Z"⟩, 8), (⟨"HourPromised$CaseFile", "hasStepsAhead", "(II)Z"⟩, 8), (⟨"HourPromised", "takeBack", "(LHourPromised$CaseFile;I)V"⟩, 14), (⟨"java/util/ArrayList", "add", "(Ljava/lang/Object;[Ljava/lang/Object;I)V"⟩, 3), (⟨"java/util/ArrayList", "grow", "()[Ljava/lang/Object;"⟩, 3), (⟨"java/util/ArrayList", "grow", "(I)[Ljava/lang/Object;"⟩, 3)]
theorem lw_r1 : ∀ q ∈ lw_privs_1, lw_okq q := List.forall_mem_cons.mpr ⟨lw_p0, List.forall_mem_cons.mpr ⟨lw_p1, List.forall_mem_cons.mpr ⟨lw_p2, List.forall_mem_cons.mpr ⟨lw_p3, List.forall_mem_cons.mpr ⟨lw_p4, List.forall_mem_cons.mpr ⟨lw_p5, List.forall_mem_cons.mpr ⟨lw_p6, List.forall_mem_cons.mpr ⟨lw_p7, List.forall_mem_cons.mpr ⟨lw_p8, List.forall_mem_cons.mpr ⟨lw_p9, List.forall_mem_cons.mpr ⟨lw_p10, List.forall_mem_cons.mpr ⟨lw_p11, List.forall_mem_cons.mpr ⟨lw_p12, List.forall_mem_cons.mpr ⟨lw_p13, List.forall_mem_cons.mpr ⟨lw_p14, List.forall_mem_cons.mpr ⟨lw_p15, fun _ h => absurd h List.not_mem_nil⟩⟩⟩⟩⟩⟩⟩⟩⟩⟩⟩⟩⟩⟩⟩⟩
theorem lw_p16 : lw_okq (⟨"HourPromised", "fileOf", "(I)LHourPromised$CaseFile;"⟩, 14) := ⟨⟨by decide +kernel, by decide +kernel⟩, List.mem_of_getElem? (i := 21) (by decide +kernel), List.mem_of_getElem? (i := 514) (by decide +kernel), List.mem_of_getElem? (i := 515) (by decide +kernel)⟩
theorem lw_p17 : lw_okq (⟨"HourPromised", "hindrance", "(LHourPromised$CaseFile;II)I"⟩, 14) := ⟨⟨by decide +kernel, by decide +kernel⟩, List.mem_of_getElem? (i := 21) (by decide +kernel), List.mem_of_getElem? (i := 522) (by decide +kernel), List.mem_of_getElem? (i := 523) (by decide +kernel)⟩
theorem lw_p18 : lw_okq (⟨"HourPromised$CaseFile", "comesTooLate", "(LHourPromised$Law;II)Z"⟩, 8) := ⟨⟨by decide +kernel, by decide +kernel⟩, List.mem_of_getElem? (i := 364) (by decide +kernel), List.mem_of_getElem? (i := 532) (by decide +kernel), List.mem_of_getElem? (i := 533) (by decide +kernel)⟩
theorem lw_p19 : lw_okq (⟨"HourPromised$CaseFile", "hasOtherStepAt", "(II)Z"⟩, 8) := ⟨⟨by decide +kernel, by decide +kernel⟩, List.mem_of_getElem? (i := 364) (by decide +kernel), List.mem_of_getElem? (i := 536) (by decide +kernel), List.mem_of_getElem? (i := 537) (by decide +kernel)⟩
theorem lw_p20 : lw_okq (⟨"HourPromised", "hasPlaceFor", "(LHourPromised$CaseFile;II)Z"⟩, 14) := ⟨⟨by decide +kernel, by decide +kernel⟩, List.mem_of_getElem? (i := 21) (by decide +kernel), List.mem_of_getElem? (i := 540) (by decide +kernel), List.mem_of_getElem? (i := 541) (by decide +kernel)⟩
theorem lw_p21 : lw_okq (⟨"HourPromised", "hasBearersFor", "(LHourPromised$CaseFile;I)Z"⟩, 14) := ⟨⟨by decide +kernel, by decide +kernel⟩, List.mem_of_getElem? (i := 21) (by decide +kernel), List.mem_of_getElem? (i := 550) (by decide +kernel), List.mem_of_getElem? (i := 551) (by decide +kernel)⟩
theorem lw_p22 : lw_okq (⟨"HourPromised$Bearers", "findFrom", "(II)Z"⟩, 7) := ⟨⟨by decide +kernel, by decide +kernel⟩, List.mem_of_getElem? (i := 29) (by decide +kernel), List.mem_of_getElem? (i := 573) (by decide +kernel), List.mem_of_getElem? (i := 574) (by decide +kernel)⟩
theorem lw_p23 : lw_okq (⟨"HourPromised$Bearers", "fillSet", "(IIII)Z"⟩, 7) := ⟨⟨by decide +kernel, by decide +kernel⟩, List.mem_of_getElem? (i := 29) (by decide +kernel), List.mem_of_getElem? (i := 577) (by decide +kernel), List.mem_of_getElem? (i := 578) (by decide +kernel)⟩
theorem lw_p24 : lw_okq (⟨"HourPromised$Bearers", "likeInHeight", "(II)I"⟩, 7) := ⟨⟨by decide +kernel, by decide +kernel⟩, List.mem_of_getElem? (i := 29) (by decide +kernel), List.mem_of_getElem? (i := 588) (by decide +kernel), List.mem_of_getElem? (i := 589) (by decide +kernel)⟩
theorem lw_p25 : lw_okq (⟨"HourPromised", "book", "(LHourPromised$CaseFile;II)V"⟩, 14) := ⟨⟨by decide +kernel, by decide +kernel⟩, List.mem_of_getElem? (i := 21) (by decide +kernel), List.mem_of_getElem? (i := 599) (by decide +kernel), List.mem_of_getElem? (i := 600) (by decide +kernel)⟩
theorem lw_p26 : lw_okq (⟨"HourPromised", "chapelOf", "(II)I"⟩, 14) := ⟨⟨by decide +kernel, by decide +kernel⟩, List.mem_of_getElem? (i := 21) (by decide +kernel), List.mem_of_getElem? (i := 615) (by decide +kernel), List.mem_of_getElem? (i := 616) (by decide +kernel)⟩
theorem lw_p27 : lw_okq (⟨"HourPromised", "bearersOf", "(II)I"⟩, 14) := ⟨⟨by decide +kernel, by decide +kernel⟩, List.mem_of_getElem? (i := 21) (by decide +kernel), List.mem_of_getElem? (i := 619) (by decide +kernel), List.mem_of_getElem? (i := 620) (by decide +kernel)⟩
theorem lw_p28 : lw_okq (⟨"HourPromised", "trustOfAll", "()I"⟩, 14) := ⟨⟨by decide +kernel, by decide +kernel⟩, List.mem_of_getElem? (i := 21) (by decide +kernel), List.mem_of_getElem? (i := 635) (by decide +kernel), List.mem_of_getElem? (i := 636) (by decide +kernel)⟩
theorem lw_p29 : lw_okq (⟨"HourPromised", "planOf", "(I)LHourPromised$Plan;"⟩, 14) := ⟨⟨by decide +kernel, by decide +kernel⟩, List.mem_of_getElem? (i := 21) (by decide +kernel), List.mem_of_getElem? (i := 675) (by decide +kernel), List.mem_of_getElem? (i := 676) (by decide +kernel)⟩
theorem lw_p30 : lw_okq (⟨"HourPromisedModel", "carsAt", "(I)I"⟩, 31) := ⟨⟨by decide +kernel, by decide +kernel⟩, List.mem_of_getElem? (i := 714) (by decide +kernel), List.mem_of_getElem? (i := 826) (by decide +kernel), List.mem_of_getElem? (i := 827) (by decide +kernel)⟩
theorem lw_p31 : lw_okq (⟨"HourPromisedModel", "stepsAt", "(II)I"⟩, 31) := ⟨⟨by decide +kernel, by decide +kernel⟩, List.mem_of_getElem? (i := 714) (by decide +kernel), List.mem_of_getElem? (i := 830) (by decide +kernel), List.mem_of_getElem? (i := 831) (by decide +kernel)⟩
def lw_privs_2 : List (MethodName × Nat) := [(⟨"HourPromised", "fileOf", "(I)LHourPromised$CaseFile;"⟩, 14), (⟨"HourPromised", "hindrance", "(LHourPromised$CaseFile;II)I"⟩, 14), (⟨"HourPromised$CaseFile", "comesTooLate", "(LHourPromised$Law;II)Z"⟩, 8), (⟨"HourPromised$CaseFile", "hasOtherStepAt", "(II)Z"⟩, 8), (⟨"HourPromised", "hasPlaceFor", "(LHourPromised$CaseFile;II)Z"⟩, 14), (⟨"HourPromised", "hasBearersFor", "(LHourPromised$CaseFile;I)Z"⟩, 14), (⟨"HourPromised$Bearers", "findFrom", "(II)Z"⟩, 7), (⟨"HourPromised$Bearers", "fillSet", "(IIII)Z"⟩, 7), (⟨"HourPromised$Bearers", "likeInHeight", "(II)I"⟩, 7), (⟨"HourPromised", "book", "(LHourPromised$CaseFile;II)V"⟩, 14), (⟨"HourPromised", "chapelOf", "(II)I"⟩, 14), (⟨"HourPromised", "bearersOf", "(II)I"⟩, 14), (⟨"HourPromised", "trustOfAll", "()I"⟩, 14), (⟨"HourPromised", "planOf", "(I)LHourPromised$Plan;"⟩, 14), (⟨"HourPromisedModel", "carsAt", "(I)I"⟩, 31), (⟨"HourPromisedModel", "stepsAt", "(II)I"⟩, 31)]
theorem lw_r2 : ∀ q ∈ lw_privs_2, lw_okq q := List.forall_mem_cons.mpr ⟨lw_p16, List.forall_mem_cons.mpr ⟨lw_p17, List.forall_mem_cons.mpr ⟨lw_p18, List.forall_mem_cons.mpr ⟨lw_p19, List.forall_mem_cons.mpr ⟨lw_p20, List.forall_mem_cons.mpr ⟨lw_p21, List.forall_mem_cons.mpr ⟨lw_p22, List.forall_mem_cons.mpr ⟨lw_p23, List.forall_mem_cons.mpr ⟨lw_p24, List.forall_mem_cons.mpr ⟨lw_p25, List.forall_mem_cons.mpr ⟨lw_p26, List.forall_mem_cons.mpr ⟨lw_p27, List.forall_mem_cons.mpr ⟨lw_p28, List.forall_mem_cons.mpr ⟨lw_p29, List.forall_mem_cons.mpr ⟨lw_p30, List.forall_mem_cons.mpr ⟨lw_p31, fun _ h => absurd h List.not_mem_nil⟩⟩⟩⟩⟩⟩⟩⟩⟩⟩⟩⟩⟩⟩⟩⟩
theorem lw_p32 : lw_okq (⟨"HourPromisedModel", "hourOf", "(II)I"⟩, 31) := ⟨⟨by decide +kernel, by decide +kernel⟩, List.mem_of_getElem? (i := 714) (by decide +kernel), List.mem_of_getElem? (i := 834) (by decide +kernel), List.mem_of_getElem? (i := 835) (by decide +kernel)⟩
theorem lw_p33 : lw_okq (⟨"HourPromisedModel", "roomsAt", "(I)I"⟩, 31) := ⟨⟨by decide +kernel, by decide +kernel⟩, List.mem_of_getElem? (i := 714) (by decide +kernel), List.mem_of_getElem? (i := 838) (by decide +kernel), List.mem_of_getElem? (i := 839) (by decide +kernel)⟩
theorem lw_p34 : lw_okq (⟨"HourPromisedModel", "roomEnd", "(I)I"⟩, 31) := ⟨⟨by decide +kernel, by decide +kernel⟩, List.mem_of_getElem? (i := 714) (by decide +kernel), List.mem_of_getElem? (i := 842) (by decide +kernel), List.mem_of_getElem? (i := 843) (by decide +kernel)⟩
theorem lw_p35 : lw_okq (⟨"HourPromisedModel", "chapelsAt", "(I)I"⟩, 31) := ⟨⟨by decide +kernel, by decide +kernel⟩, List.mem_of_getElem? (i := 714) (by decide +kernel), List.mem_of_getElem? (i := 851) (by decide +kernel), List.mem_of_getElem? (i := 852) (by decide +kernel)⟩
theorem lw_p36 : lw_okq (⟨"HourPromisedModel", "readLaw", "()I"⟩, 31) := ⟨⟨by decide +kernel, by decide +kernel⟩, List.mem_of_getElem? (i := 714) (by decide +kernel), List.mem_of_getElem? (i := 870) (by decide +kernel), List.mem_of_getElem? (i := 871) (by decide +kernel)⟩
theorem lw_p37 : lw_okq (⟨"HourPromisedModel", "here", "()I"⟩, 31) := ⟨⟨by decide +kernel, by decide +kernel⟩, List.mem_of_getElem? (i := 714) (by decide +kernel), List.mem_of_getElem? (i := 874) (by decide +kernel), List.mem_of_getElem? (i := 875) (by decide +kernel)⟩
theorem lw_p38 : lw_okq (⟨"HourPromisedModel", "fails", "(II)I"⟩, 31) := ⟨⟨by decide +kernel, by decide +kernel⟩, List.mem_of_getElem? (i := 714) (by decide +kernel), List.mem_of_getElem? (i := 881) (by decide +kernel), List.mem_of_getElem? (i := 882) (by decide +kernel)⟩
theorem lw_p39 : lw_okq (⟨"HourPromisedModel", "readItem", "(II)I"⟩, 31) := ⟨⟨by decide +kernel, by decide +kernel⟩, List.mem_of_getElem? (i := 714) (by decide +kernel), List.mem_of_getElem? (i := 885) (by decide +kernel), List.mem_of_getElem? (i := 886) (by decide +kernel)⟩
theorem lw_p40 : lw_okq (⟨"HourPromisedModel", "readNumber", "(I)I"⟩, 31) := ⟨⟨by decide +kernel, by decide +kernel⟩, List.mem_of_getElem? (i := 714) (by decide +kernel), List.mem_of_getElem? (i := 891) (by decide +kernel), List.mem_of_getElem? (i := 892) (by decide +kernel)⟩
theorem lw_p41 : lw_okq (⟨"HourPromisedModel", "putRight", "(II)I"⟩, 31) := ⟨⟨by decide +kernel, by decide +kernel⟩, List.mem_of_getElem? (i := 714) (by decide +kernel), List.mem_of_getElem? (i := 897) (by decide +kernel), List.mem_of_getElem? (i := 898) (by decide +kernel)⟩
theorem lw_p42 : lw_okq (⟨"HourPromisedModel", "hinders", "(III)I"⟩, 31) := ⟨⟨by decide +kernel, by decide +kernel⟩, List.mem_of_getElem? (i := 714) (by decide +kernel), List.mem_of_getElem? (i := 901) (by decide +kernel), List.mem_of_getElem? (i := 902) (by decide +kernel)⟩
theorem lw_p43 : lw_okq (⟨"HourPromisedModel", "lawOf", "(III)I"⟩, 31) := ⟨⟨by decide +kernel, by decide +kernel⟩, List.mem_of_getElem? (i := 714) (by decide +kernel), List.mem_of_getElem? (i := 905) (by decide +kernel), List.mem_of_getElem? (i := 906) (by decide +kernel)⟩
theorem lw_p44 : lw_okq (⟨"HourPromisedModel", "papersMiss", "(III)Z"⟩, 31) := ⟨⟨by decide +kernel, by decide +kernel⟩, List.mem_of_getElem? (i := 714) (by decide +kernel), List.mem_of_getElem? (i := 909) (by decide +kernel), List.mem_of_getElem? (i := 910) (by decide +kernel)⟩
theorem lw_p45 : lw_okq (⟨"HourPromisedModel", "isOut", "(III)Z"⟩, 31) := ⟨⟨by decide +kernel, by decide +kernel⟩, List.mem_of_getElem? (i := 714) (by decide +kernel), List.mem_of_getElem? (i := 913) (by decide +kernel), List.mem_of_getElem? (i := 914) (by decide +kernel)⟩
theorem lw_p46 : lw_okq (⟨"HourPromisedModel", "aheadMiss", "(III)Z"⟩, 31) := ⟨⟨by decide +kernel, by decide +kernel⟩, List.mem_of_getElem? (i := 714) (by decide +kernel), List.mem_of_getElem? (i := 917) (by decide +kernel), List.mem_of_getElem? (i := 918) (by decide +kernel)⟩
theorem lw_p47 : lw_okq (⟨"HourPromisedModel", "isCase", "(I)Z"⟩, 31) := ⟨⟨by decide +kernel, by decide +kernel⟩, List.mem_of_getElem? (i := 714) (by decide +kernel), List.mem_of_getElem? (i := 945) (by decide +kernel), List.mem_of_getElem? (i := 946) (by decide +kernel)⟩
def lw_privs_3 : List (MethodName × Nat) := [(⟨"HourPromisedModel", "hourOf", "(II)I"⟩, 31), (⟨"HourPromisedModel", "roomsAt", "(I)I"⟩, 31), (⟨"HourPromisedModel", "roomEnd", "(I)I"⟩, 31), (⟨"HourPromisedModel", "chapelsAt", "(I)I"⟩, 31), (⟨"HourPromisedModel", "readLaw", "()I"⟩, 31), (⟨"HourPromisedModel", "here", "()I"⟩, 31), (⟨"HourPromisedModel", "fails", "(II)I"⟩, 31), (⟨"HourPromisedModel", "readItem", "(II)I"⟩, 31), (⟨"HourPromisedModel", "readNumber", "(I)I"⟩, 31), (⟨"HourPromisedModel", "putRight", "(II)I"⟩, 31), (⟨"HourPromisedModel", "hinders", "(III)I"⟩, 31), (⟨"HourPromisedModel", "lawOf", "(III)I"⟩, 31), (⟨"HourPromisedModel", "papersMiss", "(III)Z"⟩, 31), (⟨"HourPromisedModel", "isOut", "(III)Z"⟩, 31), (⟨"HourPromisedModel", "aheadMiss", "(III)Z"⟩, 31), (⟨"HourPromisedModel", "isCase", "(I)Z"⟩, 31)]
theorem lw_r3 : ∀ q ∈ lw_privs_3, lw_okq q := List.forall_mem_cons.mpr ⟨lw_p32, List.forall_mem_cons.mpr ⟨lw_p33, List.forall_mem_cons.mpr ⟨lw_p34, List.forall_mem_cons.mpr ⟨lw_p35, List.forall_mem_cons.mpr ⟨lw_p36, List.forall_mem_cons.mpr ⟨lw_p37, List.forall_mem_cons.mpr ⟨lw_p38, List.forall_mem_cons.mpr ⟨lw_p39, List.forall_mem_cons.mpr ⟨lw_p40, List.forall_mem_cons.mpr ⟨lw_p41, List.forall_mem_cons.mpr ⟨lw_p42, List.forall_mem_cons.mpr ⟨lw_p43, List.forall_mem_cons.mpr ⟨lw_p44, List.forall_mem_cons.mpr ⟨lw_p45, List.forall_mem_cons.mpr ⟨lw_p46, List.forall_mem_cons.mpr ⟨lw_p47, fun _ h => absurd h List.not_mem_nil⟩⟩⟩⟩⟩⟩⟩⟩⟩⟩⟩⟩⟩⟩⟩⟩
theorem lw_p48 : lw_okq (⟨"HourPromisedModel", "mayBe", "(III)I"⟩, 31) := ⟨⟨by decide +kernel, by decide +kernel⟩, List.mem_of_getElem? (i := 714) (by decide +kernel), List.mem_of_getElem? (i := 955) (by decide +kernel), List.mem_of_getElem? (i := 956) (by decide +kernel)⟩
theorem lw_p49 : lw_okq (⟨"HourPromisedModel", "isWantedLater", "(III)Z"⟩, 31) := ⟨⟨by decide +kernel, by decide +kernel⟩, List.mem_of_getElem? (i := 714) (by decide +kernel), List.mem_of_getElem? (i := 959) (by decide +kernel), List.mem_of_getElem? (i := 960) (by decide +kernel)⟩
theorem lw_p50 : lw_okq (⟨"HourPromisedModel", "isBusy", "(II)Z"⟩, 31) := ⟨⟨by decide +kernel, by decide +kernel⟩, List.mem_of_getElem? (i := 714) (by decide +kernel), List.mem_of_getElem? (i := 963) (by decide +kernel), List.mem_of_getElem? (i := 964) (by decide +kernel)⟩
theorem lw_p51 : lw_okq (⟨"HourPromisedModel", "placeMiss", "(III)Z"⟩, 31) := ⟨⟨by decide +kernel, by decide +kernel⟩, List.mem_of_getElem? (i := 714) (by decide +kernel), List.mem_of_getElem? (i := 967) (by decide +kernel), List.mem_of_getElem? (i := 968) (by decide +kernel)⟩
theorem lw_p52 : lw_okq (⟨"HourPromisedModel", "findSets", "(I)Z"⟩, 31) := ⟨⟨by decide +kernel, by decide +kernel⟩, List.mem_of_getElem? (i := 714) (by decide +kernel), List.mem_of_getElem? (i := 971) (by decide +kernel), List.mem_of_getElem? (i := 972) (by decide +kernel)⟩
theorem lw_p53 : lw_okq (⟨"HourPromisedModel", "listSets", "(II)I"⟩, 31) := ⟨⟨by decide +kernel, by decide +kernel⟩, List.mem_of_getElem? (i := 714) (by decide +kernel), List.mem_of_getElem? (i := 975) (by decide +kernel), List.mem_of_getElem? (i := 976) (by decide +kernel)⟩
theorem lw_p54 : lw_okq (⟨"HourPromisedModel", "chapelOf", "(I)I"⟩, 31) := ⟨⟨by decide +kernel, by decide +kernel⟩, List.mem_of_getElem? (i := 714) (by decide +kernel), List.mem_of_getElem? (i := 996) (by decide +kernel), List.mem_of_getElem? (i := 997) (by decide +kernel)⟩
theorem lw_p55 : lw_okq (⟨"HourPromisedModel", "setOf", "(II)I"⟩, 31) := ⟨⟨by decide +kernel, by decide +kernel⟩, List.mem_of_getElem? (i := 714) (by decide +kernel), List.mem_of_getElem? (i := 1000) (by decide +kernel), List.mem_of_getElem? (i := 1001) (by decide +kernel)⟩
theorem lw_p56 : lw_okq (⟨"HourPromisedModel", "allTrust", "()I"⟩, 31) := ⟨⟨by decide +kernel, by decide +kernel⟩, List.mem_of_getElem? (i := 714) (by decide +kernel), List.mem_of_getElem? (i := 1012) (by decide +kernel), List.mem_of_getElem? (i := 1013) (by decide +kernel)⟩
theorem lw_p57 : lw_okq (⟨"HourPromisedModel", "isPlan", "(I)Z"⟩, 31) := ⟨⟨by decide +kernel, by decide +kernel⟩, List.mem_of_getElem? (i := 714) (by decide +kernel), List.mem_of_getElem? (i := 1025) (by decide +kernel), List.mem_of_getElem? (i := 1026) (by decide +kernel)⟩
theorem lw_p58 : lw_okq (⟨"HourPromisedModel", "planOf", "(I)I"⟩, 31) := ⟨⟨by decide +kernel, by decide +kernel⟩, List.mem_of_getElem? (i := 714) (by decide +kernel), List.mem_of_getElem? (i := 1046) (by decide +kernel), List.mem_of_getElem? (i := 1047) (by decide +kernel)⟩
def lw_privs_4 : List (MethodName × Nat) := [(⟨"HourPromisedModel", "mayBe", "(III)I"⟩, 31), (⟨"HourPromisedModel", "isWantedLater", "(III)Z"⟩, 31), (⟨"HourPromisedModel", "isBusy", "(II)Z"⟩, 31), (⟨"HourPromisedModel", "placeMiss", "(III)Z"⟩, 31), (⟨"HourPromisedModel", "findSets", "(I)Z"⟩, 31), (⟨"HourPromisedModel", "listSets", "(II)I"⟩, 31), (⟨"HourPromisedModel", "chapelOf", "(I)I"⟩, 31), (⟨"HourPromisedModel", "setOf", "(II)I"⟩, 31), (⟨"HourPromisedModel", "allTrust", "()I"⟩, 31), (⟨"HourPromisedModel", "isPlan", "(I)Z"⟩, 31), (⟨"HourPromisedModel", "planOf", "(I)I"⟩, 31)]
theorem lw_r4 : ∀ q ∈ lw_privs_4, lw_okq q := List.forall_mem_cons.mpr ⟨lw_p48, List.forall_mem_cons.mpr ⟨lw_p49, List.forall_mem_cons.mpr ⟨lw_p50, List.forall_mem_cons.mpr ⟨lw_p51, List.forall_mem_cons.mpr ⟨lw_p52, List.forall_mem_cons.mpr ⟨lw_p53, List.forall_mem_cons.mpr ⟨lw_p54, List.forall_mem_cons.mpr ⟨lw_p55, List.forall_mem_cons.mpr ⟨lw_p56, List.forall_mem_cons.mpr ⟨lw_p57, List.forall_mem_cons.mpr ⟨lw_p58, fun _ h => absurd h List.not_mem_nil⟩⟩⟩⟩⟩⟩⟩⟩⟩⟩⟩
def lw_privs : List (MethodName × Nat) := lw_privs_1 ++ (lw_privs_2 ++ (lw_privs_3 ++ (lw_privs_4)))
def lw_tbl : List Cond := k2_sels lw_privs ++ tables_1
theorem lw_privs_ok : ∀ q ∈ lw_privs, lw_okq q := by
  show ∀ q ∈ lw_privs_1 ++ (lw_privs_2 ++ (lw_privs_3 ++ (lw_privs_4))), lw_okq q
  exact List.forall_mem_append.mpr ⟨lw_r1, List.forall_mem_append.mpr ⟨lw_r2, List.forall_mem_append.mpr ⟨lw_r3, lw_r4⟩⟩⟩
def hm_F0 : u_T := fun k => match k with
  | 0 => ("HourPromised$Bearers", "heights", "[I", true)
  | 1 => ("HourPromised$Bearers", "hired", "I", false)
  | 2 => ("HourPromised$Bearers", "needed", "[I", true)
  | 3 => ("HourPromised$Bearers", "spans", "[I", true)
  | 4 => ("HourPromised$Bearers", "sets", "[I", true)
  | 5 => ("HourPromised$Bearers", "wanted", "I", false)
  | _ => ("HourPromised$Bearers", "hopeless", "[[J", true)
def hm_t0 : Nat → FieldType := fun k => match k with
  | 0 => (.array .int)
  | 1 => .int
  | 2 => (.array .int)
  | 3 => (.array .int)
  | 4 => (.array .int)
  | 5 => .int
  | _ => (.array (.array .long))
def hm_F1 : u_T := fun k => match k with
  | 0 => ("HourPromised$CaseFile", "faith", "I", true)
  | 1 => ("HourPromised$CaseFile", "death", "I", true)
  | 2 => ("HourPromised$CaseFile", "needed", "I", true)
  | 3 => ("HourPromised$CaseFile", "span", "I", true)
  | 4 => ("HourPromised$CaseFile", "paperHours", "[I", true)
  | 5 => ("HourPromised$CaseFile", "hours", "[I", true)
  | 6 => ("HourPromised$CaseFile", "plan", "I", false)
  | _ => ("HourPromised$CaseFile", "isPaid", "Z", false)
def hm_t1 : Nat → FieldType := fun k => match k with
  | 0 => .int
  | 1 => .int
  | 2 => .int
  | 3 => .int
  | 4 => (.array .int)
  | 5 => (.array .int)
  | 6 => .int
  | _ => .boolean
def hm_F2 : u_T := fun k => match k with
  | _ => ("HourPromised$Law", "sayings", "[[I", true)
def hm_t2 : Nat → FieldType := fun k => match k with
  | _ => (.array (.array .int))
def hm_F3 : u_T := fun k => match k with
  | 0 => ("HourPromised$LawReader", "faultAt", "I", false)
  | 1 => ("HourPromised$LawReader", "awaits", "I", false)
  | 2 => ("HourPromised$LawReader", "at", "I", false)
  | 3 => ("HourPromised$LawReader", "clause", "I", false)
  | 4 => ("HourPromised$LawReader", "bound", "I", false)
  | 5 => ("HourPromised$LawReader", "clausesSeen", "I", false)
  | _ => ("HourPromised$LawReader", "itemsSeen", "I", false)
def hm_t3 : Nat → FieldType := fun k => match k with
  | 0 => .int
  | 1 => .int
  | 2 => .int
  | 3 => .int
  | 4 => .int
  | 5 => .int
  | _ => .int
def hm_F4 : u_T := fun k => match k with
  | _ => ("HourPromised$Ledger", "rows", "[[I", true)
def hm_t4 : Nat → FieldType := fun k => match k with
  | _ => (.array (.array .int))
def hm_F5 : u_T := fun k => match k with
  | 0 => ("HourPromised$Plan", "price", "I", true)
  | 1 => ("HourPromised$Plan", "trust", "I", false)
  | 2 => ("HourPromised$Plan", "tiedTo", "I", false)
  | 3 => ("HourPromised$Plan", "hasPaid", "Z", false)
  | _ => ("HourPromised$Plan", "paid", "I", false)
def hm_t5 : Nat → FieldType := fun k => match k with
  | 0 => .int
  | 1 => .int
  | 2 => .int
  | 3 => .boolean
  | _ => .int
def hm_F6 : u_T := fun k => match k with
  | 0 => ("HourPromised$Text", "bytes", "[I", true)
  | _ => ("HourPromised$Text", "length", "I", false)
def hm_t6 : Nat → FieldType := fun k => match k with
  | 0 => (.array .int)
  | _ => .int
def hm_F7 : u_T := fun k => match k with
  | 0 => ("HourPromised", "stock", "[I", true)
  | 1 => ("HourPromised", "openHours", "[I", true)
  | 2 => ("HourPromised", "bearers", "LHourPromised$Bearers;", true)
  | 3 => ("HourPromised", "ledger", "LHourPromised$Ledger;", true)
  | 4 => ("HourPromised", "text", "LHourPromised$Text;", true)
  | 5 => ("HourPromised", "reader", "LHourPromised$LawReader;", true)
  | 6 => ("HourPromised", "laws", "[LHourPromised$Law;", true)
  | 7 => ("HourPromised", "draft", "LHourPromised$Law;", false)
  | 8 => ("HourPromised", "cases", "Ljava/util/ArrayList;", true)
  | 9 => ("HourPromised", "standing", "I", false)
  | 10 => ("HourPromised", "undone", "I", false)
  | 11 => ("HourPromised", "plans", "Ljava/util/ArrayList;", true)
  | 12 => ("HourPromised", "dailyRate", "I", false)
  | _ => ("HourPromised", "paidOut", "I", false)
def hm_t7 : Nat → FieldType := fun k => match k with
  | 0 => (.array .int)
  | 1 => (.array .int)
  | 2 => (.object "HourPromised$Bearers")
  | 3 => (.object "HourPromised$Ledger")
  | 4 => (.object "HourPromised$Text")
  | 5 => (.object "HourPromised$LawReader")
  | 6 => (.array (.object "HourPromised$Law"))
  | 7 => (.object "HourPromised$Law")
  | 8 => (.object "java/util/ArrayList")
  | 9 => .int
  | 10 => .int
  | 11 => (.object "java/util/ArrayList")
  | 12 => .int
  | _ => .int
def hm_F8 : u_T := fun k => match k with
  | 0 => ("HourPromisedModel", "house", "[I", true)
  | 1 => ("HourPromisedModel", "opens", "[I", true)
  | 2 => ("HourPromisedModel", "bearers", "I", false)
  | 3 => ("HourPromisedModel", "heights", "[I", true)
  | 4 => ("HourPromisedModel", "laws", "[I", true)
  | 5 => ("HourPromisedModel", "fresh", "[I", true)
  | 6 => ("HourPromisedModel", "text", "[I", true)
  | 7 => ("HourPromisedModel", "texted", "I", false)
  | 8 => ("HourPromisedModel", "faultPlace", "I", false)
  | 9 => ("HourPromisedModel", "cases", "I", false)
  | 10 => ("HourPromisedModel", "faiths", "[I", true)
  | 11 => ("HourPromisedModel", "deaths", "[I", true)
  | 12 => ("HourPromisedModel", "needed", "[I", true)
  | 13 => ("HourPromisedModel", "spans", "[I", true)
  | 14 => ("HourPromisedModel", "papers", "[I", true)
  | 15 => ("HourPromisedModel", "hours", "[I", true)
  | 16 => ("HourPromisedModel", "isPaid", "[Z", true)
  | 17 => ("HourPromisedModel", "undone", "I", false)
  | 18 => ("HourPromisedModel", "plans", "I", false)
  | 19 => ("HourPromisedModel", "prices", "[I", true)
  | 20 => ("HourPromisedModel", "trusts", "[I", true)
  | 21 => ("HourPromisedModel", "tied", "[I", true)
  | 22 => ("HourPromisedModel", "paidOut", "[I", true)
  | 23 => ("HourPromisedModel", "rate", "I", false)
  | 24 => ("HourPromisedModel", "at", "I", false)
  | 25 => ("HourPromisedModel", "takers", "I", false)
  | 26 => ("HourPromisedModel", "takerOf", "[I", true)
  | 27 => ("HourPromisedModel", "listSize", "[I", true)
  | 28 => ("HourPromisedModel", "lists", "[I", true)
  | 29 => ("HourPromisedModel", "chosen", "[I", true)
  | _ => ("HourPromisedModel", "row", "[I", true)
def hm_t8 : Nat → FieldType := fun k => match k with
  | 0 => (.array .int)
  | 1 => (.array .int)
  | 2 => .int
  | 3 => (.array .int)
  | 4 => (.array .int)
  | 5 => (.array .int)
  | 6 => (.array .int)
  | 7 => .int
  | 8 => .int
  | 9 => .int
  | 10 => (.array .int)
  | 11 => (.array .int)
  | 12 => (.array .int)
  | 13 => (.array .int)
  | 14 => (.array .int)
  | 15 => (.array .int)
  | 16 => (.array .boolean)
  | 17 => .int
  | 18 => .int
  | 19 => (.array .int)
  | 20 => (.array .int)
  | 21 => (.array .int)
  | 22 => (.array .int)
  | 23 => .int
  | 24 => .int
  | 25 => .int
  | 26 => (.array .int)
  | 27 => (.array .int)
  | 28 => (.array .int)
  | 29 => (.array .int)
  | _ => (.array .int)
def hm_F9 : u_T := fun k => match k with
  | 0 => ("java/util/AbstractList", "modCount", "I", false)
  | 1 => ("java/util/ArrayList", "elementData", "[Ljava/lang/Object;", false)
  | _ => ("java/util/ArrayList", "size", "I", false)
def hm_t9 : Nat → FieldType := fun k => match k with
  | 0 => .int
  | 1 => (.array (.object "java/lang/Object"))
  | _ => .int
/-- the classes whose objects there are: name, fields, how many -/
def hm_cls : List vw_C := [("HourPromised$Bearers", hm_F0, 7), ("HourPromised$CaseFile", hm_F1, 8), ("HourPromised$Law", hm_F2, 1), ("HourPromised$LawReader", hm_F3, 7), ("HourPromised$Ledger", hm_F4, 1), ("HourPromised$Plan", hm_F5, 5), ("HourPromised$Text", hm_F6, 2), ("HourPromised", hm_F7, 14), ("HourPromisedModel", hm_F8, 31), ("java/util/ArrayList", hm_F9, 3)]
def hm_fty : Nat → Nat → FieldType := fun c => match c with
  | 0 => hm_t0
  | 1 => hm_t1
  | 2 => hm_t2
  | 3 => hm_t3
  | 4 => hm_t4
  | 5 => hm_t5
  | 6 => hm_t6
  | 7 => hm_t7
  | 8 => hm_t8
  | _ => hm_t9
/-- the classes that methods stand in -/
def hm_own : List String := ["HourPromised$Bearers", "HourPromised$CaseFile", "HourPromised$Law", "HourPromised$LawReader", "HourPromised$Ledger", "HourPromised$Plan", "HourPromised$Text", "HourPromised", "HourPromisedModel", "java/util/ArrayList", "java/lang/Object", "java/util/Arrays", "java/util/AbstractList", "java/util/AbstractCollection", "java/lang/Math", "java/util/Objects", "jdk/internal/util/Preconditions", "jdk/internal/util/ArraysSupport", "java/lang/Integer", "HourPromisedLaw"]
/-- methods: name, code, locals, answer, place of the class in hm_own, arguments with the receiver, kind (0 static, 1 by the receiver, 2 a constructor) -/
def hm_mt0 : List (MethodName × ByteArray × Nat × Option FieldType × Nat × Nat × Nat) := [(⟨"HourPromised", "<init>", "()V"⟩, prog_1_method_1_code, 2, none, 7, 1, 2), (⟨"java/lang/Object", "<init>", "()V"⟩, object_method_1_code, 1, none, 10, 1, 2), (⟨"HourPromised$Bearers", "<init>", "()V"⟩, prog_2_method_1_code, 1, none, 0, 1, 2), (⟨"HourPromised$Ledger", "<init>", "()V"⟩, prog_6_method_1_code, 1, none, 4, 1, 2), (⟨"HourPromised$Text", "<init>", "()V"⟩, prog_8_method_1_code, 1, none, 6, 1, 2), (⟨"HourPromised$LawReader", "<init>", "()V"⟩, prog_5_method_1_code, 1, none, 3, 1, 2), (⟨"HourPromised$Law", "<init>", "()V"⟩, prog_4_method_1_code, 1, none, 2, 1, 2), (⟨"HourPromised$Law", "clear", "()V"⟩, prog_4_method_2_code, 2, none, 2, 1, 1), (⟨"java/util/Arrays", "fill", "([II)V"⟩, prog_20_method_103_code, 4, none, 11, 2, 0), (⟨"java/util/ArrayList", "<init>", "()V"⟩, prog_19_method_2_code, 1, none, 9, 1, 2), (⟨"java/util/AbstractList", "<init>", "()V"⟩, prog_18_method_1_code, 1, none, 12, 1, 2), (⟨"java/util/AbstractCollection", "<init>", "()V"⟩, prog_17_method_1_code, 1, none, 13, 1, 2), (⟨"HourPromised", "house", "(II)I"⟩, prog_1_method_2_code, 4, (some .int), 7, 3, 1), (⟨"HourPromised", "within", "(III)Z"⟩, prog_1_method_39_code, 3, (some .boolean), 7, 3, 0), (⟨"HourPromised$Ledger", "mostOfAnyHour", "(I)I"⟩, prog_6_method_3_code, 4, (some .int), 4, 2, 1), (⟨"java/lang/Math", "max", "(II)I"⟩, prog_15_method_65_code, 2, (some .int), 14, 2, 0), (⟨"HourPromised", "open", "(II)I"⟩, prog_1_method_3_code, 4, (some .int), 7, 3, 1), (⟨"HourPromised", "everyServiceHasChapel", "()Z"⟩, prog_1_method_5_code, 2, (some .boolean), 7, 1, 1), (⟨"HourPromised$Ledger", "takenIn", "(II)I"⟩, prog_6_method_2_code, 3, (some .int), 4, 3, 1), (⟨"HourPromised", "openChapels", "(I)I"⟩, prog_1_method_6_code, 4, (some .int), 7, 2, 1), (⟨"HourPromised", "isOpen", "(II)Z"⟩, prog_1_method_7_code, 3, (some .boolean), 7, 3, 1), (⟨"HourPromised", "has", "(II)Z"⟩, prog_1_method_42_code, 2, (some .boolean), 7, 2, 0), (⟨"HourPromised", "bearer", "(I)I"⟩, prog_1_method_4_code, 2, (some .int), 7, 2, 1), (⟨"HourPromised$Bearers", "hire", "(I)I"⟩, prog_2_method_2_code, 2, (some .int), 0, 2, 1), (⟨"HourPromised", "feed", "(IJ)I"⟩, prog_1_method_8_code, 4, (some .int), 7, 3, 1), (⟨"HourPromised$Text", "append", "(IJ)I"⟩, prog_8_method_2_code, 5, (some .int), 6, 3, 1), (⟨"HourPromised", "law", "(I)I"⟩, prog_1_method_9_code, 7, (some .int), 7, 2, 1), (⟨"HourPromised$LawReader", "read", "(LHourPromised$Text;LHourPromised$Law;)I"⟩, prog_5_method_2_code, 5, (some .int), 3, 3, 1), (⟨"HourPromised$Text", "byteAt", "(I)I"⟩, prog_8_method_3_code, 2, (some .int), 6, 2, 1), (⟨"HourPromised$LawReader", "skip", "()I"⟩, prog_5_method_3_code, 1, (some .int), 3, 1, 1)]
def hm_mt1 : List (MethodName × ByteArray × Nat × Option FieldType × Nat × Nat × Nat) := [(⟨"HourPromised$LawReader", "readPart", "(LHourPromised$Text;LHourPromised$Law;)I"⟩, prog_5_method_4_code, 3, (some .int), 3, 3, 1), (⟨"HourPromised$LawReader", "stepOf", "(I)I"⟩, prog_5_method_10_code, 1, (some .int), 3, 1, 0), (⟨"HourPromised$LawReader", "readClause", "(I)I"⟩, prog_5_method_6_code, 2, (some .int), 3, 2, 1), (⟨"HourPromised$LawReader", "goOn", "(I)I"⟩, prog_5_method_5_code, 2, (some .int), 3, 2, 1), (⟨"HourPromised$LawReader", "itemOf", "(I)I"⟩, prog_5_method_11_code, 2, (some .int), 3, 1, 0), (⟨"HourPromised$LawReader", "readItem", "(ILHourPromised$Law;)I"⟩, prog_5_method_7_code, 3, (some .int), 3, 3, 1), (⟨"HourPromised$Law", "put", "(III)V"⟩, prog_4_method_4_code, 4, none, 2, 4, 1), (⟨"HourPromised$Law", "addTo", "(III)V"⟩, prog_4_method_5_code, 4, none, 2, 4, 1), (⟨"HourPromised$LawReader", "readNumber", "(LHourPromised$Text;LHourPromised$Law;)I"⟩, prog_5_method_8_code, 5, (some .int), 3, 3, 1), (⟨"HourPromised$LawReader", "isFigure", "(I)Z"⟩, prog_5_method_9_code, 1, (some .boolean), 3, 1, 0), (⟨"HourPromised$Text", "empty", "()V"⟩, prog_8_method_4_code, 1, none, 6, 1, 1), (⟨"java/util/ArrayList", "size", "()I"⟩, prog_19_method_8_code, 1, (some .int), 9, 1, 1), (⟨"java/util/ArrayList", "get", "(I)Ljava/lang/Object;"⟩, prog_19_method_20_code, 2, (some (.object "java/lang/Object")), 9, 2, 1), (⟨"java/util/Objects", "checkIndex", "(II)I"⟩, prog_23_method_17_code, 2, (some .int), 15, 2, 0), (⟨"jdk/internal/util/Preconditions", "checkIndex", "(IILjava/util/function/BiFunction;)I"⟩, prog_27_method_11_code, 3, (some .int), 16, 3, 0), (⟨"java/util/ArrayList", "elementData", "(I)Ljava/lang/Object;"⟩, prog_19_method_18_code, 2, (some (.object "java/lang/Object")), 9, 2, 1), (⟨"HourPromised", "undoBroken", "(LHourPromised$CaseFile;)I"⟩, prog_1_method_29_code, 6, (some .int), 7, 2, 1), (⟨"HourPromised$CaseFile", "firstBroken", "(LHourPromised$Law;)I"⟩, prog_3_method_5_code, 3, (some .int), 1, 2, 1), (⟨"HourPromised$CaseFile", "hasPromised", "(I)Z"⟩, prog_3_method_2_code, 2, (some .boolean), 1, 2, 1), (⟨"HourPromised$CaseFile", "hinderedByLaw", "(LHourPromised$Law;II)I"⟩, prog_3_method_6_code, 4, (some .int), 1, 4, 1), (⟨"HourPromised$Law", "of", "(II)I"⟩, prog_4_method_3_code, 3, (some .int), 2, 3, 1), (⟨"HourPromised$CaseFile", "hasPapers", "(II)Z"⟩, prog_3_method_8_code, 4, (some .boolean), 1, 3, 1), (⟨"HourPromised$Law", "isWithinBounds", "(II)Z"⟩, prog_4_method_6_code, 5, (some .boolean), 2, 3, 1), (⟨"HourPromised$CaseFile", "hasStepsAhead", "(II)Z"⟩, prog_3_method_9_code, 4, (some .boolean), 1, 3, 1), (⟨"HourPromised", "takeBack", "(LHourPromised$CaseFile;I)V"⟩, prog_1_method_28_code, 3, none, 7, 3, 1), (⟨"HourPromised$Ledger", "enterRoom", "(LHourPromised$CaseFile;I)V"⟩, prog_6_method_6_code, 5, none, 4, 3, 1), (⟨"HourPromised$CaseFile", "roomEnd", "()I"⟩, prog_3_method_4_code, 2, (some .int), 1, 1, 1), (⟨"java/lang/Math", "min", "(II)I"⟩, prog_15_method_69_code, 2, (some .int), 14, 2, 0), (⟨"HourPromised$Ledger", "enterStep", "(LHourPromised$CaseFile;II)V"⟩, prog_6_method_5_code, 5, none, 4, 4, 1), (⟨"HourPromised", "takesBearers", "(I)Z"⟩, prog_1_method_43_code, 1, (some .boolean), 7, 1, 0)]
def hm_mt2 : List (MethodName × ByteArray × Nat × Option FieldType × Nat × Nat × Nat) := [(⟨"HourPromised", "place", "()I"⟩, prog_1_method_10_code, 1, (some .int), 7, 1, 1), (⟨"HourPromised", "says", "(III)I"⟩, prog_1_method_11_code, 4, (some .int), 7, 4, 1), (⟨"HourPromised", "isStep", "(I)Z"⟩, prog_1_method_41_code, 1, (some .boolean), 7, 1, 0), (⟨"HourPromised", "casus", "(IIII)I"⟩, prog_1_method_12_code, 5, (some .int), 7, 5, 1), (⟨"HourPromised", "isHour", "(I)Z"⟩, prog_1_method_40_code, 1, (some .boolean), 7, 1, 0), (⟨"HourPromised$CaseFile", "<init>", "(IIII)V"⟩, prog_3_method_1_code, 5, none, 1, 5, 2), (⟨"java/util/ArrayList", "add", "(Ljava/lang/Object;)Z"⟩, prog_19_method_25_code, 2, (some .boolean), 9, 2, 1), (⟨"java/util/ArrayList", "add", "(Ljava/lang/Object;[Ljava/lang/Object;I)V"⟩, prog_19_method_24_code, 4, none, 9, 4, 1), (⟨"java/util/ArrayList", "grow", "()[Ljava/lang/Object;"⟩, prog_19_method_7_code, 1, (some (.array (.object "java/lang/Object"))), 9, 1, 1), (⟨"java/util/ArrayList", "grow", "(I)[Ljava/lang/Object;"⟩, prog_19_method_6_code, 4, (some (.array (.object "java/lang/Object"))), 9, 2, 1), (⟨"jdk/internal/util/ArraysSupport", "newLength", "(III)I"⟩, prog_26_method_27_code, 4, (some .int), 17, 3, 0), (⟨"jdk/internal/util/ArraysSupport", "hugeLength", "(II)I"⟩, prog_26_method_28_code, 3, (some .int), 17, 2, 0), (⟨"java/util/Arrays", "copyOf", "([Ljava/lang/Object;I)[Ljava/lang/Object;"⟩, prog_20_method_119_code, 2, (some (.array (.object "java/lang/Object"))), 11, 2, 0), (⟨"java/util/Arrays", "copyOf", "([Ljava/lang/Object;ILjava/lang/Class;)[Ljava/lang/Object;"⟩, prog_20_method_120_code, 4, (some (.array (.object "java/lang/Object"))), 11, 3, 0), (⟨"HourPromised", "paper", "(III)I"⟩, prog_1_method_13_code, 5, (some .int), 7, 4, 1), (⟨"HourPromised", "fileOf", "(I)LHourPromised$CaseFile;"⟩, prog_1_method_21_code, 2, (some (.object "HourPromised$CaseFile")), 7, 2, 1), (⟨"HourPromised", "may", "(III)I"⟩, prog_1_method_14_code, 5, (some .int), 7, 4, 1), (⟨"HourPromised", "hindrance", "(LHourPromised$CaseFile;II)I"⟩, prog_1_method_22_code, 6, (some .int), 7, 4, 1), (⟨"HourPromised$CaseFile", "hinderedByOtherSteps", "(LHourPromised$Law;II)I"⟩, prog_3_method_7_code, 4, (some .int), 1, 4, 1), (⟨"HourPromised$CaseFile", "comesTooLate", "(LHourPromised$Law;II)Z"⟩, prog_3_method_10_code, 5, (some .boolean), 1, 4, 1), (⟨"HourPromised$CaseFile", "hasOtherStepAt", "(II)Z"⟩, prog_3_method_11_code, 4, (some .boolean), 1, 3, 1), (⟨"HourPromised", "hasPlaceFor", "(LHourPromised$CaseFile;II)Z"⟩, prog_1_method_23_code, 4, (some .boolean), 7, 4, 1), (⟨"HourPromised$Ledger", "hasRooms", "(III)Z"⟩, prog_6_method_4_code, 5, (some .boolean), 4, 4, 1), (⟨"HourPromised", "hasBearersFor", "(LHourPromised$CaseFile;I)Z"⟩, prog_1_method_24_code, 5, (some .boolean), 7, 3, 1), (⟨"HourPromised$Bearers", "wantNothing", "()V"⟩, prog_2_method_3_code, 1, none, 0, 1, 1), (⟨"HourPromised$CaseFile", "isCarriedAt", "(I)Z"⟩, prog_3_method_3_code, 2, (some .boolean), 1, 2, 1), (⟨"HourPromised$Bearers", "want", "(II)V"⟩, prog_2_method_4_code, 3, none, 0, 3, 1), (⟨"HourPromised$Bearers", "findSets", "()Z"⟩, prog_2_method_6_code, 3, (some .boolean), 0, 1, 1), (⟨"java/util/Arrays", "fill", "([JJ)V"⟩, prog_20_method_101_code, 5, none, 11, 2, 0), (⟨"HourPromised$Bearers", "findFrom", "(II)Z"⟩, prog_2_method_7_code, 7, (some .boolean), 0, 3, 1)]
def hm_mt3 : List (MethodName × ByteArray × Nat × Option FieldType × Nat × Nat × Nat) := [(⟨"HourPromised$Bearers", "fillSet", "(IIII)Z"⟩, prog_2_method_8_code, 8, (some .boolean), 0, 5, 1), (⟨"java/lang/Integer", "bitCount", "(I)I"⟩, prog_13_method_49_code, 1, (some .int), 18, 1, 0), (⟨"HourPromised$Bearers", "likeInHeight", "(II)I"⟩, prog_2_method_9_code, 5, (some .int), 0, 3, 1), (⟨"java/lang/Math", "abs", "(I)I"⟩, prog_15_method_59_code, 1, (some .int), 14, 1, 0), (⟨"HourPromised", "promise", "(III)I"⟩, prog_1_method_15_code, 5, (some .int), 7, 4, 1), (⟨"HourPromised", "book", "(LHourPromised$CaseFile;II)V"⟩, prog_1_method_27_code, 4, none, 7, 4, 1), (⟨"HourPromised", "earliest", "(III)I"⟩, prog_1_method_16_code, 6, (some .int), 7, 4, 1), (⟨"HourPromised", "undo", "(II)I"⟩, prog_1_method_17_code, 4, (some .int), 7, 3, 1), (⟨"HourPromised", "promised", "(III)I"⟩, prog_1_method_18_code, 5, (some .int), 7, 4, 1), (⟨"HourPromised", "chapelOf", "(II)I"⟩, prog_1_method_26_code, 5, (some .int), 7, 3, 1), (⟨"HourPromised", "bearersOf", "(II)I"⟩, prog_1_method_25_code, 6, (some .int), 7, 3, 1), (⟨"HourPromised$Bearers", "setOf", "(I)I"⟩, prog_2_method_5_code, 2, (some .int), 0, 2, 1), (⟨"HourPromised", "taken", "(II)I"⟩, prog_1_method_19_code, 3, (some .int), 7, 3, 1), (⟨"HourPromised", "count", "(I)I"⟩, prog_1_method_20_code, 2, (some .int), 7, 2, 1), (⟨"HourPromised", "trustOfAll", "()I"⟩, prog_1_method_38_code, 3, (some .int), 7, 1, 1), (⟨"HourPromised", "plan", "(I)I"⟩, prog_1_method_30_code, 2, (some .int), 7, 2, 1), (⟨"HourPromised$Plan", "<init>", "(I)V"⟩, prog_7_method_1_code, 2, none, 5, 2, 2), (⟨"HourPromised", "pay", "(II)I"⟩, prog_1_method_31_code, 4, (some .int), 7, 3, 1), (⟨"HourPromised", "planOf", "(I)LHourPromised$Plan;"⟩, prog_1_method_37_code, 2, (some (.object "HourPromised$Plan")), 7, 2, 1), (⟨"HourPromised", "rate", "(I)I"⟩, prog_1_method_32_code, 3, (some .int), 7, 2, 1), (⟨"HourPromised", "days", "(I)I"⟩, prog_1_method_33_code, 3, (some .int), 7, 2, 1), (⟨"HourPromised$Plan", "grow", "(II)V"⟩, prog_7_method_2_code, 6, none, 5, 3, 1), (⟨"java/lang/Math", "min", "(JJ)J"⟩, prog_15_method_70_code, 4, (some .long), 14, 2, 0), (⟨"HourPromised", "tie", "(II)I"⟩, prog_1_method_34_code, 5, (some .int), 7, 3, 1), (⟨"HourPromised", "settle", "(I)I"⟩, prog_1_method_35_code, 5, (some .int), 7, 2, 1), (⟨"HourPromised$Plan", "payOut", "()I"⟩, prog_7_method_3_code, 2, (some .int), 5, 1, 1), (⟨"HourPromised", "planned", "(II)I"⟩, prog_1_method_36_code, 4, (some .int), 7, 3, 1), (⟨"HourPromisedModel", "<init>", "()V"⟩, prog_10_method_1_code, 2, none, 8, 1, 2), (⟨"HourPromisedModel", "house", "(II)I"⟩, prog_10_method_14_code, 5, (some .int), 8, 3, 1), (⟨"HourPromisedModel", "in", "(JJJ)Z"⟩, prog_10_method_3_code, 6, (some .boolean), 8, 3, 0)]
def hm_mt4 : List (MethodName × ByteArray × Nat × Option FieldType × Nat × Nat × Nat) := [(⟨"HourPromisedModel", "carsAt", "(I)I"⟩, prog_10_method_10_code, 2, (some .int), 8, 2, 1), (⟨"HourPromisedModel", "stepsAt", "(II)I"⟩, prog_10_method_9_code, 5, (some .int), 8, 3, 1), (⟨"HourPromisedModel", "hourOf", "(II)I"⟩, prog_10_method_7_code, 3, (some .int), 8, 3, 1), (⟨"HourPromisedModel", "roomsAt", "(I)I"⟩, prog_10_method_12_code, 4, (some .int), 8, 2, 1), (⟨"HourPromisedModel", "roomEnd", "(I)I"⟩, prog_10_method_11_code, 5, (some .int), 8, 2, 1), (⟨"HourPromisedModel", "open", "(II)I"⟩, prog_10_method_15_code, 5, (some .int), 8, 3, 1), (⟨"HourPromisedModel", "chapelsAt", "(I)I"⟩, prog_10_method_13_code, 4, (some .int), 8, 2, 1), (⟨"HourPromisedModel", "bearer", "(I)I"⟩, prog_10_method_16_code, 2, (some .int), 8, 2, 1), (⟨"HourPromisedModel", "feed", "(IJ)I"⟩, prog_10_method_17_code, 5, (some .int), 8, 3, 1), (⟨"HourPromisedModel", "law", "(I)I"⟩, prog_10_method_24_code, 4, (some .int), 8, 2, 1), (⟨"HourPromisedModel", "readLaw", "()I"⟩, prog_10_method_23_code, 4, (some .int), 8, 1, 1), (⟨"HourPromisedModel", "here", "()I"⟩, prog_10_method_18_code, 1, (some .int), 8, 1, 1), (⟨"HourPromisedModel", "stepOf", "(I)I"⟩, prog_10_method_19_code, 1, (some .int), 8, 1, 0), (⟨"HourPromisedModel", "fails", "(II)I"⟩, prog_10_method_20_code, 3, (some .int), 8, 3, 1), (⟨"HourPromisedModel", "readItem", "(II)I"⟩, prog_10_method_22_code, 6, (some .int), 8, 3, 1), (⟨"HourPromisedModel", "readNumber", "(I)I"⟩, prog_10_method_21_code, 5, (some .int), 8, 2, 1), (⟨"HourPromisedModel", "putRight", "(II)I"⟩, prog_10_method_38_code, 7, (some .int), 8, 3, 1), (⟨"HourPromisedModel", "hinders", "(III)I"⟩, prog_10_method_30_code, 4, (some .int), 8, 4, 1), (⟨"HourPromisedModel", "lawOf", "(III)I"⟩, prog_10_method_8_code, 4, (some .int), 8, 4, 1), (⟨"HourPromisedModel", "papersMiss", "(III)Z"⟩, prog_10_method_27_code, 7, (some .boolean), 8, 4, 1), (⟨"HourPromisedModel", "isOut", "(III)Z"⟩, prog_10_method_28_code, 5, (some .boolean), 8, 4, 1), (⟨"HourPromisedModel", "aheadMiss", "(III)Z"⟩, prog_10_method_29_code, 7, (some .boolean), 8, 4, 1), (⟨"HourPromisedModel", "place", "()I"⟩, prog_10_method_25_code, 1, (some .int), 8, 1, 1), (⟨"HourPromisedModel", "says", "(III)I"⟩, prog_10_method_26_code, 4, (some .int), 8, 4, 1), (⟨"HourPromisedModel", "isStep", "(I)Z"⟩, prog_10_method_6_code, 1, (some .boolean), 8, 1, 0), (⟨"HourPromisedModel", "casus", "(IIII)I"⟩, prog_10_method_37_code, 7, (some .int), 8, 5, 1), (⟨"HourPromisedModel", "isHour", "(I)Z"⟩, prog_10_method_5_code, 1, (some .boolean), 8, 1, 0), (⟨"HourPromisedModel", "paper", "(III)I"⟩, prog_10_method_39_code, 4, (some .int), 8, 4, 1), (⟨"HourPromisedModel", "isCase", "(I)Z"⟩, prog_10_method_4_code, 2, (some .boolean), 8, 2, 1), (⟨"HourPromisedModel", "may", "(III)I"⟩, prog_10_method_40_code, 4, (some .int), 8, 4, 1)]
def hm_mt5 : List (MethodName × ByteArray × Nat × Option FieldType × Nat × Nat × Nat) := [(⟨"HourPromisedModel", "mayBe", "(III)I"⟩, prog_10_method_34_code, 6, (some .int), 8, 4, 1), (⟨"HourPromisedModel", "isWantedLater", "(III)Z"⟩, prog_10_method_31_code, 6, (some .boolean), 8, 4, 1), (⟨"HourPromisedModel", "isBusy", "(II)Z"⟩, prog_10_method_32_code, 5, (some .boolean), 8, 3, 1), (⟨"HourPromisedModel", "placeMiss", "(III)Z"⟩, prog_10_method_33_code, 6, (some .boolean), 8, 4, 1), (⟨"HourPromisedModel", "findSets", "(I)Z"⟩, prog_10_method_36_code, 4, (some .boolean), 8, 2, 1), (⟨"HourPromisedModel", "listSets", "(II)I"⟩, prog_10_method_35_code, 11, (some .int), 8, 3, 1), (⟨"HourPromisedModel", "promise", "(III)I"⟩, prog_10_method_41_code, 5, (some .int), 8, 4, 1), (⟨"HourPromisedModel", "earliest", "(III)I"⟩, prog_10_method_42_code, 5, (some .int), 8, 4, 1), (⟨"HourPromisedModel", "undo", "(II)I"⟩, prog_10_method_43_code, 3, (some .int), 8, 3, 1), (⟨"HourPromisedModel", "promised", "(III)I"⟩, prog_10_method_46_code, 5, (some .int), 8, 4, 1), (⟨"HourPromisedModel", "chapelOf", "(I)I"⟩, prog_10_method_44_code, 5, (some .int), 8, 2, 1), (⟨"HourPromisedModel", "setOf", "(II)I"⟩, prog_10_method_45_code, 6, (some .int), 8, 3, 1), (⟨"HourPromisedModel", "taken", "(II)I"⟩, prog_10_method_47_code, 5, (some .int), 8, 3, 1), (⟨"HourPromisedModel", "count", "(I)I"⟩, prog_10_method_48_code, 5, (some .int), 8, 2, 1), (⟨"HourPromisedModel", "allTrust", "()I"⟩, prog_10_method_49_code, 3, (some .int), 8, 1, 1), (⟨"HourPromisedModel", "plan", "(I)I"⟩, prog_10_method_50_code, 2, (some .int), 8, 2, 1), (⟨"HourPromisedModel", "pay", "(II)I"⟩, prog_10_method_52_code, 3, (some .int), 8, 3, 1), (⟨"HourPromisedModel", "isPlan", "(I)Z"⟩, prog_10_method_51_code, 2, (some .boolean), 8, 2, 1), (⟨"HourPromisedModel", "rate", "(I)I"⟩, prog_10_method_53_code, 3, (some .int), 8, 2, 1), (⟨"HourPromisedModel", "days", "(I)I"⟩, prog_10_method_54_code, 6, (some .int), 8, 2, 1), (⟨"HourPromisedModel", "tie", "(II)I"⟩, prog_10_method_56_code, 3, (some .int), 8, 3, 1), (⟨"HourPromisedModel", "planOf", "(I)I"⟩, prog_10_method_55_code, 4, (some .int), 8, 2, 1), (⟨"HourPromisedModel", "settle", "(I)I"⟩, prog_10_method_57_code, 4, (some .int), 8, 2, 1), (⟨"HourPromisedModel", "planned", "(II)I"⟩, prog_10_method_58_code, 3, (some .int), 8, 3, 1)]
def hm_mtab : List (MethodName × ByteArray × Nat × Option FieldType × Nat × Nat × Nat) := hm_mt0 ++ (hm_mt1 ++ (hm_mt2 ++ (hm_mt3 ++ (hm_mt4 ++ (hm_mt5 ++ ([(x, code, maxLocals, ret, 19, 1, 0)]))))))
/-- where a method's words stand: code, initialized, static or instanceMethod (in tables_1), selects (in lw_tbl) -/
def hm_mw : List (Nat × Nat × Nat × Nat) := [(24, 1, 23, 0), (27, 9999, 26, 0), (32, 2, 31, 0), (66, 3, 65, 0), (78, 4, 77, 0), (93, 5, 92, 0), (123, 6, 122, 0), (129, 6, 127, 187), (132, 7, 131, 0), (141, 10, 140, 0), (144, 9, 143, 0), (147, 8, 146, 0), (209, 1, 207, 267), (212, 1, 211, 0), (220, 3, 218, 278), (223, 12, 222, 0), (227, 1, 225, 285), (231, 1, 230, 0), (235, 3, 233, 293), (239, 1, 238, 1), (243, 1, 242, 2), (246, 1, 245, 0), (250, 1, 248, 308), (254, 2, 252, 312), (258, 1, 256, 316), (262, 4, 260, 320), (266, 1, 264, 324), (270, 5, 268, 328), (275, 4, 273, 333), (279, 5, 278, 3), (283, 5, 282, 4), (286, 5, 285, 0), (290, 5, 289, 5), (295, 5, 294, 6), (298, 5, 297, 0), (302, 5, 301, 7), (306, 6, 304, 364), (310, 6, 308, 368), (314, 5, 313, 8), (317, 5, 316, 0), (321, 4, 319, 379), (325, 10, 323, 383), (329, 10, 327, 387), (332, 13, 331, 0), (335, 14, 334, 0), (339, 10, 337, 397), (344, 1, 343, 9), (348, 15, 346, 406), (352, 15, 350, 410), (356, 15, 354, 414), (360, 6, 358, 418), (365, 15, 363, 10), (370, 6, 368, 428), (374, 15, 373, 11), (378, 1, 377, 12), (382, 3, 380, 440), (387, 15, 385, 445), (390, 12, 389, 0), (394, 3, 392, 452), (397, 1, 396, 0), (401, 1, 399, 459), (405, 1, 403, 463), (408, 1, 407, 0), (413, 1, 411, 471), (416, 1, 415, 0), (419, 15, 418, 0), (459, 10, 457, 517), (463, 10, 462, 13), (467, 10, 466, 14), (471, 10, 470, 15), (474, 16, 473, 0), (479, 16, 478, 0), (482, 7, 481, 0), (499, 7, 498, 0), (512, 1, 510, 570), (516, 1, 515, 16), (520, 1, 518, 578), (524, 1, 523, 17), (530, 15, 528, 588), (534, 15, 533, 18), (538, 15, 537, 19), (542, 1, 541, 20), (547, 3, 545, 605), (552, 1, 551, 21), (556, 2, 554, 614), (560, 15, 558, 618), (564, 2, 562, 622), (568, 2, 566, 626), (571, 7, 570, 0), (575, 2, 574, 22), (579, 2, 578, 23), (582, 18, 581, 0), (590, 2, 589, 24), (593, 12, 592, 0), (597, 1, 595, 655), (601, 1, 600, 25), (605, 1, 603, 663), (609, 1, 607, 667), (613, 1, 611, 671), (617, 1, 616, 26), (621, 1, 620, 27), (625, 2, 623, 683), (629, 1, 627, 687), (633, 1, 631, 691), (637, 1, 636, 28), (642, 1, 640, 700), (647, 19, 646, 0), (673, 1, 671, 731), (677, 1, 676, 29), (682, 1, 680, 740), (686, 1, 684, 744), (690, 19, 688, 748), (695, 12, 694, 0), (699, 1, 697, 757), (703, 1, 701, 761), (707, 19, 705, 765), (712, 1, 710, 770), (717, 11, 716, 0), (817, 11, 815, 875), (821, 11, 820, 0), (828, 11, 827, 30), (832, 11, 831, 31), (836, 11, 835, 32), (840, 11, 839, 33), (844, 11, 843, 34), (848, 11, 846, 906), (853, 11, 852, 35), (857, 11, 855, 915), (863, 11, 861, 921), (868, 11, 866, 926), (872, 11, 871, 36), (876, 11, 875, 37), (879, 11, 878, 0), (883, 11, 882, 38), (887, 11, 886, 39), (893, 11, 892, 40), (899, 11, 898, 41), (903, 11, 902, 42), (907, 11, 906, 43), (911, 11, 910, 44), (915, 11, 914, 45), (919, 11, 918, 46), (923, 11, 921, 981), (927, 11, 925, 985), (930, 11, 929, 0), (934, 11, 932, 992), (937, 11, 936, 0), (943, 11, 941, 1001), (947, 11, 946, 47), (953, 11, 951, 1011), (957, 11, 956, 48), (961, 11, 960, 49), (965, 11, 964, 50), (969, 11, 968, 51), (973, 11, 972, 52), (977, 11, 976, 53), (981, 11, 979, 1039), (986, 11, 984, 1044), (990, 11, 988, 1048), (994, 11, 992, 1052), (998, 11, 997, 54), (1002, 11, 1001, 55), (1006, 11, 1004, 1064), (1010, 11, 1008, 1068), (1014, 11, 1013, 56), (1018, 11, 1016, 1076), (1023, 11, 1021, 1081), (1027, 11, 1026, 57), (1032, 11, 1030, 1090), (1037, 11, 1035, 1095), (1044, 11, 1042, 1102), (1048, 11, 1047, 58), (1052, 11, 1050, 1110), (1056, 11, 1054, 1114)]
/-- fields by a pool's entry: ((class, entry), (class of objects, field, 1: across the nest, 2: by a subclass's name, the word's place)) -/
def hm_ftab : List ((Nat × Nat) × (Nat × Nat × Nat × Nat)) := [((0, 11), (0, 0, 0, 36)), ((0, 15), (0, 1, 0, 37)), ((7, 195), (0, 1, 1, 38)), ((0, 19), (0, 2, 0, 39)), ((0, 22), (0, 3, 0, 40)), ((0, 25), (0, 4, 0, 41)), ((0, 28), (0, 5, 0, 42)), ((7, 244), (0, 5, 1, 43)), ((0, 33), (0, 6, 0, 44)), ((4, 11), (4, 0, 0, 70)), ((6, 9), (6, 0, 0, 80)), ((6, 15), (6, 1, 0, 81)), ((3, 29), (6, 1, 1, 82)), ((7, 198), (6, 1, 1, 83)), ((3, 9), (3, 0, 0, 95)), ((7, 141), (3, 0, 1, 96)), ((3, 20), (3, 1, 0, 97)), ((3, 26), (3, 2, 0, 98)), ((3, 72), (3, 3, 0, 99)), ((3, 75), (3, 4, 0, 100)), ((3, 23), (3, 5, 0, 101)), ((3, 69), (3, 6, 0, 102)), ((2, 11), (2, 0, 0, 133)), ((9, 9), (9, 1, 0, 151)), ((9, 48), (9, 2, 0, 152)), ((12, 7), (9, 0, 0, 153)), ((9, 63), (9, 0, 2, 154)), ((7, 7), (7, 0, 0, 163)), ((7, 13), (7, 1, 0, 164)), ((7, 19), (7, 2, 0, 165)), ((7, 26), (7, 3, 0, 166)), ((7, 33), (7, 4, 0, 167)), ((7, 40), (7, 5, 0, 168)), ((7, 46), (7, 6, 0, 169)), ((7, 51), (7, 7, 0, 170)), ((7, 58), (7, 8, 0, 171)), ((7, 62), (7, 9, 0, 172)), ((7, 66), (7, 10, 0, 173)), ((7, 69), (7, 11, 0, 174)), ((7, 72), (7, 12, 0, 175)), ((7, 75), (7, 13, 0, 176)), ((1, 26), (1, 0, 0, 422)), ((7, 134), (1, 0, 1, 423)), ((1, 29), (1, 1, 0, 424)), ((1, 32), (1, 2, 0, 425)), ((4, 32), (1, 2, 1, 426)), ((7, 231), (1, 2, 1, 427)), ((1, 35), (1, 3, 0, 428)), ((7, 234), (1, 3, 1, 429)), ((1, 9), (1, 4, 0, 430)), ((7, 165), (1, 4, 1, 431)), ((1, 15), (1, 5, 0, 432)), ((4, 22), (1, 5, 1, 433)), ((7, 183), (1, 5, 1, 434)), ((1, 18), (1, 6, 0, 435)), ((7, 280), (1, 6, 1, 436)), ((1, 22), (1, 7, 0, 437)), ((7, 287), (1, 7, 1, 438)), ((5, 25), (5, 0, 0, 649)), ((7, 293), (5, 0, 1, 650)), ((5, 9), (5, 1, 0, 651)), ((7, 270), (5, 1, 1, 652)), ((5, 15), (5, 2, 0, 653)), ((7, 277), (5, 2, 1, 654)), ((5, 18), (5, 3, 0, 655)), ((7, 283), (5, 3, 1, 656)), ((5, 22), (5, 4, 0, 657)), ((7, 296), (5, 4, 1, 658)), ((8, 7), (8, 0, 0, 719)), ((8, 13), (8, 1, 0, 720)), ((8, 124), (8, 2, 0, 721)), ((8, 16), (8, 3, 0, 722)), ((8, 19), (8, 4, 0, 723)), ((8, 22), (8, 5, 0, 724)), ((8, 25), (8, 6, 0, 725)), ((8, 127), (8, 7, 0, 726)), ((8, 28), (8, 8, 0, 727)), ((8, 81), (8, 9, 0, 728)), ((8, 32), (8, 10, 0, 729)), ((8, 35), (8, 11, 0, 730)), ((8, 38), (8, 12, 0, 731)), ((8, 41), (8, 13, 0, 732)), ((8, 44), (8, 14, 0, 733)), ((8, 47), (8, 15, 0, 734)), ((8, 50), (8, 16, 0, 735)), ((8, 210), (8, 17, 0, 736)), ((8, 232), (8, 18, 0, 737)), ((8, 54), (8, 19, 0, 738)), ((8, 57), (8, 20, 0, 739)), ((8, 60), (8, 21, 0, 740)), ((8, 63), (8, 22, 0, 741)), ((8, 246), (8, 23, 0, 742)), ((8, 132), (8, 24, 0, 743)), ((8, 199), (8, 25, 0, 744)), ((8, 66), (8, 26, 0, 745)), ((8, 69), (8, 27, 0, 746)), ((8, 72), (8, 28, 0, 747)), ((8, 75), (8, 29, 0, 748)), ((8, 78), (8, 30, 0, 749))]
def hm_stab : List ((Nat × Nat) × (Nat × Nat)) := [((9, 39), (3, 149)), ((7, 82), (1, 213)), ((7, 85), (2, 215))]
def hm_ctab : List ((Nat × Nat) × (Nat × Nat × Nat)) := [((19, 9), (0, 0, 22)), ((7, 1), (1, 0, 25)), ((7, 18), (2, 1, 30)), ((0, 5), (1, 0, 33)), ((7, 25), (3, 1, 64)), ((4, 3), (1, 0, 67)), ((7, 32), (4, 1, 76)), ((6, 3), (1, 0, 79)), ((7, 39), (5, 1, 91)), ((3, 3), (1, 0, 94)), ((7, 50), (6, 0, 121)), ((2, 3), (1, 0, 124)), ((2, 16), (7, 0, 126)), ((2, 19), (8, 0, 130)), ((7, 57), (9, 0, 139)), ((9, 1), (10, 0, 142)), ((12, 1), (11, 0, 145)), ((13, 1), (1, 0, 148)), ((19, 13), (12, 0, 206)), ((7, 78), (13, 0, 210)), ((7, 88), (14, 0, 217)), ((4, 16), (15, 0, 221)), ((19, 18), (16, 0, 224)), ((7, 92), (17, 0, 228)), ((7, 99), (18, 0, 232)), ((7, 103), (19, 0, 236)), ((7, 106), (20, 0, 240)), ((7, 110), (21, 0, 244)), ((19, 22), (22, 0, 247)), ((7, 96), (23, 0, 251)), ((19, 29), (24, 0, 255)), ((7, 113), (25, 0, 259)), ((19, 34), (26, 0, 263)), ((7, 117), (27, 0, 267)), ((3, 15), (7, 0, 271)), ((3, 34), (28, 0, 272)), ((3, 38), (29, 0, 276)), ((3, 42), (30, 0, 280)), ((3, 46), (31, 0, 284)), ((3, 49), (32, 0, 287)), ((3, 65), (21, 1, 291)), ((3, 52), (33, 0, 292)), ((3, 55), (34, 0, 296)), ((3, 58), (35, 0, 299)), ((3, 78), (36, 0, 303)), ((3, 82), (37, 0, 307)), ((3, 62), (38, 0, 311)), ((3, 85), (39, 0, 315)), ((7, 121), (40, 0, 318)), ((7, 124), (41, 0, 322)), ((7, 128), (42, 0, 326)), ((9, 118), (43, 0, 330)), ((15, 105), (44, 0, 333)), ((9, 123), (45, 0, 336)), ((7, 137), (46, 0, 341)), ((7, 256), (47, 0, 345)), ((1, 44), (48, 0, 349)), ((1, 54), (49, 0, 353)), ((1, 58), (50, 0, 357)), ((1, 63), (51, 0, 361)), ((1, 80), (21, 1, 366)), ((1, 67), (52, 0, 367)), ((1, 70), (53, 0, 371)), ((7, 179), (54, 0, 375)), ((7, 250), (55, 0, 379)), ((4, 36), (48, 0, 383)), ((4, 39), (56, 0, 384)), ((1, 48), (57, 0, 388)), ((7, 253), (58, 0, 391)), ((4, 28), (59, 1, 395)), ((19, 38), (60, 0, 398)), ((19, 43), (61, 0, 402)), ((7, 144), (62, 0, 406)), ((7, 148), (50, 0, 409)), ((19, 48), (63, 0, 410)), ((7, 151), (64, 0, 414)), ((7, 154), (65, 0, 417)), ((1, 3), (1, 0, 420)), ((1, 38), (8, 0, 421)), ((7, 157), (66, 0, 456)), ((9, 131), (67, 0, 460)), ((9, 129), (68, 0, 464)), ((9, 69), (69, 0, 468)), ((9, 73), (70, 0, 472)), ((17, 194), (15, 0, 475)), ((17, 201), (71, 0, 477)), ((9, 66), (72, 0, 480)), ((11, 300), (73, 0, 497)), ((11, 304), (57, 0, 503)), ((9, 79), (15, 0, 507)), ((19, 53), (74, 0, 509)), ((7, 161), (75, 0, 513)), ((19, 57), (76, 0, 517)), ((7, 168), (77, 0, 521)), ((7, 176), (48, 0, 525)), ((7, 204), (49, 0, 526)), ((7, 208), (78, 0, 527)), ((1, 73), (79, 0, 531)), ((1, 77), (80, 0, 535)), ((7, 211), (81, 0, 539)), ((7, 219), (56, 0, 543)), ((7, 222), (82, 0, 544)), ((7, 189), (59, 0, 548)), ((7, 215), (83, 0, 549)), ((7, 225), (84, 0, 553)), ((7, 228), (85, 0, 557)), ((7, 237), (86, 0, 561)), ((7, 241), (87, 0, 565)), ((0, 36), (88, 0, 569)), ((0, 42), (89, 0, 572)), ((0, 46), (90, 0, 576)), ((0, 50), (91, 0, 580)), ((0, 56), (21, 1, 586)), ((0, 59), (92, 0, 587)), ((0, 63), (93, 0, 591)), ((19, 61), (94, 0, 594)), ((7, 172), (95, 0, 598)), ((19, 65), (96, 0, 602)), ((19, 69), (97, 0, 606)), ((19, 73), (98, 0, 610)), ((7, 186), (99, 0, 614)), ((7, 192), (100, 0, 618)), ((7, 247), (101, 0, 622)), ((19, 77), (102, 0, 626)), ((19, 81), (103, 0, 630)), ((7, 201), (104, 0, 634)), ((19, 85), (105, 0, 639)), ((7, 263), (106, 0, 645)), ((5, 3), (1, 0, 648)), ((19, 89), (107, 0, 670)), ((7, 266), (108, 0, 674)), ((19, 93), (109, 0, 679)), ((19, 97), (110, 0, 683)), ((7, 274), (111, 0, 687)), ((5, 32), (112, 0, 693)), ((19, 101), (113, 0, 696)), ((19, 105), (114, 0, 700)), ((7, 290), (115, 0, 704)), ((5, 38), (57, 0, 708)), ((19, 109), (116, 0, 709)), ((19, 12), (117, 0, 715)), ((8, 1), (1, 0, 718)), ((19, 17), (118, 0, 814)), ((8, 84), (119, 0, 819)), ((8, 109), (120, 0, 825)), ((8, 96), (121, 0, 829)), ((8, 92), (122, 0, 833)), ((8, 112), (123, 0, 837)), ((8, 99), (124, 0, 841)), ((19, 21), (125, 0, 845)), ((8, 117), (126, 0, 850)), ((19, 26), (127, 0, 854)), ((19, 33), (128, 0, 860)), ((19, 37), (129, 0, 865)), ((8, 159), (130, 0, 869)), ((8, 135), (131, 0, 873)), ((8, 146), (132, 0, 877)), ((8, 143), (133, 0, 880)), ((8, 156), (134, 0, 884)), ((8, 153), (135, 0, 890)), ((8, 162), (136, 0, 896)), ((8, 183), (137, 0, 900)), ((8, 169), (138, 0, 904)), ((8, 173), (139, 0, 908)), ((8, 177), (140, 0, 912)), ((8, 180), (141, 0, 916)), ((19, 42), (142, 0, 920)), ((19, 47), (143, 0, 924)), ((8, 165), (144, 0, 928)), ((19, 52), (145, 0, 931)), ((8, 205), (146, 0, 935)), ((19, 56), (147, 0, 940)), ((8, 213), (148, 0, 944)), ((19, 60), (149, 0, 950)), ((8, 220), (150, 0, 954)), ((8, 186), (151, 0, 958)), ((8, 189), (152, 0, 962)), ((8, 193), (153, 0, 966)), ((8, 196), (154, 0, 970)), ((8, 202), (155, 0, 974)), ((19, 64), (156, 0, 978)), ((8, 223), (149, 0, 982)), ((19, 68), (157, 0, 983)), ((19, 72), (158, 0, 987)), ((19, 76), (159, 0, 991)), ((8, 226), (160, 0, 995)), ((8, 229), (161, 0, 999)), ((19, 80), (162, 0, 1003)), ((19, 84), (163, 0, 1007)), ((8, 235), (164, 0, 1011)), ((19, 88), (165, 0, 1015)), ((19, 92), (166, 0, 1020)), ((8, 240), (167, 0, 1024)), ((19, 96), (168, 0, 1029)), ((19, 100), (169, 0, 1034)), ((19, 104), (170, 0, 1041)), ((8, 255), (171, 0, 1045)), ((19, 108), (172, 0, 1049)), ((19, 112), (173, 0, 1053))]
/-- classes by a pool's entry: ((class, entry), (class of objects; 20 int[][], 21 long[][], 22 Object, 23 Object[]; the word's place)) -/
def hm_ntab : List ((Nat × Nat) × (Nat × Nat)) := [((19, 7), (7, 20)), ((7, 16), (0, 28)), ((0, 31), (21, 34)), ((7, 23), (4, 62)), ((4, 9), (20, 68)), ((7, 30), (6, 74)), ((7, 37), (3, 89)), ((7, 44), (2, 118)), ((2, 9), (20, 125)), ((7, 55), (9, 137)), ((7, 132), (1, 340)), ((11, 110), (23, 500)), ((11, 2), (22, 502)), ((9, 7), (22, 508)), ((7, 261), (5, 638)), ((19, 10), (8, 713))]
def hm_itab : List ((Nat × Nat) × (Int32 × Nat)) := [((17, 200), (2147483639, 476)), ((18, 265), (1431655765, 583)), ((18, 266), (858993459, 584)), ((18, 267), (252645135, 585)), ((7, 260), (1000000, 643)), ((7, 273), (100000000, 678)), ((8, 243), (100000000, 1028))]
def hm_ltab : List ((Nat × Nat) × (Int64 × Nat)) := [((5, 28), (10000, 691)), ((5, 30), (100000000, 692)), ((8, 103), (2, 818)), ((8, 105), (4, 822)), ((8, 90), (3, 823)), ((8, 107), (8, 824)), ((8, 115), (1023, 849)), ((8, 120), (140, 858)), ((8, 122), (210, 859)), ((8, 130), (255, 864)), ((8, 149), (65, 888)), ((8, 151), (70, 889)), ((8, 139), (48, 894)), ((8, 141), (57, 895)), ((8, 88), (399, 938)), ((8, 208), (6, 939)), ((8, 216), (5, 948)), ((8, 218), (-1, 949)), ((8, 238), (1000000, 1019)), ((8, 244), (100, 1033)), ((8, 249), (400, 1038)), ((8, 251), (10000, 1039)), ((8, 253), (100000000, 1040)), ((19, 27), (4294967295, 1057))]
end
section
/-! what the tables of part 01 rest on: each row's words stand in tables_1 (or lw_tbl), decided by the kernel -/
def hm_in (w : Cond) : Bool := tables_1.any (fun u => decide (u = w))
theorem hm_in_mem {w : Cond} (h : hm_in w = true) : w ∈ tables_1 := by
  obtain ⟨u, hu, he⟩ := List.any_eq_true.mp h
  rw [← of_decide_eq_true he]
  exact hu
def hm_at (i : Nat) (w : Cond) : Bool := decide (tables_1[i]? = some w)
theorem hm_at_mem {i : Nat} {w : Cond} (h : hm_at i w = true) : w ∈ tables_1 := List.mem_of_getElem? (of_decide_eq_true h)
def hm_fchk (q : (Nat × Nat) × (Nat × Nat × Nat × Nat)) : Bool := match hm_own[q.1.1]?, hm_cls[q.2.1]? with
  | some own, some (_, T, N) => decide (q.2.2.1 < N) && (match q.2.2.2.1 with
    | 0 => hm_at q.2.2.2.2 (.fieldLink own q.1.2 (T q.2.2.1).1 (T q.2.2.1).2.1 (T q.2.2.1).2.2.1)
    | 1 => hm_at q.2.2.2.2 (.fieldLinkNest own q.1.2 (T q.2.2.1).1 (T q.2.2.1).2.1 (T q.2.2.1).2.2.1 "HourPromised")
    | _ => hm_at q.2.2.2.2 (.fieldLink own q.1.2 "java/util/ArrayList" (T q.2.2.1).2.1 (T q.2.2.1).2.2.1) && decide ((T q.2.2.1).1 = "java/util/AbstractList") && decide ((T q.2.2.1).2.1 = "modCount") && decide ((T q.2.2.1).2.2.1 = "I"))
  | _, _ => false
theorem hm_fok : hm_ftab.all hm_fchk = true := by decide +kernel
def hm_sname : Nat → String × String × String
  | 1 => ("HourPromised", "MOST_OF_KIND", "[I")
  | 2 => ("HourPromised", "ROW_OF_KIND", "[I")
  | _ => ("java/util/ArrayList", "DEFAULTCAPACITY_EMPTY_ELEMENTDATA", "[Ljava/lang/Object;")
def hm_schk (q : (Nat × Nat) × (Nat × Nat)) : Bool := match hm_own[q.1.1]? with
  | some own => decide (0 < q.2.1 ∧ q.2.1 < 4) && hm_at q.2.2 (.fieldLink own q.1.2 (hm_sname q.2.1).1 (hm_sname q.2.1).2.1 (hm_sname q.2.1).2.2)
  | none => false
theorem hm_sok : hm_stab.all hm_schk = true := by decide +kernel
def hm_nmH (s : String) : Bool := decide (s ≠ "java/lang/invoke/MethodHandle") && decide (s ≠ "java/lang/invoke/VarHandle")
/-- a method's own words -/
def hm_mchk (q : MethodName × ByteArray × Nat × Option FieldType × Nat × Nat × Nat) (w : Nat × Nat × Nat × Nat) : Bool := match q with
  | (y, _, mL, ret, cid, na, kd) => hm_at w.2.1 (.initialized y.cls) && hm_nmH y.cls && decide (hm_own[cid]? = some y.cls) && decide (mL ≤ 21) && plainFor y && decide ((parseMethodDescriptor y.desc).map (fun d => d.parameters.length) = some (if kd = 0 then na else na - 1)) && decide (kd = 0 ∨ 0 < na) &&
    (match kd with
    | 0 => hm_at w.2.2.1 (.static y)
    | 1 => hm_at w.2.2.1 (.instanceMethod y) && decide (lw_tbl[w.2.2.2]? = some (.selects y.cls y y))
    | _ => hm_at w.2.2.1 (.instanceMethod y) && decide (y.name = "<init>") && decide (ret = none))
end
section
set_option maxRecDepth 20000 in
theorem hm_cw0 : Cond.code ⟨"HourPromised", "<init>", "()V"⟩ prog_1_method_1_code 2 none ∈ tables_1 := (List.mem_append_left _ (List.mem_of_getElem? (i := 24) rfl))
set_option maxRecDepth 20000 in
theorem hm_cw1 : Cond.code ⟨"java/lang/Object", "<init>", "()V"⟩ object_method_1_code 1 none ∈ tables_1 := (List.mem_append_left _ (List.mem_of_getElem? (i := 27) rfl))
set_option maxRecDepth 20000 in
theorem hm_cw2 : Cond.code ⟨"HourPromised$Bearers", "<init>", "()V"⟩ prog_2_method_1_code 1 none ∈ tables_1 := (List.mem_append_left _ (List.mem_of_getElem? (i := 32) rfl))
set_option maxRecDepth 20000 in
theorem hm_cw3 : Cond.code ⟨"HourPromised$Ledger", "<init>", "()V"⟩ prog_6_method_1_code 1 none ∈ tables_1 := (List.mem_append_left _ (List.mem_of_getElem? (i := 66) rfl))
set_option maxRecDepth 20000 in
theorem hm_cw4 : Cond.code ⟨"HourPromised$Text", "<init>", "()V"⟩ prog_8_method_1_code 1 none ∈ tables_1 := (List.mem_append_left _ (List.mem_of_getElem? (i := 78) rfl))
set_option maxRecDepth 20000 in
theorem hm_cw5 : Cond.code ⟨"HourPromised$LawReader", "<init>", "()V"⟩ prog_5_method_1_code 1 none ∈ tables_1 := (List.mem_append_left _ (List.mem_of_getElem? (i := 93) rfl))
set_option maxRecDepth 20000 in
theorem hm_cw6 : Cond.code ⟨"HourPromised$Law", "<init>", "()V"⟩ prog_4_method_1_code 1 none ∈ tables_1 := (List.mem_append_left _ (List.mem_of_getElem? (i := 123) rfl))
set_option maxRecDepth 20000 in
theorem hm_cw7 : Cond.code ⟨"HourPromised$Law", "clear", "()V"⟩ prog_4_method_2_code 2 none ∈ tables_1 := (List.mem_append_left _ (List.mem_of_getElem? (i := 129) rfl))
set_option maxRecDepth 20000 in
theorem hm_cw8 : Cond.code ⟨"java/util/Arrays", "fill", "([II)V"⟩ prog_20_method_103_code 4 none ∈ tables_1 := (List.mem_append_left _ (List.mem_of_getElem? (i := 132) rfl))
set_option maxRecDepth 20000 in
theorem hm_cw9 : Cond.code ⟨"java/util/ArrayList", "<init>", "()V"⟩ prog_19_method_2_code 1 none ∈ tables_1 := (List.mem_append_left _ (List.mem_of_getElem? (i := 141) rfl))
set_option maxRecDepth 20000 in
theorem hm_cw10 : Cond.code ⟨"java/util/AbstractList", "<init>", "()V"⟩ prog_18_method_1_code 1 none ∈ tables_1 := (List.mem_append_left _ (List.mem_of_getElem? (i := 144) rfl))
set_option maxRecDepth 20000 in
theorem hm_cw11 : Cond.code ⟨"java/util/AbstractCollection", "<init>", "()V"⟩ prog_17_method_1_code 1 none ∈ tables_1 := (List.mem_append_left _ (List.mem_of_getElem? (i := 147) rfl))
set_option maxRecDepth 20000 in
theorem hm_cw12 : Cond.code ⟨"HourPromised", "house", "(II)I"⟩ prog_1_method_2_code 4 (some .int) ∈ tables_1 := (List.mem_append_left _ (List.mem_of_getElem? (i := 209) rfl))
set_option maxRecDepth 20000 in
theorem hm_cw13 : Cond.code ⟨"HourPromised", "within", "(III)Z"⟩ prog_1_method_39_code 3 (some .boolean) ∈ tables_1 := (List.mem_append_left _ (List.mem_of_getElem? (i := 212) rfl))
set_option maxRecDepth 20000 in
theorem hm_cw14 : Cond.code ⟨"HourPromised$Ledger", "mostOfAnyHour", "(I)I"⟩ prog_6_method_3_code 4 (some .int) ∈ tables_1 := (List.mem_append_left _ (List.mem_of_getElem? (i := 220) rfl))
set_option maxRecDepth 20000 in
theorem hm_cw15 : Cond.code ⟨"java/lang/Math", "max", "(II)I"⟩ prog_15_method_65_code 2 (some .int) ∈ tables_1 := (List.mem_append_left _ (List.mem_of_getElem? (i := 223) rfl))
set_option maxRecDepth 20000 in
theorem hm_cw16 : Cond.code ⟨"HourPromised", "open", "(II)I"⟩ prog_1_method_3_code 4 (some .int) ∈ tables_1 := (List.mem_append_left _ (List.mem_of_getElem? (i := 227) rfl))
set_option maxRecDepth 20000 in
theorem hm_cw17 : Cond.code ⟨"HourPromised", "everyServiceHasChapel", "()Z"⟩ prog_1_method_5_code 2 (some .boolean) ∈ tables_1 := (List.mem_append_left _ (List.mem_of_getElem? (i := 231) rfl))
set_option maxRecDepth 20000 in
theorem hm_cw18 : Cond.code ⟨"HourPromised$Ledger", "takenIn", "(II)I"⟩ prog_6_method_2_code 3 (some .int) ∈ tables_1 := (List.mem_append_left _ (List.mem_of_getElem? (i := 235) rfl))
set_option maxRecDepth 20000 in
theorem hm_cw19 : Cond.code ⟨"HourPromised", "openChapels", "(I)I"⟩ prog_1_method_6_code 4 (some .int) ∈ tables_1 := (List.mem_append_left _ (List.mem_of_getElem? (i := 239) rfl))
set_option maxRecDepth 20000 in
theorem hm_cw20 : Cond.code ⟨"HourPromised", "isOpen", "(II)Z"⟩ prog_1_method_7_code 3 (some .boolean) ∈ tables_1 := (List.mem_append_right _ (List.mem_append_left _ (List.mem_of_getElem? (i := 3) rfl)))
set_option maxRecDepth 20000 in
theorem hm_cw21 : Cond.code ⟨"HourPromised", "has", "(II)Z"⟩ prog_1_method_42_code 2 (some .boolean) ∈ tables_1 := (List.mem_append_right _ (List.mem_append_left _ (List.mem_of_getElem? (i := 6) rfl)))
set_option maxRecDepth 20000 in
theorem hm_cw22 : Cond.code ⟨"HourPromised", "bearer", "(I)I"⟩ prog_1_method_4_code 2 (some .int) ∈ tables_1 := (List.mem_append_right _ (List.mem_append_left _ (List.mem_of_getElem? (i := 10) rfl)))
set_option maxRecDepth 20000 in
theorem hm_cw23 : Cond.code ⟨"HourPromised$Bearers", "hire", "(I)I"⟩ prog_2_method_2_code 2 (some .int) ∈ tables_1 := (List.mem_append_right _ (List.mem_append_left _ (List.mem_of_getElem? (i := 14) rfl)))
set_option maxRecDepth 20000 in
theorem hm_cw24 : Cond.code ⟨"HourPromised", "feed", "(IJ)I"⟩ prog_1_method_8_code 4 (some .int) ∈ tables_1 := (List.mem_append_right _ (List.mem_append_left _ (List.mem_of_getElem? (i := 18) rfl)))
set_option maxRecDepth 20000 in
theorem hm_cw25 : Cond.code ⟨"HourPromised$Text", "append", "(IJ)I"⟩ prog_8_method_2_code 5 (some .int) ∈ tables_1 := (List.mem_append_right _ (List.mem_append_left _ (List.mem_of_getElem? (i := 22) rfl)))
set_option maxRecDepth 20000 in
theorem hm_cw26 : Cond.code ⟨"HourPromised", "law", "(I)I"⟩ prog_1_method_9_code 7 (some .int) ∈ tables_1 := (List.mem_append_right _ (List.mem_append_left _ (List.mem_of_getElem? (i := 26) rfl)))
set_option maxRecDepth 20000 in
theorem hm_cw27 : Cond.code ⟨"HourPromised$LawReader", "read", "(LHourPromised$Text;LHourPromised$Law;)I"⟩ prog_5_method_2_code 5 (some .int) ∈ tables_1 := (List.mem_append_right _ (List.mem_append_left _ (List.mem_of_getElem? (i := 30) rfl)))
set_option maxRecDepth 20000 in
theorem hm_cw28 : Cond.code ⟨"HourPromised$Text", "byteAt", "(I)I"⟩ prog_8_method_3_code 2 (some .int) ∈ tables_1 := (List.mem_append_right _ (List.mem_append_left _ (List.mem_of_getElem? (i := 35) rfl)))
set_option maxRecDepth 20000 in
theorem hm_cw29 : Cond.code ⟨"HourPromised$LawReader", "skip", "()I"⟩ prog_5_method_3_code 1 (some .int) ∈ tables_1 := (List.mem_append_right _ (List.mem_append_left _ (List.mem_of_getElem? (i := 39) rfl)))
set_option maxRecDepth 20000 in
theorem hm_cw30 : Cond.code ⟨"HourPromised$LawReader", "readPart", "(LHourPromised$Text;LHourPromised$Law;)I"⟩ prog_5_method_4_code 3 (some .int) ∈ tables_1 := (List.mem_append_right _ (List.mem_append_left _ (List.mem_of_getElem? (i := 43) rfl)))
set_option maxRecDepth 20000 in
theorem hm_cw31 : Cond.code ⟨"HourPromised$LawReader", "stepOf", "(I)I"⟩ prog_5_method_10_code 1 (some .int) ∈ tables_1 := (List.mem_append_right _ (List.mem_append_left _ (List.mem_of_getElem? (i := 46) rfl)))
set_option maxRecDepth 20000 in
theorem hm_cw32 : Cond.code ⟨"HourPromised$LawReader", "readClause", "(I)I"⟩ prog_5_method_6_code 2 (some .int) ∈ tables_1 := (List.mem_append_right _ (List.mem_append_left _ (List.mem_of_getElem? (i := 50) rfl)))
set_option maxRecDepth 20000 in
theorem hm_cw33 : Cond.code ⟨"HourPromised$LawReader", "goOn", "(I)I"⟩ prog_5_method_5_code 2 (some .int) ∈ tables_1 := (List.mem_append_right _ (List.mem_append_left _ (List.mem_of_getElem? (i := 55) rfl)))
set_option maxRecDepth 20000 in
theorem hm_cw34 : Cond.code ⟨"HourPromised$LawReader", "itemOf", "(I)I"⟩ prog_5_method_11_code 2 (some .int) ∈ tables_1 := (List.mem_append_right _ (List.mem_append_left _ (List.mem_of_getElem? (i := 58) rfl)))
set_option maxRecDepth 20000 in
theorem hm_cw35 : Cond.code ⟨"HourPromised$LawReader", "readItem", "(ILHourPromised$Law;)I"⟩ prog_5_method_7_code 3 (some .int) ∈ tables_1 := (List.mem_append_right _ (List.mem_append_left _ (List.mem_of_getElem? (i := 62) rfl)))
set_option maxRecDepth 20000 in
theorem hm_cw36 : Cond.code ⟨"HourPromised$Law", "put", "(III)V"⟩ prog_4_method_4_code 4 none ∈ tables_1 := (List.mem_append_right _ (List.mem_append_left _ (List.mem_of_getElem? (i := 66) rfl)))
set_option maxRecDepth 20000 in
theorem hm_cw37 : Cond.code ⟨"HourPromised$Law", "addTo", "(III)V"⟩ prog_4_method_5_code 4 none ∈ tables_1 := (List.mem_append_right _ (List.mem_append_left _ (List.mem_of_getElem? (i := 70) rfl)))
set_option maxRecDepth 20000 in
theorem hm_cw38 : Cond.code ⟨"HourPromised$LawReader", "readNumber", "(LHourPromised$Text;LHourPromised$Law;)I"⟩ prog_5_method_8_code 5 (some .int) ∈ tables_1 := (List.mem_append_right _ (List.mem_append_left _ (List.mem_of_getElem? (i := 74) rfl)))
set_option maxRecDepth 20000 in
theorem hm_cw39 : Cond.code ⟨"HourPromised$LawReader", "isFigure", "(I)Z"⟩ prog_5_method_9_code 1 (some .boolean) ∈ tables_1 := (List.mem_append_right _ (List.mem_append_left _ (List.mem_of_getElem? (i := 77) rfl)))
set_option maxRecDepth 20000 in
theorem hm_cw40 : Cond.code ⟨"HourPromised$Text", "empty", "()V"⟩ prog_8_method_4_code 1 none ∈ tables_1 := (List.mem_append_right _ (List.mem_append_left _ (List.mem_of_getElem? (i := 81) rfl)))
set_option maxRecDepth 20000 in
theorem hm_cw41 : Cond.code ⟨"java/util/ArrayList", "size", "()I"⟩ prog_19_method_8_code 1 (some .int) ∈ tables_1 := (List.mem_append_right _ (List.mem_append_left _ (List.mem_of_getElem? (i := 85) rfl)))
set_option maxRecDepth 20000 in
theorem hm_cw42 : Cond.code ⟨"java/util/ArrayList", "get", "(I)Ljava/lang/Object;"⟩ prog_19_method_20_code 2 (some (.object "java/lang/Object")) ∈ tables_1 := (List.mem_append_right _ (List.mem_append_left _ (List.mem_of_getElem? (i := 89) rfl)))
set_option maxRecDepth 20000 in
theorem hm_cw43 : Cond.code ⟨"java/util/Objects", "checkIndex", "(II)I"⟩ prog_23_method_17_code 2 (some .int) ∈ tables_1 := (List.mem_append_right _ (List.mem_append_left _ (List.mem_of_getElem? (i := 92) rfl)))
set_option maxRecDepth 20000 in
theorem hm_cw44 : Cond.code ⟨"jdk/internal/util/Preconditions", "checkIndex", "(IILjava/util/function/BiFunction;)I"⟩ prog_27_method_11_code 3 (some .int) ∈ tables_1 := (List.mem_append_right _ (List.mem_append_left _ (List.mem_of_getElem? (i := 95) rfl)))
set_option maxRecDepth 20000 in
theorem hm_cw45 : Cond.code ⟨"java/util/ArrayList", "elementData", "(I)Ljava/lang/Object;"⟩ prog_19_method_18_code 2 (some (.object "java/lang/Object")) ∈ tables_1 := (List.mem_append_right _ (List.mem_append_left _ (List.mem_of_getElem? (i := 99) rfl)))
set_option maxRecDepth 20000 in
theorem hm_cw46 : Cond.code ⟨"HourPromised", "undoBroken", "(LHourPromised$CaseFile;)I"⟩ prog_1_method_29_code 6 (some .int) ∈ tables_1 := (List.mem_append_right _ (List.mem_append_left _ (List.mem_of_getElem? (i := 104) rfl)))
set_option maxRecDepth 20000 in
theorem hm_cw47 : Cond.code ⟨"HourPromised$CaseFile", "firstBroken", "(LHourPromised$Law;)I"⟩ prog_3_method_5_code 3 (some .int) ∈ tables_1 := (List.mem_append_right _ (List.mem_append_left _ (List.mem_of_getElem? (i := 108) rfl)))
set_option maxRecDepth 20000 in
theorem hm_cw48 : Cond.code ⟨"HourPromised$CaseFile", "hasPromised", "(I)Z"⟩ prog_3_method_2_code 2 (some .boolean) ∈ tables_1 := (List.mem_append_right _ (List.mem_append_left _ (List.mem_of_getElem? (i := 112) rfl)))
set_option maxRecDepth 20000 in
theorem hm_cw49 : Cond.code ⟨"HourPromised$CaseFile", "hinderedByLaw", "(LHourPromised$Law;II)I"⟩ prog_3_method_6_code 4 (some .int) ∈ tables_1 := (List.mem_append_right _ (List.mem_append_left _ (List.mem_of_getElem? (i := 116) rfl)))
set_option maxRecDepth 20000 in
theorem hm_cw50 : Cond.code ⟨"HourPromised$Law", "of", "(II)I"⟩ prog_4_method_3_code 3 (some .int) ∈ tables_1 := (List.mem_append_right _ (List.mem_append_left _ (List.mem_of_getElem? (i := 120) rfl)))
set_option maxRecDepth 20000 in
theorem hm_cw51 : Cond.code ⟨"HourPromised$CaseFile", "hasPapers", "(II)Z"⟩ prog_3_method_8_code 4 (some .boolean) ∈ tables_1 := (List.mem_append_right _ (List.mem_append_left _ (List.mem_of_getElem? (i := 125) rfl)))
set_option maxRecDepth 20000 in
theorem hm_cw52 : Cond.code ⟨"HourPromised$Law", "isWithinBounds", "(II)Z"⟩ prog_4_method_6_code 5 (some .boolean) ∈ tables_1 := (List.mem_append_right _ (List.mem_append_left _ (List.mem_of_getElem? (i := 130) rfl)))
set_option maxRecDepth 20000 in
theorem hm_cw53 : Cond.code ⟨"HourPromised$CaseFile", "hasStepsAhead", "(II)Z"⟩ prog_3_method_9_code 4 (some .boolean) ∈ tables_1 := (List.mem_append_right _ (List.mem_append_left _ (List.mem_of_getElem? (i := 134) rfl)))
set_option maxRecDepth 20000 in
theorem hm_cw54 : Cond.code ⟨"HourPromised", "takeBack", "(LHourPromised$CaseFile;I)V"⟩ prog_1_method_28_code 3 none ∈ tables_1 := (List.mem_append_right _ (List.mem_append_left _ (List.mem_of_getElem? (i := 138) rfl)))
set_option maxRecDepth 20000 in
theorem hm_cw55 : Cond.code ⟨"HourPromised$Ledger", "enterRoom", "(LHourPromised$CaseFile;I)V"⟩ prog_6_method_6_code 5 none ∈ tables_1 := (List.mem_append_right _ (List.mem_append_left _ (List.mem_of_getElem? (i := 142) rfl)))
set_option maxRecDepth 20000 in
theorem hm_cw56 : Cond.code ⟨"HourPromised$CaseFile", "roomEnd", "()I"⟩ prog_3_method_4_code 2 (some .int) ∈ tables_1 := (List.mem_append_right _ (List.mem_append_left _ (List.mem_of_getElem? (i := 147) rfl)))
set_option maxRecDepth 20000 in
theorem hm_cw57 : Cond.code ⟨"java/lang/Math", "min", "(II)I"⟩ prog_15_method_69_code 2 (some .int) ∈ tables_1 := (List.mem_append_right _ (List.mem_append_left _ (List.mem_of_getElem? (i := 150) rfl)))
set_option maxRecDepth 20000 in
theorem hm_cw58 : Cond.code ⟨"HourPromised$Ledger", "enterStep", "(LHourPromised$CaseFile;II)V"⟩ prog_6_method_5_code 5 none ∈ tables_1 := (List.mem_append_right _ (List.mem_append_left _ (List.mem_of_getElem? (i := 154) rfl)))
set_option maxRecDepth 20000 in
theorem hm_cw59 : Cond.code ⟨"HourPromised", "takesBearers", "(I)Z"⟩ prog_1_method_43_code 1 (some .boolean) ∈ tables_1 := (List.mem_append_right _ (List.mem_append_left _ (List.mem_of_getElem? (i := 157) rfl)))
set_option maxRecDepth 20000 in
theorem hm_cw60 : Cond.code ⟨"HourPromised", "place", "()I"⟩ prog_1_method_10_code 1 (some .int) ∈ tables_1 := (List.mem_append_right _ (List.mem_append_left _ (List.mem_of_getElem? (i := 161) rfl)))
set_option maxRecDepth 20000 in
theorem hm_cw61 : Cond.code ⟨"HourPromised", "says", "(III)I"⟩ prog_1_method_11_code 4 (some .int) ∈ tables_1 := (List.mem_append_right _ (List.mem_append_left _ (List.mem_of_getElem? (i := 165) rfl)))
set_option maxRecDepth 20000 in
theorem hm_cw62 : Cond.code ⟨"HourPromised", "isStep", "(I)Z"⟩ prog_1_method_41_code 1 (some .boolean) ∈ tables_1 := (List.mem_append_right _ (List.mem_append_left _ (List.mem_of_getElem? (i := 168) rfl)))
set_option maxRecDepth 20000 in
theorem hm_cw63 : Cond.code ⟨"HourPromised", "casus", "(IIII)I"⟩ prog_1_method_12_code 5 (some .int) ∈ tables_1 := (List.mem_append_right _ (List.mem_append_left _ (List.mem_of_getElem? (i := 173) rfl)))
set_option maxRecDepth 20000 in
theorem hm_cw64 : Cond.code ⟨"HourPromised", "isHour", "(I)Z"⟩ prog_1_method_40_code 1 (some .boolean) ∈ tables_1 := (List.mem_append_right _ (List.mem_append_left _ (List.mem_of_getElem? (i := 176) rfl)))
set_option maxRecDepth 20000 in
theorem hm_cw65 : Cond.code ⟨"HourPromised$CaseFile", "<init>", "(IIII)V"⟩ prog_3_method_1_code 5 none ∈ tables_1 := (List.mem_append_right _ (List.mem_append_left _ (List.mem_of_getElem? (i := 179) rfl)))
set_option maxRecDepth 20000 in
theorem hm_cw66 : Cond.code ⟨"java/util/ArrayList", "add", "(Ljava/lang/Object;)Z"⟩ prog_19_method_25_code 2 (some .boolean) ∈ tables_1 := (List.mem_append_right _ (List.mem_append_left _ (List.mem_of_getElem? (i := 219) rfl)))
set_option maxRecDepth 20000 in
theorem hm_cw67 : Cond.code ⟨"java/util/ArrayList", "add", "(Ljava/lang/Object;[Ljava/lang/Object;I)V"⟩ prog_19_method_24_code 4 none ∈ tables_1 := (List.mem_append_right _ (List.mem_append_left _ (List.mem_of_getElem? (i := 223) rfl)))
set_option maxRecDepth 20000 in
theorem hm_cw68 : Cond.code ⟨"java/util/ArrayList", "grow", "()[Ljava/lang/Object;"⟩ prog_19_method_7_code 1 (some (.array (.object "java/lang/Object"))) ∈ tables_1 := (List.mem_append_right _ (List.mem_append_left _ (List.mem_of_getElem? (i := 227) rfl)))
set_option maxRecDepth 20000 in
theorem hm_cw69 : Cond.code ⟨"java/util/ArrayList", "grow", "(I)[Ljava/lang/Object;"⟩ prog_19_method_6_code 4 (some (.array (.object "java/lang/Object"))) ∈ tables_1 := (List.mem_append_right _ (List.mem_append_left _ (List.mem_of_getElem? (i := 231) rfl)))
set_option maxRecDepth 20000 in
theorem hm_cw70 : Cond.code ⟨"jdk/internal/util/ArraysSupport", "newLength", "(III)I"⟩ prog_26_method_27_code 4 (some .int) ∈ tables_1 := (List.mem_append_right _ (List.mem_append_left _ (List.mem_of_getElem? (i := 234) rfl)))
set_option maxRecDepth 20000 in
theorem hm_cw71 : Cond.code ⟨"jdk/internal/util/ArraysSupport", "hugeLength", "(II)I"⟩ prog_26_method_28_code 3 (some .int) ∈ tables_1 := (List.mem_append_right _ (List.mem_append_left _ (List.mem_of_getElem? (i := 239) rfl)))
set_option maxRecDepth 20000 in
theorem hm_cw72 : Cond.code ⟨"java/util/Arrays", "copyOf", "([Ljava/lang/Object;I)[Ljava/lang/Object;"⟩ prog_20_method_119_code 2 (some (.array (.object "java/lang/Object"))) ∈ tables_1 := (List.mem_append_right _ (List.mem_append_right _ (List.mem_append_left _ (List.mem_of_getElem? (i := 2) rfl))))
set_option maxRecDepth 20000 in
theorem hm_cw73 : Cond.code ⟨"java/util/Arrays", "copyOf", "([Ljava/lang/Object;ILjava/lang/Class;)[Ljava/lang/Object;"⟩ prog_20_method_120_code 4 (some (.array (.object "java/lang/Object"))) ∈ tables_1 := (List.mem_append_right _ (List.mem_append_right _ (List.mem_append_left _ (List.mem_of_getElem? (i := 19) rfl))))
set_option maxRecDepth 20000 in
theorem hm_cw74 : Cond.code ⟨"HourPromised", "paper", "(III)I"⟩ prog_1_method_13_code 5 (some .int) ∈ tables_1 := (List.mem_append_right _ (List.mem_append_right _ (List.mem_append_left _ (List.mem_of_getElem? (i := 32) rfl))))
set_option maxRecDepth 20000 in
theorem hm_cw75 : Cond.code ⟨"HourPromised", "fileOf", "(I)LHourPromised$CaseFile;"⟩ prog_1_method_21_code 2 (some (.object "HourPromised$CaseFile")) ∈ tables_1 := (List.mem_append_right _ (List.mem_append_right _ (List.mem_append_left _ (List.mem_of_getElem? (i := 36) rfl))))
set_option maxRecDepth 20000 in
theorem hm_cw76 : Cond.code ⟨"HourPromised", "may", "(III)I"⟩ prog_1_method_14_code 5 (some .int) ∈ tables_1 := (List.mem_append_right _ (List.mem_append_right _ (List.mem_append_left _ (List.mem_of_getElem? (i := 40) rfl))))
set_option maxRecDepth 20000 in
theorem hm_cw77 : Cond.code ⟨"HourPromised", "hindrance", "(LHourPromised$CaseFile;II)I"⟩ prog_1_method_22_code 6 (some .int) ∈ tables_1 := (List.mem_append_right _ (List.mem_append_right _ (List.mem_append_left _ (List.mem_of_getElem? (i := 44) rfl))))
set_option maxRecDepth 20000 in
theorem hm_cw78 : Cond.code ⟨"HourPromised$CaseFile", "hinderedByOtherSteps", "(LHourPromised$Law;II)I"⟩ prog_3_method_7_code 4 (some .int) ∈ tables_1 := (List.mem_append_right _ (List.mem_append_right _ (List.mem_append_left _ (List.mem_of_getElem? (i := 50) rfl))))
set_option maxRecDepth 20000 in
theorem hm_cw79 : Cond.code ⟨"HourPromised$CaseFile", "comesTooLate", "(LHourPromised$Law;II)Z"⟩ prog_3_method_10_code 5 (some .boolean) ∈ tables_1 := (List.mem_append_right _ (List.mem_append_right _ (List.mem_append_left _ (List.mem_of_getElem? (i := 54) rfl))))
set_option maxRecDepth 20000 in
theorem hm_cw80 : Cond.code ⟨"HourPromised$CaseFile", "hasOtherStepAt", "(II)Z"⟩ prog_3_method_11_code 4 (some .boolean) ∈ tables_1 := (List.mem_append_right _ (List.mem_append_right _ (List.mem_append_left _ (List.mem_of_getElem? (i := 58) rfl))))
set_option maxRecDepth 20000 in
theorem hm_cw81 : Cond.code ⟨"HourPromised", "hasPlaceFor", "(LHourPromised$CaseFile;II)Z"⟩ prog_1_method_23_code 4 (some .boolean) ∈ tables_1 := (List.mem_append_right _ (List.mem_append_right _ (List.mem_append_left _ (List.mem_of_getElem? (i := 62) rfl))))
set_option maxRecDepth 20000 in
theorem hm_cw82 : Cond.code ⟨"HourPromised$Ledger", "hasRooms", "(III)Z"⟩ prog_6_method_4_code 5 (some .boolean) ∈ tables_1 := (List.mem_append_right _ (List.mem_append_right _ (List.mem_append_left _ (List.mem_of_getElem? (i := 67) rfl))))
set_option maxRecDepth 20000 in
theorem hm_cw83 : Cond.code ⟨"HourPromised", "hasBearersFor", "(LHourPromised$CaseFile;I)Z"⟩ prog_1_method_24_code 5 (some .boolean) ∈ tables_1 := (List.mem_append_right _ (List.mem_append_right _ (List.mem_append_left _ (List.mem_of_getElem? (i := 72) rfl))))
set_option maxRecDepth 20000 in
theorem hm_cw84 : Cond.code ⟨"HourPromised$Bearers", "wantNothing", "()V"⟩ prog_2_method_3_code 1 none ∈ tables_1 := (List.mem_append_right _ (List.mem_append_right _ (List.mem_append_left _ (List.mem_of_getElem? (i := 76) rfl))))
set_option maxRecDepth 20000 in
theorem hm_cw85 : Cond.code ⟨"HourPromised$CaseFile", "isCarriedAt", "(I)Z"⟩ prog_3_method_3_code 2 (some .boolean) ∈ tables_1 := (List.mem_append_right _ (List.mem_append_right _ (List.mem_append_left _ (List.mem_of_getElem? (i := 80) rfl))))
set_option maxRecDepth 20000 in
theorem hm_cw86 : Cond.code ⟨"HourPromised$Bearers", "want", "(II)V"⟩ prog_2_method_4_code 3 none ∈ tables_1 := (List.mem_append_right _ (List.mem_append_right _ (List.mem_append_left _ (List.mem_of_getElem? (i := 84) rfl))))
set_option maxRecDepth 20000 in
theorem hm_cw87 : Cond.code ⟨"HourPromised$Bearers", "findSets", "()Z"⟩ prog_2_method_6_code 3 (some .boolean) ∈ tables_1 := (List.mem_append_right _ (List.mem_append_right _ (List.mem_append_left _ (List.mem_of_getElem? (i := 88) rfl))))
set_option maxRecDepth 20000 in
theorem hm_cw88 : Cond.code ⟨"java/util/Arrays", "fill", "([JJ)V"⟩ prog_20_method_101_code 5 none ∈ tables_1 := (List.mem_append_right _ (List.mem_append_right _ (List.mem_append_left _ (List.mem_of_getElem? (i := 91) rfl))))
set_option maxRecDepth 20000 in
theorem hm_cw89 : Cond.code ⟨"HourPromised$Bearers", "findFrom", "(II)Z"⟩ prog_2_method_7_code 7 (some .boolean) ∈ tables_1 := (List.mem_append_right _ (List.mem_append_right _ (List.mem_append_left _ (List.mem_of_getElem? (i := 95) rfl))))
set_option maxRecDepth 20000 in
theorem hm_cw90 : Cond.code ⟨"HourPromised$Bearers", "fillSet", "(IIII)Z"⟩ prog_2_method_8_code 8 (some .boolean) ∈ tables_1 := (List.mem_append_right _ (List.mem_append_right _ (List.mem_append_left _ (List.mem_of_getElem? (i := 99) rfl))))
set_option maxRecDepth 20000 in
theorem hm_cw91 : Cond.code ⟨"java/lang/Integer", "bitCount", "(I)I"⟩ prog_13_method_49_code 1 (some .int) ∈ tables_1 := (List.mem_append_right _ (List.mem_append_right _ (List.mem_append_left _ (List.mem_of_getElem? (i := 102) rfl))))
set_option maxRecDepth 20000 in
theorem hm_cw92 : Cond.code ⟨"HourPromised$Bearers", "likeInHeight", "(II)I"⟩ prog_2_method_9_code 5 (some .int) ∈ tables_1 := (List.mem_append_right _ (List.mem_append_right _ (List.mem_append_left _ (List.mem_of_getElem? (i := 110) rfl))))
set_option maxRecDepth 20000 in
theorem hm_cw93 : Cond.code ⟨"java/lang/Math", "abs", "(I)I"⟩ prog_15_method_59_code 1 (some .int) ∈ tables_1 := (List.mem_append_right _ (List.mem_append_right _ (List.mem_append_left _ (List.mem_of_getElem? (i := 113) rfl))))
set_option maxRecDepth 20000 in
theorem hm_cw94 : Cond.code ⟨"HourPromised", "promise", "(III)I"⟩ prog_1_method_15_code 5 (some .int) ∈ tables_1 := (List.mem_append_right _ (List.mem_append_right _ (List.mem_append_left _ (List.mem_of_getElem? (i := 117) rfl))))
set_option maxRecDepth 20000 in
theorem hm_cw95 : Cond.code ⟨"HourPromised", "book", "(LHourPromised$CaseFile;II)V"⟩ prog_1_method_27_code 4 none ∈ tables_1 := (List.mem_append_right _ (List.mem_append_right _ (List.mem_append_left _ (List.mem_of_getElem? (i := 121) rfl))))
set_option maxRecDepth 20000 in
theorem hm_cw96 : Cond.code ⟨"HourPromised", "earliest", "(III)I"⟩ prog_1_method_16_code 6 (some .int) ∈ tables_1 := (List.mem_append_right _ (List.mem_append_right _ (List.mem_append_left _ (List.mem_of_getElem? (i := 125) rfl))))
set_option maxRecDepth 20000 in
theorem hm_cw97 : Cond.code ⟨"HourPromised", "undo", "(II)I"⟩ prog_1_method_17_code 4 (some .int) ∈ tables_1 := (List.mem_append_right _ (List.mem_append_right _ (List.mem_append_left _ (List.mem_of_getElem? (i := 129) rfl))))
set_option maxRecDepth 20000 in
theorem hm_cw98 : Cond.code ⟨"HourPromised", "promised", "(III)I"⟩ prog_1_method_18_code 5 (some .int) ∈ tables_1 := (List.mem_append_right _ (List.mem_append_right _ (List.mem_append_left _ (List.mem_of_getElem? (i := 133) rfl))))
set_option maxRecDepth 20000 in
theorem hm_cw99 : Cond.code ⟨"HourPromised", "chapelOf", "(II)I"⟩ prog_1_method_26_code 5 (some .int) ∈ tables_1 := (List.mem_append_right _ (List.mem_append_right _ (List.mem_append_left _ (List.mem_of_getElem? (i := 137) rfl))))
set_option maxRecDepth 20000 in
theorem hm_cw100 : Cond.code ⟨"HourPromised", "bearersOf", "(II)I"⟩ prog_1_method_25_code 6 (some .int) ∈ tables_1 := (List.mem_append_right _ (List.mem_append_right _ (List.mem_append_left _ (List.mem_of_getElem? (i := 141) rfl))))
set_option maxRecDepth 20000 in
theorem hm_cw101 : Cond.code ⟨"HourPromised$Bearers", "setOf", "(I)I"⟩ prog_2_method_5_code 2 (some .int) ∈ tables_1 := (List.mem_append_right _ (List.mem_append_right _ (List.mem_append_left _ (List.mem_of_getElem? (i := 145) rfl))))
set_option maxRecDepth 20000 in
theorem hm_cw102 : Cond.code ⟨"HourPromised", "taken", "(II)I"⟩ prog_1_method_19_code 3 (some .int) ∈ tables_1 := (List.mem_append_right _ (List.mem_append_right _ (List.mem_append_left _ (List.mem_of_getElem? (i := 149) rfl))))
set_option maxRecDepth 20000 in
theorem hm_cw103 : Cond.code ⟨"HourPromised", "count", "(I)I"⟩ prog_1_method_20_code 2 (some .int) ∈ tables_1 := (List.mem_append_right _ (List.mem_append_right _ (List.mem_append_left _ (List.mem_of_getElem? (i := 153) rfl))))
set_option maxRecDepth 20000 in
theorem hm_cw104 : Cond.code ⟨"HourPromised", "trustOfAll", "()I"⟩ prog_1_method_38_code 3 (some .int) ∈ tables_1 := (List.mem_append_right _ (List.mem_append_right _ (List.mem_append_left _ (List.mem_of_getElem? (i := 157) rfl))))
set_option maxRecDepth 20000 in
theorem hm_cw105 : Cond.code ⟨"HourPromised", "plan", "(I)I"⟩ prog_1_method_30_code 2 (some .int) ∈ tables_1 := (List.mem_append_right _ (List.mem_append_right _ (List.mem_append_left _ (List.mem_of_getElem? (i := 162) rfl))))
set_option maxRecDepth 20000 in
theorem hm_cw106 : Cond.code ⟨"HourPromised$Plan", "<init>", "(I)V"⟩ prog_7_method_1_code 2 none ∈ tables_1 := (List.mem_append_right _ (List.mem_append_right _ (List.mem_append_left _ (List.mem_of_getElem? (i := 167) rfl))))
set_option maxRecDepth 20000 in
theorem hm_cw107 : Cond.code ⟨"HourPromised", "pay", "(II)I"⟩ prog_1_method_31_code 4 (some .int) ∈ tables_1 := (List.mem_append_right _ (List.mem_append_right _ (List.mem_append_left _ (List.mem_of_getElem? (i := 193) rfl))))
set_option maxRecDepth 20000 in
theorem hm_cw108 : Cond.code ⟨"HourPromised", "planOf", "(I)LHourPromised$Plan;"⟩ prog_1_method_37_code 2 (some (.object "HourPromised$Plan")) ∈ tables_1 := (List.mem_append_right _ (List.mem_append_right _ (List.mem_append_left _ (List.mem_of_getElem? (i := 197) rfl))))
set_option maxRecDepth 20000 in
theorem hm_cw109 : Cond.code ⟨"HourPromised", "rate", "(I)I"⟩ prog_1_method_32_code 3 (some .int) ∈ tables_1 := (List.mem_append_right _ (List.mem_append_right _ (List.mem_append_left _ (List.mem_of_getElem? (i := 202) rfl))))
set_option maxRecDepth 20000 in
theorem hm_cw110 : Cond.code ⟨"HourPromised", "days", "(I)I"⟩ prog_1_method_33_code 3 (some .int) ∈ tables_1 := (List.mem_append_right _ (List.mem_append_right _ (List.mem_append_left _ (List.mem_of_getElem? (i := 206) rfl))))
set_option maxRecDepth 20000 in
theorem hm_cw111 : Cond.code ⟨"HourPromised$Plan", "grow", "(II)V"⟩ prog_7_method_2_code 6 none ∈ tables_1 := (List.mem_append_right _ (List.mem_append_right _ (List.mem_append_left _ (List.mem_of_getElem? (i := 210) rfl))))
set_option maxRecDepth 20000 in
theorem hm_cw112 : Cond.code ⟨"java/lang/Math", "min", "(JJ)J"⟩ prog_15_method_70_code 4 (some .long) ∈ tables_1 := (List.mem_append_right _ (List.mem_append_right _ (List.mem_append_left _ (List.mem_of_getElem? (i := 215) rfl))))
set_option maxRecDepth 20000 in
theorem hm_cw113 : Cond.code ⟨"HourPromised", "tie", "(II)I"⟩ prog_1_method_34_code 5 (some .int) ∈ tables_1 := (List.mem_append_right _ (List.mem_append_right _ (List.mem_append_left _ (List.mem_of_getElem? (i := 219) rfl))))
set_option maxRecDepth 20000 in
theorem hm_cw114 : Cond.code ⟨"HourPromised", "settle", "(I)I"⟩ prog_1_method_35_code 5 (some .int) ∈ tables_1 := (List.mem_append_right _ (List.mem_append_right _ (List.mem_append_left _ (List.mem_of_getElem? (i := 223) rfl))))
set_option maxRecDepth 20000 in
theorem hm_cw115 : Cond.code ⟨"HourPromised$Plan", "payOut", "()I"⟩ prog_7_method_3_code 2 (some .int) ∈ tables_1 := (List.mem_append_right _ (List.mem_append_right _ (List.mem_append_left _ (List.mem_of_getElem? (i := 227) rfl))))
set_option maxRecDepth 20000 in
theorem hm_cw116 : Cond.code ⟨"HourPromised", "planned", "(II)I"⟩ prog_1_method_36_code 4 (some .int) ∈ tables_1 := (List.mem_append_right _ (List.mem_append_right _ (List.mem_append_left _ (List.mem_of_getElem? (i := 232) rfl))))
set_option maxRecDepth 20000 in
theorem hm_cw117 : Cond.code ⟨"HourPromisedModel", "<init>", "()V"⟩ prog_10_method_1_code 2 none ∈ tables_1 := (List.mem_append_right _ (List.mem_append_right _ (List.mem_append_left _ (List.mem_of_getElem? (i := 237) rfl))))
set_option maxRecDepth 20000 in
theorem hm_cw118 : Cond.code ⟨"HourPromisedModel", "house", "(II)I"⟩ prog_10_method_14_code 5 (some .int) ∈ tables_1 := (List.mem_append_right _ (List.mem_append_right _ (List.mem_append_right _ (List.mem_append_left _ (List.mem_of_getElem? (i := 97) rfl)))))
set_option maxRecDepth 20000 in
theorem hm_cw119 : Cond.code ⟨"HourPromisedModel", "in", "(JJJ)Z"⟩ prog_10_method_3_code 6 (some .boolean) ∈ tables_1 := (List.mem_append_right _ (List.mem_append_right _ (List.mem_append_right _ (List.mem_append_left _ (List.mem_of_getElem? (i := 101) rfl)))))
set_option maxRecDepth 20000 in
theorem hm_cw120 : Cond.code ⟨"HourPromisedModel", "carsAt", "(I)I"⟩ prog_10_method_10_code 2 (some .int) ∈ tables_1 := (List.mem_append_right _ (List.mem_append_right _ (List.mem_append_right _ (List.mem_append_left _ (List.mem_of_getElem? (i := 108) rfl)))))
set_option maxRecDepth 20000 in
theorem hm_cw121 : Cond.code ⟨"HourPromisedModel", "stepsAt", "(II)I"⟩ prog_10_method_9_code 5 (some .int) ∈ tables_1 := (List.mem_append_right _ (List.mem_append_right _ (List.mem_append_right _ (List.mem_append_left _ (List.mem_of_getElem? (i := 112) rfl)))))
set_option maxRecDepth 20000 in
theorem hm_cw122 : Cond.code ⟨"HourPromisedModel", "hourOf", "(II)I"⟩ prog_10_method_7_code 3 (some .int) ∈ tables_1 := (List.mem_append_right _ (List.mem_append_right _ (List.mem_append_right _ (List.mem_append_left _ (List.mem_of_getElem? (i := 116) rfl)))))
set_option maxRecDepth 20000 in
theorem hm_cw123 : Cond.code ⟨"HourPromisedModel", "roomsAt", "(I)I"⟩ prog_10_method_12_code 4 (some .int) ∈ tables_1 := (List.mem_append_right _ (List.mem_append_right _ (List.mem_append_right _ (List.mem_append_left _ (List.mem_of_getElem? (i := 120) rfl)))))
set_option maxRecDepth 20000 in
theorem hm_cw124 : Cond.code ⟨"HourPromisedModel", "roomEnd", "(I)I"⟩ prog_10_method_11_code 5 (some .int) ∈ tables_1 := (List.mem_append_right _ (List.mem_append_right _ (List.mem_append_right _ (List.mem_append_left _ (List.mem_of_getElem? (i := 124) rfl)))))
set_option maxRecDepth 20000 in
theorem hm_cw125 : Cond.code ⟨"HourPromisedModel", "open", "(II)I"⟩ prog_10_method_15_code 5 (some .int) ∈ tables_1 := (List.mem_append_right _ (List.mem_append_right _ (List.mem_append_right _ (List.mem_append_left _ (List.mem_of_getElem? (i := 128) rfl)))))
set_option maxRecDepth 20000 in
theorem hm_cw126 : Cond.code ⟨"HourPromisedModel", "chapelsAt", "(I)I"⟩ prog_10_method_13_code 4 (some .int) ∈ tables_1 := (List.mem_append_right _ (List.mem_append_right _ (List.mem_append_right _ (List.mem_append_left _ (List.mem_of_getElem? (i := 133) rfl)))))
set_option maxRecDepth 20000 in
theorem hm_cw127 : Cond.code ⟨"HourPromisedModel", "bearer", "(I)I"⟩ prog_10_method_16_code 2 (some .int) ∈ tables_1 := (List.mem_append_right _ (List.mem_append_right _ (List.mem_append_right _ (List.mem_append_left _ (List.mem_of_getElem? (i := 137) rfl)))))
set_option maxRecDepth 20000 in
theorem hm_cw128 : Cond.code ⟨"HourPromisedModel", "feed", "(IJ)I"⟩ prog_10_method_17_code 5 (some .int) ∈ tables_1 := (List.mem_append_right _ (List.mem_append_right _ (List.mem_append_right _ (List.mem_append_left _ (List.mem_of_getElem? (i := 143) rfl)))))
set_option maxRecDepth 20000 in
theorem hm_cw129 : Cond.code ⟨"HourPromisedModel", "law", "(I)I"⟩ prog_10_method_24_code 4 (some .int) ∈ tables_1 := (List.mem_append_right _ (List.mem_append_right _ (List.mem_append_right _ (List.mem_append_left _ (List.mem_of_getElem? (i := 148) rfl)))))
set_option maxRecDepth 20000 in
theorem hm_cw130 : Cond.code ⟨"HourPromisedModel", "readLaw", "()I"⟩ prog_10_method_23_code 4 (some .int) ∈ tables_1 := (List.mem_append_right _ (List.mem_append_right _ (List.mem_append_right _ (List.mem_append_left _ (List.mem_of_getElem? (i := 152) rfl)))))
set_option maxRecDepth 20000 in
theorem hm_cw131 : Cond.code ⟨"HourPromisedModel", "here", "()I"⟩ prog_10_method_18_code 1 (some .int) ∈ tables_1 := (List.mem_append_right _ (List.mem_append_right _ (List.mem_append_right _ (List.mem_append_left _ (List.mem_of_getElem? (i := 156) rfl)))))
set_option maxRecDepth 20000 in
theorem hm_cw132 : Cond.code ⟨"HourPromisedModel", "stepOf", "(I)I"⟩ prog_10_method_19_code 1 (some .int) ∈ tables_1 := (List.mem_append_right _ (List.mem_append_right _ (List.mem_append_right _ (List.mem_append_left _ (List.mem_of_getElem? (i := 159) rfl)))))
set_option maxRecDepth 20000 in
theorem hm_cw133 : Cond.code ⟨"HourPromisedModel", "fails", "(II)I"⟩ prog_10_method_20_code 3 (some .int) ∈ tables_1 := (List.mem_append_right _ (List.mem_append_right _ (List.mem_append_right _ (List.mem_append_left _ (List.mem_of_getElem? (i := 163) rfl)))))
set_option maxRecDepth 20000 in
theorem hm_cw134 : Cond.code ⟨"HourPromisedModel", "readItem", "(II)I"⟩ prog_10_method_22_code 6 (some .int) ∈ tables_1 := (List.mem_append_right _ (List.mem_append_right _ (List.mem_append_right _ (List.mem_append_left _ (List.mem_of_getElem? (i := 167) rfl)))))
set_option maxRecDepth 20000 in
theorem hm_cw135 : Cond.code ⟨"HourPromisedModel", "readNumber", "(I)I"⟩ prog_10_method_21_code 5 (some .int) ∈ tables_1 := (List.mem_append_right _ (List.mem_append_right _ (List.mem_append_right _ (List.mem_append_left _ (List.mem_of_getElem? (i := 173) rfl)))))
set_option maxRecDepth 20000 in
theorem hm_cw136 : Cond.code ⟨"HourPromisedModel", "putRight", "(II)I"⟩ prog_10_method_38_code 7 (some .int) ∈ tables_1 := (List.mem_append_right _ (List.mem_append_right _ (List.mem_append_right _ (List.mem_append_left _ (List.mem_of_getElem? (i := 179) rfl)))))
set_option maxRecDepth 20000 in
theorem hm_cw137 : Cond.code ⟨"HourPromisedModel", "hinders", "(III)I"⟩ prog_10_method_30_code 4 (some .int) ∈ tables_1 := (List.mem_append_right _ (List.mem_append_right _ (List.mem_append_right _ (List.mem_append_left _ (List.mem_of_getElem? (i := 183) rfl)))))
set_option maxRecDepth 20000 in
theorem hm_cw138 : Cond.code ⟨"HourPromisedModel", "lawOf", "(III)I"⟩ prog_10_method_8_code 4 (some .int) ∈ tables_1 := (List.mem_append_right _ (List.mem_append_right _ (List.mem_append_right _ (List.mem_append_left _ (List.mem_of_getElem? (i := 187) rfl)))))
set_option maxRecDepth 20000 in
theorem hm_cw139 : Cond.code ⟨"HourPromisedModel", "papersMiss", "(III)Z"⟩ prog_10_method_27_code 7 (some .boolean) ∈ tables_1 := (List.mem_append_right _ (List.mem_append_right _ (List.mem_append_right _ (List.mem_append_left _ (List.mem_of_getElem? (i := 191) rfl)))))
set_option maxRecDepth 20000 in
theorem hm_cw140 : Cond.code ⟨"HourPromisedModel", "isOut", "(III)Z"⟩ prog_10_method_28_code 5 (some .boolean) ∈ tables_1 := (List.mem_append_right _ (List.mem_append_right _ (List.mem_append_right _ (List.mem_append_left _ (List.mem_of_getElem? (i := 195) rfl)))))
set_option maxRecDepth 20000 in
theorem hm_cw141 : Cond.code ⟨"HourPromisedModel", "aheadMiss", "(III)Z"⟩ prog_10_method_29_code 7 (some .boolean) ∈ tables_1 := (List.mem_append_right _ (List.mem_append_right _ (List.mem_append_right _ (List.mem_append_left _ (List.mem_of_getElem? (i := 199) rfl)))))
set_option maxRecDepth 20000 in
theorem hm_cw142 : Cond.code ⟨"HourPromisedModel", "place", "()I"⟩ prog_10_method_25_code 1 (some .int) ∈ tables_1 := (List.mem_append_right _ (List.mem_append_right _ (List.mem_append_right _ (List.mem_append_left _ (List.mem_of_getElem? (i := 203) rfl)))))
set_option maxRecDepth 20000 in
theorem hm_cw143 : Cond.code ⟨"HourPromisedModel", "says", "(III)I"⟩ prog_10_method_26_code 4 (some .int) ∈ tables_1 := (List.mem_append_right _ (List.mem_append_right _ (List.mem_append_right _ (List.mem_append_left _ (List.mem_of_getElem? (i := 207) rfl)))))
set_option maxRecDepth 20000 in
theorem hm_cw144 : Cond.code ⟨"HourPromisedModel", "isStep", "(I)Z"⟩ prog_10_method_6_code 1 (some .boolean) ∈ tables_1 := (List.mem_append_right _ (List.mem_append_right _ (List.mem_append_right _ (List.mem_append_left _ (List.mem_of_getElem? (i := 210) rfl)))))
set_option maxRecDepth 20000 in
theorem hm_cw145 : Cond.code ⟨"HourPromisedModel", "casus", "(IIII)I"⟩ prog_10_method_37_code 7 (some .int) ∈ tables_1 := (List.mem_append_right _ (List.mem_append_right _ (List.mem_append_right _ (List.mem_append_left _ (List.mem_of_getElem? (i := 214) rfl)))))
set_option maxRecDepth 20000 in
theorem hm_cw146 : Cond.code ⟨"HourPromisedModel", "isHour", "(I)Z"⟩ prog_10_method_5_code 1 (some .boolean) ∈ tables_1 := (List.mem_append_right _ (List.mem_append_right _ (List.mem_append_right _ (List.mem_append_left _ (List.mem_of_getElem? (i := 217) rfl)))))
set_option maxRecDepth 20000 in
theorem hm_cw147 : Cond.code ⟨"HourPromisedModel", "paper", "(III)I"⟩ prog_10_method_39_code 4 (some .int) ∈ tables_1 := (List.mem_append_right _ (List.mem_append_right _ (List.mem_append_right _ (List.mem_append_left _ (List.mem_of_getElem? (i := 223) rfl)))))
set_option maxRecDepth 20000 in
theorem hm_cw148 : Cond.code ⟨"HourPromisedModel", "isCase", "(I)Z"⟩ prog_10_method_4_code 2 (some .boolean) ∈ tables_1 := (List.mem_append_right _ (List.mem_append_right _ (List.mem_append_right _ (List.mem_append_left _ (List.mem_of_getElem? (i := 227) rfl)))))
set_option maxRecDepth 20000 in
theorem hm_cw149 : Cond.code ⟨"HourPromisedModel", "may", "(III)I"⟩ prog_10_method_40_code 4 (some .int) ∈ tables_1 := (List.mem_append_right _ (List.mem_append_right _ (List.mem_append_right _ (List.mem_append_left _ (List.mem_of_getElem? (i := 233) rfl)))))
set_option maxRecDepth 20000 in
theorem hm_cw150 : Cond.code ⟨"HourPromisedModel", "mayBe", "(III)I"⟩ prog_10_method_34_code 6 (some .int) ∈ tables_1 := (List.mem_append_right _ (List.mem_append_right _ (List.mem_append_right _ (List.mem_append_left _ (List.mem_of_getElem? (i := 237) rfl)))))
set_option maxRecDepth 20000 in
theorem hm_cw151 : Cond.code ⟨"HourPromisedModel", "isWantedLater", "(III)Z"⟩ prog_10_method_31_code 6 (some .boolean) ∈ tables_1 := (List.mem_append_right _ (List.mem_append_right _ (List.mem_append_right _ (List.mem_append_right _ (List.mem_of_getElem? (i := 1) rfl)))))
set_option maxRecDepth 20000 in
theorem hm_cw152 : Cond.code ⟨"HourPromisedModel", "isBusy", "(II)Z"⟩ prog_10_method_32_code 5 (some .boolean) ∈ tables_1 := (List.mem_append_right _ (List.mem_append_right _ (List.mem_append_right _ (List.mem_append_right _ (List.mem_of_getElem? (i := 5) rfl)))))
set_option maxRecDepth 20000 in
theorem hm_cw153 : Cond.code ⟨"HourPromisedModel", "placeMiss", "(III)Z"⟩ prog_10_method_33_code 6 (some .boolean) ∈ tables_1 := (List.mem_append_right _ (List.mem_append_right _ (List.mem_append_right _ (List.mem_append_right _ (List.mem_of_getElem? (i := 9) rfl)))))
set_option maxRecDepth 20000 in
theorem hm_cw154 : Cond.code ⟨"HourPromisedModel", "findSets", "(I)Z"⟩ prog_10_method_36_code 4 (some .boolean) ∈ tables_1 := (List.mem_append_right _ (List.mem_append_right _ (List.mem_append_right _ (List.mem_append_right _ (List.mem_of_getElem? (i := 13) rfl)))))
set_option maxRecDepth 20000 in
theorem hm_cw155 : Cond.code ⟨"HourPromisedModel", "listSets", "(II)I"⟩ prog_10_method_35_code 11 (some .int) ∈ tables_1 := (List.mem_append_right _ (List.mem_append_right _ (List.mem_append_right _ (List.mem_append_right _ (List.mem_of_getElem? (i := 17) rfl)))))
set_option maxRecDepth 20000 in
theorem hm_cw156 : Cond.code ⟨"HourPromisedModel", "promise", "(III)I"⟩ prog_10_method_41_code 5 (some .int) ∈ tables_1 := (List.mem_append_right _ (List.mem_append_right _ (List.mem_append_right _ (List.mem_append_right _ (List.mem_of_getElem? (i := 21) rfl)))))
set_option maxRecDepth 20000 in
theorem hm_cw157 : Cond.code ⟨"HourPromisedModel", "earliest", "(III)I"⟩ prog_10_method_42_code 5 (some .int) ∈ tables_1 := (List.mem_append_right _ (List.mem_append_right _ (List.mem_append_right _ (List.mem_append_right _ (List.mem_of_getElem? (i := 26) rfl)))))
set_option maxRecDepth 20000 in
theorem hm_cw158 : Cond.code ⟨"HourPromisedModel", "undo", "(II)I"⟩ prog_10_method_43_code 3 (some .int) ∈ tables_1 := (List.mem_append_right _ (List.mem_append_right _ (List.mem_append_right _ (List.mem_append_right _ (List.mem_of_getElem? (i := 30) rfl)))))
set_option maxRecDepth 20000 in
theorem hm_cw159 : Cond.code ⟨"HourPromisedModel", "promised", "(III)I"⟩ prog_10_method_46_code 5 (some .int) ∈ tables_1 := (List.mem_append_right _ (List.mem_append_right _ (List.mem_append_right _ (List.mem_append_right _ (List.mem_of_getElem? (i := 34) rfl)))))
set_option maxRecDepth 20000 in
theorem hm_cw160 : Cond.code ⟨"HourPromisedModel", "chapelOf", "(I)I"⟩ prog_10_method_44_code 5 (some .int) ∈ tables_1 := (List.mem_append_right _ (List.mem_append_right _ (List.mem_append_right _ (List.mem_append_right _ (List.mem_of_getElem? (i := 38) rfl)))))
set_option maxRecDepth 20000 in
theorem hm_cw161 : Cond.code ⟨"HourPromisedModel", "setOf", "(II)I"⟩ prog_10_method_45_code 6 (some .int) ∈ tables_1 := (List.mem_append_right _ (List.mem_append_right _ (List.mem_append_right _ (List.mem_append_right _ (List.mem_of_getElem? (i := 42) rfl)))))
set_option maxRecDepth 20000 in
theorem hm_cw162 : Cond.code ⟨"HourPromisedModel", "taken", "(II)I"⟩ prog_10_method_47_code 5 (some .int) ∈ tables_1 := (List.mem_append_right _ (List.mem_append_right _ (List.mem_append_right _ (List.mem_append_right _ (List.mem_of_getElem? (i := 46) rfl)))))
set_option maxRecDepth 20000 in
theorem hm_cw163 : Cond.code ⟨"HourPromisedModel", "count", "(I)I"⟩ prog_10_method_48_code 5 (some .int) ∈ tables_1 := (List.mem_append_right _ (List.mem_append_right _ (List.mem_append_right _ (List.mem_append_right _ (List.mem_of_getElem? (i := 50) rfl)))))
set_option maxRecDepth 20000 in
theorem hm_cw164 : Cond.code ⟨"HourPromisedModel", "allTrust", "()I"⟩ prog_10_method_49_code 3 (some .int) ∈ tables_1 := (List.mem_append_right _ (List.mem_append_right _ (List.mem_append_right _ (List.mem_append_right _ (List.mem_of_getElem? (i := 54) rfl)))))
set_option maxRecDepth 20000 in
theorem hm_cw165 : Cond.code ⟨"HourPromisedModel", "plan", "(I)I"⟩ prog_10_method_50_code 2 (some .int) ∈ tables_1 := (List.mem_append_right _ (List.mem_append_right _ (List.mem_append_right _ (List.mem_append_right _ (List.mem_of_getElem? (i := 58) rfl)))))
set_option maxRecDepth 20000 in
theorem hm_cw166 : Cond.code ⟨"HourPromisedModel", "pay", "(II)I"⟩ prog_10_method_52_code 3 (some .int) ∈ tables_1 := (List.mem_append_right _ (List.mem_append_right _ (List.mem_append_right _ (List.mem_append_right _ (List.mem_of_getElem? (i := 63) rfl)))))
set_option maxRecDepth 20000 in
theorem hm_cw167 : Cond.code ⟨"HourPromisedModel", "isPlan", "(I)Z"⟩ prog_10_method_51_code 2 (some .boolean) ∈ tables_1 := (List.mem_append_right _ (List.mem_append_right _ (List.mem_append_right _ (List.mem_append_right _ (List.mem_of_getElem? (i := 67) rfl)))))
set_option maxRecDepth 20000 in
theorem hm_cw168 : Cond.code ⟨"HourPromisedModel", "rate", "(I)I"⟩ prog_10_method_53_code 3 (some .int) ∈ tables_1 := (List.mem_append_right _ (List.mem_append_right _ (List.mem_append_right _ (List.mem_append_right _ (List.mem_of_getElem? (i := 72) rfl)))))
set_option maxRecDepth 20000 in
theorem hm_cw169 : Cond.code ⟨"HourPromisedModel", "days", "(I)I"⟩ prog_10_method_54_code 6 (some .int) ∈ tables_1 := (List.mem_append_right _ (List.mem_append_right _ (List.mem_append_right _ (List.mem_append_right _ (List.mem_of_getElem? (i := 77) rfl)))))
set_option maxRecDepth 20000 in
theorem hm_cw170 : Cond.code ⟨"HourPromisedModel", "tie", "(II)I"⟩ prog_10_method_56_code 3 (some .int) ∈ tables_1 := (List.mem_append_right _ (List.mem_append_right _ (List.mem_append_right _ (List.mem_append_right _ (List.mem_of_getElem? (i := 84) rfl)))))
set_option maxRecDepth 20000 in
theorem hm_cw171 : Cond.code ⟨"HourPromisedModel", "planOf", "(I)I"⟩ prog_10_method_55_code 4 (some .int) ∈ tables_1 := (List.mem_append_right _ (List.mem_append_right _ (List.mem_append_right _ (List.mem_append_right _ (List.mem_of_getElem? (i := 88) rfl)))))
set_option maxRecDepth 20000 in
theorem hm_cw172 : Cond.code ⟨"HourPromisedModel", "settle", "(I)I"⟩ prog_10_method_57_code 4 (some .int) ∈ tables_1 := (List.mem_append_right _ (List.mem_append_right _ (List.mem_append_right _ (List.mem_append_right _ (List.mem_of_getElem? (i := 92) rfl)))))
set_option maxRecDepth 20000 in
theorem hm_cw173 : Cond.code ⟨"HourPromisedModel", "planned", "(II)I"⟩ prog_10_method_58_code 3 (some .int) ∈ tables_1 := (List.mem_append_right _ (List.mem_append_right _ (List.mem_append_right _ (List.mem_append_right _ (List.mem_of_getElem? (i := 96) rfl)))))
set_option maxRecDepth 20000 in
theorem hm_cwl0 : ∀ q ∈ hm_mt0, Cond.code q.1 q.2.1 q.2.2.1 q.2.2.2.1 ∈ tables_1 := List.forall_mem_cons.mpr ⟨hm_cw0, List.forall_mem_cons.mpr ⟨hm_cw1, List.forall_mem_cons.mpr ⟨hm_cw2, List.forall_mem_cons.mpr ⟨hm_cw3, List.forall_mem_cons.mpr ⟨hm_cw4, List.forall_mem_cons.mpr ⟨hm_cw5, List.forall_mem_cons.mpr ⟨hm_cw6, List.forall_mem_cons.mpr ⟨hm_cw7, List.forall_mem_cons.mpr ⟨hm_cw8, List.forall_mem_cons.mpr ⟨hm_cw9, List.forall_mem_cons.mpr ⟨hm_cw10, List.forall_mem_cons.mpr ⟨hm_cw11, List.forall_mem_cons.mpr ⟨hm_cw12, List.forall_mem_cons.mpr ⟨hm_cw13, List.forall_mem_cons.mpr ⟨hm_cw14, List.forall_mem_cons.mpr ⟨hm_cw15, List.forall_mem_cons.mpr ⟨hm_cw16, List.forall_mem_cons.mpr ⟨hm_cw17, List.forall_mem_cons.mpr ⟨hm_cw18, List.forall_mem_cons.mpr ⟨hm_cw19, List.forall_mem_cons.mpr ⟨hm_cw20, List.forall_mem_cons.mpr ⟨hm_cw21, List.forall_mem_cons.mpr ⟨hm_cw22, List.forall_mem_cons.mpr ⟨hm_cw23, List.forall_mem_cons.mpr ⟨hm_cw24, List.forall_mem_cons.mpr ⟨hm_cw25, List.forall_mem_cons.mpr ⟨hm_cw26, List.forall_mem_cons.mpr ⟨hm_cw27, List.forall_mem_cons.mpr ⟨hm_cw28, List.forall_mem_cons.mpr ⟨hm_cw29, fun _ h => absurd h List.not_mem_nil⟩⟩⟩⟩⟩⟩⟩⟩⟩⟩⟩⟩⟩⟩⟩⟩⟩⟩⟩⟩⟩⟩⟩⟩⟩⟩⟩⟩⟩⟩
set_option maxRecDepth 20000 in
theorem hm_cwl1 : ∀ q ∈ hm_mt1, Cond.code q.1 q.2.1 q.2.2.1 q.2.2.2.1 ∈ tables_1 := List.forall_mem_cons.mpr ⟨hm_cw30, List.forall_mem_cons.mpr ⟨hm_cw31, List.forall_mem_cons.mpr ⟨hm_cw32, List.forall_mem_cons.mpr ⟨hm_cw33, List.forall_mem_cons.mpr ⟨hm_cw34, List.forall_mem_cons.mpr ⟨hm_cw35, List.forall_mem_cons.mpr ⟨hm_cw36, List.forall_mem_cons.mpr ⟨hm_cw37, List.forall_mem_cons.mpr ⟨hm_cw38, List.forall_mem_cons.mpr ⟨hm_cw39, List.forall_mem_cons.mpr ⟨hm_cw40, List.forall_mem_cons.mpr ⟨hm_cw41, List.forall_mem_cons.mpr ⟨hm_cw42, List.forall_mem_cons.mpr ⟨hm_cw43, List.forall_mem_cons.mpr ⟨hm_cw44, List.forall_mem_cons.mpr ⟨hm_cw45, List.forall_mem_cons.mpr ⟨hm_cw46, List.forall_mem_cons.mpr ⟨hm_cw47, List.forall_mem_cons.mpr ⟨hm_cw48, List.forall_mem_cons.mpr ⟨hm_cw49, List.forall_mem_cons.mpr ⟨hm_cw50, List.forall_mem_cons.mpr ⟨hm_cw51, List.forall_mem_cons.mpr ⟨hm_cw52, List.forall_mem_cons.mpr ⟨hm_cw53, List.forall_mem_cons.mpr ⟨hm_cw54, List.forall_mem_cons.mpr ⟨hm_cw55, List.forall_mem_cons.mpr ⟨hm_cw56, List.forall_mem_cons.mpr ⟨hm_cw57, List.forall_mem_cons.mpr ⟨hm_cw58, List.forall_mem_cons.mpr ⟨hm_cw59, fun _ h => absurd h List.not_mem_nil⟩⟩⟩⟩⟩⟩⟩⟩⟩⟩⟩⟩⟩⟩⟩⟩⟩⟩⟩⟩⟩⟩⟩⟩⟩⟩⟩⟩⟩⟩
set_option maxRecDepth 20000 in
theorem hm_cwl2 : ∀ q ∈ hm_mt2, Cond.code q.1 q.2.1 q.2.2.1 q.2.2.2.1 ∈ tables_1 := List.forall_mem_cons.mpr ⟨hm_cw60, List.forall_mem_cons.mpr ⟨hm_cw61, List.forall_mem_cons.mpr ⟨hm_cw62, List.forall_mem_cons.mpr ⟨hm_cw63, List.forall_mem_cons.mpr ⟨hm_cw64, List.forall_mem_cons.mpr ⟨hm_cw65, List.forall_mem_cons.mpr ⟨hm_cw66, List.forall_mem_cons.mpr ⟨hm_cw67, List.forall_mem_cons.mpr ⟨hm_cw68, List.forall_mem_cons.mpr ⟨hm_cw69, List.forall_mem_cons.mpr ⟨hm_cw70, List.forall_mem_cons.mpr ⟨hm_cw71, List.forall_mem_cons.mpr ⟨hm_cw72, List.forall_mem_cons.mpr ⟨hm_cw73, List.forall_mem_cons.mpr ⟨hm_cw74, List.forall_mem_cons.mpr ⟨hm_cw75, List.forall_mem_cons.mpr ⟨hm_cw76, List.forall_mem_cons.mpr ⟨hm_cw77, List.forall_mem_cons.mpr ⟨hm_cw78, List.forall_mem_cons.mpr ⟨hm_cw79, List.forall_mem_cons.mpr ⟨hm_cw80, List.forall_mem_cons.mpr ⟨hm_cw81, List.forall_mem_cons.mpr ⟨hm_cw82, List.forall_mem_cons.mpr ⟨hm_cw83, List.forall_mem_cons.mpr ⟨hm_cw84, List.forall_mem_cons.mpr ⟨hm_cw85, List.forall_mem_cons.mpr ⟨hm_cw86, List.forall_mem_cons.mpr ⟨hm_cw87, List.forall_mem_cons.mpr ⟨hm_cw88, List.forall_mem_cons.mpr ⟨hm_cw89, fun _ h => absurd h List.not_mem_nil⟩⟩⟩⟩⟩⟩⟩⟩⟩⟩⟩⟩⟩⟩⟩⟩⟩⟩⟩⟩⟩⟩⟩⟩⟩⟩⟩⟩⟩⟩
set_option maxRecDepth 20000 in
theorem hm_cwl3 : ∀ q ∈ hm_mt3, Cond.code q.1 q.2.1 q.2.2.1 q.2.2.2.1 ∈ tables_1 := List.forall_mem_cons.mpr ⟨hm_cw90, List.forall_mem_cons.mpr ⟨hm_cw91, List.forall_mem_cons.mpr ⟨hm_cw92, List.forall_mem_cons.mpr ⟨hm_cw93, List.forall_mem_cons.mpr ⟨hm_cw94, List.forall_mem_cons.mpr ⟨hm_cw95, List.forall_mem_cons.mpr ⟨hm_cw96, List.forall_mem_cons.mpr ⟨hm_cw97, List.forall_mem_cons.mpr ⟨hm_cw98, List.forall_mem_cons.mpr ⟨hm_cw99, List.forall_mem_cons.mpr ⟨hm_cw100, List.forall_mem_cons.mpr ⟨hm_cw101, List.forall_mem_cons.mpr ⟨hm_cw102, List.forall_mem_cons.mpr ⟨hm_cw103, List.forall_mem_cons.mpr ⟨hm_cw104, List.forall_mem_cons.mpr ⟨hm_cw105, List.forall_mem_cons.mpr ⟨hm_cw106, List.forall_mem_cons.mpr ⟨hm_cw107, List.forall_mem_cons.mpr ⟨hm_cw108, List.forall_mem_cons.mpr ⟨hm_cw109, List.forall_mem_cons.mpr ⟨hm_cw110, List.forall_mem_cons.mpr ⟨hm_cw111, List.forall_mem_cons.mpr ⟨hm_cw112, List.forall_mem_cons.mpr ⟨hm_cw113, List.forall_mem_cons.mpr ⟨hm_cw114, List.forall_mem_cons.mpr ⟨hm_cw115, List.forall_mem_cons.mpr ⟨hm_cw116, List.forall_mem_cons.mpr ⟨hm_cw117, List.forall_mem_cons.mpr ⟨hm_cw118, List.forall_mem_cons.mpr ⟨hm_cw119, fun _ h => absurd h List.not_mem_nil⟩⟩⟩⟩⟩⟩⟩⟩⟩⟩⟩⟩⟩⟩⟩⟩⟩⟩⟩⟩⟩⟩⟩⟩⟩⟩⟩⟩⟩⟩
set_option maxRecDepth 20000 in
theorem hm_cwl4 : ∀ q ∈ hm_mt4, Cond.code q.1 q.2.1 q.2.2.1 q.2.2.2.1 ∈ tables_1 := List.forall_mem_cons.mpr ⟨hm_cw120, List.forall_mem_cons.mpr ⟨hm_cw121, List.forall_mem_cons.mpr ⟨hm_cw122, List.forall_mem_cons.mpr ⟨hm_cw123, List.forall_mem_cons.mpr ⟨hm_cw124, List.forall_mem_cons.mpr ⟨hm_cw125, List.forall_mem_cons.mpr ⟨hm_cw126, List.forall_mem_cons.mpr ⟨hm_cw127, List.forall_mem_cons.mpr ⟨hm_cw128, List.forall_mem_cons.mpr ⟨hm_cw129, List.forall_mem_cons.mpr ⟨hm_cw130, List.forall_mem_cons.mpr ⟨hm_cw131, List.forall_mem_cons.mpr ⟨hm_cw132, List.forall_mem_cons.mpr ⟨hm_cw133, List.forall_mem_cons.mpr ⟨hm_cw134, List.forall_mem_cons.mpr ⟨hm_cw135, List.forall_mem_cons.mpr ⟨hm_cw136, List.forall_mem_cons.mpr ⟨hm_cw137, List.forall_mem_cons.mpr ⟨hm_cw138, List.forall_mem_cons.mpr ⟨hm_cw139, List.forall_mem_cons.mpr ⟨hm_cw140, List.forall_mem_cons.mpr ⟨hm_cw141, List.forall_mem_cons.mpr ⟨hm_cw142, List.forall_mem_cons.mpr ⟨hm_cw143, List.forall_mem_cons.mpr ⟨hm_cw144, List.forall_mem_cons.mpr ⟨hm_cw145, List.forall_mem_cons.mpr ⟨hm_cw146, List.forall_mem_cons.mpr ⟨hm_cw147, List.forall_mem_cons.mpr ⟨hm_cw148, List.forall_mem_cons.mpr ⟨hm_cw149, fun _ h => absurd h List.not_mem_nil⟩⟩⟩⟩⟩⟩⟩⟩⟩⟩⟩⟩⟩⟩⟩⟩⟩⟩⟩⟩⟩⟩⟩⟩⟩⟩⟩⟩⟩⟩
set_option maxRecDepth 20000 in
theorem hm_cwl5 : ∀ q ∈ hm_mt5, Cond.code q.1 q.2.1 q.2.2.1 q.2.2.2.1 ∈ tables_1 := List.forall_mem_cons.mpr ⟨hm_cw150, List.forall_mem_cons.mpr ⟨hm_cw151, List.forall_mem_cons.mpr ⟨hm_cw152, List.forall_mem_cons.mpr ⟨hm_cw153, List.forall_mem_cons.mpr ⟨hm_cw154, List.forall_mem_cons.mpr ⟨hm_cw155, List.forall_mem_cons.mpr ⟨hm_cw156, List.forall_mem_cons.mpr ⟨hm_cw157, List.forall_mem_cons.mpr ⟨hm_cw158, List.forall_mem_cons.mpr ⟨hm_cw159, List.forall_mem_cons.mpr ⟨hm_cw160, List.forall_mem_cons.mpr ⟨hm_cw161, List.forall_mem_cons.mpr ⟨hm_cw162, List.forall_mem_cons.mpr ⟨hm_cw163, List.forall_mem_cons.mpr ⟨hm_cw164, List.forall_mem_cons.mpr ⟨hm_cw165, List.forall_mem_cons.mpr ⟨hm_cw166, List.forall_mem_cons.mpr ⟨hm_cw167, List.forall_mem_cons.mpr ⟨hm_cw168, List.forall_mem_cons.mpr ⟨hm_cw169, List.forall_mem_cons.mpr ⟨hm_cw170, List.forall_mem_cons.mpr ⟨hm_cw171, List.forall_mem_cons.mpr ⟨hm_cw172, List.forall_mem_cons.mpr ⟨hm_cw173, fun _ h => absurd h List.not_mem_nil⟩⟩⟩⟩⟩⟩⟩⟩⟩⟩⟩⟩⟩⟩⟩⟩⟩⟩⟩⟩⟩⟩⟩⟩
end
section
set_option maxRecDepth 100000 in
theorem hm_mok0 : (((hm_mtab.zip hm_mw).drop 0).take 30).all (fun q => hm_mchk q.1 q.2 || decide (q.1.1.cls = "java/lang/Object")) = true := by decide +kernel
set_option maxRecDepth 100000 in
theorem hm_mok1 : (((hm_mtab.zip hm_mw).drop 30).take 30).all (fun q => hm_mchk q.1 q.2 || decide (q.1.1.cls = "java/lang/Object")) = true := by decide +kernel
set_option maxRecDepth 100000 in
theorem hm_mok2 : (((hm_mtab.zip hm_mw).drop 60).take 30).all (fun q => hm_mchk q.1 q.2 || decide (q.1.1.cls = "java/lang/Object")) = true := by decide +kernel
set_option maxRecDepth 100000 in
theorem hm_mok3 : (((hm_mtab.zip hm_mw).drop 90).take 30).all (fun q => hm_mchk q.1 q.2 || decide (q.1.1.cls = "java/lang/Object")) = true := by decide +kernel
set_option maxRecDepth 100000 in
theorem hm_mok4 : (((hm_mtab.zip hm_mw).drop 120).take 30).all (fun q => hm_mchk q.1 q.2 || decide (q.1.1.cls = "java/lang/Object")) = true := by decide +kernel
set_option maxRecDepth 100000 in
theorem hm_mok5 : (((hm_mtab.zip hm_mw).drop 150).take 24).all (fun q => hm_mchk q.1 q.2 || decide (q.1.1.cls = "java/lang/Object")) = true := by decide +kernel
end
section
def hm_cchk (q : (Nat × Nat) × (Nat × Nat × Nat)) : Bool := match hm_own[q.1.1]?, hm_mtab[q.2.1]? with
  | some own, some (y, _, _, _, _, _, _) => (match q.2.2.1 with
    | 0 => hm_at q.2.2.2 (.methodLink own q.1.2 y)
    | _ => hm_at q.2.2.2 (.methodLinkNest own q.1.2 y "HourPromised"))
  | _, _ => false
set_option maxRecDepth 100000 in
theorem hm_cok : hm_ctab.all hm_cchk = true := by decide +kernel
def hm_nname : Nat → String
  | 20 => "[[I"
  | 21 => "[[J"
  | 22 => "java/lang/Object"
  | 23 => "[Ljava/lang/Object;"
  | c => match hm_cls[c]? with
    | some q => q.1
    | none => ""
def hm_nchk (q : (Nat × Nat) × (Nat × Nat)) : Bool := match hm_own[q.1.1]? with
  | some own => hm_at q.2.2 (.classLink own q.1.2 (hm_nname q.2.1)) && decide (q.2.1 < 10 ∨ (20 ≤ q.2.1 ∧ q.2.1 < 24))
  | none => false
theorem hm_nok : hm_ntab.all hm_nchk = true := by decide +kernel
def hm_ichk (q : (Nat × Nat) × (Int32 × Nat)) : Bool := match hm_own[q.1.1]? with
  | some own => hm_at q.2.2 (.constant own q.1.2 q.2.1)
  | none => false
theorem hm_iok : hm_itab.all hm_ichk = true := by decide +kernel
def hm_lchk (q : (Nat × Nat) × (Int64 × Nat)) : Bool := match hm_own[q.1.1]? with
  | some own => hm_at q.2.2 (.constantLong own q.1.2 q.2.1)
  | none => false
theorem hm_lok : hm_ltab.all hm_lchk = true := by decide +kernel
/-- the fields' words of a class of objects; its instances; distinct names; types -/
def hm_kchk (q : vw_C) : Bool := (u_ws q.1 q.2.1 q.2.2).all hm_in && hm_in (.instantiable q.1 q.2.2) && hm_in (.initialized q.1)
theorem hm_kok : hm_cls.all hm_kchk = true := by decide +kernel

theorem hm_n0 : ∀ a, a < 7 → ∀ b, b < 7 → a ≠ b → (hm_F0 a).2.1 ≠ (hm_F0 b).2.1 := by decide +kernel
theorem hm_ty0 : ∀ k, k < 7 → parseFieldDescriptor (hm_F0 k).2.2.1 = some (hm_t0 k) := by decide +kernel
theorem hm_n1 : ∀ a, a < 8 → ∀ b, b < 8 → a ≠ b → (hm_F1 a).2.1 ≠ (hm_F1 b).2.1 := by decide +kernel
theorem hm_ty1 : ∀ k, k < 8 → parseFieldDescriptor (hm_F1 k).2.2.1 = some (hm_t1 k) := by decide +kernel
theorem hm_n2 : ∀ a, a < 1 → ∀ b, b < 1 → a ≠ b → (hm_F2 a).2.1 ≠ (hm_F2 b).2.1 := by decide +kernel
theorem hm_ty2 : ∀ k, k < 1 → parseFieldDescriptor (hm_F2 k).2.2.1 = some (hm_t2 k) := by decide +kernel
theorem hm_n3 : ∀ a, a < 7 → ∀ b, b < 7 → a ≠ b → (hm_F3 a).2.1 ≠ (hm_F3 b).2.1 := by decide +kernel
theorem hm_ty3 : ∀ k, k < 7 → parseFieldDescriptor (hm_F3 k).2.2.1 = some (hm_t3 k) := by decide +kernel
theorem hm_n4 : ∀ a, a < 1 → ∀ b, b < 1 → a ≠ b → (hm_F4 a).2.1 ≠ (hm_F4 b).2.1 := by decide +kernel
theorem hm_ty4 : ∀ k, k < 1 → parseFieldDescriptor (hm_F4 k).2.2.1 = some (hm_t4 k) := by decide +kernel
theorem hm_n5 : ∀ a, a < 5 → ∀ b, b < 5 → a ≠ b → (hm_F5 a).2.1 ≠ (hm_F5 b).2.1 := by decide +kernel
theorem hm_ty5 : ∀ k, k < 5 → parseFieldDescriptor (hm_F5 k).2.2.1 = some (hm_t5 k) := by decide +kernel
theorem hm_n6 : ∀ a, a < 2 → ∀ b, b < 2 → a ≠ b → (hm_F6 a).2.1 ≠ (hm_F6 b).2.1 := by decide +kernel
theorem hm_ty6 : ∀ k, k < 2 → parseFieldDescriptor (hm_F6 k).2.2.1 = some (hm_t6 k) := by decide +kernel
theorem hm_n7 : ∀ a, a < 14 → ∀ b, b < 14 → a ≠ b → (hm_F7 a).2.1 ≠ (hm_F7 b).2.1 := by decide +kernel
theorem hm_ty7 : ∀ k, k < 14 → parseFieldDescriptor (hm_F7 k).2.2.1 = some (hm_t7 k) := by decide +kernel
theorem hm_n8 : ∀ a, a < 31 → ∀ b, b < 31 → a ≠ b → (hm_F8 a).2.1 ≠ (hm_F8 b).2.1 := by decide +kernel
theorem hm_ty8 : ∀ k, k < 31 → parseFieldDescriptor (hm_F8 k).2.2.1 = some (hm_t8 k) := by decide +kernel
theorem hm_n9 : ∀ a, a < 3 → ∀ b, b < 3 → a ≠ b → (hm_F9 a).2.1 ≠ (hm_F9 b).2.1 := by decide +kernel
theorem hm_ty9 : ∀ k, k < 3 → parseFieldDescriptor (hm_F9 k).2.2.1 = some (hm_t9 k) := by decide +kernel
end
section
/-! THE ABSTRACT MACHINE: the methods' own code over a heap of numbered cells. Cells 0 to 3 were there before (the script, two static tables, the empty list's array); the k-th new one is k + 4. In an array's cell the first number says its class: 0 int[], 1 long[], 2 boolean[], 3 int[][], 4 long[][], 5 Law[], 6 Object[]; 100 an int[] and 101 an empty Object[] that are only read. -/
abbrev hm_H : Type := (Nat → Option va_E) × Nat × Nat
abbrev hm_S : Type := Nat × List Value × List Value × hm_H
abbrev hm_Q : Type := MethodName × ByteArray × Nat × Option FieldType × Nat × Nat × Nat
def hm_up (h : Nat → Option va_E) (i : Nat) (e : va_E) : Nat → Option va_E := fun j => if j = i then some e else h j
def hm_set (hp : hm_H) (i : Nat) (e : va_E) : hm_H := (hm_up hp.1 i e, hp.2.1, hp.2.2)
def hm_push (hp : hm_H) (e : va_E) (n : Nat) : hm_H := (hm_up hp.1 (hp.2.1 + 4) e, hp.2.1 + 1, hp.2.2 + n)
/-- how many bytes an instruction has (0: any) -/
def hm_ln (i : Instr) : Nat := match i with
  | .bipush _ | .ldc _ | .iload _ | .lload _ | .aload _ | .istore _ | .lstore _ | .astore _ | .newarray _ => 2
  | .sipush _ | .iinc _ _ | .ifCond _ _ | .if_icmp _ _ | .if_acmp _ _ | .ifnull _ | .ifnonnull _ | .goto _ | .getfield _ | .putfield _ | .getstatic _ => 3
  | .invokevirtual _ | .invokespecial _ | .invokestatic _ | .new _ | .anewarray _ | .checkcast _ | .ldc_w _ | .ldc2_w _ => 3
  | .multianewarray _ _ => 4
  | .tableswitch _ _ _ _ | .lookupswitch _ _ => 0
  | _ => 1
def hm_code (M pc : Nat) : Option Instr := match hm_mtab[M]? with
  | none => none
  | some q => match decode q.2.1 pc with
    | .ok (i, n) => if hm_ln i = n ∨ hm_ln i = 0 then some i else none
    | .error _ => none
/-- constants, and the stack alone -/
def hm_s1 (i : Instr) (pc : Nat) (ls st : List Value) (hp : hm_H) : Option hm_S := match i, st with
  | .iconst n, _ => some (pc + 1, ls, .int (Int32.ofInt n) :: st, hp)
  | .bipush n, _ => some (pc + 2, ls, .int (Int8.ofInt n).toInt32 :: st, hp)
  | .sipush n, _ => some (pc + 3, ls, .int (Int16.ofInt n).toInt32 :: st, hp)
  | .lconst n, _ => some (pc + 1, ls, .long (Int64.ofNat (n : Nat)) :: st, hp)
  | .aconst_null, _ => some (pc + 1, ls, .null :: st, hp)
  | .dup, a :: r => if a.category = 1 then some (pc + 1, ls, a :: a :: r, hp) else none
  | .pop, a :: r => if a.category = 1 then some (pc + 1, ls, r, hp) else none
  | .dup_x1, a :: b :: r => if a.category = 1 ∧ b.category = 1 then some (pc + 1, ls, a :: b :: a :: r, hp) else none
  | .dup2, a :: b :: r => if a.category = 1 ∧ b.category = 1 then some (pc + 1, ls, a :: b :: a :: b :: r, hp) else none
  | _, _ => none
/-- arithmetic -/
def hm_s2 (i : Instr) (pc : Nat) (ls st : List Value) (hp : hm_H) : Option hm_S := match i, st with
  | .iadd, .int y :: .int x :: r => some (pc + 1, ls, .int (x + y) :: r, hp)
  | .isub, .int y :: .int x :: r => some (pc + 1, ls, .int (x - y) :: r, hp)
  | .imul, .int y :: .int x :: r => some (pc + 1, ls, .int (x * y) :: r, hp)
  | .iand, .int y :: .int x :: r => some (pc + 1, ls, .int (x &&& y) :: r, hp)
  | .ior, .int y :: .int x :: r => some (pc + 1, ls, .int (x ||| y) :: r, hp)
  | .ixor, .int y :: .int x :: r => some (pc + 1, ls, .int (x ^^^ y) :: r, hp)
  | .idiv, .int y :: .int x :: r => if y = 0 then none else some (pc + 1, ls, .int (x / y) :: r, hp)
  | .irem, .int y :: .int x :: r => if y = 0 then none else some (pc + 1, ls, .int (x - x / y * y) :: r, hp)
  | .ineg, .int x :: r => some (pc + 1, ls, .int (-x) :: r, hp)
  | .ishl, .int y :: .int x :: r => some (pc + 1, ls, .int (x <<< (y &&& 31)) :: r, hp)
  | .ishr, .int y :: .int x :: r => some (pc + 1, ls, .int (x >>> (y &&& 31)) :: r, hp)
  | .iushr, .int y :: .int x :: r => some (pc + 1, ls, .int (x.toUInt32 >>> (y.toUInt32 &&& Int32.toUInt32 31)).toInt32 :: r, hp)
  | .i2l, .int x :: r => some (pc + 1, ls, .long x.toInt64 :: r, hp)
  | .l2i, .long x :: r => some (pc + 1, ls, .int x.toInt32 :: r, hp)
  | .ladd, .long y :: .long x :: r => some (pc + 1, ls, .long (x + y) :: r, hp)
  | .lmul, .long y :: .long x :: r => some (pc + 1, ls, .long (x * y) :: r, hp)
  | .ldiv, .long y :: .long x :: r => if y = 0 then none else some (pc + 1, ls, .long (x / y) :: r, hp)
  | .land, .long y :: .long x :: r => some (pc + 1, ls, .long (x &&& y) :: r, hp)
  | .lor, .long y :: .long x :: r => some (pc + 1, ls, .long (x ||| y) :: r, hp)
  | .lshl, .int y :: .long x :: r => some (pc + 1, ls, .long (x <<< (y.toInt64 &&& 63)) :: r, hp)
  | .lshr, .int y :: .long x :: r => some (pc + 1, ls, .long (x >>> (y.toInt64 &&& 63)) :: r, hp)
  | .lushr, .int y :: .long x :: r => some (pc + 1, ls, .long (x.toUInt64 >>> (y.toInt64.toUInt64 &&& Int64.toUInt64 63)).toInt64 :: r, hp)
  | .lcmp, .long y :: .long x :: r => some (pc + 1, ls, .int (lg_cmp x y) :: r, hp)
  | _, _ => none
/-- the place ahead holds a long -/
def hm_wide (ls : List Value) (i : Nat) : Bool := match i with
  | 0 => false
  | j + 1 => match ls[j]? with
    | some w => w.category == 2
    | none => false
def hm_st1 (ls : List Value) (i : Nat) (v : Value) : Option (List Value) := if i < ls.length ∧ hm_wide ls i = false then some (ls.set i v) else none
def hm_st2 (ls : List Value) (i : Nat) (v : Value) : Option (List Value) := if i + 1 < ls.length ∧ hm_wide ls i = false then some ((ls.set i v).set (i + 1) (.retAddr 0)) else none
def hm_ldi (ls : List Value) (k n pc : Nat) (st : List Value) (hp : hm_H) : Option hm_S := match ls[k]? with
  | some (.int x) => some (pc + n, ls, .int x :: st, hp)
  | _ => none
def hm_ldl (ls : List Value) (k n pc : Nat) (st : List Value) (hp : hm_H) : Option hm_S := match ls[k]? with
  | some (.long x) => some (pc + n, ls, .long x :: st, hp)
  | _ => none
def hm_lda (ls : List Value) (k n pc : Nat) (st : List Value) (hp : hm_H) : Option hm_S := match ls[k]? with
  | some (.ref x) => some (pc + n, ls, .ref x :: st, hp)
  | some .null => some (pc + n, ls, .null :: st, hp)
  | _ => none
/-- the locals -/
def hm_s3 (i : Instr) (pc : Nat) (ls st : List Value) (hp : hm_H) : Option hm_S := match i, st with
  | .iload k, _ => hm_ldi ls k 2 pc st hp
  | .iload_n k, _ => hm_ldi ls k 1 pc st hp
  | .lload k, _ => hm_ldl ls k 2 pc st hp
  | .lload_n k, _ => hm_ldl ls k 1 pc st hp
  | .aload k, _ => hm_lda ls k 2 pc st hp
  | .aload_n k, _ => hm_lda ls k 1 pc st hp
  | .istore k, .int x :: r => (hm_st1 ls k (.int x)).map fun l2 => (pc + 2, l2, r, hp)
  | .istore_n k, .int x :: r => (hm_st1 ls k (.int x)).map fun l2 => (pc + 1, l2, r, hp)
  | .astore k, .ref x :: r => (hm_st1 ls k (.ref x)).map fun l2 => (pc + 2, l2, r, hp)
  | .astore_n k, .ref x :: r => (hm_st1 ls k (.ref x)).map fun l2 => (pc + 1, l2, r, hp)
  | .astore k, .null :: r => (hm_st1 ls k .null).map fun l2 => (pc + 2, l2, r, hp)
  | .astore_n k, .null :: r => (hm_st1 ls k .null).map fun l2 => (pc + 1, l2, r, hp)
  | .lstore k, .long x :: r => (hm_st2 ls k (.long x)).map fun l2 => (pc + 2, l2, r, hp)
  | .lstore_n k, .long x :: r => (hm_st2 ls k (.long x)).map fun l2 => (pc + 1, l2, r, hp)
  | .iinc k n, _ => match ls[k]? with
    | some (.int x) => (hm_st1 ls k (.int (x + Int32.ofInt n))).map fun l2 => (pc + 3, l2, st, hp)
    | _ => none
  | _, _ => none
def hm_jmp (pc : Nat) (off : Int) : Option Nat := if 0 ≤ (pc : Int) + off then some ((pc : Int) + off).toNat else none
def hm_to (pc : Nat) (off : Int) (ls r : List Value) (hp : hm_H) : Option hm_S := (hm_jmp pc off).map fun t => (t, ls, r, hp)
/-- roads -/
def hm_s4 (i : Instr) (pc : Nat) (ls st : List Value) (hp : hm_H) : Option hm_S := match i, st with
  | .goto off, _ => hm_to pc off ls st hp
  | .ifCond .eq off, .int x :: r => (hm_jmp pc off).map fun t => if x = 0 then (t, ls, r, hp) else (pc + 3, ls, r, hp)
  | .ifCond .ne off, .int x :: r => (hm_jmp pc off).map fun t => if ¬ x = 0 then (t, ls, r, hp) else (pc + 3, ls, r, hp)
  | .ifCond .lt off, .int x :: r => (hm_jmp pc off).map fun t => if x < 0 then (t, ls, r, hp) else (pc + 3, ls, r, hp)
  | .ifCond .ge off, .int x :: r => (hm_jmp pc off).map fun t => if 0 ≤ x then (t, ls, r, hp) else (pc + 3, ls, r, hp)
  | .ifCond .gt off, .int x :: r => (hm_jmp pc off).map fun t => if 0 < x then (t, ls, r, hp) else (pc + 3, ls, r, hp)
  | .ifCond .le off, .int x :: r => (hm_jmp pc off).map fun t => if x ≤ 0 then (t, ls, r, hp) else (pc + 3, ls, r, hp)
  | .if_icmp .eq off, .int y :: .int x :: r => (hm_jmp pc off).map fun t => if x = y then (t, ls, r, hp) else (pc + 3, ls, r, hp)
  | .if_icmp .ne off, .int y :: .int x :: r => (hm_jmp pc off).map fun t => if ¬ x = y then (t, ls, r, hp) else (pc + 3, ls, r, hp)
  | .if_icmp .lt off, .int y :: .int x :: r => (hm_jmp pc off).map fun t => if x < y then (t, ls, r, hp) else (pc + 3, ls, r, hp)
  | .if_icmp .ge off, .int y :: .int x :: r => (hm_jmp pc off).map fun t => if y ≤ x then (t, ls, r, hp) else (pc + 3, ls, r, hp)
  | .if_icmp .gt off, .int y :: .int x :: r => (hm_jmp pc off).map fun t => if y < x then (t, ls, r, hp) else (pc + 3, ls, r, hp)
  | .if_icmp .le off, .int y :: .int x :: r => (hm_jmp pc off).map fun t => if x ≤ y then (t, ls, r, hp) else (pc + 3, ls, r, hp)
  | .ifnull off, .null :: r => hm_to pc off ls r hp
  | .ifnull _, .ref _ :: r => some (pc + 3, ls, r, hp)
  | .ifnonnull off, .ref _ :: r => hm_to pc off ls r hp
  | .ifnonnull _, .null :: r => some (pc + 3, ls, r, hp)
  | .if_acmp .eq off, .ref b :: .ref a :: r => if a = b then hm_to pc off ls r hp else none
  | .if_acmp .ne off, .ref b :: .ref a :: r => if a = b then (hm_jmp pc off).map fun _ => (pc + 3, ls, r, hp) else none
  | .tableswitch d lo hi offs, .int x :: r => if x.toInt < lo ∨ hi < x.toInt then hm_to pc d ls r hp else match offs[(x.toInt - lo).toNat]? with
    | some off => hm_to pc off ls r hp
    | none => none
  | .lookupswitch d ps, .int x :: r => if (ps.toList.zip (ps.toList.drop 1)).all (fun (a, next) => a.1 < next.1) = true then hm_to pc (Op.lookupswitch.offset ps.toList d x.toInt) ls r hp else none
  | _, _ => none
/-- what is read of the heap and of the tables -/
def hm_s5 (cid : Nat) (i : Instr) (pc : Nat) (ls st : List Value) (hp : hm_H) : Option hm_S := match i, st with
  | .getfield ix, .ref a :: r => match hm_ftab.lookup (cid, ix), hp.1 a with
    | some (ci, k, _, _), some (.inr (cj, fs)) => if ci = cj then (fs[k]?).map fun v => (pc + 3, ls, v :: r, hp) else none
    | _, _ => none
  | .iaload, .int j :: .ref a :: r => match hp.1 a with
    | some (.inl (t, n, .inl f)) => if (t = 0 ∨ t = 100) ∧ ¬ (j < 0 ∨ n ≤ j.toNatClampNeg) then some (pc + 1, ls, .int (f j.toNatClampNeg) :: r, hp) else none
    | _ => none
  | .baload, .int j :: .ref a :: r => match hp.1 a with
    | some (.inl (t, n, .inl f)) => if t = 2 ∧ ¬ (j < 0 ∨ n ≤ j.toNatClampNeg) then some (pc + 1, ls, .int (f j.toNatClampNeg) :: r, hp) else none
    | _ => none
  | .laload, .int j :: .ref a :: r => match hp.1 a with
    | some (.inl (t, n, .inr (.inl f))) => if t = 1 ∧ ¬ (j < 0 ∨ n ≤ j.toNatClampNeg) then some (pc + 1, ls, .long (f j.toNatClampNeg) :: r, hp) else none
    | _ => none
  | .aaload, .int j :: .ref a :: r => match hp.1 a with
    | some (.inl (t, n, .inr (.inr (.inr (.inr f))))) => if (t = 3 ∨ t = 4 ∨ t = 5 ∨ t = 6) ∧ ¬ (j < 0 ∨ n ≤ j.toNatClampNeg) then some (pc + 1, ls, va_rf (f j.toNatClampNeg) :: r, hp) else none
    | _ => none
  | .arraylength, .ref a :: r => match hp.1 a with
    | some (.inl (_, n, _)) => some (pc + 1, ls, .int (Int32.ofNat n) :: r, hp)
    | _ => none
  | .getstatic ix, _ => (hm_stab.lookup (cid, ix)).map fun q => (pc + 3, ls, .ref q.1 :: st, hp)
  | .checkcast _, .null :: r => some (pc + 3, ls, .null :: r, hp)
  | .checkcast ix, .ref a :: r => match hm_ntab.lookup (cid, ix), hp.1 a with
    | some (ci, _), some (.inr (cj, _)) => if ci = cj then some (pc + 3, ls, .ref a :: r, hp) else none
    | _, _ => none
  | .ldc ix, _ => (hm_itab.lookup (cid, ix)).map fun q => (pc + 2, ls, .int q.1 :: st, hp)
  | .ldc_w ix, _ => (hm_itab.lookup (cid, ix)).map fun q => (pc + 3, ls, .int q.1 :: st, hp)
  | .ldc2_w ix, _ => (hm_ltab.lookup (cid, ix)).map fun q => (pc + 3, ls, .long q.1 :: st, hp)
  | _, _ => none
/-- a value that a field or an answer of a type takes as it is -/
def hm_fv (ty : FieldType) (v : Value) : Bool := match ty, v with
  | .int, .int _ => true
  | .boolean, .int x => decide (x = 0 ∨ x = 1)
  | .long, .long _ => true
  | .object _, .ref _ => true
  | .object _, .null => true
  | .array _, .ref _ => true
  | .array _, .null => true
  | _, _ => false
def hm_fin (q : hm_Q) (ci k : Nat) : Bool := match hm_cls[ci]? with
  | some r => !(r.2.1 k).2.2.2 || (decide (q.1.name = "<init>") && decide ((r.2.1 k).1 = q.1.cls))
  | none => false
/-- what is written to the heap -/
def hm_s6 (q : hm_Q) (i : Instr) (pc : Nat) (ls st : List Value) (hp : hm_H) : Option hm_S := match i, st with
  | .putfield ix, v :: .ref a :: r => match hm_ftab.lookup (q.2.2.2.2.1, ix), hp.1 a with
    | some (ci, k, _, _), some (.inr (cj, fs)) => if (ci = cj ∧ k < fs.length) ∧ hm_fv (hm_fty ci k) v = true ∧ hm_fin q ci k = true then some (pc + 3, ls, r, hm_set hp a (.inr (cj, fs.set k v))) else none
    | _, _ => none
  | .iastore, .int x :: .int j :: .ref a :: r => match hp.1 a with
    | some (.inl (t, n, .inl f)) => if t = 0 ∧ ¬ (j < 0 ∨ n ≤ j.toNatClampNeg) then some (pc + 1, ls, r, hm_set hp a (.inl (t, n, .inl (upd f j.toNatClampNeg x)))) else none
    | _ => none
  | .bastore, .int x :: .int j :: .ref a :: r => match hp.1 a with
    | some (.inl (t, n, .inl f)) => if (t = 2 ∧ (x = 0 ∨ x = 1)) ∧ ¬ (j < 0 ∨ n ≤ j.toNatClampNeg) then some (pc + 1, ls, r, hm_set hp a (.inl (t, n, .inl (upd f j.toNatClampNeg x)))) else none
    | _ => none
  | .lastore, .long x :: .int j :: .ref a :: r => match hp.1 a with
    | some (.inl (t, n, .inr (.inl f))) => if t = 1 ∧ ¬ (j < 0 ∨ n ≤ j.toNatClampNeg) then some (pc + 1, ls, r, hm_set hp a (.inl (t, n, .inr (.inl (vp_updL f j.toNatClampNeg x))))) else none
    | _ => none
  | .aastore, .ref b :: .int j :: .ref a :: r => match hp.1 a, hp.1 b with
    | some (.inl (t, n, .inr (.inr (.inr (.inr f))))), some (.inr (cj, _)) => if ((t = 5 ∧ cj = 2) ∨ (t = 6 ∧ cj < 10)) ∧ ¬ (j < 0 ∨ n ≤ j.toNatClampNeg) then some (pc + 1, ls, r, hm_set hp a (.inl (t, n, .inr (.inr (.inr (.inr (va_up f j.toNatClampNeg (some b)))))))) else none
    | _, _ => none
  | _, _ => none
def hm_df (ci : Nat) : List Value := match hm_cls[ci]? with
  | some r => (List.range r.2.2).map fun k => defaultValue (hm_fty ci k)
  | none => []
/-- the heap with n rows of k places and the array that holds them -/
def hm_grid (hp : hm_H) (t n k : Nat) (z : vp_A) : hm_H := (fun j => if j = hp.2.1 + 4 then some (.inl (t + 3, n, .inr (.inr (.inr (.inr (fun i => if i < n then some (hp.2.1 + 5 + i) else none)))))) else if hp.2.1 + 4 < j ∧ j < hp.2.1 + 5 + n then some (.inl (t, z)) else hp.1 j, hp.2.1 + 1 + n, hp.2.2 + n + n * k)
/-- new cells -/
def hm_s7 (cid : Nat) (i : Instr) (pc : Nat) (ls st : List Value) (hp : hm_H) : Option hm_S := match i, st with
  | .new ix, _ => match hm_ntab.lookup (cid, ix) with
    | some (ci, _) => if ci < 10 then some (pc + 3, ls, .ref (hp.2.1 + 4) :: st, hm_push hp (.inr (ci, hm_df ci)) (hm_df ci).length) else none
    | none => none
  | .newarray .int, .int n :: r => if ¬ n < 0 ∧ n.toNatClampNeg ≤ 100000 then some (pc + 2, ls, .ref (hp.2.1 + 4) :: r, hm_push hp (.inl (0, n.toNatClampNeg, .inl (fun _ => 0))) n.toNatClampNeg) else none
  | .newarray .long, .int n :: r => if ¬ n < 0 ∧ n.toNatClampNeg ≤ 100000 then some (pc + 2, ls, .ref (hp.2.1 + 4) :: r, hm_push hp (.inl (1, n.toNatClampNeg, .inr (.inl (fun _ => 0)))) n.toNatClampNeg) else none
  | .newarray .boolean, .int n :: r => if ¬ n < 0 ∧ n.toNatClampNeg ≤ 100000 then some (pc + 2, ls, .ref (hp.2.1 + 4) :: r, hm_push hp (.inl (2, n.toNatClampNeg, .inl (fun _ => 0))) n.toNatClampNeg) else none
  | .anewarray ix, .int n :: r => match hm_ntab.lookup (cid, ix) with
    | some (ci, _) => if (ci = 2 ∨ ci = 22) ∧ ¬ n < 0 ∧ n.toNatClampNeg ≤ 100000 then some (pc + 3, ls, .ref (hp.2.1 + 4) :: r, hm_push hp (.inl (if ci = 2 then 5 else 6, n.toNatClampNeg, .inr (.inr (.inr (.inr (fun _ => none)))))) n.toNatClampNeg) else none
    | none => none
  | .multianewarray ix dm, .int k :: .int n :: r => match hm_ntab.lookup (cid, ix) with
    | some (ci, _) => if dm = 2 ∧ (¬ n < 0 ∧ n.toNatClampNeg ≤ 100000) ∧ (¬ k < 0 ∧ k.toNatClampNeg ≤ 100000) then
        (if ci = 20 then some (pc + 4, ls, .ref (hp.2.1 + 4) :: r, hm_grid hp 0 n.toNatClampNeg k.toNatClampNeg (k.toNatClampNeg, .inl (fun _ => 0)))
        else if ci = 21 then some (pc + 4, ls, .ref (hp.2.1 + 4) :: r, hm_grid hp 1 n.toNatClampNeg k.toNatClampNeg (k.toNatClampNeg, .inr (.inl (fun _ => 0)))) else none) else none
    | none => none
  | _, _ => none
/-- Object() -/
def hm_s8 (cid : Nat) (i : Instr) (pc : Nat) (ls st : List Value) (hp : hm_H) : Option hm_S := match i, st with
  | .invokespecial ix, .ref _ :: r => match hm_ctab.lookup (cid, ix) with
    | some (c, nst, _) => if (c = 1 ∧ nst = 0) ∧ r.length ≤ 4 then some (pc + 3, ls, r, hp) else none
    | none => none
  | _, _ => none
def hm_step (q : hm_Q) (i : Instr) (pc : Nat) (ls st : List Value) (hp : hm_H) : Option hm_S :=
  (hm_s1 i pc ls st hp).or ((hm_s2 i pc ls st hp).or ((hm_s3 i pc ls st hp).or ((hm_s4 i pc ls st hp).or ((hm_s5 q.2.2.2.2.1 i pc ls st hp).or ((hm_s6 q i pc ls st hp).or ((hm_s7 q.2.2.2.2.1 i pc ls st hp).or (hm_s8 q.2.2.2.2.1 i pc ls st hp)))))))
/-- the end of a method -/
def hm_ret (i : Instr) (ret : Option FieldType) (st : List Value) : Option (Option Value) := match i, ret, st with
  | .return_, none, [] => some none
  | .ireturn, some .int, [.int x] => some (some (.int x))
  | .ireturn, some .boolean, [.int x] => if x = 0 ∨ x = 1 then some (some (.int x)) else none
  | .lreturn, some .long, [.long x] => some (some (.long x))
  | .areturn, some (.object _), [.ref a] => some (some (.ref a))
  | .areturn, some (.object _), [.null] => some (some .null)
  | .areturn, some (.array _), [.ref a] => some (some (.ref a))
  | .areturn, some (.array _), [.null] => some (some .null)
  | _, _, _ => none
/-- which method, called how -/
def hm_tgt (cid : Nat) (i : Instr) : Option (Nat × Nat) := match i with
  | .invokestatic ix => (hm_ctab.lookup (cid, ix)).map fun q => (q.1, 0)
  | .invokevirtual ix => (hm_ctab.lookup (cid, ix)).map fun q => (q.1, 1)
  | .invokespecial ix => (hm_ctab.lookup (cid, ix)).map fun q => (q.1, 2)
  | _ => none
/-- the receiver is there -/
def hm_rcv (kd cid : Nat) (as : List Value) (hp : hm_H) : Bool := match kd, as with
  | 0, _ => true
  | 1, .ref a :: _ => match hp.1 a with
    | some (.inr (cj, _)) => decide (cj = cid)
    | _ => false
  | 2, .ref _ :: _ => true
  | _, _ => false
/-- a call: the method, its arguments, what stays on the stack -/
def hm_cal (q : hm_Q) (i : Instr) (st : List Value) (hp : hm_H) : Option (Nat × List Value × List Value) := match hm_tgt q.2.2.2.2.1 i with
  | none => none
  | some (c, kd) => match hm_mtab[c]? with
    | none => none
    | some r => if (c < 174 ∧ c ≠ 1 ∧ c ≠ 72) ∧ (r.2.2.2.2.2.2 = kd ∧ r.2.2.2.2.2.1 ≤ st.length) ∧ (st.drop r.2.2.2.2.2.1).length ≤ 4 ∧ hm_rcv kd r.2.2.2.2.1 (st.take r.2.2.2.2.2.1).reverse hp = true then some (c, (st.take r.2.2.2.2.2.1).reverse, st.drop r.2.2.2.2.2.1) else none
def hm_al : List Value → List Value
  | [] => []
  | v :: vs => if v.category = 2 then v :: .retAddr 0 :: hm_al vs else v :: hm_al vs
/-- the locals with which a method begins -/
def hm_ent (c : Nat) (as : List Value) : Option (List Value) := match hm_mtab[c]? with
  | none => none
  | some r => if (hm_al as).length ≤ r.2.2.1 then some (hm_al as ++ List.replicate (r.2.2.1 - (hm_al as).length) (.retAddr 0)) else none
/-- Arrays.copyOf of an array of references: a new cell -/
def hm_cpy (q : hm_Q) (i : Instr) (st : List Value) (hp : hm_H) : Option (Nat × List Value × hm_H) := match hm_tgt q.2.2.2.2.1 i, st with
  | some (72, 0), .int n :: .ref a :: r => match hp.1 a with
    | some (.inl (6, k, .inr (.inr (.inr (.inr f))))) => if (¬ n < 0 ∧ n.toNatClampNeg ≤ 100000) ∧ k ≤ n.toNatClampNeg ∧ r.length ≤ 4 then some (hp.2.1 + 4, r, hm_push hp (.inl (6, n.toNatClampNeg, .inr (.inr (.inr (.inr (fun j => if j < k then f j else none)))))) n.toNatClampNeg) else none
    | _ => none
  | _, _ => none
def hm_run : Nat → Nat → Nat → Nat → List Value → List Value → hm_H → Option (Option Value × hm_H)
  | 0, _, _, _, _, _, _ => none
  | f + 1, d, M, pc, ls, st, hp => match hm_mtab[M]?, hm_code M pc with
    | some q, some i => match hm_ret i q.2.2.2.1 st with
      | some r => some (r, hp)
      | none => match hm_step q i pc ls st hp with
        | some (pc2, ls2, st2, hp2) => hm_run f d M pc2 ls2 st2 hp2
        | none => match d with
          | 0 => none
          | d2 + 1 => match hm_cal q i st hp with
            | some (c, as, rest) => match hm_ent c as with
              | none => none
              | some l0 => match hm_run f d2 c 0 l0 [] hp with
                | none => none
                | some (r, hp2) => hm_run f (d2 + 1) M (pc + 3) ls (r.toList ++ rest) hp2
            | none => match hm_cpy q i st hp with
              | some (a, rest, hp2) => if 4 ≤ d2 then hm_run f (d2 + 1) M (pc + 3) ls (.ref a :: rest) hp2 else none
              | none => none
    | _, _ => none
end
section
/-! the abstract heap and locals in the machine's own -/
abbrev hm_E : Type := Nat × (Nat → Nat) × va_G × (Nat → ClassId)
def hm_rho (G : hm_E) (i : Nat) : Nat := if i < 4 then G.2.1 i else G.1 + (i - 4)
def hm_v (G : hm_E) (v : Value) : Value := match v with
  | .ref a => .ref (hm_rho G a)
  | v => v
def hm_a (G : hm_E) (x : vp_A) : vp_A := match x with
  | (n, .inr (.inr (.inr (.inr f)))) => (n, .inr (.inr (.inr (.inr (fun j => (f j).map (hm_rho G))))))
  | x => x
def hm_tys (G : hm_E) : List (ClassId × FieldType) := [(G.2.2.2 0, .int), (G.2.2.2 1, .long), (G.2.2.2 2, .boolean), (G.2.2.2 3, .array .int), (G.2.2.2 4, .array .long), (G.2.2.2 5, .object "HourPromised$Law"), (G.2.2.2 6, .object "java/lang/Object")]
def hm_cell (G : hm_E) (U : State) (H : Heap) (i : Nat) (e : va_E) : Prop := match e with
  | .inr (ci, fs) => 4 ≤ i ∧ va_at G.2.2.1 hm_cls (hm_rho G i, .inr (ci, fs.map (hm_v G))) H
  | .inl (t, x) => (t < 7 ∧ 4 ≤ i ∧ H[hm_rho G i]? = some (vp_cell (G.2.2.2 t) (hm_a G x))) ∨
    (t = 100 ∧ i < 4 ∧ ∃ f : Nat → Int32, x.2 = .inl f ∧ va_T .int (hm_rho G i) x.1 (fun j => .int (f j)) (fun q => G.1 ≤ q) U H) ∨
    (t = 101 ∧ i < 4 ∧ x.1 = 0 ∧ va_T (.object "java/lang/Object") (hm_rho G i) 0 (fun _ => .null) (fun q => G.1 ≤ q) U H)
def hm_R (G : hm_E) (U : State) (hp : hm_H) (H : Heap) : Prop :=
  va_K G.2.2.1 hm_cls (hm_tys G) U ∧ H.size = G.1 + hp.2.1 ∧ (∀ (i : Nat) (e : va_E), hp.1 i = some e → hm_cell G U H i e) ∧ ∀ j : Nat, 0 < j → j < 4 → va_Z (hm_sname j).1 (hm_sname j).2.1 (hm_sname j).2.2 (.ref (G.2.1 j)) (fun q => G.1 ≤ q) U H
theorem hm_rho_new {G : hm_E} {i : Nat} (h : 4 ≤ i) : hm_rho G i = G.1 + (i - 4) := if_neg (by omega)
theorem hm_rho_old {G : hm_E} {i : Nat} (h : i < 4) : hm_rho G i = G.2.1 i := if_pos h
theorem hm_v_cat (G : hm_E) (v : Value) : (hm_v G v).category = v.category := by cases v <;> rfl
theorem hm_cell.kept {G : hm_E} {U : State} {H H1 : Heap} {i : Nat} {e : va_E} (h : hm_cell G U H i e) (hq : H1[hm_rho G i]? = H[hm_rho G i]?) : hm_cell G U H1 i e := by
  cases e with
  | inr o => exact ⟨h.1, h.2.kept hq⟩
  | inl a =>
    rcases h with ⟨h1, h2, h3⟩ | ⟨h1, h2, f, h3, h4⟩ | ⟨h1, h2, h3, h4⟩
    · exact Or.inl ⟨h1, h2, hq.trans h3⟩
    · obtain ⟨cell, g1, g2⟩ := h4
      exact Or.inr (Or.inl ⟨h1, h2, f, h3, cell, hq.trans g1, g2⟩)
    · obtain ⟨cell, g1, g2⟩ := h4
      exact Or.inr (Or.inr ⟨h1, h2, h3, cell, hq.trans g1, g2⟩)
theorem hm_cell.lt {G : hm_E} {U : State} {H : Heap} {i : Nat} {e : va_E} (h : hm_cell G U H i e) : hm_rho G i < H.size := by
  cases e with
  | inr o => exact h.2.lt
  | inl a =>
    rcases h with ⟨h1, h2, h3⟩ | ⟨h1, h2, f, h3, cell, h4, -⟩ | ⟨h1, h2, h3, cell, h4, -⟩
    · exact (Array.getElem?_eq_some_iff.mp h3).1
    · exact (Array.getElem?_eq_some_iff.mp h4).1
    · exact (Array.getElem?_eq_some_iff.mp h4).1
theorem hm_cell.side {G : hm_E} {U : State} {H : Heap} {i : Nat} {e : va_E} (h : hm_cell G U H i e) : 4 ≤ i ∨ hm_rho G i < G.1 := by
  cases e with
  | inr o => exact Or.inl h.1
  | inl a =>
    rcases h with ⟨h1, h2, h3⟩ | ⟨h1, h2, f, h3, cell, g⟩ | ⟨h1, h2, h3, cell, g⟩
    · exact Or.inl h2
    · exact Or.inr (Nat.not_le.mp g.2.2.2.2.2.2)
    · exact Or.inr (Nat.not_le.mp g.2.2.2.2.2.2)
theorem hm_cell.ne {G : hm_E} {U : State} {H : Heap} {i j : Nat} {e : va_E} (h : hm_cell G U H i e) (hj : 4 ≤ j) (hij : i ≠ j) : hm_rho G i ≠ hm_rho G j := by
  rw [hm_rho_new hj]
  rcases h.side with h | h
  · rw [hm_rho_new h]
    omega
  · omega
theorem hm_cell.moved {G : hm_E} {u U : State} {H : Heap} {i : Nat} {e : va_E} (hvm : u.vm.Alike U.vm) (h : hm_cell G u H i e) : hm_cell G U H i e := by
  cases e with
  | inr o => exact h
  | inl a =>
    rcases h with h | ⟨h1, h2, f, h3, h4⟩ | ⟨h1, h2, h3, h4⟩
    · exact Or.inl h
    · exact Or.inr (Or.inl ⟨h1, h2, f, h3, va_T.moved hvm h4⟩)
    · exact Or.inr (Or.inr ⟨h1, h2, h3, va_T.moved hvm h4⟩)
theorem hm_R.moved {G : hm_E} {u U : State} {hp : hm_H} {H : Heap} (hvm : u.vm.Alike U.vm) (h : hm_R G u hp H) : hm_R G U hp H :=
  ⟨va_K.moved hvm h.1, h.2.1, fun i e hi => (h.2.2.1 i e hi).moved hvm, fun j h0 h4 => va_Z.moved hvm (h.2.2.2 j h0 h4)⟩
theorem hm_R.set {G : hm_E} {U : State} {hp : hm_H} {H H1 : Heap} {i : Nat} {e : va_E} (h : hm_R G U hp H) (hi : 4 ≤ i) (hz : H1.size = H.size) (ho : ∀ q : Nat, q ≠ hm_rho G i → H1[q]? = H[q]?) (hc : hm_cell G U H1 i e) : hm_R G U (hm_set hp i e) H1 := by
  refine ⟨h.1, hz.trans h.2.1, fun j x hj => ?_, fun j h0 h4 => (h.2.2.2 j h0 h4).kept fun a _ hA => ho a ?_⟩
  · by_cases hji : j = i
    · subst hji
      have : some e = some x := by simpa [hm_set, hm_up] using hj
      cases this
      exact hc
    · have hj2 : hp.1 j = some x := by simpa [hm_set, hm_up, hji] using hj
      exact (h.2.2.1 j x hj2).kept (ho _ ((h.2.2.1 j x hj2).ne hi hji))
  · rw [hm_rho_new hi]
    intro q
    exact hA (by rw [q]; exact Nat.le_add_right _ _)
theorem hm_R.push {G : hm_E} {U : State} {hp : hm_H} {H H1 : Heap} {n : Nat} {e : va_E} (h : hm_R G U hp H) (hz : H1.size = H.size + 1) (ho : ∀ q : Nat, q < H.size → H1[q]? = H[q]?) (hc : hm_cell G U H1 (hp.2.1 + 4) e) : hm_R G U (hm_push hp e n) H1 := by
  refine ⟨h.1, by rw [hz, h.2.1]; rfl, fun j x hj => ?_, fun j h0 h4 => (h.2.2.2 j h0 h4).kept fun a ha _ => ho a ha⟩
  by_cases hji : j = hp.2.1 + 4
  · subst hji
    have : some e = some x := by simpa [hm_push, hm_up] using hj
    cases this
    exact hc
  · have hj2 : hp.1 j = some x := by simpa [hm_push, hm_up, hji] using hj
    exact (h.2.2.1 j x hj2).kept (ho _ (h.2.2.1 j x hj2).lt)
/-! locals -/
def hm_lq (G : hm_E) (i : Nat) (o : Option Value) : Option (Nat × Value) := match o with
  | some (.retAddr _) => none
  | some v => some (i, hm_v G v)
  | none => none
def hm_ll (G : hm_E) (ls : List Value) : List (Nat × Value) := (List.range ls.length).filterMap fun i => hm_lq G i ls[i]?
theorem hm_ll_mem {G : hm_E} {ls : List Value} {q : Nat × Value} (h : q ∈ hm_ll G ls) : ∃ v, ls[q.1]? = some v ∧ q.2 = hm_v G v := by
  obtain ⟨i, -, hi⟩ := List.mem_filterMap.mp h
  cases hl : ls[i]? with
  | none => rw [hl] at hi; cases hi
  | some v =>
    rw [hl] at hi
    cases v <;> first | (cases hi; done) | (cases hi; exact ⟨_, hl, rfl⟩)
theorem hm_ll_in {G : hm_E} {ls : List Value} {i : Nat} {v : Value} (h : ls[i]? = some v) (hv : ∀ n, v ≠ .retAddr n) : (i, hm_v G v) ∈ hm_ll G ls := by
  refine List.mem_filterMap.mpr ⟨i, List.mem_range.mpr (List.getElem?_eq_some_iff.mp h).1, ?_⟩
  rw [h]
  cases v <;> first | rfl | exact absurd rfl (hv _)
def hm_L (G : hm_E) (la : Array Slot) (ls : List Value) : Prop := lv_has la ls.length (hm_ll G ls)
theorem hm_L.get {G : hm_E} {la : Array Slot} {ls : List Value} (h : hm_L G la ls) {i : Nat} {v : Value} (hi : ls[i]? = some v) (hv : ∀ n, v ≠ .retAddr n) : la[i]? = some (.val (hm_v G v)) := h.2.2 (i, hm_v G v) (hm_ll_in hi hv)
theorem hm_narrow {ls : List Value} {i : Nat} (h : hm_wide ls i = false) {j : Nat} {v : Value} (hj : ls[j]? = some v) (hji : j + 1 = i) : ¬ v.category = 2 := by
  subst hji
  intro hc
  simp [hm_wide, hj, hc] at h
theorem hm_L.st1 {G : hm_E} {la : Array Slot} {ls ls2 : List Value} {i : Nat} {v : Value} (hs : hm_st1 ls i v = some ls2) (h : lv_has la ls.length ((i, hm_v G v) :: (hm_ll G ls).filter (fun q => !(q.1 == i) && !(q.1 + 1 == i && q.2.category == 2)))) : hm_L G la ls2 := by
  unfold hm_st1 at hs
  split at hs
  next hc =>
    cases hs
    obtain ⟨hi, hw⟩ := hc
    refine ⟨by rw [List.length_set]; exact h.1, h.2.1, fun q hq => ?_⟩
    obtain ⟨w, hw1, hw2⟩ := hm_ll_mem hq
    by_cases hqi : q.1 = i
    · rw [hqi, List.getElem?_set_self hi] at hw1
      cases hw1
      have := h.2.2 (i, hm_v G v) List.mem_cons_self
      rw [hqi, hw2]
      exact this
    · rw [List.getElem?_set_ne (fun z => hqi z.symm)] at hw1
      have hq2 : q ∈ hm_ll G ls := by
        have hr : ∀ n, w ≠ .retAddr n := by
          intro n hn
          subst hn
          obtain ⟨k, -, hk⟩ := List.mem_filterMap.mp hq
          cases hl : (ls.set i v)[k]? with
          | none => rw [hl] at hk; cases hk
          | some u =>
            rw [hl] at hk
            cases u <;> first | (cases hk; done) | (cases hk; cases hw2)
        have := hm_ll_in (G := G) hw1 hr
        rw [← hw2] at this
        exact this
      refine h.2.2 q (List.mem_cons_of_mem _ (List.mem_filter.mpr ⟨hq2, ?_⟩))
      simp only [Bool.and_eq_true, Bool.not_eq_true', beq_eq_false_iff_ne, ne_eq, Bool.and_eq_false_iff]
      refine ⟨hqi, ?_⟩
      by_cases hj : q.1 + 1 = i
      · right
        rw [hw2, hm_v_cat]
        exact hm_narrow hw hw1 hj
      · left
        exact hj
  next => cases hs
theorem hm_L.st2 {G : hm_E} {la : Array Slot} {ls ls2 : List Value} {i : Nat} {v : Value} (hs : hm_st2 ls i v = some ls2) (h : lv_has la ls.length ((i, hm_v G v) :: (hm_ll G ls).filter (fun q => !(q.1 == i) && (!(q.1 == i + 1) && !(q.1 + 1 == i && q.2.category == 2))))) : hm_L G la ls2 := by
  unfold hm_st2 at hs
  split at hs
  next hc =>
    cases hs
    obtain ⟨hi, hw⟩ := hc
    refine ⟨by rw [List.length_set, List.length_set]; exact h.1, h.2.1, fun q hq => ?_⟩
    obtain ⟨k, -, hk⟩ := List.mem_filterMap.mp hq
    cases hl : ((ls.set i v).set (i + 1) (.retAddr 0))[k]? with
    | none => rw [hl] at hk; cases hk
    | some w =>
      have hkq : q = (k, hm_v G w) ∧ ∀ n, w ≠ .retAddr n := by
        rw [hl] at hk
        cases w <;> first | (cases hk; done) | (cases hk; exact ⟨rfl, fun n hn => by cases hn⟩)
      obtain ⟨hq2, hr⟩ := hkq
      subst hq2
      by_cases hk1 : k = i + 1
      · subst hk1
        rw [List.getElem?_set_self (by rw [List.length_set]; exact hi)] at hl
        cases hl
        exact absurd rfl (hr 0)
      · rw [List.getElem?_set_ne (fun z => hk1 z.symm)] at hl
        by_cases hki : k = i
        · subst hki
          rw [List.getElem?_set_self (by omega)] at hl
          cases hl
          exact h.2.2 (k, hm_v G v) List.mem_cons_self
        · rw [List.getElem?_set_ne (fun z => hki z.symm)] at hl
          refine h.2.2 (k, hm_v G w) (List.mem_cons_of_mem _ (List.mem_filter.mpr ⟨hm_ll_in hl hr, ?_⟩))
          simp only [Bool.and_eq_true, Bool.not_eq_true', beq_eq_false_iff_ne, ne_eq, Bool.and_eq_false_iff]
          refine ⟨hki, hk1, ?_⟩
          by_cases hj : k + 1 = i
          · right
            rw [hm_v_cat]
            exact hm_narrow hw hl hj
          · left
            exact hj
  next => cases hs
end
section
/-! ONE STEP, instructions that leave the heap as it is -/
def hm_K (p : Program) (l : Launch) (e : Env) (R : Room) (s : State) (m : MethodId) (args : Array Value) (below : List Frame) (meth : Method) (c : Code) (Q : State → Prop) (G : hm_E) (n0 s0 : Nat) (σ : hm_S) : Prop :=
  ∀ (H : Heap) (locs : List Loc) (la : Array Slot), hm_R G s σ.2.2.2 H → hm_L G la σ.2.1 → la.size = c.maxLocals → (∀ q ∈ locs, G.1 ≤ q.base) → W p l e R s m args below meth c H locs (σ.2.2.2.2.1 - n0) (σ.2.2.2.2.2 - s0) Q (F0 m σ.1 la (σ.2.2.1.map (hm_v G)))
theorem hm_lnE {i : Instr} {n k : Nat} (hn : hm_ln i = n ∨ hm_ln i = 0) (hk : hm_ln i = k) (h0 : k ≠ 0) : n = k := by
  rcases hn with h | h
  · exact h.symm.trans hk
  · exact absurd (hk.symm.trans h) h0
theorem hm_jmp_eq {pc t : Nat} {off : Int} (h : hm_jmp pc off = some t) : (pc : Int) + off = (t : Int) := by
  unfold hm_jmp at h
  split at h
  next hc => cases h; omega
  next => cases h
theorem hm_st1_lt {ls l2 : List Value} {i : Nat} {v : Value} (h : hm_st1 ls i v = some l2) : i < ls.length := by
  unfold hm_st1 at h
  split at h
  next hc => exact hc.1
  next => cases h
theorem hm_st2_lt {ls l2 : List Value} {i : Nat} {v : Value} (h : hm_st2 ls i v = some l2) : i + 1 < ls.length := by
  unfold hm_st2 at h
  split at h
  next hc => exact hc.1
  next => cases h
section HMS
variable {p : Program} {l : Launch} {e : Env} {R : Room} {s : State} {m : MethodId} {args : Array Value} {below : List Frame} {meth : Method} {c : Code} {Q : State → Prop}
variable {cc : ByteArray} {pc n n0 s0 : Nat} {i : Instr} {ls st : List Value} {hp : hm_H} {σ : hm_S} {G : hm_E}
set_option maxHeartbeats 1000000 in
theorem hm_o1 (hx : p.tables.exec = Jvm.exec) (hb : c.code = cc) (hd : decode cc pc = .ok (i, n)) (hn : hm_ln i = n ∨ hm_ln i = 0) (h : hm_s1 i pc ls st hp = some σ) (k : hm_K p l e R s m args below meth c Q G n0 s0 σ) : hm_K p l e R s m args below meth c Q G n0 s0 (pc, ls, st, hp) := by
  intro H locs la hR hL hz hf
  unfold hm_s1 at h
  split at h
  · obtain rfl : n = 1 := hm_lnE hn rfl (by decide)
    cases h
    exact lv_iconst hx hb hd rfl (k H locs la hR hL hz hf)
  · obtain rfl : n = 2 := hm_lnE hn rfl (by decide)
    cases h
    exact lv_bipush hx hb hd rfl (k H locs la hR hL hz hf)
  · obtain rfl : n = 3 := hm_lnE hn rfl (by decide)
    cases h
    exact lv_sipush hx hb hd rfl (k H locs la hR hL hz hf)
  · obtain rfl : n = 1 := hm_lnE hn rfl (by decide)
    cases h
    exact lv_lconst hx hb hd rfl (k H locs la hR hL hz hf)
  · obtain rfl : n = 1 := hm_lnE hn rfl (by decide)
    cases h
    exact lv_null hx hb hd (k H locs la hR hL hz hf)
  · obtain rfl : n = 1 := hm_lnE hn rfl (by decide)
    split at h
    next hc =>
      cases h
      exact lv_dup hx hb hd (by rw [hm_v_cat]; exact hc) (k H locs la hR hL hz hf)
    next => cases h
  · obtain rfl : n = 1 := hm_lnE hn rfl (by decide)
    split at h
    next hc =>
      cases h
      exact lv_pop hx hb hd (by rw [hm_v_cat]; exact hc) (k H locs la hR hL hz hf)
    next => cases h
  · obtain rfl : n = 1 := hm_lnE hn rfl (by decide)
    split at h
    next hc =>
      cases h
      exact lv_dup_x1 hx hb hd (by rw [hm_v_cat]; exact hc.1) (by rw [hm_v_cat]; exact hc.2) (k H locs la hR hL hz hf)
    next => cases h
  · obtain rfl : n = 1 := hm_lnE hn rfl (by decide)
    split at h
    next hc =>
      cases h
      exact lv_dup2_11 hx hb hd (by rw [hm_v_cat]; exact hc.1) (by rw [hm_v_cat]; exact hc.2) (k H locs la hR hL hz hf)
    next => cases h
  · cases h
set_option maxHeartbeats 1000000 in
theorem hm_o2 (hx : p.tables.exec = Jvm.exec) (hb : c.code = cc) (hd : decode cc pc = .ok (i, n)) (hn : hm_ln i = n ∨ hm_ln i = 0) (h : hm_s2 i pc ls st hp = some σ) (k : hm_K p l e R s m args below meth c Q G n0 s0 σ) : hm_K p l e R s m args below meth c Q G n0 s0 (pc, ls, st, hp) := by
  intro H locs la hR hL hz hf
  unfold hm_s2 at h
  split at h
  · obtain rfl : n = 1 := hm_lnE hn rfl (by decide)
    cases h
    exact lv_iadd hx hb hd (k H locs la hR hL hz hf)
  · obtain rfl : n = 1 := hm_lnE hn rfl (by decide)
    cases h
    exact lv_isub hx hb hd (k H locs la hR hL hz hf)
  · obtain rfl : n = 1 := hm_lnE hn rfl (by decide)
    cases h
    exact lv_imul hx hb hd (k H locs la hR hL hz hf)
  · obtain rfl : n = 1 := hm_lnE hn rfl (by decide)
    cases h
    exact lv_iand hx hb hd (k H locs la hR hL hz hf)
  · obtain rfl : n = 1 := hm_lnE hn rfl (by decide)
    cases h
    exact lv_ior hx hb hd (k H locs la hR hL hz hf)
  · obtain rfl : n = 1 := hm_lnE hn rfl (by decide)
    cases h
    exact lv_ixor hx hb hd (k H locs la hR hL hz hf)
  · obtain rfl : n = 1 := hm_lnE hn rfl (by decide)
    split at h
    next => cases h
    next hc =>
      cases h
      exact lv_idiv hx hb hd hc (k H locs la hR hL hz hf)
  · obtain rfl : n = 1 := hm_lnE hn rfl (by decide)
    split at h
    next => cases h
    next hc =>
      cases h
      exact lv_irem hx hb hd hc (k H locs la hR hL hz hf)
  · obtain rfl : n = 1 := hm_lnE hn rfl (by decide)
    cases h
    exact lv_ineg hx hb hd (k H locs la hR hL hz hf)
  · obtain rfl : n = 1 := hm_lnE hn rfl (by decide)
    cases h
    exact lv_ishl hx hb hd (k H locs la hR hL hz hf)
  · obtain rfl : n = 1 := hm_lnE hn rfl (by decide)
    cases h
    exact lv_ishr hx hb hd (k H locs la hR hL hz hf)
  · obtain rfl : n = 1 := hm_lnE hn rfl (by decide)
    cases h
    exact lv_iushr hx hb hd rfl (k H locs la hR hL hz hf)
  · obtain rfl : n = 1 := hm_lnE hn rfl (by decide)
    cases h
    exact lv_i2l hx hb hd rfl (k H locs la hR hL hz hf)
  · obtain rfl : n = 1 := hm_lnE hn rfl (by decide)
    cases h
    exact lv_l2i hx hb hd rfl (k H locs la hR hL hz hf)
  · obtain rfl : n = 1 := hm_lnE hn rfl (by decide)
    cases h
    exact lv_ladd hx hb hd (k H locs la hR hL hz hf)
  · obtain rfl : n = 1 := hm_lnE hn rfl (by decide)
    cases h
    exact lv_lmul hx hb hd (k H locs la hR hL hz hf)
  · obtain rfl : n = 1 := hm_lnE hn rfl (by decide)
    split at h
    next => cases h
    next hc =>
      cases h
      exact lv_ldiv hx hb hd hc (k H locs la hR hL hz hf)
  · obtain rfl : n = 1 := hm_lnE hn rfl (by decide)
    cases h
    exact lv_land hx hb hd (k H locs la hR hL hz hf)
  · obtain rfl : n = 1 := hm_lnE hn rfl (by decide)
    cases h
    exact lv_lor hx hb hd (k H locs la hR hL hz hf)
  · obtain rfl : n = 1 := hm_lnE hn rfl (by decide)
    cases h
    exact lv_lshl hx hb hd rfl (k H locs la hR hL hz hf)
  · obtain rfl : n = 1 := hm_lnE hn rfl (by decide)
    cases h
    exact lv_lshr hx hb hd rfl (k H locs la hR hL hz hf)
  · obtain rfl : n = 1 := hm_lnE hn rfl (by decide)
    cases h
    exact lv_lushr hx hb hd rfl (k H locs la hR hL hz hf)
  · obtain rfl : n = 1 := hm_lnE hn rfl (by decide)
    cases h
    exact W.lcmp hx hb hd (k H locs la hR hL hz hf)
  · cases h
set_option maxHeartbeats 1000000 in
theorem hm_o3 (hx : p.tables.exec = Jvm.exec) (hb : c.code = cc) (hd : decode cc pc = .ok (i, n)) (hn : hm_ln i = n ∨ hm_ln i = 0) (h : hm_s3 i pc ls st hp = some σ) (k : hm_K p l e R s m args below meth c Q G n0 s0 σ) : hm_K p l e R s m args below meth c Q G n0 s0 (pc, ls, st, hp) := by
  intro H locs la hR hL hz hf
  unfold hm_s3 at h
  split at h
  · obtain rfl : n = 2 := hm_lnE hn rfl (by decide)
    unfold hm_ldi at h
    split at h
    next x hk =>
      cases h
      exact lv_iload hx hb hd (hL.get hk (fun n hn => by cases hn)) (k H locs la hR hL hz hf)
    next => cases h
  · obtain rfl : n = 1 := hm_lnE hn rfl (by decide)
    unfold hm_ldi at h
    split at h
    next x hk =>
      cases h
      exact lv_iload_n hx hb hd rfl (hL.get hk (fun n hn => by cases hn)) (k H locs la hR hL hz hf)
    next => cases h
  · obtain rfl : n = 2 := hm_lnE hn rfl (by decide)
    unfold hm_ldl at h
    split at h
    next x hk =>
      cases h
      exact lv_lload hx hb hd (hL.get hk (fun n hn => by cases hn)) (k H locs la hR hL hz hf)
    next => cases h
  · obtain rfl : n = 1 := hm_lnE hn rfl (by decide)
    unfold hm_ldl at h
    split at h
    next x hk =>
      cases h
      exact lv_lload_n hx hb hd rfl (hL.get hk (fun n hn => by cases hn)) (k H locs la hR hL hz hf)
    next => cases h
  · obtain rfl : n = 2 := hm_lnE hn rfl (by decide)
    unfold hm_lda at h
    split at h
    next x hk =>
      cases h
      exact lv_aload hx hb hd (hL.get hk (fun n hn => by cases hn)) (k H locs la hR hL hz hf)
    next hk =>
      cases h
      exact lv_aloadN hx hb hd (hL.get hk (fun n hn => by cases hn)) (k H locs la hR hL hz hf)
    next => cases h
  · obtain rfl : n = 1 := hm_lnE hn rfl (by decide)
    unfold hm_lda at h
    split at h
    next x hk =>
      cases h
      exact lv_aload_n hx hb hd rfl (hL.get hk (fun n hn => by cases hn)) (k H locs la hR hL hz hf)
    next hk =>
      cases h
      exact lv_aload_nN hx hb hd rfl (hL.get hk (fun n hn => by cases hn)) (k H locs la hR hL hz hf)
    next => cases h
  · obtain rfl : n = 2 := hm_lnE hn rfl (by decide)
    obtain ⟨l2, h1, h2⟩ := Option.map_eq_some_iff.mp h
    cases h2
    exact lv_istore hx hb hd hL (hm_st1_lt h1) rfl (fun la2 hl2 => k H locs la2 hR (hm_L.st1 h1 hl2) (hl2.1.trans (hL.1.symm.trans hz)) hf)
  · obtain rfl : n = 1 := hm_lnE hn rfl (by decide)
    obtain ⟨l2, h1, h2⟩ := Option.map_eq_some_iff.mp h
    cases h2
    exact lv_istore_n hx hb hd rfl hL (hm_st1_lt h1) rfl (fun la2 hl2 => k H locs la2 hR (hm_L.st1 h1 hl2) (hl2.1.trans (hL.1.symm.trans hz)) hf)
  · obtain rfl : n = 2 := hm_lnE hn rfl (by decide)
    obtain ⟨l2, h1, h2⟩ := Option.map_eq_some_iff.mp h
    cases h2
    exact lv_astore hx hb hd hL (hm_st1_lt h1) rfl (fun la2 hl2 => k H locs la2 hR (hm_L.st1 h1 hl2) (hl2.1.trans (hL.1.symm.trans hz)) hf)
  · obtain rfl : n = 1 := hm_lnE hn rfl (by decide)
    obtain ⟨l2, h1, h2⟩ := Option.map_eq_some_iff.mp h
    cases h2
    exact lv_astore_n hx hb hd rfl hL (hm_st1_lt h1) rfl (fun la2 hl2 => k H locs la2 hR (hm_L.st1 h1 hl2) (hl2.1.trans (hL.1.symm.trans hz)) hf)
  · obtain rfl : n = 2 := hm_lnE hn rfl (by decide)
    obtain ⟨l2, h1, h2⟩ := Option.map_eq_some_iff.mp h
    cases h2
    exact lv_astoreN hx hb hd hL (hm_st1_lt h1) rfl (fun la2 hl2 => k H locs la2 hR (hm_L.st1 h1 hl2) (hl2.1.trans (hL.1.symm.trans hz)) hf)
  · obtain rfl : n = 1 := hm_lnE hn rfl (by decide)
    obtain ⟨l2, h1, h2⟩ := Option.map_eq_some_iff.mp h
    cases h2
    exact lv_astore_nN hx hb hd rfl hL (hm_st1_lt h1) rfl (fun la2 hl2 => k H locs la2 hR (hm_L.st1 h1 hl2) (hl2.1.trans (hL.1.symm.trans hz)) hf)
  · obtain rfl : n = 2 := hm_lnE hn rfl (by decide)
    obtain ⟨l2, h1, h2⟩ := Option.map_eq_some_iff.mp h
    cases h2
    exact lv_lstore hx hb hd hL (hm_st2_lt h1) rfl (fun la2 hl2 => k H locs la2 hR (hm_L.st2 h1 hl2) (hl2.1.trans (hL.1.symm.trans hz)) hf)
  · obtain rfl : n = 1 := hm_lnE hn rfl (by decide)
    obtain ⟨l2, h1, h2⟩ := Option.map_eq_some_iff.mp h
    cases h2
    exact lv_lstore_n hx hb hd rfl hL (hm_st2_lt h1) rfl (fun la2 hl2 => k H locs la2 hR (hm_L.st2 h1 hl2) (hl2.1.trans (hL.1.symm.trans hz)) hf)
  · obtain rfl : n = 3 := hm_lnE hn rfl (by decide)
    split at h
    next x hk =>
      obtain ⟨l2, h1, h2⟩ := Option.map_eq_some_iff.mp h
      cases h2
      obtain ⟨kk, hkk⟩ := List.getElem?_of_mem (hm_ll_in (G := G) hk (fun n hn => by cases hn))
      exact lv_iinc hx hb hd hL hkk rfl (hm_st1_lt h1) rfl (fun la2 hl2 => k H locs la2 hR (hm_L.st1 h1 hl2) (hl2.1.trans (hL.1.symm.trans hz)) hf)
    next => cases h
  · cases h
set_option maxHeartbeats 1000000 in
theorem hm_o4 (hx : p.tables.exec = Jvm.exec) (hb : c.code = cc) (hd : decode cc pc = .ok (i, n)) (hn : hm_ln i = n ∨ hm_ln i = 0) (h : hm_s4 i pc ls st hp = some σ) (k : hm_K p l e R s m args below meth c Q G n0 s0 σ) : hm_K p l e R s m args below meth c Q G n0 s0 (pc, ls, st, hp) := by
  intro H locs la hR hL hz hf
  unfold hm_s4 at h
  split at h
  · obtain rfl : n = 3 := hm_lnE hn rfl (by decide)
    unfold hm_to at h
    obtain ⟨t, ht, h2⟩ := Option.map_eq_some_iff.mp h
    cases h2
    exact lv_goto hx hb hd (hm_jmp_eq ht) (k H locs la hR hL hz hf)
  · obtain rfl : n = 3 := hm_lnE hn rfl (by decide)
    obtain ⟨t, ht, h2⟩ := Option.map_eq_some_iff.mp h
    split at h2
    next hc =>
      cases h2
      exact lv_if_eq hx hb hd (hm_jmp_eq ht) (fun _ => (k H locs la hR hL hz hf)) (fun hq => absurd hc hq)
    next hc =>
      cases h2
      exact lv_if_eq hx hb hd (hm_jmp_eq ht) (fun hq => absurd hq hc) (fun _ => (k H locs la hR hL hz hf))
  · obtain rfl : n = 3 := hm_lnE hn rfl (by decide)
    obtain ⟨t, ht, h2⟩ := Option.map_eq_some_iff.mp h
    split at h2
    next hc =>
      cases h2
      exact lv_if_ne hx hb hd (hm_jmp_eq ht) (fun _ => (k H locs la hR hL hz hf)) (fun hq => absurd hq hc)
    next hc =>
      cases h2
      exact lv_if_ne hx hb hd (hm_jmp_eq ht) (fun hq => absurd hq hc) (fun _ => (k H locs la hR hL hz hf))
  · obtain rfl : n = 3 := hm_lnE hn rfl (by decide)
    obtain ⟨t, ht, h2⟩ := Option.map_eq_some_iff.mp h
    split at h2
    next hc =>
      cases h2
      exact lv_if_lt hx hb hd (hm_jmp_eq ht) (fun _ => (k H locs la hR hL hz hf)) (fun hq => absurd hc hq)
    next hc =>
      cases h2
      exact lv_if_lt hx hb hd (hm_jmp_eq ht) (fun hq => absurd hq hc) (fun _ => (k H locs la hR hL hz hf))
  · obtain rfl : n = 3 := hm_lnE hn rfl (by decide)
    obtain ⟨t, ht, h2⟩ := Option.map_eq_some_iff.mp h
    split at h2
    next hc =>
      cases h2
      exact lv_if_ge hx hb hd (hm_jmp_eq ht) (fun _ => (k H locs la hR hL hz hf)) (fun hq => absurd hc hq)
    next hc =>
      cases h2
      exact lv_if_ge hx hb hd (hm_jmp_eq ht) (fun hq => absurd hq hc) (fun _ => (k H locs la hR hL hz hf))
  · obtain rfl : n = 3 := hm_lnE hn rfl (by decide)
    obtain ⟨t, ht, h2⟩ := Option.map_eq_some_iff.mp h
    split at h2
    next hc =>
      cases h2
      exact lv_if_gt hx hb hd (hm_jmp_eq ht) (fun _ => (k H locs la hR hL hz hf)) (fun hq => absurd hc hq)
    next hc =>
      cases h2
      exact lv_if_gt hx hb hd (hm_jmp_eq ht) (fun hq => absurd hq hc) (fun _ => (k H locs la hR hL hz hf))
  · obtain rfl : n = 3 := hm_lnE hn rfl (by decide)
    obtain ⟨t, ht, h2⟩ := Option.map_eq_some_iff.mp h
    split at h2
    next hc =>
      cases h2
      exact lv_if_le hx hb hd (hm_jmp_eq ht) (fun _ => (k H locs la hR hL hz hf)) (fun hq => absurd hc hq)
    next hc =>
      cases h2
      exact lv_if_le hx hb hd (hm_jmp_eq ht) (fun hq => absurd hq hc) (fun _ => (k H locs la hR hL hz hf))
  · obtain rfl : n = 3 := hm_lnE hn rfl (by decide)
    obtain ⟨t, ht, h2⟩ := Option.map_eq_some_iff.mp h
    split at h2
    next hc =>
      cases h2
      exact lv_icmp_eq hx hb hd (hm_jmp_eq ht) (fun _ => (k H locs la hR hL hz hf)) (fun hq => absurd hc hq)
    next hc =>
      cases h2
      exact lv_icmp_eq hx hb hd (hm_jmp_eq ht) (fun hq => absurd hq hc) (fun _ => (k H locs la hR hL hz hf))
  · obtain rfl : n = 3 := hm_lnE hn rfl (by decide)
    obtain ⟨t, ht, h2⟩ := Option.map_eq_some_iff.mp h
    split at h2
    next hc =>
      cases h2
      exact lv_icmp_ne hx hb hd (hm_jmp_eq ht) (fun _ => (k H locs la hR hL hz hf)) (fun hq => absurd hq hc)
    next hc =>
      cases h2
      exact lv_icmp_ne hx hb hd (hm_jmp_eq ht) (fun hq => absurd hq hc) (fun _ => (k H locs la hR hL hz hf))
  · obtain rfl : n = 3 := hm_lnE hn rfl (by decide)
    obtain ⟨t, ht, h2⟩ := Option.map_eq_some_iff.mp h
    split at h2
    next hc =>
      cases h2
      exact lv_icmp_lt hx hb hd (hm_jmp_eq ht) (fun _ => (k H locs la hR hL hz hf)) (fun hq => absurd hc hq)
    next hc =>
      cases h2
      exact lv_icmp_lt hx hb hd (hm_jmp_eq ht) (fun hq => absurd hq hc) (fun _ => (k H locs la hR hL hz hf))
  · obtain rfl : n = 3 := hm_lnE hn rfl (by decide)
    obtain ⟨t, ht, h2⟩ := Option.map_eq_some_iff.mp h
    split at h2
    next hc =>
      cases h2
      exact lv_icmp_ge hx hb hd (hm_jmp_eq ht) (fun _ => (k H locs la hR hL hz hf)) (fun hq => absurd hc hq)
    next hc =>
      cases h2
      exact lv_icmp_ge hx hb hd (hm_jmp_eq ht) (fun hq => absurd hq hc) (fun _ => (k H locs la hR hL hz hf))
  · obtain rfl : n = 3 := hm_lnE hn rfl (by decide)
    obtain ⟨t, ht, h2⟩ := Option.map_eq_some_iff.mp h
    split at h2
    next hc =>
      cases h2
      exact lv_icmp_gt hx hb hd (hm_jmp_eq ht) (fun _ => (k H locs la hR hL hz hf)) (fun hq => absurd hc hq)
    next hc =>
      cases h2
      exact lv_icmp_gt hx hb hd (hm_jmp_eq ht) (fun hq => absurd hq hc) (fun _ => (k H locs la hR hL hz hf))
  · obtain rfl : n = 3 := hm_lnE hn rfl (by decide)
    obtain ⟨t, ht, h2⟩ := Option.map_eq_some_iff.mp h
    split at h2
    next hc =>
      cases h2
      exact lv_icmp_le hx hb hd (hm_jmp_eq ht) (fun _ => (k H locs la hR hL hz hf)) (fun hq => absurd hc hq)
    next hc =>
      cases h2
      exact lv_icmp_le hx hb hd (hm_jmp_eq ht) (fun hq => absurd hq hc) (fun _ => (k H locs la hR hL hz hf))
  · obtain rfl : n = 3 := hm_lnE hn rfl (by decide)
    unfold hm_to at h
    obtain ⟨t, ht, h2⟩ := Option.map_eq_some_iff.mp h
    cases h2
    exact lv_ifnullN hx hb hd (hm_jmp_eq ht) (k H locs la hR hL hz hf)
  · obtain rfl : n = 3 := hm_lnE hn rfl (by decide)
    cases h
    exact lv_ifnull hx hb hd (k H locs la hR hL hz hf)
  · obtain rfl : n = 3 := hm_lnE hn rfl (by decide)
    unfold hm_to at h
    obtain ⟨t, ht, h2⟩ := Option.map_eq_some_iff.mp h
    cases h2
    exact lv_ifnonnull hx hb hd (hm_jmp_eq ht) (k H locs la hR hL hz hf)
  · obtain rfl : n = 3 := hm_lnE hn rfl (by decide)
    cases h
    exact lv_ifnonnullN hx hb hd (k H locs la hR hL hz hf)
  · obtain rfl : n = 3 := hm_lnE hn rfl (by decide)
    split at h
    next a b r hc =>
      subst hc
      unfold hm_to at h
      obtain ⟨t, ht, h2⟩ := Option.map_eq_some_iff.mp h
      cases h2
      exact lv_acmp_eq (rx := some (hm_rho G _)) (ry := some (hm_rho G _)) hx hb hd (hm_jmp_eq ht) (fun _ => (k H locs la hR hL hz hf)) (fun hq => absurd rfl hq)
    next => cases h
  · obtain rfl : n = 3 := hm_lnE hn rfl (by decide)
    split at h
    next a b r hc =>
      subst hc
      obtain ⟨t, ht, h2⟩ := Option.map_eq_some_iff.mp h
      cases h2
      exact lv_acmp_ne (rx := some (hm_rho G _)) (ry := some (hm_rho G _)) hx hb hd (hm_jmp_eq ht) (fun hq => absurd rfl hq) (fun _ => (k H locs la hR hL hz hf))
    next => cases h
  · split at h
    next hc =>
      unfold hm_to at h
      obtain ⟨t, ht, h2⟩ := Option.map_eq_some_iff.mp h
      cases h2
      exact lv_tableOut hx hb hd hc (hm_jmp_eq ht) (k H locs la hR hL hz hf)
    next hc =>
      split at h
      next off ho =>
        unfold hm_to at h
        obtain ⟨t, ht, h2⟩ := Option.map_eq_some_iff.mp h
        cases h2
        exact lv_tableIn hx hb hd (fun q => hc (Or.inl q)) (fun q => hc (Or.inr q)) ho (hm_jmp_eq ht) (k H locs la hR hL hz hf)
      next => cases h
  · split at h
    next hc =>
      unfold hm_to at h
      obtain ⟨t, ht, h2⟩ := Option.map_eq_some_iff.mp h
      cases h2
      exact lv_lookup hx hb hd hc rfl (hm_jmp_eq ht) (k H locs la hR hL hz hf)
    next => cases h
  · cases h
end HMS
end
section
/-! ONE STEP, instructions that read the heap and the tables -/
def hm_isN (w : Cond) : Bool := match w with
  | .fieldLinkNest _ _ _ _ _ _ => true
  | .methodLinkNest _ _ _ _ => true
  | .castable _ _ => true
  | _ => false
def hm_tb : List Cond := lw_tbl.filter goodWord
def hm_NW (U : State) : Prop := (∀ w ∈ tables_1, hm_isN w = true → va_Nw w U) ∧ va_AO "HourPromised$Law" U ∧ va_AO "java/lang/Object" U ∧ (Cond.arrayOver (.array .int)).before #[] U = true ∧ (Cond.arrayOver (.array .long)).before #[] U = true
def hm_Cx (p : Program) (s : State) (m : MethodId) (args : Array Value) (meth : Method) (c : Code) (q : hm_Q) : Prop :=
  p.tables.exec = Jvm.exec ∧ c.code = q.2.1 ∧ c.maxLocals = q.2.2.1 ∧ meth.sig.returnType = q.2.2.2.1 ∧ meth.locks = false ∧ s.vm.findClass q.1.cls = some m.cls ∧ meth.name = q.1.name ∧ hm_own[q.2.2.2.2.1]? = some q.1.cls ∧ (∀ w ∈ hm_tb, w.before args s = true) ∧ hm_NW s
theorem hm_tb_of {w : Cond} (h : w ∈ tables_1) (hg : goodWord w = true) : w ∈ hm_tb := List.mem_filter.mpr ⟨List.mem_append_right _ h, hg⟩
theorem hm_lk {β : Type} : ∀ {l : List ((Nat × Nat) × β)} {a : Nat × Nat} {b : β}, l.lookup a = some b → (a, b) ∈ l
  | [], _, _, h => by cases h
  | (x, y) :: l, a, b, h => by
    rw [List.lookup_cons] at h
    split at h
    next hc =>
      cases h
      rw [eq_of_beq hc]
      exact List.mem_cons_self
    next => exact List.mem_cons_of_mem _ (hm_lk h)
theorem hm_one {D : va_G} {cl : List vw_C} {x : Nat × va_E} {H : Heap} (h : va_at D cl x H) : va_P D cl [x] H := by
  intro k q hk
  cases k with
  | zero => cases hk; exact h
  | succ k => cases hk
theorem hm_clsE {P : Nat → vw_C → Prop} (h0 : ∀ k : Nat, k < 10 → ∀ r, hm_cls[k]? = some r → P k r) : ∀ (k : Nat) (r : vw_C), hm_cls[k]? = some r → P k r := by
  intro k r h
  have hk : k < 10 := (List.getElem?_eq_some_iff.mp h).1
  exact h0 k hk r h
theorem hm_lt10 {P : Nat → Prop} (h : P 0 ∧ P 1 ∧ P 2 ∧ P 3 ∧ P 4 ∧ P 5 ∧ P 6 ∧ P 7 ∧ P 8 ∧ P 9) (k : Nat) (hk : k < 10) : P k := by
  obtain ⟨h0, h1, h2, h3, h4, h5, h6, h7, h8, h9⟩ := h
  match k, hk with
  | 0, _ => exact h0
  | 1, _ => exact h1
  | 2, _ => exact h2
  | 3, _ => exact h3
  | 4, _ => exact h4
  | 5, _ => exact h5
  | 6, _ => exact h6
  | 7, _ => exact h7
  | 8, _ => exact h8
  | 9, _ => exact h9
  | k + 10, hk => omega
theorem hm_tyok : ∀ (ci : Nat) (r : vw_C), hm_cls[ci]? = some r → ∀ k, k < r.2.2 → parseFieldDescriptor (r.2.1 k).2.2.1 = some (hm_fty ci k) :=
  hm_clsE (hm_lt10 ⟨fun r h => by cases h; exact hm_ty0, fun r h => by cases h; exact hm_ty1, fun r h => by cases h; exact hm_ty2, fun r h => by cases h; exact hm_ty3, fun r h => by cases h; exact hm_ty4, fun r h => by cases h; exact hm_ty5, fun r h => by cases h; exact hm_ty6, fun r h => by cases h; exact hm_ty7, fun r h => by cases h; exact hm_ty8, fun r h => by cases h; exact hm_ty9⟩)
theorem hm_nmok : ∀ (ci : Nat) (r : vw_C), hm_cls[ci]? = some r → ∀ a, a < r.2.2 → ∀ b, b < r.2.2 → a ≠ b → (r.2.1 a).2.1 ≠ (r.2.1 b).2.1 :=
  hm_clsE (hm_lt10 ⟨fun r h => by cases h; exact hm_n0, fun r h => by cases h; exact hm_n1, fun r h => by cases h; exact hm_n2, fun r h => by cases h; exact hm_n3, fun r h => by cases h; exact hm_n4, fun r h => by cases h; exact hm_n5, fun r h => by cases h; exact hm_n6, fun r h => by cases h; exact hm_n7, fun r h => by cases h; exact hm_n8, fun r h => by cases h; exact hm_n9⟩)
theorem hm_good_lay (C : String) (T : u_T) (k : Nat) : goodWord (u_lay C T k) = true := by
  unfold u_lay
  split <;> rfl
theorem hm_kin {ci : Nat} {r : vw_C} (h : hm_cls[ci]? = some r) : ∀ w ∈ u_ws r.1 r.2.1 r.2.2, w ∈ hm_tb := by
  intro w hw
  have h1 := List.all_eq_true.mp hm_kok r (List.mem_of_getElem? h)
  unfold hm_kchk at h1
  simp only [Bool.and_eq_true] at h1
  have h2 := hm_in_mem (List.all_eq_true.mp h1.1.1 w hw)
  obtain ⟨k, -, rfl⟩ := List.mem_map.mp hw
  exact hm_tb_of h2 (hm_good_lay _ _ _)
theorem hm_kinst {ci : Nat} {r : vw_C} (h : hm_cls[ci]? = some r) : Cond.instantiable r.1 r.2.2 ∈ hm_tb ∧ Cond.initialized r.1 ∈ hm_tb := by
  have h1 := List.all_eq_true.mp hm_kok r (List.mem_of_getElem? h)
  unfold hm_kchk at h1
  simp only [Bool.and_eq_true] at h1
  exact ⟨hm_tb_of (hm_in_mem h1.1.2) rfl, hm_tb_of (hm_in_mem h1.2) rfl⟩
section HMH
variable {p : Program} {l : Launch} {e : Env} {R : Room} {s : State} {m : MethodId} {args : Array Value} {below : List Frame} {meth : Method} {c : Code} {Q : State → Prop}
variable {pc n n0 s0 : Nat} {i : Instr} {ls st : List Value} {hp : hm_H} {σ : hm_S} {G : hm_E} {q : hm_Q}
/-- a field by the pool's entry: the class of its objects, and the word that links it -/
theorem hm_fld (C0 : hm_Cx p s m args meth c q) {ix ci k md w : Nat} (h : hm_ftab.lookup (q.2.2.2.2.1, ix) = some (ci, k, md, w)) : ∃ r : vw_C, hm_cls[ci]? = some r ∧ k < r.2.2 ∧
    ((Cond.fieldLink q.1.cls ix (r.2.1 k).1 (r.2.1 k).2.1 (r.2.1 k).2.2.1).before args s = true ∨ (Cond.fieldLinkNest q.1.cls ix (r.2.1 k).1 (r.2.1 k).2.1 (r.2.1 k).2.2.1 "HourPromised").before args s = true ∨
      ((Cond.fieldLink q.1.cls ix "java/util/ArrayList" (r.2.1 k).2.1 (r.2.1 k).2.2.1).before args s = true ∧ (r.2.1 k).1 = "java/util/AbstractList" ∧ (r.2.1 k).2.1 = "modCount" ∧ (r.2.1 k).2.2.1 = "I")) := by
  obtain ⟨-, -, -, -, -, -, -, hw0, hts, hNW⟩ := C0
  have h1 := List.all_eq_true.mp hm_fok _ (hm_lk h)
  unfold hm_fchk at h1
  dsimp only at h1
  rw [hw0] at h1
  cases hc : hm_cls[ci]? with
  | none => rw [hc] at h1; cases h1
  | some r =>
    rw [hc] at h1
    obtain ⟨C, T, N⟩ := r
    simp only [Bool.and_eq_true, decide_eq_true_eq] at h1
    refine ⟨_, rfl, h1.1, ?_⟩
    match md, h1.2 with
    | 0, h2 => exact Or.inl (hts _ (hm_tb_of (hm_at_mem h2) rfl))
    | 1, h2 => exact Or.inr (Or.inl (va_Nw.use rfl (hNW.1 _ (hm_at_mem h2) rfl)))
    | md + 2, h2 =>
      simp only [Bool.and_eq_true, decide_eq_true_eq] at h2
      exact Or.inr (Or.inr ⟨hts _ (hm_tb_of (hm_at_mem h2.1.1.1) rfl), h2.1.1.2, h2.1.2, h2.2⟩)
theorem hm_nlk (C0 : hm_Cx p s m args meth c q) {ix ci w : Nat} (h : hm_ntab.lookup (q.2.2.2.2.1, ix) = some (ci, w)) : (Cond.classLink q.1.cls ix (hm_nname ci)).before args s = true := by
  obtain ⟨-, -, -, -, -, -, -, hw0, hts, -⟩ := C0
  have h1 := List.all_eq_true.mp hm_nok _ (hm_lk h)
  unfold hm_nchk at h1
  dsimp only at h1
  rw [hw0] at h1
  simp only [Bool.and_eq_true] at h1
  exact hts _ (hm_tb_of (hm_at_mem h1.1) rfl)
theorem hm_nnm {ci : Nat} {r : vw_C} (h : hm_cls[ci]? = some r) : hm_nname ci = r.1 := by
  have hk : ci < 10 := (List.getElem?_eq_some_iff.mp h).1
  exact hm_lt10 (P := fun k => ∀ r, hm_cls[k]? = some r → hm_nname k = r.1) ⟨fun r h => by cases h; rfl, fun r h => by cases h; rfl, fun r h => by cases h; rfl, fun r h => by cases h; rfl, fun r h => by cases h; rfl, fun r h => by cases h; rfl, fun r h => by cases h; rfl, fun r h => by cases h; rfl, fun r h => by cases h; rfl, fun r h => by cases h; rfl⟩ ci hk r h
theorem hm_asame (C0 : hm_Cx p s m args meth c q) {r : vw_C} {k : Nat} (h1 : (r.2.1 k).1 = "java/util/AbstractList") (h2 : (r.2.1 k).2.1 = "modCount") (h3 : (r.2.1 k).2.2.1 = "I") : ∀ x, s.fieldFound? (r.2.1 k).1 (r.2.1 k).2.1 (r.2.1 k).2.2.1 = some x → s.fieldFound? "java/util/ArrayList" (r.2.1 k).2.1 (r.2.1 k).2.2.1 = some x := by
  obtain ⟨-, -, -, -, -, -, -, -, hts, -⟩ := C0
  intro x hx
  rw [h1, h2, h3] at hx
  rw [h2, h3]
  exact u_same (hts (.sameField "java/util/ArrayList" "java/util/AbstractList" "modCount" "I") (hm_tb_of (List.mem_of_getElem? (i := 155) (by decide +kernel)) rfl)) x hx
theorem hm_rmap (fs : List Value) (k : Nat) {v : Value} (h : fs[k]? = some v) : (fs.map (hm_v G))[k]? = some (hm_v G v) := by
  rw [List.getElem?_map, h]
  rfl
theorem hm_ty_at {t : Nat} (h : t < 7) : ∃ ty, (hm_tys G)[t]? = some (G.2.2.2 t, ty) := by
  match t, h with
  | 0, _ => exact ⟨_, rfl⟩
  | 1, _ => exact ⟨_, rfl⟩
  | 2, _ => exact ⟨_, rfl⟩
  | 3, _ => exact ⟨_, rfl⟩
  | 4, _ => exact ⟨_, rfl⟩
  | 5, _ => exact ⟨_, rfl⟩
  | 6, _ => exact ⟨_, rfl⟩
  | t + 7, h => omega
theorem hm_a_fst (x : vp_A) : (hm_a G x).1 = x.1 := by
  obtain ⟨n, f | f | f | f | f⟩ := x <;> rfl
theorem hm_rf (r : Option Nat) : va_rf (r.map (hm_rho G)) = hm_v G (va_rf r) := by cases r <;> rfl
end HMH
end
section
section HMR
variable {p : Program} {l : Launch} {e : Env} {R : Room} {s : State} {m : MethodId} {args : Array Value} {below : List Frame} {meth : Method} {c : Code} {Q : State → Prop}
variable {pc n n0 s0 : Nat} {i : Instr} {ls st : List Value} {hp : hm_H} {σ : hm_S} {G : hm_E} {q : hm_Q}
set_option maxHeartbeats 2000000 in
theorem hm_o5 (C0 : hm_Cx p s m args meth c q) (hd : decode q.2.1 pc = .ok (i, n)) (hn : hm_ln i = n ∨ hm_ln i = 0) (h : hm_s5 q.2.2.2.2.1 i pc ls st hp = some σ) (k : hm_K p l e R s m args below meth c Q G n0 s0 σ) : hm_K p l e R s m args below meth c Q G n0 s0 (pc, ls, st, hp) := by
  intro H locs la hR hL hz hf
  obtain ⟨hx, hb, hml, hr, hlk, hown, hnm, hw0, hts, hNW⟩ := id C0
  obtain ⟨hK, hsz, hcl, hst⟩ := id hR
  unfold hm_s5 at h
  split at h
  · obtain rfl : n = 3 := hm_lnE hn rfl (by decide)
    rename_i ix a r
    split at h
    next ci kf md w cj fs hlf hha =>
      split at h
      next hc =>
        subst hc
        obtain ⟨v, hv, h2⟩ := Option.map_eq_some_iff.mp h
        cases h2
        obtain ⟨-, hat⟩ := hcl a _ hha
        obtain ⟨r, hrc, hkN, hlink⟩ := hm_fld C0 hlf
        rcases hlink with hlink | hlink | ⟨hlink, e1, e2, e3⟩
        · exact va_get (C := r.1) (T := r.2.1) (N := r.2.2) hx hb hts (hm_kin hrc) hown hK (hm_one hat) 0 rfl hrc kf hkN hlink (fun _ h9 => h9) (hm_rmap fs kf hv) hd (k H locs la hR hL hz hf)
        · exact va_getN (C := r.1) (T := r.2.1) (N := r.2.2) hx hb hts (hm_kin hrc) hown hK (hm_one hat) 0 rfl hrc kf hkN hlink (fun _ h9 => h9) (hm_rmap fs kf hv) hd (k H locs la hR hL hz hf)
        · exact va_get (C := r.1) (T := r.2.1) (N := r.2.2) hx hb hts (hm_kin hrc) hown hK (hm_one hat) 0 rfl hrc kf hkN hlink (hm_asame C0 e1 e2 e3) (hm_rmap fs kf hv) hd (k H locs la hR hL hz hf)
      next => cases h
    next => cases h
  · obtain rfl : n = 1 := hm_lnE hn rfl (by decide)
    rename_i j a r
    split at h
    next t nn f hha =>
      split at h
      next hc =>
        cases h
        rcases hc.1 with ht | ht
        · subst ht
          rcases hcl a _ hha with ⟨h1, h2, h3⟩ | ⟨h1, h2⟩ | ⟨h1, h2⟩
          · exact va_iald (f := f) (n := nn) hx hb hK (hm_one (x := (hm_rho G a, .inl (G.2.2.2 0, nn, .inl f))) h3) 0 0 rfl rfl hc.2 hd (k H locs la hR hL hz hf)
          · exact absurd h1 (by decide)
          · exact absurd h1 (by decide)
        · subst ht
          rcases hcl a _ hha with ⟨h1, h2⟩ | ⟨h1, h2, f2, h3, cell, g1, g2, g3, g4, g5, g6, g7⟩ | ⟨h1, h2⟩
          · exact absurd h1 (by decide)
          · cases h3
            have hlt : j.toNatClampNeg < nn := Nat.not_le.mp fun z => hc.2 (Or.inr z)
            exact W.iald hx hb g1 g2 g3 (fun z => hc.2 (z.elim Or.inl (fun y => Or.inr (Nat.le_trans g4 y)))) (g6 _ hlt) rfl rfl hd (k H locs la hR hL hz hf)
          · exact absurd h1 (by decide)
      next => cases h
    next => cases h
  · obtain rfl : n = 1 := hm_lnE hn rfl (by decide)
    rename_i j a r
    split at h
    next t nn f hha =>
      split at h
      next hc =>
        cases h
        obtain ⟨rfl, hc⟩ := hc
        rcases hcl a _ hha with ⟨h1, h2, h3⟩ | ⟨h1, h2⟩ | ⟨h1, h2⟩
        · skip
          exact va_zald (f := f) (n := nn) hx hb hK (hm_one (x := (hm_rho G a, .inl (G.2.2.2 2, nn, .inl f))) h3) 0 2 rfl rfl hc hd (k H locs la hR hL hz hf)
        · exact absurd h1 (by decide)
        · exact absurd h1 (by decide)
      next => cases h
    next => cases h
  · obtain rfl : n = 1 := hm_lnE hn rfl (by decide)
    rename_i j a r
    split at h
    next t nn f hha =>
      split at h
      next hc =>
        cases h
        obtain ⟨rfl, hc⟩ := hc
        rcases hcl a _ hha with ⟨h1, h2, h3⟩ | ⟨h1, h2⟩ | ⟨h1, h2⟩
        · skip
          exact va_lald (f := f) (n := nn) hx hb hK (hm_one (x := (hm_rho G a, .inl (G.2.2.2 1, nn, .inr (.inl f)))) h3) 0 1 rfl rfl hc hd (k H locs la hR hL hz hf)
        · exact absurd h1 (by decide)
        · exact absurd h1 (by decide)
      next => cases h
    next => cases h
  · obtain rfl : n = 1 := hm_lnE hn rfl (by decide)
    rename_i j a r
    split at h
    next t nn f hha =>
      split at h
      next hc =>
        cases h
        have hlt : j.toNatClampNeg < nn := Nat.not_le.mp fun z => hc.2 (Or.inr z)
        have kk := k H locs la hR hL hz hf
        have ha : ∀ (ty : FieldType), ty.isReference = true → t < 7 → t ≠ 100 → t ≠ 101 → (hm_tys G)[t]? = some (G.2.2.2 t, ty) → W p l e R s m args below meth c H locs (hp.2.1 - n0) (hp.2.2 - s0) Q (F0 m pc la ((.int j :: .ref a :: r).map (hm_v G))) := by
          intro ty hty ht7 ht0 ht1 hat
          rcases hcl a _ hha with ⟨h1, h2, h3⟩ | ⟨h1, h2⟩ | ⟨h1, h2⟩
          · refine W.aald (v := va_rf ((f j.toNatClampNeg).map (hm_rho G))) (ty := ty) hx hb h3 ((hK.2 t _ hat).1 nn (fun z => va_rf ((f z).map (hm_rho G)))) hty (fun z => by cases z) (by show ¬ (j < 0 ∨ (arrV _ nn _).slots.size ≤ _); rw [arrV_size]; exact hc.2) (by show (arrV _ nn _).slots[_]? = _; rw [arrV_read _ _ hlt]) rfl rfl hd ?_
            rw [hm_rf]
            exact kk
          · exact absurd h1 ht0
          · exact absurd h1 ht1
        rcases hc.1 with rfl | rfl | rfl | rfl
        · exact ha (.array .int) rfl (by decide) (by decide) (by decide) rfl
        · exact ha (.array .long) rfl (by decide) (by decide) (by decide) rfl
        · exact ha (.object "HourPromised$Law") rfl (by decide) (by decide) (by decide) rfl
        · exact ha (.object "java/lang/Object") rfl (by decide) (by decide) (by decide) rfl
      next => cases h
    next => cases h
  · obtain rfl : n = 1 := hm_lnE hn rfl (by decide)
    rename_i a r
    split at h
    next t nn y hha =>
      cases h
      rcases hcl a _ hha with ⟨h1, h2, h3⟩ | ⟨h1, h2, f2, h3, cell, g1, g2, g3, g4, g5, g6, g7⟩ | ⟨h1, h2, h3, cell, g1, g2, g3, g4, g5, g6, g7⟩
      · obtain ⟨ty, hty⟩ := hm_ty_at (G := G) h1
        exact va_alen (x := hm_a G (nn, y)) hx hb hK (hm_one (x := (hm_rho G a, .inl (G.2.2.2 t, hm_a G (nn, y)))) h3) 0 t rfl hty (by rw [hm_a_fst]) hd (k H locs la hR hL hz hf)
      · exact W.alen (n := Int32.ofNat nn) hx hb g1 g2 g5 rfl rfl hd (k H locs la hR hL hz hf)
      · have hnn : nn = 0 := h3
        subst hnn
        exact W.alen (n := Int32.ofNat 0) hx hb g1 g2 g5 rfl rfl hd (k H locs la hR hL hz hf)
    next => cases h
  · obtain rfl : n = 3 := hm_lnE hn rfl (by decide)
    obtain ⟨⟨j, w⟩, h1, h2⟩ := Option.map_eq_some_iff.mp h
    cases h2
    have h3 := List.all_eq_true.mp hm_sok _ (hm_lk h1)
    unfold hm_schk at h3
    dsimp only at h3
    rw [hw0] at h3
    simp only [Bool.and_eq_true, decide_eq_true_eq] at h3
    have hlink := hts _ (hm_tb_of (hm_at_mem h3.2) rfl)
    obtain ⟨cf, kf, fi, f, a, cell, g1, g2, g3, g4, g5, g6, g7, g8⟩ := hst j h3.1.1 h3.1.2
    refine W.gets hx hb hown hlink g1 g2 g3 g4 g5 (fun z => by rw [z] at g6; cases g6) g7 rfl hd ?_
    have kk := k H locs la hR hL hz hf
    have e1 : hm_v G (.ref j) = .ref (G.2.1 j) := by
      show Value.ref (hm_rho G j) = _
      rw [hm_rho_old h3.1.2]
    rw [← e1]
    exact kk
  · obtain rfl : n = 3 := hm_lnE hn rfl (by decide)
    cases h
    exact lv_castN hx hb hd (k H locs la hR hL hz hf)
  · obtain rfl : n = 3 := hm_lnE hn rfl (by decide)
    rename_i ix a r
    split at h
    next ci w cj fs hlf hha =>
      split at h
      next hc =>
        subst hc
        cases h
        obtain ⟨-, hat⟩ := hcl a _ hha
        obtain ⟨rr, hrr, -⟩ := id hat
        have hlink := hm_nlk C0 hlf
        rw [hm_nnm hrr] at hlink
        exact va_castS hx hb hown hlink (hK.1 ci rr hrr).2 (va_recv hK (hm_one hat) (q0 := 0) hrr rfl) hd (k H locs la hR hL hz hf)
      next => cases h
    next => cases h
  · obtain rfl : n = 2 := hm_lnE hn rfl (by decide)
    obtain ⟨⟨v, w⟩, h1, h2⟩ := Option.map_eq_some_iff.mp h
    cases h2
    have h3 := List.all_eq_true.mp hm_iok _ (hm_lk h1)
    unfold hm_ichk at h3
    dsimp only at h3
    rw [hw0] at h3
    exact lv_ldc hx hb hown (hts _ (hm_tb_of (hm_at_mem h3) rfl)) hd (k H locs la hR hL hz hf)
  · obtain rfl : n = 3 := hm_lnE hn rfl (by decide)
    obtain ⟨⟨v, w⟩, h1, h2⟩ := Option.map_eq_some_iff.mp h
    cases h2
    have h3 := List.all_eq_true.mp hm_iok _ (hm_lk h1)
    unfold hm_ichk at h3
    dsimp only at h3
    rw [hw0] at h3
    exact lv_ldcw hx hb hown (hts _ (hm_tb_of (hm_at_mem h3) rfl)) hd (k H locs la hR hL hz hf)
  · obtain rfl : n = 3 := hm_lnE hn rfl (by decide)
    obtain ⟨⟨v, w⟩, h1, h2⟩ := Option.map_eq_some_iff.mp h
    cases h2
    have h3 := List.all_eq_true.mp hm_lok _ (hm_lk h1)
    unfold hm_lchk at h3
    dsimp only at h3
    rw [hw0] at h3
    exact lv_ldc2 hx hb hown (hts _ (hm_tb_of (hm_at_mem h3) rfl)) hd (k H locs la hR hL hz hf)
  · cases h
end HMR
end
section
theorem hm_fv_ok {G : hm_E} {ty : FieldType} {v : Value} (h : hm_fv ty v = true) : narrow ty (hm_v G v) = hm_v G v ∧ fits ty (hm_v G v) = true := by
  unfold hm_fv at h
  split at h
  · exact ⟨rfl, rfl⟩
  · rename_i x
    have h2 : x = 0 ∨ x = 1 := of_decide_eq_true h
    rcases h2 with rfl | rfl
    · exact ⟨show narrow .boolean (.int 0) = .int 0 by decide +kernel, show fits .boolean (.int 0) = true by decide +kernel⟩
    · exact ⟨show narrow .boolean (.int 1) = .int 1 by decide +kernel, show fits .boolean (.int 1) = true by decide +kernel⟩
  · exact ⟨rfl, rfl⟩
  · exact ⟨rfl, rfl⟩
  · exact ⟨rfl, rfl⟩
  · exact ⟨rfl, rfl⟩
  · exact ⟨rfl, rfl⟩
  · cases h
theorem hm_mset (G : hm_E) (fs : List Value) (k : Nat) (v : Value) : (fs.set k v).map (hm_v G) = (fs.map (hm_v G)).set k (hm_v G v) := by
  rw [List.map_set]
section HMW
variable {p : Program} {l : Launch} {e : Env} {R : Room} {s : State} {m : MethodId} {args : Array Value} {below : List Frame} {meth : Method} {c : Code} {Q : State → Prop}
variable {pc n n0 s0 : Nat} {i : Instr} {ls st : List Value} {hp : hm_H} {σ : hm_S} {G : hm_E} {q : hm_Q}
/-- a field of an object that is there is written -/
theorem hm_putf (C0 : hm_Cx p s m args meth c q) {H : Heap} {locs : List Loc} {cells slots a ix ci k md w : Nat} {la : Array Slot} {fs rest : List Value} {v : Value} (hK : va_K G.2.2.1 hm_cls (hm_tys G) s) (hlf : hm_ftab.lookup (q.2.2.2.2.1, ix) = some (ci, k, md, w)) (hat : va_at G.2.2.1 hm_cls (a, .inr (ci, fs)) H) (hkl : k < fs.length) (hv : narrow (hm_fty ci k) v = v ∧ fits (hm_fty ci k) v = true) (hfin : hm_fin q ci k = true) (hd : decode q.2.1 pc = .ok (.putfield ix, 3))
    (kk : ∀ (H1 : Heap) (i1 : Nat), va_at G.2.2.1 hm_cls (a, .inr (ci, fs.set k v)) H1 → H1.size = H.size → (∀ z : Nat, z ≠ a → H1[z]? = H[z]?) → W p l e R s m args below meth c H1 (locs ++ [⟨a, i1⟩]) cells slots Q (F0 m (pc + 3) la rest)) : W p l e R s m args below meth c H locs cells slots Q (F0 m pc la (v :: .ref a :: rest)) := by
  obtain ⟨hx, hb, hml, hr, hlk, hown, hnm, hw0, hts, hNW⟩ := id C0
  obtain ⟨r, hrc, hkN, hlink⟩ := hm_fld C0 hlf
  have hty := hm_tyok ci r hrc
  have hap := va_apart (own := q.1.cls) hts (hm_kin hrc) (hm_fty ci) hty (hm_nmok ci r hrc) hK (show hm_cls[ci]? = some (r.1, r.2.1, r.2.2) from hrc)
  obtain ⟨r2, hr2, cell, q1, q2, q3, q4⟩ := id hat
  cases hrc.symm.trans hr2
  obtain ⟨hS, hfc, kC, hkC, hkind⟩ := hK.1 ci _ hrc
  obtain ⟨cf, kf, fi, f, hi, hsl⟩ := hS k hkN
  have hlay := hts _ (hm_kin hrc _ (u_in_lay hkN))
  have hst := (u_facts hfc hkC (u_lays hts (hm_kin hrc) hkN) hi).1
  have fin : ∀ H' : Heap, H'[a]? = some (cell.setSlot (G.2.2.1.2 ci k) v) → va_at G.2.2.1 hm_cls (a, .inr (ci, fs.set k v)) H' := fun H' e1 =>
    ⟨_, hrc, t_OB.to (V := updV (vp_V fs) k v) ⟨_, e1, q2, q3, t_set q4 hap hkN v⟩ (fun j _ => vp_updV_set hkl v j)⟩
  have hlt : f.slot < cell.slots.size := by rw [hsl]; exact k2_hasslot (q4 k hkN)
  unfold hm_fin at hfin
  rw [hrc] at hfin
  simp only [Bool.or_eq_true, Bool.not_eq_true', Bool.and_eq_true, decide_eq_true_eq] at hfin
  unfold u_lay at hlay
  cases hff : (r.2.1 k).2.2.2 with
  | false =>
    rw [if_neg (by rw [hff]; decide)] at hlay
    have h6 := u_store hfc hkC hkind hlay hi (hty k hkN) hv.1 hv.2
    rcases hlink with hlink | hlink | ⟨hlink, e1, e2, e3⟩
    · refine W.putK hx hb (f := f) ⟨hown, hlink, ⟨_, _, _, hi⟩, hst⟩ (by rw [q2]; exact h6) q1 q3 hlt rfl rfl hd fun H' e1 e2 e3 => ?_
      rw [hsl] at e1
      exact kk H' _ (fin H' e1) e2 e3
    · refine va_WputK hx hb hown hlink hi hst (by rw [q2]; exact h6) q1 q3 hlt rfl rfl hd fun H' e1 e2 e3 => ?_
      rw [hsl] at e1
      exact kk H' _ (fin H' e1) e2 e3
    · refine W.putK hx hb (f := f) ⟨hown, hlink, ⟨_, _, _, hm_asame C0 e1 e2 e3 _ hi⟩, hst⟩ (by rw [q2]; exact h6) q1 q3 hlt rfl rfl hd fun H' e1 e2 e3 => ?_
      rw [hsl] at e1
      exact kk H' _ (fin H' e1) e2 e3
  | true =>
    rw [if_pos hff] at hlay
    have hfin2 : q.1.name = "<init>" ∧ (r.2.1 k).1 = q.1.cls := by
      rcases hfin with h | h
      · rw [hff] at h; cases h
      · exact h
    have hcf : m.cls = cf := by
      obtain ⟨_, _, c', _, _, _, -, -, hf', -, -, -, hown2, -⟩ := Cond.laysFinal_spec hlay
      have e1 : c' = cf := by have := hi.symm.trans hf'; simp at this; exact this.1.symm
      rw [hfin2.2] at hown2
      rw [← e1]; exact Option.some.inj (hown.symm.trans hown2)
    have h6 := u_fits hfc hkC hkind (Or.inr hlay) hi (hty k hkN) hv.1 hv.2
    have hin2 : meth.name = "<init>" := hnm.trans hfin2.1
    rcases hlink with hlink | hlink | ⟨hlink, e1, e2, e3⟩
    · refine W.putFinK hx hb hown hlink hi hst hcf hin2 (by rw [q2]; exact h6) q1 q3 hlt rfl rfl hd fun H' e1 e2 e3 => ?_
      rw [hsl] at e1
      exact kk H' _ (fin H' e1) e2 e3
    · refine va_Wputf hx hb hown hlink hi hst (Or.inr ⟨hcf, hin2⟩) q1 (by rw [q3]; exact fun z => by cases z) hlt h6.1 (by rw [q2, q3]; exact h6.2) rfl rfl hd ?_
      have ha : a < H.size := (Array.getElem?_eq_some_iff.mp q1).1
      refine kk _ _ (fin _ (by rw [← hsl]; simp [ha])) (by simp) (fun z hz => ?_)
      rw [Array.getElem?_setIfInBounds_ne (Ne.symm hz)]
    · refine W.putFinK hx hb hown hlink (hm_asame C0 e1 e2 e3 _ hi) hst hcf hin2 (by rw [q2]; exact h6) q1 q3 hlt rfl rfl hd fun H' e1 e2 e3 => ?_
      rw [hsl] at e1
      exact kk H' _ (fin H' e1) e2 e3
theorem hm_locs {locs : List Loc} {a j : Nat} (hf : ∀ q ∈ locs, G.1 ≤ q.base) (ha : G.1 ≤ a) : ∀ q ∈ locs ++ [⟨a, j⟩], G.1 ≤ q.base := t_lc (free := fun x => G.1 ≤ x) hf ha
theorem hm_rho_ge {i : Nat} (h : 4 ≤ i) : G.1 ≤ hm_rho G i := by
  rw [hm_rho_new h]
  exact Nat.le_add_right _ _
set_option maxHeartbeats 2000000 in
theorem hm_o6 (C0 : hm_Cx p s m args meth c q) (hd : decode q.2.1 pc = .ok (i, n)) (hn : hm_ln i = n ∨ hm_ln i = 0) (h : hm_s6 q i pc ls st hp = some σ) (k : hm_K p l e R s m args below meth c Q G n0 s0 σ) : hm_K p l e R s m args below meth c Q G n0 s0 (pc, ls, st, hp) := by
  intro H locs la hR hL hz hf
  obtain ⟨hx, hb, hml, hr, hlk, hown, hnm, hw0, hts, hNW⟩ := id C0
  obtain ⟨hK, hsz, hcl, hst⟩ := id hR
  unfold hm_s6 at h
  split at h
  · obtain rfl : n = 3 := hm_lnE hn rfl (by decide)
    rename_i ix v a r
    split at h
    next ci kf md w cj fs hlf hha =>
      split at h
      next hc =>
        obtain ⟨⟨hcc, hkl⟩, hfv, hfin⟩ := hc
        subst hcc
        cases h
        obtain ⟨ha4, hat⟩ := hcl a _ hha
        refine hm_putf C0 hK hlf hat (by rw [List.length_map]; exact hkl) (hm_fv_ok hfv) hfin hd (fun H1 i1 hat1 z1 o1 => ?_)
        rw [← hm_mset] at hat1
        exact k H1 _ la (hR.set ha4 z1 o1 ⟨ha4, hat1⟩) hL hz (hm_locs hf (hm_rho_ge ha4))
      next => cases h
    next => cases h
  · obtain rfl : n = 1 := hm_lnE hn rfl (by decide)
    rename_i x j a r
    split at h
    next t nn f hha =>
      split at h
      next hc =>
        obtain ⟨rfl, hc⟩ := hc
        cases h
        rcases hcl a _ hha with ⟨h1, ha4, h3⟩ | ⟨h1, h2⟩ | ⟨h1, h2⟩
        · refine W.iast hx hb h3 ((hK.2 0 _ rfl).1 nn (fun z => .int (f z))) (fun z => by cases z) (by show ¬ (j < 0 ∨ (arrV _ nn _).slots.size ≤ _); rw [arrV_size]; exact hc) rfl rfl hd fun H1 e1 z1 o1 => ?_
          refine k H1 _ la (hR.set ha4 z1 o1 (Or.inl ⟨h1, ha4, ?_⟩)) hL hz (hm_locs hf (hm_rho_ge ha4))
          rw [e1]
          show some ((arrV (G.2.2.2 0) nn (fun z => .int (f z))).setSlot j.toNatClampNeg (.int x)) = some (arrV (G.2.2.2 0) nn (fun z => .int (upd f j.toNatClampNeg x z)))
          rw [arrV_store]
          congr 2
          funext z
          by_cases hz : z = j.toNatClampNeg
          · subst hz
            simp [updV, upd]
          · simp [updV, upd, hz]
        · exact absurd h1 (by decide)
        · exact absurd h1 (by decide)
      next => cases h
    next => cases h
  · obtain rfl : n = 1 := hm_lnE hn rfl (by decide)
    rename_i x j a r
    split at h
    next t nn f hha =>
      split at h
      next hc =>
        obtain ⟨⟨rfl, hx01⟩, hc⟩ := hc
        cases h
        rcases hcl a _ hha with ⟨h1, ha4, h3⟩ | ⟨h1, h2⟩ | ⟨h1, h2⟩
        · refine W.zast hx hb h3 ((hK.2 2 _ rfl).1 nn (fun z => .int (f z))) (fun z => by cases z) (by show ¬ (j < 0 ∨ (arrV _ nn _).slots.size ≤ _); rw [arrV_size]; exact hc) rfl rfl hd fun H1 e1 z1 o1 => ?_
          refine k H1 _ la (hR.set ha4 z1 o1 (Or.inl ⟨h1, ha4, ?_⟩)) hL hz (hm_locs hf (hm_rho_ge ha4))
          rw [e1]
          have hnar : narrow .boolean (.int x) = .int x := by
            rcases hx01 with rfl | rfl
            · decide +kernel
            · decide +kernel
          rw [hnar]
          show some ((arrV (G.2.2.2 2) nn (fun z => .int (f z))).setSlot j.toNatClampNeg (.int x)) = some (arrV (G.2.2.2 2) nn (fun z => .int (upd f j.toNatClampNeg x z)))
          rw [arrV_store]
          congr 2
          funext z
          by_cases hz : z = j.toNatClampNeg
          · subst hz
            simp [updV, upd]
          · simp [updV, upd, hz]
        · exact absurd h1 (by decide)
        · exact absurd h1 (by decide)
      next => cases h
    next => cases h
  · obtain rfl : n = 1 := hm_lnE hn rfl (by decide)
    rename_i x j a r
    split at h
    next t nn f hha =>
      split at h
      next hc =>
        obtain ⟨rfl, hc⟩ := hc
        cases h
        rcases hcl a _ hha with ⟨h1, ha4, h3⟩ | ⟨h1, h2⟩ | ⟨h1, h2⟩
        · refine W.last hx hb h3 ((hK.2 1 _ rfl).1 nn (fun z => .long (f z))) (fun z => by cases z) (by show ¬ (j < 0 ∨ (arrV _ nn _).slots.size ≤ _); rw [arrV_size]; exact hc) rfl rfl hd fun H1 e1 z1 o1 => ?_
          refine k H1 _ la (hR.set ha4 z1 o1 (Or.inl ⟨h1, ha4, ?_⟩)) hL hz (hm_locs hf (hm_rho_ge ha4))
          rw [e1]
          show some ((arrV (G.2.2.2 1) nn (fun z => .long (f z))).setSlot j.toNatClampNeg (.long x)) = some (arrV (G.2.2.2 1) nn (fun z => .long (vp_updL f j.toNatClampNeg x z)))
          rw [arrV_store]
          congr 2
          funext z
          by_cases hz : z = j.toNatClampNeg
          · subst hz
            simp [updV, vp_updL]
          · simp [updV, vp_updL, hz]
        · exact absurd h1 (by decide)
        · exact absurd h1 (by decide)
      next => cases h
    next => cases h
  · obtain rfl : n = 1 := hm_lnE hn rfl (by decide)
    rename_i b j a r
    split at h
    next t nn f cj fs hha hhb =>
      split at h
      next hc =>
        obtain ⟨ht, hc⟩ := hc
        cases h
        have hlt : j.toNatClampNeg < nn := Nat.not_le.mp fun z => hc (Or.inr z)
        have h0 : ¬ j < 0 := fun z => hc (Or.inl z)
        obtain ⟨hb4, hbt⟩ := hcl b _ hhb
        obtain ⟨rb, hrb, cellV, g1, g2, g3, -⟩ := id hbt
        have hcls := (hK.1 cj rb hrb).2
        obtain ⟨kC, hkC, -⟩ := hcls.2
        have fin : t < 7 → t ≠ 100 → t ≠ 101 → ∀ (C : String), (hm_tys G)[t]? = some (G.2.2.2 t, .object C) → (∀ comp : ClassId, s.vm.findClass C = some comp → s.vm.assignable cellV.cls comp = true ∧ ∃ kcomp, s.vm.classes[comp]? = some kcomp) → W p l e R s m args below meth c H locs (hp.2.1 - n0) (hp.2.2 - s0) Q (F0 m pc la ((.ref b :: .int j :: .ref a :: r).map (hm_v G))) := by
          intro t7 t100 t101 C hat hass
          rcases hcl a _ hha with ⟨h1, ha4, h3⟩ | ⟨h1, h2⟩ | ⟨h1, h2⟩
          · obtain ⟨kA, comp, k1, k2, k3, -⟩ := (hK.2 t _ hat).2
            obtain ⟨as, kcomp, hkcomp⟩ := hass comp k3
            refine W.aast hx hb h3 (fun z h => by cases h) (fun h => by cases h) k1 k2 rfl hkcomp ⟨h0, by show _ < (arrV _ nn _).slots.size; rw [arrV_size]; exact hlt⟩ g1 (fun z h => by rw [g3] at h; cases h) (by rw [g2]; exact hkC) as rfl rfl hd fun H1 e1 z1 o1 => ?_
            refine k H1 _ la (hR.set ha4 z1 o1 (Or.inl ⟨h1, ha4, ?_⟩)) hL hz (hm_locs hf (hm_rho_ge ha4))
            rw [e1]
            show some ((arrV (G.2.2.2 t) nn (fun z => va_rf ((f z).map (hm_rho G)))).setSlot j.toNatClampNeg (.ref (hm_rho G b))) = some (arrV (G.2.2.2 t) nn (fun z => va_rf ((va_up f j.toNatClampNeg (some b) z).map (hm_rho G))))
            rw [arrV_store]
            congr 2
            funext z
            by_cases hz : z = j.toNatClampNeg
            · subst hz
              simp [updV, va_up, va_rf]
            · simp [updV, va_up, hz]
          · exact absurd h1 t100
          · exact absurd h1 t101
        rcases ht with ⟨rfl, rfl⟩ | ⟨rfl, hcj⟩
        · cases hrb
          refine fin (by decide) (by decide) (by decide) "HourPromised$Law" rfl (fun comp hcomp => ?_)
          have e1 : comp = G.2.2.1.1 2 := Option.some.inj (hcomp.symm.trans hcls.1)
          subst e1
          exact ⟨by rw [g2]; exact va_assign hcls, kC, hkC⟩
        · refine fin (by decide) (by decide) (by decide) "java/lang/Object" rfl (fun comp hcomp => ?_)
          have hcast : va_Nw (.castable rb.1 "java/lang/Object") s := by
            have hk : cj < 10 := hcj
            have hm : Cond.castable rb.1 "java/lang/Object" ∈ tables_1 := hm_lt10 (P := fun k => ∀ r, hm_cls[k]? = some r → Cond.castable r.1 "java/lang/Object" ∈ tables_1) ⟨fun r h => by cases h; exact List.mem_of_getElem? (i := 1063) (by decide +kernel), fun r h => by cases h; exact List.mem_of_getElem? (i := 1069) (by decide +kernel), fun r h => by cases h; exact List.mem_of_getElem? (i := 1058) (by decide +kernel), fun r h => by cases h; exact List.mem_of_getElem? (i := 1066) (by decide +kernel), fun r h => by cases h; exact List.mem_of_getElem? (i := 1064) (by decide +kernel), fun r h => by cases h; exact List.mem_of_getElem? (i := 1070) (by decide +kernel), fun r h => by cases h; exact List.mem_of_getElem? (i := 1065) (by decide +kernel), fun r h => by cases h; exact List.mem_of_getElem? (i := 1062) (by decide +kernel), fun r h => by cases h; exact List.mem_of_getElem? (i := 1068) (by decide +kernel), fun r h => by cases h; exact List.mem_of_getElem? (i := 1067) (by decide +kernel)⟩ cj hk rb hrb
            exact hNW.1 _ hm rfl
          obtain ⟨c0, t0, f1, f2, f3⟩ := Cond.castable_spec (va_Nw.use (A := args) rfl hcast)
          have e1 : comp = t0 := Option.some.inj (hcomp.symm.trans f2)
          subst e1
          have e2 : c0 = G.2.2.1.1 cj := Option.some.inj (f1.symm.trans hcls.1)
          subst e2
          obtain ⟨kA, comp2, k1, k2, k3, -⟩ := (hK.2 6 _ rfl).2
          obtain ⟨kE, hkE, -⟩ := Vm.findClass_spec hcomp
          exact ⟨by rw [g2]; exact f3, kE, hkE⟩
      next => cases h
    next => cases h
  · cases h
end HMW
end
section
theorem hm_df_at {ci : Nat} {r : vw_C} (h : hm_cls[ci]? = some r) (G : hm_E) : ∀ j, j < r.2.2 → defaultValue (hm_fty ci j) = vp_V ((hm_df ci).map (hm_v G)) j := by
  intro j hj
  have e1 : hm_df ci = (List.range r.2.2).map fun k => defaultValue (hm_fty ci k) := by unfold hm_df; rw [h]
  rw [e1]
  unfold vp_V
  rw [List.getD_eq_getElem?_getD, List.getElem?_map, List.getElem?_map, List.getElem?_range hj]
  show _ = hm_v G (defaultValue (hm_fty ci j))
  cases hm_fty ci j <;> rfl
theorem hm_df_len {ci : Nat} {r : vw_C} (h : hm_cls[ci]? = some r) : (hm_df ci).length = r.2.2 := by
  unfold hm_df
  rw [h]
  simp
theorem hm_cls_lt {ci : Nat} (h : ci < 10) : ∃ r, hm_cls[ci]? = some r := ⟨_, List.getElem?_eq_getElem (l := hm_cls) (show ci < hm_cls.length from h)⟩
theorem hm_sum {G : hm_E} (r : List Value) (h : r.length ≤ 4) : ((r.map (hm_v G)).map fun v => v.category).sum ≤ 8 := by
  have key : ∀ (r : List Value), ((r.map (hm_v G)).map fun v => v.category).sum ≤ 2 * r.length := by
    intro r
    induction r with
    | nil => simp
    | cons a r ih =>
      have h1 : (hm_v G a).category ≤ 2 := by rcases lv_cat (hm_v G a) with h | h <;> omega
      simp only [List.map_cons, List.sum_cons, List.length_cons]
      omega
  have := key r
  omega
section HMN
variable {p : Program} {l : Launch} {e : Env} {R : Room} {s : State} {m : MethodId} {args : Array Value} {below : List Frame} {meth : Method} {c : Code} {Q : State → Prop}
variable {pc n n0 s0 : Nat} {i : Instr} {ls st : List Value} {hp : hm_H} {σ : hm_S} {G : hm_E} {q : hm_Q}
theorem hm_new_rho {H : Heap} {U : State} (hR : hm_R G U hp H) : hm_rho G (hp.2.1 + 4) = H.size := by
  rw [hm_rho_new (by omega), hR.2.1]
  omega
theorem hm_pushA {U : State} {H H1 : Heap} {t nn mm : Nat} {x : vp_A} (hR : hm_R G U hp H) (ht : t < 7) (e1 : H1[H.size]? = some (vp_cell (G.2.2.2 t) (hm_a G x))) (z1 : H1.size = H.size + 1) (o1 : ∀ z : Nat, z < H.size → H1[z]? = H[z]?) : hm_R G U (hm_push hp (.inl (t, x)) mm) H1 := by
  refine hR.push z1 o1 (Or.inl ⟨ht, by omega, ?_⟩)
  rw [hm_new_rho hR]
  exact e1
theorem hm_newref {H : Heap} {U : State} (hR : hm_R G U hp H) : hm_v G (.ref (hp.2.1 + 4)) = .ref H.size := by
  show Value.ref (hm_rho G (hp.2.1 + 4)) = _
  rw [hm_new_rho hR]
/-- a new array of numbers -/
theorem hm_newa (C0 : hm_Cx p s m args meth c q) {H : Heap} {locs : List Loc} {la : Array Slot} {r : List Value} {at_ : ArrayType} {t nn : Nat} {x : vp_A} {j : Int32} (hR : hm_R G s hp H) (ht : t < 7) (hw : (Cond.arrayClass (newarray.typeOf at_)).before args s = true) (hj : ¬ j < 0) (hN : j.toNatClampNeg = nn) (hbytes : nn * componentBytes (newarray.typeOf at_) ≤ 536870912) (hn0 : n0 ≤ hp.2.1) (hs0 : s0 ≤ hp.2.2) (hc : hp.2.1 + 1 - n0 ≤ R.cells) (hs : hp.2.2 + nn - s0 ≤ R.slots) (hfc : s.vm.findClass ("[" ++ (newarray.typeOf at_).toString) = some (G.2.2.2 t)) (hcell : vp_cell (G.2.2.2 t) (hm_a G x) = arrV (G.2.2.2 t) nn (fun _ => defaultValue (newarray.typeOf at_)))
    (hd : decode q.2.1 pc = .ok (.newarray at_, 2)) (k : ∀ H1 : Heap, hm_R G s (hm_push hp (.inl (t, x)) nn) H1 → W p l e R s m args below meth c H1 locs (hp.2.1 + 1 - n0) (hp.2.2 + nn - s0) Q (F0 m (pc + 2) la (hm_v G (.ref (hp.2.1 + 4)) :: r))) : W p l e R s m args below meth c H locs (hp.2.1 - n0) (hp.2.2 - s0) Q (F0 m pc la (.int j :: r)) := by
  obtain ⟨hx, hb, -⟩ := id C0
  refine va_newaK hx hb hw rfl hd rfl hj hN hbytes (by omega) (by omega) rfl (fun H1 cA e1 z1 o1 hAr hNm => ?_)
  have ecA : cA = G.2.2.2 t := Option.some.inj (hNm.symm.trans hfc)
  subst ecA
  have kk := k H1 (hm_pushA (nn := nn) hR ht (by rw [hcell]; exact e1) z1 o1)
  rw [hm_newref hR] at kk
  exact W.cs (by omega) (by omega) kk
theorem va_aoa {ty : FieldType} {A : Array Value} {U : State} (h : (Cond.arrayOver (.array ty)).before #[] U = true) : (Cond.arrayOver (.array ty)).before A U = true := h
theorem hm_outer (cc : ClassId) (N h0 : Nat) : ∀ i : Nat, Jvm.Free.Multi.outerC cc N h0 i = arrV cc N (fun j => va_rf (if j < i then some (h0 + 1 + j) else none))
  | 0 => by
    rw [Jvm.Free.Multi.outerC, arrV_new]
    exact congrArg (arrV cc N) (funext fun j => by simp [va_rf])
  | i + 1 => by
    rw [Jvm.Free.Multi.outerC, hm_outer cc N h0 i, arrV_store]
    refine congrArg (arrV cc N) (funext fun j => ?_)
    by_cases hj : j = i
    · subst hj
      simp [updV, va_rf]
    · by_cases hlt : j < i
      · simp [updV, hj, hlt, show j < i + 1 by omega]
      · simp [updV, hj, hlt, show ¬ j < i + 1 by omega]
set_option maxHeartbeats 1000000 in
/-- rows of numbers and the array that holds them -/
theorem hm_mna (C0 : hm_Cx p s m args meth c q) {H : Heap} {locs : List Loc} {la : Array Slot} {r : List Value} {t ix : Nat} {ty : FieldType} {z : vp_A} {j k1 : Int32} (hR : hm_R G s hp H) (ht : t < 7) (ht3 : t + 3 < 7) (hlink : (Cond.classLink q.1.cls ix ("[" ++ (FieldType.array ty).toString)).before args s = true) (hov : (Cond.arrayOver (.array ty)).before args s = true) (hac : (Cond.arrayClass ty).before args s = true)
    (hfA : s.vm.findClass ("[" ++ (FieldType.array ty).toString) = some (G.2.2.2 (t + 3))) (hfI : s.vm.findClass (FieldType.array ty).toString = some (G.2.2.2 t)) (hj : ¬ j < 0) (hk1 : ¬ k1 < 0) (hjn : j.toNatClampNeg ≤ 100000) (hkn : k1.toNatClampNeg ≤ 100000) (hby : k1.toNatClampNeg * componentBytes ty ≤ 536870912) (hdf : fits ty (defaultValue ty) = true) (hdd : (defaultValue ty).isDefault = true) (hin : ∀ cc : ClassId, Jvm.Free.Multi.innerC cc k1.toNatClampNeg (defaultValue ty) = vp_cell cc (hm_a G z))
    (hn0 : n0 ≤ hp.2.1) (hs0 : s0 ≤ hp.2.2) (hc : (hm_grid hp t j.toNatClampNeg k1.toNatClampNeg z).2.1 - n0 ≤ R.cells) (hs : (hm_grid hp t j.toNatClampNeg k1.toNatClampNeg z).2.2 - s0 ≤ R.slots) (hd : decode q.2.1 pc = .ok (.multianewarray ix 2, 4))
    (k : ∀ H1 : Heap, hm_R G s (hm_grid hp t j.toNatClampNeg k1.toNatClampNeg z) H1 → W p l e R s m args below meth c H1 locs ((hm_grid hp t j.toNatClampNeg k1.toNatClampNeg z).2.1 - n0) ((hm_grid hp t j.toNatClampNeg k1.toNatClampNeg z).2.2 - s0) Q (F0 m (pc + 4) la (hm_v G (.ref (hp.2.1 + 4)) :: r))) : W p l e R s m args below meth c H locs (hp.2.1 - n0) (hp.2.2 - s0) Q (F0 m pc la (.int k1 :: .int j :: r)) := by
  obtain ⟨hx, hb, -, -, -, hown, -⟩ := id C0
  have hc' : hp.2.1 + 1 + j.toNatClampNeg - n0 ≤ R.cells := hc
  have hs' : hp.2.2 + j.toNatClampNeg + j.toNatClampNeg * k1.toNatClampNeg - s0 ≤ R.slots := hs
  intro T hT Xs
  obtain ⟨vm₁, cA, comp, -, fA, fC, hO, -, X', step⟩ := Xs.multianewarray2F hx hown hlink hov hac (g := F0 m pc la (.int k1 :: .int j :: r)) rfl (by rw [hb]; exact hd) rfl hj hk1 (by omega) hby (by omega) hdf hdd (by omega) (by omega)
  have e1 : cA = G.2.2.2 (t + 3) := Option.some.inj (fA.symm.trans hfA)
  have e2 : comp = G.2.2.2 t := Option.some.inj (fC.symm.trans hfI)
  subst e1
  subst e2
  generalize hF : Jvm.Free.Multi.fill (T.setVm vm₁) (G.2.2.2 (t + 3)) (G.2.2.2 t) j.toNatClampNeg k1.toNatClampNeg (defaultValue ty) j.toNatClampNeg = F at X' step
  have hTh : (T.setVm vm₁).heap = H := hT
  obtain ⟨f1, f2, -, -⟩ := Jvm.Free.Multi.fill_facts (T.setVm vm₁) (G.2.2.2 (t + 3)) (G.2.2.2 t) j.toNatClampNeg k1.toNatClampNeg (defaultValue ty) j.toNatClampNeg
  rw [hF, hTh] at f1 f2
  have hold : ∀ x : Nat, x < H.size → F.heap[x]? = H[x]? := fun x hx9 => by
    have h9 := Jvm.Free.Multi.fill_old (T.setVm vm₁) (G.2.2.2 (t + 3)) (G.2.2.2 t) j.toNatClampNeg k1.toNatClampNeg (defaultValue ty) (a := x) (by rw [hTh]; exact hx9) j.toNatClampNeg
    rw [hF, hTh] at h9
    exact h9
  have hrow : ∀ i9 : Nat, i9 < j.toNatClampNeg → F.heap[H.size + 1 + i9]? = some (vp_cell (G.2.2.2 t) (hm_a G z)) := fun i9 hi9 => by
    have h9 := Jvm.Free.Multi.fill_inner (T.setVm vm₁) (G.2.2.2 (t + 3)) (G.2.2.2 t) j.toNatClampNeg k1.toNatClampNeg (defaultValue ty) j.toNatClampNeg i9 hi9
    rw [hF, hTh, hin] at h9
    exact h9
  have hsz := hR.2.1
  have hg : hm_R G s (hm_grid hp t j.toNatClampNeg k1.toNatClampNeg z) F.heap := by
    refine ⟨hR.1, ?_, fun i9 x hx9 => ?_, fun i9 h0 h4 => (hR.2.2.2 i9 h0 h4).kept fun a ha _ => hold a ha⟩
    · rw [f1, hsz]
      show _ = G.1 + (hp.2.1 + 1 + j.toNatClampNeg)
      omega
    · have hx8 : (if i9 = hp.2.1 + 4 then some (Sum.inl (t + 3, j.toNatClampNeg, .inr (.inr (.inr (.inr (fun i => if i < j.toNatClampNeg then some (hp.2.1 + 5 + i) else none)))))) else if hp.2.1 + 4 < i9 ∧ i9 < hp.2.1 + 5 + j.toNatClampNeg then some (.inl (t, z)) else hp.1 i9 : Option va_E) = some x := hx9
      split at hx8
      next hi =>
        cases hx8
        subst hi
        refine Or.inl ⟨ht3, by omega, ?_⟩
        rw [hm_new_rho hR, f2, hm_outer]
        show some (arrV (G.2.2.2 (t + 3)) j.toNatClampNeg (fun i => va_rf (if i < j.toNatClampNeg then some (H.size + 1 + i) else none))) = some (arrV (G.2.2.2 (t + 3)) j.toNatClampNeg (fun i => va_rf ((if i < j.toNatClampNeg then some (hp.2.1 + 5 + i) else none).map (hm_rho G))))
        refine congrArg some (congrArg (arrV _ _) (funext fun i => congrArg va_rf ?_))
        by_cases hlt : i < j.toNatClampNeg
        · rw [if_pos hlt, if_pos hlt]
          show some (H.size + 1 + i) = some (hm_rho G (hp.2.1 + 5 + i))
          rw [hm_rho_new (by omega), hsz]
          congr 1
          omega
        · rw [if_neg hlt, if_neg hlt]
          rfl
      next hi =>
        split at hx8
        next hb9 =>
          cases hx8
          refine Or.inl ⟨ht, by omega, ?_⟩
          have h9 := hrow (i9 - hp.2.1 - 5) (by omega)
          rw [hm_rho_new (by omega), show G.1 + (i9 - 4) = H.size + 1 + (i9 - hp.2.1 - 5) by omega]
          exact h9
        next =>
          have hcl := hR.2.2.1 i9 x hx8
          exact hcl.kept (hold _ hcl.lt)
  obtain ⟨t2, a1, b1⟩ := k F.heap hg F rfl (by
    have e3 : hp.2.1 - n0 + 1 + j.toNatClampNeg = (hm_grid hp t j.toNatClampNeg k1.toNatClampNeg z).2.1 - n0 := by
      show _ = hp.2.1 + 1 + j.toNatClampNeg - n0
      omega
    have e4 : hp.2.2 - s0 + j.toNatClampNeg + j.toNatClampNeg * k1.toNatClampNeg = (hm_grid hp t j.toNatClampNeg k1.toNatClampNeg z).2.2 - s0 := by
      show _ = hp.2.2 + j.toNatClampNeg + j.toNatClampNeg * k1.toNatClampNeg - s0
      omega
    rw [← e3, ← e4]
    exact X')
  refine ⟨t2, step t2 ?_, b1⟩
  rw [hm_newref hR] at a1
  rw [hT]
  exact a1
theorem hm_o7 (C0 : hm_Cx p s m args meth c q) (hd : decode q.2.1 pc = .ok (i, n)) (hn : hm_ln i = n ∨ hm_ln i = 0) (hn0 : n0 ≤ hp.2.1) (hs0 : s0 ≤ hp.2.2) (hcs : σ.2.2.2.2.1 - n0 ≤ R.cells ∧ σ.2.2.2.2.2 - s0 ≤ R.slots) (h : hm_s7 q.2.2.2.2.1 i pc ls st hp = some σ) (k : hm_K p l e R s m args below meth c Q G n0 s0 σ) : hm_K p l e R s m args below meth c Q G n0 s0 (pc, ls, st, hp) := by
  intro H locs la hR hL hz hf
  obtain ⟨hx, hb, hml, hr, hlk, hown, hnm, hw0, hts, hNW⟩ := id C0
  obtain ⟨hK, hsz, hcl, hst⟩ := id hR
  unfold hm_s7 at h
  split at h
  · obtain rfl : n = 3 := hm_lnE hn rfl (by decide)
    rename_i ix
    split at h
    next ci w hlf =>
      split at h
      next hci =>
        cases h
        obtain ⟨r, hrc⟩ := hm_cls_lt hci
        have hlink := hm_nlk C0 hlf
        rw [hm_nnm hrc] at hlink
        have hlen := hm_df_len hrc
        have hc1 : hp.2.1 + 1 - n0 ≤ R.cells := hcs.1
        have hc2 : hp.2.2 + (hm_df ci).length - s0 ≤ R.slots := hcs.2
        rw [hlen] at hc2
        have hKn := hK.1 ci _ hrc
        refine W.newcK hx hb hown hlink (hts _ (hm_kinst hrc).1) (hts _ (hm_kinst hrc).2) rfl hd (by show hp.2.1 - n0 + 1 ≤ R.cells; omega) (by show hp.2.2 - s0 + r.2.2 ≤ R.slots; omega) hKn.2.1 rfl (fun H1 kC hkC e1 z1 o1 => ?_)
        have hat : va_at G.2.2.1 hm_cls (H.size, .inr (ci, (hm_df ci).map (hm_v G))) H1 := ⟨r, hrc, (u_born (hm_fty ci) hts (hm_kin hrc) hKn hkC e1 (hm_tyok ci r hrc)).to (hm_df_at hrc G)⟩
        have hR1 : hm_R G s (hm_push hp (.inr (ci, hm_df ci)) (hm_df ci).length) H1 := by
          refine hR.push z1 o1 ⟨by omega, ?_⟩
          rw [hm_new_rho hR]
          exact hat
        have kk := k H1 locs la hR1 hL hz hf
        refine W.cs (cells' := hp.2.1 + 1 - n0) (slots' := hp.2.2 + (hm_df ci).length - s0) (by show hp.2.1 - n0 + 1 = _; omega) (by show hp.2.2 - s0 + r.2.2 = _; omega) ?_
        have e2 := hm_newref (G := G) hR
        show W p l e R s m args below meth c H1 locs _ _ Q (F0 m (pc + 3) la (.ref H.size :: List.map (hm_v G) st))
        rw [← e2]
        exact kk
      next => cases h
    next => cases h
  · obtain rfl : n = 2 := hm_lnE hn rfl (by decide)
    split at h
    next hc =>
      cases h
      exact hm_newa (at_ := .int) (t := 0) (x := (_, .inl (fun _ => 0))) C0 hR (by decide) (hts _ (hm_tb_of (List.mem_of_getElem? (i := 60) (by decide +kernel)) rfl)) hc.1 rfl (by show _ * 4 ≤ _; omega) hn0 hs0 hcs.1 hcs.2 (hK.2 0 _ rfl).2 rfl hd (fun H1 hR1 => k H1 locs la hR1 hL hz hf)
    next => cases h
  · obtain rfl : n = 2 := hm_lnE hn rfl (by decide)
    split at h
    next hc =>
      cases h
      exact hm_newa (at_ := .long) (t := 1) (x := (_, .inr (.inl (fun _ => 0)))) C0 hR (by decide) (hts _ (hm_tb_of (List.mem_of_getElem? (i := 61) (by decide +kernel)) rfl)) hc.1 rfl (by show _ * 8 ≤ _; omega) hn0 hs0 hcs.1 hcs.2 (hK.2 1 _ rfl).2 rfl hd (fun H1 hR1 => k H1 locs la hR1 hL hz hf)
    next => cases h
  · obtain rfl : n = 2 := hm_lnE hn rfl (by decide)
    split at h
    next hc =>
      cases h
      exact hm_newa (at_ := .boolean) (t := 2) (x := (_, .inl (fun _ => 0))) C0 hR (by decide) (hts _ (hm_tb_of (List.mem_of_getElem? (i := 813) (by decide +kernel)) rfl)) hc.1 rfl (by show _ * 1 ≤ _; omega) hn0 hs0 hcs.1 hcs.2 (hK.2 2 _ rfl).2 rfl hd (fun H1 hR1 => k H1 locs la hR1 hL hz hf)
    next => cases h
  · obtain rfl : n = 3 := hm_lnE hn rfl (by decide)
    rename_i ix j r
    split at h
    next ci w hlf =>
      split at h
      next hc =>
        cases h
        obtain ⟨hci, hj, hjn⟩ := hc
        have hlink := hm_nlk C0 hlf
        have hc1 : hp.2.1 + 1 - n0 ≤ R.cells := hcs.1
        have hc2 : hp.2.2 + j.toNatClampNeg - s0 ≤ R.slots := hcs.2
        have fin : ∀ (t : Nat) (C : String), t < 7 → (if ci = 2 then 5 else 6) = t → hm_nname ci = C → va_AO C s → va_RA s (G.2.2.2 t) (.object C) → W p l e R s m args below meth c H locs (hp.2.1 - n0) (hp.2.2 - s0) Q (F0 m pc la ((.int j :: r).map (hm_v G))) := by
          intro t C ht e1 e2 hao hra
          subst e1
          rw [e2] at hlink
          refine W.anew hx hb hown hlink (va_AO.use hao) rfl hd rfl hj (by omega) (by omega) (by omega) (fun cA kA comp f1 f2 f3 f4 => ?_)
          obtain ⟨kA2, comp2, g1, g2, g3, g4⟩ := hra
          have ecA : cA = G.2.2.2 (if ci = 2 then 5 else 6) := Option.some.inj (f1.symm.trans g4)
          subst ecA
          generalize hH1 : H.push ({ cls := G.2.2.2 (if ci = 2 then 5 else 6), slots := Array.replicate j.toNatClampNeg .null, vm := .none } : Cell) = H1
          have z1 : H1.size = H.size + 1 := by rw [← hH1, Array.size_push]
          have e3 : H1[H.size]? = some (arrV (G.2.2.2 (if ci = 2 then 5 else 6)) j.toNatClampNeg (fun _ => .null)) := by rw [← hH1, Array.getElem?_push_size, ← arrV_new]
          have o1 : ∀ z : Nat, z < H.size → H1[z]? = H[z]? := fun z hq => by rw [← hH1, Array.getElem?_push, if_neg (Nat.ne_of_lt hq)]
          have kk := k H1 locs la (hm_pushA (nn := j.toNatClampNeg) (x := (j.toNatClampNeg, .inr (.inr (.inr (.inr (fun _ => none)))))) hR ht e3 z1 o1) hL hz hf
          refine W.cs (cells' := hp.2.1 + 1 - n0) (slots' := hp.2.2 + j.toNatClampNeg - s0) (by omega) (by omega) ?_
          have e4 := hm_newref (G := G) hR
          show W p l e R s m args below meth c H1 locs _ _ Q (F0 m (pc + 3) la (.ref H.size :: List.map (hm_v G) r))
          rw [← e4]
          exact kk
        rcases hci with rfl | rfl
        · exact fin 5 "HourPromised$Law" (by decide) rfl rfl hNW.2.1 (hK.2 5 _ rfl).2
        · exact fin 6 "java/lang/Object" (by decide) rfl rfl hNW.2.2.1 (hK.2 6 _ rfl).2
      next => cases h
    next => cases h
  · obtain rfl : n = 4 := hm_lnE hn rfl (by decide)
    rename_i ix dm k1 j r
    split at h
    next ci w hlf =>
      split at h
      next hc =>
        obtain ⟨rfl, ⟨hj, hjn⟩, hk1, hkn⟩ := hc
        have hlink := hm_nlk C0 hlf
        have fin : ∀ (t : Nat) (ty : FieldType) (z : vp_A), t < 7 → t + 3 < 7 → hm_nname ci = "[" ++ (FieldType.array ty).toString → (Cond.arrayOver (.array ty)).before args s = true → (Cond.arrayClass ty).before args s = true → s.vm.findClass ("[" ++ (FieldType.array ty).toString) = some (G.2.2.2 (t + 3)) → s.vm.findClass (FieldType.array ty).toString = some (G.2.2.2 t) → k1.toNatClampNeg * componentBytes ty ≤ 536870912 → fits ty (defaultValue ty) = true → (defaultValue ty).isDefault = true → (∀ cc : ClassId, Jvm.Free.Multi.innerC cc k1.toNatClampNeg (defaultValue ty) = vp_cell cc (hm_a G z)) → σ = (pc + 4, ls, .ref (hp.2.1 + 4) :: r, hm_grid hp t j.toNatClampNeg k1.toNatClampNeg z) → W p l e R s m args below meth c H locs (hp.2.1 - n0) (hp.2.2 - s0) Q (F0 m pc la ((.int k1 :: .int j :: r).map (hm_v G))) := by
          intro t ty z ht ht3 hnn hov hac hfA hfI hby hdf hdd hin hσ
          subst hσ
          rw [hnn] at hlink
          exact hm_mna C0 hR ht ht3 hlink hov hac hfA hfI hj hk1 hjn hkn hby hdf hdd hin hn0 hs0 hcs.1 hcs.2 hd (fun H1 hR1 => k H1 locs la hR1 hL hz hf)
        split at h
        next hci =>
          subst hci
          cases h
          exact fin 0 .int (k1.toNatClampNeg, .inl (fun _ => 0)) (by decide) (by decide) rfl (va_aoa hNW.2.2.2.1) (hts _ (hm_tb_of (List.mem_of_getElem? (i := 60) (by decide +kernel)) rfl)) (hK.2 3 _ rfl).2 (hK.2 0 _ rfl).2 (by show _ * 4 ≤ _; omega) rfl rfl (fun cc => by rw [Jvm.Free.Multi.innerC, arrV_new]; rfl) rfl
        next =>
          split at h
          next hci =>
            subst hci
            cases h
            exact fin 1 .long (k1.toNatClampNeg, .inr (.inl (fun _ => 0))) (by decide) (by decide) rfl (va_aoa hNW.2.2.2.2) (hts _ (hm_tb_of (List.mem_of_getElem? (i := 61) (by decide +kernel)) rfl)) (hK.2 4 _ rfl).2 (hK.2 1 _ rfl).2 (by show _ * 8 ≤ _; omega) rfl rfl (fun cc => by rw [Jvm.Free.Multi.innerC, arrV_new]; rfl) rfl
          next => cases h
      next => cases h
    next => cases h
  · cases h
theorem hm_o8 (C0 : hm_Cx p s m args meth c q) (hd : decode q.2.1 pc = .ok (i, n)) (hn : hm_ln i = n ∨ hm_ln i = 0) (hfr : 1 ≤ R.frames) (hlo : 20 ≤ R.locals) (h : hm_s8 q.2.2.2.2.1 i pc ls st hp = some σ) (k : hm_K p l e R s m args below meth c Q G n0 s0 σ) : hm_K p l e R s m args below meth c Q G n0 s0 (pc, ls, st, hp) := by
  intro H locs la hR hL hz hf
  obtain ⟨hx, hb, hml, hr, hlk, hown, hnm, hw0, hts, hNW⟩ := id C0
  unfold hm_s8 at h
  split at h
  · obtain rfl : n = 3 := hm_lnE hn rfl (by decide)
    rename_i ix a r
    split at h
    next cc nst w hlf =>
      split at h
      next hc =>
        obtain ⟨⟨rfl, rfl⟩, hlen⟩ := hc
        cases h
        have h3 := List.all_eq_true.mp hm_cok _ (hm_lk hlf)
        unfold hm_cchk at h3
        dsimp only at h3
        rw [hw0] at h3
        have hlink := hts _ (hm_tb_of (hm_at_mem h3) rfl)
        have hsum : ((r.map (hm_v G)).map fun v => v.category).sum ≤ 8 := hm_sum r hlen
        exact W.objInit hx hb hown hlink (hts (.instanceMethod objectInit) (hm_tb_of (List.mem_of_getElem? (i := 26) (by decide +kernel)) rfl)) (hts _ (hm_tb_of hm_cw1 rfl)) rfl hz rfl hd hfr (by show 2 * 0 + _ + 12 ≤ _; omega) (k H locs la hR hL hz hf)
      next => cases h
    next => cases h
  · cases h
end HMN
end
section
/-! the counts of cells and slots never fall -/
theorem hm_s1_hp {i : Instr} {pc : Nat} {ls st : List Value} {hp : hm_H} {σ : hm_S} (h : hm_s1 i pc ls st hp = some σ) : σ.2.2.2 = hp := by
  unfold hm_s1 at h
  split at h <;> first | (cases h; rfl) | (split at h <;> first | (cases h; rfl) | cases h) | cases h
theorem hm_s2_hp {i : Instr} {pc : Nat} {ls st : List Value} {hp : hm_H} {σ : hm_S} (h : hm_s2 i pc ls st hp = some σ) : σ.2.2.2 = hp := by
  unfold hm_s2 at h
  split at h <;> first | (cases h; rfl) | (split at h <;> first | (cases h; rfl) | cases h) | cases h
theorem hm_map_hp {α : Type} {o : Option α} {f : α → hm_S} {hp : hm_H} {σ : hm_S} (h : o.map f = some σ) (hf : ∀ x, (f x).2.2.2 = hp) : σ.2.2.2 = hp := by
  obtain ⟨x, -, h2⟩ := Option.map_eq_some_iff.mp h
  rw [← h2]
  exact hf x
theorem hm_s3_hp {i : Instr} {pc : Nat} {ls st : List Value} {hp : hm_H} {σ : hm_S} (h : hm_s3 i pc ls st hp = some σ) : σ.2.2.2 = hp := by
  unfold hm_s3 hm_ldi hm_ldl hm_lda at h
  split at h <;> first | exact hm_map_hp h (fun _ => rfl) | (split at h <;> first | exact hm_map_hp h (fun _ => rfl) | (cases h; rfl) | cases h) | cases h
theorem hm_s4_hp {i : Instr} {pc : Nat} {ls st : List Value} {hp : hm_H} {σ : hm_S} (h : hm_s4 i pc ls st hp = some σ) : σ.2.2.2 = hp := by
  unfold hm_s4 hm_to at h
  split at h <;> first | exact hm_map_hp h (fun _ => rfl) | exact hm_map_hp h (fun _ => by split <;> rfl) | (cases h; rfl) | (split at h <;> first | exact hm_map_hp h (fun _ => rfl) | (cases h; rfl) | (split at h <;> first | exact hm_map_hp h (fun _ => rfl) | cases h) | cases h) | cases h
theorem hm_s5_hp {cid : Nat} {i : Instr} {pc : Nat} {ls st : List Value} {hp : hm_H} {σ : hm_S} (h : hm_s5 cid i pc ls st hp = some σ) : σ.2.2.2 = hp := by
  unfold hm_s5 at h
  split at h <;> first | exact hm_map_hp h (fun _ => rfl) | (cases h; rfl) | (split at h <;> first | (cases h; rfl) | (split at h <;> first | exact hm_map_hp h (fun _ => rfl) | (cases h; rfl) | cases h) | cases h) | cases h
theorem hm_s6_hp {q : hm_Q} {i : Instr} {pc : Nat} {ls st : List Value} {hp : hm_H} {σ : hm_S} (h : hm_s6 q i pc ls st hp = some σ) : σ.2.2.2.2 = hp.2 := by
  unfold hm_s6 at h
  split at h <;> first | (split at h <;> first | (split at h <;> first | (cases h; rfl) | cases h) | cases h) | cases h
theorem hm_s8_hp {cid : Nat} {i : Instr} {pc : Nat} {ls st : List Value} {hp : hm_H} {σ : hm_S} (h : hm_s8 cid i pc ls st hp = some σ) : σ.2.2.2 = hp := by
  unfold hm_s8 at h
  split at h <;> first | (split at h <;> first | (split at h <;> first | (cases h; rfl) | cases h) | cases h) | cases h
def hm_le (hp hp2 : hm_H) : Prop := hp.2.1 ≤ hp2.2.1 ∧ hp.2.2 ≤ hp2.2.2
theorem hm_push_le (hp : hm_H) (e : va_E) (n : Nat) : hm_le hp (hm_push hp e n) := ⟨Nat.le_add_right _ _, Nat.le_add_right _ _⟩
theorem hm_grid_le (hp : hm_H) (t n k : Nat) (z : vp_A) : hm_le hp (hm_grid hp t n k z) := ⟨by show hp.2.1 ≤ hp.2.1 + 1 + n; omega, by show hp.2.2 ≤ hp.2.2 + n + n * k; omega⟩
theorem hm_s7_le {cid : Nat} {i : Instr} {pc : Nat} {ls st : List Value} {hp : hm_H} {σ : hm_S} (h : hm_s7 cid i pc ls st hp = some σ) : hm_le hp σ.2.2.2 := by
  unfold hm_s7 at h
  split at h <;> first | (split at h <;> first | (cases h; exact hm_push_le _ _ _) | (split at h <;> first | (cases h; exact hm_push_le _ _ _) | (split at h <;> first | (cases h; exact hm_grid_le _ _ _ _ _) | (split at h <;> first | (cases h; exact hm_grid_le _ _ _ _ _) | cases h) | cases h) | cases h) | cases h) | cases h
theorem hm_step_cases {q : hm_Q} {i : Instr} {pc : Nat} {ls st : List Value} {hp : hm_H} {σ : hm_S} (h : hm_step q i pc ls st hp = some σ) : hm_s1 i pc ls st hp = some σ ∨ hm_s2 i pc ls st hp = some σ ∨ hm_s3 i pc ls st hp = some σ ∨ hm_s4 i pc ls st hp = some σ ∨ hm_s5 q.2.2.2.2.1 i pc ls st hp = some σ ∨ hm_s6 q i pc ls st hp = some σ ∨ hm_s7 q.2.2.2.2.1 i pc ls st hp = some σ ∨ hm_s8 q.2.2.2.2.1 i pc ls st hp = some σ := by
  unfold hm_step at h
  simp only [Option.or_eq_some_iff] at h
  rcases h with h | ⟨-, h | ⟨-, h | ⟨-, h | ⟨-, h | ⟨-, h | ⟨-, h | ⟨-, h⟩⟩⟩⟩⟩⟩⟩
  · exact Or.inl h
  · exact Or.inr (Or.inl h)
  · exact Or.inr (Or.inr (Or.inl h))
  · exact Or.inr (Or.inr (Or.inr (Or.inl h)))
  · exact Or.inr (Or.inr (Or.inr (Or.inr (Or.inl h))))
  · exact Or.inr (Or.inr (Or.inr (Or.inr (Or.inr (Or.inl h)))))
  · exact Or.inr (Or.inr (Or.inr (Or.inr (Or.inr (Or.inr (Or.inl h))))))
  · exact Or.inr (Or.inr (Or.inr (Or.inr (Or.inr (Or.inr (Or.inr h))))))
theorem hm_step_le {q : hm_Q} {i : Instr} {pc : Nat} {ls st : List Value} {hp : hm_H} {σ : hm_S} (h : hm_step q i pc ls st hp = some σ) : hm_le hp σ.2.2.2 := by
  have same : σ.2.2.2.2 = hp.2 → hm_le hp σ.2.2.2 := fun e => ⟨by rw [e]; exact Nat.le_refl _, by rw [e]; exact Nat.le_refl _⟩
  rcases hm_step_cases h with h | h | h | h | h | h | h | h
  · exact same (by rw [hm_s1_hp h])
  · exact same (by rw [hm_s2_hp h])
  · exact same (by rw [hm_s3_hp h])
  · exact same (by rw [hm_s4_hp h])
  · exact same (by rw [hm_s5_hp h])
  · exact same (hm_s6_hp h)
  · exact hm_s7_le h
  · exact same (by rw [hm_s8_hp h])
theorem hm_cpy_le {q : hm_Q} {i : Instr} {st : List Value} {hp hp2 : hm_H} {a : Nat} {rest : List Value} (h : hm_cpy q i st hp = some (a, rest, hp2)) : hm_le hp hp2 := by
  unfold hm_cpy at h
  split at h
  · split at h
    · split at h
      · cases h
        exact hm_push_le _ _ _
      · cases h
    · cases h
  · cases h
theorem hm_le.trans {a b c : hm_H} (h1 : hm_le a b) (h2 : hm_le b c) : hm_le a c := ⟨Nat.le_trans h1.1 h2.1, Nat.le_trans h1.2 h2.2⟩
/-- one step of a run, told by what it does -/
theorem hm_run_cases {f d M pc : Nat} {ls st : List Value} {hp hp2 : hm_H} {r : Option Value} (h : hm_run (f + 1) d M pc ls st hp = some (r, hp2)) : ∃ (q : hm_Q) (i : Instr), hm_mtab[M]? = some q ∧ hm_code M pc = some i ∧
    ((hm_ret i q.2.2.2.1 st = some r ∧ hp = hp2) ∨
     (∃ σ : hm_S, hm_step q i pc ls st hp = some σ ∧ hm_run f d M σ.1 σ.2.1 σ.2.2.1 σ.2.2.2 = some (r, hp2)) ∨
     (∃ (d2 c : Nat) (as rest l0 : List Value) (r1 : Option Value) (hp1 : hm_H), d = d2 + 1 ∧ hm_cal q i st hp = some (c, as, rest) ∧ hm_ent c as = some l0 ∧ hm_run f d2 c 0 l0 [] hp = some (r1, hp1) ∧ hm_run f d M (pc + 3) ls (r1.toList ++ rest) hp1 = some (r, hp2)) ∨
     (∃ (d2 a : Nat) (rest : List Value) (hp1 : hm_H), d = d2 + 1 ∧ 4 ≤ d2 ∧ hm_cpy q i st hp = some (a, rest, hp1) ∧ hm_run f d M (pc + 3) ls (.ref a :: rest) hp1 = some (r, hp2))) := by
  rw [hm_run] at h
  split at h
  next q i hq hi =>
    refine ⟨q, i, hq, hi, ?_⟩
    split at h
    next r0 hr =>
      cases h
      exact Or.inl ⟨hr, rfl⟩
    next hr =>
      split at h
      next pc2 ls2 st2 hp3 hs => exact Or.inr (Or.inl ⟨_, hs, h⟩)
      next hs =>
        split at h
        next => cases h
        next d2 =>
          split at h
          next c as rest hc =>
            split at h
            next => cases h
            next l0 hl =>
              split at h
              next => cases h
              next r1 hp1 h1 => exact Or.inr (Or.inr (Or.inl ⟨d2, c, as, rest, l0, r1, hp1, rfl, hc, hl, h1, h⟩))
          next hc =>
            split at h
            next a rest hp1 h1 =>
              split at h
              next h4 => exact Or.inr (Or.inr (Or.inr ⟨d2, a, rest, hp1, rfl, h4, h1, h⟩))
              next => cases h
            next => cases h
  next => cases h
theorem hm_run_le : ∀ {f d M pc : Nat} {ls st : List Value} {hp hp2 : hm_H} {r : Option Value}, hm_run f d M pc ls st hp = some (r, hp2) → hm_le hp hp2
  | 0, _, _, _, _, _, _, _, _, h => by cases h
  | f + 1, d, M, pc, ls, st, hp, hp2, r, h => by
    obtain ⟨q, i, -, -, h | h | h | h⟩ := hm_run_cases h
    · rw [h.2]
      exact ⟨Nat.le_refl _, Nat.le_refl _⟩
    · obtain ⟨σ, h1, h2⟩ := h
      exact (hm_step_le h1).trans (hm_run_le h2)
    · obtain ⟨d2, c, as, rest, l0, r1, hp1, -, -, -, h1, h2⟩ := h
      exact (hm_run_le h1).trans (hm_run_le h2)
    · obtain ⟨d2, a, rest, hp1, -, -, h1, h2⟩ := h
      exact (hm_cpy_le h1).trans (hm_run_le h2)
end
section
/-! THE ABSTRACT MACHINE IS SOUND: a run of it is a run of the machine -/
theorem hm_idx {u U : Vm} (hvm : u.Alike U) (P : Class → Bool) (hP : ∀ k k' : Class, k.kind = k'.kind → P k = P k') : U.classes.findIdx? P = u.classes.findIdx? P := by
  have key : ∀ vm : Vm, vm.bare.classes.findIdx? P = vm.classes.findIdx? P := by
    intro vm
    simp only [Vm.bare, Array.findIdx?_map]
    congr 1
    funext k
    exact hP _ _ rfl
  rw [← key U, hvm.bare_eq, key u]
theorem hm_aoa_moved {ty : FieldType} {u U : State} (hvm : u.vm.Alike U.vm) (h : (Cond.arrayOver (.array ty)).before #[] u = true) : (Cond.arrayOver (.array ty)).before #[] U = true := by
  unfold Cond.before Cond.holds at h ⊢
  simp only [Cond.value] at h ⊢
  rw [hvm.findClass]
  cases hc : u.vm.findClass (FieldType.array ty).toString with
  | none => rw [hc] at h; simp at h
  | some comp =>
    rw [hc] at h
    simp only [Option.bind_some] at h ⊢
    rw [hm_idx hvm _ (fun k k' hk => by rw [hk])]
    generalize hx : Array.findIdx? _ u.vm.classes = o at h ⊢
    cases o with
    | none => simp at h
    | some cc =>
      simp only [Option.bind_some] at h ⊢
      cases hk : u.vm.classes[cc]? with
      | none => rw [hk] at h; simp at h
      | some kk =>
        rw [hk] at h
        obtain ⟨k2, hk2, he⟩ := hvm.2.2 _ _ hk
        rw [hk2]
        simp only [Option.map_some] at h ⊢
        have hkind : k2.kind = kk.kind := by rw [he]
        rw [hkind, hvm.findClass]
        exact h
theorem hm_NW.warm {s U : State} (hW : s.WarmedH U.vm) (h : hm_NW s) : hm_NW U := by
  refine ⟨fun w hw hn => ?_, h.2.1.moved hW.alike, h.2.2.1.moved hW.alike, hm_aoa_moved hW.alike h.2.2.2.1, hm_aoa_moved hW.alike h.2.2.2.2⟩
  have h1 := h.1 w hw hn
  cases w <;> first | (exact va_Nw.warmF hW h1) | (exact va_Nw.warmM hW h1) | (exact va_Nw.warmC hW h1) | (exact absurd hn (by simp [hm_isN]))
theorem hm_NW.same {u U : State} (hv : u.vm = U.vm) (h : hm_NW u) : hm_NW U := by
  refine ⟨fun w hw hn => ?_, ?_, ?_, ?_, ?_⟩
  · have h1 := h.1 w hw hn
    cases w <;> first | (exact va_Nw.same rfl hv h1) | (exact absurd hn (by simp [hm_isN]))
  · exact h.2.1.moved (by rw [hv]; exact Vm.Alike.refl _)
  · exact h.2.2.1.moved (by rw [hv]; exact Vm.Alike.refl _)
  · exact hm_aoa_moved (by rw [hv]; exact Vm.Alike.refl _) h.2.2.2.1
  · exact hm_aoa_moved (by rw [hv]; exact Vm.Alike.refl _) h.2.2.2.2
def hm_Pre (G : hm_E) (as : List Value) (hp : hm_H) : Array Value → State → Prop := fun v U => v = (as.map (hm_v G)).toArray ∧ hm_R G U hp U.heap ∧ hm_NW U
def hm_Post (G : hm_E) (r : Option Value) (hp2 : hm_H) : Array Value → State → Outcome → State → Prop := fun _ _ o t => o = .returned (r.map (hm_v G)) ∧ hm_R G t hp2 t.heap
def hm_rm (d mc ms : Nat) : Room := { frames := d + 1, cells := mc, slots := ms, locals := 40 * (d + 1) }
theorem hm_Pre.blind (G : hm_E) (as : List Value) (hp : hm_H) : FrameBlind (hm_Pre G as hp) := by
  intro a U g mk h
  exact ⟨h.1, hm_R.moved (u := U) (U := U.calling g mk a) (Vm.Alike.refl U.vm) h.2.1, hm_NW.same (u := U) (U := U.calling g mk a) rfl h.2.2⟩
/-! the locals at a method's entry -/
theorem hm_al_len (G : hm_E) : ∀ as : List Value, (hm_al as).length = (lg_sl (as.map (hm_v G))).length
  | [] => rfl
  | v :: vs => by
    have ih := hm_al_len G vs
    show (hm_al (v :: vs)).length = (List.flatMap _ (hm_v G v :: vs.map (hm_v G))).length
    rw [List.flatMap_cons, List.length_append, hm_v_cat]
    unfold hm_al
    by_cases hc : v.category = 2
    · rw [if_pos hc, if_pos hc]
      simp only [List.length_cons, ih]
      show _ = 2 + (lg_sl (vs.map (hm_v G))).length
      omega
    · rw [if_neg hc, if_neg hc]
      simp only [List.length_cons, ih]
      show _ = 1 + (lg_sl (vs.map (hm_v G))).length
      omega
theorem hm_al_mem (G : hm_E) : ∀ (as : List Value) (k i : Nat) (v : Value), (hm_al as)[i]? = some v → (∀ n, v ≠ .retAddr n) → (k + i, hm_v G v) ∈ lv_args k (as.map (hm_v G))
  | [], _, i, v, h, _ => by cases i <;> cases h
  | w :: vs, k, i, v, h, hv => by
    show (k + i, hm_v G v) ∈ (k, hm_v G w) :: lv_args (if (hm_v G w).category = 2 then k + 2 else k + 1) (vs.map (hm_v G))
    rw [hm_v_cat]
    unfold hm_al at h
    by_cases hc : w.category = 2
    · rw [if_pos hc] at h ⊢
      match i, h with
      | 0, h => cases h; exact List.mem_cons_self
      | 1, h => cases h; exact absurd rfl (hv 0)
      | i + 2, h =>
        have := hm_al_mem G vs (k + 2) i v h hv
        rw [show k + (i + 2) = k + 2 + i by omega]
        exact List.mem_cons_of_mem _ this
    · rw [if_neg hc] at h ⊢
      match i, h with
      | 0, h => cases h; exact List.mem_cons_self
      | i + 1, h =>
        have := hm_al_mem G vs (k + 1) i v h hv
        rw [show k + (i + 1) = k + 1 + i by omega]
        exact List.mem_cons_of_mem _ this
theorem hm_ll_val {G : hm_E} {ls : List Value} {q : Nat × Value} (h : q ∈ hm_ll G ls) : ∃ v, ls[q.1]? = some v ∧ q.2 = hm_v G v ∧ ∀ n, v ≠ .retAddr n := by
  obtain ⟨i, -, hi⟩ := List.mem_filterMap.mp h
  cases hl : ls[i]? with
  | none => rw [hl] at hi; cases hi
  | some v =>
    rw [hl] at hi
    cases v <;> first | (cases hi; done) | (cases hi; exact ⟨_, hl, rfl, fun n hn => by cases hn⟩)
theorem hm_entL (G : hm_E) {as : List Value} {n : Nat} (hn : (hm_al as).length ≤ n) {la : Array Slot} (h : lv_has la n (lv_args 0 (as.map (hm_v G)))) : hm_L G la (hm_al as ++ List.replicate (n - (hm_al as).length) (.retAddr 0)) := by
  have hlen : (hm_al as ++ List.replicate (n - (hm_al as).length) (Value.retAddr 0)).length = n := by simp; omega
  refine ⟨by rw [hlen]; exact h.1, h.2.1, fun q hq => ?_⟩
  obtain ⟨v, hv1, hv2, hv3⟩ := hm_ll_val hq
  by_cases hq1 : q.1 < (hm_al as).length
  · rw [List.getElem?_append_left hq1] at hv1
    have hm := hm_al_mem G as 0 q.1 v hv1 hv3
    have := h.2.2 _ hm
    rw [Nat.zero_add] at this
    rw [hv2]
    exact this
  · rw [List.getElem?_append_right (by omega)] at hv1
    have := List.getElem?_replicate (a := Value.retAddr 0) (n := n - (hm_al as).length) (i := q.1 - (hm_al as).length)
    rw [this] at hv1
    split at hv1
    · cases hv1
      exact absurd rfl (hv3 0)
    · cases hv1
/-! methods' own words -/
theorem hm_cw_all : ∀ (M : Nat) (q : hm_Q), M < 174 → hm_mtab[M]? = some q → Cond.code q.1 q.2.1 q.2.2.1 q.2.2.2.1 ∈ tables_1 := by
  intro M q hM hq
  have key : ∀ q ∈ hm_mt0 ++ (hm_mt1 ++ (hm_mt2 ++ (hm_mt3 ++ (hm_mt4 ++ hm_mt5)))), Cond.code q.1 q.2.1 q.2.2.1 q.2.2.2.1 ∈ tables_1 := by
    intro q h
    simp only [List.mem_append] at h
    rcases h with h | h | h | h | h | h
    · exact hm_cwl0 q h
    · exact hm_cwl1 q h
    · exact hm_cwl2 q h
    · exact hm_cwl3 q h
    · exact hm_cwl4 q h
    · exact hm_cwl5 q h
  have e : hm_mtab = (hm_mt0 ++ (hm_mt1 ++ (hm_mt2 ++ (hm_mt3 ++ (hm_mt4 ++ hm_mt5))))) ++ [(x, code, maxLocals, ret, 19, 1, 0)] := by
    unfold hm_mtab
    simp only [List.append_assoc]
  have hl : (hm_mt0 ++ (hm_mt1 ++ (hm_mt2 ++ (hm_mt3 ++ (hm_mt4 ++ hm_mt5))))).length = 174 := rfl
  rw [e, List.getElem?_append_left (by rw [hl]; exact hM)] at hq
  exact key q (List.mem_of_getElem? hq)
theorem hm_mok_all : ∀ (M : Nat) (q : hm_Q), M < 174 → M ≠ 1 → hm_mtab[M]? = some q → ∃ w, hm_mchk q w = true := by
  intro M q hM h1 hq
  have hlen : hm_mw.length = 174 := rfl
  obtain ⟨w, hw⟩ : ∃ w, hm_mw[M]? = some w := ⟨_, List.getElem?_eq_getElem (l := hm_mw) (by rw [hlen]; exact hM)⟩
  have hz : (hm_mtab.zip hm_mw)[M]? = some (q, w) := List.getElem?_zip_eq_some.mpr ⟨hq, hw⟩
  have key : ∀ a b : Nat, a ≤ M → M < a + b → (((hm_mtab.zip hm_mw).drop a).take b).all (fun q => hm_mchk q.1 q.2 || decide (q.1.1.cls = "java/lang/Object")) = true → hm_mchk q w = true ∨ q.1.cls = "java/lang/Object" := by
    intro a b ha hb hall
    have hm : (q, w) ∈ ((hm_mtab.zip hm_mw).drop a).take b := by
      refine List.mem_of_getElem? (i := M - a) ?_
      rw [List.getElem?_take_of_lt (by omega), List.getElem?_drop, show a + (M - a) = M by omega]
      exact hz
    have := List.all_eq_true.mp hall _ hm
    simp only [Bool.or_eq_true, decide_eq_true_eq] at this
    exact this
  have hor : hm_mchk q w = true ∨ q.1.cls = "java/lang/Object" := by
    rcases Nat.lt_or_ge M 30 with h | h
    · exact key 0 30 (by omega) (by omega) hm_mok0
    rcases Nat.lt_or_ge M 60 with h | h
    · exact key 30 30 (by omega) (by omega) hm_mok1
    rcases Nat.lt_or_ge M 90 with h | h
    · exact key 60 30 (by omega) (by omega) hm_mok2
    rcases Nat.lt_or_ge M 120 with h | h
    · exact key 90 30 (by omega) (by omega) hm_mok3
    rcases Nat.lt_or_ge M 150 with h | h
    · exact key 120 30 (by omega) (by omega) hm_mok4
    · exact key 150 24 (by omega) (by omega) hm_mok5
  rcases hor with h | h
  · exact ⟨w, h⟩
  · exfalso
    have : ∀ k : Nat, k < 174 → k ≠ 1 → ∀ q, hm_mtab[k]? = some q → q.1.cls ≠ "java/lang/Object" := by
      have h9 : ((List.range 174).all fun k => decide (k = 1) || (match hm_mtab[k]? with | some q => decide (q.1.cls ≠ "java/lang/Object") | none => true)) = true := by decide +kernel
      intro k hk hk1 q hq
      have := List.all_eq_true.mp h9 k (List.mem_range.mpr hk)
      simp only [hk1, decide_false, Bool.false_or, hq, decide_eq_true_eq] at this
      exact this
    exact this M hM h1 q hq h
/-- the words of a method, one by one -/
theorem hm_mfacts {M : Nat} {q : hm_Q} (hM : M < 174) (h1 : M ≠ 1) (hq : hm_mtab[M]? = some q) : (Cond.initialized q.1.cls ∈ tables_1 ∧ (q.1.cls ≠ "java/lang/invoke/MethodHandle" ∧ q.1.cls ≠ "java/lang/invoke/VarHandle") ∧ hm_own[q.2.2.2.2.1]? = some q.1.cls ∧ q.2.2.1 ≤ 21 ∧ plainFor q.1 = true ∧ (parseMethodDescriptor q.1.desc).map (fun d => d.parameters.length) = some (if q.2.2.2.2.2.2 = 0 then q.2.2.2.2.2.1 else q.2.2.2.2.2.1 - 1)) ∧
    ((q.2.2.2.2.2.2 = 0 → Cond.static q.1 ∈ tables_1) ∧ (q.2.2.2.2.2.2 = 1 → Cond.instanceMethod q.1 ∈ tables_1 ∧ Cond.selects q.1.cls q.1 q.1 ∈ lw_tbl) ∧ (q.2.2.2.2.2.2 = 2 → Cond.instanceMethod q.1 ∈ tables_1 ∧ q.1.name = "<init>" ∧ q.2.2.2.1 = none)) := by
  obtain ⟨w, hw⟩ := hm_mok_all M q hM h1 hq
  obtain ⟨y, b, mL, rt, cid, na, kd⟩ := q
  unfold hm_mchk hm_nmH at hw
  simp only [Bool.and_eq_true, decide_eq_true_eq] at hw
  obtain ⟨⟨⟨⟨⟨⟨⟨a1, a2⟩, a3⟩, a4⟩, a5⟩, a6⟩, a7⟩, a8⟩ := hw
  refine ⟨⟨hm_at_mem a1, a2, a3, a4, a5, a6⟩, fun hk => ?_, fun hk => ?_, fun hk => ?_⟩
  · have hk : kd = 0 := hk
    subst hk
    exact hm_at_mem a8
  · have hk : kd = 1 := hk
    subst hk
    simp only [Bool.and_eq_true, decide_eq_true_eq] at a8
    exact ⟨hm_at_mem a8.1, List.mem_of_getElem? a8.2⟩
  · have hk : kd = 2 := hk
    subst hk
    simp only [Bool.and_eq_true, decide_eq_true_eq] at a8
    exact ⟨hm_at_mem a8.1.1, a8.1.2, a8.2⟩
theorem hm_goodIn {w : Cond} (h : w ∈ tables_1) (hg : goodWord w = true) : GoodIn hm_tb (w :: hm_tb) := by
  intro u hu
  rcases List.mem_cons.mp hu with rfl | hu
  · exact ⟨hm_tb_of h hg, good_of_word hg⟩
  · exact ⟨hu, good_of_word (List.mem_filter.mp hu).2⟩
end
section
theorem hm_code_ok {M pc : Nat} {i : Instr} {q : hm_Q} (hq : hm_mtab[M]? = some q) (h : hm_code M pc = some i) : ∃ n, decode q.2.1 pc = .ok (i, n) ∧ (hm_ln i = n ∨ hm_ln i = 0) := by
  unfold hm_code at h
  rw [hq] at h
  dsimp only at h
  split at h
  next i2 n he =>
    split at h
    next hc => cases h; exact ⟨n, he, hc⟩
    next => cases h
  next => cases h
theorem hm_own_cls {k : Nat} {r : vw_C} (h : hm_cls[k]? = some r) : hm_own[k]? = some r.1 := by
  have hk : k < 10 := (List.getElem?_eq_some_iff.mp h).1
  exact hm_lt10 (P := fun k => ∀ r, hm_cls[k]? = some r → hm_own[k]? = some r.1) ⟨fun r h => by cases h; rfl, fun r h => by cases h; rfl, fun r h => by cases h; rfl, fun r h => by cases h; rfl, fun r h => by cases h; rfl, fun r h => by cases h; rfl, fun r h => by cases h; rfl, fun r h => by cases h; rfl, fun r h => by cases h; rfl, fun r h => by cases h; rfl⟩ k hk r h
def hm_At (l : Launch) (G : hm_E) (f : Nat) : Prop := ∀ (d M pc : Nat) (ls st : List Value) (hp hp2 : hm_H) (r : Option Value) (q : hm_Q), hm_run f d M pc ls st hp = some (r, hp2) → hm_mtab[M]? = some q →
  ∀ (p : Program) (e : Env) (R : Room) (s : State) (m : MethodId) (args : Array Value) (below : List Frame) (meth : Method) (c : Code) (Q : State → Prop) (n0 s0 : Nat), hm_Cx p s m args meth c q → n0 ≤ hp.2.1 → s0 ≤ hp.2.2 → hp2.2.1 - n0 ≤ R.cells → hp2.2.2 - s0 ≤ R.slots → d + 1 ≤ R.frames → 40 * (d + 1) ≤ R.locals →
  (∀ (pc2 : Nat) (ls2 st2 : List Value) (i : Instr) (n : Nat), decode q.2.1 pc2 = .ok (i, n) → (hm_ln i = n ∨ hm_ln i = 0) → hm_ret i q.2.2.2.1 st2 = some r → hm_K p l e R s m args below meth c Q G n0 s0 (pc2, ls2, st2, hp2)) →
  hm_K p l e R s m args below meth c Q G n0 s0 (pc, ls, st, hp)
/-- a run of a method is its contract -/
theorem hm_metOf {l : Launch} {G : hm_E} {f d M : Nat} (ih : hm_At l G f) {q : hm_Q} {as l0 : List Value} {hp hp2 : hm_H} {r : Option Value} (hM : M < 174) (hM1 : M ≠ 1) (hq : hm_mtab[M]? = some q) (hl : hm_ent M as = some l0) (h : hm_run f d M 0 l0 [] hp = some (r, hp2)) :
    Met l q.1 (Cond.code q.1 q.2.1 q.2.2.1 q.2.2.2.1 :: hm_tb) (hm_rm d (hp2.2.1 - hp.2.1) (hp2.2.2 - hp.2.2)) (hm_Pre G as hp) (hm_Post G r hp2) (hp2.2.1 - hp.2.1) (hp2.2.2 - hp.2.2) (fun a => G.1 ≤ a) := by
  obtain ⟨⟨w1, w2, w3, w4, w5, w6⟩, -⟩ := hm_mfacts hM hM1 hq
  refine va_MetF (cc := q.2.1) (maxL := q.2.2.1) (ret := q.2.2.2.1) w5 rfl ?_
  intro p e s m args below meth c s₁ B hml hv
  obtain ⟨rfl, hR, hNW⟩ := hv
  have hts := atoms_spec (ws := Cond.code q.1 q.2.1 q.2.2.1 q.2.2.2.1 :: hm_tb) B.pre
  have C0 : hm_Cx p s m (as.map (hm_v G)).toArray meth c q := ⟨B.exec, B.bytes, hml, B.returns, B.notSynchronized, findClass_of_methodNamed B.named, (name_of_methodNamed B.named B.method).1, w3, fun w hw => hts w (List.mem_cons_of_mem _ hw), hNW⟩
  unfold hm_ent at hl
  rw [hq] at hl
  dsimp only at hl
  split at hl
  next hlen =>
    cases hl
    have hle := hm_al_len G as
    have hent := lv_entry (as.map (hm_v G)) (n := q.2.2.1) (by rw [← hle]; exact hlen)
    rw [lg_entry_eq]
    generalize (lg_sl (as.map (hm_v G)) ++ List.replicate (q.2.2.1 - (lg_sl (as.map (hm_v G))).length) Slot.unset).toArray = la at hent ⊢
    have hL := hm_entL G hlen hent
    have key := ih d M 0 _ [] hp hp2 r q h hq p e (hm_rm d (hp2.2.1 - hp.2.1) (hp2.2.2 - hp.2.2)) s m (as.map (hm_v G)).toArray below meth c (MQ below (hm_Post G r hp2) (as.map (hm_v G)).toArray s (hp2.2.1 - hp.2.1) (hp2.2.2 - hp.2.2) (fun a => G.1 ≤ a)) hp.2.1 hp.2.2 C0 (Nat.le_refl _) (Nat.le_refl _) (Nat.le_refl _) (Nat.le_refl _) (Nat.le_refl _) (Nat.le_refl _) (by
      intro pc2 ls2 st2 i n hd hn hret H locs la2 hR2 hL2 hz2 hf2
      have hx := B.exec
      have hb := B.bytes
      have hr := B.returns
      have hlocks := B.notSynchronized
      unfold hm_ret at hret
      split at hret
      · obtain rfl : n = 1 := hm_lnE hn rfl (by decide)
        cases hret
        exact W.vret hx hb (by rw [hr]; assumption) (fun t ht hW => ⟨rfl, by rw [ht]; exact hR2.moved hW.alike⟩) hf2 hd
      · obtain rfl : n = 1 := hm_lnE hn rfl (by decide)
        cases hret
        exact W.iret hx hb (by rw [hr]; assumption) (fun t ht hW => ⟨rfl, by rw [ht]; exact hR2.moved hW.alike⟩) hf2 hd
      · obtain rfl : n = 1 := hm_lnE hn rfl (by decide)
        rename_i x _
        split at hret
        next h01 =>
          cases hret
          refine W.zret (ty := .boolean) hx hb (by rw [hr]; assumption) ?_ (fun t ht hW => ⟨rfl, by rw [ht]; exact hR2.moved hW.alike⟩) hf2 hd
          rcases h01 with rfl | rfl
          · decide +kernel
          · decide +kernel
        next => cases hret
      · obtain rfl : n = 1 := hm_lnE hn rfl (by decide)
        cases hret
        exact W.lret hx hb (by rw [hr]; assumption) (fun t ht hW => ⟨rfl, by rw [ht]; exact hR2.moved hW.alike⟩) hf2 hd
      · obtain rfl : n = 1 := hm_lnE hn rfl (by decide)
        cases hret
        exact W.aret hx hb (by rw [hr]; assumption) (Or.inl ⟨_, rfl⟩) (Or.inr ⟨_, rfl⟩) (fun t ht hW => ⟨rfl, by rw [ht]; exact hR2.moved hW.alike⟩) hf2 hd
      · obtain rfl : n = 1 := hm_lnE hn rfl (by decide)
        cases hret
        exact W.aret hx hb (by rw [hr]; assumption) (Or.inl ⟨_, rfl⟩) (Or.inl rfl) (fun t ht hW => ⟨rfl, by rw [ht]; exact hR2.moved hW.alike⟩) hf2 hd
      · obtain rfl : n = 1 := hm_lnE hn rfl (by decide)
        cases hret
        exact W.aret hx hb (by rw [hr]; assumption) (Or.inr ⟨_, rfl⟩) (Or.inr ⟨_, rfl⟩) (fun t ht hW => ⟨rfl, by rw [ht]; exact hR2.moved hW.alike⟩) hf2 hd
      · obtain rfl : n = 1 := hm_lnE hn rfl (by decide)
        cases hret
        exact W.aret hx hb (by rw [hr]; assumption) (Or.inr ⟨_, rfl⟩) (Or.inl rfl) (fun t ht hW => ⟨rfl, by rw [ht]; exact hR2.moved hW.alike⟩) hf2 hd
      · cases hret)
    have kk := key s.heap [] la hR hL (by rw [hml]; exact hent.1) (fun q h => by cases h)
    exact W.cs (show 0 = hp.2.1 - hp.2.1 by omega) (show 0 = hp.2.2 - hp.2.2 by omega) kk
  next => cases hl
section HMC
variable {p : Program} {l : Launch} {e : Env} {R : Room} {s : State} {m : MethodId} {args : Array Value} {below : List Frame} {meth : Method} {c : Code} {Q : State → Prop}
variable {pc n n0 s0 : Nat} {i : Instr} {ls st : List Value} {hp : hm_H} {σ : hm_S} {G : hm_E} {q : hm_Q}
/-- the link of a call -/
theorem hm_clk (C0 : hm_Cx p s m args meth c q) {ix cc nst w : Nat} {rq : hm_Q} (hrq : hm_mtab[cc]? = some rq) (h : hm_ctab.lookup (q.2.2.2.2.1, ix) = some (cc, nst, w)) : (Cond.methodLink q.1.cls ix rq.1).before args s = true ∨ va_Nw (.methodLinkNest q.1.cls ix rq.1 "HourPromised") s := by
  obtain ⟨-, -, -, -, -, -, -, hw0, hts, hNW⟩ := C0
  have h1 := List.all_eq_true.mp hm_cok _ (hm_lk h)
  unfold hm_cchk at h1
  dsimp only at h1
  rw [hw0, hrq] at h1
  dsimp only at h1
  split at h1
  · exact Or.inl (hts _ (hm_tb_of (hm_at_mem h1) rfl))
  · exact Or.inr (hNW.1 _ (hm_at_mem h1) rfl)
set_option maxHeartbeats 2000000 in
theorem hm_callK {f d2 : Nat} (ih : hm_At l G f) (C0 : hm_Cx p s m args meth c q) (hd : decode q.2.1 pc = .ok (i, n)) (hn : hm_ln i = n ∨ hm_ln i = 0) {cc : Nat} {as rest l0 : List Value} {r1 : Option Value} {hp1 : hm_H} (hc : hm_cal q i st hp = some (cc, as, rest)) (hl : hm_ent cc as = some l0) (h1 : hm_run f d2 cc 0 l0 [] hp = some (r1, hp1)) (hn0 : n0 ≤ hp.2.1) (hs0 : s0 ≤ hp.2.2) (hc1 : hp1.2.1 - n0 ≤ R.cells) (hs1 : hp1.2.2 - s0 ≤ R.slots) (hfr : d2 + 1 + 1 ≤ R.frames) (hlo : 40 * (d2 + 1 + 1) ≤ R.locals) (k : hm_K p l e R s m args below meth c Q G n0 s0 (pc + 3, ls, r1.toList ++ rest, hp1)) : hm_K p l e R s m args below meth c Q G n0 s0 (pc, ls, st, hp) := by
  intro H locs la hR hL hz hf
  obtain ⟨hx, hb, hml, hr, hlk, hown, hnm, hw0, hts, hNW⟩ := id C0
  obtain ⟨hK, hsz, hcl, hst⟩ := id hR
  obtain ⟨hle1, hle2⟩ := hm_run_le h1
  unfold hm_cal at hc
  split at hc
  next => cases hc
  next c2 kd htg =>
    split at hc
    next => cases hc
    next rq hrq =>
      split at hc
      next hcond =>
        obtain ⟨⟨hlt, hne1, hne2⟩, ⟨hkd, hnast⟩, hrl, hrcv⟩ := hcond
        cases hc
        obtain ⟨⟨w1, w2, w3, w4, w5, w6⟩, w7, w8, w9⟩ := hm_mfacts hlt hne1 hrq
        have hM := hm_metOf ih hlt hne1 hrq hl h1
        have hcw := hm_cw_all _ _ hlt hrq
        have hG := hm_goodIn hcw rfl
        have hini := hts _ (hm_tb_of w1 rfl)
        have hroom : (hm_rm d2 (hp1.2.1 - hp.2.1) (hp1.2.2 - hp.2.2)).frames + 1 ≤ R.frames ∧ 8 + (rq.2.2.1 + 11) + (hm_rm d2 (hp1.2.1 - hp.2.1) (hp1.2.2 - hp.2.2)).locals ≤ R.locals := ⟨hfr, by show 8 + (rq.2.2.1 + 11) + 40 * (d2 + 1) ≤ R.locals; omega⟩
        have hsum : 2 * (F0 m pc la (st.map (hm_v G))).monitorRoom + ((((st.drop rq.2.2.2.2.2.1)).map (hm_v G)).map fun v => v.category).sum ≤ 8 := lv_room (hm_sum _ hrl)
        have hfit : hp.2.1 - n0 + (hp1.2.1 - hp.2.1) ≤ R.cells ∧ hp.2.2 - s0 + (hp1.2.2 - hp.2.2) ≤ R.slots := ⟨by omega, by omega⟩
        have hpre : ∀ U : State, U.heap = H → s.WarmedH U.vm → hm_Pre G ((st.take rq.2.2.2.2.2.1).reverse) hp (((st.take rq.2.2.2.2.2.1).reverse).map (hm_v G)).toArray U := fun U hU hW => ⟨rfl, by rw [hU]; exact hR.moved hW.alike, hNW.warm hW⟩
        have hsz2 : (F0 m pc la (st.map (hm_v G))).locals.size = q.2.2.1 := hz.trans hml
        have hlen : (st.take rq.2.2.2.2.2.1).reverse.length = rq.2.2.2.2.2.1 := by simp; omega
        have hstk : st.map (hm_v G) = (((st.take rq.2.2.2.2.2.1).reverse).map (hm_v G)).reverse ++ (st.drop rq.2.2.2.2.2.1).map (hm_v G) := by
          rw [← List.map_reverse, List.reverse_reverse, ← List.map_append, List.take_append_drop]
        have fin : ∀ a9 : Array Value, va_Run p l e R s m args below meth c H locs (hp.2.1 - n0) (hp.2.2 - s0) (hp1.2.1 - hp.2.1) (hp1.2.2 - hp.2.2) (F0 m pc la (st.map (hm_v G))) ((st.drop rq.2.2.2.2.2.1).map (hm_v G)) (hm_Post G r1 hp1 a9) (fun a => G.1 ≤ a) → W p l e R s m args below meth c H locs (hp.2.1 - n0) (hp.2.2 - s0) Q (F0 m pc la (st.map (hm_v G))) := by
          intro a9 hrun T hT X
          obtain ⟨v, st₀, t, T', L, h0, X', hLf, e1, e2, ⟨hv, hRt⟩, stp⟩ := hrun T hT X
          have hv2 : v = r1.map (hm_v G) := Outcome.returned.inj hv
          subst hv2
          have hal : s.vm.Alike t.vm := by rw [← e2]; exact X'.warmed.alike
          have hR1 : hm_R G s hp1 T'.heap := by rw [e1]; exact hRt.moved hal.symm
          have ec : hp.2.1 - n0 + (hp1.2.1 - hp.2.1) = hp1.2.1 - n0 := by omega
          have es : hp.2.2 - s0 + (hp1.2.2 - hp.2.2) = hp1.2.2 - s0 := by omega
          rw [ec, es] at X'
          obtain ⟨t2, a1, b1⟩ := k T'.heap (locs ++ L) la hR1 hL hz (t_lL (free := fun x => G.1 ≤ x) hf hLf) T' rfl X'
          refine ⟨t2, stp t2 ?_, b1⟩
          have e3 : (r1.toList ++ st.drop rq.2.2.2.2.2.1).map (hm_v G) = (r1.map (hm_v G)).toList ++ (st.drop rq.2.2.2.2.2.1).map (hm_v G) := by
            rw [List.map_append]
            cases r1 <;> rfl
          have a2 : Steps p.tables e below (T'.setTop (F0 m (pc + 3) la ((r1.toList ++ st.drop rq.2.2.2.2.2.1).map (hm_v G)))) t2 := a1
          rw [e3] at a2
          exact a2
        unfold hm_tgt at htg
        split at htg
        · obtain rfl : n = 3 := hm_lnE hn rfl (by decide)
          obtain ⟨⟨c3, nst, w⟩, hlf, he⟩ := Option.map_eq_some_iff.mp htg
          cases he
          have hk0 : rq.2.2.2.2.2.2 = 0 := hkd
          rw [if_pos hk0] at w6
          have hstat := hts _ (hm_tb_of (w7 hk0) rfl)
          rcases hm_clk C0 hrq hlf with hlink | hlink
          · exact fin _ (va_runS ⟨hx, hb, hml, hown, hts⟩ hM ⟨callB_of _ hts hG rfl rfl rfl hini hlink ⟨w2.1, w2.2, w6⟩ hroom, hstat⟩ ⟨hm_Pre.blind _ _ _, hpre⟩ rfl (by rw [List.length_map]; exact hlen) hsz2 hstk hsum hd hfit)
          · exact fin _ (va_runSN ⟨hx, hb, hml, hown, hts⟩ hM ⟨va_cnB _ hts hG rfl rfl rfl hlink hini ⟨w2.1, w2.2, w6⟩ hroom, hstat, trivial⟩ ⟨hm_Pre.blind _ _ _, hpre⟩ rfl (by rw [List.length_map]; exact hlen) hsz2 hstk hsum hd hfit)
        · obtain rfl : n = 3 := hm_lnE hn rfl (by decide)
          obtain ⟨⟨c3, nst, w⟩, hlf, he⟩ := Option.map_eq_some_iff.mp htg
          cases he
          have hk1 : rq.2.2.2.2.2.2 = 1 := hkd
          rw [if_neg (by omega)] at w6
          have hinst := hts _ (hm_tb_of (w8 hk1).1 rfl)
          have hsel : (Cond.selects rq.1.cls rq.1 rq.1).before args s = true := hts _ (List.mem_filter.mpr ⟨(w8 hk1).2, rfl⟩)
          generalize has : (st.take rq.2.2.2.2.2.1).reverse = as at *
          unfold hm_rcv at hrcv
          split at hrcv
          · omega
          · rename_i a as2 _
            split at hrcv
            next cj fs hha =>
              have hcj : cj = rq.2.2.2.2.1 := of_decide_eq_true hrcv
              obtain ⟨-, hat⟩ := hcl a _ hha
              obtain ⟨rr, hrr, -⟩ := id hat
              have hnmc : rr.1 = rq.1.cls := by
                have := hm_own_cls hrr
                rw [hcj, w3] at this
                exact (Option.some.inj this).symm
              have hrecv := va_recv hK (hm_one hat) (q0 := 0) hrr rfl
              rw [hnmc] at hrecv
              have hlen2 : (as2.map (hm_v G)).length = rq.2.2.2.2.2.1 - 1 := by
                rw [List.length_map]
                have : as2.length + 1 = rq.2.2.2.2.2.1 := hlen
                omega
              have hstk2 : st.map (hm_v G) = (as2.map (hm_v G)).reverse ++ .ref (hm_rho G a) :: (st.drop rq.2.2.2.2.2.1).map (hm_v G) := by
                rw [hstk]
                simp [hm_v]
              rcases hm_clk C0 hrq hlf with hlink | hlink
              · exact fin _ (va_runV (C := rq.1.cls) (b := hm_rho G a) (As := as2.map (hm_v G)) ⟨hx, hb, hml, hown, hts⟩ hM ⟨callB_of _ hts hG rfl rfl rfl hini hlink ⟨w2.1, w2.2, w6⟩ hroom, hinst, hsel⟩ ⟨hm_Pre.blind _ _ _, hrecv, hpre⟩ rfl hlen2 hsz2 hstk2 hsum hd hfit)
              · exact fin _ (va_runVN (C := rq.1.cls) (b := hm_rho G a) (As := as2.map (hm_v G)) ⟨hx, hb, hml, hown, hts⟩ hM ⟨va_cnB _ hts hG rfl rfl rfl hlink hini ⟨w2.1, w2.2, w6⟩ hroom, hinst, hsel⟩ ⟨hm_Pre.blind _ _ _, hrecv, hpre⟩ rfl hlen2 hsz2 hstk2 hsum hd hfit)
            next => cases hrcv
          · omega
          · cases hrcv
        · obtain rfl : n = 3 := hm_lnE hn rfl (by decide)
          obtain ⟨⟨c3, nst, w⟩, hlf, he⟩ := Option.map_eq_some_iff.mp htg
          cases he
          have hk2 : rq.2.2.2.2.2.2 = 2 := hkd
          rw [if_neg (by omega)] at w6
          obtain ⟨w91, w92, w93⟩ := w9 hk2
          have hinst := hts _ (hm_tb_of w91 rfl)
          generalize has : (st.take rq.2.2.2.2.2.1).reverse = as at *
          unfold hm_rcv at hrcv
          split at hrcv
          · omega
          · omega
          · rename_i a as2 _
            have hlen2 : (as2.map (hm_v G)).length = rq.2.2.2.2.2.1 - 1 := by
              rw [List.length_map]
              have : as2.length + 1 = rq.2.2.2.2.2.1 := hlen
              omega
            have hstk2 : st.map (hm_v G) = (as2.map (hm_v G)).reverse ++ .ref (hm_rho G a) :: (st.drop rq.2.2.2.2.2.1).map (hm_v G) := by
              rw [hstk]
              simp [hm_v]
            rw [w93] at hM hG
            rcases hm_clk C0 hrq hlf with hlink | hlink
            · exact fin _ (va_runI (b := hm_rho G a) (As := as2.map (hm_v G)) ⟨hx, hb, hml, hown, hts⟩ hM ⟨callB_of _ hts hG rfl rfl rfl hini hlink ⟨w2.1, w2.2, w6⟩ hroom, w92, hinst⟩ ⟨hm_Pre.blind _ _ _, hpre⟩ rfl hlen2 hsz2 hstk2 hsum hd hfit)
            · exact fin _ (va_runIN (b := hm_rho G a) (As := as2.map (hm_v G)) ⟨hx, hb, hml, hown, hts⟩ hM ⟨va_cnB _ hts hG rfl rfl rfl hlink hini ⟨w2.1, w2.2, w6⟩ hroom, w92, hinst⟩ ⟨hm_Pre.blind _ _ _, hpre⟩ rfl hlen2 hsz2 hstk2 hsum hd hfit)
          · cases hrcv
        · cases htg
      next => cases hc
end HMC
end
section
def hm_mir (l : Launch) (G : hm_E) (mi : Nat) : Prop := True
section HMP
variable {p : Program} {l : Launch} {e : Env} {R : Room} {s : State} {m : MethodId} {args : Array Value} {below : List Frame} {meth : Method} {c : Code} {Q : State → Prop}
variable {pc n n0 s0 : Nat} {i : Instr} {ls st : List Value} {hp : hm_H} {σ : hm_S} {G : hm_E} {q : hm_Q}
theorem hm_cpyK (hmir : ∃ mi : Nat, hm_mir l G mi) (C0 : hm_Cx p s m args meth c q) (hd : decode q.2.1 pc = .ok (i, n)) (hn : hm_ln i = n ∨ hm_ln i = 0) {a : Nat} {rest : List Value} {hp1 : hm_H} (h : hm_cpy q i st hp = some (a, rest, hp1)) (hn0 : n0 ≤ hp.2.1) (hs0 : s0 ≤ hp.2.2) (hc1 : hp1.2.1 - n0 ≤ R.cells) (hs1 : hp1.2.2 - s0 ≤ R.slots) (hfr : 6 ≤ R.frames) (hlo : 240 ≤ R.locals) (k : hm_K p l e R s m args below meth c Q G n0 s0 (pc + 3, ls, .ref a :: rest, hp1)) : hm_K p l e R s m args below meth c Q G n0 s0 (pc, ls, st, hp) := by
  sorry
end HMP
end
section
section HMM
variable {p : Program} {l : Launch} {e : Env} {R : Room} {s : State} {m : MethodId} {args : Array Value} {below : List Frame} {meth : Method} {c : Code} {Q : State → Prop}
variable {pc n n0 s0 : Nat} {i : Instr} {ls st : List Value} {hp : hm_H} {σ : hm_S} {G : hm_E} {q : hm_Q}
theorem hm_stepK (C0 : hm_Cx p s m args meth c q) (hd : decode q.2.1 pc = .ok (i, n)) (hn : hm_ln i = n ∨ hm_ln i = 0) (hn0 : n0 ≤ hp.2.1) (hs0 : s0 ≤ hp.2.2) (hcs : σ.2.2.2.2.1 - n0 ≤ R.cells ∧ σ.2.2.2.2.2 - s0 ≤ R.slots) (hfr : 1 ≤ R.frames) (hlo : 20 ≤ R.locals) (h : hm_step q i pc ls st hp = some σ) (k : hm_K p l e R s m args below meth c Q G n0 s0 σ) : hm_K p l e R s m args below meth c Q G n0 s0 (pc, ls, st, hp) := by
  rcases hm_step_cases h with h | h | h | h | h | h | h | h
  · exact hm_o1 C0.1 C0.2.1 hd hn h k
  · exact hm_o2 C0.1 C0.2.1 hd hn h k
  · exact hm_o3 C0.1 C0.2.1 hd hn h k
  · exact hm_o4 C0.1 C0.2.1 hd hn h k
  · exact hm_o5 C0 hd hn h k
  · exact hm_o6 C0 hd hn h k
  · exact hm_o7 C0 hd hn hn0 hs0 hcs h k
  · exact hm_o8 C0 hd hn hfr hlo h k
end HMM
/-- THE ABSTRACT MACHINE IS SOUND -/
theorem hm_sound (l : Launch) (G : hm_E) (hmir : ∃ mi : Nat, hm_mir l G mi) : ∀ f : Nat, hm_At l G f
  | 0 => by
    intro d M pc ls st hp hp2 r q h
    cases h
  | f + 1 => by
    have ih := hm_sound l G hmir f
    intro d M pc ls st hp hp2 r q h hq p e R s m args below meth c Q n0 s0 C0 hn0 hs0 hc hs hfr hlo hex
    obtain ⟨q2, i, hq2, hi, hcase⟩ := hm_run_cases h
    cases hq.symm.trans hq2
    obtain ⟨n, hd, hn⟩ := hm_code_ok hq hi
    rcases hcase with ⟨hr, rfl⟩ | ⟨σ, h1, h2⟩ | ⟨d2, cc, as, rest, l0, r1, hp1, rfl, h1, h2, h3, h4⟩ | ⟨d2, a, rest, hp1, rfl, h4d, h1, h2⟩
    · exact hex pc ls st i n hd hn hr
    · have hle := hm_step_le h1
      have hle2 := hm_run_le h2
      have k := ih d M σ.1 σ.2.1 σ.2.2.1 σ.2.2.2 hp2 r q h2 hq p e R s m args below meth c Q n0 s0 C0 (Nat.le_trans hn0 hle.1) (Nat.le_trans hs0 hle.2) hc hs hfr hlo hex
      exact hm_stepK C0 hd hn hn0 hs0 ⟨by have := hle2.1; omega, by have := hle2.2; omega⟩ (by omega) (by omega) h1 k
    · have hle := hm_run_le h3
      have hle2 := hm_run_le h4
      have k := ih (d2 + 1) M (pc + 3) ls (r1.toList ++ rest) hp1 hp2 r q h4 hq p e R s m args below meth c Q n0 s0 C0 (Nat.le_trans hn0 hle.1) (Nat.le_trans hs0 hle.2) hc hs hfr hlo hex
      exact hm_callK ih C0 hd hn h1 h2 h3 hn0 hs0 (by have := hle2.1; omega) (by have := hle2.2; omega) hfr hlo k
    · have hle := hm_cpy_le h1
      have hle2 := hm_run_le h2
      have k := ih (d2 + 1) M (pc + 3) ls (.ref a :: rest) hp1 hp2 r q h2 hq p e R s m args below meth c Q n0 s0 C0 (Nat.le_trans hn0 hle.1) (Nat.le_trans hs0 hle.2) hc hs hfr hlo hex
      exact hm_cpyK hmir C0 hd hn h1 hn0 hs0 (by have := hle2.1; omega) (by have := hle2.2; omega) (by omega) (by omega) k
end
section
/-! THE PURE CALCULUS: what a run of the abstract machine comes to, goal first -/
theorem hm_run_up : ∀ {f d M pc : Nat} {ls st : List Value} {hp : hm_H} {x : Option Value × hm_H}, hm_run f d M pc ls st hp = some x → hm_run (f + 1) d M pc ls st hp = some x
  | 0, _, _, _, _, _, _, _, h => by cases h
  | f + 1, d, M, pc, ls, st, hp, (r, hp2), h => by
    obtain ⟨q, i, hq, hi, hcase⟩ := hm_run_cases h
    rw [hm_run] at h ⊢
    rw [hq, hi] at h ⊢
    dsimp only at h ⊢
    cases hr : hm_ret i q.2.2.2.1 st with
    | some r0 => rw [hr] at h; exact h
    | none =>
      rw [hr] at h
      dsimp only at h ⊢
      cases hs : hm_step q i pc ls st hp with
      | some σ =>
        rw [hs] at h
        exact hm_run_up h
      | none =>
        rw [hs] at h
        dsimp only at h ⊢
        cases d with
        | zero => exact h
        | succ d2 =>
          dsimp only at h ⊢
          cases hc : hm_cal q i st hp with
          | some y =>
            obtain ⟨c, as, rest⟩ := y
            rw [hc] at h
            dsimp only at h ⊢
            cases he : hm_ent c as with
            | none => rw [he] at h; cases h
            | some l0 =>
              rw [he] at h
              dsimp only at h ⊢
              cases h1 : hm_run f d2 c 0 l0 [] hp with
              | none => rw [h1] at h; cases h
              | some y =>
                obtain ⟨r1, hp1⟩ := y
                rw [h1] at h
                rw [hm_run_up h1]
                exact hm_run_up h
          | none =>
            rw [hc] at h
            dsimp only at h ⊢
            cases hy : hm_cpy q i st hp with
            | none => rw [hy] at h; cases h
            | some y =>
              obtain ⟨a, rest, hp1⟩ := y
              rw [hy] at h
              dsimp only at h ⊢
              split at h
              next h4 => rw [if_pos h4]; exact hm_run_up h
              next => cases h
theorem hm_run_ge {f g d M pc : Nat} {ls st : List Value} {hp : hm_H} {x : Option Value × hm_H} (h : hm_run f d M pc ls st hp = some x) (hg : f ≤ g) : hm_run g d M pc ls st hp = some x := by
  obtain ⟨k, rfl⟩ := Nat.exists_eq_add_of_le hg
  induction k with
  | zero => exact h
  | succ k ih => exact hm_run_up (ih (by omega))
/-- a run comes to an end with Q -/
def hm_T (d M pc : Nat) (ls st : List Value) (hp : hm_H) (Q : Option Value → hm_H → Prop) : Prop := ∃ (f : Nat) (r : Option Value) (hp2 : hm_H), hm_run f d M pc ls st hp = some (r, hp2) ∧ Q r hp2
section HT
variable {d M pc : Nat} {ls st r ls2 st2 : List Value} {hp hp2 : hm_H} {Q : Option Value → hm_H → Prop} {i : Instr} {q : hm_Q}
theorem hm_T.mono {Q2 : Option Value → hm_H → Prop} (h : hm_T d M pc ls st hp Q) (hQ : ∀ r hp2, Q r hp2 → Q2 r hp2) : hm_T d M pc ls st hp Q2 := by
  obtain ⟨f, r, hp2, h1, h2⟩ := h
  exact ⟨f, r, hp2, h1, hQ r hp2 h2⟩
theorem hm_code_q (hI : hm_code M pc = some i) : ∃ q, hm_mtab[M]? = some q := by
  unfold hm_code at hI
  split at hI
  next => cases hI
  next q hq => exact ⟨q, hq⟩
theorem hm_T.ret {v : Option Value} (hq : hm_mtab[M]? = some q) (hI : hm_code M pc = some i) (hr : hm_ret i q.2.2.2.1 st = some v) (h : Q v hp) : hm_T d M pc ls st hp Q := by
  refine ⟨1, v, hp, ?_, h⟩
  rw [hm_run, hq, hI]
  dsimp only
  rw [hr]
theorem hm_T.of {pc2 : Nat} (hI : hm_code M pc = some i) (hr : ∀ ret, hm_ret i ret st = none) (hs : ∀ q, hm_mtab[M]? = some q → hm_step q i pc ls st hp = some (pc2, ls2, st2, hp2)) (h : hm_T d M pc2 ls2 st2 hp2 Q) : hm_T d M pc ls st hp Q := by
  obtain ⟨f, v, hp3, h1, h2⟩ := h
  obtain ⟨q, hq⟩ := hm_code_q hI
  refine ⟨f + 1, v, hp3, ?_, h2⟩
  rw [hm_run, hq, hI]
  dsimp only
  rw [hr, hs q hq]
  exact h1
theorem hm_T.call {as rest l0 : List Value} {cc : Nat} (hq : hm_mtab[M]? = some q) (hI : hm_code M pc = some i) (hr : ∀ ret, hm_ret i ret st = none) (hs : hm_step q i pc ls st hp = none) (hc : hm_cal q i st hp = some (cc, as, rest)) (he : hm_ent cc as = some l0) (h : hm_T d cc 0 l0 [] hp (fun v hp2 => hm_T (d + 1) M (pc + 3) ls (v.toList ++ rest) hp2 Q)) : hm_T (d + 1) M pc ls st hp Q := by
  obtain ⟨f, v, hp3, h1, f2, v2, hp4, h2, h3⟩ := h
  refine ⟨max f f2 + 1, v2, hp4, ?_, h3⟩
  rw [hm_run, hq, hI]
  dsimp only
  rw [hr, hs]
  dsimp only
  rw [hc]
  dsimp only
  rw [he]
  dsimp only
  rw [hm_run_ge h1 (Nat.le_max_left f f2)]
  exact hm_run_ge h2 (Nat.le_max_right f f2)
theorem hm_T.copy {rest : List Value} {a : Nat} (hq : hm_mtab[M]? = some q) (hI : hm_code M pc = some i) (hr : ∀ ret, hm_ret i ret st = none) (hs : hm_step q i pc ls st hp = none) (hc : hm_cal q i st hp = none) (hy : hm_cpy q i st hp = some (a, rest, hp2)) (hd : 4 ≤ d) (h : hm_T (d + 1) M (pc + 3) ls (.ref a :: rest) hp2 Q) : hm_T (d + 1) M pc ls st hp Q := by
  obtain ⟨f, v, hp3, h1, h2⟩ := h
  refine ⟨f + 1, v, hp3, ?_, h2⟩
  rw [hm_run, hq, hI]
  dsimp only
  rw [hr, hs]
  dsimp only
  rw [hc]
  dsimp only
  rw [hy]
  dsimp only
  rw [if_pos hd]
  exact h1
theorem hm_sel1 {σ : hm_S}  (h : hm_s1 i pc ls st hp = some σ) : hm_step q i pc ls st hp = some σ := by
  unfold hm_step
  rw [h]
  rfl
theorem hm_sel2 {σ : hm_S} (h1 : hm_s1 i pc ls st hp = none) (h : hm_s2 i pc ls st hp = some σ) : hm_step q i pc ls st hp = some σ := by
  unfold hm_step
  rw [h1, h]
  rfl
theorem hm_sel3 {σ : hm_S} (h1 : hm_s1 i pc ls st hp = none) (h2 : hm_s2 i pc ls st hp = none) (h : hm_s3 i pc ls st hp = some σ) : hm_step q i pc ls st hp = some σ := by
  unfold hm_step
  rw [h1, h2, h]
  rfl
theorem hm_sel4 {σ : hm_S} (h1 : hm_s1 i pc ls st hp = none) (h2 : hm_s2 i pc ls st hp = none) (h3 : hm_s3 i pc ls st hp = none) (h : hm_s4 i pc ls st hp = some σ) : hm_step q i pc ls st hp = some σ := by
  unfold hm_step
  rw [h1, h2, h3, h]
  rfl
theorem hm_sel5 {σ : hm_S} (h1 : hm_s1 i pc ls st hp = none) (h2 : hm_s2 i pc ls st hp = none) (h3 : hm_s3 i pc ls st hp = none) (h4 : hm_s4 i pc ls st hp = none) (h : hm_s5 q.2.2.2.2.1 i pc ls st hp = some σ) : hm_step q i pc ls st hp = some σ := by
  unfold hm_step
  rw [h1, h2, h3, h4, h]
  rfl
theorem hm_sel6 {σ : hm_S} (h1 : hm_s1 i pc ls st hp = none) (h2 : hm_s2 i pc ls st hp = none) (h3 : hm_s3 i pc ls st hp = none) (h4 : hm_s4 i pc ls st hp = none) (h5 : hm_s5 q.2.2.2.2.1 i pc ls st hp = none) (h : hm_s6 q i pc ls st hp = some σ) : hm_step q i pc ls st hp = some σ := by
  unfold hm_step
  rw [h1, h2, h3, h4, h5, h]
  rfl
theorem hm_sel7 {σ : hm_S} (h1 : hm_s1 i pc ls st hp = none) (h2 : hm_s2 i pc ls st hp = none) (h3 : hm_s3 i pc ls st hp = none) (h4 : hm_s4 i pc ls st hp = none) (h5 : hm_s5 q.2.2.2.2.1 i pc ls st hp = none) (h6 : hm_s6 q i pc ls st hp = none) (h : hm_s7 q.2.2.2.2.1 i pc ls st hp = some σ) : hm_step q i pc ls st hp = some σ := by
  unfold hm_step
  rw [h1, h2, h3, h4, h5, h6, h]
  rfl
theorem hm_sel8 {σ : hm_S} (h1 : hm_s1 i pc ls st hp = none) (h2 : hm_s2 i pc ls st hp = none) (h3 : hm_s3 i pc ls st hp = none) (h4 : hm_s4 i pc ls st hp = none) (h5 : hm_s5 q.2.2.2.2.1 i pc ls st hp = none) (h6 : hm_s6 q i pc ls st hp = none) (h7 : hm_s7 q.2.2.2.2.1 i pc ls st hp = none) (h : hm_s8 q.2.2.2.2.1 i pc ls st hp = some σ) : hm_step q i pc ls st hp = some σ := by
  unfold hm_step
  rw [h1, h2, h3, h4, h5, h6, h7, h]
  rfl
theorem r_iconst {n : Int} {v : Int32} (hI : hm_code M pc = some (.iconst n)) (hv : Int32.ofInt n = v) (h : hm_T d M (pc + 1) ls (.int v :: st) hp Q) : hm_T d M pc ls st hp Q :=
  hm_T.of hI (fun _ => rfl) (fun q2 _ => hm_sel1 (by rw [← hv]; rfl)) h
theorem r_bipush {n : Int} {v : Int32} (hI : hm_code M pc = some (.bipush n)) (hv : (Int8.ofInt n).toInt32 = v) (h : hm_T d M (pc + 2) ls (.int v :: st) hp Q) : hm_T d M pc ls st hp Q :=
  hm_T.of hI (fun _ => rfl) (fun q2 _ => hm_sel1 (by rw [← hv]; rfl)) h
theorem r_sipush {n : Int} {v : Int32} (hI : hm_code M pc = some (.sipush n)) (hv : (Int16.ofInt n).toInt32 = v) (h : hm_T d M (pc + 3) ls (.int v :: st) hp Q) : hm_T d M pc ls st hp Q :=
  hm_T.of hI (fun _ => rfl) (fun q2 _ => hm_sel1 (by rw [← hv]; rfl)) h
theorem r_lconst {n : Fin 2} {v : Int64} (hI : hm_code M pc = some (.lconst n)) (hv : Int64.ofNat (n : Nat) = v) (h : hm_T d M (pc + 1) ls (.long v :: st) hp Q) : hm_T d M pc ls st hp Q :=
  hm_T.of hI (fun _ => rfl) (fun q2 _ => hm_sel1 (by rw [← hv]; rfl)) h
theorem r_null (hI : hm_code M pc = some (.aconst_null)) (h : hm_T d M (pc + 1) ls (.null :: st) hp Q) : hm_T d M pc ls st hp Q :=
  hm_T.of hI (fun _ => rfl) (fun q2 _ => hm_sel1 (rfl)) h
theorem r_dup {a : Value} (hI : hm_code M pc = some (.dup)) (ha : a.category = 1) (h : hm_T d M (pc + 1) ls (a :: a :: r) hp Q) : hm_T d M pc ls (a :: r) hp Q :=
  hm_T.of hI (fun _ => rfl) (fun q2 _ => hm_sel1 (if_pos ha)) h
theorem r_pop {a : Value} (hI : hm_code M pc = some (.pop)) (ha : a.category = 1) (h : hm_T d M (pc + 1) ls r hp Q) : hm_T d M pc ls (a :: r) hp Q :=
  hm_T.of hI (fun _ => rfl) (fun q2 _ => hm_sel1 (if_pos ha)) h
theorem r_dup_x1 {a b : Value} (hI : hm_code M pc = some (.dup_x1)) (ha : a.category = 1) (hb : b.category = 1) (h : hm_T d M (pc + 1) ls (a :: b :: a :: r) hp Q) : hm_T d M pc ls (a :: b :: r) hp Q :=
  hm_T.of hI (fun _ => rfl) (fun q2 _ => hm_sel1 (if_pos ⟨ha, hb⟩)) h
theorem r_dup2 {a b : Value} (hI : hm_code M pc = some (.dup2)) (ha : a.category = 1) (hb : b.category = 1) (h : hm_T d M (pc + 1) ls (a :: b :: a :: b :: r) hp Q) : hm_T d M pc ls (a :: b :: r) hp Q :=
  hm_T.of hI (fun _ => rfl) (fun q2 _ => hm_sel1 (if_pos ⟨ha, hb⟩)) h
theorem r_iadd {x y : Int32} (hI : hm_code M pc = some (.iadd)) (h : hm_T d M (pc + 1) ls (.int (x + y) :: r) hp Q) : hm_T d M pc ls (.int y :: .int x :: r) hp Q :=
  hm_T.of hI (fun _ => rfl) (fun q2 _ => hm_sel2 rfl (rfl)) h
theorem r_isub {x y : Int32} (hI : hm_code M pc = some (.isub)) (h : hm_T d M (pc + 1) ls (.int (x - y) :: r) hp Q) : hm_T d M pc ls (.int y :: .int x :: r) hp Q :=
  hm_T.of hI (fun _ => rfl) (fun q2 _ => hm_sel2 rfl (rfl)) h
theorem r_imul {x y : Int32} (hI : hm_code M pc = some (.imul)) (h : hm_T d M (pc + 1) ls (.int (x * y) :: r) hp Q) : hm_T d M pc ls (.int y :: .int x :: r) hp Q :=
  hm_T.of hI (fun _ => rfl) (fun q2 _ => hm_sel2 rfl (rfl)) h
theorem r_iand {x y : Int32} (hI : hm_code M pc = some (.iand)) (h : hm_T d M (pc + 1) ls (.int (x &&& y) :: r) hp Q) : hm_T d M pc ls (.int y :: .int x :: r) hp Q :=
  hm_T.of hI (fun _ => rfl) (fun q2 _ => hm_sel2 rfl (rfl)) h
theorem r_ior {x y : Int32} (hI : hm_code M pc = some (.ior)) (h : hm_T d M (pc + 1) ls (.int (x ||| y) :: r) hp Q) : hm_T d M pc ls (.int y :: .int x :: r) hp Q :=
  hm_T.of hI (fun _ => rfl) (fun q2 _ => hm_sel2 rfl (rfl)) h
theorem r_ixor {x y : Int32} (hI : hm_code M pc = some (.ixor)) (h : hm_T d M (pc + 1) ls (.int (x ^^^ y) :: r) hp Q) : hm_T d M pc ls (.int y :: .int x :: r) hp Q :=
  hm_T.of hI (fun _ => rfl) (fun q2 _ => hm_sel2 rfl (rfl)) h
theorem r_ishl {x y : Int32} (hI : hm_code M pc = some (.ishl)) (h : hm_T d M (pc + 1) ls (.int (x <<< (y &&& 31)) :: r) hp Q) : hm_T d M pc ls (.int y :: .int x :: r) hp Q :=
  hm_T.of hI (fun _ => rfl) (fun q2 _ => hm_sel2 rfl (rfl)) h
theorem r_ishr {x y : Int32} (hI : hm_code M pc = some (.ishr)) (h : hm_T d M (pc + 1) ls (.int (x >>> (y &&& 31)) :: r) hp Q) : hm_T d M pc ls (.int y :: .int x :: r) hp Q :=
  hm_T.of hI (fun _ => rfl) (fun q2 _ => hm_sel2 rfl (rfl)) h
theorem r_iushr {x y : Int32} (hI : hm_code M pc = some (.iushr)) (h : hm_T d M (pc + 1) ls (.int (x.toUInt32 >>> (y.toUInt32 &&& Int32.toUInt32 31)).toInt32 :: r) hp Q) : hm_T d M pc ls (.int y :: .int x :: r) hp Q :=
  hm_T.of hI (fun _ => rfl) (fun q2 _ => hm_sel2 rfl (rfl)) h
theorem r_idiv {x y : Int32} (hI : hm_code M pc = some (.idiv)) (hy : ¬ y = 0) (h : hm_T d M (pc + 1) ls (.int (x / y) :: r) hp Q) : hm_T d M pc ls (.int y :: .int x :: r) hp Q :=
  hm_T.of hI (fun _ => rfl) (fun q2 _ => hm_sel2 rfl (if_neg hy)) h
theorem r_irem {x y : Int32} (hI : hm_code M pc = some (.irem)) (hy : ¬ y = 0) (h : hm_T d M (pc + 1) ls (.int (x - x / y * y) :: r) hp Q) : hm_T d M pc ls (.int y :: .int x :: r) hp Q :=
  hm_T.of hI (fun _ => rfl) (fun q2 _ => hm_sel2 rfl (if_neg hy)) h
theorem r_ineg {x : Int32} (hI : hm_code M pc = some (.ineg)) (h : hm_T d M (pc + 1) ls (.int (-x) :: r) hp Q) : hm_T d M pc ls (.int x :: r) hp Q :=
  hm_T.of hI (fun _ => rfl) (fun q2 _ => hm_sel2 rfl (rfl)) h
theorem r_i2l {x : Int32} (hI : hm_code M pc = some (.i2l)) (h : hm_T d M (pc + 1) ls (.long x.toInt64 :: r) hp Q) : hm_T d M pc ls (.int x :: r) hp Q :=
  hm_T.of hI (fun _ => rfl) (fun q2 _ => hm_sel2 rfl (rfl)) h
theorem r_l2i {x : Int64} (hI : hm_code M pc = some (.l2i)) (h : hm_T d M (pc + 1) ls (.int x.toInt32 :: r) hp Q) : hm_T d M pc ls (.long x :: r) hp Q :=
  hm_T.of hI (fun _ => rfl) (fun q2 _ => hm_sel2 rfl (rfl)) h
theorem r_ladd {x y : Int64} (hI : hm_code M pc = some (.ladd)) (h : hm_T d M (pc + 1) ls (.long (x + y) :: r) hp Q) : hm_T d M pc ls (.long y :: .long x :: r) hp Q :=
  hm_T.of hI (fun _ => rfl) (fun q2 _ => hm_sel2 rfl (rfl)) h
theorem r_lmul {x y : Int64} (hI : hm_code M pc = some (.lmul)) (h : hm_T d M (pc + 1) ls (.long (x * y) :: r) hp Q) : hm_T d M pc ls (.long y :: .long x :: r) hp Q :=
  hm_T.of hI (fun _ => rfl) (fun q2 _ => hm_sel2 rfl (rfl)) h
theorem r_land {x y : Int64} (hI : hm_code M pc = some (.land)) (h : hm_T d M (pc + 1) ls (.long (x &&& y) :: r) hp Q) : hm_T d M pc ls (.long y :: .long x :: r) hp Q :=
  hm_T.of hI (fun _ => rfl) (fun q2 _ => hm_sel2 rfl (rfl)) h
theorem r_lor {x y : Int64} (hI : hm_code M pc = some (.lor)) (h : hm_T d M (pc + 1) ls (.long (x ||| y) :: r) hp Q) : hm_T d M pc ls (.long y :: .long x :: r) hp Q :=
  hm_T.of hI (fun _ => rfl) (fun q2 _ => hm_sel2 rfl (rfl)) h
theorem r_ldiv {x y : Int64} (hI : hm_code M pc = some (.ldiv)) (hy : ¬ y = 0) (h : hm_T d M (pc + 1) ls (.long (x / y) :: r) hp Q) : hm_T d M pc ls (.long y :: .long x :: r) hp Q :=
  hm_T.of hI (fun _ => rfl) (fun q2 _ => hm_sel2 rfl (if_neg hy)) h
theorem r_lshl {x : Int64} {y : Int32} (hI : hm_code M pc = some (.lshl)) (h : hm_T d M (pc + 1) ls (.long (x <<< (y.toInt64 &&& 63)) :: r) hp Q) : hm_T d M pc ls (.int y :: .long x :: r) hp Q :=
  hm_T.of hI (fun _ => rfl) (fun q2 _ => hm_sel2 rfl (rfl)) h
theorem r_lshr {x : Int64} {y : Int32} (hI : hm_code M pc = some (.lshr)) (h : hm_T d M (pc + 1) ls (.long (x >>> (y.toInt64 &&& 63)) :: r) hp Q) : hm_T d M pc ls (.int y :: .long x :: r) hp Q :=
  hm_T.of hI (fun _ => rfl) (fun q2 _ => hm_sel2 rfl (rfl)) h
theorem r_lushr {x : Int64} {y : Int32} (hI : hm_code M pc = some (.lushr)) (h : hm_T d M (pc + 1) ls (.long (x.toUInt64 >>> (y.toInt64.toUInt64 &&& Int64.toUInt64 63)).toInt64 :: r) hp Q) : hm_T d M pc ls (.int y :: .long x :: r) hp Q :=
  hm_T.of hI (fun _ => rfl) (fun q2 _ => hm_sel2 rfl (rfl)) h
theorem r_lcmp {x y : Int64} (hI : hm_code M pc = some (.lcmp)) (h : hm_T d M (pc + 1) ls (.int (lg_cmp x y) :: r) hp Q) : hm_T d M pc ls (.long y :: .long x :: r) hp Q :=
  hm_T.of hI (fun _ => rfl) (fun q2 _ => hm_sel2 rfl (rfl)) h
theorem r_iload {k : Nat} {x : Int32} (hI : hm_code M pc = some (.iload k)) (hl : ls[(k : Nat)]? = some (.int x)) (h : hm_T d M (pc + 2) ls (.int x :: st) hp Q) : hm_T d M pc ls st hp Q :=
  hm_T.of hI (fun _ => rfl) (fun q2 _ => hm_sel3 rfl rfl (by show hm_ldi ls k 2 pc st hp = _; unfold hm_ldi; rw [hl])) h
theorem r_iload_n {k : Fin 4} {x : Int32} (hI : hm_code M pc = some (.iload_n k)) (hl : ls[(k : Nat)]? = some (.int x)) (h : hm_T d M (pc + 1) ls (.int x :: st) hp Q) : hm_T d M pc ls st hp Q :=
  hm_T.of hI (fun _ => rfl) (fun q2 _ => hm_sel3 rfl rfl (by show hm_ldi ls k 1 pc st hp = _; unfold hm_ldi; rw [hl])) h
theorem r_lload {k : Nat} {x : Int64} (hI : hm_code M pc = some (.lload k)) (hl : ls[(k : Nat)]? = some (.long x)) (h : hm_T d M (pc + 2) ls (.long x :: st) hp Q) : hm_T d M pc ls st hp Q :=
  hm_T.of hI (fun _ => rfl) (fun q2 _ => hm_sel3 rfl rfl (by show hm_ldl ls k 2 pc st hp = _; unfold hm_ldl; rw [hl])) h
theorem r_lload_n {k : Fin 4} {x : Int64} (hI : hm_code M pc = some (.lload_n k)) (hl : ls[(k : Nat)]? = some (.long x)) (h : hm_T d M (pc + 1) ls (.long x :: st) hp Q) : hm_T d M pc ls st hp Q :=
  hm_T.of hI (fun _ => rfl) (fun q2 _ => hm_sel3 rfl rfl (by show hm_ldl ls k 1 pc st hp = _; unfold hm_ldl; rw [hl])) h
theorem r_aload {k : Nat} {x : Nat} (hI : hm_code M pc = some (.aload k)) (hl : ls[(k : Nat)]? = some (.ref x)) (h : hm_T d M (pc + 2) ls (.ref x :: st) hp Q) : hm_T d M pc ls st hp Q :=
  hm_T.of hI (fun _ => rfl) (fun q2 _ => hm_sel3 rfl rfl (by show hm_lda ls k 2 pc st hp = _; unfold hm_lda; rw [hl])) h
theorem r_aloadN {k : Nat} (hI : hm_code M pc = some (.aload k)) (hl : ls[(k : Nat)]? = some .null) (h : hm_T d M (pc + 2) ls (.null :: st) hp Q) : hm_T d M pc ls st hp Q :=
  hm_T.of hI (fun _ => rfl) (fun q2 _ => hm_sel3 rfl rfl (by show hm_lda ls k 2 pc st hp = _; unfold hm_lda; rw [hl])) h
theorem r_aload_n {k : Fin 4} {x : Nat} (hI : hm_code M pc = some (.aload_n k)) (hl : ls[(k : Nat)]? = some (.ref x)) (h : hm_T d M (pc + 1) ls (.ref x :: st) hp Q) : hm_T d M pc ls st hp Q :=
  hm_T.of hI (fun _ => rfl) (fun q2 _ => hm_sel3 rfl rfl (by show hm_lda ls k 1 pc st hp = _; unfold hm_lda; rw [hl])) h
theorem r_aload_nN {k : Fin 4} (hI : hm_code M pc = some (.aload_n k)) (hl : ls[(k : Nat)]? = some .null) (h : hm_T d M (pc + 1) ls (.null :: st) hp Q) : hm_T d M pc ls st hp Q :=
  hm_T.of hI (fun _ => rfl) (fun q2 _ => hm_sel3 rfl rfl (by show hm_lda ls k 1 pc st hp = _; unfold hm_lda; rw [hl])) h
theorem r_istore {k : Nat} {x : Int32} (hI : hm_code M pc = some (.istore k)) (hl : hm_st1 ls k (.int x) = some ls2) (h : hm_T d M (pc + 2) ls2 r hp Q) : hm_T d M pc ls (.int x :: r) hp Q :=
  hm_T.of hI (fun _ => rfl) (fun q2 _ => hm_sel3 rfl rfl (by show (hm_st1 ls k (.int x)).map _ = _; rw [hl]; rfl)) h
theorem r_istore_n {k : Fin 4} {x : Int32} (hI : hm_code M pc = some (.istore_n k)) (hl : hm_st1 ls k (.int x) = some ls2) (h : hm_T d M (pc + 1) ls2 r hp Q) : hm_T d M pc ls (.int x :: r) hp Q :=
  hm_T.of hI (fun _ => rfl) (fun q2 _ => hm_sel3 rfl rfl (by show (hm_st1 ls k (.int x)).map _ = _; rw [hl]; rfl)) h
theorem r_lstore {k : Nat} {x : Int64} (hI : hm_code M pc = some (.lstore k)) (hl : hm_st2 ls k (.long x) = some ls2) (h : hm_T d M (pc + 2) ls2 r hp Q) : hm_T d M pc ls (.long x :: r) hp Q :=
  hm_T.of hI (fun _ => rfl) (fun q2 _ => hm_sel3 rfl rfl (by show (hm_st2 ls k (.long x)).map _ = _; rw [hl]; rfl)) h
theorem r_lstore_n {k : Fin 4} {x : Int64} (hI : hm_code M pc = some (.lstore_n k)) (hl : hm_st2 ls k (.long x) = some ls2) (h : hm_T d M (pc + 1) ls2 r hp Q) : hm_T d M pc ls (.long x :: r) hp Q :=
  hm_T.of hI (fun _ => rfl) (fun q2 _ => hm_sel3 rfl rfl (by show (hm_st2 ls k (.long x)).map _ = _; rw [hl]; rfl)) h
theorem r_astore {k : Nat} {x : Nat} (hI : hm_code M pc = some (.astore k)) (hl : hm_st1 ls k (.ref x) = some ls2) (h : hm_T d M (pc + 2) ls2 r hp Q) : hm_T d M pc ls (.ref x :: r) hp Q :=
  hm_T.of hI (fun _ => rfl) (fun q2 _ => hm_sel3 rfl rfl (by show (hm_st1 ls k (.ref x)).map _ = _; rw [hl]; rfl)) h
theorem r_astoreN {k : Nat} (hI : hm_code M pc = some (.astore k)) (hl : hm_st1 ls k .null = some ls2) (h : hm_T d M (pc + 2) ls2 r hp Q) : hm_T d M pc ls (.null :: r) hp Q :=
  hm_T.of hI (fun _ => rfl) (fun q2 _ => hm_sel3 rfl rfl (by show (hm_st1 ls k .null).map _ = _; rw [hl]; rfl)) h
theorem r_astore_n {k : Fin 4} {x : Nat} (hI : hm_code M pc = some (.astore_n k)) (hl : hm_st1 ls k (.ref x) = some ls2) (h : hm_T d M (pc + 1) ls2 r hp Q) : hm_T d M pc ls (.ref x :: r) hp Q :=
  hm_T.of hI (fun _ => rfl) (fun q2 _ => hm_sel3 rfl rfl (by show (hm_st1 ls k (.ref x)).map _ = _; rw [hl]; rfl)) h
theorem r_astore_nN {k : Fin 4} (hI : hm_code M pc = some (.astore_n k)) (hl : hm_st1 ls k .null = some ls2) (h : hm_T d M (pc + 1) ls2 r hp Q) : hm_T d M pc ls (.null :: r) hp Q :=
  hm_T.of hI (fun _ => rfl) (fun q2 _ => hm_sel3 rfl rfl (by show (hm_st1 ls k .null).map _ = _; rw [hl]; rfl)) h
theorem r_iinc {k : Nat} {n : Int} {x : Int32} (hI : hm_code M pc = some (.iinc k n)) (hk : ls[k]? = some (.int x)) (hl : hm_st1 ls k (.int (x + Int32.ofInt n)) = some ls2) (h : hm_T d M (pc + 3) ls2 st hp Q) : hm_T d M pc ls st hp Q :=
  hm_T.of hI (fun _ => rfl) (fun q2 _ => hm_sel3 rfl rfl (by show (match ls[k]? with | some (.int x) => (hm_st1 ls k (.int (x + Int32.ofInt n))).map fun l2 => (pc + 3, l2, st, hp) | _ => none) = _; rw [hk]; show (hm_st1 ls k (.int (x + Int32.ofInt n))).map _ = _; rw [hl]; rfl)) h
theorem r_goto {off : Int} {t : Nat} (hI : hm_code M pc = some (.goto off)) (ht : hm_jmp pc off = some t) (h : hm_T d M t ls st hp Q) : hm_T d M pc ls st hp Q :=
  hm_T.of hI (fun _ => rfl) (fun q2 _ => hm_sel4 rfl rfl rfl (by show hm_to pc off ls st hp = _; unfold hm_to; rw [ht]; rfl)) h
theorem r_if_eq {x : Int32} {off : Int} {t : Nat} (hI : hm_code M pc = some (.ifCond .eq off)) (ht : hm_jmp pc off = some t) (h1 : x = 0 → hm_T d M t ls r hp Q) (h2 : ¬ (x = 0) → hm_T d M (pc + 3) ls r hp Q) : hm_T d M pc ls (.int x :: r) hp Q := by
  by_cases hc : x = 0
  · exact hm_T.of hI (fun _ => rfl) (fun q2 _ => hm_sel4 rfl rfl rfl (by show (hm_jmp pc off).map _ = _; rw [ht]; show some (if x = 0 then _ else _) = _; rw [if_pos hc])) (h1 hc)
  · exact hm_T.of hI (fun _ => rfl) (fun q2 _ => hm_sel4 rfl rfl rfl (by show (hm_jmp pc off).map _ = _; rw [ht]; show some (if x = 0 then _ else _) = _; rw [if_neg hc])) (h2 hc)
theorem r_if_ne {x : Int32} {off : Int} {t : Nat} (hI : hm_code M pc = some (.ifCond .ne off)) (ht : hm_jmp pc off = some t) (h1 : ¬ x = 0 → hm_T d M t ls r hp Q) (h2 : ¬ (¬ x = 0) → hm_T d M (pc + 3) ls r hp Q) : hm_T d M pc ls (.int x :: r) hp Q := by
  by_cases hc : ¬ x = 0
  · exact hm_T.of hI (fun _ => rfl) (fun q2 _ => hm_sel4 rfl rfl rfl (by show (hm_jmp pc off).map _ = _; rw [ht]; show some (if ¬ x = 0 then _ else _) = _; rw [if_pos hc])) (h1 hc)
  · exact hm_T.of hI (fun _ => rfl) (fun q2 _ => hm_sel4 rfl rfl rfl (by show (hm_jmp pc off).map _ = _; rw [ht]; show some (if ¬ x = 0 then _ else _) = _; rw [if_neg hc])) (h2 hc)
theorem r_if_lt {x : Int32} {off : Int} {t : Nat} (hI : hm_code M pc = some (.ifCond .lt off)) (ht : hm_jmp pc off = some t) (h1 : x < 0 → hm_T d M t ls r hp Q) (h2 : ¬ (x < 0) → hm_T d M (pc + 3) ls r hp Q) : hm_T d M pc ls (.int x :: r) hp Q := by
  by_cases hc : x < 0
  · exact hm_T.of hI (fun _ => rfl) (fun q2 _ => hm_sel4 rfl rfl rfl (by show (hm_jmp pc off).map _ = _; rw [ht]; show some (if x < 0 then _ else _) = _; rw [if_pos hc])) (h1 hc)
  · exact hm_T.of hI (fun _ => rfl) (fun q2 _ => hm_sel4 rfl rfl rfl (by show (hm_jmp pc off).map _ = _; rw [ht]; show some (if x < 0 then _ else _) = _; rw [if_neg hc])) (h2 hc)
theorem r_if_ge {x : Int32} {off : Int} {t : Nat} (hI : hm_code M pc = some (.ifCond .ge off)) (ht : hm_jmp pc off = some t) (h1 : 0 ≤ x → hm_T d M t ls r hp Q) (h2 : ¬ (0 ≤ x) → hm_T d M (pc + 3) ls r hp Q) : hm_T d M pc ls (.int x :: r) hp Q := by
  by_cases hc : 0 ≤ x
  · exact hm_T.of hI (fun _ => rfl) (fun q2 _ => hm_sel4 rfl rfl rfl (by show (hm_jmp pc off).map _ = _; rw [ht]; show some (if 0 ≤ x then _ else _) = _; rw [if_pos hc])) (h1 hc)
  · exact hm_T.of hI (fun _ => rfl) (fun q2 _ => hm_sel4 rfl rfl rfl (by show (hm_jmp pc off).map _ = _; rw [ht]; show some (if 0 ≤ x then _ else _) = _; rw [if_neg hc])) (h2 hc)
theorem r_if_gt {x : Int32} {off : Int} {t : Nat} (hI : hm_code M pc = some (.ifCond .gt off)) (ht : hm_jmp pc off = some t) (h1 : 0 < x → hm_T d M t ls r hp Q) (h2 : ¬ (0 < x) → hm_T d M (pc + 3) ls r hp Q) : hm_T d M pc ls (.int x :: r) hp Q := by
  by_cases hc : 0 < x
  · exact hm_T.of hI (fun _ => rfl) (fun q2 _ => hm_sel4 rfl rfl rfl (by show (hm_jmp pc off).map _ = _; rw [ht]; show some (if 0 < x then _ else _) = _; rw [if_pos hc])) (h1 hc)
  · exact hm_T.of hI (fun _ => rfl) (fun q2 _ => hm_sel4 rfl rfl rfl (by show (hm_jmp pc off).map _ = _; rw [ht]; show some (if 0 < x then _ else _) = _; rw [if_neg hc])) (h2 hc)
theorem r_if_le {x : Int32} {off : Int} {t : Nat} (hI : hm_code M pc = some (.ifCond .le off)) (ht : hm_jmp pc off = some t) (h1 : x ≤ 0 → hm_T d M t ls r hp Q) (h2 : ¬ (x ≤ 0) → hm_T d M (pc + 3) ls r hp Q) : hm_T d M pc ls (.int x :: r) hp Q := by
  by_cases hc : x ≤ 0
  · exact hm_T.of hI (fun _ => rfl) (fun q2 _ => hm_sel4 rfl rfl rfl (by show (hm_jmp pc off).map _ = _; rw [ht]; show some (if x ≤ 0 then _ else _) = _; rw [if_pos hc])) (h1 hc)
  · exact hm_T.of hI (fun _ => rfl) (fun q2 _ => hm_sel4 rfl rfl rfl (by show (hm_jmp pc off).map _ = _; rw [ht]; show some (if x ≤ 0 then _ else _) = _; rw [if_neg hc])) (h2 hc)
theorem r_icmp_eq {x y : Int32} {off : Int} {t : Nat} (hI : hm_code M pc = some (.if_icmp .eq off)) (ht : hm_jmp pc off = some t) (h1 : x = y → hm_T d M t ls r hp Q) (h2 : ¬ (x = y) → hm_T d M (pc + 3) ls r hp Q) : hm_T d M pc ls (.int y :: .int x :: r) hp Q := by
  by_cases hc : x = y
  · exact hm_T.of hI (fun _ => rfl) (fun q2 _ => hm_sel4 rfl rfl rfl (by show (hm_jmp pc off).map _ = _; rw [ht]; show some (if x = y then _ else _) = _; rw [if_pos hc])) (h1 hc)
  · exact hm_T.of hI (fun _ => rfl) (fun q2 _ => hm_sel4 rfl rfl rfl (by show (hm_jmp pc off).map _ = _; rw [ht]; show some (if x = y then _ else _) = _; rw [if_neg hc])) (h2 hc)
theorem r_icmp_ne {x y : Int32} {off : Int} {t : Nat} (hI : hm_code M pc = some (.if_icmp .ne off)) (ht : hm_jmp pc off = some t) (h1 : ¬ x = y → hm_T d M t ls r hp Q) (h2 : ¬ (¬ x = y) → hm_T d M (pc + 3) ls r hp Q) : hm_T d M pc ls (.int y :: .int x :: r) hp Q := by
  by_cases hc : ¬ x = y
  · exact hm_T.of hI (fun _ => rfl) (fun q2 _ => hm_sel4 rfl rfl rfl (by show (hm_jmp pc off).map _ = _; rw [ht]; show some (if ¬ x = y then _ else _) = _; rw [if_pos hc])) (h1 hc)
  · exact hm_T.of hI (fun _ => rfl) (fun q2 _ => hm_sel4 rfl rfl rfl (by show (hm_jmp pc off).map _ = _; rw [ht]; show some (if ¬ x = y then _ else _) = _; rw [if_neg hc])) (h2 hc)
theorem r_icmp_lt {x y : Int32} {off : Int} {t : Nat} (hI : hm_code M pc = some (.if_icmp .lt off)) (ht : hm_jmp pc off = some t) (h1 : x < y → hm_T d M t ls r hp Q) (h2 : ¬ (x < y) → hm_T d M (pc + 3) ls r hp Q) : hm_T d M pc ls (.int y :: .int x :: r) hp Q := by
  by_cases hc : x < y
  · exact hm_T.of hI (fun _ => rfl) (fun q2 _ => hm_sel4 rfl rfl rfl (by show (hm_jmp pc off).map _ = _; rw [ht]; show some (if x < y then _ else _) = _; rw [if_pos hc])) (h1 hc)
  · exact hm_T.of hI (fun _ => rfl) (fun q2 _ => hm_sel4 rfl rfl rfl (by show (hm_jmp pc off).map _ = _; rw [ht]; show some (if x < y then _ else _) = _; rw [if_neg hc])) (h2 hc)
theorem r_icmp_ge {x y : Int32} {off : Int} {t : Nat} (hI : hm_code M pc = some (.if_icmp .ge off)) (ht : hm_jmp pc off = some t) (h1 : y ≤ x → hm_T d M t ls r hp Q) (h2 : ¬ (y ≤ x) → hm_T d M (pc + 3) ls r hp Q) : hm_T d M pc ls (.int y :: .int x :: r) hp Q := by
  by_cases hc : y ≤ x
  · exact hm_T.of hI (fun _ => rfl) (fun q2 _ => hm_sel4 rfl rfl rfl (by show (hm_jmp pc off).map _ = _; rw [ht]; show some (if y ≤ x then _ else _) = _; rw [if_pos hc])) (h1 hc)
  · exact hm_T.of hI (fun _ => rfl) (fun q2 _ => hm_sel4 rfl rfl rfl (by show (hm_jmp pc off).map _ = _; rw [ht]; show some (if y ≤ x then _ else _) = _; rw [if_neg hc])) (h2 hc)
theorem r_icmp_gt {x y : Int32} {off : Int} {t : Nat} (hI : hm_code M pc = some (.if_icmp .gt off)) (ht : hm_jmp pc off = some t) (h1 : y < x → hm_T d M t ls r hp Q) (h2 : ¬ (y < x) → hm_T d M (pc + 3) ls r hp Q) : hm_T d M pc ls (.int y :: .int x :: r) hp Q := by
  by_cases hc : y < x
  · exact hm_T.of hI (fun _ => rfl) (fun q2 _ => hm_sel4 rfl rfl rfl (by show (hm_jmp pc off).map _ = _; rw [ht]; show some (if y < x then _ else _) = _; rw [if_pos hc])) (h1 hc)
  · exact hm_T.of hI (fun _ => rfl) (fun q2 _ => hm_sel4 rfl rfl rfl (by show (hm_jmp pc off).map _ = _; rw [ht]; show some (if y < x then _ else _) = _; rw [if_neg hc])) (h2 hc)
theorem r_icmp_le {x y : Int32} {off : Int} {t : Nat} (hI : hm_code M pc = some (.if_icmp .le off)) (ht : hm_jmp pc off = some t) (h1 : x ≤ y → hm_T d M t ls r hp Q) (h2 : ¬ (x ≤ y) → hm_T d M (pc + 3) ls r hp Q) : hm_T d M pc ls (.int y :: .int x :: r) hp Q := by
  by_cases hc : x ≤ y
  · exact hm_T.of hI (fun _ => rfl) (fun q2 _ => hm_sel4 rfl rfl rfl (by show (hm_jmp pc off).map _ = _; rw [ht]; show some (if x ≤ y then _ else _) = _; rw [if_pos hc])) (h1 hc)
  · exact hm_T.of hI (fun _ => rfl) (fun q2 _ => hm_sel4 rfl rfl rfl (by show (hm_jmp pc off).map _ = _; rw [ht]; show some (if x ≤ y then _ else _) = _; rw [if_neg hc])) (h2 hc)
theorem r_ifnullN {off : Int} {t : Nat} (hI : hm_code M pc = some (.ifnull off)) (ht : hm_jmp pc off = some t) (h : hm_T d M t ls r hp Q) : hm_T d M pc ls (.null :: r) hp Q :=
  hm_T.of hI (fun _ => rfl) (fun q2 _ => hm_sel4 rfl rfl rfl (by show hm_to pc off ls r hp = _; unfold hm_to; rw [ht]; rfl)) h
theorem r_ifnull {off : Int} {a : Nat} (hI : hm_code M pc = some (.ifnull off)) (h : hm_T d M (pc + 3) ls r hp Q) : hm_T d M pc ls (.ref a :: r) hp Q :=
  hm_T.of hI (fun _ => rfl) (fun q2 _ => hm_sel4 rfl rfl rfl (rfl)) h
theorem r_ifnonnull {off : Int} {t a : Nat} (hI : hm_code M pc = some (.ifnonnull off)) (ht : hm_jmp pc off = some t) (h : hm_T d M t ls r hp Q) : hm_T d M pc ls (.ref a :: r) hp Q :=
  hm_T.of hI (fun _ => rfl) (fun q2 _ => hm_sel4 rfl rfl rfl (by show hm_to pc off ls r hp = _; unfold hm_to; rw [ht]; rfl)) h
theorem r_ifnonnullN {off : Int} (hI : hm_code M pc = some (.ifnonnull off)) (h : hm_T d M (pc + 3) ls r hp Q) : hm_T d M pc ls (.null :: r) hp Q :=
  hm_T.of hI (fun _ => rfl) (fun q2 _ => hm_sel4 rfl rfl rfl (rfl)) h
theorem r_acmp_eq {off : Int} {t a : Nat} (hI : hm_code M pc = some (.if_acmp .eq off)) (ht : hm_jmp pc off = some t) (h : hm_T d M t ls r hp Q) : hm_T d M pc ls (.ref a :: .ref a :: r) hp Q :=
  hm_T.of hI (fun _ => rfl) (fun q2 _ => hm_sel4 rfl rfl rfl (by show (if a = a then hm_to pc off ls r hp else none) = _; rw [if_pos rfl]; unfold hm_to; rw [ht]; rfl)) h
theorem r_tableOut {df lo hi : Int} {offs : Array Int} {t : Nat} {x : Int32} (hI : hm_code M pc = some (.tableswitch df lo hi offs)) (hx : x.toInt < lo ∨ hi < x.toInt) (ht : hm_jmp pc df = some t) (h : hm_T d M t ls r hp Q) : hm_T d M pc ls (.int x :: r) hp Q :=
  hm_T.of hI (fun _ => rfl) (fun q2 _ => hm_sel4 rfl rfl rfl (by show (if x.toInt < lo ∨ hi < x.toInt then hm_to pc df ls r hp else _) = _; rw [if_pos hx]; unfold hm_to; rw [ht]; rfl)) h
theorem r_tableIn {df lo hi off : Int} {offs : Array Int} {t : Nat} {x : Int32} (hI : hm_code M pc = some (.tableswitch df lo hi offs)) (hx : ¬ (x.toInt < lo ∨ hi < x.toInt)) (ho : offs[(x.toInt - lo).toNat]? = some off) (ht : hm_jmp pc off = some t) (h : hm_T d M t ls r hp Q) : hm_T d M pc ls (.int x :: r) hp Q :=
  hm_T.of hI (fun _ => rfl) (fun q2 _ => hm_sel4 rfl rfl rfl (by show (if x.toInt < lo ∨ hi < x.toInt then _ else match offs[(x.toInt - lo).toNat]? with | some off => hm_to pc off ls r hp | none => none) = _; rw [if_neg hx, ho]; show hm_to pc off ls r hp = _; unfold hm_to; rw [ht]; rfl)) h
theorem r_lookup {df off : Int} {ps : Array (Int × Int)} {t : Nat} {x : Int32} (hI : hm_code M pc = some (.lookupswitch df ps)) (hp0 : (ps.toList.zip (ps.toList.drop 1)).all (fun (a, next) => a.1 < next.1) = true) (ho : Op.lookupswitch.offset ps.toList df x.toInt = off) (ht : hm_jmp pc off = some t) (h : hm_T d M t ls r hp Q) : hm_T d M pc ls (.int x :: r) hp Q :=
  hm_T.of hI (fun _ => rfl) (fun q2 _ => hm_sel4 rfl rfl rfl (by show (if (ps.toList.zip (ps.toList.drop 1)).all (fun (a, next) => a.1 < next.1) = true then hm_to pc (Op.lookupswitch.offset ps.toList df x.toInt) ls r hp else none) = _; rw [if_pos hp0, ho]; unfold hm_to; rw [ht]; rfl)) h
theorem r_get {ix ci k md w a : Nat} {fs : List Value} {v : Value} (hq : hm_mtab[M]? = some q) (hI : hm_code M pc = some (.getfield ix)) (hf : hm_ftab.lookup (q.2.2.2.2.1, ix) = some (ci, k, md, w)) (ha : hp.1 a = some (.inr (ci, fs))) (hv : fs[k]? = some v) (h : hm_T d M (pc + 3) ls (v :: r) hp Q) : hm_T d M pc ls (.ref a :: r) hp Q :=
  hm_T.of hI (fun _ => rfl) (fun q2 hq2 => by
    cases hq.symm.trans hq2
    exact hm_sel5 rfl rfl rfl rfl (by unfold hm_s5; dsimp only; rw [hf, ha]; dsimp only; rw [if_pos rfl, hv]; rfl)) h
theorem r_iald {t n a : Nat} {j : Int32} {f : Nat → Int32} (hI : hm_code M pc = some (.iaload)) (ha : hp.1 a = some (.inl (t, n, .inl f))) (ht : t = 0 ∨ t = 100) (hj : ¬ (j < 0 ∨ n ≤ j.toNatClampNeg)) (h : hm_T d M (pc + 1) ls (.int (f j.toNatClampNeg) :: r) hp Q) : hm_T d M pc ls (.int j :: .ref a :: r) hp Q :=
  hm_T.of hI (fun _ => rfl) (fun q2 _ => hm_sel5 rfl rfl rfl rfl (by unfold hm_s5; dsimp only; rw [ha]; dsimp only; exact if_pos ⟨ht, hj⟩)) h
theorem r_bald {t n a : Nat} {j : Int32} {f : Nat → Int32} (hI : hm_code M pc = some (.baload)) (ha : hp.1 a = some (.inl (t, n, .inl f))) (ht : t = 2) (hj : ¬ (j < 0 ∨ n ≤ j.toNatClampNeg)) (h : hm_T d M (pc + 1) ls (.int (f j.toNatClampNeg) :: r) hp Q) : hm_T d M pc ls (.int j :: .ref a :: r) hp Q :=
  hm_T.of hI (fun _ => rfl) (fun q2 _ => hm_sel5 rfl rfl rfl rfl (by unfold hm_s5; dsimp only; rw [ha]; dsimp only; exact if_pos ⟨ht, hj⟩)) h
theorem r_lald {t n a : Nat} {j : Int32} {f : Nat → Int64} (hI : hm_code M pc = some (.laload)) (ha : hp.1 a = some (.inl (t, n, .inr (.inl f)))) (ht : t = 1) (hj : ¬ (j < 0 ∨ n ≤ j.toNatClampNeg)) (h : hm_T d M (pc + 1) ls (.long (f j.toNatClampNeg) :: r) hp Q) : hm_T d M pc ls (.int j :: .ref a :: r) hp Q :=
  hm_T.of hI (fun _ => rfl) (fun q2 _ => hm_sel5 rfl rfl rfl rfl (by unfold hm_s5; dsimp only; rw [ha]; dsimp only; exact if_pos ⟨ht, hj⟩)) h
theorem r_aald {t n a : Nat} {j : Int32} {f : Nat → Option Nat} (hI : hm_code M pc = some (.aaload)) (ha : hp.1 a = some (.inl (t, n, .inr (.inr (.inr (.inr f)))))) (ht : t = 3 ∨ t = 4 ∨ t = 5 ∨ t = 6) (hj : ¬ (j < 0 ∨ n ≤ j.toNatClampNeg)) (h : hm_T d M (pc + 1) ls (va_rf (f j.toNatClampNeg) :: r) hp Q) : hm_T d M pc ls (.int j :: .ref a :: r) hp Q :=
  hm_T.of hI (fun _ => rfl) (fun q2 _ => hm_sel5 rfl rfl rfl rfl (by unfold hm_s5; dsimp only; rw [ha]; dsimp only; exact if_pos ⟨ht, hj⟩)) h
theorem r_alen {t n a : Nat} {y : (Nat → Int32) ⊕ (Nat → Int64) ⊕ (Nat → UInt32) ⊕ (Nat → UInt64) ⊕ (Nat → Option Nat)} {v : Int32} (hI : hm_code M pc = some (.arraylength)) (ha : hp.1 a = some (.inl (t, n, y))) (hv : Int32.ofNat n = v) (h : hm_T d M (pc + 1) ls (.int v :: r) hp Q) : hm_T d M pc ls (.ref a :: r) hp Q :=
  hm_T.of hI (fun _ => rfl) (fun q2 _ => hm_sel5 rfl rfl rfl rfl (by unfold hm_s5; dsimp only; rw [ha, ← hv])) h
theorem r_gets {ix j w : Nat} (hq : hm_mtab[M]? = some q) (hI : hm_code M pc = some (.getstatic ix)) (hf : hm_stab.lookup (q.2.2.2.2.1, ix) = some (j, w)) (h : hm_T d M (pc + 3) ls (.ref j :: st) hp Q) : hm_T d M pc ls st hp Q :=
  hm_T.of hI (fun _ => rfl) (fun q2 hq2 => by
    cases hq.symm.trans hq2
    exact hm_sel5 rfl rfl rfl rfl (by unfold hm_s5; dsimp only; rw [hf]; rfl)) h
theorem r_castN {ix : Nat} (hI : hm_code M pc = some (.checkcast ix)) (h : hm_T d M (pc + 3) ls (.null :: r) hp Q) : hm_T d M pc ls (.null :: r) hp Q :=
  hm_T.of hI (fun _ => rfl) (fun q2 _ => hm_sel5 rfl rfl rfl rfl (rfl)) h
theorem r_cast {ix ci w a : Nat} {fs : List Value} (hq : hm_mtab[M]? = some q) (hI : hm_code M pc = some (.checkcast ix)) (hf : hm_ntab.lookup (q.2.2.2.2.1, ix) = some (ci, w)) (ha : hp.1 a = some (.inr (ci, fs))) (h : hm_T d M (pc + 3) ls (.ref a :: r) hp Q) : hm_T d M pc ls (.ref a :: r) hp Q :=
  hm_T.of hI (fun _ => rfl) (fun q2 hq2 => by
    cases hq.symm.trans hq2
    exact hm_sel5 rfl rfl rfl rfl (by unfold hm_s5; dsimp only; rw [hf, ha]; exact if_pos rfl)) h
theorem r_ldc {ix w : Nat} {v : Int32} (hq : hm_mtab[M]? = some q) (hI : hm_code M pc = some (.ldc ix)) (hf : hm_itab.lookup (q.2.2.2.2.1, ix) = some (v, w)) (h : hm_T d M (pc + 2) ls (.int v :: st) hp Q) : hm_T d M pc ls st hp Q :=
  hm_T.of hI (fun _ => rfl) (fun q2 hq2 => by
    cases hq.symm.trans hq2
    exact hm_sel5 rfl rfl rfl rfl (by unfold hm_s5; dsimp only; rw [hf]; rfl)) h
theorem r_ldc_w {ix w : Nat} {v : Int32} (hq : hm_mtab[M]? = some q) (hI : hm_code M pc = some (.ldc_w ix)) (hf : hm_itab.lookup (q.2.2.2.2.1, ix) = some (v, w)) (h : hm_T d M (pc + 3) ls (.int v :: st) hp Q) : hm_T d M pc ls st hp Q :=
  hm_T.of hI (fun _ => rfl) (fun q2 hq2 => by
    cases hq.symm.trans hq2
    exact hm_sel5 rfl rfl rfl rfl (by unfold hm_s5; dsimp only; rw [hf]; rfl)) h
theorem r_ldc2_w {ix w : Nat} {v : Int64} (hq : hm_mtab[M]? = some q) (hI : hm_code M pc = some (.ldc2_w ix)) (hf : hm_ltab.lookup (q.2.2.2.2.1, ix) = some (v, w)) (h : hm_T d M (pc + 3) ls (.long v :: st) hp Q) : hm_T d M pc ls st hp Q :=
  hm_T.of hI (fun _ => rfl) (fun q2 hq2 => by
    cases hq.symm.trans hq2
    exact hm_sel5 rfl rfl rfl rfl (by unfold hm_s5; dsimp only; rw [hf]; rfl)) h
theorem r_put {ix ci k md w a : Nat} {fs : List Value} {v : Value} (hq : hm_mtab[M]? = some q) (hI : hm_code M pc = some (.putfield ix)) (hf : hm_ftab.lookup (q.2.2.2.2.1, ix) = some (ci, k, md, w)) (ha : hp.1 a = some (.inr (ci, fs))) (hk : k < fs.length) (hv : hm_fv (hm_fty ci k) v = true) (hn : hm_fin q ci k = true) (he : hm_set hp a (.inr (ci, fs.set k v)) = hp2) (h : hm_T d M (pc + 3) ls r hp2 Q) : hm_T d M pc ls (v :: .ref a :: r) hp Q :=
  hm_T.of hI (fun _ => rfl) (fun q2 hq2 => by
    cases hq.symm.trans hq2
    exact hm_sel6 rfl rfl rfl rfl rfl (by unfold hm_s6; dsimp only; rw [hf, ha]; dsimp only; rw [if_pos ⟨⟨rfl, hk⟩, hv, hn⟩, he])) h
theorem r_iast {t n a : Nat} {j : Int32} {x : Int32} {f : Nat → Int32} (hI : hm_code M pc = some (.iastore)) (ha : hp.1 a = some (.inl (t, n, .inl f))) (ht : t = 0) (hj : ¬ (j < 0 ∨ n ≤ j.toNatClampNeg)) (he : hm_set hp a (.inl (t, n, .inl (upd f j.toNatClampNeg x))) = hp2) (h : hm_T d M (pc + 1) ls r hp2 Q) : hm_T d M pc ls (.int x :: .int j :: .ref a :: r) hp Q :=
  hm_T.of hI (fun _ => rfl) (fun q2 _ => hm_sel6 rfl rfl rfl rfl rfl (by unfold hm_s6; dsimp only; rw [ha]; dsimp only; rw [if_pos ⟨ht, hj⟩, he])) h
theorem r_bast {t n a : Nat} {j : Int32} {x : Int32} {f : Nat → Int32} (hI : hm_code M pc = some (.bastore)) (ha : hp.1 a = some (.inl (t, n, .inl f))) (ht : t = 2 ∧ (x = 0 ∨ x = 1)) (hj : ¬ (j < 0 ∨ n ≤ j.toNatClampNeg)) (he : hm_set hp a (.inl (t, n, .inl (upd f j.toNatClampNeg x))) = hp2) (h : hm_T d M (pc + 1) ls r hp2 Q) : hm_T d M pc ls (.int x :: .int j :: .ref a :: r) hp Q :=
  hm_T.of hI (fun _ => rfl) (fun q2 _ => hm_sel6 rfl rfl rfl rfl rfl (by unfold hm_s6; dsimp only; rw [ha]; dsimp only; rw [if_pos ⟨ht, hj⟩, he])) h
theorem r_last {t n a : Nat} {j : Int32} {x : Int64} {f : Nat → Int64} (hI : hm_code M pc = some (.lastore)) (ha : hp.1 a = some (.inl (t, n, .inr (.inl f)))) (ht : t = 1) (hj : ¬ (j < 0 ∨ n ≤ j.toNatClampNeg)) (he : hm_set hp a (.inl (t, n, .inr (.inl (vp_updL f j.toNatClampNeg x)))) = hp2) (h : hm_T d M (pc + 1) ls r hp2 Q) : hm_T d M pc ls (.long x :: .int j :: .ref a :: r) hp Q :=
  hm_T.of hI (fun _ => rfl) (fun q2 _ => hm_sel6 rfl rfl rfl rfl rfl (by unfold hm_s6; dsimp only; rw [ha]; dsimp only; rw [if_pos ⟨ht, hj⟩, he])) h
theorem r_aast {t n a b cj : Nat} {j : Int32} {f : Nat → Option Nat} {fs : List Value} (hI : hm_code M pc = some (.aastore)) (ha : hp.1 a = some (.inl (t, n, .inr (.inr (.inr (.inr f)))))) (hb : hp.1 b = some (.inr (cj, fs))) (ht : (t = 5 ∧ cj = 2) ∨ (t = 6 ∧ cj < 10)) (hj : ¬ (j < 0 ∨ n ≤ j.toNatClampNeg)) (he : hm_set hp a (.inl (t, n, .inr (.inr (.inr (.inr (va_up f j.toNatClampNeg (some b))))))) = hp2) (h : hm_T d M (pc + 1) ls r hp2 Q) : hm_T d M pc ls (.ref b :: .int j :: .ref a :: r) hp Q :=
  hm_T.of hI (fun _ => rfl) (fun q2 _ => hm_sel6 rfl rfl rfl rfl rfl (by unfold hm_s6; dsimp only; rw [ha, hb]; dsimp only; rw [if_pos ⟨ht, hj⟩, he])) h
theorem r_new {ix ci w : Nat} (hq : hm_mtab[M]? = some q) (hI : hm_code M pc = some (.new ix)) (hf : hm_ntab.lookup (q.2.2.2.2.1, ix) = some (ci, w)) (hci : ci < 10) (he : hm_push hp (.inr (ci, hm_df ci)) (hm_df ci).length = hp2) (h : hm_T d M (pc + 3) ls (.ref (hp.2.1 + 4) :: st) hp2 Q) : hm_T d M pc ls st hp Q :=
  hm_T.of hI (fun _ => rfl) (fun q2 hq2 => by
    cases hq.symm.trans hq2
    exact hm_sel7 rfl rfl rfl rfl rfl rfl (by unfold hm_s7; dsimp only; rw [hf]; dsimp only; rw [if_pos hci, he])) h
theorem r_newa_int {n : Int32} {N : Nat} (hI : hm_code M pc = some (.newarray .int)) (hn : ¬ n < 0) (hN : n.toNatClampNeg = N) (hm : N ≤ 100000) (he : hm_push hp (.inl (0, N, .inl (fun _ => 0))) N = hp2) (h : hm_T d M (pc + 2) ls (.ref (hp.2.1 + 4) :: r) hp2 Q) : hm_T d M pc ls (.int n :: r) hp Q :=
  hm_T.of hI (fun _ => rfl) (fun q2 _ => hm_sel7 rfl rfl rfl rfl rfl rfl (by subst hN; unfold hm_s7; dsimp only; rw [if_pos ⟨hn, hm⟩, he])) h
theorem r_newa_long {n : Int32} {N : Nat} (hI : hm_code M pc = some (.newarray .long)) (hn : ¬ n < 0) (hN : n.toNatClampNeg = N) (hm : N ≤ 100000) (he : hm_push hp (.inl (1, N, .inr (.inl (fun _ => 0)))) N = hp2) (h : hm_T d M (pc + 2) ls (.ref (hp.2.1 + 4) :: r) hp2 Q) : hm_T d M pc ls (.int n :: r) hp Q :=
  hm_T.of hI (fun _ => rfl) (fun q2 _ => hm_sel7 rfl rfl rfl rfl rfl rfl (by subst hN; unfold hm_s7; dsimp only; rw [if_pos ⟨hn, hm⟩, he])) h
theorem r_newa_boolean {n : Int32} {N : Nat} (hI : hm_code M pc = some (.newarray .boolean)) (hn : ¬ n < 0) (hN : n.toNatClampNeg = N) (hm : N ≤ 100000) (he : hm_push hp (.inl (2, N, .inl (fun _ => 0))) N = hp2) (h : hm_T d M (pc + 2) ls (.ref (hp.2.1 + 4) :: r) hp2 Q) : hm_T d M pc ls (.int n :: r) hp Q :=
  hm_T.of hI (fun _ => rfl) (fun q2 _ => hm_sel7 rfl rfl rfl rfl rfl rfl (by subst hN; unfold hm_s7; dsimp only; rw [if_pos ⟨hn, hm⟩, he])) h
theorem r_anew {n : Int32} {N ix ci w t : Nat} (hq : hm_mtab[M]? = some q) (hI : hm_code M pc = some (.anewarray ix)) (hf : hm_ntab.lookup (q.2.2.2.2.1, ix) = some (ci, w)) (hci : ci = 2 ∨ ci = 22) (ht : (if ci = 2 then 5 else 6) = t) (hn : ¬ n < 0) (hN : n.toNatClampNeg = N) (hm : N ≤ 100000) (he : hm_push hp (.inl (t, N, .inr (.inr (.inr (.inr (fun _ => none)))))) N = hp2) (h : hm_T d M (pc + 3) ls (.ref (hp.2.1 + 4) :: r) hp2 Q) : hm_T d M pc ls (.int n :: r) hp Q :=
  hm_T.of hI (fun _ => rfl) (fun q2 hq2 => by
    cases hq.symm.trans hq2
    exact hm_sel7 rfl rfl rfl rfl rfl rfl (by subst hN; subst ht; unfold hm_s7; dsimp only; rw [hf]; dsimp only; rw [if_pos ⟨hci, hn, hm⟩, he])) h
theorem r_mna_int {n k : Int32} {N K ix w : Nat} (hq : hm_mtab[M]? = some q) (hI : hm_code M pc = some (.multianewarray ix 2)) (hf : hm_ntab.lookup (q.2.2.2.2.1, ix) = some (20, w)) (hn : ¬ n < 0) (hN : n.toNatClampNeg = N) (hm : N ≤ 100000) (hk : ¬ k < 0) (hK : k.toNatClampNeg = K) (hm2 : K ≤ 100000) (he : hm_grid hp 0 N K (K, .inl (fun _ => 0)) = hp2) (h : hm_T d M (pc + 4) ls (.ref (hp.2.1 + 4) :: r) hp2 Q) : hm_T d M pc ls (.int k :: .int n :: r) hp Q :=
  hm_T.of hI (fun _ => rfl) (fun q2 hq2 => by
    cases hq.symm.trans hq2
    exact hm_sel7 rfl rfl rfl rfl rfl rfl (by subst hN; subst hK; unfold hm_s7; dsimp only; rw [hf]; dsimp only; rw [if_pos ⟨rfl, ⟨hn, hm⟩, hk, hm2⟩]; rw [if_pos rfl]; rw [he])) h
theorem r_mna_long {n k : Int32} {N K ix w : Nat} (hq : hm_mtab[M]? = some q) (hI : hm_code M pc = some (.multianewarray ix 2)) (hf : hm_ntab.lookup (q.2.2.2.2.1, ix) = some (21, w)) (hn : ¬ n < 0) (hN : n.toNatClampNeg = N) (hm : N ≤ 100000) (hk : ¬ k < 0) (hK : k.toNatClampNeg = K) (hm2 : K ≤ 100000) (he : hm_grid hp 1 N K (K, .inr (.inl (fun _ => 0))) = hp2) (h : hm_T d M (pc + 4) ls (.ref (hp.2.1 + 4) :: r) hp2 Q) : hm_T d M pc ls (.int k :: .int n :: r) hp Q :=
  hm_T.of hI (fun _ => rfl) (fun q2 hq2 => by
    cases hq.symm.trans hq2
    exact hm_sel7 rfl rfl rfl rfl rfl rfl (by subst hN; subst hK; unfold hm_s7; dsimp only; rw [hf]; dsimp only; rw [if_pos ⟨rfl, ⟨hn, hm⟩, hk, hm2⟩]; rw [if_neg (by decide), if_pos rfl]; rw [he])) h
theorem r_obj {ix w a : Nat} (hq : hm_mtab[M]? = some q) (hI : hm_code M pc = some (.invokespecial ix)) (hf : hm_ctab.lookup (q.2.2.2.2.1, ix) = some (1, 0, w)) (hr : r.length ≤ 4) (h : hm_T d M (pc + 3) ls r hp Q) : hm_T d M pc ls (.ref a :: r) hp Q :=
  hm_T.of hI (fun _ => rfl) (fun q2 hq2 => by
    cases hq.symm.trans hq2
    exact hm_sel8 rfl rfl rfl rfl rfl rfl rfl (by unfold hm_s8; dsimp only; rw [hf]; dsimp only; exact if_pos ⟨⟨rfl, rfl⟩, hr⟩)) h
end HT
end
section
theorem hm_tst : True := by
  have h := @Jvm.Stand.multianewarray2F
  trivial
end
