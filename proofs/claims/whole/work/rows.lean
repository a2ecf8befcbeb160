section
-- ===== PART A: goes FIRST, ahead of the names: the tables' words, and 'selects' of the private methods out of them =====
/-- a private method of a class that the tables say can be made, by its rows of tables_1 -/
def lw_okq (q : MethodName × Nat) : Prop := (q.1.cls ≠ "java/lang/invoke/MethodHandle" ∧ q.1.cls ≠ "java/lang/invoke/VarHandle") ∧ Cond.instantiable q.1.cls q.2 ∈ tables_1 ∧ Cond.privateMethod q.1 ∈ tables_1 ∧ Cond.instanceMethod q.1 ∈ tables_1
theorem lw_p0 : lw_okq (⟨"HourPromised", "everyServiceHasChapel", "()Z"⟩, 14) := ⟨⟨by decide +kernel, by decide +kernel⟩, List.mem_of_getElem? (i := 21) (by decide +kernel), List.mem_of_getElem? (i := 229) (by decide +kernel), List.mem_of_getElem? (i := 230) (by decide +kernel)⟩
theorem lw_p1 : lw_okq (⟨"HourPromised", "openChapels", "(I)I"⟩, 14) := ⟨⟨by decide +kernel, by decide +kernel⟩, List.mem_of_getElem? (i := 21) (by decide +kernel), List.mem_of_getElem? (i := 237) (by decide +kernel), List.mem_of_getElem? (i := 238) (by decide +kernel)⟩
theorem lw_p2 : lw_okq (⟨"HourPromised", "isOpen", "(II)Z"⟩, 14) := ⟨⟨by decide +kernel, by decide +kernel⟩, List.mem_of_getElem? (i := 21) (by decide +kernel), List.mem_of_getElem? (i := 241) (by decide +kernel), List.mem_of_getElem? (i := 242) (by decide +kernel)⟩
theorem lw_p3 : lw_okq (⟨"HourPromised$LawReader", "skip", "()I"⟩, 7) := ⟨⟨by decide +kernel, by decide +kernel⟩, List.mem_of_getElem? (i := 90) (by decide +kernel), List.mem_of_getElem? (i := 277) (by decide +kernel), List.mem_of_getElem? (i := 278) (by decide +kernel)⟩
theorem lw_p4 : lw_okq (⟨"HourPromised$LawReader", "readPart", "(LHourPromised$Text;LHourPromised$Law;)I"⟩, 7) := ⟨⟨by decide +kernel, by decide +kernel⟩, List.mem_of_getElem? (i := 90) (by decide +kernel), List.mem_of_getElem? (i := 281) (by decide +kernel), List.mem_of_getElem? (i := 282) (by decide +kernel)⟩
theorem lw_p5 : lw_okq (⟨"HourPromised$LawReader", "readClause", "(I)I"⟩, 7) := ⟨⟨by decide +kernel, by decide +kernel⟩, List.mem_of_getElem? (i := 90) (by decide +kernel), List.mem_of_getElem? (i := 288) (by decide +kernel), List.mem_of_getElem? (i := 289) (by decide +kernel)⟩
theorem lw_p6 : lw_okq (⟨"HourPromised$LawReader", "goOn", "(I)I"⟩, 7) := ⟨⟨by decide +kernel, by decide +kernel⟩, List.mem_of_getElem? (i := 90) (by decide +kernel), List.mem_of_getElem? (i := 293) (by decide +kernel), List.mem_of_getElem? (i := 294) (by decide +kernel)⟩
theorem lw_p7 : lw_okq (⟨"HourPromised$LawReader", "readItem", "(ILHourPromised$Law;)I"⟩, 7) := ⟨⟨by decide +kernel, by decide +kernel⟩, List.mem_of_getElem? (i := 90) (by decide +kernel), List.mem_of_getElem? (i := 300) (by decide +kernel), List.mem_of_getElem? (i := 301) (by decide +kernel)⟩
theorem lw_p8 : lw_okq (⟨"HourPromised$LawReader", "readNumber", "(LHourPromised$Text;LHourPromised$Law;)I"⟩, 7) := ⟨⟨by decide +kernel, by decide +kernel⟩, List.mem_of_getElem? (i := 90) (by decide +kernel), List.mem_of_getElem? (i := 312) (by decide +kernel), List.mem_of_getElem? (i := 313) (by decide +kernel)⟩
theorem lw_p9 : lw_okq (⟨"HourPromised", "undoBroken", "(LHourPromised$CaseFile;)I"⟩, 14) := ⟨⟨by decide +kernel, by decide +kernel⟩, List.mem_of_getElem? (i := 21) (by decide +kernel), List.mem_of_getElem? (i := 342) (by decide +kernel), List.mem_of_getElem? (i := 343) (by decide +kernel)⟩
theorem lw_p10 : lw_okq (⟨"HourPromised$CaseFile", "hasPapers", "(II)Z"⟩, 8) := ⟨⟨by decide +kernel, by decide +kernel⟩, List.mem_of_getElem? (i := 364) (by decide +kernel), List.mem_of_getElem? (i := 362) (by decide +kernel), List.mem_of_getElem? (i := 363) (by decide +kernel)⟩
theorem lw_p11 : lw_okq (⟨"HourPromised$CaseFile", "hasStepsAhead", "(II)Z"⟩, 8) := ⟨⟨by decide +kernel, by decide +kernel⟩, List.mem_of_getElem? (i := 364) (by decide +kernel), List.mem_of_getElem? (i := 372) (by decide +kernel), List.mem_of_getElem? (i := 373) (by decide +kernel)⟩
theorem lw_p12 : lw_okq (⟨"HourPromised", "takeBack", "(LHourPromised$CaseFile;I)V"⟩, 14) := ⟨⟨by decide +kernel, by decide +kernel⟩, List.mem_of_getElem? (i := 21) (by decide +kernel), List.mem_of_getElem? (i := 376) (by decide +kernel), List.mem_of_getElem? (i := 377) (by decide +kernel)⟩
theorem lw_p13 : lw_okq (⟨"java/util/ArrayList", "add", "(Ljava/lang/Object;[Ljava/lang/Object;I)V"⟩, 3) := ⟨⟨by decide +kernel, by decide +kernel⟩, List.mem_of_getElem? (i := 138) (by decide +kernel), List.mem_of_getElem? (i := 461) (by decide +kernel), List.mem_of_getElem? (i := 462) (by decide +kernel)⟩
theorem lw_p14 : lw_okq (⟨"java/util/ArrayList", "grow", "()[Ljava/lang/Object;"⟩, 3) := ⟨⟨by decide +kernel, by decide +kernel⟩, List.mem_of_getElem? (i := 138) (by decide +kernel), List.mem_of_getElem? (i := 465) (by decide +kernel), List.mem_of_getElem? (i := 466) (by decide +kernel)⟩
theorem lw_p15 : lw_okq (⟨"java/util/ArrayList", "grow", "(I)[Ljava/lang/Object;"⟩, 3) := ⟨⟨by decide +kernel, by decide +kernel⟩, List.mem_of_getElem? (i := 138) (by decide +kernel), List.mem_of_getElem? (i := 469) (by decide +kernel), List.mem_of_getElem? (i := 470) (by decide +kernel)⟩
def lw_privs_1 : List (MethodName × Nat) := [(⟨"HourPromised", "everyServiceHasChapel", "()Z"⟩, 14), (⟨"HourPromised", "openChapels", "(I)I"⟩, 14), (⟨"HourPromised", "isOpen", "(II)Z"⟩, 14), (⟨"HourPromised$LawReader", "skip", "()I"⟩, 7), (⟨"HourPromised$LawReader", "readPart", "(LHourPromised$Text;LHourPromised$Law;)I"⟩, 7), (⟨"HourPromised$LawReader", "readClause", "(I)I"⟩, 7), (⟨"HourPromised$LawReader", "goOn", "(I)I"⟩, 7), (⟨"HourPromised$LawReader", "readItem", "(ILHourPromised$Law;)I"⟩, 7), (⟨"HourPromised$LawReader", "readNumber", "(LHourPromised$Text;LHourPromised$Law;)I"⟩, 7), (⟨"HourPromised", "undoBroken", "(LHourPromised$CaseFile;)I"⟩, 14), (⟨"HourPromised$CaseFile", "hasPapers", "(II)Z"⟩, 8), (⟨"HourPromised$CaseFile", "hasStepsAhead", "(II)Z"⟩, 8), (⟨"HourPromised", "takeBack", "(LHourPromised$CaseFile;I)V"⟩, 14), (⟨"java/util/ArrayList", "add", "(Ljava/lang/Object;[Ljava/lang/Object;I)V"⟩, 3), (⟨"java/util/ArrayList", "grow", "()[Ljava/lang/Object;"⟩, 3), (⟨"java/util/ArrayList", "grow", "(I)[Ljava/lang/Object;"⟩, 3)]
theorem lw_r1 : ∀ q ∈ lw_privs_1, lw_okq q := List.forall_mem_cons.mpr ⟨lw_p0, List.forall_mem_cons.mpr ⟨lw_p1, List.forall_mem_cons.mpr ⟨lw_p2, List.forall_mem_cons.mpr ⟨lw_p3, List.forall_mem_cons.mpr ⟨lw_p4, List.forall_mem_cons.mpr ⟨lw_p5, List.forall_mem_cons.mpr ⟨lw_p6, List.forall_mem_cons.mpr ⟨lw_p7, List.forall_mem_cons.mpr ⟨lw_p8, List.forall_mem_cons.mpr ⟨lw_p9, List.forall_mem_cons.mpr ⟨lw_p10, List.forall_mem_cons.mpr ⟨lw_p11, List.forall_mem_cons.mpr ⟨lw_p12, List.forall_mem_cons.mpr ⟨lw_p13, List.forall_mem_cons.mpr ⟨lw_p14, List.forall_mem_cons.mpr ⟨lw_p15, fun _ h => absurd h List.not_mem_nil⟩⟩⟩⟩⟩⟩⟩⟩⟩⟩⟩⟩⟩⟩⟩⟩
theorem lw_p16 : lw_okq (⟨"HourPromised", "fileOf", "(I)LHourPromised$CaseFile;"⟩, 14) := ⟨⟨by decide +kernel, by decide +kernel⟩, List.mem_of_getElem? (i := 21) (by decide +kernel), List.mem_of_getElem? (i := 514) (by decide +kernel), List.mem_of_getElem? (i := 515) (by decide +kernel)⟩
theorem lw_p17 : lw_okq (⟨"HourPromised", "hindrance", "(LHourPromised$CaseFile;II)I"⟩, 14) := ⟨⟨by decide +kernel, by decide +kernel⟩, List.mem_of_getElem? (i := 21) (by decide +kernel), List.mem_of_getElem? (i := 522) (by decide +kernel), List.mem_of_getElem? (i := 523) (by decide +kernel)⟩
theorem lw_p18 : lw_okq (⟨"HourPromised$CaseFile", "comesTooLate", "(LHourPromised$Law;II)Z"⟩, 8) := ⟨⟨by decide +kernel, by decide +kernel⟩, List.mem_of_getElem? (i := 364) (by decide +kernel), List.mem_of_getElem? (i := 532) (by decide +kernel), List.mem_of_getElem? (i := 533) (by decide +kernel)⟩
theorem lw_p19 : lw_okq (⟨"HourPromised$CaseFile", "hasOtherStepAt", "(II)Z"⟩, 8) := ⟨⟨by decide +kernel, by decide +kernel⟩, List.mem_of_getElem? (i := 364) (by decide +kernel), List.mem_of_getElem? (i := 536) (by decide +kernel), List.mem_of_getElem? (i := 537) (by decide +kernel)⟩
theorem lw_p20 : lw_okq (⟨"HourPromised", "hasPlaceFor", "(LHourPromised$CaseFile;II)Z"⟩, 14) := ⟨⟨by decide +kernel, by decide +kernel⟩, List.mem_of_getElem? (i := 21) (by decide +kernel), List.mem_of_getElem? (i := 540) (by decide +kernel), List.mem_of_getElem? (i := 541) (by decide +kernel)⟩
theorem lw_p21 : lw_okq (⟨"HourPromised", "hasBearersFor", "(LHourPromised$CaseFile;I)Z"⟩, 14) := ⟨⟨by decide +kernel, by decide +kernel⟩, List.mem_of_getElem? (i := 21) (by decide +kernel), List.mem_of_getElem? (i := 550) (by decide +kernel), List.mem_of_getElem? (i := 551) (by decide +kernel)⟩
theorem lw_p22 : lw_okq (⟨"HourPromised$Bearers", "findFrom", "(II)Z"⟩, 7) := ⟨⟨by decide +kernel, by decide +kernel⟩, List.mem_of_getElem? (i := 29) (by decide +kernel), List.mem_of_getElem? (i := 573) (by decide +kernel), List.mem_of_getElem? (i := 574) (by decide +kernel)⟩
theorem lw_p23 : lw_okq (⟨"HourPromised$Bearers", "fillSet", "(IIII)Z"⟩, 7) := ⟨⟨by decide +kernel, by decide +kernel⟩, List.mem_of_getElem? (i := 29) (by decide +kernel), List.mem_of_getElem? (i := 577) (by decide +kernel), List.mem_of_getElem? (i := 578) (by decide +kernel)⟩
theorem lw_p24 : lw_okq (⟨"HourPromised$Bearers", "likeInHeight", "(II)I"⟩, 7) := ⟨⟨by decide +kernel, by decide +kernel⟩, List.mem_of_getElem? (i := 29) (by decide +kernel), List.mem_of_getElem? (i := 588) (by decide +kernel), List.mem_of_getElem? (i := 589) (by decide +kernel)⟩
theorem lw_p25 : lw_okq (⟨"HourPromised", "book", "(LHourPromised$CaseFile;II)V"⟩, 14) := ⟨⟨by decide +kernel, by decide +kernel⟩, List.mem_of_getElem? (i := 21) (by decide +kernel), List.mem_of_getElem? (i := 599) (by decide +kernel), List.mem_of_getElem? (i := 600) (by decide +kernel)⟩
theorem lw_p26 : lw_okq (⟨"HourPromised", "chapelOf", "(II)I"⟩, 14) := ⟨⟨by decide +kernel, by decide +kernel⟩, List.mem_of_getElem? (i := 21) (by decide +kernel), List.mem_of_getElem? (i := 615) (by decide +kernel), List.mem_of_getElem? (i := 616) (by decide +kernel)⟩
theorem lw_p27 : lw_okq (⟨"HourPromised", "bearersOf", "(II)I"⟩, 14) := ⟨⟨by decide +kernel, by decide +kernel⟩, List.mem_of_getElem? (i := 21) (by decide +kernel), List.mem_of_getElem? (i := 619) (by decide +kernel), List.mem_of_getElem? (i := 620) (by decide +kernel)⟩
theorem lw_p28 : lw_okq (⟨"HourPromised", "trustOfAll", "()I"⟩, 14) := ⟨⟨by decide +kernel, by decide +kernel⟩, List.mem_of_getElem? (i := 21) (by decide +kernel), List.mem_of_getElem? (i := 635) (by decide +kernel), List.mem_of_getElem? (i := 636) (by decide +kernel)⟩
theorem lw_p29 : lw_okq (⟨"HourPromised", "planOf", "(I)LHourPromised$Plan;"⟩, 14) := ⟨⟨by decide +kernel, by decide +kernel⟩, List.mem_of_getElem? (i := 21) (by decide +kernel), List.mem_of_getElem? (i := 675) (by decide +kernel), List.mem_of_getElem? (i := 676) (by decide +kernel)⟩
theorem lw_p30 : lw_okq (⟨"HourPromisedModel", "carsAt", "(I)I"⟩, 31) := ⟨⟨by decide +kernel, by decide +kernel⟩, List.mem_of_getElem? (i := 714) (by decide +kernel), List.mem_of_getElem? (i := 826) (by decide +kernel), List.mem_of_getElem? (i := 827) (by decide +kernel)⟩
theorem lw_p31 : lw_okq (⟨"HourPromisedModel", "stepsAt", "(II)I"⟩, 31) := ⟨⟨by decide +kernel, by decide +kernel⟩, List.mem_of_getElem? (i := 714) (by decide +kernel), List.mem_of_getElem? (i := 830) (by decide +kernel), List.mem_of_getElem? (i := 831) (by decide +kernel)⟩
def lw_privs_2 : List (MethodName × Nat) := [(⟨"HourPromised", "fileOf", "(I)LHourPromised$CaseFile;"⟩, 14), (⟨"HourPromised", "hindrance", "(LHourPromised$CaseFile;II)I"⟩, 14), (⟨"HourPromised$CaseFile", "comesTooLate", "(LHourPromised$Law;II)Z"⟩, 8), (⟨"HourPromised$CaseFile", "hasOtherStepAt", "(II)Z"⟩, 8), (⟨"HourPromised", "hasPlaceFor", "(LHourPromised$CaseFile;II)Z"⟩, 14), (⟨"HourPromised", "hasBearersFor", "(LHourPromised$CaseFile;I)Z"⟩, 14), (⟨"HourPromised$Bearers", "findFrom", "(II)Z"⟩, 7), (⟨"HourPromised$Bearers", "fillSet", "(IIII)Z"⟩, 7), (⟨"HourPromised$Bearers", "likeInHeight", "(II)I"⟩, 7), (⟨"HourPromised", "book", "(LHourPromised$CaseFile;II)V"⟩, 14), (⟨"HourPromised", "chapelOf", "(II)I"⟩, 14), (⟨"HourPromised", "bearersOf", "(II)I"⟩, 14), (⟨"HourPromised", "trustOfAll", "()I"⟩, 14), (⟨"HourPromised", "planOf", "(I)LHourPromised$Plan;"⟩, 14), (⟨"HourPromisedModel", "carsAt", "(I)I"⟩, 31), (⟨"HourPromisedModel", "stepsAt", "(II)I"⟩, 31)]
theorem lw_r2 : ∀ q ∈ lw_privs_2, lw_okq q := List.forall_mem_cons.mpr ⟨lw_p16, List.forall_mem_cons.mpr ⟨lw_p17, List.forall_mem_cons.mpr ⟨lw_p18, List.forall_mem_cons.mpr ⟨lw_p19, List.forall_mem_cons.mpr ⟨lw_p20, List.forall_mem_cons.mpr ⟨lw_p21, List.forall_mem_cons.mpr ⟨lw_p22, List.forall_mem_cons.mpr ⟨lw_p23, List.forall_mem_cons.mpr ⟨lw_p24, List.forall_mem_cons.mpr ⟨lw_p25, List.forall_mem_cons.mpr ⟨lw_p26, List.forall_mem_cons.mpr ⟨lw_p27, List.forall_mem_cons.mpr ⟨lw_p28, List.forall_mem_cons.mpr ⟨lw_p29, List.forall_mem_cons.mpr ⟨lw_p30, List.forall_mem_cons.mpr ⟨lw_p31, fun _ h => absurd h List.not_mem_nil⟩⟩⟩⟩⟩⟩⟩⟩⟩⟩⟩⟩⟩⟩⟩⟩
theorem lw_p32 : lw_okq (⟨"HourPromisedModel", "hourOf", "(II)I"⟩, 31) := ⟨⟨by decide +kernel, by decide +kernel⟩, List.mem_of_getElem? (i := 714) (by decide +kernel), List.mem_of_getElem? (i := 834) (by decide +kernel), List.mem_of_getElem? (i := 835) (by decide +kernel)⟩
theorem lw_p33 : lw_okq (⟨"HourPromisedModel", "roomsAt", "(I)I"⟩, 31) := ⟨⟨by decide +kernel, by decide +kernel⟩, List.mem_of_getElem? (i := 714) (by decide +kernel), List.mem_of_getElem? (i := 838) (by decide +kernel), List.mem_of_getElem? (i := 839) (by decide +kernel)⟩
theorem lw_p34 : lw_okq (⟨"HourPromisedModel", "roomEnd", "(I)I"⟩, 31) := ⟨⟨by decide +kernel, by decide +kernel⟩, List.mem_of_getElem? (i := 714) (by decide +kernel), List.mem_of_getElem? (i := 842) (by decide +kernel), List.mem_of_getElem? (i := 843) (by decide +kernel)⟩
theorem lw_p35 : lw_okq (⟨"HourPromisedModel", "chapelsAt", "(I)I"⟩, 31) := ⟨⟨by decide +kernel, by decide +kernel⟩, List.mem_of_getElem? (i := 714) (by decide +kernel), List.mem_of_getElem? (i := 851) (by decide +kernel), List.mem_of_getElem? (i := 852) (by decide +kernel)⟩
theorem lw_p36 : lw_okq (⟨"HourPromisedModel", "readLaw", "()I"⟩, 31) := ⟨⟨by decide +kernel, by decide +kernel⟩, List.mem_of_getElem? (i := 714) (by decide +kernel), List.mem_of_getElem? (i := 870) (by decide +kernel), List.mem_of_getElem? (i := 871) (by decide +kernel)⟩
theorem lw_p37 : lw_okq (⟨"HourPromisedModel", "here", "()I"⟩, 31) := ⟨⟨by decide +kernel, by decide +kernel⟩, List.mem_of_getElem? (i := 714) (by decide +kernel), List.mem_of_getElem? (i := 874) (by decide +kernel), List.mem_of_getElem? (i := 875) (by decide +kernel)⟩
theorem lw_p38 : lw_okq (⟨"HourPromisedModel", "fails", "(II)I"⟩, 31) := ⟨⟨by decide +kernel, by decide +kernel⟩, List.mem_of_getElem? (i := 714) (by decide +kernel), List.mem_of_getElem? (i := 881) (by decide +kernel), List.mem_of_getElem? (i := 882) (by decide +kernel)⟩
theorem lw_p39 : lw_okq (⟨"HourPromisedModel", "readItem", "(II)I"⟩, 31) := ⟨⟨by decide +kernel, by decide +kernel⟩, List.mem_of_getElem? (i := 714) (by decide +kernel), List.mem_of_getElem? (i := 885) (by decide +kernel), List.mem_of_getElem? (i := 886) (by decide +kernel)⟩
theorem lw_p40 : lw_okq (⟨"HourPromisedModel", "readNumber", "(I)I"⟩, 31) := ⟨⟨by decide +kernel, by decide +kernel⟩, List.mem_of_getElem? (i := 714) (by decide +kernel), List.mem_of_getElem? (i := 891) (by decide +kernel), List.mem_of_getElem? (i := 892) (by decide +kernel)⟩
theorem lw_p41 : lw_okq (⟨"HourPromisedModel", "putRight", "(II)I"⟩, 31) := ⟨⟨by decide +kernel, by decide +kernel⟩, List.mem_of_getElem? (i := 714) (by decide +kernel), List.mem_of_getElem? (i := 897) (by decide +kernel), List.mem_of_getElem? (i := 898) (by decide +kernel)⟩
theorem lw_p42 : lw_okq (⟨"HourPromisedModel", "hinders", "(III)I"⟩, 31) := ⟨⟨by decide +kernel, by decide +kernel⟩, List.mem_of_getElem? (i := 714) (by decide +kernel), List.mem_of_getElem? (i := 901) (by decide +kernel), List.mem_of_getElem? (i := 902) (by decide +kernel)⟩
theorem lw_p43 : lw_okq (⟨"HourPromisedModel", "lawOf", "(III)I"⟩, 31) := ⟨⟨by decide +kernel, by decide +kernel⟩, List.mem_of_getElem? (i := 714) (by decide +kernel), List.mem_of_getElem? (i := 905) (by decide +kernel), List.mem_of_getElem? (i := 906) (by decide +kernel)⟩
theorem lw_p44 : lw_okq (⟨"HourPromisedModel", "papersMiss", "(III)Z"⟩, 31) := ⟨⟨by decide +kernel, by decide +kernel⟩, List.mem_of_getElem? (i := 714) (by decide +kernel), List.mem_of_getElem? (i := 909) (by decide +kernel), List.mem_of_getElem? (i := 910) (by decide +kernel)⟩
theorem lw_p45 : lw_okq (⟨"HourPromisedModel", "isOut", "(III)Z"⟩, 31) := ⟨⟨by decide +kernel, by decide +kernel⟩, List.mem_of_getElem? (i := 714) (by decide +kernel), List.mem_of_getElem? (i := 913) (by decide +kernel), List.mem_of_getElem? (i := 914) (by decide +kernel)⟩
theorem lw_p46 : lw_okq (⟨"HourPromisedModel", "aheadMiss", "(III)Z"⟩, 31) := ⟨⟨by decide +kernel, by decide +kernel⟩, List.mem_of_getElem? (i := 714) (by decide +kernel), List.mem_of_getElem? (i := 917) (by decide +kernel), List.mem_of_getElem? (i := 918) (by decide +kernel)⟩
theorem lw_p47 : lw_okq (⟨"HourPromisedModel", "isCase", "(I)Z"⟩, 31) := ⟨⟨by decide +kernel, by decide +kernel⟩, List.mem_of_getElem? (i := 714) (by decide +kernel), List.mem_of_getElem? (i := 945) (by decide +kernel), List.mem_of_getElem? (i := 946) (by decide +kernel)⟩
def lw_privs_3 : List (MethodName × Nat) := [(⟨"HourPromisedModel", "hourOf", "(II)I"⟩, 31), (⟨"HourPromisedModel", "roomsAt", "(I)I"⟩, 31), (⟨"HourPromisedModel", "roomEnd", "(I)I"⟩, 31), (⟨"HourPromisedModel", "chapelsAt", "(I)I"⟩, 31), (⟨"HourPromisedModel", "readLaw", "()I"⟩, 31), (⟨"HourPromisedModel", "here", "()I"⟩, 31), (⟨"HourPromisedModel", "fails", "(II)I"⟩, 31), (⟨"HourPromisedModel", "readItem", "(II)I"⟩, 31), (⟨"HourPromisedModel", "readNumber", "(I)I"⟩, 31), (⟨"HourPromisedModel", "putRight", "(II)I"⟩, 31), (⟨"HourPromisedModel", "hinders", "(III)I"⟩, 31), (⟨"HourPromisedModel", "lawOf", "(III)I"⟩, 31), (⟨"HourPromisedModel", "papersMiss", "(III)Z"⟩, 31), (⟨"HourPromisedModel", "isOut", "(III)Z"⟩, 31), (⟨"HourPromisedModel", "aheadMiss", "(III)Z"⟩, 31), (⟨"HourPromisedModel", "isCase", "(I)Z"⟩, 31)]
theorem lw_r3 : ∀ q ∈ lw_privs_3, lw_okq q := List.forall_mem_cons.mpr ⟨lw_p32, List.forall_mem_cons.mpr ⟨lw_p33, List.forall_mem_cons.mpr ⟨lw_p34, List.forall_mem_cons.mpr ⟨lw_p35, List.forall_mem_cons.mpr ⟨lw_p36, List.forall_mem_cons.mpr ⟨lw_p37, List.forall_mem_cons.mpr ⟨lw_p38, List.forall_mem_cons.mpr ⟨lw_p39, List.forall_mem_cons.mpr ⟨lw_p40, List.forall_mem_cons.mpr ⟨lw_p41, List.forall_mem_cons.mpr ⟨lw_p42, List.forall_mem_cons.mpr ⟨lw_p43, List.forall_mem_cons.mpr ⟨lw_p44, List.forall_mem_cons.mpr ⟨lw_p45, List.forall_mem_cons.mpr ⟨lw_p46, List.forall_mem_cons.mpr ⟨lw_p47, fun _ h => absurd h List.not_mem_nil⟩⟩⟩⟩⟩⟩⟩⟩⟩⟩⟩⟩⟩⟩⟩⟩
theorem lw_p48 : lw_okq (⟨"HourPromisedModel", "mayBe", "(III)I"⟩, 31) := ⟨⟨by decide +kernel, by decide +kernel⟩, List.mem_of_getElem? (i := 714) (by decide +kernel), List.mem_of_getElem? (i := 955) (by decide +kernel), List.mem_of_getElem? (i := 956) (by decide +kernel)⟩
theorem lw_p49 : lw_okq (⟨"HourPromisedModel", "isWantedLater", "(III)Z"⟩, 31) := ⟨⟨by decide +kernel, by decide +kernel⟩, List.mem_of_getElem? (i := 714) (by decide +kernel), List.mem_of_getElem? (i := 959) (by decide +kernel), List.mem_of_getElem? (i := 960) (by decide +kernel)⟩
theorem lw_p50 : lw_okq (⟨"HourPromisedModel", "isBusy", "(II)Z"⟩, 31) := ⟨⟨by decide +kernel, by decide +kernel⟩, List.mem_of_getElem? (i := 714) (by decide +kernel), List.mem_of_getElem? (i := 963) (by decide +kernel), List.mem_of_getElem? (i := 964) (by decide +kernel)⟩
theorem lw_p51 : lw_okq (⟨"HourPromisedModel", "placeMiss", "(III)Z"⟩, 31) := ⟨⟨by decide +kernel, by decide +kernel⟩, List.mem_of_getElem? (i := 714) (by decide +kernel), List.mem_of_getElem? (i := 967) (by decide +kernel), List.mem_of_getElem? (i := 968) (by decide +kernel)⟩
theorem lw_p52 : lw_okq (⟨"HourPromisedModel", "findSets", "(I)Z"⟩, 31) := ⟨⟨by decide +kernel, by decide +kernel⟩, List.mem_of_getElem? (i := 714) (by decide +kernel), List.mem_of_getElem? (i := 971) (by decide +kernel), List.mem_of_getElem? (i := 972) (by decide +kernel)⟩
theorem lw_p53 : lw_okq (⟨"HourPromisedModel", "listSets", "(II)I"⟩, 31) := ⟨⟨by decide +kernel, by decide +kernel⟩, List.mem_of_getElem? (i := 714) (by decide +kernel), List.mem_of_getElem? (i := 975) (by decide +kernel), List.mem_of_getElem? (i := 976) (by decide +kernel)⟩
theorem lw_p54 : lw_okq (⟨"HourPromisedModel", "chapelOf", "(I)I"⟩, 31) := ⟨⟨by decide +kernel, by decide +kernel⟩, List.mem_of_getElem? (i := 714) (by decide +kernel), List.mem_of_getElem? (i := 996) (by decide +kernel), List.mem_of_getElem? (i := 997) (by decide +kernel)⟩
theorem lw_p55 : lw_okq (⟨"HourPromisedModel", "setOf", "(II)I"⟩, 31) := ⟨⟨by decide +kernel, by decide +kernel⟩, List.mem_of_getElem? (i := 714) (by decide +kernel), List.mem_of_getElem? (i := 1000) (by decide +kernel), List.mem_of_getElem? (i := 1001) (by decide +kernel)⟩
theorem lw_p56 : lw_okq (⟨"HourPromisedModel", "allTrust", "()I"⟩, 31) := ⟨⟨by decide +kernel, by decide +kernel⟩, List.mem_of_getElem? (i := 714) (by decide +kernel), List.mem_of_getElem? (i := 1012) (by decide +kernel), List.mem_of_getElem? (i := 1013) (by decide +kernel)⟩
theorem lw_p57 : lw_okq (⟨"HourPromisedModel", "isPlan", "(I)Z"⟩, 31) := ⟨⟨by decide +kernel, by decide +kernel⟩, List.mem_of_getElem? (i := 714) (by decide +kernel), List.mem_of_getElem? (i := 1025) (by decide +kernel), List.mem_of_getElem? (i := 1026) (by decide +kernel)⟩
theorem lw_p58 : lw_okq (⟨"HourPromisedModel", "planOf", "(I)I"⟩, 31) := ⟨⟨by decide +kernel, by decide +kernel⟩, List.mem_of_getElem? (i := 714) (by decide +kernel), List.mem_of_getElem? (i := 1046) (by decide +kernel), List.mem_of_getElem? (i := 1047) (by decide +kernel)⟩
def lw_privs_4 : List (MethodName × Nat) := [(⟨"HourPromisedModel", "mayBe", "(III)I"⟩, 31), (⟨"HourPromisedModel", "isWantedLater", "(III)Z"⟩, 31), (⟨"HourPromisedModel", "isBusy", "(II)Z"⟩, 31), (⟨"HourPromisedModel", "placeMiss", "(III)Z"⟩, 31), (⟨"HourPromisedModel", "findSets", "(I)Z"⟩, 31), (⟨"HourPromisedModel", "listSets", "(II)I"⟩, 31), (⟨"HourPromisedModel", "chapelOf", "(I)I"⟩, 31), (⟨"HourPromisedModel", "setOf", "(II)I"⟩, 31), (⟨"HourPromisedModel", "allTrust", "()I"⟩, 31), (⟨"HourPromisedModel", "isPlan", "(I)Z"⟩, 31), (⟨"HourPromisedModel", "planOf", "(I)I"⟩, 31)]
theorem lw_r4 : ∀ q ∈ lw_privs_4, lw_okq q := List.forall_mem_cons.mpr ⟨lw_p48, List.forall_mem_cons.mpr ⟨lw_p49, List.forall_mem_cons.mpr ⟨lw_p50, List.forall_mem_cons.mpr ⟨lw_p51, List.forall_mem_cons.mpr ⟨lw_p52, List.forall_mem_cons.mpr ⟨lw_p53, List.forall_mem_cons.mpr ⟨lw_p54, List.forall_mem_cons.mpr ⟨lw_p55, List.forall_mem_cons.mpr ⟨lw_p56, List.forall_mem_cons.mpr ⟨lw_p57, List.forall_mem_cons.mpr ⟨lw_p58, fun _ h => absurd h List.not_mem_nil⟩⟩⟩⟩⟩⟩⟩⟩⟩⟩⟩
def lw_privs : List (MethodName × Nat) := lw_privs_1 ++ (lw_privs_2 ++ (lw_privs_3 ++ (lw_privs_4)))
def lw_tbl : List Cond := k2_sels lw_privs ++ tables_1
theorem lw_privs_ok : ∀ q ∈ lw_privs, lw_okq q := by
  show ∀ q ∈ lw_privs_1 ++ (lw_privs_2 ++ (lw_privs_3 ++ (lw_privs_4))), lw_okq q
  exact List.forall_mem_append.mpr ⟨lw_r1, List.forall_mem_append.mpr ⟨lw_r2, List.forall_mem_append.mpr ⟨lw_r3, lw_r4⟩⟩⟩
def hm_F0 : u_T := fun k => match k with
  | 0 => ("HourPromised$Bearers", "heights", "[I", true)
  | 1 => ("HourPromised$Bearers", "hired", "I", false)
  | 2 => ("HourPromised$Bearers", "needed", "[I", true)
  | 3 => ("HourPromised$Bearers", "spans", "[I", true)
  | 4 => ("HourPromised$Bearers", "sets", "[I", true)
  | 5 => ("HourPromised$Bearers", "wanted", "I", false)
  | _ => ("HourPromised$Bearers", "hopeless", "[[J", true)
def hm_t0 : Nat → FieldType := fun k => match k with
  | 0 => (.array .int)
  | 1 => .int
  | 2 => (.array .int)
  | 3 => (.array .int)
  | 4 => (.array .int)
  | 5 => .int
  | _ => (.array (.array .long))
def hm_F1 : u_T := fun k => match k with
  | 0 => ("HourPromised$CaseFile", "faith", "I", true)
  | 1 => ("HourPromised$CaseFile", "death", "I", true)
  | 2 => ("HourPromised$CaseFile", "needed", "I", true)
  | 3 => ("HourPromised$CaseFile", "span", "I", true)
  | 4 => ("HourPromised$CaseFile", "paperHours", "[I", true)
  | 5 => ("HourPromised$CaseFile", "hours", "[I", true)
  | 6 => ("HourPromised$CaseFile", "plan", "I", false)
  | _ => ("HourPromised$CaseFile", "isPaid", "Z", false)
def hm_t1 : Nat → FieldType := fun k => match k with
  | 0 => .int
  | 1 => .int
  | 2 => .int
  | 3 => .int
  | 4 => (.array .int)
  | 5 => (.array .int)
  | 6 => .int
  | _ => .boolean
def hm_F2 : u_T := fun k => match k with
  | _ => ("HourPromised$Law", "sayings", "[[I", true)
def hm_t2 : Nat → FieldType := fun k => match k with
  | _ => (.array (.array .int))
def hm_F3 : u_T := fun k => match k with
  | 0 => ("HourPromised$LawReader", "faultAt", "I", false)
  | 1 => ("HourPromised$LawReader", "awaits", "I", false)
  | 2 => ("HourPromised$LawReader", "at", "I", false)
  | 3 => ("HourPromised$LawReader", "clause", "I", false)
  | 4 => ("HourPromised$LawReader", "bound", "I", false)
  | 5 => ("HourPromised$LawReader", "clausesSeen", "I", false)
  | _ => ("HourPromised$LawReader", "itemsSeen", "I", false)
def hm_t3 : Nat → FieldType := fun k => match k with
  | 0 => .int
  | 1 => .int
  | 2 => .int
  | 3 => .int
  | 4 => .int
  | 5 => .int
  | _ => .int
def hm_F4 : u_T := fun k => match k with
  | _ => ("HourPromised$Ledger", "rows", "[[I", true)
def hm_t4 : Nat → FieldType := fun k => match k with
  | _ => (.array (.array .int))
def hm_F5 : u_T := fun k => match k with
  | 0 => ("HourPromised$Plan", "price", "I", true)
  | 1 => ("HourPromised$Plan", "trust", "I", false)
  | 2 => ("HourPromised$Plan", "tiedTo", "I", false)
  | 3 => ("HourPromised$Plan", "hasPaid", "Z", false)
  | _ => ("HourPromised$Plan", "paid", "I", false)
def hm_t5 : Nat → FieldType := fun k => match k with
  | 0 => .int
  | 1 => .int
  | 2 => .int
  | 3 => .boolean
  | _ => .int
def hm_F6 : u_T := fun k => match k with
  | 0 => ("HourPromised$Text", "bytes", "[I", true)
  | _ => ("HourPromised$Text", "length", "I", false)
def hm_t6 : Nat → FieldType := fun k => match k with
  | 0 => (.array .int)
  | _ => .int
def hm_F7 : u_T := fun k => match k with
  | 0 => ("HourPromised", "stock", "[I", true)
  | 1 => ("HourPromised", "openHours", "[I", true)
  | 2 => ("HourPromised", "bearers", "LHourPromised$Bearers;", true)
  | 3 => ("HourPromised", "ledger", "LHourPromised$Ledger;", true)
  | 4 => ("HourPromised", "text", "LHourPromised$Text;", true)
  | 5 => ("HourPromised", "reader", "LHourPromised$LawReader;", true)
  | 6 => ("HourPromised", "laws", "[LHourPromised$Law;", true)
  | 7 => ("HourPromised", "draft", "LHourPromised$Law;", false)
  | 8 => ("HourPromised", "cases", "Ljava/util/ArrayList;", true)
  | 9 => ("HourPromised", "standing", "I", false)
  | 10 => ("HourPromised", "undone", "I", false)
  | 11 => ("HourPromised", "plans", "Ljava/util/ArrayList;", true)
  | 12 => ("HourPromised", "dailyRate", "I", false)
  | _ => ("HourPromised", "paidOut", "I", false)
def hm_t7 : Nat → FieldType := fun k => match k with
  | 0 => (.array .int)
  | 1 => (.array .int)
  | 2 => (.object "HourPromised$Bearers")
  | 3 => (.object "HourPromised$Ledger")
  | 4 => (.object "HourPromised$Text")
  | 5 => (.object "HourPromised$LawReader")
  | 6 => (.array (.object "HourPromised$Law"))
  | 7 => (.object "HourPromised$Law")
  | 8 => (.object "java/util/ArrayList")
  | 9 => .int
  | 10 => .int
  | 11 => (.object "java/util/ArrayList")
  | 12 => .int
  | _ => .int
def hm_F8 : u_T := fun k => match k with
  | 0 => ("HourPromisedModel", "house", "[I", true)
  | 1 => ("HourPromisedModel", "opens", "[I", true)
  | 2 => ("HourPromisedModel", "bearers", "I", false)
  | 3 => ("HourPromisedModel", "heights", "[I", true)
  | 4 => ("HourPromisedModel", "laws", "[I", true)
  | 5 => ("HourPromisedModel", "fresh", "[I", true)
  | 6 => ("HourPromisedModel", "text", "[I", true)
  | 7 => ("HourPromisedModel", "texted", "I", false)
  | 8 => ("HourPromisedModel", "faultPlace", "I", false)
  | 9 => ("HourPromisedModel", "cases", "I", false)
  | 10 => ("HourPromisedModel", "faiths", "[I", true)
  | 11 => ("HourPromisedModel", "deaths", "[I", true)
  | 12 => ("HourPromisedModel", "needed", "[I", true)
  | 13 => ("HourPromisedModel", "spans", "[I", true)
  | 14 => ("HourPromisedModel", "papers", "[I", true)
  | 15 => ("HourPromisedModel", "hours", "[I", true)
  | 16 => ("HourPromisedModel", "isPaid", "[Z", true)
  | 17 => ("HourPromisedModel", "undone", "I", false)
  | 18 => ("HourPromisedModel", "plans", "I", false)
  | 19 => ("HourPromisedModel", "prices", "[I", true)
  | 20 => ("HourPromisedModel", "trusts", "[I", true)
  | 21 => ("HourPromisedModel", "tied", "[I", true)
  | 22 => ("HourPromisedModel", "paidOut", "[I", true)
  | 23 => ("HourPromisedModel", "rate", "I", false)
  | 24 => ("HourPromisedModel", "at", "I", false)
  | 25 => ("HourPromisedModel", "takers", "I", false)
  | 26 => ("HourPromisedModel", "takerOf", "[I", true)
  | 27 => ("HourPromisedModel", "listSize", "[I", true)
  | 28 => ("HourPromisedModel", "lists", "[I", true)
  | 29 => ("HourPromisedModel", "chosen", "[I", true)
  | _ => ("HourPromisedModel", "row", "[I", true)
def hm_t8 : Nat → FieldType := fun k => match k with
  | 0 => (.array .int)
  | 1 => (.array .int)
  | 2 => .int
  | 3 => (.array .int)
  | 4 => (.array .int)
  | 5 => (.array .int)
  | 6 => (.array .int)
  | 7 => .int
  | 8 => .int
  | 9 => .int
  | 10 => (.array .int)
  | 11 => (.array .int)
  | 12 => (.array .int)
  | 13 => (.array .int)
  | 14 => (.array .int)
  | 15 => (.array .int)
  | 16 => (.array .boolean)
  | 17 => .int
  | 18 => .int
  | 19 => (.array .int)
  | 20 => (.array .int)
  | 21 => (.array .int)
  | 22 => (.array .int)
  | 23 => .int
  | 24 => .int
  | 25 => .int
  | 26 => (.array .int)
  | 27 => (.array .int)
  | 28 => (.array .int)
  | 29 => (.array .int)
  | _ => (.array .int)
def hm_F9 : u_T := fun k => match k with
  | 0 => ("java/util/AbstractList", "modCount", "I", false)
  | 1 => ("java/util/ArrayList", "elementData", "[Ljava/lang/Object;", false)
  | _ => ("java/util/ArrayList", "size", "I", false)
def hm_t9 : Nat → FieldType := fun k => match k with
  | 0 => .int
  | 1 => (.array (.object "java/lang/Object"))
  | _ => .int
/-- the classes whose objects there are: name, fields, how many -/
def hm_cls : List vw_C := [("HourPromised$Bearers", hm_F0, 7), ("HourPromised$CaseFile", hm_F1, 8), ("HourPromised$Law", hm_F2, 1), ("HourPromised$LawReader", hm_F3, 7), ("HourPromised$Ledger", hm_F4, 1), ("HourPromised$Plan", hm_F5, 5), ("HourPromised$Text", hm_F6, 2), ("HourPromised", hm_F7, 14), ("HourPromisedModel", hm_F8, 31), ("java/util/ArrayList", hm_F9, 3)]
def hm_fty : Nat → Nat → FieldType := fun c => match c with
  | 0 => hm_t0
  | 1 => hm_t1
  | 2 => hm_t2
  | 3 => hm_t3
  | 4 => hm_t4
  | 5 => hm_t5
  | 6 => hm_t6
  | 7 => hm_t7
  | 8 => hm_t8
  | _ => hm_t9
/-- the classes that methods stand in -/
def hm_own : List String := ["HourPromised$Bearers", "HourPromised$CaseFile", "HourPromised$Law", "HourPromised$LawReader", "HourPromised$Ledger", "HourPromised$Plan", "HourPromised$Text", "HourPromised", "HourPromisedModel", "java/util/ArrayList", "java/lang/Object", "java/util/Arrays", "java/util/AbstractList", "java/util/AbstractCollection", "java/lang/Math", "java/util/Objects", "jdk/internal/util/Preconditions", "jdk/internal/util/ArraysSupport", "java/lang/Integer", "HourPromisedLaw"]
/-- methods: name, code, locals, answer, place of the class in hm_own, arguments with the receiver, kind (0 static, 1 by the receiver, 2 a constructor) -/
def hm_mt0 : List (MethodName × ByteArray × Nat × Option FieldType × Nat × Nat × Nat) := [(⟨"HourPromised", "<init>", "()V"⟩, prog_1_method_1_code, 2, none, 7, 1, 2), (⟨"java/lang/Object", "<init>", "()V"⟩, object_method_1_code, 1, none, 10, 1, 2), (⟨"HourPromised$Bearers", "<init>", "()V"⟩, prog_2_method_1_code, 1, none, 0, 1, 2), (⟨"HourPromised$Ledger", "<init>", "()V"⟩, prog_6_method_1_code, 1, none, 4, 1, 2), (⟨"HourPromised$Text", "<init>", "()V"⟩, prog_8_method_1_code, 1, none, 6, 1, 2), (⟨"HourPromised$LawReader", "<init>", "()V"⟩, prog_5_method_1_code, 1, none, 3, 1, 2), (⟨"HourPromised$Law", "<init>", "()V"⟩, prog_4_method_1_code, 1, none, 2, 1, 2), (⟨"HourPromised$Law", "clear", "()V"⟩, prog_4_method_2_code, 2, none, 2, 1, 1), (⟨"java/util/Arrays", "fill", "([II)V"⟩, prog_20_method_103_code, 4, none, 11, 2, 0), (⟨"java/util/ArrayList", "<init>", "()V"⟩, prog_19_method_2_code, 1, none, 9, 1, 2), (⟨"java/util/AbstractList", "<init>", "()V"⟩, prog_18_method_1_code, 1, none, 12, 1, 2), (⟨"java/util/AbstractCollection", "<init>", "()V"⟩, prog_17_method_1_code, 1, none, 13, 1, 2), (⟨"HourPromised", "house", "(II)I"⟩, prog_1_method_2_code, 4, (some .int), 7, 3, 1), (⟨"HourPromised", "within", "(III)Z"⟩, prog_1_method_39_code, 3, (some .boolean), 7, 3, 0), (⟨"HourPromised$Ledger", "mostOfAnyHour", "(I)I"⟩, prog_6_method_3_code, 4, (some .int), 4, 2, 1), (⟨"java/lang/Math", "max", "(II)I"⟩, prog_15_method_65_code, 2, (some .int), 14, 2, 0), (⟨"HourPromised", "open", "(II)I"⟩, prog_1_method_3_code, 4, (some .int), 7, 3, 1), (⟨"HourPromised", "everyServiceHasChapel", "()Z"⟩, prog_1_method_5_code, 2, (some .boolean), 7, 1, 1), (⟨"HourPromised$Ledger", "takenIn", "(II)I"⟩, prog_6_method_2_code, 3, (some .int), 4, 3, 1), (⟨"HourPromised", "openChapels", "(I)I"⟩, prog_1_method_6_code, 4, (some .int), 7, 2, 1), (⟨"HourPromised", "isOpen", "(II)Z"⟩, prog_1_method_7_code, 3, (some .boolean), 7, 3, 1), (⟨"HourPromised", "has", "(II)Z"⟩, prog_1_method_42_code, 2, (some .boolean), 7, 2, 0), (⟨"HourPromised", "bearer", "(I)I"⟩, prog_1_method_4_code, 2, (some .int), 7, 2, 1), (⟨"HourPromised$Bearers", "hire", "(I)I"⟩, prog_2_method_2_code, 2, (some .int), 0, 2, 1), (⟨"HourPromised", "feed", "(IJ)I"⟩, prog_1_method_8_code, 4, (some .int), 7, 3, 1), (⟨"HourPromised$Text", "append", "(IJ)I"⟩, prog_8_method_2_code, 5, (some .int), 6, 3, 1), (⟨"HourPromised", "law", "(I)I"⟩, prog_1_method_9_code, 7, (some .int), 7, 2, 1), (⟨"HourPromised$LawReader", "read", "(LHourPromised$Text;LHourPromised$Law;)I"⟩, prog_5_method_2_code, 5, (some .int), 3, 3, 1), (⟨"HourPromised$Text", "byteAt", "(I)I"⟩, prog_8_method_3_code, 2, (some .int), 6, 2, 1), (⟨"HourPromised$LawReader", "skip", "()I"⟩, prog_5_method_3_code, 1, (some .int), 3, 1, 1)]
def hm_mt1 : List (MethodName × ByteArray × Nat × Option FieldType × Nat × Nat × Nat) := [(⟨"HourPromised$LawReader", "readPart", "(LHourPromised$Text;LHourPromised$Law;)I"⟩, prog_5_method_4_code, 3, (some .int), 3, 3, 1), (⟨"HourPromised$LawReader", "stepOf", "(I)I"⟩, prog_5_method_10_code, 1, (some .int), 3, 1, 0), (⟨"HourPromised$LawReader", "readClause", "(I)I"⟩, prog_5_method_6_code, 2, (some .int), 3, 2, 1), (⟨"HourPromised$LawReader", "goOn", "(I)I"⟩, prog_5_method_5_code, 2, (some .int), 3, 2, 1), (⟨"HourPromised$LawReader", "itemOf", "(I)I"⟩, prog_5_method_11_code, 2, (some .int), 3, 1, 0), (⟨"HourPromised$LawReader", "readItem", "(ILHourPromised$Law;)I"⟩, prog_5_method_7_code, 3, (some .int), 3, 3, 1), (⟨"HourPromised$Law", "put", "(III)V"⟩, prog_4_method_4_code, 4, none, 2, 4, 1), (⟨"HourPromised$Law", "addTo", "(III)V"⟩, prog_4_method_5_code, 4, none, 2, 4, 1), (⟨"HourPromised$LawReader", "readNumber", "(LHourPromised$Text;LHourPromised$Law;)I"⟩, prog_5_method_8_code, 5, (some .int), 3, 3, 1), (⟨"HourPromised$LawReader", "isFigure", "(I)Z"⟩, prog_5_method_9_code, 1, (some .boolean), 3, 1, 0), (⟨"HourPromised$Text", "empty", "()V"⟩, prog_8_method_4_code, 1, none, 6, 1, 1), (⟨"java/util/ArrayList", "size", "()I"⟩, prog_19_method_8_code, 1, (some .int), 9, 1, 1), (⟨"java/util/ArrayList", "get", "(I)Ljava/lang/Object;"⟩, prog_19_method_20_code, 2, (some (.object "java/lang/Object")), 9, 2, 1), (⟨"java/util/Objects", "checkIndex", "(II)I"⟩, prog_23_method_17_code, 2, (some .int), 15, 2, 0), (⟨"jdk/internal/util/Preconditions", "checkIndex", "(IILjava/util/function/BiFunction;)I"⟩, prog_27_method_11_code, 3, (some .int), 16, 3, 0), (⟨"java/util/ArrayList", "elementData", "(I)Ljava/lang/Object;"⟩, prog_19_method_18_code, 2, (some (.object "java/lang/Object")), 9, 2, 1), (⟨"HourPromised", "undoBroken", "(LHourPromised$CaseFile;)I"⟩, prog_1_method_29_code, 6, (some .int), 7, 2, 1), (⟨"HourPromised$CaseFile", "firstBroken", "(LHourPromised$Law;)I"⟩, prog_3_method_5_code, 3, (some .int), 1, 2, 1), (⟨"HourPromised$CaseFile", "hasPromised", "(I)Z"⟩, prog_3_method_2_code, 2, (some .boolean), 1, 2, 1), (⟨"HourPromised$CaseFile", "hinderedByLaw", "(LHourPromised$Law;II)I"⟩, prog_3_method_6_code, 4, (some .int), 1, 4, 1), (⟨"HourPromised$Law", "of", "(II)I"⟩, prog_4_method_3_code, 3, (some .int), 2, 3, 1), (⟨"HourPromised$CaseFile", "hasPapers", "(II)Z"⟩, prog_3_method_8_code, 4, (some .boolean), 1, 3, 1), (⟨"HourPromised$Law", "isWithinBounds", "(II)Z"⟩, prog_4_method_6_code, 5, (some .boolean), 2, 3, 1), (⟨"HourPromised$CaseFile", "hasStepsAhead", "(II)Z"⟩, prog_3_method_9_code, 4, (some .boolean), 1, 3, 1), (⟨"HourPromised", "takeBack", "(LHourPromised$CaseFile;I)V"⟩, prog_1_method_28_code, 3, none, 7, 3, 1), (⟨"HourPromised$Ledger", "enterRoom", "(LHourPromised$CaseFile;I)V"⟩, prog_6_method_6_code, 5, none, 4, 3, 1), (⟨"HourPromised$CaseFile", "roomEnd", "()I"⟩, prog_3_method_4_code, 2, (some .int), 1, 1, 1), (⟨"java/lang/Math", "min", "(II)I"⟩, prog_15_method_69_code, 2, (some .int), 14, 2, 0), (⟨"HourPromised$Ledger", "enterStep", "(LHourPromised$CaseFile;II)V"⟩, prog_6_method_5_code, 5, none, 4, 4, 1), (⟨"HourPromised", "takesBearers", "(I)Z"⟩, prog_1_method_43_code, 1, (some .boolean), 7, 1, 0)]
def hm_mt2 : List (MethodName × ByteArray × Nat × Option FieldType × Nat × Nat × Nat) := [(⟨"HourPromised", "place", "()I"⟩, prog_1_method_10_code, 1, (some .int), 7, 1, 1), (⟨"HourPromised", "says", "(III)I"⟩, prog_1_method_11_code, 4, (some .int), 7, 4, 1), (⟨"HourPromised", "isStep", "(I)Z"⟩, prog_1_method_41_code, 1, (some .boolean), 7, 1, 0), (⟨"HourPromised", "casus", "(IIII)I"⟩, prog_1_method_12_code, 5, (some .int), 7, 5, 1), (⟨"HourPromised", "isHour", "(I)Z"⟩, prog_1_method_40_code, 1, (some .boolean), 7, 1, 0), (⟨"HourPromised$CaseFile", "<init>", "(IIII)V"⟩, prog_3_method_1_code, 5, none, 1, 5, 2), (⟨"java/util/ArrayList", "add", "(Ljava/lang/Object;)Z"⟩, prog_19_method_25_code, 2, (some .boolean), 9, 2, 1), (⟨"java/util/ArrayList", "add", "(Ljava/lang/Object;[Ljava/lang/Object;I)V"⟩, prog_19_method_24_code, 4, none, 9, 4, 1), (⟨"java/util/ArrayList", "grow", "()[Ljava/lang/Object;"⟩, prog_19_method_7_code, 1, (some (.array (.object "java/lang/Object"))), 9, 1, 1), (⟨"java/util/ArrayList", "grow", "(I)[Ljava/lang/Object;"⟩, prog_19_method_6_code, 4, (some (.array (.object "java/lang/Object"))), 9, 2, 1), (⟨"jdk/internal/util/ArraysSupport", "newLength", "(III)I"⟩, prog_26_method_27_code, 4, (some .int), 17, 3, 0), (⟨"jdk/internal/util/ArraysSupport", "hugeLength", "(II)I"⟩, prog_26_method_28_code, 3, (some .int), 17, 2, 0), (⟨"java/util/Arrays", "copyOf", "([Ljava/lang/Object;I)[Ljava/lang/Object;"⟩, prog_20_method_119_code, 2, (some (.array (.object "java/lang/Object"))), 11, 2, 0), (⟨"java/util/Arrays", "copyOf", "([Ljava/lang/Object;ILjava/lang/Class;)[Ljava/lang/Object;"⟩, prog_20_method_120_code, 4, (some (.array (.object "java/lang/Object"))), 11, 3, 0), (⟨"HourPromised", "paper", "(III)I"⟩, prog_1_method_13_code, 5, (some .int), 7, 4, 1), (⟨"HourPromised", "fileOf", "(I)LHourPromised$CaseFile;"⟩, prog_1_method_21_code, 2, (some (.object "HourPromised$CaseFile")), 7, 2, 1), (⟨"HourPromised", "may", "(III)I"⟩, prog_1_method_14_code, 5, (some .int), 7, 4, 1), (⟨"HourPromised", "hindrance", "(LHourPromised$CaseFile;II)I"⟩, prog_1_method_22_code, 6, (some .int), 7, 4, 1), (⟨"HourPromised$CaseFile", "hinderedByOtherSteps", "(LHourPromised$Law;II)I"⟩, prog_3_method_7_code, 4, (some .int), 1, 4, 1), (⟨"HourPromised$CaseFile", "comesTooLate", "(LHourPromised$Law;II)Z"⟩, prog_3_method_10_code, 5, (some .boolean), 1, 4, 1), (⟨"HourPromised$CaseFile", "hasOtherStepAt", "(II)Z"⟩, prog_3_method_11_code, 4, (some .boolean), 1, 3, 1), (⟨"HourPromised", "hasPlaceFor", "(LHourPromised$CaseFile;II)Z"⟩, prog_1_method_23_code, 4, (some .boolean), 7, 4, 1), (⟨"HourPromised$Ledger", "hasRooms", "(III)Z"⟩, prog_6_method_4_code, 5, (some .boolean), 4, 4, 1), (⟨"HourPromised", "hasBearersFor", "(LHourPromised$CaseFile;I)Z"⟩, prog_1_method_24_code, 5, (some .boolean), 7, 3, 1), (⟨"HourPromised$Bearers", "wantNothing", "()V"⟩, prog_2_method_3_code, 1, none, 0, 1, 1), (⟨"HourPromised$CaseFile", "isCarriedAt", "(I)Z"⟩, prog_3_method_3_code, 2, (some .boolean), 1, 2, 1), (⟨"HourPromised$Bearers", "want", "(II)V"⟩, prog_2_method_4_code, 3, none, 0, 3, 1), (⟨"HourPromised$Bearers", "findSets", "()Z"⟩, prog_2_method_6_code, 3, (some .boolean), 0, 1, 1), (⟨"java/util/Arrays", "fill", "([JJ)V"⟩, prog_20_method_101_code, 5, none, 11, 2, 0), (⟨"HourPromised$Bearers", "findFrom", "(II)Z"⟩, prog_2_method_7_code, 7, (some .boolean), 0, 3, 1)]
def hm_mt3 : List (MethodName × ByteArray × Nat × Option FieldType × Nat × Nat × Nat) := [(⟨"HourPromised$Bearers", "fillSet", "(IIII)Z"⟩, prog_2_method_8_code, 8, (some .boolean), 0, 5, 1), (⟨"java/lang/Integer", "bitCount", "(I)I"⟩, prog_13_method_49_code, 1, (some .int), 18, 1, 0), (⟨"HourPromised$Bearers", "likeInHeight", "(II)I"⟩, prog_2_method_9_code, 5, (some .int), 0, 3, 1), (⟨"java/lang/Math", "abs", "(I)I"⟩, prog_15_method_59_code, 1, (some .int), 14, 1, 0), (⟨"HourPromised", "promise", "(III)I"⟩, prog_1_method_15_code, 5, (some .int), 7, 4, 1), (⟨"HourPromised", "book", "(LHourPromised$CaseFile;II)V"⟩, prog_1_method_27_code, 4, none, 7, 4, 1), (⟨"HourPromised", "earliest", "(III)I"⟩, prog_1_method_16_code, 6, (some .int), 7, 4, 1), (⟨"HourPromised", "undo", "(II)I"⟩, prog_1_method_17_code, 4, (some .int), 7, 3, 1), (⟨"HourPromised", "promised", "(III)I"⟩, prog_1_method_18_code, 5, (some .int), 7, 4, 1), (⟨"HourPromised", "chapelOf", "(II)I"⟩, prog_1_method_26_code, 5, (some .int), 7, 3, 1), (⟨"HourPromised", "bearersOf", "(II)I"⟩, prog_1_method_25_code, 6, (some .int), 7, 3, 1), (⟨"HourPromised$Bearers", "setOf", "(I)I"⟩, prog_2_method_5_code, 2, (some .int), 0, 2, 1), (⟨"HourPromised", "taken", "(II)I"⟩, prog_1_method_19_code, 3, (some .int), 7, 3, 1), (⟨"HourPromised", "count", "(I)I"⟩, prog_1_method_20_code, 2, (some .int), 7, 2, 1), (⟨"HourPromised", "trustOfAll", "()I"⟩, prog_1_method_38_code, 3, (some .int), 7, 1, 1), (⟨"HourPromised", "plan", "(I)I"⟩, prog_1_method_30_code, 2, (some .int), 7, 2, 1), (⟨"HourPromised$Plan", "<init>", "(I)V"⟩, prog_7_method_1_code, 2, none, 5, 2, 2), (⟨"HourPromised", "pay", "(II)I"⟩, prog_1_method_31_code, 4, (some .int), 7, 3, 1), (⟨"HourPromised", "planOf", "(I)LHourPromised$Plan;"⟩, prog_1_method_37_code, 2, (some (.object "HourPromised$Plan")), 7, 2, 1), (⟨"HourPromised", "rate", "(I)I"⟩, prog_1_method_32_code, 3, (some .int), 7, 2, 1), (⟨"HourPromised", "days", "(I)I"⟩, prog_1_method_33_code, 3, (some .int), 7, 2, 1), (⟨"HourPromised$Plan", "grow", "(II)V"⟩, prog_7_method_2_code, 6, none, 5, 3, 1), (⟨"java/lang/Math", "min", "(JJ)J"⟩, prog_15_method_70_code, 4, (some .long), 14, 2, 0), (⟨"HourPromised", "tie", "(II)I"⟩, prog_1_method_34_code, 5, (some .int), 7, 3, 1), (⟨"HourPromised", "settle", "(I)I"⟩, prog_1_method_35_code, 5, (some .int), 7, 2, 1), (⟨"HourPromised$Plan", "payOut", "()I"⟩, prog_7_method_3_code, 2, (some .int), 5, 1, 1), (⟨"HourPromised", "planned", "(II)I"⟩, prog_1_method_36_code, 4, (some .int), 7, 3, 1), (⟨"HourPromisedModel", "<init>", "()V"⟩, prog_10_method_1_code, 2, none, 8, 1, 2), (⟨"HourPromisedModel", "house", "(II)I"⟩, prog_10_method_14_code, 5, (some .int), 8, 3, 1), (⟨"HourPromisedModel", "in", "(JJJ)Z"⟩, prog_10_method_3_code, 6, (some .boolean), 8, 3, 0)]
def hm_mt4 : List (MethodName × ByteArray × Nat × Option FieldType × Nat × Nat × Nat) := [(⟨"HourPromisedModel", "carsAt", "(I)I"⟩, prog_10_method_10_code, 2, (some .int), 8, 2, 1), (⟨"HourPromisedModel", "stepsAt", "(II)I"⟩, prog_10_method_9_code, 5, (some .int), 8, 3, 1), (⟨"HourPromisedModel", "hourOf", "(II)I"⟩, prog_10_method_7_code, 3, (some .int), 8, 3, 1), (⟨"HourPromisedModel", "roomsAt", "(I)I"⟩, prog_10_method_12_code, 4, (some .int), 8, 2, 1), (⟨"HourPromisedModel", "roomEnd", "(I)I"⟩, prog_10_method_11_code, 5, (some .int), 8, 2, 1), (⟨"HourPromisedModel", "open", "(II)I"⟩, prog_10_method_15_code, 5, (some .int), 8, 3, 1), (⟨"HourPromisedModel", "chapelsAt", "(I)I"⟩, prog_10_method_13_code, 4, (some .int), 8, 2, 1), (⟨"HourPromisedModel", "bearer", "(I)I"⟩, prog_10_method_16_code, 2, (some .int), 8, 2, 1), (⟨"HourPromisedModel", "feed", "(IJ)I"⟩, prog_10_method_17_code, 5, (some .int), 8, 3, 1), (⟨"HourPromisedModel", "law", "(I)I"⟩, prog_10_method_24_code, 4, (some .int), 8, 2, 1), (⟨"HourPromisedModel", "readLaw", "()I"⟩, prog_10_method_23_code, 4, (some .int), 8, 1, 1), (⟨"HourPromisedModel", "here", "()I"⟩, prog_10_method_18_code, 1, (some .int), 8, 1, 1), (⟨"HourPromisedModel", "stepOf", "(I)I"⟩, prog_10_method_19_code, 1, (some .int), 8, 1, 0), (⟨"HourPromisedModel", "fails", "(II)I"⟩, prog_10_method_20_code, 3, (some .int), 8, 3, 1), (⟨"HourPromisedModel", "readItem", "(II)I"⟩, prog_10_method_22_code, 6, (some .int), 8, 3, 1), (⟨"HourPromisedModel", "readNumber", "(I)I"⟩, prog_10_method_21_code, 5, (some .int), 8, 2, 1), (⟨"HourPromisedModel", "putRight", "(II)I"⟩, prog_10_method_38_code, 7, (some .int), 8, 3, 1), (⟨"HourPromisedModel", "hinders", "(III)I"⟩, prog_10_method_30_code, 4, (some .int), 8, 4, 1), (⟨"HourPromisedModel", "lawOf", "(III)I"⟩, prog_10_method_8_code, 4, (some .int), 8, 4, 1), (⟨"HourPromisedModel", "papersMiss", "(III)Z"⟩, prog_10_method_27_code, 7, (some .boolean), 8, 4, 1), (⟨"HourPromisedModel", "isOut", "(III)Z"⟩, prog_10_method_28_code, 5, (some .boolean), 8, 4, 1), (⟨"HourPromisedModel", "aheadMiss", "(III)Z"⟩, prog_10_method_29_code, 7, (some .boolean), 8, 4, 1), (⟨"HourPromisedModel", "place", "()I"⟩, prog_10_method_25_code, 1, (some .int), 8, 1, 1), (⟨"HourPromisedModel", "says", "(III)I"⟩, prog_10_method_26_code, 4, (some .int), 8, 4, 1), (⟨"HourPromisedModel", "isStep", "(I)Z"⟩, prog_10_method_6_code, 1, (some .boolean), 8, 1, 0), (⟨"HourPromisedModel", "casus", "(IIII)I"⟩, prog_10_method_37_code, 7, (some .int), 8, 5, 1), (⟨"HourPromisedModel", "isHour", "(I)Z"⟩, prog_10_method_5_code, 1, (some .boolean), 8, 1, 0), (⟨"HourPromisedModel", "paper", "(III)I"⟩, prog_10_method_39_code, 4, (some .int), 8, 4, 1), (⟨"HourPromisedModel", "isCase", "(I)Z"⟩, prog_10_method_4_code, 2, (some .boolean), 8, 2, 1), (⟨"HourPromisedModel", "may", "(III)I"⟩, prog_10_method_40_code, 4, (some .int), 8, 4, 1)]
def hm_mt5 : List (MethodName × ByteArray × Nat × Option FieldType × Nat × Nat × Nat) := [(⟨"HourPromisedModel", "mayBe", "(III)I"⟩, prog_10_method_34_code, 6, (some .int), 8, 4, 1), (⟨"HourPromisedModel", "isWantedLater", "(III)Z"⟩, prog_10_method_31_code, 6, (some .boolean), 8, 4, 1), (⟨"HourPromisedModel", "isBusy", "(II)Z"⟩, prog_10_method_32_code, 5, (some .boolean), 8, 3, 1), (⟨"HourPromisedModel", "placeMiss", "(III)Z"⟩, prog_10_method_33_code, 6, (some .boolean), 8, 4, 1), (⟨"HourPromisedModel", "findSets", "(I)Z"⟩, prog_10_method_36_code, 4, (some .boolean), 8, 2, 1), (⟨"HourPromisedModel", "listSets", "(II)I"⟩, prog_10_method_35_code, 11, (some .int), 8, 3, 1), (⟨"HourPromisedModel", "promise", "(III)I"⟩, prog_10_method_41_code, 5, (some .int), 8, 4, 1), (⟨"HourPromisedModel", "earliest", "(III)I"⟩, prog_10_method_42_code, 5, (some .int), 8, 4, 1), (⟨"HourPromisedModel", "undo", "(II)I"⟩, prog_10_method_43_code, 3, (some .int), 8, 3, 1), (⟨"HourPromisedModel", "promised", "(III)I"⟩, prog_10_method_46_code, 5, (some .int), 8, 4, 1), (⟨"HourPromisedModel", "chapelOf", "(I)I"⟩, prog_10_method_44_code, 5, (some .int), 8, 2, 1), (⟨"HourPromisedModel", "setOf", "(II)I"⟩, prog_10_method_45_code, 6, (some .int), 8, 3, 1), (⟨"HourPromisedModel", "taken", "(II)I"⟩, prog_10_method_47_code, 5, (some .int), 8, 3, 1), (⟨"HourPromisedModel", "count", "(I)I"⟩, prog_10_method_48_code, 5, (some .int), 8, 2, 1), (⟨"HourPromisedModel", "allTrust", "()I"⟩, prog_10_method_49_code, 3, (some .int), 8, 1, 1), (⟨"HourPromisedModel", "plan", "(I)I"⟩, prog_10_method_50_code, 2, (some .int), 8, 2, 1), (⟨"HourPromisedModel", "pay", "(II)I"⟩, prog_10_method_52_code, 3, (some .int), 8, 3, 1), (⟨"HourPromisedModel", "isPlan", "(I)Z"⟩, prog_10_method_51_code, 2, (some .boolean), 8, 2, 1), (⟨"HourPromisedModel", "rate", "(I)I"⟩, prog_10_method_53_code, 3, (some .int), 8, 2, 1), (⟨"HourPromisedModel", "days", "(I)I"⟩, prog_10_method_54_code, 6, (some .int), 8, 2, 1), (⟨"HourPromisedModel", "tie", "(II)I"⟩, prog_10_method_56_code, 3, (some .int), 8, 3, 1), (⟨"HourPromisedModel", "planOf", "(I)I"⟩, prog_10_method_55_code, 4, (some .int), 8, 2, 1), (⟨"HourPromisedModel", "settle", "(I)I"⟩, prog_10_method_57_code, 4, (some .int), 8, 2, 1), (⟨"HourPromisedModel", "planned", "(II)I"⟩, prog_10_method_58_code, 3, (some .int), 8, 3, 1)]
def hm_mtab : List (MethodName × ByteArray × Nat × Option FieldType × Nat × Nat × Nat) := hm_mt0 ++ (hm_mt1 ++ (hm_mt2 ++ (hm_mt3 ++ (hm_mt4 ++ (hm_mt5 ++ ([(x, code, maxLocals, ret, 19, 1, 0)]))))))
/-- where a method's words stand: code, initialized, static or instanceMethod (in tables_1), selects (in lw_tbl) -/
def hm_mw : List (Nat × Nat × Nat × Nat) := [(24, 1, 23, 0), (27, 9999, 26, 0), (32, 2, 31, 0), (66, 3, 65, 0), (78, 4, 77, 0), (93, 5, 92, 0), (123, 6, 122, 0), (129, 6, 127, 187), (132, 7, 131, 0), (141, 10, 140, 0), (144, 9, 143, 0), (147, 8, 146, 0), (209, 1, 207, 267), (212, 1, 211, 0), (220, 3, 218, 278), (223, 12, 222, 0), (227, 1, 225, 285), (231, 1, 230, 0), (235, 3, 233, 293), (239, 1, 238, 1), (243, 1, 242, 2), (246, 1, 245, 0), (250, 1, 248, 308), (254, 2, 252, 312), (258, 1, 256, 316), (262, 4, 260, 320), (266, 1, 264, 324), (270, 5, 268, 328), (275, 4, 273, 333), (279, 5, 278, 3), (283, 5, 282, 4), (286, 5, 285, 0), (290, 5, 289, 5), (295, 5, 294, 6), (298, 5, 297, 0), (302, 5, 301, 7), (306, 6, 304, 364), (310, 6, 308, 368), (314, 5, 313, 8), (317, 5, 316, 0), (321, 4, 319, 379), (325, 10, 323, 383), (329, 10, 327, 387), (332, 13, 331, 0), (335, 14, 334, 0), (339, 10, 337, 397), (344, 1, 343, 9), (348, 15, 346, 406), (352, 15, 350, 410), (356, 15, 354, 414), (360, 6, 358, 418), (365, 15, 363, 10), (370, 6, 368, 428), (374, 15, 373, 11), (378, 1, 377, 12), (382, 3, 380, 440), (387, 15, 385, 445), (390, 12, 389, 0), (394, 3, 392, 452), (397, 1, 396, 0), (401, 1, 399, 459), (405, 1, 403, 463), (408, 1, 407, 0), (413, 1, 411, 471), (416, 1, 415, 0), (419, 15, 418, 0), (459, 10, 457, 517), (463, 10, 462, 13), (467, 10, 466, 14), (471, 10, 470, 15), (474, 16, 473, 0), (479, 16, 478, 0), (482, 7, 481, 0), (499, 7, 498, 0), (512, 1, 510, 570), (516, 1, 515, 16), (520, 1, 518, 578), (524, 1, 523, 17), (530, 15, 528, 588), (534, 15, 533, 18), (538, 15, 537, 19), (542, 1, 541, 20), (547, 3, 545, 605), (552, 1, 551, 21), (556, 2, 554, 614), (560, 15, 558, 618), (564, 2, 562, 622), (568, 2, 566, 626), (571, 7, 570, 0), (575, 2, 574, 22), (579, 2, 578, 23), (582, 18, 581, 0), (590, 2, 589, 24), (593, 12, 592, 0), (597, 1, 595, 655), (601, 1, 600, 25), (605, 1, 603, 663), (609, 1, 607, 667), (613, 1, 611, 671), (617, 1, 616, 26), (621, 1, 620, 27), (625, 2, 623, 683), (629, 1, 627, 687), (633, 1, 631, 691), (637, 1, 636, 28), (642, 1, 640, 700), (647, 19, 646, 0), (673, 1, 671, 731), (677, 1, 676, 29), (682, 1, 680, 740), (686, 1, 684, 744), (690, 19, 688, 748), (695, 12, 694, 0), (699, 1, 697, 757), (703, 1, 701, 761), (707, 19, 705, 765), (712, 1, 710, 770), (717, 11, 716, 0), (817, 11, 815, 875), (821, 11, 820, 0), (828, 11, 827, 30), (832, 11, 831, 31), (836, 11, 835, 32), (840, 11, 839, 33), (844, 11, 843, 34), (848, 11, 846, 906), (853, 11, 852, 35), (857, 11, 855, 915), (863, 11, 861, 921), (868, 11, 866, 926), (872, 11, 871, 36), (876, 11, 875, 37), (879, 11, 878, 0), (883, 11, 882, 38), (887, 11, 886, 39), (893, 11, 892, 40), (899, 11, 898, 41), (903, 11, 902, 42), (907, 11, 906, 43), (911, 11, 910, 44), (915, 11, 914, 45), (919, 11, 918, 46), (923, 11, 921, 981), (927, 11, 925, 985), (930, 11, 929, 0), (934, 11, 932, 992), (937, 11, 936, 0), (943, 11, 941, 1001), (947, 11, 946, 47), (953, 11, 951, 1011), (957, 11, 956, 48), (961, 11, 960, 49), (965, 11, 964, 50), (969, 11, 968, 51), (973, 11, 972, 52), (977, 11, 976, 53), (981, 11, 979, 1039), (986, 11, 984, 1044), (990, 11, 988, 1048), (994, 11, 992, 1052), (998, 11, 997, 54), (1002, 11, 1001, 55), (1006, 11, 1004, 1064), (1010, 11, 1008, 1068), (1014, 11, 1013, 56), (1018, 11, 1016, 1076), (1023, 11, 1021, 1081), (1027, 11, 1026, 57), (1032, 11, 1030, 1090), (1037, 11, 1035, 1095), (1044, 11, 1042, 1102), (1048, 11, 1047, 58), (1052, 11, 1050, 1110), (1056, 11, 1054, 1114)]
/-- fields by a pool's entry: ((class, entry), (class of objects, field, 1: across the nest, 2: by a subclass's name, the word's place)) -/
def hm_ftab : List ((Nat × Nat) × (Nat × Nat × Nat × Nat)) := [((0, 11), (0, 0, 0, 36)), ((0, 15), (0, 1, 0, 37)), ((7, 195), (0, 1, 1, 38)), ((0, 19), (0, 2, 0, 39)), ((0, 22), (0, 3, 0, 40)), ((0, 25), (0, 4, 0, 41)), ((0, 28), (0, 5, 0, 42)), ((7, 244), (0, 5, 1, 43)), ((0, 33), (0, 6, 0, 44)), ((4, 11), (4, 0, 0, 70)), ((6, 9), (6, 0, 0, 80)), ((6, 15), (6, 1, 0, 81)), ((3, 29), (6, 1, 1, 82)), ((7, 198), (6, 1, 1, 83)), ((3, 9), (3, 0, 0, 95)), ((7, 141), (3, 0, 1, 96)), ((3, 20), (3, 1, 0, 97)), ((3, 26), (3, 2, 0, 98)), ((3, 72), (3, 3, 0, 99)), ((3, 75), (3, 4, 0, 100)), ((3, 23), (3, 5, 0, 101)), ((3, 69), (3, 6, 0, 102)), ((2, 11), (2, 0, 0, 133)), ((9, 9), (9, 1, 0, 151)), ((9, 48), (9, 2, 0, 152)), ((12, 7), (9, 0, 0, 153)), ((9, 63), (9, 0, 2, 154)), ((7, 7), (7, 0, 0, 163)), ((7, 13), (7, 1, 0, 164)), ((7, 19), (7, 2, 0, 165)), ((7, 26), (7, 3, 0, 166)), ((7, 33), (7, 4, 0, 167)), ((7, 40), (7, 5, 0, 168)), ((7, 46), (7, 6, 0, 169)), ((7, 51), (7, 7, 0, 170)), ((7, 58), (7, 8, 0, 171)), ((7, 62), (7, 9, 0, 172)), ((7, 66), (7, 10, 0, 173)), ((7, 69), (7, 11, 0, 174)), ((7, 72), (7, 12, 0, 175)), ((7, 75), (7, 13, 0, 176)), ((1, 26), (1, 0, 0, 422)), ((7, 134), (1, 0, 1, 423)), ((1, 29), (1, 1, 0, 424)), ((1, 32), (1, 2, 0, 425)), ((4, 32), (1, 2, 1, 426)), ((7, 231), (1, 2, 1, 427)), ((1, 35), (1, 3, 0, 428)), ((7, 234), (1, 3, 1, 429)), ((1, 9), (1, 4, 0, 430)), ((7, 165), (1, 4, 1, 431)), ((1, 15), (1, 5, 0, 432)), ((4, 22), (1, 5, 1, 433)), ((7, 183), (1, 5, 1, 434)), ((1, 18), (1, 6, 0, 435)), ((7, 280), (1, 6, 1, 436)), ((1, 22), (1, 7, 0, 437)), ((7, 287), (1, 7, 1, 438)), ((5, 25), (5, 0, 0, 649)), ((7, 293), (5, 0, 1, 650)), ((5, 9), (5, 1, 0, 651)), ((7, 270), (5, 1, 1, 652)), ((5, 15), (5, 2, 0, 653)), ((7, 277), (5, 2, 1, 654)), ((5, 18), (5, 3, 0, 655)), ((7, 283), (5, 3, 1, 656)), ((5, 22), (5, 4, 0, 657)), ((7, 296), (5, 4, 1, 658)), ((8, 7), (8, 0, 0, 719)), ((8, 13), (8, 1, 0, 720)), ((8, 124), (8, 2, 0, 721)), ((8, 16), (8, 3, 0, 722)), ((8, 19), (8, 4, 0, 723)), ((8, 22), (8, 5, 0, 724)), ((8, 25), (8, 6, 0, 725)), ((8, 127), (8, 7, 0, 726)), ((8, 28), (8, 8, 0, 727)), ((8, 81), (8, 9, 0, 728)), ((8, 32), (8, 10, 0, 729)), ((8, 35), (8, 11, 0, 730)), ((8, 38), (8, 12, 0, 731)), ((8, 41), (8, 13, 0, 732)), ((8, 44), (8, 14, 0, 733)), ((8, 47), (8, 15, 0, 734)), ((8, 50), (8, 16, 0, 735)), ((8, 210), (8, 17, 0, 736)), ((8, 232), (8, 18, 0, 737)), ((8, 54), (8, 19, 0, 738)), ((8, 57), (8, 20, 0, 739)), ((8, 60), (8, 21, 0, 740)), ((8, 63), (8, 22, 0, 741)), ((8, 246), (8, 23, 0, 742)), ((8, 132), (8, 24, 0, 743)), ((8, 199), (8, 25, 0, 744)), ((8, 66), (8, 26, 0, 745)), ((8, 69), (8, 27, 0, 746)), ((8, 72), (8, 28, 0, 747)), ((8, 75), (8, 29, 0, 748)), ((8, 78), (8, 30, 0, 749))]
def hm_stab : List ((Nat × Nat) × (Nat × Nat)) := [((9, 39), (3, 149)), ((7, 82), (1, 213)), ((7, 85), (2, 215))]
def hm_ctab : List ((Nat × Nat) × (Nat × Nat × Nat)) := [((19, 9), (0, 0, 22)), ((7, 1), (1, 0, 25)), ((7, 18), (2, 1, 30)), ((0, 5), (1, 0, 33)), ((7, 25), (3, 1, 64)), ((4, 3), (1, 0, 67)), ((7, 32), (4, 1, 76)), ((6, 3), (1, 0, 79)), ((7, 39), (5, 1, 91)), ((3, 3), (1, 0, 94)), ((7, 50), (6, 0, 121)), ((2, 3), (1, 0, 124)), ((2, 16), (7, 0, 126)), ((2, 19), (8, 0, 130)), ((7, 57), (9, 0, 139)), ((9, 1), (10, 0, 142)), ((12, 1), (11, 0, 145)), ((13, 1), (1, 0, 148)), ((19, 13), (12, 0, 206)), ((7, 78), (13, 0, 210)), ((7, 88), (14, 0, 217)), ((4, 16), (15, 0, 221)), ((19, 18), (16, 0, 224)), ((7, 92), (17, 0, 228)), ((7, 99), (18, 0, 232)), ((7, 103), (19, 0, 236)), ((7, 106), (20, 0, 240)), ((7, 110), (21, 0, 244)), ((19, 22), (22, 0, 247)), ((7, 96), (23, 0, 251)), ((19, 29), (24, 0, 255)), ((7, 113), (25, 0, 259)), ((19, 34), (26, 0, 263)), ((7, 117), (27, 0, 267)), ((3, 15), (7, 0, 271)), ((3, 34), (28, 0, 272)), ((3, 38), (29, 0, 276)), ((3, 42), (30, 0, 280)), ((3, 46), (31, 0, 284)), ((3, 49), (32, 0, 287)), ((3, 65), (21, 1, 291)), ((3, 52), (33, 0, 292)), ((3, 55), (34, 0, 296)), ((3, 58), (35, 0, 299)), ((3, 78), (36, 0, 303)), ((3, 82), (37, 0, 307)), ((3, 62), (38, 0, 311)), ((3, 85), (39, 0, 315)), ((7, 121), (40, 0, 318)), ((7, 124), (41, 0, 322)), ((7, 128), (42, 0, 326)), ((9, 118), (43, 0, 330)), ((15, 105), (44, 0, 333)), ((9, 123), (45, 0, 336)), ((7, 137), (46, 0, 341)), ((7, 256), (47, 0, 345)), ((1, 44), (48, 0, 349)), ((1, 54), (49, 0, 353)), ((1, 58), (50, 0, 357)), ((1, 63), (51, 0, 361)), ((1, 80), (21, 1, 366)), ((1, 67), (52, 0, 367)), ((1, 70), (53, 0, 371)), ((7, 179), (54, 0, 375)), ((7, 250), (55, 0, 379)), ((4, 36), (48, 0, 383)), ((4, 39), (56, 0, 384)), ((1, 48), (57, 0, 388)), ((7, 253), (58, 0, 391)), ((4, 28), (59, 1, 395)), ((19, 38), (60, 0, 398)), ((19, 43), (61, 0, 402)), ((7, 144), (62, 0, 406)), ((7, 148), (50, 0, 409)), ((19, 48), (63, 0, 410)), ((7, 151), (64, 0, 414)), ((7, 154), (65, 0, 417)), ((1, 3), (1, 0, 420)), ((1, 38), (8, 0, 421)), ((7, 157), (66, 0, 456)), ((9, 131), (67, 0, 460)), ((9, 129), (68, 0, 464)), ((9, 69), (69, 0, 468)), ((9, 73), (70, 0, 472)), ((17, 194), (15, 0, 475)), ((17, 201), (71, 0, 477)), ((9, 66), (72, 0, 480)), ((11, 300), (73, 0, 497)), ((11, 304), (57, 0, 503)), ((9, 79), (15, 0, 507)), ((19, 53), (74, 0, 509)), ((7, 161), (75, 0, 513)), ((19, 57), (76, 0, 517)), ((7, 168), (77, 0, 521)), ((7, 176), (48, 0, 525)), ((7, 204), (49, 0, 526)), ((7, 208), (78, 0, 527)), ((1, 73), (79, 0, 531)), ((1, 77), (80, 0, 535)), ((7, 211), (81, 0, 539)), ((7, 219), (56, 0, 543)), ((7, 222), (82, 0, 544)), ((7, 189), (59, 0, 548)), ((7, 215), (83, 0, 549)), ((7, 225), (84, 0, 553)), ((7, 228), (85, 0, 557)), ((7, 237), (86, 0, 561)), ((7, 241), (87, 0, 565)), ((0, 36), (88, 0, 569)), ((0, 42), (89, 0, 572)), ((0, 46), (90, 0, 576)), ((0, 50), (91, 0, 580)), ((0, 56), (21, 1, 586)), ((0, 59), (92, 0, 587)), ((0, 63), (93, 0, 591)), ((19, 61), (94, 0, 594)), ((7, 172), (95, 0, 598)), ((19, 65), (96, 0, 602)), ((19, 69), (97, 0, 606)), ((19, 73), (98, 0, 610)), ((7, 186), (99, 0, 614)), ((7, 192), (100, 0, 618)), ((7, 247), (101, 0, 622)), ((19, 77), (102, 0, 626)), ((19, 81), (103, 0, 630)), ((7, 201), (104, 0, 634)), ((19, 85), (105, 0, 639)), ((7, 263), (106, 0, 645)), ((5, 3), (1, 0, 648)), ((19, 89), (107, 0, 670)), ((7, 266), (108, 0, 674)), ((19, 93), (109, 0, 679)), ((19, 97), (110, 0, 683)), ((7, 274), (111, 0, 687)), ((5, 32), (112, 0, 693)), ((19, 101), (113, 0, 696)), ((19, 105), (114, 0, 700)), ((7, 290), (115, 0, 704)), ((5, 38), (57, 0, 708)), ((19, 109), (116, 0, 709)), ((19, 12), (117, 0, 715)), ((8, 1), (1, 0, 718)), ((19, 17), (118, 0, 814)), ((8, 84), (119, 0, 819)), ((8, 109), (120, 0, 825)), ((8, 96), (121, 0, 829)), ((8, 92), (122, 0, 833)), ((8, 112), (123, 0, 837)), ((8, 99), (124, 0, 841)), ((19, 21), (125, 0, 845)), ((8, 117), (126, 0, 850)), ((19, 26), (127, 0, 854)), ((19, 33), (128, 0, 860)), ((19, 37), (129, 0, 865)), ((8, 159), (130, 0, 869)), ((8, 135), (131, 0, 873)), ((8, 146), (132, 0, 877)), ((8, 143), (133, 0, 880)), ((8, 156), (134, 0, 884)), ((8, 153), (135, 0, 890)), ((8, 162), (136, 0, 896)), ((8, 183), (137, 0, 900)), ((8, 169), (138, 0, 904)), ((8, 173), (139, 0, 908)), ((8, 177), (140, 0, 912)), ((8, 180), (141, 0, 916)), ((19, 42), (142, 0, 920)), ((19, 47), (143, 0, 924)), ((8, 165), (144, 0, 928)), ((19, 52), (145, 0, 931)), ((8, 205), (146, 0, 935)), ((19, 56), (147, 0, 940)), ((8, 213), (148, 0, 944)), ((19, 60), (149, 0, 950)), ((8, 220), (150, 0, 954)), ((8, 186), (151, 0, 958)), ((8, 189), (152, 0, 962)), ((8, 193), (153, 0, 966)), ((8, 196), (154, 0, 970)), ((8, 202), (155, 0, 974)), ((19, 64), (156, 0, 978)), ((8, 223), (149, 0, 982)), ((19, 68), (157, 0, 983)), ((19, 72), (158, 0, 987)), ((19, 76), (159, 0, 991)), ((8, 226), (160, 0, 995)), ((8, 229), (161, 0, 999)), ((19, 80), (162, 0, 1003)), ((19, 84), (163, 0, 1007)), ((8, 235), (164, 0, 1011)), ((19, 88), (165, 0, 1015)), ((19, 92), (166, 0, 1020)), ((8, 240), (167, 0, 1024)), ((19, 96), (168, 0, 1029)), ((19, 100), (169, 0, 1034)), ((19, 104), (170, 0, 1041)), ((8, 255), (171, 0, 1045)), ((19, 108), (172, 0, 1049)), ((19, 112), (173, 0, 1053))]
/-- classes by a pool's entry: ((class, entry), (class of objects; 20 int[][], 21 long[][], 22 Object, 23 Object[]; the word's place)) -/
def hm_ntab : List ((Nat × Nat) × (Nat × Nat)) := [((19, 7), (7, 20)), ((7, 16), (0, 28)), ((0, 31), (21, 34)), ((7, 23), (4, 62)), ((4, 9), (20, 68)), ((7, 30), (6, 74)), ((7, 37), (3, 89)), ((7, 44), (2, 118)), ((2, 9), (20, 125)), ((7, 55), (9, 137)), ((7, 132), (1, 340)), ((11, 110), (23, 500)), ((11, 2), (22, 502)), ((9, 7), (22, 508)), ((7, 261), (5, 638)), ((19, 10), (8, 713))]
def hm_itab : List ((Nat × Nat) × (Int32 × Nat)) := [((17, 200), (2147483639, 476)), ((18, 265), (1431655765, 583)), ((18, 266), (858993459, 584)), ((18, 267), (252645135, 585)), ((7, 260), (1000000, 643)), ((7, 273), (100000000, 678)), ((8, 243), (100000000, 1028))]
def hm_ltab : List ((Nat × Nat) × (Int64 × Nat)) := [((5, 28), (10000, 691)), ((5, 30), (100000000, 692)), ((8, 103), (2, 818)), ((8, 105), (4, 822)), ((8, 90), (3, 823)), ((8, 107), (8, 824)), ((8, 115), (1023, 849)), ((8, 120), (140, 858)), ((8, 122), (210, 859)), ((8, 130), (255, 864)), ((8, 149), (65, 888)), ((8, 151), (70, 889)), ((8, 139), (48, 894)), ((8, 141), (57, 895)), ((8, 88), (399, 938)), ((8, 208), (6, 939)), ((8, 216), (5, 948)), ((8, 218), (-1, 949)), ((8, 238), (1000000, 1019)), ((8, 244), (100, 1033)), ((8, 249), (400, 1038)), ((8, 251), (10000, 1039)), ((8, 253), (100000000, 1040)), ((19, 27), (4294967295, 1057))]
end
section
/-! what the tables of part 01 rest on: each row's words stand in tables_1 (or lw_tbl), decided by the kernel -/
def hm_in (w : Cond) : Bool := tables_1.any (fun u => decide (u = w))
theorem hm_in_mem {w : Cond} (h : hm_in w = true) : w ∈ tables_1 := by
  obtain ⟨u, hu, he⟩ := List.any_eq_true.mp h
  rw [← of_decide_eq_true he]
  exact hu
def hm_at (i : Nat) (w : Cond) : Bool := decide (tables_1[i]? = some w)
theorem hm_at_mem {i : Nat} {w : Cond} (h : hm_at i w = true) : w ∈ tables_1 := List.mem_of_getElem? (of_decide_eq_true h)
def hm_fchk (q : (Nat × Nat) × (Nat × Nat × Nat × Nat)) : Bool := match hm_own[q.1.1]?, hm_cls[q.2.1]? with
  | some own, some (_, T, N) => decide (q.2.2.1 < N) && (match q.2.2.2.1 with
    | 0 => hm_at q.2.2.2.2 (.fieldLink own q.1.2 (T q.2.2.1).1 (T q.2.2.1).2.1 (T q.2.2.1).2.2.1)
    | 1 => hm_at q.2.2.2.2 (.fieldLinkNest own q.1.2 (T q.2.2.1).1 (T q.2.2.1).2.1 (T q.2.2.1).2.2.1 "HourPromised")
    | _ => hm_at q.2.2.2.2 (.fieldLink own q.1.2 "java/util/ArrayList" (T q.2.2.1).2.1 (T q.2.2.1).2.2.1) && decide ((T q.2.2.1).1 = "java/util/AbstractList") && decide ((T q.2.2.1).2.1 = "modCount") && decide ((T q.2.2.1).2.2.1 = "I"))
  | _, _ => false
theorem hm_fok : hm_ftab.all hm_fchk = true := by decide +kernel
def hm_sname : Nat → String × String × String
  | 1 => ("HourPromised", "MOST_OF_KIND", "[I")
  | 2 => ("HourPromised", "ROW_OF_KIND", "[I")
  | _ => ("java/util/ArrayList", "DEFAULTCAPACITY_EMPTY_ELEMENTDATA", "[Ljava/lang/Object;")
def hm_schk (q : (Nat × Nat) × (Nat × Nat)) : Bool := match hm_own[q.1.1]? with
  | some own => decide (0 < q.2.1 ∧ q.2.1 < 4) && hm_at q.2.2 (.fieldLink own q.1.2 (hm_sname q.2.1).1 (hm_sname q.2.1).2.1 (hm_sname q.2.1).2.2)
  | none => false
theorem hm_sok : hm_stab.all hm_schk = true := by decide +kernel
def hm_nmH (s : String) : Bool := decide (s ≠ "java/lang/invoke/MethodHandle") && decide (s ≠ "java/lang/invoke/VarHandle")
/-- a method's own words -/
def hm_mchk (q : MethodName × ByteArray × Nat × Option FieldType × Nat × Nat × Nat) (w : Nat × Nat × Nat × Nat) : Bool := match q with
  | (y, _, mL, ret, cid, na, kd) => hm_at w.2.1 (.initialized y.cls) && hm_nmH y.cls && decide (hm_own[cid]? = some y.cls) && decide (mL ≤ 21) && plainFor y && decide ((parseMethodDescriptor y.desc).map (fun d => d.parameters.length) = some (if kd = 0 then na else na - 1)) && decide (kd = 0 ∨ 0 < na) &&
    (match kd with
    | 0 => hm_at w.2.2.1 (.static y)
    | 1 => hm_at w.2.2.1 (.instanceMethod y) && decide (lw_tbl[w.2.2.2]? = some (.selects y.cls y y))
    | _ => hm_at w.2.2.1 (.instanceMethod y) && decide (y.name = "<init>") && decide (ret = none))
end
section
set_option maxRecDepth 20000 in
theorem hm_cw0 : Cond.code ⟨"HourPromised", "<init>", "()V"⟩ prog_1_method_1_code 2 none ∈ tables_1 := (List.mem_append_left _ (List.mem_of_getElem? (i := 24) rfl))
set_option maxRecDepth 20000 in
theorem hm_cw1 : Cond.code ⟨"java/lang/Object", "<init>", "()V"⟩ object_method_1_code 1 none ∈ tables_1 := (List.mem_append_left _ (List.mem_of_getElem? (i := 27) rfl))
set_option maxRecDepth 20000 in
theorem hm_cw2 : Cond.code ⟨"HourPromised$Bearers", "<init>", "()V"⟩ prog_2_method_1_code 1 none ∈ tables_1 := (List.mem_append_left _ (List.mem_of_getElem? (i := 32) rfl))
set_option maxRecDepth 20000 in
theorem hm_cw3 : Cond.code ⟨"HourPromised$Ledger", "<init>", "()V"⟩ prog_6_method_1_code 1 none ∈ tables_1 := (List.mem_append_left _ (List.mem_of_getElem? (i := 66) rfl))
set_option maxRecDepth 20000 in
theorem hm_cw4 : Cond.code ⟨"HourPromised$Text", "<init>", "()V"⟩ prog_8_method_1_code 1 none ∈ tables_1 := (List.mem_append_left _ (List.mem_of_getElem? (i := 78) rfl))
set_option maxRecDepth 20000 in
theorem hm_cw5 : Cond.code ⟨"HourPromised$LawReader", "<init>", "()V"⟩ prog_5_method_1_code 1 none ∈ tables_1 := (List.mem_append_left _ (List.mem_of_getElem? (i := 93) rfl))
set_option maxRecDepth 20000 in
theorem hm_cw6 : Cond.code ⟨"HourPromised$Law", "<init>", "()V"⟩ prog_4_method_1_code 1 none ∈ tables_1 := (List.mem_append_left _ (List.mem_of_getElem? (i := 123) rfl))
set_option maxRecDepth 20000 in
theorem hm_cw7 : Cond.code ⟨"HourPromised$Law", "clear", "()V"⟩ prog_4_method_2_code 2 none ∈ tables_1 := (List.mem_append_left _ (List.mem_of_getElem? (i := 129) rfl))
set_option maxRecDepth 20000 in
theorem hm_cw8 : Cond.code ⟨"java/util/Arrays", "fill", "([II)V"⟩ prog_20_method_103_code 4 none ∈ tables_1 := (List.mem_append_left _ (List.mem_of_getElem? (i := 132) rfl))
set_option maxRecDepth 20000 in
theorem hm_cw9 : Cond.code ⟨"java/util/ArrayList", "<init>", "()V"⟩ prog_19_method_2_code 1 none ∈ tables_1 := (List.mem_append_left _ (List.mem_of_getElem? (i := 141) rfl))
set_option maxRecDepth 20000 in
theorem hm_cw10 : Cond.code ⟨"java/util/AbstractList", "<init>", "()V"⟩ prog_18_method_1_code 1 none ∈ tables_1 := (List.mem_append_left _ (List.mem_of_getElem? (i := 144) rfl))
set_option maxRecDepth 20000 in
theorem hm_cw11 : Cond.code ⟨"java/util/AbstractCollection", "<init>", "()V"⟩ prog_17_method_1_code 1 none ∈ tables_1 := (List.mem_append_left _ (List.mem_of_getElem? (i := 147) rfl))
set_option maxRecDepth 20000 in
theorem hm_cw12 : Cond.code ⟨"HourPromised", "house", "(II)I"⟩ prog_1_method_2_code 4 (some .int) ∈ tables_1 := (List.mem_append_left _ (List.mem_of_getElem? (i := 209) rfl))
set_option maxRecDepth 20000 in
theorem hm_cw13 : Cond.code ⟨"HourPromised", "within", "(III)Z"⟩ prog_1_method_39_code 3 (some .boolean) ∈ tables_1 := (List.mem_append_left _ (List.mem_of_getElem? (i := 212) rfl))
set_option maxRecDepth 20000 in
theorem hm_cw14 : Cond.code ⟨"HourPromised$Ledger", "mostOfAnyHour", "(I)I"⟩ prog_6_method_3_code 4 (some .int) ∈ tables_1 := (List.mem_append_left _ (List.mem_of_getElem? (i := 220) rfl))
set_option maxRecDepth 20000 in
theorem hm_cw15 : Cond.code ⟨"java/lang/Math", "max", "(II)I"⟩ prog_15_method_65_code 2 (some .int) ∈ tables_1 := (List.mem_append_left _ (List.mem_of_getElem? (i := 223) rfl))
set_option maxRecDepth 20000 in
theorem hm_cw16 : Cond.code ⟨"HourPromised", "open", "(II)I"⟩ prog_1_method_3_code 4 (some .int) ∈ tables_1 := (List.mem_append_left _ (List.mem_of_getElem? (i := 227) rfl))
set_option maxRecDepth 20000 in
theorem hm_cw17 : Cond.code ⟨"HourPromised", "everyServiceHasChapel", "()Z"⟩ prog_1_method_5_code 2 (some .boolean) ∈ tables_1 := (List.mem_append_left _ (List.mem_of_getElem? (i := 231) rfl))
set_option maxRecDepth 20000 in
theorem hm_cw18 : Cond.code ⟨"HourPromised$Ledger", "takenIn", "(II)I"⟩ prog_6_method_2_code 3 (some .int) ∈ tables_1 := (List.mem_append_left _ (List.mem_of_getElem? (i := 235) rfl))
set_option maxRecDepth 20000 in
theorem hm_cw19 : Cond.code ⟨"HourPromised", "openChapels", "(I)I"⟩ prog_1_method_6_code 4 (some .int) ∈ tables_1 := (List.mem_append_left _ (List.mem_of_getElem? (i := 239) rfl))
set_option maxRecDepth 20000 in
theorem hm_cw20 : Cond.code ⟨"HourPromised", "isOpen", "(II)Z"⟩ prog_1_method_7_code 3 (some .boolean) ∈ tables_1 := (List.mem_append_right _ (List.mem_append_left _ (List.mem_of_getElem? (i := 3) rfl)))
set_option maxRecDepth 20000 in
theorem hm_cw21 : Cond.code ⟨"HourPromised", "has", "(II)Z"⟩ prog_1_method_42_code 2 (some .boolean) ∈ tables_1 := (List.mem_append_right _ (List.mem_append_left _ (List.mem_of_getElem? (i := 6) rfl)))
set_option maxRecDepth 20000 in
theorem hm_cw22 : Cond.code ⟨"HourPromised", "bearer", "(I)I"⟩ prog_1_method_4_code 2 (some .int) ∈ tables_1 := (List.mem_append_right _ (List.mem_append_left _ (List.mem_of_getElem? (i := 10) rfl)))
set_option maxRecDepth 20000 in
theorem hm_cw23 : Cond.code ⟨"HourPromised$Bearers", "hire", "(I)I"⟩ prog_2_method_2_code 2 (some .int) ∈ tables_1 := (List.mem_append_right _ (List.mem_append_left _ (List.mem_of_getElem? (i := 14) rfl)))
set_option maxRecDepth 20000 in
theorem hm_cw24 : Cond.code ⟨"HourPromised", "feed", "(IJ)I"⟩ prog_1_method_8_code 4 (some .int) ∈ tables_1 := (List.mem_append_right _ (List.mem_append_left _ (List.mem_of_getElem? (i := 18) rfl)))
set_option maxRecDepth 20000 in
theorem hm_cw25 : Cond.code ⟨"HourPromised$Text", "append", "(IJ)I"⟩ prog_8_method_2_code 5 (some .int) ∈ tables_1 := (List.mem_append_right _ (List.mem_append_left _ (List.mem_of_getElem? (i := 22) rfl)))
set_option maxRecDepth 20000 in
theorem hm_cw26 : Cond.code ⟨"HourPromised", "law", "(I)I"⟩ prog_1_method_9_code 7 (some .int) ∈ tables_1 := (List.mem_append_right _ (List.mem_append_left _ (List.mem_of_getElem? (i := 26) rfl)))
set_option maxRecDepth 20000 in
theorem hm_cw27 : Cond.code ⟨"HourPromised$LawReader", "read", "(LHourPromised$Text;LHourPromised$Law;)I"⟩ prog_5_method_2_code 5 (some .int) ∈ tables_1 := (List.mem_append_right _ (List.mem_append_left _ (List.mem_of_getElem? (i := 30) rfl)))
set_option maxRecDepth 20000 in
theorem hm_cw28 : Cond.code ⟨"HourPromised$Text", "byteAt", "(I)I"⟩ prog_8_method_3_code 2 (some .int) ∈ tables_1 := (List.mem_append_right _ (List.mem_append_left _ (List.mem_of_getElem? (i := 35) rfl)))
set_option maxRecDepth 20000 in
theorem hm_cw29 : Cond.code ⟨"HourPromised$LawReader", "skip", "()I"⟩ prog_5_method_3_code 1 (some .int) ∈ tables_1 := (List.mem_append_right _ (List.mem_append_left _ (List.mem_of_getElem? (i := 39) rfl)))
set_option maxRecDepth 20000 in
theorem hm_cw30 : Cond.code ⟨"HourPromised$LawReader", "readPart", "(LHourPromised$Text;LHourPromised$Law;)I"⟩ prog_5_method_4_code 3 (some .int) ∈ tables_1 := (List.mem_append_right _ (List.mem_append_left _ (List.mem_of_getElem? (i := 43) rfl)))
set_option maxRecDepth 20000 in
theorem hm_cw31 : Cond.code ⟨"HourPromised$LawReader", "stepOf", "(I)I"⟩ prog_5_method_10_code 1 (some .int) ∈ tables_1 := (List.mem_append_right _ (List.mem_append_left _ (List.mem_of_getElem? (i := 46) rfl)))
set_option maxRecDepth 20000 in
theorem hm_cw32 : Cond.code ⟨"HourPromised$LawReader", "readClause", "(I)I"⟩ prog_5_method_6_code 2 (some .int) ∈ tables_1 := (List.mem_append_right _ (List.mem_append_left _ (List.mem_of_getElem? (i := 50) rfl)))
set_option maxRecDepth 20000 in
theorem hm_cw33 : Cond.code ⟨"HourPromised$LawReader", "goOn", "(I)I"⟩ prog_5_method_5_code 2 (some .int) ∈ tables_1 := (List.mem_append_right _ (List.mem_append_left _ (List.mem_of_getElem? (i := 55) rfl)))
set_option maxRecDepth 20000 in
theorem hm_cw34 : Cond.code ⟨"HourPromised$LawReader", "itemOf", "(I)I"⟩ prog_5_method_11_code 2 (some .int) ∈ tables_1 := (List.mem_append_right _ (List.mem_append_left _ (List.mem_of_getElem? (i := 58) rfl)))
set_option maxRecDepth 20000 in
theorem hm_cw35 : Cond.code ⟨"HourPromised$LawReader", "readItem", "(ILHourPromised$Law;)I"⟩ prog_5_method_7_code 3 (some .int) ∈ tables_1 := (List.mem_append_right _ (List.mem_append_left _ (List.mem_of_getElem? (i := 62) rfl)))
set_option maxRecDepth 20000 in
theorem hm_cw36 : Cond.code ⟨"HourPromised$Law", "put", "(III)V"⟩ prog_4_method_4_code 4 none ∈ tables_1 := (List.mem_append_right _ (List.mem_append_left _ (List.mem_of_getElem? (i := 66) rfl)))
set_option maxRecDepth 20000 in
theorem hm_cw37 : Cond.code ⟨"HourPromised$Law", "addTo", "(III)V"⟩ prog_4_method_5_code 4 none ∈ tables_1 := (List.mem_append_right _ (List.mem_append_left _ (List.mem_of_getElem? (i := 70) rfl)))
set_option maxRecDepth 20000 in
theorem hm_cw38 : Cond.code ⟨"HourPromised$LawReader", "readNumber", "(LHourPromised$Text;LHourPromised$Law;)I"⟩ prog_5_method_8_code 5 (some .int) ∈ tables_1 := (List.mem_append_right _ (List.mem_append_left _ (List.mem_of_getElem? (i := 74) rfl)))
set_option maxRecDepth 20000 in
theorem hm_cw39 : Cond.code ⟨"HourPromised$LawReader", "isFigure", "(I)Z"⟩ prog_5_method_9_code 1 (some .boolean) ∈ tables_1 := (List.mem_append_right _ (List.mem_append_left _ (List.mem_of_getElem? (i := 77) rfl)))
set_option maxRecDepth 20000 in
theorem hm_cw40 : Cond.code ⟨"HourPromised$Text", "empty", "()V"⟩ prog_8_method_4_code 1 none ∈ tables_1 := (List.mem_append_right _ (List.mem_append_left _ (List.mem_of_getElem? (i := 81) rfl)))
set_option maxRecDepth 20000 in
theorem hm_cw41 : Cond.code ⟨"java/util/ArrayList", "size", "()I"⟩ prog_19_method_8_code 1 (some .int) ∈ tables_1 := (List.mem_append_right _ (List.mem_append_left _ (List.mem_of_getElem? (i := 85) rfl)))
set_option maxRecDepth 20000 in
theorem hm_cw42 : Cond.code ⟨"java/util/ArrayList", "get", "(I)Ljava/lang/Object;"⟩ prog_19_method_20_code 2 (some (.object "java/lang/Object")) ∈ tables_1 := (List.mem_append_right _ (List.mem_append_left _ (List.mem_of_getElem? (i := 89) rfl)))
set_option maxRecDepth 20000 in
theorem hm_cw43 : Cond.code ⟨"java/util/Objects", "checkIndex", "(II)I"⟩ prog_23_method_17_code 2 (some .int) ∈ tables_1 := (List.mem_append_right _ (List.mem_append_left _ (List.mem_of_getElem? (i := 92) rfl)))
set_option maxRecDepth 20000 in
theorem hm_cw44 : Cond.code ⟨"jdk/internal/util/Preconditions", "checkIndex", "(IILjava/util/function/BiFunction;)I"⟩ prog_27_method_11_code 3 (some .int) ∈ tables_1 := (List.mem_append_right _ (List.mem_append_left _ (List.mem_of_getElem? (i := 95) rfl)))
set_option maxRecDepth 20000 in
theorem hm_cw45 : Cond.code ⟨"java/util/ArrayList", "elementData", "(I)Ljava/lang/Object;"⟩ prog_19_method_18_code 2 (some (.object "java/lang/Object")) ∈ tables_1 := (List.mem_append_right _ (List.mem_append_left _ (List.mem_of_getElem? (i := 99) rfl)))
set_option maxRecDepth 20000 in
theorem hm_cw46 : Cond.code ⟨"HourPromised", "undoBroken", "(LHourPromised$CaseFile;)I"⟩ prog_1_method_29_code 6 (some .int) ∈ tables_1 := (List.mem_append_right _ (List.mem_append_left _ (List.mem_of_getElem? (i := 104) rfl)))
set_option maxRecDepth 20000 in
theorem hm_cw47 : Cond.code ⟨"HourPromised$CaseFile", "firstBroken", "(LHourPromised$Law;)I"⟩ prog_3_method_5_code 3 (some .int) ∈ tables_1 := (List.mem_append_right _ (List.mem_append_left _ (List.mem_of_getElem? (i := 108) rfl)))
set_option maxRecDepth 20000 in
theorem hm_cw48 : Cond.code ⟨"HourPromised$CaseFile", "hasPromised", "(I)Z"⟩ prog_3_method_2_code 2 (some .boolean) ∈ tables_1 := (List.mem_append_right _ (List.mem_append_left _ (List.mem_of_getElem? (i := 112) rfl)))
set_option maxRecDepth 20000 in
theorem hm_cw49 : Cond.code ⟨"HourPromised$CaseFile", "hinderedByLaw", "(LHourPromised$Law;II)I"⟩ prog_3_method_6_code 4 (some .int) ∈ tables_1 := (List.mem_append_right _ (List.mem_append_left _ (List.mem_of_getElem? (i := 116) rfl)))
set_option maxRecDepth 20000 in
theorem hm_cw50 : Cond.code ⟨"HourPromised$Law", "of", "(II)I"⟩ prog_4_method_3_code 3 (some .int) ∈ tables_1 := (List.mem_append_right _ (List.mem_append_left _ (List.mem_of_getElem? (i := 120) rfl)))
set_option maxRecDepth 20000 in
theorem hm_cw51 : Cond.code ⟨"HourPromised$CaseFile", "hasPapers", "(II)Z"⟩ prog_3_method_8_code 4 (some .boolean) ∈ tables_1 := (List.mem_append_right _ (List.mem_append_left _ (List.mem_of_getElem? (i := 125) rfl)))
set_option maxRecDepth 20000 in
theorem hm_cw52 : Cond.code ⟨"HourPromised$Law", "isWithinBounds", "(II)Z"⟩ prog_4_method_6_code 5 (some .boolean) ∈ tables_1 := (List.mem_append_right _ (List.mem_append_left _ (List.mem_of_getElem? (i := 130) rfl)))
set_option maxRecDepth 20000 in
theorem hm_cw53 : Cond.code ⟨"HourPromised$CaseFile", "hasStepsAhead", "(II)Z"⟩ prog_3_method_9_code 4 (some .boolean) ∈ tables_1 := (List.mem_append_right _ (List.mem_append_left _ (List.mem_of_getElem? (i := 134) rfl)))
set_option maxRecDepth 20000 in
theorem hm_cw54 : Cond.code ⟨"HourPromised", "takeBack", "(LHourPromised$CaseFile;I)V"⟩ prog_1_method_28_code 3 none ∈ tables_1 := (List.mem_append_right _ (List.mem_append_left _ (List.mem_of_getElem? (i := 138) rfl)))
set_option maxRecDepth 20000 in
theorem hm_cw55 : Cond.code ⟨"HourPromised$Ledger", "enterRoom", "(LHourPromised$CaseFile;I)V"⟩ prog_6_method_6_code 5 none ∈ tables_1 := (List.mem_append_right _ (List.mem_append_left _ (List.mem_of_getElem? (i := 142) rfl)))
set_option maxRecDepth 20000 in
theorem hm_cw56 : Cond.code ⟨"HourPromised$CaseFile", "roomEnd", "()I"⟩ prog_3_method_4_code 2 (some .int) ∈ tables_1 := (List.mem_append_right _ (List.mem_append_left _ (List.mem_of_getElem? (i := 147) rfl)))
set_option maxRecDepth 20000 in
theorem hm_cw57 : Cond.code ⟨"java/lang/Math", "min", "(II)I"⟩ prog_15_method_69_code 2 (some .int) ∈ tables_1 := (List.mem_append_right _ (List.mem_append_left _ (List.mem_of_getElem? (i := 150) rfl)))
set_option maxRecDepth 20000 in
theorem hm_cw58 : Cond.code ⟨"HourPromised$Ledger", "enterStep", "(LHourPromised$CaseFile;II)V"⟩ prog_6_method_5_code 5 none ∈ tables_1 := (List.mem_append_right _ (List.mem_append_left _ (List.mem_of_getElem? (i := 154) rfl)))
set_option maxRecDepth 20000 in
theorem hm_cw59 : Cond.code ⟨"HourPromised", "takesBearers", "(I)Z"⟩ prog_1_method_43_code 1 (some .boolean) ∈ tables_1 := (List.mem_append_right _ (List.mem_append_left _ (List.mem_of_getElem? (i := 157) rfl)))
set_option maxRecDepth 20000 in
theorem hm_cw60 : Cond.code ⟨"HourPromised", "place", "()I"⟩ prog_1_method_10_code 1 (some .int) ∈ tables_1 := (List.mem_append_right _ (List.mem_append_left _ (List.mem_of_getElem? (i := 161) rfl)))
set_option maxRecDepth 20000 in
theorem hm_cw61 : Cond.code ⟨"HourPromised", "says", "(III)I"⟩ prog_1_method_11_code 4 (some .int) ∈ tables_1 := (List.mem_append_right _ (List.mem_append_left _ (List.mem_of_getElem? (i := 165) rfl)))
set_option maxRecDepth 20000 in
theorem hm_cw62 : Cond.code ⟨"HourPromised", "isStep", "(I)Z"⟩ prog_1_method_41_code 1 (some .boolean) ∈ tables_1 := (List.mem_append_right _ (List.mem_append_left _ (List.mem_of_getElem? (i := 168) rfl)))
set_option maxRecDepth 20000 in
theorem hm_cw63 : Cond.code ⟨"HourPromised", "casus", "(IIII)I"⟩ prog_1_method_12_code 5 (some .int) ∈ tables_1 := (List.mem_append_right _ (List.mem_append_left _ (List.mem_of_getElem? (i := 173) rfl)))
set_option maxRecDepth 20000 in
theorem hm_cw64 : Cond.code ⟨"HourPromised", "isHour", "(I)Z"⟩ prog_1_method_40_code 1 (some .boolean) ∈ tables_1 := (List.mem_append_right _ (List.mem_append_left _ (List.mem_of_getElem? (i := 176) rfl)))
set_option maxRecDepth 20000 in
theorem hm_cw65 : Cond.code ⟨"HourPromised$CaseFile", "<init>", "(IIII)V"⟩ prog_3_method_1_code 5 none ∈ tables_1 := (List.mem_append_right _ (List.mem_append_left _ (List.mem_of_getElem? (i := 179) rfl)))
set_option maxRecDepth 20000 in
theorem hm_cw66 : Cond.code ⟨"java/util/ArrayList", "add", "(Ljava/lang/Object;)Z"⟩ prog_19_method_25_code 2 (some .boolean) ∈ tables_1 := (List.mem_append_right _ (List.mem_append_left _ (List.mem_of_getElem? (i := 219) rfl)))
set_option maxRecDepth 20000 in
theorem hm_cw67 : Cond.code ⟨"java/util/ArrayList", "add", "(Ljava/lang/Object;[Ljava/lang/Object;I)V"⟩ prog_19_method_24_code 4 none ∈ tables_1 := (List.mem_append_right _ (List.mem_append_left _ (List.mem_of_getElem? (i := 223) rfl)))
set_option maxRecDepth 20000 in
theorem hm_cw68 : Cond.code ⟨"java/util/ArrayList", "grow", "()[Ljava/lang/Object;"⟩ prog_19_method_7_code 1 (some (.array (.object "java/lang/Object"))) ∈ tables_1 := (List.mem_append_right _ (List.mem_append_left _ (List.mem_of_getElem? (i := 227) rfl)))
set_option maxRecDepth 20000 in
theorem hm_cw69 : Cond.code ⟨"java/util/ArrayList", "grow", "(I)[Ljava/lang/Object;"⟩ prog_19_method_6_code 4 (some (.array (.object "java/lang/Object"))) ∈ tables_1 := (List.mem_append_right _ (List.mem_append_left _ (List.mem_of_getElem? (i := 231) rfl)))
set_option maxRecDepth 20000 in
theorem hm_cw70 : Cond.code ⟨"jdk/internal/util/ArraysSupport", "newLength", "(III)I"⟩ prog_26_method_27_code 4 (some .int) ∈ tables_1 := (List.mem_append_right _ (List.mem_append_left _ (List.mem_of_getElem? (i := 234) rfl)))
set_option maxRecDepth 20000 in
theorem hm_cw71 : Cond.code ⟨"jdk/internal/util/ArraysSupport", "hugeLength", "(II)I"⟩ prog_26_method_28_code 3 (some .int) ∈ tables_1 := (List.mem_append_right _ (List.mem_append_left _ (List.mem_of_getElem? (i := 239) rfl)))
set_option maxRecDepth 20000 in
theorem hm_cw72 : Cond.code ⟨"java/util/Arrays", "copyOf", "([Ljava/lang/Object;I)[Ljava/lang/Object;"⟩ prog_20_method_119_code 2 (some (.array (.object "java/lang/Object"))) ∈ tables_1 := (List.mem_append_right _ (List.mem_append_right _ (List.mem_append_left _ (List.mem_of_getElem? (i := 2) rfl))))
set_option maxRecDepth 20000 in
theorem hm_cw73 : Cond.code ⟨"java/util/Arrays", "copyOf", "([Ljava/lang/Object;ILjava/lang/Class;)[Ljava/lang/Object;"⟩ prog_20_method_120_code 4 (some (.array (.object "java/lang/Object"))) ∈ tables_1 := (List.mem_append_right _ (List.mem_append_right _ (List.mem_append_left _ (List.mem_of_getElem? (i := 19) rfl))))
set_option maxRecDepth 20000 in
theorem hm_cw74 : Cond.code ⟨"HourPromised", "paper", "(III)I"⟩ prog_1_method_13_code 5 (some .int) ∈ tables_1 := (List.mem_append_right _ (List.mem_append_right _ (List.mem_append_left _ (List.mem_of_getElem? (i := 32) rfl))))
set_option maxRecDepth 20000 in
theorem hm_cw75 : Cond.code ⟨"HourPromised", "fileOf", "(I)LHourPromised$CaseFile;"⟩ prog_1_method_21_code 2 (some (.object "HourPromised$CaseFile")) ∈ tables_1 := (List.mem_append_right _ (List.mem_append_right _ (List.mem_append_left _ (List.mem_of_getElem? (i := 36) rfl))))
set_option maxRecDepth 20000 in
theorem hm_cw76 : Cond.code ⟨"HourPromised", "may", "(III)I"⟩ prog_1_method_14_code 5 (some .int) ∈ tables_1 := (List.mem_append_right _ (List.mem_append_right _ (List.mem_append_left _ (List.mem_of_getElem? (i := 40) rfl))))
set_option maxRecDepth 20000 in
theorem hm_cw77 : Cond.code ⟨"HourPromised", "hindrance", "(LHourPromised$CaseFile;II)I"⟩ prog_1_method_22_code 6 (some .int) ∈ tables_1 := (List.mem_append_right _ (List.mem_append_right _ (List.mem_append_left _ (List.mem_of_getElem? (i := 44) rfl))))
set_option maxRecDepth 20000 in
theorem hm_cw78 : Cond.code ⟨"HourPromised$CaseFile", "hinderedByOtherSteps", "(LHourPromised$Law;II)I"⟩ prog_3_method_7_code 4 (some .int) ∈ tables_1 := (List.mem_append_right _ (List.mem_append_right _ (List.mem_append_left _ (List.mem_of_getElem? (i := 50) rfl))))
set_option maxRecDepth 20000 in
theorem hm_cw79 : Cond.code ⟨"HourPromised$CaseFile", "comesTooLate", "(LHourPromised$Law;II)Z"⟩ prog_3_method_10_code 5 (some .boolean) ∈ tables_1 := (List.mem_append_right _ (List.mem_append_right _ (List.mem_append_left _ (List.mem_of_getElem? (i := 54) rfl))))
set_option maxRecDepth 20000 in
theorem hm_cw80 : Cond.code ⟨"HourPromised$CaseFile", "hasOtherStepAt", "(II)Z"⟩ prog_3_method_11_code 4 (some .boolean) ∈ tables_1 := (List.mem_append_right _ (List.mem_append_right _ (List.mem_append_left _ (List.mem_of_getElem? (i := 58) rfl))))
set_option maxRecDepth 20000 in
theorem hm_cw81 : Cond.code ⟨"HourPromised", "hasPlaceFor", "(LHourPromised$CaseFile;II)Z"⟩ prog_1_method_23_code 4 (some .boolean) ∈ tables_1 := (List.mem_append_right _ (List.mem_append_right _ (List.mem_append_left _ (List.mem_of_getElem? (i := 62) rfl))))
set_option maxRecDepth 20000 in
theorem hm_cw82 : Cond.code ⟨"HourPromised$Ledger", "hasRooms", "(III)Z"⟩ prog_6_method_4_code 5 (some .boolean) ∈ tables_1 := (List.mem_append_right _ (List.mem_append_right _ (List.mem_append_left _ (List.mem_of_getElem? (i := 67) rfl))))
set_option maxRecDepth 20000 in
theorem hm_cw83 : Cond.code ⟨"HourPromised", "hasBearersFor", "(LHourPromised$CaseFile;I)Z"⟩ prog_1_method_24_code 5 (some .boolean) ∈ tables_1 := (List.mem_append_right _ (List.mem_append_right _ (List.mem_append_left _ (List.mem_of_getElem? (i := 72) rfl))))
set_option maxRecDepth 20000 in
theorem hm_cw84 : Cond.code ⟨"HourPromised$Bearers", "wantNothing", "()V"⟩ prog_2_method_3_code 1 none ∈ tables_1 := (List.mem_append_right _ (List.mem_append_right _ (List.mem_append_left _ (List.mem_of_getElem? (i := 76) rfl))))
set_option maxRecDepth 20000 in
theorem hm_cw85 : Cond.code ⟨"HourPromised$CaseFile", "isCarriedAt", "(I)Z"⟩ prog_3_method_3_code 2 (some .boolean) ∈ tables_1 := (List.mem_append_right _ (List.mem_append_right _ (List.mem_append_left _ (List.mem_of_getElem? (i := 80) rfl))))
set_option maxRecDepth 20000 in
theorem hm_cw86 : Cond.code ⟨"HourPromised$Bearers", "want", "(II)V"⟩ prog_2_method_4_code 3 none ∈ tables_1 := (List.mem_append_right _ (List.mem_append_right _ (List.mem_append_left _ (List.mem_of_getElem? (i := 84) rfl))))
set_option maxRecDepth 20000 in
theorem hm_cw87 : Cond.code ⟨"HourPromised$Bearers", "findSets", "()Z"⟩ prog_2_method_6_code 3 (some .boolean) ∈ tables_1 := (List.mem_append_right _ (List.mem_append_right _ (List.mem_append_left _ (List.mem_of_getElem? (i := 88) rfl))))
set_option maxRecDepth 20000 in
theorem hm_cw88 : Cond.code ⟨"java/util/Arrays", "fill", "([JJ)V"⟩ prog_20_method_101_code 5 none ∈ tables_1 := (List.mem_append_right _ (List.mem_append_right _ (List.mem_append_left _ (List.mem_of_getElem? (i := 91) rfl))))
set_option maxRecDepth 20000 in
theorem hm_cw89 : Cond.code ⟨"HourPromised$Bearers", "findFrom", "(II)Z"⟩ prog_2_method_7_code 7 (some .boolean) ∈ tables_1 := (List.mem_append_right _ (List.mem_append_right _ (List.mem_append_left _ (List.mem_of_getElem? (i := 95) rfl))))
set_option maxRecDepth 20000 in
theorem hm_cw90 : Cond.code ⟨"HourPromised$Bearers", "fillSet", "(IIII)Z"⟩ prog_2_method_8_code 8 (some .boolean) ∈ tables_1 := (List.mem_append_right _ (List.mem_append_right _ (List.mem_append_left _ (List.mem_of_getElem? (i := 99) rfl))))
set_option maxRecDepth 20000 in
theorem hm_cw91 : Cond.code ⟨"java/lang/Integer", "bitCount", "(I)I"⟩ prog_13_method_49_code 1 (some .int) ∈ tables_1 := (List.mem_append_right _ (List.mem_append_right _ (List.mem_append_left _ (List.mem_of_getElem? (i := 102) rfl))))
set_option maxRecDepth 20000 in
theorem hm_cw92 : Cond.code ⟨"HourPromised$Bearers", "likeInHeight", "(II)I"⟩ prog_2_method_9_code 5 (some .int) ∈ tables_1 := (List.mem_append_right _ (List.mem_append_right _ (List.mem_append_left _ (List.mem_of_getElem? (i := 110) rfl))))
set_option maxRecDepth 20000 in
theorem hm_cw93 : Cond.code ⟨"java/lang/Math", "abs", "(I)I"⟩ prog_15_method_59_code 1 (some .int) ∈ tables_1 := (List.mem_append_right _ (List.mem_append_right _ (List.mem_append_left _ (List.mem_of_getElem? (i := 113) rfl))))
set_option maxRecDepth 20000 in
theorem hm_cw94 : Cond.code ⟨"HourPromised", "promise", "(III)I"⟩ prog_1_method_15_code 5 (some .int) ∈ tables_1 := (List.mem_append_right _ (List.mem_append_right _ (List.mem_append_left _ (List.mem_of_getElem? (i := 117) rfl))))
set_option maxRecDepth 20000 in
theorem hm_cw95 : Cond.code ⟨"HourPromised", "book", "(LHourPromised$CaseFile;II)V"⟩ prog_1_method_27_code 4 none ∈ tables_1 := (List.mem_append_right _ (List.mem_append_right _ (List.mem_append_left _ (List.mem_of_getElem? (i := 121) rfl))))
set_option maxRecDepth 20000 in
theorem hm_cw96 : Cond.code ⟨"HourPromised", "earliest", "(III)I"⟩ prog_1_method_16_code 6 (some .int) ∈ tables_1 := (List.mem_append_right _ (List.mem_append_right _ (List.mem_append_left _ (List.mem_of_getElem? (i := 125) rfl))))
set_option maxRecDepth 20000 in
theorem hm_cw97 : Cond.code ⟨"HourPromised", "undo", "(II)I"⟩ prog_1_method_17_code 4 (some .int) ∈ tables_1 := (List.mem_append_right _ (List.mem_append_right _ (List.mem_append_left _ (List.mem_of_getElem? (i := 129) rfl))))
set_option maxRecDepth 20000 in
theorem hm_cw98 : Cond.code ⟨"HourPromised", "promised", "(III)I"⟩ prog_1_method_18_code 5 (some .int) ∈ tables_1 := (List.mem_append_right _ (List.mem_append_right _ (List.mem_append_left _ (List.mem_of_getElem? (i := 133) rfl))))
set_option maxRecDepth 20000 in
theorem hm_cw99 : Cond.code ⟨"HourPromised", "chapelOf", "(II)I"⟩ prog_1_method_26_code 5 (some .int) ∈ tables_1 := (List.mem_append_right _ (List.mem_append_right _ (List.mem_append_left _ (List.mem_of_getElem? (i := 137) rfl))))
set_option maxRecDepth 20000 in
theorem hm_cw100 : Cond.code ⟨"HourPromised", "bearersOf", "(II)I"⟩ prog_1_method_25_code 6 (some .int) ∈ tables_1 := (List.mem_append_right _ (List.mem_append_right _ (List.mem_append_left _ (List.mem_of_getElem? (i := 141) rfl))))
set_option maxRecDepth 20000 in
theorem hm_cw101 : Cond.code ⟨"HourPromised$Bearers", "setOf", "(I)I"⟩ prog_2_method_5_code 2 (some .int) ∈ tables_1 := (List.mem_append_right _ (List.mem_append_right _ (List.mem_append_left _ (List.mem_of_getElem? (i := 145) rfl))))
set_option maxRecDepth 20000 in
theorem hm_cw102 : Cond.code ⟨"HourPromised", "taken", "(II)I"⟩ prog_1_method_19_code 3 (some .int) ∈ tables_1 := (List.mem_append_right _ (List.mem_append_right _ (List.mem_append_left _ (List.mem_of_getElem? (i := 149) rfl))))
set_option maxRecDepth 20000 in
theorem hm_cw103 : Cond.code ⟨"HourPromised", "count", "(I)I"⟩ prog_1_method_20_code 2 (some .int) ∈ tables_1 := (List.mem_append_right _ (List.mem_append_right _ (List.mem_append_left _ (List.mem_of_getElem? (i := 153) rfl))))
set_option maxRecDepth 20000 in
theorem hm_cw104 : Cond.code ⟨"HourPromised", "trustOfAll", "()I"⟩ prog_1_method_38_code 3 (some .int) ∈ tables_1 := (List.mem_append_right _ (List.mem_append_right _ (List.mem_append_left _ (List.mem_of_getElem? (i := 157) rfl))))
set_option maxRecDepth 20000 in
theorem hm_cw105 : Cond.code ⟨"HourPromised", "plan", "(I)I"⟩ prog_1_method_30_code 2 (some .int) ∈ tables_1 := (List.mem_append_right _ (List.mem_append_right _ (List.mem_append_left _ (List.mem_of_getElem? (i := 162) rfl))))
set_option maxRecDepth 20000 in
theorem hm_cw106 : Cond.code ⟨"HourPromised$Plan", "<init>", "(I)V"⟩ prog_7_method_1_code 2 none ∈ tables_1 := (List.mem_append_right _ (List.mem_append_right _ (List.mem_append_left _ (List.mem_of_getElem? (i := 167) rfl))))
set_option maxRecDepth 20000 in
theorem hm_cw107 : Cond.code ⟨"HourPromised", "pay", "(II)I"⟩ prog_1_method_31_code 4 (some .int) ∈ tables_1 := (List.mem_append_right _ (List.mem_append_right _ (List.mem_append_left _ (List.mem_of_getElem? (i := 193) rfl))))
set_option maxRecDepth 20000 in
theorem hm_cw108 : Cond.code ⟨"HourPromised", "planOf", "(I)LHourPromised$Plan;"⟩ prog_1_method_37_code 2 (some (.object "HourPromised$Plan")) ∈ tables_1 := (List.mem_append_right _ (List.mem_append_right _ (List.mem_append_left _ (List.mem_of_getElem? (i := 197) rfl))))
set_option maxRecDepth 20000 in
theorem hm_cw109 : Cond.code ⟨"HourPromised", "rate", "(I)I"⟩ prog_1_method_32_code 3 (some .int) ∈ tables_1 := (List.mem_append_right _ (List.mem_append_right _ (List.mem_append_left _ (List.mem_of_getElem? (i := 202) rfl))))
set_option maxRecDepth 20000 in
theorem hm_cw110 : Cond.code ⟨"HourPromised", "days", "(I)I"⟩ prog_1_method_33_code 3 (some .int) ∈ tables_1 := (List.mem_append_right _ (List.mem_append_right _ (List.mem_append_left _ (List.mem_of_getElem? (i := 206) rfl))))
set_option maxRecDepth 20000 in
theorem hm_cw111 : Cond.code ⟨"HourPromised$Plan", "grow", "(II)V"⟩ prog_7_method_2_code 6 none ∈ tables_1 := (List.mem_append_right _ (List.mem_append_right _ (List.mem_append_left _ (List.mem_of_getElem? (i := 210) rfl))))
set_option maxRecDepth 20000 in
theorem hm_cw112 : Cond.code ⟨"java/lang/Math", "min", "(JJ)J"⟩ prog_15_method_70_code 4 (some .long) ∈ tables_1 := (List.mem_append_right _ (List.mem_append_right _ (List.mem_append_left _ (List.mem_of_getElem? (i := 215) rfl))))
set_option maxRecDepth 20000 in
theorem hm_cw113 : Cond.code ⟨"HourPromised", "tie", "(II)I"⟩ prog_1_method_34_code 5 (some .int) ∈ tables_1 := (List.mem_append_right _ (List.mem_append_right _ (List.mem_append_left _ (List.mem_of_getElem? (i := 219) rfl))))
set_option maxRecDepth 20000 in
theorem hm_cw114 : Cond.code ⟨"HourPromised", "settle", "(I)I"⟩ prog_1_method_35_code 5 (some .int) ∈ tables_1 := (List.mem_append_right _ (List.mem_append_right _ (List.mem_append_left _ (List.mem_of_getElem? (i := 223) rfl))))
set_option maxRecDepth 20000 in
theorem hm_cw115 : Cond.code ⟨"HourPromised$Plan", "payOut", "()I"⟩ prog_7_method_3_code 2 (some .int) ∈ tables_1 := (List.mem_append_right _ (List.mem_append_right _ (List.mem_append_left _ (List.mem_of_getElem? (i := 227) rfl))))
set_option maxRecDepth 20000 in
theorem hm_cw116 : Cond.code ⟨"HourPromised", "planned", "(II)I"⟩ prog_1_method_36_code 4 (some .int) ∈ tables_1 := (List.mem_append_right _ (List.mem_append_right _ (List.mem_append_left _ (List.mem_of_getElem? (i := 232) rfl))))
set_option maxRecDepth 20000 in
theorem hm_cw117 : Cond.code ⟨"HourPromisedModel", "<init>", "()V"⟩ prog_10_method_1_code 2 none ∈ tables_1 := (List.mem_append_right _ (List.mem_append_right _ (List.mem_append_left _ (List.mem_of_getElem? (i := 237) rfl))))
set_option maxRecDepth 20000 in
theorem hm_cw118 : Cond.code ⟨"HourPromisedModel", "house", "(II)I"⟩ prog_10_method_14_code 5 (some .int) ∈ tables_1 := (List.mem_append_right _ (List.mem_append_right _ (List.mem_append_right _ (List.mem_append_left _ (List.mem_of_getElem? (i := 97) rfl)))))
set_option maxRecDepth 20000 in
theorem hm_cw119 : Cond.code ⟨"HourPromisedModel", "in", "(JJJ)Z"⟩ prog_10_method_3_code 6 (some .boolean) ∈ tables_1 := (List.mem_append_right _ (List.mem_append_right _ (List.mem_append_right _ (List.mem_append_left _ (List.mem_of_getElem? (i := 101) rfl)))))
set_option maxRecDepth 20000 in
theorem hm_cw120 : Cond.code ⟨"HourPromisedModel", "carsAt", "(I)I"⟩ prog_10_method_10_code 2 (some .int) ∈ tables_1 := (List.mem_append_right _ (List.mem_append_right _ (List.mem_append_right _ (List.mem_append_left _ (List.mem_of_getElem? (i := 108) rfl)))))
set_option maxRecDepth 20000 in
theorem hm_cw121 : Cond.code ⟨"HourPromisedModel", "stepsAt", "(II)I"⟩ prog_10_method_9_code 5 (some .int) ∈ tables_1 := (List.mem_append_right _ (List.mem_append_right _ (List.mem_append_right _ (List.mem_append_left _ (List.mem_of_getElem? (i := 112) rfl)))))
set_option maxRecDepth 20000 in
theorem hm_cw122 : Cond.code ⟨"HourPromisedModel", "hourOf", "(II)I"⟩ prog_10_method_7_code 3 (some .int) ∈ tables_1 := (List.mem_append_right _ (List.mem_append_right _ (List.mem_append_right _ (List.mem_append_left _ (List.mem_of_getElem? (i := 116) rfl)))))
set_option maxRecDepth 20000 in
theorem hm_cw123 : Cond.code ⟨"HourPromisedModel", "roomsAt", "(I)I"⟩ prog_10_method_12_code 4 (some .int) ∈ tables_1 := (List.mem_append_right _ (List.mem_append_right _ (List.mem_append_right _ (List.mem_append_left _ (List.mem_of_getElem? (i := 120) rfl)))))
set_option maxRecDepth 20000 in
theorem hm_cw124 : Cond.code ⟨"HourPromisedModel", "roomEnd", "(I)I"⟩ prog_10_method_11_code 5 (some .int) ∈ tables_1 := (List.mem_append_right _ (List.mem_append_right _ (List.mem_append_right _ (List.mem_append_left _ (List.mem_of_getElem? (i := 124) rfl)))))
set_option maxRecDepth 20000 in
theorem hm_cw125 : Cond.code ⟨"HourPromisedModel", "open", "(II)I"⟩ prog_10_method_15_code 5 (some .int) ∈ tables_1 := (List.mem_append_right _ (List.mem_append_right _ (List.mem_append_right _ (List.mem_append_left _ (List.mem_of_getElem? (i := 128) rfl)))))
set_option maxRecDepth 20000 in
theorem hm_cw126 : Cond.code ⟨"HourPromisedModel", "chapelsAt", "(I)I"⟩ prog_10_method_13_code 4 (some .int) ∈ tables_1 := (List.mem_append_right _ (List.mem_append_right _ (List.mem_append_right _ (List.mem_append_left _ (List.mem_of_getElem? (i := 133) rfl)))))
set_option maxRecDepth 20000 in
theorem hm_cw127 : Cond.code ⟨"HourPromisedModel", "bearer", "(I)I"⟩ prog_10_method_16_code 2 (some .int) ∈ tables_1 := (List.mem_append_right _ (List.mem_append_right _ (List.mem_append_right _ (List.mem_append_left _ (List.mem_of_getElem? (i := 137) rfl)))))
set_option maxRecDepth 20000 in
theorem hm_cw128 : Cond.code ⟨"HourPromisedModel", "feed", "(IJ)I"⟩ prog_10_method_17_code 5 (some .int) ∈ tables_1 := (List.mem_append_right _ (List.mem_append_right _ (List.mem_append_right _ (List.mem_append_left _ (List.mem_of_getElem? (i := 143) rfl)))))
set_option maxRecDepth 20000 in
theorem hm_cw129 : Cond.code ⟨"HourPromisedModel", "law", "(I)I"⟩ prog_10_method_24_code 4 (some .int) ∈ tables_1 := (List.mem_append_right _ (List.mem_append_right _ (List.mem_append_right _ (List.mem_append_left _ (List.mem_of_getElem? (i := 148) rfl)))))
set_option maxRecDepth 20000 in
theorem hm_cw130 : Cond.code ⟨"HourPromisedModel", "readLaw", "()I"⟩ prog_10_method_23_code 4 (some .int) ∈ tables_1 := (List.mem_append_right _ (List.mem_append_right _ (List.mem_append_right _ (List.mem_append_left _ (List.mem_of_getElem? (i := 152) rfl)))))
set_option maxRecDepth 20000 in
theorem hm_cw131 : Cond.code ⟨"HourPromisedModel", "here", "()I"⟩ prog_10_method_18_code 1 (some .int) ∈ tables_1 := (List.mem_append_right _ (List.mem_append_right _ (List.mem_append_right _ (List.mem_append_left _ (List.mem_of_getElem? (i := 156) rfl)))))
set_option maxRecDepth 20000 in
theorem hm_cw132 : Cond.code ⟨"HourPromisedModel", "stepOf", "(I)I"⟩ prog_10_method_19_code 1 (some .int) ∈ tables_1 := (List.mem_append_right _ (List.mem_append_right _ (List.mem_append_right _ (List.mem_append_left _ (List.mem_of_getElem? (i := 159) rfl)))))
set_option maxRecDepth 20000 in
theorem hm_cw133 : Cond.code ⟨"HourPromisedModel", "fails", "(II)I"⟩ prog_10_method_20_code 3 (some .int) ∈ tables_1 := (List.mem_append_right _ (List.mem_append_right _ (List.mem_append_right _ (List.mem_append_left _ (List.mem_of_getElem? (i := 163) rfl)))))
set_option maxRecDepth 20000 in
theorem hm_cw134 : Cond.code ⟨"HourPromisedModel", "readItem", "(II)I"⟩ prog_10_method_22_code 6 (some .int) ∈ tables_1 := (List.mem_append_right _ (List.mem_append_right _ (List.mem_append_right _ (List.mem_append_left _ (List.mem_of_getElem? (i := 167) rfl)))))
set_option maxRecDepth 20000 in
theorem hm_cw135 : Cond.code ⟨"HourPromisedModel", "readNumber", "(I)I"⟩ prog_10_method_21_code 5 (some .int) ∈ tables_1 := (List.mem_append_right _ (List.mem_append_right _ (List.mem_append_right _ (List.mem_append_left _ (List.mem_of_getElem? (i := 173) rfl)))))
set_option maxRecDepth 20000 in
theorem hm_cw136 : Cond.code ⟨"HourPromisedModel", "putRight", "(II)I"⟩ prog_10_method_38_code 7 (some .int) ∈ tables_1 := (List.mem_append_right _ (List.mem_append_right _ (List.mem_append_right _ (List.mem_append_left _ (List.mem_of_getElem? (i := 179) rfl)))))
set_option maxRecDepth 20000 in
theorem hm_cw137 : Cond.code ⟨"HourPromisedModel", "hinders", "(III)I"⟩ prog_10_method_30_code 4 (some .int) ∈ tables_1 := (List.mem_append_right _ (List.mem_append_right _ (List.mem_append_right _ (List.mem_append_left _ (List.mem_of_getElem? (i := 183) rfl)))))
set_option maxRecDepth 20000 in
theorem hm_cw138 : Cond.code ⟨"HourPromisedModel", "lawOf", "(III)I"⟩ prog_10_method_8_code 4 (some .int) ∈ tables_1 := (List.mem_append_right _ (List.mem_append_right _ (List.mem_append_right _ (List.mem_append_left _ (List.mem_of_getElem? (i := 187) rfl)))))
set_option maxRecDepth 20000 in
theorem hm_cw139 : Cond.code ⟨"HourPromisedModel", "papersMiss", "(III)Z"⟩ prog_10_method_27_code 7 (some .boolean) ∈ tables_1 := (List.mem_append_right _ (List.mem_append_right _ (List.mem_append_right _ (List.mem_append_left _ (List.mem_of_getElem? (i := 191) rfl)))))
set_option maxRecDepth 20000 in
theorem hm_cw140 : Cond.code ⟨"HourPromisedModel", "isOut", "(III)Z"⟩ prog_10_method_28_code 5 (some .boolean) ∈ tables_1 := (List.mem_append_right _ (List.mem_append_right _ (List.mem_append_right _ (List.mem_append_left _ (List.mem_of_getElem? (i := 195) rfl)))))
set_option maxRecDepth 20000 in
theorem hm_cw141 : Cond.code ⟨"HourPromisedModel", "aheadMiss", "(III)Z"⟩ prog_10_method_29_code 7 (some .boolean) ∈ tables_1 := (List.mem_append_right _ (List.mem_append_right _ (List.mem_append_right _ (List.mem_append_left _ (List.mem_of_getElem? (i := 199) rfl)))))
set_option maxRecDepth 20000 in
theorem hm_cw142 : Cond.code ⟨"HourPromisedModel", "place", "()I"⟩ prog_10_method_25_code 1 (some .int) ∈ tables_1 := (List.mem_append_right _ (List.mem_append_right _ (List.mem_append_right _ (List.mem_append_left _ (List.mem_of_getElem? (i := 203) rfl)))))
set_option maxRecDepth 20000 in
theorem hm_cw143 : Cond.code ⟨"HourPromisedModel", "says", "(III)I"⟩ prog_10_method_26_code 4 (some .int) ∈ tables_1 := (List.mem_append_right _ (List.mem_append_right _ (List.mem_append_right _ (List.mem_append_left _ (List.mem_of_getElem? (i := 207) rfl)))))
set_option maxRecDepth 20000 in
theorem hm_cw144 : Cond.code ⟨"HourPromisedModel", "isStep", "(I)Z"⟩ prog_10_method_6_code 1 (some .boolean) ∈ tables_1 := (List.mem_append_right _ (List.mem_append_right _ (List.mem_append_right _ (List.mem_append_left _ (List.mem_of_getElem? (i := 210) rfl)))))
set_option maxRecDepth 20000 in
theorem hm_cw145 : Cond.code ⟨"HourPromisedModel", "casus", "(IIII)I"⟩ prog_10_method_37_code 7 (some .int) ∈ tables_1 := (List.mem_append_right _ (List.mem_append_right _ (List.mem_append_right _ (List.mem_append_left _ (List.mem_of_getElem? (i := 214) rfl)))))
set_option maxRecDepth 20000 in
theorem hm_cw146 : Cond.code ⟨"HourPromisedModel", "isHour", "(I)Z"⟩ prog_10_method_5_code 1 (some .boolean) ∈ tables_1 := (List.mem_append_right _ (List.mem_append_right _ (List.mem_append_right _ (List.mem_append_left _ (List.mem_of_getElem? (i := 217) rfl)))))
set_option maxRecDepth 20000 in
theorem hm_cw147 : Cond.code ⟨"HourPromisedModel", "paper", "(III)I"⟩ prog_10_method_39_code 4 (some .int) ∈ tables_1 := (List.mem_append_right _ (List.mem_append_right _ (List.mem_append_right _ (List.mem_append_left _ (List.mem_of_getElem? (i := 223) rfl)))))
set_option maxRecDepth 20000 in
theorem hm_cw148 : Cond.code ⟨"HourPromisedModel", "isCase", "(I)Z"⟩ prog_10_method_4_code 2 (some .boolean) ∈ tables_1 := (List.mem_append_right _ (List.mem_append_right _ (List.mem_append_right _ (List.mem_append_left _ (List.mem_of_getElem? (i := 227) rfl)))))
set_option maxRecDepth 20000 in
theorem hm_cw149 : Cond.code ⟨"HourPromisedModel", "may", "(III)I"⟩ prog_10_method_40_code 4 (some .int) ∈ tables_1 := (List.mem_append_right _ (List.mem_append_right _ (List.mem_append_right _ (List.mem_append_left _ (List.mem_of_getElem? (i := 233) rfl)))))
set_option maxRecDepth 20000 in
theorem hm_cw150 : Cond.code ⟨"HourPromisedModel", "mayBe", "(III)I"⟩ prog_10_method_34_code 6 (some .int) ∈ tables_1 := (List.mem_append_right _ (List.mem_append_right _ (List.mem_append_right _ (List.mem_append_left _ (List.mem_of_getElem? (i := 237) rfl)))))
set_option maxRecDepth 20000 in
theorem hm_cw151 : Cond.code ⟨"HourPromisedModel", "isWantedLater", "(III)Z"⟩ prog_10_method_31_code 6 (some .boolean) ∈ tables_1 := (List.mem_append_right _ (List.mem_append_right _ (List.mem_append_right _ (List.mem_append_right _ (List.mem_of_getElem? (i := 1) rfl)))))
set_option maxRecDepth 20000 in
theorem hm_cw152 : Cond.code ⟨"HourPromisedModel", "isBusy", "(II)Z"⟩ prog_10_method_32_code 5 (some .boolean) ∈ tables_1 := (List.mem_append_right _ (List.mem_append_right _ (List.mem_append_right _ (List.mem_append_right _ (List.mem_of_getElem? (i := 5) rfl)))))
set_option maxRecDepth 20000 in
theorem hm_cw153 : Cond.code ⟨"HourPromisedModel", "placeMiss", "(III)Z"⟩ prog_10_method_33_code 6 (some .boolean) ∈ tables_1 := (List.mem_append_right _ (List.mem_append_right _ (List.mem_append_right _ (List.mem_append_right _ (List.mem_of_getElem? (i := 9) rfl)))))
set_option maxRecDepth 20000 in
theorem hm_cw154 : Cond.code ⟨"HourPromisedModel", "findSets", "(I)Z"⟩ prog_10_method_36_code 4 (some .boolean) ∈ tables_1 := (List.mem_append_right _ (List.mem_append_right _ (List.mem_append_right _ (List.mem_append_right _ (List.mem_of_getElem? (i := 13) rfl)))))
set_option maxRecDepth 20000 in
theorem hm_cw155 : Cond.code ⟨"HourPromisedModel", "listSets", "(II)I"⟩ prog_10_method_35_code 11 (some .int) ∈ tables_1 := (List.mem_append_right _ (List.mem_append_right _ (List.mem_append_right _ (List.mem_append_right _ (List.mem_of_getElem? (i := 17) rfl)))))
set_option maxRecDepth 20000 in
theorem hm_cw156 : Cond.code ⟨"HourPromisedModel", "promise", "(III)I"⟩ prog_10_method_41_code 5 (some .int) ∈ tables_1 := (List.mem_append_right _ (List.mem_append_right _ (List.mem_append_right _ (List.mem_append_right _ (List.mem_of_getElem? (i := 21) rfl)))))
set_option maxRecDepth 20000 in
theorem hm_cw157 : Cond.code ⟨"HourPromisedModel", "earliest", "(III)I"⟩ prog_10_method_42_code 5 (some .int) ∈ tables_1 := (List.mem_append_right _ (List.mem_append_right _ (List.mem_append_right _ (List.mem_append_right _ (List.mem_of_getElem? (i := 26) rfl)))))
set_option maxRecDepth 20000 in
theorem hm_cw158 : Cond.code ⟨"HourPromisedModel", "undo", "(II)I"⟩ prog_10_method_43_code 3 (some .int) ∈ tables_1 := (List.mem_append_right _ (List.mem_append_right _ (List.mem_append_right _ (List.mem_append_right _ (List.mem_of_getElem? (i := 30) rfl)))))
set_option maxRecDepth 20000 in
theorem hm_cw159 : Cond.code ⟨"HourPromisedModel", "promised", "(III)I"⟩ prog_10_method_46_code 5 (some .int) ∈ tables_1 := (List.mem_append_right _ (List.mem_append_right _ (List.mem_append_right _ (List.mem_append_right _ (List.mem_of_getElem? (i := 34) rfl)))))
set_option maxRecDepth 20000 in
theorem hm_cw160 : Cond.code ⟨"HourPromisedModel", "chapelOf", "(I)I"⟩ prog_10_method_44_code 5 (some .int) ∈ tables_1 := (List.mem_append_right _ (List.mem_append_right _ (List.mem_append_right _ (List.mem_append_right _ (List.mem_of_getElem? (i := 38) rfl)))))
set_option maxRecDepth 20000 in
theorem hm_cw161 : Cond.code ⟨"HourPromisedModel", "setOf", "(II)I"⟩ prog_10_method_45_code 6 (some .int) ∈ tables_1 := (List.mem_append_right _ (List.mem_append_right _ (List.mem_append_right _ (List.mem_append_right _ (List.mem_of_getElem? (i := 42) rfl)))))
set_option maxRecDepth 20000 in
theorem hm_cw162 : Cond.code ⟨"HourPromisedModel", "taken", "(II)I"⟩ prog_10_method_47_code 5 (some .int) ∈ tables_1 := (List.mem_append_right _ (List.mem_append_right _ (List.mem_append_right _ (List.mem_append_right _ (List.mem_of_getElem? (i := 46) rfl)))))
set_option maxRecDepth 20000 in
theorem hm_cw163 : Cond.code ⟨"HourPromisedModel", "count", "(I)I"⟩ prog_10_method_48_code 5 (some .int) ∈ tables_1 := (List.mem_append_right _ (List.mem_append_right _ (List.mem_append_right _ (List.mem_append_right _ (List.mem_of_getElem? (i := 50) rfl)))))
set_option maxRecDepth 20000 in
theorem hm_cw164 : Cond.code ⟨"HourPromisedModel", "allTrust", "()I"⟩ prog_10_method_49_code 3 (some .int) ∈ tables_1 := (List.mem_append_right _ (List.mem_append_right _ (List.mem_append_right _ (List.mem_append_right _ (List.mem_of_getElem? (i := 54) rfl)))))
set_option maxRecDepth 20000 in
theorem hm_cw165 : Cond.code ⟨"HourPromisedModel", "plan", "(I)I"⟩ prog_10_method_50_code 2 (some .int) ∈ tables_1 := (List.mem_append_right _ (List.mem_append_right _ (List.mem_append_right _ (List.mem_append_right _ (List.mem_of_getElem? (i := 58) rfl)))))
set_option maxRecDepth 20000 in
theorem hm_cw166 : Cond.code ⟨"HourPromisedModel", "pay", "(II)I"⟩ prog_10_method_52_code 3 (some .int) ∈ tables_1 := (List.mem_append_right _ (List.mem_append_right _ (List.mem_append_right _ (List.mem_append_right _ (List.mem_of_getElem? (i := 63) rfl)))))
set_option maxRecDepth 20000 in
theorem hm_cw167 : Cond.code ⟨"HourPromisedModel", "isPlan", "(I)Z"⟩ prog_10_method_51_code 2 (some .boolean) ∈ tables_1 := (List.mem_append_right _ (List.mem_append_right _ (List.mem_append_right _ (List.mem_append_right _ (List.mem_of_getElem? (i := 67) rfl)))))
set_option maxRecDepth 20000 in
theorem hm_cw168 : Cond.code ⟨"HourPromisedModel", "rate", "(I)I"⟩ prog_10_method_53_code 3 (some .int) ∈ tables_1 := (List.mem_append_right _ (List.mem_append_right _ (List.mem_append_right _ (List.mem_append_right _ (List.mem_of_getElem? (i := 72) rfl)))))
set_option maxRecDepth 20000 in
theorem hm_cw169 : Cond.code ⟨"HourPromisedModel", "days", "(I)I"⟩ prog_10_method_54_code 6 (some .int) ∈ tables_1 := (List.mem_append_right _ (List.mem_append_right _ (List.mem_append_right _ (List.mem_append_right _ (List.mem_of_getElem? (i := 77) rfl)))))
set_option maxRecDepth 20000 in
theorem hm_cw170 : Cond.code ⟨"HourPromisedModel", "tie", "(II)I"⟩ prog_10_method_56_code 3 (some .int) ∈ tables_1 := (List.mem_append_right _ (List.mem_append_right _ (List.mem_append_right _ (List.mem_append_right _ (List.mem_of_getElem? (i := 84) rfl)))))
set_option maxRecDepth 20000 in
theorem hm_cw171 : Cond.code ⟨"HourPromisedModel", "planOf", "(I)I"⟩ prog_10_method_55_code 4 (some .int) ∈ tables_1 := (List.mem_append_right _ (List.mem_append_right _ (List.mem_append_right _ (List.mem_append_right _ (List.mem_of_getElem? (i := 88) rfl)))))
set_option maxRecDepth 20000 in
theorem hm_cw172 : Cond.code ⟨"HourPromisedModel", "settle", "(I)I"⟩ prog_10_method_57_code 4 (some .int) ∈ tables_1 := (List.mem_append_right _ (List.mem_append_right _ (List.mem_append_right _ (List.mem_append_right _ (List.mem_of_getElem? (i := 92) rfl)))))
set_option maxRecDepth 20000 in
theorem hm_cw173 : Cond.code ⟨"HourPromisedModel", "planned", "(II)I"⟩ prog_10_method_58_code 3 (some .int) ∈ tables_1 := (List.mem_append_right _ (List.mem_append_right _ (List.mem_append_right _ (List.mem_append_right _ (List.mem_of_getElem? (i := 96) rfl)))))
set_option maxRecDepth 20000 in
theorem hm_cwl0 : ∀ q ∈ hm_mt0, Cond.code q.1 q.2.1 q.2.2.1 q.2.2.2.1 ∈ tables_1 := List.forall_mem_cons.mpr ⟨hm_cw0, List.forall_mem_cons.mpr ⟨hm_cw1, List.forall_mem_cons.mpr ⟨hm_cw2, List.forall_mem_cons.mpr ⟨hm_cw3, List.forall_mem_cons.mpr ⟨hm_cw4, List.forall_mem_cons.mpr ⟨hm_cw5, List.forall_mem_cons.mpr ⟨hm_cw6, List.forall_mem_cons.mpr ⟨hm_cw7, List.forall_mem_cons.mpr ⟨hm_cw8, List.forall_mem_cons.mpr ⟨hm_cw9, List.forall_mem_cons.mpr ⟨hm_cw10, List.forall_mem_cons.mpr ⟨hm_cw11, List.forall_mem_cons.mpr ⟨hm_cw12, List.forall_mem_cons.mpr ⟨hm_cw13, List.forall_mem_cons.mpr ⟨hm_cw14, List.forall_mem_cons.mpr ⟨hm_cw15, List.forall_mem_cons.mpr ⟨hm_cw16, List.forall_mem_cons.mpr ⟨hm_cw17, List.forall_mem_cons.mpr ⟨hm_cw18, List.forall_mem_cons.mpr ⟨hm_cw19, List.forall_mem_cons.mpr ⟨hm_cw20, List.forall_mem_cons.mpr ⟨hm_cw21, List.forall_mem_cons.mpr ⟨hm_cw22, List.forall_mem_cons.mpr ⟨hm_cw23, List.forall_mem_cons.mpr ⟨hm_cw24, List.forall_mem_cons.mpr ⟨hm_cw25, List.forall_mem_cons.mpr ⟨hm_cw26, List.forall_mem_cons.mpr ⟨hm_cw27, List.forall_mem_cons.mpr ⟨hm_cw28, List.forall_mem_cons.mpr ⟨hm_cw29, fun _ h => absurd h List.not_mem_nil⟩⟩⟩⟩⟩⟩⟩⟩⟩⟩⟩⟩⟩⟩⟩⟩⟩⟩⟩⟩⟩⟩⟩⟩⟩⟩⟩⟩⟩⟩
set_option maxRecDepth 20000 in
theorem hm_cwl1 : ∀ q ∈ hm_mt1, Cond.code q.1 q.2.1 q.2.2.1 q.2.2.2.1 ∈ tables_1 := List.forall_mem_cons.mpr ⟨hm_cw30, List.forall_mem_cons.mpr ⟨hm_cw31, List.forall_mem_cons.mpr ⟨hm_cw32, List.forall_mem_cons.mpr ⟨hm_cw33, List.forall_mem_cons.mpr ⟨hm_cw34, List.forall_mem_cons.mpr ⟨hm_cw35, List.forall_mem_cons.mpr ⟨hm_cw36, List.forall_mem_cons.mpr ⟨hm_cw37, List.forall_mem_cons.mpr ⟨hm_cw38, List.forall_mem_cons.mpr ⟨hm_cw39, List.forall_mem_cons.mpr ⟨hm_cw40, List.forall_mem_cons.mpr ⟨hm_cw41, List.forall_mem_cons.mpr ⟨hm_cw42, List.forall_mem_cons.mpr ⟨hm_cw43, List.forall_mem_cons.mpr ⟨hm_cw44, List.forall_mem_cons.mpr ⟨hm_cw45, List.forall_mem_cons.mpr ⟨hm_cw46, List.forall_mem_cons.mpr ⟨hm_cw47, List.forall_mem_cons.mpr ⟨hm_cw48, List.forall_mem_cons.mpr ⟨hm_cw49, List.forall_mem_cons.mpr ⟨hm_cw50, List.forall_mem_cons.mpr ⟨hm_cw51, List.forall_mem_cons.mpr ⟨hm_cw52, List.forall_mem_cons.mpr ⟨hm_cw53, List.forall_mem_cons.mpr ⟨hm_cw54, List.forall_mem_cons.mpr ⟨hm_cw55, List.forall_mem_cons.mpr ⟨hm_cw56, List.forall_mem_cons.mpr ⟨hm_cw57, List.forall_mem_cons.mpr ⟨hm_cw58, List.forall_mem_cons.mpr ⟨hm_cw59, fun _ h => absurd h List.not_mem_nil⟩⟩⟩⟩⟩⟩⟩⟩⟩⟩⟩⟩⟩⟩⟩⟩⟩⟩⟩⟩⟩⟩⟩⟩⟩⟩⟩⟩⟩⟩
set_option maxRecDepth 20000 in
theorem hm_cwl2 : ∀ q ∈ hm_mt2, Cond.code q.1 q.2.1 q.2.2.1 q.2.2.2.1 ∈ tables_1 := List.forall_mem_cons.mpr ⟨hm_cw60, List.forall_mem_cons.mpr ⟨hm_cw61, List.forall_mem_cons.mpr ⟨hm_cw62, List.forall_mem_cons.mpr ⟨hm_cw63, List.forall_mem_cons.mpr ⟨hm_cw64, List.forall_mem_cons.mpr ⟨hm_cw65, List.forall_mem_cons.mpr ⟨hm_cw66, List.forall_mem_cons.mpr ⟨hm_cw67, List.forall_mem_cons.mpr ⟨hm_cw68, List.forall_mem_cons.mpr ⟨hm_cw69, List.forall_mem_cons.mpr ⟨hm_cw70, List.forall_mem_cons.mpr ⟨hm_cw71, List.forall_mem_cons.mpr ⟨hm_cw72, List.forall_mem_cons.mpr ⟨hm_cw73, List.forall_mem_cons.mpr ⟨hm_cw74, List.forall_mem_cons.mpr ⟨hm_cw75, List.forall_mem_cons.mpr ⟨hm_cw76, List.forall_mem_cons.mpr ⟨hm_cw77, List.forall_mem_cons.mpr ⟨hm_cw78, List.forall_mem_cons.mpr ⟨hm_cw79, List.forall_mem_cons.mpr ⟨hm_cw80, List.forall_mem_cons.mpr ⟨hm_cw81, List.forall_mem_cons.mpr ⟨hm_cw82, List.forall_mem_cons.mpr ⟨hm_cw83, List.forall_mem_cons.mpr ⟨hm_cw84, List.forall_mem_cons.mpr ⟨hm_cw85, List.forall_mem_cons.mpr ⟨hm_cw86, List.forall_mem_cons.mpr ⟨hm_cw87, List.forall_mem_cons.mpr ⟨hm_cw88, List.forall_mem_cons.mpr ⟨hm_cw89, fun _ h => absurd h List.not_mem_nil⟩⟩⟩⟩⟩⟩⟩⟩⟩⟩⟩⟩⟩⟩⟩⟩⟩⟩⟩⟩⟩⟩⟩⟩⟩⟩⟩⟩⟩⟩
set_option maxRecDepth 20000 in
theorem hm_cwl3 : ∀ q ∈ hm_mt3, Cond.code q.1 q.2.1 q.2.2.1 q.2.2.2.1 ∈ tables_1 := List.forall_mem_cons.mpr ⟨hm_cw90, List.forall_mem_cons.mpr ⟨hm_cw91, List.forall_mem_cons.mpr ⟨hm_cw92, List.forall_mem_cons.mpr ⟨hm_cw93, List.forall_mem_cons.mpr ⟨hm_cw94, List.forall_mem_cons.mpr ⟨hm_cw95, List.forall_mem_cons.mpr ⟨hm_cw96, List.forall_mem_cons.mpr ⟨hm_cw97, List.forall_mem_cons.mpr ⟨hm_cw98, List.forall_mem_cons.mpr ⟨hm_cw99, List.forall_mem_cons.mpr ⟨hm_cw100, List.forall_mem_cons.mpr ⟨hm_cw101, List.forall_mem_cons.mpr ⟨hm_cw102, List.forall_mem_cons.mpr ⟨hm_cw103, List.forall_mem_cons.mpr ⟨hm_cw104, List.forall_mem_cons.mpr ⟨hm_cw105, List.forall_mem_cons.mpr ⟨hm_cw106, List.forall_mem_cons.mpr ⟨hm_cw107, List.forall_mem_cons.mpr ⟨hm_cw108, List.forall_mem_cons.mpr ⟨hm_cw109, List.forall_mem_cons.mpr ⟨hm_cw110, List.forall_mem_cons.mpr ⟨hm_cw111, List.forall_mem_cons.mpr ⟨hm_cw112, List.forall_mem_cons.mpr ⟨hm_cw113, List.forall_mem_cons.mpr ⟨hm_cw114, List.forall_mem_cons.mpr ⟨hm_cw115, List.forall_mem_cons.mpr ⟨hm_cw116, List.forall_mem_cons.mpr ⟨hm_cw117, List.forall_mem_cons.mpr ⟨hm_cw118, List.forall_mem_cons.mpr ⟨hm_cw119, fun _ h => absurd h List.not_mem_nil⟩⟩⟩⟩⟩⟩⟩⟩⟩⟩⟩⟩⟩⟩⟩⟩⟩⟩⟩⟩⟩⟩⟩⟩⟩⟩⟩⟩⟩⟩
set_option maxRecDepth 20000 in
theorem hm_cwl4 : ∀ q ∈ hm_mt4, Cond.code q.1 q.2.1 q.2.2.1 q.2.2.2.1 ∈ tables_1 := List.forall_mem_cons.mpr ⟨hm_cw120, List.forall_mem_cons.mpr ⟨hm_cw121, List.forall_mem_cons.mpr ⟨hm_cw122, List.forall_mem_cons.mpr ⟨hm_cw123, List.forall_mem_cons.mpr ⟨hm_cw124, List.forall_mem_cons.mpr ⟨hm_cw125, List.forall_mem_cons.mpr ⟨hm_cw126, List.forall_mem_cons.mpr ⟨hm_cw127, List.forall_mem_cons.mpr ⟨hm_cw128, List.forall_mem_cons.mpr ⟨hm_cw129, List.forall_mem_cons.mpr ⟨hm_cw130, List.forall_mem_cons.mpr ⟨hm_cw131, List.forall_mem_cons.mpr ⟨hm_cw132, List.forall_mem_cons.mpr ⟨hm_cw133, List.forall_mem_cons.mpr ⟨hm_cw134, List.forall_mem_cons.mpr ⟨hm_cw135, List.forall_mem_cons.mpr ⟨hm_cw136, List.forall_mem_cons.mpr ⟨hm_cw137, List.forall_mem_cons.mpr ⟨hm_cw138, List.forall_mem_cons.mpr ⟨hm_cw139, List.forall_mem_cons.mpr ⟨hm_cw140, List.forall_mem_cons.mpr ⟨hm_cw141, List.forall_mem_cons.mpr ⟨hm_cw142, List.forall_mem_cons.mpr ⟨hm_cw143, List.forall_mem_cons.mpr ⟨hm_cw144, List.forall_mem_cons.mpr ⟨hm_cw145, List.forall_mem_cons.mpr ⟨hm_cw146, List.forall_mem_cons.mpr ⟨hm_cw147, List.forall_mem_cons.mpr ⟨hm_cw148, List.forall_mem_cons.mpr ⟨hm_cw149, fun _ h => absurd h List.not_mem_nil⟩⟩⟩⟩⟩⟩⟩⟩⟩⟩⟩⟩⟩⟩⟩⟩⟩⟩⟩⟩⟩⟩⟩⟩⟩⟩⟩⟩⟩⟩
set_option maxRecDepth 20000 in
theorem hm_cwl5 : ∀ q ∈ hm_mt5, Cond.code q.1 q.2.1 q.2.2.1 q.2.2.2.1 ∈ tables_1 := List.forall_mem_cons.mpr ⟨hm_cw150, List.forall_mem_cons.mpr ⟨hm_cw151, List.forall_mem_cons.mpr ⟨hm_cw152, List.forall_mem_cons.mpr ⟨hm_cw153, List.forall_mem_cons.mpr ⟨hm_cw154, List.forall_mem_cons.mpr ⟨hm_cw155, List.forall_mem_cons.mpr ⟨hm_cw156, List.forall_mem_cons.mpr ⟨hm_cw157, List.forall_mem_cons.mpr ⟨hm_cw158, List.forall_mem_cons.mpr ⟨hm_cw159, List.forall_mem_cons.mpr ⟨hm_cw160, List.forall_mem_cons.mpr ⟨hm_cw161, List.forall_mem_cons.mpr ⟨hm_cw162, List.forall_mem_cons.mpr ⟨hm_cw163, List.forall_mem_cons.mpr ⟨hm_cw164, List.forall_mem_cons.mpr ⟨hm_cw165, List.forall_mem_cons.mpr ⟨hm_cw166, List.forall_mem_cons.mpr ⟨hm_cw167, List.forall_mem_cons.mpr ⟨hm_cw168, List.forall_mem_cons.mpr ⟨hm_cw169, List.forall_mem_cons.mpr ⟨hm_cw170, List.forall_mem_cons.mpr ⟨hm_cw171, List.forall_mem_cons.mpr ⟨hm_cw172, List.forall_mem_cons.mpr ⟨hm_cw173, fun _ h => absurd h List.not_mem_nil⟩⟩⟩⟩⟩⟩⟩⟩⟩⟩⟩⟩⟩⟩⟩⟩⟩⟩⟩⟩⟩⟩⟩⟩
end
section
set_option maxRecDepth 100000 in
theorem hm_mok0 : (((hm_mtab.zip hm_mw).drop 0).take 30).all (fun q => hm_mchk q.1 q.2 || decide (q.1.1.cls = "java/lang/Object")) = true := by decide +kernel
set_option maxRecDepth 100000 in
theorem hm_mok1 : (((hm_mtab.zip hm_mw).drop 30).take 30).all (fun q => hm_mchk q.1 q.2 || decide (q.1.1.cls = "java/lang/Object")) = true := by decide +kernel
set_option maxRecDepth 100000 in
theorem hm_mok2 : (((hm_mtab.zip hm_mw).drop 60).take 30).all (fun q => hm_mchk q.1 q.2 || decide (q.1.1.cls = "java/lang/Object")) = true := by decide +kernel
set_option maxRecDepth 100000 in
theorem hm_mok3 : (((hm_mtab.zip hm_mw).drop 90).take 30).all (fun q => hm_mchk q.1 q.2 || decide (q.1.1.cls = "java/lang/Object")) = true := by decide +kernel
set_option maxRecDepth 100000 in
theorem hm_mok4 : (((hm_mtab.zip hm_mw).drop 120).take 30).all (fun q => hm_mchk q.1 q.2 || decide (q.1.1.cls = "java/lang/Object")) = true := by decide +kernel
set_option maxRecDepth 100000 in
theorem hm_mok5 : (((hm_mtab.zip hm_mw).drop 150).take 24).all (fun q => hm_mchk q.1 q.2 || decide (q.1.1.cls = "java/lang/Object")) = true := by decide +kernel
end
section
def hm_cchk (q : (Nat × Nat) × (Nat × Nat × Nat)) : Bool := match hm_own[q.1.1]?, hm_mtab[q.2.1]? with
  | some own, some (y, _, _, _, _, _, _) => (match q.2.2.1 with
    | 0 => hm_at q.2.2.2 (.methodLink own q.1.2 y)
    | _ => hm_at q.2.2.2 (.methodLinkNest own q.1.2 y "HourPromised"))
  | _, _ => false
set_option maxRecDepth 100000 in
theorem hm_cok : hm_ctab.all hm_cchk = true := by decide +kernel
def hm_nname : Nat → String
  | 20 => "[[I"
  | 21 => "[[J"
  | 22 => "java/lang/Object"
  | 23 => "[Ljava/lang/Object;"
  | c => match hm_cls[c]? with
    | some q => q.1
    | none => ""
def hm_nchk (q : (Nat × Nat) × (Nat × Nat)) : Bool := match hm_own[q.1.1]? with
  | some own => hm_at q.2.2 (.classLink own q.1.2 (hm_nname q.2.1)) && decide (q.2.1 < 10 ∨ (20 ≤ q.2.1 ∧ q.2.1 < 24))
  | none => false
theorem hm_nok : hm_ntab.all hm_nchk = true := by decide +kernel
def hm_ichk (q : (Nat × Nat) × (Int32 × Nat)) : Bool := match hm_own[q.1.1]? with
  | some own => hm_at q.2.2 (.constant own q.1.2 q.2.1)
  | none => false
theorem hm_iok : hm_itab.all hm_ichk = true := by decide +kernel
def hm_lchk (q : (Nat × Nat) × (Int64 × Nat)) : Bool := match hm_own[q.1.1]? with
  | some own => hm_at q.2.2 (.constantLong own q.1.2 q.2.1)
  | none => false
theorem hm_lok : hm_ltab.all hm_lchk = true := by decide +kernel
/-- the fields' words of a class of objects; its instances; distinct names; types -/
def hm_kchk (q : vw_C) : Bool := (u_ws q.1 q.2.1 q.2.2).all hm_in && hm_in (.instantiable q.1 q.2.2) && hm_in (.initialized q.1)
theorem hm_kok : hm_cls.all hm_kchk = true := by decide +kernel

theorem hm_n0 : ∀ a, a < 7 → ∀ b, b < 7 → a ≠ b → (hm_F0 a).2.1 ≠ (hm_F0 b).2.1 := by decide +kernel
theorem hm_ty0 : ∀ k, k < 7 → parseFieldDescriptor (hm_F0 k).2.2.1 = some (hm_t0 k) := by decide +kernel
theorem hm_n1 : ∀ a, a < 8 → ∀ b, b < 8 → a ≠ b → (hm_F1 a).2.1 ≠ (hm_F1 b).2.1 := by decide +kernel
theorem hm_ty1 : ∀ k, k < 8 → parseFieldDescriptor (hm_F1 k).2.2.1 = some (hm_t1 k) := by decide +kernel
theorem hm_n2 : ∀ a, a < 1 → ∀ b, b < 1 → a ≠ b → (hm_F2 a).2.1 ≠ (hm_F2 b).2.1 := by decide +kernel
theorem hm_ty2 : ∀ k, k < 1 → parseFieldDescriptor (hm_F2 k).2.2.1 = some (hm_t2 k) := by decide +kernel
theorem hm_n3 : ∀ a, a < 7 → ∀ b, b < 7 → a ≠ b → (hm_F3 a).2.1 ≠ (hm_F3 b).2.1 := by decide +kernel
theorem hm_ty3 : ∀ k, k < 7 → parseFieldDescriptor (hm_F3 k).2.2.1 = some (hm_t3 k) := by decide +kernel
theorem hm_n4 : ∀ a, a < 1 → ∀ b, b < 1 → a ≠ b → (hm_F4 a).2.1 ≠ (hm_F4 b).2.1 := by decide +kernel
theorem hm_ty4 : ∀ k, k < 1 → parseFieldDescriptor (hm_F4 k).2.2.1 = some (hm_t4 k) := by decide +kernel
theorem hm_n5 : ∀ a, a < 5 → ∀ b, b < 5 → a ≠ b → (hm_F5 a).2.1 ≠ (hm_F5 b).2.1 := by decide +kernel
theorem hm_ty5 : ∀ k, k < 5 → parseFieldDescriptor (hm_F5 k).2.2.1 = some (hm_t5 k) := by decide +kernel
theorem hm_n6 : ∀ a, a < 2 → ∀ b, b < 2 → a ≠ b → (hm_F6 a).2.1 ≠ (hm_F6 b).2.1 := by decide +kernel
theorem hm_ty6 : ∀ k, k < 2 → parseFieldDescriptor (hm_F6 k).2.2.1 = some (hm_t6 k) := by decide +kernel
theorem hm_n7 : ∀ a, a < 14 → ∀ b, b < 14 → a ≠ b → (hm_F7 a).2.1 ≠ (hm_F7 b).2.1 := by decide +kernel
theorem hm_ty7 : ∀ k, k < 14 → parseFieldDescriptor (hm_F7 k).2.2.1 = some (hm_t7 k) := by decide +kernel
theorem hm_n8 : ∀ a, a < 31 → ∀ b, b < 31 → a ≠ b → (hm_F8 a).2.1 ≠ (hm_F8 b).2.1 := by decide +kernel
theorem hm_ty8 : ∀ k, k < 31 → parseFieldDescriptor (hm_F8 k).2.2.1 = some (hm_t8 k) := by decide +kernel
theorem hm_n9 : ∀ a, a < 3 → ∀ b, b < 3 → a ≠ b → (hm_F9 a).2.1 ≠ (hm_F9 b).2.1 := by decide +kernel
theorem hm_ty9 : ∀ k, k < 3 → parseFieldDescriptor (hm_F9 k).2.2.1 = some (hm_t9 k) := by decide +kernel
end
section
/-! THE ABSTRACT MACHINE: the methods' own code over a heap of numbered cells. Cells 0 to 3 were there before (the script, two static tables, the empty list's array); the k-th new one is k + 4. In an array's cell the first number says its class: 0 int[], 1 long[], 2 boolean[], 3 int[][], 4 long[][], 5 Law[], 6 Object[]; 100 an int[] and 101 an empty Object[] that are only read. -/
abbrev hm_H : Type := (Nat → Option va_E) × Nat × Nat
abbrev hm_S : Type := Nat × List Value × List Value × hm_H
abbrev hm_Q : Type := MethodName × ByteArray × Nat × Option FieldType × Nat × Nat × Nat
def hm_up (h : Nat → Option va_E) (i : Nat) (e : va_E) : Nat → Option va_E := fun j => if j = i then some e else h j
def hm_set (hp : hm_H) (i : Nat) (e : va_E) : hm_H := (hm_up hp.1 i e, hp.2.1, hp.2.2)
def hm_push (hp : hm_H) (e : va_E) (n : Nat) : hm_H := (hm_up hp.1 (hp.2.1 + 4) e, hp.2.1 + 1, hp.2.2 + n)
/-- how many bytes an instruction has (0: any) -/
def hm_ln (i : Instr) : Nat := match i with
  | .bipush _ | .ldc _ | .iload _ | .lload _ | .aload _ | .istore _ | .lstore _ | .astore _ | .newarray _ => 2
  | .sipush _ | .iinc _ _ | .ifCond _ _ | .if_icmp _ _ | .if_acmp _ _ | .ifnull _ | .ifnonnull _ | .goto _ | .getfield _ | .putfield _ | .getstatic _ => 3
  | .invokevirtual _ | .invokespecial _ | .invokestatic _ | .new _ | .anewarray _ | .checkcast _ | .ldc_w _ | .ldc2_w _ => 3
  | .multianewarray _ _ => 4
  | .tableswitch _ _ _ _ | .lookupswitch _ _ => 0
  | _ => 1
def hm_code (M pc : Nat) : Option Instr := match hm_mtab[M]? with
  | none => none
  | some q => match decode q.2.1 pc with
    | .ok (i, n) => if hm_ln i = n ∨ hm_ln i = 0 then some i else none
    | .error _ => none
/-- constants, and the stack alone -/
def hm_s1 (i : Instr) (pc : Nat) (ls st : List Value) (hp : hm_H) : Option hm_S := match i, st with
  | .iconst n, _ => some (pc + 1, ls, .int (Int32.ofInt n) :: st, hp)
  | .bipush n, _ => some (pc + 2, ls, .int (Int8.ofInt n).toInt32 :: st, hp)
  | .sipush n, _ => some (pc + 3, ls, .int (Int16.ofInt n).toInt32 :: st, hp)
  | .lconst n, _ => some (pc + 1, ls, .long (Int64.ofNat (n : Nat)) :: st, hp)
  | .aconst_null, _ => some (pc + 1, ls, .null :: st, hp)
  | .dup, a :: r => if a.category = 1 then some (pc + 1, ls, a :: a :: r, hp) else none
  | .pop, a :: r => if a.category = 1 then some (pc + 1, ls, r, hp) else none
  | .dup_x1, a :: b :: r => if a.category = 1 ∧ b.category = 1 then some (pc + 1, ls, a :: b :: a :: r, hp) else none
  | .dup2, a :: b :: r => if a.category = 1 ∧ b.category = 1 then some (pc + 1, ls, a :: b :: a :: b :: r, hp) else none
  | _, _ => none
/-- arithmetic -/
def hm_s2 (i : Instr) (pc : Nat) (ls st : List Value) (hp : hm_H) : Option hm_S := match i, st with
  | .iadd, .int y :: .int x :: r => some (pc + 1, ls, .int (x + y) :: r, hp)
  | .isub, .int y :: .int x :: r => some (pc + 1, ls, .int (x - y) :: r, hp)
  | .imul, .int y :: .int x :: r => some (pc + 1, ls, .int (x * y) :: r, hp)
  | .iand, .int y :: .int x :: r => some (pc + 1, ls, .int (x &&& y) :: r, hp)
  | .ior, .int y :: .int x :: r => some (pc + 1, ls, .int (x ||| y) :: r, hp)
  | .ixor, .int y :: .int x :: r => some (pc + 1, ls, .int (x ^^^ y) :: r, hp)
  | .idiv, .int y :: .int x :: r => if y = 0 then none else some (pc + 1, ls, .int (x / y) :: r, hp)
  | .irem, .int y :: .int x :: r => if y = 0 then none else some (pc + 1, ls, .int (x - x / y * y) :: r, hp)
  | .ineg, .int x :: r => some (pc + 1, ls, .int (-x) :: r, hp)
  | .ishl, .int y :: .int x :: r => some (pc + 1, ls, .int (x <<< (y &&& 31)) :: r, hp)
  | .ishr, .int y :: .int x :: r => some (pc + 1, ls, .int (x >>> (y &&& 31)) :: r, hp)
  | .iushr, .int y :: .int x :: r => some (pc + 1, ls, .int (x.toUInt32 >>> (y.toUInt32 &&& Int32.toUInt32 31)).toInt32 :: r, hp)
  | .i2l, .int x :: r => some (pc + 1, ls, .long x.toInt64 :: r, hp)
  | .l2i, .long x :: r => some (pc + 1, ls, .int x.toInt32 :: r, hp)
  | .ladd, .long y :: .long x :: r => some (pc + 1, ls, .long (x + y) :: r, hp)
  | .lmul, .long y :: .long x :: r => some (pc + 1, ls, .long (x * y) :: r, hp)
  | .ldiv, .long y :: .long x :: r => if y = 0 then none else some (pc + 1, ls, .long (x / y) :: r, hp)
  | .land, .long y :: .long x :: r => some (pc + 1, ls, .long (x &&& y) :: r, hp)
  | .lor, .long y :: .long x :: r => some (pc + 1, ls, .long (x ||| y) :: r, hp)
  | .lshl, .int y :: .long x :: r => some (pc + 1, ls, .long (x <<< (y.toInt64 &&& 63)) :: r, hp)
  | .lshr, .int y :: .long x :: r => some (pc + 1, ls, .long (x >>> (y.toInt64 &&& 63)) :: r, hp)
  | .lushr, .int y :: .long x :: r => some (pc + 1, ls, .long (x.toUInt64 >>> (y.toInt64.toUInt64 &&& Int64.toUInt64 63)).toInt64 :: r, hp)
  | .lcmp, .long y :: .long x :: r => some (pc + 1, ls, .int (lg_cmp x y) :: r, hp)
  | _, _ => none
/-- the place ahead holds a long -/
def hm_wide (ls : List Value) (i : Nat) : Bool := match i with
  | 0 => false
  | j + 1 => match ls[j]? with
    | some w => w.category == 2
    | none => false
def hm_st1 (ls : List Value) (i : Nat) (v : Value) : Option (List Value) := if i < ls.length ∧ hm_wide ls i = false then some (ls.set i v) else none
def hm_st2 (ls : List Value) (i : Nat) (v : Value) : Option (List Value) := if i + 1 < ls.length ∧ hm_wide ls i = false then some ((ls.set i v).set (i + 1) (.retAddr 0)) else none
def hm_ldi (ls : List Value) (k n pc : Nat) (st : List Value) (hp : hm_H) : Option hm_S := match ls[k]? with
  | some (.int x) => some (pc + n, ls, .int x :: st, hp)
  | _ => none
def hm_ldl (ls : List Value) (k n pc : Nat) (st : List Value) (hp : hm_H) : Option hm_S := match ls[k]? with
  | some (.long x) => some (pc + n, ls, .long x :: st, hp)
  | _ => none
def hm_lda (ls : List Value) (k n pc : Nat) (st : List Value) (hp : hm_H) : Option hm_S := match ls[k]? with
  | some (.ref x) => some (pc + n, ls, .ref x :: st, hp)
  | some .null => some (pc + n, ls, .null :: st, hp)
  | _ => none
/-- the locals -/
def hm_s3 (i : Instr) (pc : Nat) (ls st : List Value) (hp : hm_H) : Option hm_S := match i, st with
  | .iload k, _ => hm_ldi ls k 2 pc st hp
  | .iload_n k, _ => hm_ldi ls k 1 pc st hp
  | .lload k, _ => hm_ldl ls k 2 pc st hp
  | .lload_n k, _ => hm_ldl ls k 1 pc st hp
  | .aload k, _ => hm_lda ls k 2 pc st hp
  | .aload_n k, _ => hm_lda ls k 1 pc st hp
  | .istore k, .int x :: r => (hm_st1 ls k (.int x)).map fun l2 => (pc + 2, l2, r, hp)
  | .istore_n k, .int x :: r => (hm_st1 ls k (.int x)).map fun l2 => (pc + 1, l2, r, hp)
  | .astore k, .ref x :: r => (hm_st1 ls k (.ref x)).map fun l2 => (pc + 2, l2, r, hp)
  | .astore_n k, .ref x :: r => (hm_st1 ls k (.ref x)).map fun l2 => (pc + 1, l2, r, hp)
  | .astore k, .null :: r => (hm_st1 ls k .null).map fun l2 => (pc + 2, l2, r, hp)
  | .astore_n k, .null :: r => (hm_st1 ls k .null).map fun l2 => (pc + 1, l2, r, hp)
  | .lstore k, .long x :: r => (hm_st2 ls k (.long x)).map fun l2 => (pc + 2, l2, r, hp)
  | .lstore_n k, .long x :: r => (hm_st2 ls k (.long x)).map fun l2 => (pc + 1, l2, r, hp)
  | .iinc k n, _ => match ls[k]? with
    | some (.int x) => (hm_st1 ls k (.int (x + Int32.ofInt n))).map fun l2 => (pc + 3, l2, st, hp)
    | _ => none
  | _, _ => none
def hm_jmp (pc : Nat) (off : Int) : Option Nat := if 0 ≤ (pc : Int) + off then some ((pc : Int) + off).toNat else none
def hm_to (pc : Nat) (off : Int) (ls r : List Value) (hp : hm_H) : Option hm_S := (hm_jmp pc off).map fun t => (t, ls, r, hp)
/-- roads -/
def hm_s4 (i : Instr) (pc : Nat) (ls st : List Value) (hp : hm_H) : Option hm_S := match i, st with
  | .goto off, _ => hm_to pc off ls st hp
  | .ifCond .eq off, .int x :: r => (hm_jmp pc off).map fun t => if x = 0 then (t, ls, r, hp) else (pc + 3, ls, r, hp)
  | .ifCond .ne off, .int x :: r => (hm_jmp pc off).map fun t => if ¬ x = 0 then (t, ls, r, hp) else (pc + 3, ls, r, hp)
  | .ifCond .lt off, .int x :: r => (hm_jmp pc off).map fun t => if x < 0 then (t, ls, r, hp) else (pc + 3, ls, r, hp)
  | .ifCond .ge off, .int x :: r => (hm_jmp pc off).map fun t => if 0 ≤ x then (t, ls, r, hp) else (pc + 3, ls, r, hp)
  | .ifCond .gt off, .int x :: r => (hm_jmp pc off).map fun t => if 0 < x then (t, ls, r, hp) else (pc + 3, ls, r, hp)
  | .ifCond .le off, .int x :: r => (hm_jmp pc off).map fun t => if x ≤ 0 then (t, ls, r, hp) else (pc + 3, ls, r, hp)
  | .if_icmp .eq off, .int y :: .int x :: r => (hm_jmp pc off).map fun t => if x = y then (t, ls, r, hp) else (pc + 3, ls, r, hp)
  | .if_icmp .ne off, .int y :: .int x :: r => (hm_jmp pc off).map fun t => if ¬ x = y then (t, ls, r, hp) else (pc + 3, ls, r, hp)
  | .if_icmp .lt off, .int y :: .int x :: r => (hm_jmp pc off).map fun t => if x < y then (t, ls, r, hp) else (pc + 3, ls, r, hp)
  | .if_icmp .ge off, .int y :: .int x :: r => (hm_jmp pc off).map fun t => if y ≤ x then (t, ls, r, hp) else (pc + 3, ls, r, hp)
  | .if_icmp .gt off, .int y :: .int x :: r => (hm_jmp pc off).map fun t => if y < x then (t, ls, r, hp) else (pc + 3, ls, r, hp)
  | .if_icmp .le off, .int y :: .int x :: r => (hm_jmp pc off).map fun t => if x ≤ y then (t, ls, r, hp) else (pc + 3, ls, r, hp)
  | .ifnull off, .null :: r => hm_to pc off ls r hp
  | .ifnull _, .ref _ :: r => some (pc + 3, ls, r, hp)
  | .ifnonnull off, .ref _ :: r => hm_to pc off ls r hp
  | .ifnonnull _, .null :: r => some (pc + 3, ls, r, hp)
  | .if_acmp .eq off, .ref b :: .ref a :: r => if a = b then hm_to pc off ls r hp else none
  | .if_acmp .ne off, .ref b :: .ref a :: r => if a = b then (hm_jmp pc off).map fun _ => (pc + 3, ls, r, hp) else none
  | .tableswitch d lo hi offs, .int x :: r => if x.toInt < lo ∨ hi < x.toInt then hm_to pc d ls r hp else match offs[(x.toInt - lo).toNat]? with
    | some off => hm_to pc off ls r hp
    | none => none
  | .lookupswitch d ps, .int x :: r => if (ps.toList.zip (ps.toList.drop 1)).all (fun (a, next) => a.1 < next.1) = true then hm_to pc (Op.lookupswitch.offset ps.toList d x.toInt) ls r hp else none
  | _, _ => none
/-- what is read of the heap and of the tables -/
def hm_s5 (cid : Nat) (i : Instr) (pc : Nat) (ls st : List Value) (hp : hm_H) : Option hm_S := match i, st with
  | .getfield ix, .ref a :: r => match hm_ftab.lookup (cid, ix), hp.1 a with
    | some (ci, k, _, _), some (.inr (cj, fs)) => if ci = cj then (fs[k]?).map fun v => (pc + 3, ls, v :: r, hp) else none
    | _, _ => none
  | .iaload, .int j :: .ref a :: r => match hp.1 a with
    | some (.inl (t, n, .inl f)) => if (t = 0 ∨ t = 100) ∧ ¬ (j < 0 ∨ n ≤ j.toNatClampNeg) then some (pc + 1, ls, .int (f j.toNatClampNeg) :: r, hp) else none
    | _ => none
  | .baload, .int j :: .ref a :: r => match hp.1 a with
    | some (.inl (t, n, .inl f)) => if t = 2 ∧ ¬ (j < 0 ∨ n ≤ j.toNatClampNeg) then some (pc + 1, ls, .int (f j.toNatClampNeg) :: r, hp) else none
    | _ => none
  | .laload, .int j :: .ref a :: r => match hp.1 a with
    | some (.inl (t, n, .inr (.inl f))) => if t = 1 ∧ ¬ (j < 0 ∨ n ≤ j.toNatClampNeg) then some (pc + 1, ls, .long (f j.toNatClampNeg) :: r, hp) else none
    | _ => none
  | .aaload, .int j :: .ref a :: r => match hp.1 a with
    | some (.inl (t, n, .inr (.inr (.inr (.inr f))))) => if (t = 3 ∨ t = 4 ∨ t = 5 ∨ t = 6) ∧ ¬ (j < 0 ∨ n ≤ j.toNatClampNeg) then some (pc + 1, ls, va_rf (f j.toNatClampNeg) :: r, hp) else none
    | _ => none
  | .arraylength, .ref a :: r => match hp.1 a with
    | some (.inl (_, n, _)) => some (pc + 1, ls, .int (Int32.ofNat n) :: r, hp)
    | _ => none
  | .getstatic ix, _ => (hm_stab.lookup (cid, ix)).map fun q => (pc + 3, ls, .ref q.1 :: st, hp)
  | .checkcast _, .null :: r => some (pc + 3, ls, .null :: r, hp)
  | .checkcast ix, .ref a :: r => match hm_ntab.lookup (cid, ix), hp.1 a with
    | some (ci, _), some (.inr (cj, _)) => if ci = cj then some (pc + 3, ls, .ref a :: r, hp) else none
    | _, _ => none
  | .ldc ix, _ => (hm_itab.lookup (cid, ix)).map fun q => (pc + 2, ls, .int q.1 :: st, hp)
  | .ldc_w ix, _ => (hm_itab.lookup (cid, ix)).map fun q => (pc + 3, ls, .int q.1 :: st, hp)
  | .ldc2_w ix, _ => (hm_ltab.lookup (cid, ix)).map fun q => (pc + 3, ls, .long q.1 :: st, hp)
  | _, _ => none
/-- a value that a field or an answer of a type takes as it is -/
def hm_fv (ty : FieldType) (v : Value) : Bool := match ty, v with
  | .int, .int _ => true
  | .boolean, .int x => decide (x = 0 ∨ x = 1)
  | .long, .long _ => true
  | .object _, .ref _ => true
  | .object _, .null => true
  | .array _, .ref _ => true
  | .array _, .null => true
  | _, _ => false
def hm_fin (q : hm_Q) (ci k : Nat) : Bool := match hm_cls[ci]? with
  | some r => !(r.2.1 k).2.2.2 || (decide (q.1.name = "<init>") && decide ((r.2.1 k).1 = q.1.cls))
  | none => false
/-- what is written to the heap -/
def hm_s6 (q : hm_Q) (i : Instr) (pc : Nat) (ls st : List Value) (hp : hm_H) : Option hm_S := match i, st with
  | .putfield ix, v :: .ref a :: r => match hm_ftab.lookup (q.2.2.2.2.1, ix), hp.1 a with
    | some (ci, k, _, _), some (.inr (cj, fs)) => if (ci = cj ∧ k < fs.length) ∧ hm_fv (hm_fty ci k) v = true ∧ hm_fin q ci k = true then some (pc + 3, ls, r, hm_set hp a (.inr (cj, fs.set k v))) else none
    | _, _ => none
  | .iastore, .int x :: .int j :: .ref a :: r => match hp.1 a with
    | some (.inl (t, n, .inl f)) => if t = 0 ∧ ¬ (j < 0 ∨ n ≤ j.toNatClampNeg) then some (pc + 1, ls, r, hm_set hp a (.inl (t, n, .inl (upd f j.toNatClampNeg x)))) else none
    | _ => none
  | .bastore, .int x :: .int j :: .ref a :: r => match hp.1 a with
    | some (.inl (t, n, .inl f)) => if (t = 2 ∧ (x = 0 ∨ x = 1)) ∧ ¬ (j < 0 ∨ n ≤ j.toNatClampNeg) then some (pc + 1, ls, r, hm_set hp a (.inl (t, n, .inl (upd f j.toNatClampNeg x)))) else none
    | _ => none
  | .lastore, .long x :: .int j :: .ref a :: r => match hp.1 a with
    | some (.inl (t, n, .inr (.inl f))) => if t = 1 ∧ ¬ (j < 0 ∨ n ≤ j.toNatClampNeg) then some (pc + 1, ls, r, hm_set hp a (.inl (t, n, .inr (.inl (vp_updL f j.toNatClampNeg x))))) else none
    | _ => none
  | .aastore, .ref b :: .int j :: .ref a :: r => match hp.1 a, hp.1 b with
    | some (.inl (t, n, .inr (.inr (.inr (.inr f))))), some (.inr (cj, _)) => if ((t = 5 ∧ cj = 2) ∨ (t = 6 ∧ cj < 10)) ∧ ¬ (j < 0 ∨ n ≤ j.toNatClampNeg) then some (pc + 1, ls, r, hm_set hp a (.inl (t, n, .inr (.inr (.inr (.inr (va_up f j.toNatClampNeg (some b)))))))) else none
    | _, _ => none
  | _, _ => none
def hm_df (ci : Nat) : List Value := match hm_cls[ci]? with
  | some r => (List.range r.2.2).map fun k => defaultValue (hm_fty ci k)
  | none => []
/-- the heap with n rows of k places and the array that holds them -/
def hm_grid (hp : hm_H) (t n k : Nat) (z : vp_A) : hm_H := (fun j => if j = hp.2.1 + 4 then some (.inl (t + 3, n, .inr (.inr (.inr (.inr (fun i => if i < n then some (hp.2.1 + 5 + i) else none)))))) else if hp.2.1 + 4 < j ∧ j < hp.2.1 + 5 + n then some (.inl (t, z)) else hp.1 j, hp.2.1 + 1 + n, hp.2.2 + n + n * k)
/-- new cells -/
def hm_s7 (cid : Nat) (i : Instr) (pc : Nat) (ls st : List Value) (hp : hm_H) : Option hm_S := match i, st with
  | .new ix, _ => match hm_ntab.lookup (cid, ix) with
    | some (ci, _) => if ci < 10 then some (pc + 3, ls, .ref (hp.2.1 + 4) :: st, hm_push hp (.inr (ci, hm_df ci)) (hm_df ci).length) else none
    | none => none
  | .newarray .int, .int n :: r => if ¬ n < 0 ∧ n.toNatClampNeg ≤ 100000 then some (pc + 2, ls, .ref (hp.2.1 + 4) :: r, hm_push hp (.inl (0, n.toNatClampNeg, .inl (fun _ => 0))) n.toNatClampNeg) else none
  | .newarray .long, .int n :: r => if ¬ n < 0 ∧ n.toNatClampNeg ≤ 100000 then some (pc + 2, ls, .ref (hp.2.1 + 4) :: r, hm_push hp (.inl (1, n.toNatClampNeg, .inr (.inl (fun _ => 0)))) n.toNatClampNeg) else none
  | .newarray .boolean, .int n :: r => if ¬ n < 0 ∧ n.toNatClampNeg ≤ 100000 then some (pc + 2, ls, .ref (hp.2.1 + 4) :: r, hm_push hp (.inl (2, n.toNatClampNeg, .inl (fun _ => 0))) n.toNatClampNeg) else none
  | .anewarray ix, .int n :: r => match hm_ntab.lookup (cid, ix) with
    | some (ci, _) => if (ci = 2 ∨ ci = 22) ∧ ¬ n < 0 ∧ n.toNatClampNeg ≤ 100000 then some (pc + 3, ls, .ref (hp.2.1 + 4) :: r, hm_push hp (.inl (if ci = 2 then 5 else 6, n.toNatClampNeg, .inr (.inr (.inr (.inr (fun _ => none)))))) n.toNatClampNeg) else none
    | none => none
  | .multianewarray ix dm, .int k :: .int n :: r => match hm_ntab.lookup (cid, ix) with
    | some (ci, _) => if dm = 2 ∧ (¬ n < 0 ∧ n.toNatClampNeg ≤ 100000) ∧ (¬ k < 0 ∧ k.toNatClampNeg ≤ 100000) then
        (if ci = 20 then some (pc + 4, ls, .ref (hp.2.1 + 4) :: r, hm_grid hp 0 n.toNatClampNeg k.toNatClampNeg (k.toNatClampNeg, .inl (fun _ => 0)))
        else if ci = 21 then some (pc + 4, ls, .ref (hp.2.1 + 4) :: r, hm_grid hp 1 n.toNatClampNeg k.toNatClampNeg (k.toNatClampNeg, .inr (.inl (fun _ => 0)))) else none) else none
    | none => none
  | _, _ => none
/-- Object() -/
def hm_s8 (cid : Nat) (i : Instr) (pc : Nat) (ls st : List Value) (hp : hm_H) : Option hm_S := match i, st with
  | .invokespecial ix, .ref _ :: r => match hm_ctab.lookup (cid, ix) with
    | some (c, nst, _) => if (c = 1 ∧ nst = 0) ∧ r.length ≤ 4 then some (pc + 3, ls, r, hp) else none
    | none => none
  | _, _ => none
def hm_step (q : hm_Q) (i : Instr) (pc : Nat) (ls st : List Value) (hp : hm_H) : Option hm_S :=
  (hm_s1 i pc ls st hp).or ((hm_s2 i pc ls st hp).or ((hm_s3 i pc ls st hp).or ((hm_s4 i pc ls st hp).or ((hm_s5 q.2.2.2.2.1 i pc ls st hp).or ((hm_s6 q i pc ls st hp).or ((hm_s7 q.2.2.2.2.1 i pc ls st hp).or (hm_s8 q.2.2.2.2.1 i pc ls st hp)))))))
/-- the end of a method -/
def hm_ret (i : Instr) (ret : Option FieldType) (st : List Value) : Option (Option Value) := match i, ret, st with
  | .return_, none, [] => some none
  | .ireturn, some .int, [.int x] => some (some (.int x))
  | .ireturn, some .boolean, [.int x] => if x = 0 ∨ x = 1 then some (some (.int x)) else none
  | .lreturn, some .long, [.long x] => some (some (.long x))
  | .areturn, some (.object _), [.ref a] => some (some (.ref a))
  | .areturn, some (.object _), [.null] => some (some .null)
  | .areturn, some (.array _), [.ref a] => some (some (.ref a))
  | .areturn, some (.array _), [.null] => some (some .null)
  | _, _, _ => none
/-- which method, called how -/
def hm_tgt (cid : Nat) (i : Instr) : Option (Nat × Nat) := match i with
  | .invokestatic ix => (hm_ctab.lookup (cid, ix)).map fun q => (q.1, 0)
  | .invokevirtual ix => (hm_ctab.lookup (cid, ix)).map fun q => (q.1, 1)
  | .invokespecial ix => (hm_ctab.lookup (cid, ix)).map fun q => (q.1, 2)
  | _ => none
/-- the receiver is there -/
def hm_rcv (kd cid : Nat) (as : List Value) (hp : hm_H) : Bool := match kd, as with
  | 0, _ => true
  | 1, .ref a :: _ => match hp.1 a with
    | some (.inr (cj, _)) => decide (cj = cid)
    | _ => false
  | 2, .ref _ :: _ => true
  | _, _ => false
/-- a call: the method, its arguments, what stays on the stack -/
def hm_cal (q : hm_Q) (i : Instr) (st : List Value) (hp : hm_H) : Option (Nat × List Value × List Value) := match hm_tgt q.2.2.2.2.1 i with
  | none => none
  | some (c, kd) => match hm_mtab[c]? with
    | none => none
    | some r => if (c < 174 ∧ c ≠ 1 ∧ c ≠ 72) ∧ (r.2.2.2.2.2.2 = kd ∧ r.2.2.2.2.2.1 ≤ st.length) ∧ (st.drop r.2.2.2.2.2.1).length ≤ 4 ∧ hm_rcv kd r.2.2.2.2.1 (st.take r.2.2.2.2.2.1).reverse hp = true then some (c, (st.take r.2.2.2.2.2.1).reverse, st.drop r.2.2.2.2.2.1) else none
def hm_al : List Value → List Value
  | [] => []
  | v :: vs => if v.category = 2 then v :: .retAddr 0 :: hm_al vs else v :: hm_al vs
/-- the locals with which a method begins -/
def hm_ent (c : Nat) (as : List Value) : Option (List Value) := match hm_mtab[c]? with
  | none => none
  | some r => if (hm_al as).length ≤ r.2.2.1 then some (hm_al as ++ List.replicate (r.2.2.1 - (hm_al as).length) (.retAddr 0)) else none
def hm_isO (hp : hm_H) (o : Option Nat) : Bool := match o with
  | none => true
  | some b => match hp.1 b with
    | some (.inr (cj, _)) => decide (cj < 10)
    | _ => false
def hm_objs (hp : hm_H) (f : Nat → Option Nat) (k : Nat) : Bool := (List.range k).all fun j => hm_isO hp (f j)
/-- Arrays.copyOf of an array of references: a new cell -/
def hm_cpy (q : hm_Q) (i : Instr) (st : List Value) (hp : hm_H) : Option (Nat × List Value × hm_H) := match hm_tgt q.2.2.2.2.1 i, st with
  | some (72, 0), .int n :: .ref a :: r => match hp.1 a with
    | some (.inl (6, k, .inr (.inr (.inr (.inr f))))) => if (¬ n < 0 ∧ n.toNatClampNeg ≤ 100000) ∧ k ≤ n.toNatClampNeg ∧ r.length ≤ 4 ∧ hm_objs hp f k = true then some (hp.2.1 + 4, r, hm_push hp (.inl (6, n.toNatClampNeg, .inr (.inr (.inr (.inr (fun j => if j < k then f j else none)))))) n.toNatClampNeg) else none
    | _ => none
  | _, _ => none
def hm_run : Nat → Nat → Nat → Nat → List Value → List Value → hm_H → Option (Option Value × hm_H)
  | 0, _, _, _, _, _, _ => none
  | f + 1, d, M, pc, ls, st, hp => match hm_mtab[M]?, hm_code M pc with
    | some q, some i => match hm_ret i q.2.2.2.1 st with
      | some r => some (r, hp)
      | none => match hm_step q i pc ls st hp with
        | some (pc2, ls2, st2, hp2) => hm_run f d M pc2 ls2 st2 hp2
        | none => match d with
          | 0 => none
          | d2 + 1 => match hm_cal q i st hp with
            | some (c, as, rest) => match hm_ent c as with
              | none => none
              | some l0 => match hm_run f d2 c 0 l0 [] hp with
                | none => none
                | some (r, hp2) => hm_run f (d2 + 1) M (pc + 3) ls (r.toList ++ rest) hp2
            | none => match hm_cpy q i st hp with
              | some (a, rest, hp2) => if 4 ≤ d2 then hm_run f (d2 + 1) M (pc + 3) ls (.ref a :: rest) hp2 else none
              | none => none
    | _, _ => none
end
section
theorem m_0 : hm_mtab[0]? = some (⟨"HourPromised", "<init>", "()V"⟩, prog_1_method_1_code, 2, none, 7, 1, 2) := rfl
theorem k_0_0 : hm_code 0 0 = some (.aload_n 0) := by decide +kernel
theorem k_0_1 : hm_code 0 1 = some (.invokespecial 1) := by decide +kernel
theorem k_0_4 : hm_code 0 4 = some (.aload_n 0) := by decide +kernel
theorem k_0_5 : hm_code 0 5 = some (.iconst 3) := by decide +kernel
theorem k_0_6 : hm_code 0 6 = some (.newarray .int) := by decide +kernel
theorem k_0_8 : hm_code 0 8 = some (.dup) := by decide +kernel
theorem k_0_9 : hm_code 0 9 = some (.iconst 0) := by decide +kernel
theorem k_0_10 : hm_code 0 10 = some (.iconst 3) := by decide +kernel
theorem k_0_11 : hm_code 0 11 = some (.iastore) := by decide +kernel
theorem k_0_12 : hm_code 0 12 = some (.dup) := by decide +kernel
theorem k_0_13 : hm_code 0 13 = some (.iconst 1) := by decide +kernel
theorem k_0_14 : hm_code 0 14 = some (.iconst 1) := by decide +kernel
theorem k_0_15 : hm_code 0 15 = some (.iastore) := by decide +kernel
theorem k_0_16 : hm_code 0 16 = some (.dup) := by decide +kernel
theorem k_0_17 : hm_code 0 17 = some (.iconst 2) := by decide +kernel
theorem k_0_18 : hm_code 0 18 = some (.iconst 4) := by decide +kernel
theorem k_0_19 : hm_code 0 19 = some (.iastore) := by decide +kernel
theorem k_0_20 : hm_code 0 20 = some (.putfield 7) := by decide +kernel
theorem k_0_23 : hm_code 0 23 = some (.aload_n 0) := by decide +kernel
theorem k_0_24 : hm_code 0 24 = some (.iconst 3) := by decide +kernel
theorem k_0_25 : hm_code 0 25 = some (.newarray .int) := by decide +kernel
theorem k_0_27 : hm_code 0 27 = some (.dup) := by decide +kernel
theorem k_0_28 : hm_code 0 28 = some (.iconst 0) := by decide +kernel
theorem k_0_29 : hm_code 0 29 = some (.sipush 1023) := by decide +kernel
theorem k_0_32 : hm_code 0 32 = some (.iastore) := by decide +kernel
theorem k_0_33 : hm_code 0 33 = some (.dup) := by decide +kernel
theorem k_0_34 : hm_code 0 34 = some (.iconst 1) := by decide +kernel
theorem k_0_35 : hm_code 0 35 = some (.sipush 1023) := by decide +kernel
theorem k_0_38 : hm_code 0 38 = some (.iastore) := by decide +kernel
theorem k_0_39 : hm_code 0 39 = some (.dup) := by decide +kernel
theorem k_0_40 : hm_code 0 40 = some (.iconst 2) := by decide +kernel
theorem k_0_41 : hm_code 0 41 = some (.sipush 1023) := by decide +kernel
theorem k_0_44 : hm_code 0 44 = some (.iastore) := by decide +kernel
theorem k_0_45 : hm_code 0 45 = some (.putfield 13) := by decide +kernel
theorem k_0_48 : hm_code 0 48 = some (.aload_n 0) := by decide +kernel
theorem k_0_49 : hm_code 0 49 = some (.new 16) := by decide +kernel
theorem k_0_52 : hm_code 0 52 = some (.dup) := by decide +kernel
theorem k_0_53 : hm_code 0 53 = some (.invokespecial 18) := by decide +kernel
theorem k_0_56 : hm_code 0 56 = some (.putfield 19) := by decide +kernel
theorem k_0_59 : hm_code 0 59 = some (.aload_n 0) := by decide +kernel
theorem k_0_60 : hm_code 0 60 = some (.new 23) := by decide +kernel
theorem k_0_63 : hm_code 0 63 = some (.dup) := by decide +kernel
theorem k_0_64 : hm_code 0 64 = some (.invokespecial 25) := by decide +kernel
theorem k_0_67 : hm_code 0 67 = some (.putfield 26) := by decide +kernel
theorem k_0_70 : hm_code 0 70 = some (.aload_n 0) := by decide +kernel
theorem k_0_71 : hm_code 0 71 = some (.new 30) := by decide +kernel
theorem k_0_74 : hm_code 0 74 = some (.dup) := by decide +kernel
theorem k_0_75 : hm_code 0 75 = some (.invokespecial 32) := by decide +kernel
theorem k_0_78 : hm_code 0 78 = some (.putfield 33) := by decide +kernel
theorem k_0_81 : hm_code 0 81 = some (.aload_n 0) := by decide +kernel
theorem k_0_82 : hm_code 0 82 = some (.new 37) := by decide +kernel
theorem k_0_85 : hm_code 0 85 = some (.dup) := by decide +kernel
theorem k_0_86 : hm_code 0 86 = some (.invokespecial 39) := by decide +kernel
theorem k_0_89 : hm_code 0 89 = some (.putfield 40) := by decide +kernel
theorem k_0_92 : hm_code 0 92 = some (.aload_n 0) := by decide +kernel
theorem k_0_93 : hm_code 0 93 = some (.iconst 4) := by decide +kernel
theorem k_0_94 : hm_code 0 94 = some (.anewarray 44) := by decide +kernel
theorem k_0_97 : hm_code 0 97 = some (.putfield 46) := by decide +kernel
theorem k_0_100 : hm_code 0 100 = some (.aload_n 0) := by decide +kernel
theorem k_0_101 : hm_code 0 101 = some (.new 44) := by decide +kernel
theorem k_0_104 : hm_code 0 104 = some (.dup) := by decide +kernel
theorem k_0_105 : hm_code 0 105 = some (.invokespecial 50) := by decide +kernel
theorem k_0_108 : hm_code 0 108 = some (.putfield 51) := by decide +kernel
theorem k_0_111 : hm_code 0 111 = some (.aload_n 0) := by decide +kernel
theorem k_0_112 : hm_code 0 112 = some (.new 55) := by decide +kernel
theorem k_0_115 : hm_code 0 115 = some (.dup) := by decide +kernel
theorem k_0_116 : hm_code 0 116 = some (.invokespecial 57) := by decide +kernel
theorem k_0_119 : hm_code 0 119 = some (.putfield 58) := by decide +kernel
theorem k_0_122 : hm_code 0 122 = some (.aload_n 0) := by decide +kernel
theorem k_0_123 : hm_code 0 123 = some (.iconst 0) := by decide +kernel
theorem k_0_124 : hm_code 0 124 = some (.putfield 62) := by decide +kernel
theorem k_0_127 : hm_code 0 127 = some (.aload_n 0) := by decide +kernel
theorem k_0_128 : hm_code 0 128 = some (.iconst 0) := by decide +kernel
theorem k_0_129 : hm_code 0 129 = some (.putfield 66) := by decide +kernel
theorem k_0_132 : hm_code 0 132 = some (.aload_n 0) := by decide +kernel
theorem k_0_133 : hm_code 0 133 = some (.new 55) := by decide +kernel
theorem k_0_136 : hm_code 0 136 = some (.dup) := by decide +kernel
theorem k_0_137 : hm_code 0 137 = some (.invokespecial 57) := by decide +kernel
theorem k_0_140 : hm_code 0 140 = some (.putfield 69) := by decide +kernel
theorem k_0_143 : hm_code 0 143 = some (.aload_n 0) := by decide +kernel
theorem k_0_144 : hm_code 0 144 = some (.iconst 0) := by decide +kernel
theorem k_0_145 : hm_code 0 145 = some (.putfield 72) := by decide +kernel
theorem k_0_148 : hm_code 0 148 = some (.aload_n 0) := by decide +kernel
theorem k_0_149 : hm_code 0 149 = some (.iconst 0) := by decide +kernel
theorem k_0_150 : hm_code 0 150 = some (.putfield 75) := by decide +kernel
theorem k_0_153 : hm_code 0 153 = some (.iconst 0) := by decide +kernel
theorem k_0_154 : hm_code 0 154 = some (.istore_n 1) := by decide +kernel
theorem k_0_155 : hm_code 0 155 = some (.iload_n 1) := by decide +kernel
theorem k_0_156 : hm_code 0 156 = some (.iconst 4) := by decide +kernel
theorem k_0_157 : hm_code 0 157 = some (.if_icmp .ge 22) := by decide +kernel
theorem k_0_160 : hm_code 0 160 = some (.aload_n 0) := by decide +kernel
theorem k_0_161 : hm_code 0 161 = some (.getfield 46) := by decide +kernel
theorem k_0_164 : hm_code 0 164 = some (.iload_n 1) := by decide +kernel
theorem k_0_165 : hm_code 0 165 = some (.new 44) := by decide +kernel
theorem k_0_168 : hm_code 0 168 = some (.dup) := by decide +kernel
theorem k_0_169 : hm_code 0 169 = some (.invokespecial 50) := by decide +kernel
theorem k_0_172 : hm_code 0 172 = some (.aastore) := by decide +kernel
theorem k_0_173 : hm_code 0 173 = some (.iinc 1 1) := by decide +kernel
theorem k_0_176 : hm_code 0 176 = some (.goto (-21)) := by decide +kernel
theorem k_0_179 : hm_code 0 179 = some (.return_) := by decide +kernel
theorem m_1 : hm_mtab[1]? = some (⟨"java/lang/Object", "<init>", "()V"⟩, object_method_1_code, 1, none, 10, 1, 2) := rfl
theorem k_1_0 : hm_code 1 0 = some (.return_) := by decide +kernel
theorem m_2 : hm_mtab[2]? = some (⟨"HourPromised$Bearers", "<init>", "()V"⟩, prog_2_method_1_code, 1, none, 0, 1, 2) := rfl
theorem k_2_0 : hm_code 2 0 = some (.aload_n 0) := by decide +kernel
theorem k_2_1 : hm_code 2 1 = some (.invokespecial 5) := by decide +kernel
theorem k_2_4 : hm_code 2 4 = some (.aload_n 0) := by decide +kernel
theorem k_2_5 : hm_code 2 5 = some (.bipush 12) := by decide +kernel
theorem k_2_7 : hm_code 2 7 = some (.newarray .int) := by decide +kernel
theorem k_2_9 : hm_code 2 9 = some (.putfield 11) := by decide +kernel
theorem k_2_12 : hm_code 2 12 = some (.aload_n 0) := by decide +kernel
theorem k_2_13 : hm_code 2 13 = some (.iconst 0) := by decide +kernel
theorem k_2_14 : hm_code 2 14 = some (.putfield 15) := by decide +kernel
theorem k_2_17 : hm_code 2 17 = some (.aload_n 0) := by decide +kernel
theorem k_2_18 : hm_code 2 18 = some (.iconst 4) := by decide +kernel
theorem k_2_19 : hm_code 2 19 = some (.newarray .int) := by decide +kernel
theorem k_2_21 : hm_code 2 21 = some (.putfield 19) := by decide +kernel
theorem k_2_24 : hm_code 2 24 = some (.aload_n 0) := by decide +kernel
theorem k_2_25 : hm_code 2 25 = some (.iconst 4) := by decide +kernel
theorem k_2_26 : hm_code 2 26 = some (.newarray .int) := by decide +kernel
theorem k_2_28 : hm_code 2 28 = some (.putfield 22) := by decide +kernel
theorem k_2_31 : hm_code 2 31 = some (.aload_n 0) := by decide +kernel
theorem k_2_32 : hm_code 2 32 = some (.iconst 4) := by decide +kernel
theorem k_2_33 : hm_code 2 33 = some (.newarray .int) := by decide +kernel
theorem k_2_35 : hm_code 2 35 = some (.putfield 25) := by decide +kernel
theorem k_2_38 : hm_code 2 38 = some (.aload_n 0) := by decide +kernel
theorem k_2_39 : hm_code 2 39 = some (.iconst 0) := by decide +kernel
theorem k_2_40 : hm_code 2 40 = some (.putfield 28) := by decide +kernel
theorem k_2_43 : hm_code 2 43 = some (.aload_n 0) := by decide +kernel
theorem k_2_44 : hm_code 2 44 = some (.iconst 4) := by decide +kernel
theorem k_2_45 : hm_code 2 45 = some (.bipush 64) := by decide +kernel
theorem k_2_47 : hm_code 2 47 = some (.multianewarray 31 2) := by decide +kernel
theorem k_2_51 : hm_code 2 51 = some (.putfield 33) := by decide +kernel
theorem k_2_54 : hm_code 2 54 = some (.return_) := by decide +kernel
theorem m_3 : hm_mtab[3]? = some (⟨"HourPromised$Ledger", "<init>", "()V"⟩, prog_6_method_1_code, 1, none, 4, 1, 2) := rfl
theorem k_3_0 : hm_code 3 0 = some (.aload_n 0) := by decide +kernel
theorem k_3_1 : hm_code 3 1 = some (.invokespecial 3) := by decide +kernel
theorem k_3_4 : hm_code 3 4 = some (.aload_n 0) := by decide +kernel
theorem k_3_5 : hm_code 3 5 = some (.bipush 6) := by decide +kernel
theorem k_3_7 : hm_code 3 7 = some (.sipush 400) := by decide +kernel
theorem k_3_10 : hm_code 3 10 = some (.multianewarray 9 2) := by decide +kernel
theorem k_3_14 : hm_code 3 14 = some (.putfield 11) := by decide +kernel
theorem k_3_17 : hm_code 3 17 = some (.return_) := by decide +kernel
theorem m_4 : hm_mtab[4]? = some (⟨"HourPromised$Text", "<init>", "()V"⟩, prog_8_method_1_code, 1, none, 6, 1, 2) := rfl
theorem k_4_0 : hm_code 4 0 = some (.aload_n 0) := by decide +kernel
theorem k_4_1 : hm_code 4 1 = some (.invokespecial 3) := by decide +kernel
theorem k_4_4 : hm_code 4 4 = some (.aload_n 0) := by decide +kernel
theorem k_4_5 : hm_code 4 5 = some (.bipush 100) := by decide +kernel
theorem k_4_7 : hm_code 4 7 = some (.newarray .int) := by decide +kernel
theorem k_4_9 : hm_code 4 9 = some (.putfield 9) := by decide +kernel
theorem k_4_12 : hm_code 4 12 = some (.aload_n 0) := by decide +kernel
theorem k_4_13 : hm_code 4 13 = some (.iconst 0) := by decide +kernel
theorem k_4_14 : hm_code 4 14 = some (.putfield 15) := by decide +kernel
theorem k_4_17 : hm_code 4 17 = some (.return_) := by decide +kernel
theorem m_5 : hm_mtab[5]? = some (⟨"HourPromised$LawReader", "<init>", "()V"⟩, prog_5_method_1_code, 1, none, 3, 1, 2) := rfl
theorem k_5_0 : hm_code 5 0 = some (.aload_n 0) := by decide +kernel
theorem k_5_1 : hm_code 5 1 = some (.invokespecial 3) := by decide +kernel
theorem k_5_4 : hm_code 5 4 = some (.aload_n 0) := by decide +kernel
theorem k_5_5 : hm_code 5 5 = some (.iconst (-1)) := by decide +kernel
theorem k_5_6 : hm_code 5 6 = some (.putfield 9) := by decide +kernel
theorem k_5_9 : hm_code 5 9 = some (.return_) := by decide +kernel
theorem m_6 : hm_mtab[6]? = some (⟨"HourPromised$Law", "<init>", "()V"⟩, prog_4_method_1_code, 1, none, 2, 1, 2) := rfl
theorem k_6_0 : hm_code 6 0 = some (.aload_n 0) := by decide +kernel
theorem k_6_1 : hm_code 6 1 = some (.invokespecial 3) := by decide +kernel
theorem k_6_4 : hm_code 6 4 = some (.aload_n 0) := by decide +kernel
theorem k_6_5 : hm_code 6 5 = some (.iconst 4) := by decide +kernel
theorem k_6_6 : hm_code 6 6 = some (.iconst 5) := by decide +kernel
theorem k_6_7 : hm_code 6 7 = some (.multianewarray 9 2) := by decide +kernel
theorem k_6_11 : hm_code 6 11 = some (.putfield 11) := by decide +kernel
theorem k_6_14 : hm_code 6 14 = some (.aload_n 0) := by decide +kernel
theorem k_6_15 : hm_code 6 15 = some (.invokevirtual 16) := by decide +kernel
theorem k_6_18 : hm_code 6 18 = some (.return_) := by decide +kernel
theorem m_7 : hm_mtab[7]? = some (⟨"HourPromised$Law", "clear", "()V"⟩, prog_4_method_2_code, 2, none, 2, 1, 1) := rfl
theorem k_7_0 : hm_code 7 0 = some (.iconst 0) := by decide +kernel
theorem k_7_1 : hm_code 7 1 = some (.istore_n 1) := by decide +kernel
theorem k_7_2 : hm_code 7 2 = some (.iload_n 1) := by decide +kernel
theorem k_7_3 : hm_code 7 3 = some (.iconst 4) := by decide +kernel
theorem k_7_4 : hm_code 7 4 = some (.if_icmp .ge 37) := by decide +kernel
theorem k_7_7 : hm_code 7 7 = some (.aload_n 0) := by decide +kernel
theorem k_7_8 : hm_code 7 8 = some (.getfield 11) := by decide +kernel
theorem k_7_11 : hm_code 7 11 = some (.iload_n 1) := by decide +kernel
theorem k_7_12 : hm_code 7 12 = some (.aaload) := by decide +kernel
theorem k_7_13 : hm_code 7 13 = some (.iconst 0) := by decide +kernel
theorem k_7_14 : hm_code 7 14 = some (.invokestatic 19) := by decide +kernel
theorem k_7_17 : hm_code 7 17 = some (.aload_n 0) := by decide +kernel
theorem k_7_18 : hm_code 7 18 = some (.getfield 11) := by decide +kernel
theorem k_7_21 : hm_code 7 21 = some (.iload_n 1) := by decide +kernel
theorem k_7_22 : hm_code 7 22 = some (.aaload) := by decide +kernel
theorem k_7_23 : hm_code 7 23 = some (.iconst 1) := by decide +kernel
theorem k_7_24 : hm_code 7 24 = some (.iconst (-1)) := by decide +kernel
theorem k_7_25 : hm_code 7 25 = some (.iastore) := by decide +kernel
theorem k_7_26 : hm_code 7 26 = some (.aload_n 0) := by decide +kernel
theorem k_7_27 : hm_code 7 27 = some (.getfield 11) := by decide +kernel
theorem k_7_30 : hm_code 7 30 = some (.iload_n 1) := by decide +kernel
theorem k_7_31 : hm_code 7 31 = some (.aaload) := by decide +kernel
theorem k_7_32 : hm_code 7 32 = some (.iconst 2) := by decide +kernel
theorem k_7_33 : hm_code 7 33 = some (.iconst (-1)) := by decide +kernel
theorem k_7_34 : hm_code 7 34 = some (.iastore) := by decide +kernel
theorem k_7_35 : hm_code 7 35 = some (.iinc 1 1) := by decide +kernel
theorem k_7_38 : hm_code 7 38 = some (.goto (-36)) := by decide +kernel
theorem k_7_41 : hm_code 7 41 = some (.return_) := by decide +kernel
theorem m_8 : hm_mtab[8]? = some (⟨"java/util/Arrays", "fill", "([II)V"⟩, prog_20_method_103_code, 4, none, 11, 2, 0) := rfl
theorem k_8_0 : hm_code 8 0 = some (.iconst 0) := by decide +kernel
theorem k_8_1 : hm_code 8 1 = some (.istore_n 2) := by decide +kernel
theorem k_8_2 : hm_code 8 2 = some (.aload_n 0) := by decide +kernel
theorem k_8_3 : hm_code 8 3 = some (.arraylength) := by decide +kernel
theorem k_8_4 : hm_code 8 4 = some (.istore_n 3) := by decide +kernel
theorem k_8_5 : hm_code 8 5 = some (.iload_n 2) := by decide +kernel
theorem k_8_6 : hm_code 8 6 = some (.iload_n 3) := by decide +kernel
theorem k_8_7 : hm_code 8 7 = some (.if_icmp .ge 13) := by decide +kernel
theorem k_8_10 : hm_code 8 10 = some (.aload_n 0) := by decide +kernel
theorem k_8_11 : hm_code 8 11 = some (.iload_n 2) := by decide +kernel
theorem k_8_12 : hm_code 8 12 = some (.iload_n 1) := by decide +kernel
theorem k_8_13 : hm_code 8 13 = some (.iastore) := by decide +kernel
theorem k_8_14 : hm_code 8 14 = some (.iinc 2 1) := by decide +kernel
theorem k_8_17 : hm_code 8 17 = some (.goto (-12)) := by decide +kernel
theorem k_8_20 : hm_code 8 20 = some (.return_) := by decide +kernel
theorem m_9 : hm_mtab[9]? = some (⟨"java/util/ArrayList", "<init>", "()V"⟩, prog_19_method_2_code, 1, none, 9, 1, 2) := rfl
theorem k_9_0 : hm_code 9 0 = some (.aload_n 0) := by decide +kernel
theorem k_9_1 : hm_code 9 1 = some (.invokespecial 1) := by decide +kernel
theorem k_9_4 : hm_code 9 4 = some (.aload_n 0) := by decide +kernel
theorem k_9_5 : hm_code 9 5 = some (.getstatic 39) := by decide +kernel
theorem k_9_8 : hm_code 9 8 = some (.putfield 9) := by decide +kernel
theorem k_9_11 : hm_code 9 11 = some (.return_) := by decide +kernel
theorem m_10 : hm_mtab[10]? = some (⟨"java/util/AbstractList", "<init>", "()V"⟩, prog_18_method_1_code, 1, none, 12, 1, 2) := rfl
theorem k_10_0 : hm_code 10 0 = some (.aload_n 0) := by decide +kernel
theorem k_10_1 : hm_code 10 1 = some (.invokespecial 1) := by decide +kernel
theorem k_10_4 : hm_code 10 4 = some (.aload_n 0) := by decide +kernel
theorem k_10_5 : hm_code 10 5 = some (.iconst 0) := by decide +kernel
theorem k_10_6 : hm_code 10 6 = some (.putfield 7) := by decide +kernel
theorem k_10_9 : hm_code 10 9 = some (.return_) := by decide +kernel
theorem m_11 : hm_mtab[11]? = some (⟨"java/util/AbstractCollection", "<init>", "()V"⟩, prog_17_method_1_code, 1, none, 13, 1, 2) := rfl
theorem k_11_0 : hm_code 11 0 = some (.aload_n 0) := by decide +kernel
theorem k_11_1 : hm_code 11 1 = some (.invokespecial 1) := by decide +kernel
theorem k_11_4 : hm_code 11 4 = some (.return_) := by decide +kernel
theorem m_12 : hm_mtab[12]? = some (⟨"HourPromised", "house", "(II)I"⟩, prog_1_method_2_code, 4, (some .int), 7, 3, 1) := rfl
theorem k_12_0 : hm_code 12 0 = some (.iload_n 1) := by decide +kernel
theorem k_12_1 : hm_code 12 1 = some (.iconst 0) := by decide +kernel
theorem k_12_2 : hm_code 12 2 = some (.iconst 2) := by decide +kernel
theorem k_12_3 : hm_code 12 3 = some (.invokestatic 78) := by decide +kernel
theorem k_12_6 : hm_code 12 6 = some (.ifCond .eq 16) := by decide +kernel
theorem k_12_9 : hm_code 12 9 = some (.iload_n 2) := by decide +kernel
theorem k_12_10 : hm_code 12 10 = some (.iconst 0) := by decide +kernel
theorem k_12_11 : hm_code 12 11 = some (.getstatic 82) := by decide +kernel
theorem k_12_14 : hm_code 12 14 = some (.iload_n 1) := by decide +kernel
theorem k_12_15 : hm_code 12 15 = some (.iaload) := by decide +kernel
theorem k_12_16 : hm_code 12 16 = some (.invokestatic 78) := by decide +kernel
theorem k_12_19 : hm_code 12 19 = some (.ifCond .ne 7) := by decide +kernel
theorem k_12_22 : hm_code 12 22 = some (.sipush (-1002)) := by decide +kernel
theorem k_12_25 : hm_code 12 25 = some (.ireturn) := by decide +kernel
theorem k_12_26 : hm_code 12 26 = some (.aload_n 0) := by decide +kernel
theorem k_12_27 : hm_code 12 27 = some (.getfield 26) := by decide +kernel
theorem k_12_30 : hm_code 12 30 = some (.getstatic 85) := by decide +kernel
theorem k_12_33 : hm_code 12 33 = some (.iload_n 1) := by decide +kernel
theorem k_12_34 : hm_code 12 34 = some (.iaload) := by decide +kernel
theorem k_12_35 : hm_code 12 35 = some (.invokevirtual 88) := by decide +kernel
theorem k_12_38 : hm_code 12 38 = some (.iload_n 2) := by decide +kernel
theorem k_12_39 : hm_code 12 39 = some (.if_icmp .le 7) := by decide +kernel
theorem k_12_42 : hm_code 12 42 = some (.sipush (-1003)) := by decide +kernel
theorem k_12_45 : hm_code 12 45 = some (.ireturn) := by decide +kernel
theorem k_12_46 : hm_code 12 46 = some (.aload_n 0) := by decide +kernel
theorem k_12_47 : hm_code 12 47 = some (.getfield 7) := by decide +kernel
theorem k_12_50 : hm_code 12 50 = some (.iload_n 1) := by decide +kernel
theorem k_12_51 : hm_code 12 51 = some (.iaload) := by decide +kernel
theorem k_12_52 : hm_code 12 52 = some (.istore_n 3) := by decide +kernel
theorem k_12_53 : hm_code 12 53 = some (.aload_n 0) := by decide +kernel
theorem k_12_54 : hm_code 12 54 = some (.getfield 7) := by decide +kernel
theorem k_12_57 : hm_code 12 57 = some (.iload_n 1) := by decide +kernel
theorem k_12_58 : hm_code 12 58 = some (.iload_n 2) := by decide +kernel
theorem k_12_59 : hm_code 12 59 = some (.iastore) := by decide +kernel
theorem k_12_60 : hm_code 12 60 = some (.iload_n 3) := by decide +kernel
theorem k_12_61 : hm_code 12 61 = some (.ireturn) := by decide +kernel
theorem m_13 : hm_mtab[13]? = some (⟨"HourPromised", "within", "(III)Z"⟩, prog_1_method_39_code, 3, (some .boolean), 7, 3, 0) := rfl
theorem k_13_0 : hm_code 13 0 = some (.iload_n 0) := by decide +kernel
theorem k_13_1 : hm_code 13 1 = some (.iload_n 1) := by decide +kernel
theorem k_13_2 : hm_code 13 2 = some (.if_icmp .lt 12) := by decide +kernel
theorem k_13_5 : hm_code 13 5 = some (.iload_n 0) := by decide +kernel
theorem k_13_6 : hm_code 13 6 = some (.iload_n 2) := by decide +kernel
theorem k_13_7 : hm_code 13 7 = some (.if_icmp .gt 7) := by decide +kernel
theorem k_13_10 : hm_code 13 10 = some (.iconst 1) := by decide +kernel
theorem k_13_11 : hm_code 13 11 = some (.goto 4) := by decide +kernel
theorem k_13_14 : hm_code 13 14 = some (.iconst 0) := by decide +kernel
theorem k_13_15 : hm_code 13 15 = some (.ireturn) := by decide +kernel
theorem m_14 : hm_mtab[14]? = some (⟨"HourPromised$Ledger", "mostOfAnyHour", "(I)I"⟩, prog_6_method_3_code, 4, (some .int), 4, 2, 1) := rfl
theorem k_14_0 : hm_code 14 0 = some (.iconst 0) := by decide +kernel
theorem k_14_1 : hm_code 14 1 = some (.istore_n 2) := by decide +kernel
theorem k_14_2 : hm_code 14 2 = some (.iconst 0) := by decide +kernel
theorem k_14_3 : hm_code 14 3 = some (.istore_n 3) := by decide +kernel
theorem k_14_4 : hm_code 14 4 = some (.iload_n 3) := by decide +kernel
theorem k_14_5 : hm_code 14 5 = some (.sipush 400) := by decide +kernel
theorem k_14_8 : hm_code 14 8 = some (.if_icmp .ge 22) := by decide +kernel
theorem k_14_11 : hm_code 14 11 = some (.iload_n 2) := by decide +kernel
theorem k_14_12 : hm_code 14 12 = some (.aload_n 0) := by decide +kernel
theorem k_14_13 : hm_code 14 13 = some (.getfield 11) := by decide +kernel
theorem k_14_16 : hm_code 14 16 = some (.iload_n 1) := by decide +kernel
theorem k_14_17 : hm_code 14 17 = some (.aaload) := by decide +kernel
theorem k_14_18 : hm_code 14 18 = some (.iload_n 3) := by decide +kernel
theorem k_14_19 : hm_code 14 19 = some (.iaload) := by decide +kernel
theorem k_14_20 : hm_code 14 20 = some (.invokestatic 16) := by decide +kernel
theorem k_14_23 : hm_code 14 23 = some (.istore_n 2) := by decide +kernel
theorem k_14_24 : hm_code 14 24 = some (.iinc 3 1) := by decide +kernel
theorem k_14_27 : hm_code 14 27 = some (.goto (-23)) := by decide +kernel
theorem k_14_30 : hm_code 14 30 = some (.iload_n 2) := by decide +kernel
theorem k_14_31 : hm_code 14 31 = some (.ireturn) := by decide +kernel
theorem m_15 : hm_mtab[15]? = some (⟨"java/lang/Math", "max", "(II)I"⟩, prog_15_method_65_code, 2, (some .int), 14, 2, 0) := rfl
theorem k_15_0 : hm_code 15 0 = some (.iload_n 0) := by decide +kernel
theorem k_15_1 : hm_code 15 1 = some (.iload_n 1) := by decide +kernel
theorem k_15_2 : hm_code 15 2 = some (.if_icmp .lt 7) := by decide +kernel
theorem k_15_5 : hm_code 15 5 = some (.iload_n 0) := by decide +kernel
theorem k_15_6 : hm_code 15 6 = some (.goto 4) := by decide +kernel
theorem k_15_9 : hm_code 15 9 = some (.iload_n 1) := by decide +kernel
theorem k_15_10 : hm_code 15 10 = some (.ireturn) := by decide +kernel
theorem m_16 : hm_mtab[16]? = some (⟨"HourPromised", "open", "(II)I"⟩, prog_1_method_3_code, 4, (some .int), 7, 3, 1) := rfl
theorem k_16_0 : hm_code 16 0 = some (.iload_n 1) := by decide +kernel
theorem k_16_1 : hm_code 16 1 = some (.iconst 0) := by decide +kernel
theorem k_16_2 : hm_code 16 2 = some (.iconst 2) := by decide +kernel
theorem k_16_3 : hm_code 16 3 = some (.invokestatic 78) := by decide +kernel
theorem k_16_6 : hm_code 16 6 = some (.ifCond .ne 7) := by decide +kernel
theorem k_16_9 : hm_code 16 9 = some (.sipush (-1001)) := by decide +kernel
theorem k_16_12 : hm_code 16 12 = some (.ireturn) := by decide +kernel
theorem k_16_13 : hm_code 16 13 = some (.iload_n 2) := by decide +kernel
theorem k_16_14 : hm_code 16 14 = some (.iconst 0) := by decide +kernel
theorem k_16_15 : hm_code 16 15 = some (.sipush 1023) := by decide +kernel
theorem k_16_18 : hm_code 16 18 = some (.invokestatic 78) := by decide +kernel
theorem k_16_21 : hm_code 16 21 = some (.ifCond .ne 7) := by decide +kernel
theorem k_16_24 : hm_code 16 24 = some (.sipush (-1002)) := by decide +kernel
theorem k_16_27 : hm_code 16 27 = some (.ireturn) := by decide +kernel
theorem k_16_28 : hm_code 16 28 = some (.aload_n 0) := by decide +kernel
theorem k_16_29 : hm_code 16 29 = some (.getfield 13) := by decide +kernel
theorem k_16_32 : hm_code 16 32 = some (.iload_n 1) := by decide +kernel
theorem k_16_33 : hm_code 16 33 = some (.iaload) := by decide +kernel
theorem k_16_34 : hm_code 16 34 = some (.istore_n 3) := by decide +kernel
theorem k_16_35 : hm_code 16 35 = some (.aload_n 0) := by decide +kernel
theorem k_16_36 : hm_code 16 36 = some (.getfield 13) := by decide +kernel
theorem k_16_39 : hm_code 16 39 = some (.iload_n 1) := by decide +kernel
theorem k_16_40 : hm_code 16 40 = some (.iload_n 2) := by decide +kernel
theorem k_16_41 : hm_code 16 41 = some (.iastore) := by decide +kernel
theorem k_16_42 : hm_code 16 42 = some (.aload_n 0) := by decide +kernel
theorem k_16_43 : hm_code 16 43 = some (.invokevirtual 92) := by decide +kernel
theorem k_16_46 : hm_code 16 46 = some (.ifCond .ne 14) := by decide +kernel
theorem k_16_49 : hm_code 16 49 = some (.aload_n 0) := by decide +kernel
theorem k_16_50 : hm_code 16 50 = some (.getfield 13) := by decide +kernel
theorem k_16_53 : hm_code 16 53 = some (.iload_n 1) := by decide +kernel
theorem k_16_54 : hm_code 16 54 = some (.iload_n 3) := by decide +kernel
theorem k_16_55 : hm_code 16 55 = some (.iastore) := by decide +kernel
theorem k_16_56 : hm_code 16 56 = some (.sipush (-1003)) := by decide +kernel
theorem k_16_59 : hm_code 16 59 = some (.ireturn) := by decide +kernel
theorem k_16_60 : hm_code 16 60 = some (.iload_n 3) := by decide +kernel
theorem k_16_61 : hm_code 16 61 = some (.ireturn) := by decide +kernel
theorem m_17 : hm_mtab[17]? = some (⟨"HourPromised", "everyServiceHasChapel", "()Z"⟩, prog_1_method_5_code, 2, (some .boolean), 7, 1, 1) := rfl
theorem k_17_0 : hm_code 17 0 = some (.iconst 0) := by decide +kernel
theorem k_17_1 : hm_code 17 1 = some (.istore_n 1) := by decide +kernel
theorem k_17_2 : hm_code 17 2 = some (.iload_n 1) := by decide +kernel
theorem k_17_3 : hm_code 17 3 = some (.sipush 400) := by decide +kernel
theorem k_17_6 : hm_code 17 6 = some (.if_icmp .ge 28) := by decide +kernel
theorem k_17_9 : hm_code 17 9 = some (.aload_n 0) := by decide +kernel
theorem k_17_10 : hm_code 17 10 = some (.getfield 26) := by decide +kernel
theorem k_17_13 : hm_code 17 13 = some (.iload_n 1) := by decide +kernel
theorem k_17_14 : hm_code 17 14 = some (.iconst 1) := by decide +kernel
theorem k_17_15 : hm_code 17 15 = some (.invokevirtual 99) := by decide +kernel
theorem k_17_18 : hm_code 17 18 = some (.aload_n 0) := by decide +kernel
theorem k_17_19 : hm_code 17 19 = some (.iload_n 1) := by decide +kernel
theorem k_17_20 : hm_code 17 20 = some (.invokevirtual 103) := by decide +kernel
theorem k_17_23 : hm_code 17 23 = some (.if_icmp .le 5) := by decide +kernel
theorem k_17_26 : hm_code 17 26 = some (.iconst 0) := by decide +kernel
theorem k_17_27 : hm_code 17 27 = some (.ireturn) := by decide +kernel
theorem k_17_28 : hm_code 17 28 = some (.iinc 1 1) := by decide +kernel
theorem k_17_31 : hm_code 17 31 = some (.goto (-29)) := by decide +kernel
theorem k_17_34 : hm_code 17 34 = some (.iconst 1) := by decide +kernel
theorem k_17_35 : hm_code 17 35 = some (.ireturn) := by decide +kernel
theorem m_18 : hm_mtab[18]? = some (⟨"HourPromised$Ledger", "takenIn", "(II)I"⟩, prog_6_method_2_code, 3, (some .int), 4, 3, 1) := rfl
theorem k_18_0 : hm_code 18 0 = some (.aload_n 0) := by decide +kernel
theorem k_18_1 : hm_code 18 1 = some (.getfield 11) := by decide +kernel
theorem k_18_4 : hm_code 18 4 = some (.iload_n 2) := by decide +kernel
theorem k_18_5 : hm_code 18 5 = some (.aaload) := by decide +kernel
theorem k_18_6 : hm_code 18 6 = some (.iload_n 1) := by decide +kernel
theorem k_18_7 : hm_code 18 7 = some (.iaload) := by decide +kernel
theorem k_18_8 : hm_code 18 8 = some (.ireturn) := by decide +kernel
theorem m_19 : hm_mtab[19]? = some (⟨"HourPromised", "openChapels", "(I)I"⟩, prog_1_method_6_code, 4, (some .int), 7, 2, 1) := rfl
theorem k_19_0 : hm_code 19 0 = some (.iconst 0) := by decide +kernel
theorem k_19_1 : hm_code 19 1 = some (.istore_n 2) := by decide +kernel
theorem k_19_2 : hm_code 19 2 = some (.iconst 0) := by decide +kernel
theorem k_19_3 : hm_code 19 3 = some (.istore_n 3) := by decide +kernel
theorem k_19_4 : hm_code 19 4 = some (.iload_n 3) := by decide +kernel
theorem k_19_5 : hm_code 19 5 = some (.iconst 3) := by decide +kernel
theorem k_19_6 : hm_code 19 6 = some (.if_icmp .ge 26) := by decide +kernel
theorem k_19_9 : hm_code 19 9 = some (.iload_n 2) := by decide +kernel
theorem k_19_10 : hm_code 19 10 = some (.aload_n 0) := by decide +kernel
theorem k_19_11 : hm_code 19 11 = some (.iload_n 3) := by decide +kernel
theorem k_19_12 : hm_code 19 12 = some (.iload_n 1) := by decide +kernel
theorem k_19_13 : hm_code 19 13 = some (.invokevirtual 106) := by decide +kernel
theorem k_19_16 : hm_code 19 16 = some (.ifCond .eq 7) := by decide +kernel
theorem k_19_19 : hm_code 19 19 = some (.iconst 1) := by decide +kernel
theorem k_19_20 : hm_code 19 20 = some (.goto 4) := by decide +kernel
theorem k_19_23 : hm_code 19 23 = some (.iconst 0) := by decide +kernel
theorem k_19_24 : hm_code 19 24 = some (.iadd) := by decide +kernel
theorem k_19_25 : hm_code 19 25 = some (.istore_n 2) := by decide +kernel
theorem k_19_26 : hm_code 19 26 = some (.iinc 3 1) := by decide +kernel
theorem k_19_29 : hm_code 19 29 = some (.goto (-25)) := by decide +kernel
theorem k_19_32 : hm_code 19 32 = some (.iload_n 2) := by decide +kernel
theorem k_19_33 : hm_code 19 33 = some (.ireturn) := by decide +kernel
theorem m_20 : hm_mtab[20]? = some (⟨"HourPromised", "isOpen", "(II)Z"⟩, prog_1_method_7_code, 3, (some .boolean), 7, 3, 1) := rfl
theorem k_20_0 : hm_code 20 0 = some (.aload_n 0) := by decide +kernel
theorem k_20_1 : hm_code 20 1 = some (.getfield 13) := by decide +kernel
theorem k_20_4 : hm_code 20 4 = some (.iload_n 1) := by decide +kernel
theorem k_20_5 : hm_code 20 5 = some (.iaload) := by decide +kernel
theorem k_20_6 : hm_code 20 6 = some (.iload_n 2) := by decide +kernel
theorem k_20_7 : hm_code 20 7 = some (.bipush 10) := by decide +kernel
theorem k_20_9 : hm_code 20 9 = some (.irem) := by decide +kernel
theorem k_20_10 : hm_code 20 10 = some (.invokestatic 110) := by decide +kernel
theorem k_20_13 : hm_code 20 13 = some (.ireturn) := by decide +kernel
theorem m_21 : hm_mtab[21]? = some (⟨"HourPromised", "has", "(II)Z"⟩, prog_1_method_42_code, 2, (some .boolean), 7, 2, 0) := rfl
theorem k_21_0 : hm_code 21 0 = some (.iload_n 0) := by decide +kernel
theorem k_21_1 : hm_code 21 1 = some (.iload_n 1) := by decide +kernel
theorem k_21_2 : hm_code 21 2 = some (.ishr) := by decide +kernel
theorem k_21_3 : hm_code 21 3 = some (.iconst 1) := by decide +kernel
theorem k_21_4 : hm_code 21 4 = some (.iand) := by decide +kernel
theorem k_21_5 : hm_code 21 5 = some (.iconst 1) := by decide +kernel
theorem k_21_6 : hm_code 21 6 = some (.if_icmp .ne 7) := by decide +kernel
theorem k_21_9 : hm_code 21 9 = some (.iconst 1) := by decide +kernel
theorem k_21_10 : hm_code 21 10 = some (.goto 4) := by decide +kernel
theorem k_21_13 : hm_code 21 13 = some (.iconst 0) := by decide +kernel
theorem k_21_14 : hm_code 21 14 = some (.ireturn) := by decide +kernel
theorem m_22 : hm_mtab[22]? = some (⟨"HourPromised", "bearer", "(I)I"⟩, prog_1_method_4_code, 2, (some .int), 7, 2, 1) := rfl
theorem k_22_0 : hm_code 22 0 = some (.iload_n 1) := by decide +kernel
theorem k_22_1 : hm_code 22 1 = some (.sipush 140) := by decide +kernel
theorem k_22_4 : hm_code 22 4 = some (.sipush 210) := by decide +kernel
theorem k_22_7 : hm_code 22 7 = some (.invokestatic 78) := by decide +kernel
theorem k_22_10 : hm_code 22 10 = some (.ifCond .ne 7) := by decide +kernel
theorem k_22_13 : hm_code 22 13 = some (.sipush (-1002)) := by decide +kernel
theorem k_22_16 : hm_code 22 16 = some (.ireturn) := by decide +kernel
theorem k_22_17 : hm_code 22 17 = some (.aload_n 0) := by decide +kernel
theorem k_22_18 : hm_code 22 18 = some (.getfield 19) := by decide +kernel
theorem k_22_21 : hm_code 22 21 = some (.iload_n 1) := by decide +kernel
theorem k_22_22 : hm_code 22 22 = some (.invokevirtual 96) := by decide +kernel
theorem k_22_25 : hm_code 22 25 = some (.ireturn) := by decide +kernel
theorem m_23 : hm_mtab[23]? = some (⟨"HourPromised$Bearers", "hire", "(I)I"⟩, prog_2_method_2_code, 2, (some .int), 0, 2, 1) := rfl
theorem k_23_0 : hm_code 23 0 = some (.aload_n 0) := by decide +kernel
theorem k_23_1 : hm_code 23 1 = some (.getfield 15) := by decide +kernel
theorem k_23_4 : hm_code 23 4 = some (.bipush 12) := by decide +kernel
theorem k_23_6 : hm_code 23 6 = some (.if_icmp .lt 7) := by decide +kernel
theorem k_23_9 : hm_code 23 9 = some (.sipush (-1004)) := by decide +kernel
theorem k_23_12 : hm_code 23 12 = some (.ireturn) := by decide +kernel
theorem k_23_13 : hm_code 23 13 = some (.aload_n 0) := by decide +kernel
theorem k_23_14 : hm_code 23 14 = some (.getfield 11) := by decide +kernel
theorem k_23_17 : hm_code 23 17 = some (.aload_n 0) := by decide +kernel
theorem k_23_18 : hm_code 23 18 = some (.getfield 15) := by decide +kernel
theorem k_23_21 : hm_code 23 21 = some (.iload_n 1) := by decide +kernel
theorem k_23_22 : hm_code 23 22 = some (.iastore) := by decide +kernel
theorem k_23_23 : hm_code 23 23 = some (.aload_n 0) := by decide +kernel
theorem k_23_24 : hm_code 23 24 = some (.dup) := by decide +kernel
theorem k_23_25 : hm_code 23 25 = some (.getfield 15) := by decide +kernel
theorem k_23_28 : hm_code 23 28 = some (.iconst 1) := by decide +kernel
theorem k_23_29 : hm_code 23 29 = some (.iadd) := by decide +kernel
theorem k_23_30 : hm_code 23 30 = some (.putfield 15) := by decide +kernel
theorem k_23_33 : hm_code 23 33 = some (.aload_n 0) := by decide +kernel
theorem k_23_34 : hm_code 23 34 = some (.getfield 15) := by decide +kernel
theorem k_23_37 : hm_code 23 37 = some (.iconst 1) := by decide +kernel
theorem k_23_38 : hm_code 23 38 = some (.isub) := by decide +kernel
theorem k_23_39 : hm_code 23 39 = some (.ireturn) := by decide +kernel
theorem m_24 : hm_mtab[24]? = some (⟨"HourPromised", "feed", "(IJ)I"⟩, prog_1_method_8_code, 4, (some .int), 7, 3, 1) := rfl
theorem k_24_0 : hm_code 24 0 = some (.iload_n 1) := by decide +kernel
theorem k_24_1 : hm_code 24 1 = some (.iconst 1) := by decide +kernel
theorem k_24_2 : hm_code 24 2 = some (.bipush 8) := by decide +kernel
theorem k_24_4 : hm_code 24 4 = some (.invokestatic 78) := by decide +kernel
theorem k_24_7 : hm_code 24 7 = some (.ifCond .ne 7) := by decide +kernel
theorem k_24_10 : hm_code 24 10 = some (.sipush (-1002)) := by decide +kernel
theorem k_24_13 : hm_code 24 13 = some (.ireturn) := by decide +kernel
theorem k_24_14 : hm_code 24 14 = some (.aload_n 0) := by decide +kernel
theorem k_24_15 : hm_code 24 15 = some (.getfield 33) := by decide +kernel
theorem k_24_18 : hm_code 24 18 = some (.iload_n 1) := by decide +kernel
theorem k_24_19 : hm_code 24 19 = some (.lload_n 2) := by decide +kernel
theorem k_24_20 : hm_code 24 20 = some (.invokevirtual 113) := by decide +kernel
theorem k_24_23 : hm_code 24 23 = some (.ireturn) := by decide +kernel
theorem m_25 : hm_mtab[25]? = some (⟨"HourPromised$Text", "append", "(IJ)I"⟩, prog_8_method_2_code, 5, (some .int), 6, 3, 1) := rfl
theorem k_25_0 : hm_code 25 0 = some (.aload_n 0) := by decide +kernel
theorem k_25_1 : hm_code 25 1 = some (.getfield 15) := by decide +kernel
theorem k_25_4 : hm_code 25 4 = some (.iload_n 1) := by decide +kernel
theorem k_25_5 : hm_code 25 5 = some (.iadd) := by decide +kernel
theorem k_25_6 : hm_code 25 6 = some (.bipush 100) := by decide +kernel
theorem k_25_8 : hm_code 25 8 = some (.if_icmp .le 7) := by decide +kernel
theorem k_25_11 : hm_code 25 11 = some (.sipush (-1004)) := by decide +kernel
theorem k_25_14 : hm_code 25 14 = some (.ireturn) := by decide +kernel
theorem k_25_15 : hm_code 25 15 = some (.iload_n 1) := by decide +kernel
theorem k_25_16 : hm_code 25 16 = some (.iconst 1) := by decide +kernel
theorem k_25_17 : hm_code 25 17 = some (.isub) := by decide +kernel
theorem k_25_18 : hm_code 25 18 = some (.istore 4) := by decide +kernel
theorem k_25_20 : hm_code 25 20 = some (.iload 4) := by decide +kernel
theorem k_25_22 : hm_code 25 22 = some (.ifCond .lt 40) := by decide +kernel
theorem k_25_25 : hm_code 25 25 = some (.aload_n 0) := by decide +kernel
theorem k_25_26 : hm_code 25 26 = some (.getfield 9) := by decide +kernel
theorem k_25_29 : hm_code 25 29 = some (.aload_n 0) := by decide +kernel
theorem k_25_30 : hm_code 25 30 = some (.getfield 15) := by decide +kernel
theorem k_25_33 : hm_code 25 33 = some (.lload_n 2) := by decide +kernel
theorem k_25_34 : hm_code 25 34 = some (.bipush 8) := by decide +kernel
theorem k_25_36 : hm_code 25 36 = some (.iload 4) := by decide +kernel
theorem k_25_38 : hm_code 25 38 = some (.imul) := by decide +kernel
theorem k_25_39 : hm_code 25 39 = some (.lushr) := by decide +kernel
theorem k_25_40 : hm_code 25 40 = some (.l2i) := by decide +kernel
theorem k_25_41 : hm_code 25 41 = some (.sipush 255) := by decide +kernel
theorem k_25_44 : hm_code 25 44 = some (.iand) := by decide +kernel
theorem k_25_45 : hm_code 25 45 = some (.iastore) := by decide +kernel
theorem k_25_46 : hm_code 25 46 = some (.aload_n 0) := by decide +kernel
theorem k_25_47 : hm_code 25 47 = some (.dup) := by decide +kernel
theorem k_25_48 : hm_code 25 48 = some (.getfield 15) := by decide +kernel
theorem k_25_51 : hm_code 25 51 = some (.iconst 1) := by decide +kernel
theorem k_25_52 : hm_code 25 52 = some (.iadd) := by decide +kernel
theorem k_25_53 : hm_code 25 53 = some (.putfield 15) := by decide +kernel
theorem k_25_56 : hm_code 25 56 = some (.iinc 4 (-1)) := by decide +kernel
theorem k_25_59 : hm_code 25 59 = some (.goto (-39)) := by decide +kernel
theorem k_25_62 : hm_code 25 62 = some (.aload_n 0) := by decide +kernel
theorem k_25_63 : hm_code 25 63 = some (.getfield 15) := by decide +kernel
theorem k_25_66 : hm_code 25 66 = some (.ireturn) := by decide +kernel
theorem m_26 : hm_mtab[26]? = some (⟨"HourPromised", "law", "(I)I"⟩, prog_1_method_9_code, 7, (some .int), 7, 2, 1) := rfl
theorem k_26_0 : hm_code 26 0 = some (.iload_n 1) := by decide +kernel
theorem k_26_1 : hm_code 26 1 = some (.iconst 0) := by decide +kernel
theorem k_26_2 : hm_code 26 2 = some (.iconst 3) := by decide +kernel
theorem k_26_3 : hm_code 26 3 = some (.invokestatic 78) := by decide +kernel
theorem k_26_6 : hm_code 26 6 = some (.ifCond .ne 7) := by decide +kernel
theorem k_26_9 : hm_code 26 9 = some (.sipush (-1001)) := by decide +kernel
theorem k_26_12 : hm_code 26 12 = some (.ireturn) := by decide +kernel
theorem k_26_13 : hm_code 26 13 = some (.aload_n 0) := by decide +kernel
theorem k_26_14 : hm_code 26 14 = some (.getfield 40) := by decide +kernel
theorem k_26_17 : hm_code 26 17 = some (.aload_n 0) := by decide +kernel
theorem k_26_18 : hm_code 26 18 = some (.getfield 33) := by decide +kernel
theorem k_26_21 : hm_code 26 21 = some (.aload_n 0) := by decide +kernel
theorem k_26_22 : hm_code 26 22 = some (.getfield 51) := by decide +kernel
theorem k_26_25 : hm_code 26 25 = some (.invokevirtual 117) := by decide +kernel
theorem k_26_28 : hm_code 26 28 = some (.istore_n 2) := by decide +kernel
theorem k_26_29 : hm_code 26 29 = some (.aload_n 0) := by decide +kernel
theorem k_26_30 : hm_code 26 30 = some (.getfield 33) := by decide +kernel
theorem k_26_33 : hm_code 26 33 = some (.invokevirtual 121) := by decide +kernel
theorem k_26_36 : hm_code 26 36 = some (.iload_n 2) := by decide +kernel
theorem k_26_37 : hm_code 26 37 = some (.ifCond .eq 8) := by decide +kernel
theorem k_26_40 : hm_code 26 40 = some (.bipush (-10)) := by decide +kernel
theorem k_26_42 : hm_code 26 42 = some (.iload_n 2) := by decide +kernel
theorem k_26_43 : hm_code 26 43 = some (.isub) := by decide +kernel
theorem k_26_44 : hm_code 26 44 = some (.ireturn) := by decide +kernel
theorem k_26_45 : hm_code 26 45 = some (.aload_n 0) := by decide +kernel
theorem k_26_46 : hm_code 26 46 = some (.getfield 46) := by decide +kernel
theorem k_26_49 : hm_code 26 49 = some (.iload_n 1) := by decide +kernel
theorem k_26_50 : hm_code 26 50 = some (.aaload) := by decide +kernel
theorem k_26_51 : hm_code 26 51 = some (.astore_n 3) := by decide +kernel
theorem k_26_52 : hm_code 26 52 = some (.aload_n 0) := by decide +kernel
theorem k_26_53 : hm_code 26 53 = some (.getfield 46) := by decide +kernel
theorem k_26_56 : hm_code 26 56 = some (.iload_n 1) := by decide +kernel
theorem k_26_57 : hm_code 26 57 = some (.aload_n 0) := by decide +kernel
theorem k_26_58 : hm_code 26 58 = some (.getfield 51) := by decide +kernel
theorem k_26_61 : hm_code 26 61 = some (.aastore) := by decide +kernel
theorem k_26_62 : hm_code 26 62 = some (.aload_n 0) := by decide +kernel
theorem k_26_63 : hm_code 26 63 = some (.aload_n 3) := by decide +kernel
theorem k_26_64 : hm_code 26 64 = some (.putfield 51) := by decide +kernel
theorem k_26_67 : hm_code 26 67 = some (.iconst 0) := by decide +kernel
theorem k_26_68 : hm_code 26 68 = some (.istore 4) := by decide +kernel
theorem k_26_70 : hm_code 26 70 = some (.iconst 0) := by decide +kernel
theorem k_26_71 : hm_code 26 71 = some (.istore 5) := by decide +kernel
theorem k_26_73 : hm_code 26 73 = some (.iload 5) := by decide +kernel
theorem k_26_75 : hm_code 26 75 = some (.aload_n 0) := by decide +kernel
theorem k_26_76 : hm_code 26 76 = some (.getfield 58) := by decide +kernel
theorem k_26_79 : hm_code 26 79 = some (.invokevirtual 124) := by decide +kernel
theorem k_26_82 : hm_code 26 82 = some (.if_icmp .ge 47) := by decide +kernel
theorem k_26_85 : hm_code 26 85 = some (.aload_n 0) := by decide +kernel
theorem k_26_86 : hm_code 26 86 = some (.getfield 58) := by decide +kernel
theorem k_26_89 : hm_code 26 89 = some (.iload 5) := by decide +kernel
theorem k_26_91 : hm_code 26 91 = some (.invokevirtual 128) := by decide +kernel
theorem k_26_94 : hm_code 26 94 = some (.checkcast 132) := by decide +kernel
theorem k_26_97 : hm_code 26 97 = some (.astore 6) := by decide +kernel
theorem k_26_99 : hm_code 26 99 = some (.iload 4) := by decide +kernel
theorem k_26_101 : hm_code 26 101 = some (.aload 6) := by decide +kernel
theorem k_26_103 : hm_code 26 103 = some (.getfield 134) := by decide +kernel
theorem k_26_106 : hm_code 26 106 = some (.iload_n 1) := by decide +kernel
theorem k_26_107 : hm_code 26 107 = some (.if_icmp .ne 12) := by decide +kernel
theorem k_26_110 : hm_code 26 110 = some (.aload_n 0) := by decide +kernel
theorem k_26_111 : hm_code 26 111 = some (.aload 6) := by decide +kernel
theorem k_26_113 : hm_code 26 113 = some (.invokevirtual 137) := by decide +kernel
theorem k_26_116 : hm_code 26 116 = some (.goto 4) := by decide +kernel
theorem k_26_119 : hm_code 26 119 = some (.iconst 0) := by decide +kernel
theorem k_26_120 : hm_code 26 120 = some (.iadd) := by decide +kernel
theorem k_26_121 : hm_code 26 121 = some (.istore 4) := by decide +kernel
theorem k_26_123 : hm_code 26 123 = some (.iinc 5 1) := by decide +kernel
theorem k_26_126 : hm_code 26 126 = some (.goto (-53)) := by decide +kernel
theorem k_26_129 : hm_code 26 129 = some (.iload 4) := by decide +kernel
theorem k_26_131 : hm_code 26 131 = some (.ireturn) := by decide +kernel
theorem m_27 : hm_mtab[27]? = some (⟨"HourPromised$LawReader", "read", "(LHourPromised$Text;LHourPromised$Law;)I"⟩, prog_5_method_2_code, 5, (some .int), 3, 3, 1) := rfl
theorem k_27_0 : hm_code 27 0 = some (.aload_n 2) := by decide +kernel
theorem k_27_1 : hm_code 27 1 = some (.invokevirtual 15) := by decide +kernel
theorem k_27_4 : hm_code 27 4 = some (.aload_n 0) := by decide +kernel
theorem k_27_5 : hm_code 27 5 = some (.iconst 0) := by decide +kernel
theorem k_27_6 : hm_code 27 6 = some (.putfield 20) := by decide +kernel
theorem k_27_9 : hm_code 27 9 = some (.aload_n 0) := by decide +kernel
theorem k_27_10 : hm_code 27 10 = some (.iconst 0) := by decide +kernel
theorem k_27_11 : hm_code 27 11 = some (.putfield 23) := by decide +kernel
theorem k_27_14 : hm_code 27 14 = some (.aload_n 0) := by decide +kernel
theorem k_27_15 : hm_code 27 15 = some (.iconst 0) := by decide +kernel
theorem k_27_16 : hm_code 27 16 = some (.putfield 26) := by decide +kernel
theorem k_27_19 : hm_code 27 19 = some (.aload_n 0) := by decide +kernel
theorem k_27_20 : hm_code 27 20 = some (.iconst (-1)) := by decide +kernel
theorem k_27_21 : hm_code 27 21 = some (.putfield 9) := by decide +kernel
theorem k_27_24 : hm_code 27 24 = some (.iconst 0) := by decide +kernel
theorem k_27_25 : hm_code 27 25 = some (.istore_n 3) := by decide +kernel
theorem k_27_26 : hm_code 27 26 = some (.iload_n 3) := by decide +kernel
theorem k_27_27 : hm_code 27 27 = some (.bipush 100) := by decide +kernel
theorem k_27_29 : hm_code 27 29 = some (.if_icmp .ge 64) := by decide +kernel
theorem k_27_32 : hm_code 27 32 = some (.aload_n 0) := by decide +kernel
theorem k_27_33 : hm_code 27 33 = some (.getfield 26) := by decide +kernel
theorem k_27_36 : hm_code 27 36 = some (.aload_n 1) := by decide +kernel
theorem k_27_37 : hm_code 27 37 = some (.getfield 29) := by decide +kernel
theorem k_27_40 : hm_code 27 40 = some (.if_icmp .ge 53) := by decide +kernel
theorem k_27_43 : hm_code 27 43 = some (.aload_n 1) := by decide +kernel
theorem k_27_44 : hm_code 27 44 = some (.aload_n 0) := by decide +kernel
theorem k_27_45 : hm_code 27 45 = some (.getfield 26) := by decide +kernel
theorem k_27_48 : hm_code 27 48 = some (.invokevirtual 34) := by decide +kernel
theorem k_27_51 : hm_code 27 51 = some (.bipush 32) := by decide +kernel
theorem k_27_53 : hm_code 27 53 = some (.if_icmp .ne 10) := by decide +kernel
theorem k_27_56 : hm_code 27 56 = some (.aload_n 0) := by decide +kernel
theorem k_27_57 : hm_code 27 57 = some (.invokevirtual 38) := by decide +kernel
theorem k_27_60 : hm_code 27 60 = some (.goto 9) := by decide +kernel
theorem k_27_63 : hm_code 27 63 = some (.aload_n 0) := by decide +kernel
theorem k_27_64 : hm_code 27 64 = some (.aload_n 1) := by decide +kernel
theorem k_27_65 : hm_code 27 65 = some (.aload_n 2) := by decide +kernel
theorem k_27_66 : hm_code 27 66 = some (.invokevirtual 42) := by decide +kernel
theorem k_27_69 : hm_code 27 69 = some (.istore 4) := by decide +kernel
theorem k_27_71 : hm_code 27 71 = some (.iload 4) := by decide +kernel
theorem k_27_73 : hm_code 27 73 = some (.ifCond .eq 14) := by decide +kernel
theorem k_27_76 : hm_code 27 76 = some (.aload_n 0) := by decide +kernel
theorem k_27_77 : hm_code 27 77 = some (.aload_n 0) := by decide +kernel
theorem k_27_78 : hm_code 27 78 = some (.getfield 26) := by decide +kernel
theorem k_27_81 : hm_code 27 81 = some (.putfield 9) := by decide +kernel
theorem k_27_84 : hm_code 27 84 = some (.iload 4) := by decide +kernel
theorem k_27_86 : hm_code 27 86 = some (.ireturn) := by decide +kernel
theorem k_27_87 : hm_code 27 87 = some (.iinc 3 1) := by decide +kernel
theorem k_27_90 : hm_code 27 90 = some (.goto (-64)) := by decide +kernel
theorem k_27_93 : hm_code 27 93 = some (.aload_n 0) := by decide +kernel
theorem k_27_94 : hm_code 27 94 = some (.getfield 20) := by decide +kernel
theorem k_27_97 : hm_code 27 97 = some (.ifCond .eq 13) := by decide +kernel
theorem k_27_100 : hm_code 27 100 = some (.aload_n 0) := by decide +kernel
theorem k_27_101 : hm_code 27 101 = some (.aload_n 1) := by decide +kernel
theorem k_27_102 : hm_code 27 102 = some (.getfield 29) := by decide +kernel
theorem k_27_105 : hm_code 27 105 = some (.putfield 9) := by decide +kernel
theorem k_27_108 : hm_code 27 108 = some (.iconst 1) := by decide +kernel
theorem k_27_109 : hm_code 27 109 = some (.ireturn) := by decide +kernel
theorem k_27_110 : hm_code 27 110 = some (.iconst 0) := by decide +kernel
theorem k_27_111 : hm_code 27 111 = some (.ireturn) := by decide +kernel
theorem m_28 : hm_mtab[28]? = some (⟨"HourPromised$Text", "byteAt", "(I)I"⟩, prog_8_method_3_code, 2, (some .int), 6, 2, 1) := rfl
theorem k_28_0 : hm_code 28 0 = some (.iload_n 1) := by decide +kernel
theorem k_28_1 : hm_code 28 1 = some (.ifCond .lt 20) := by decide +kernel
theorem k_28_4 : hm_code 28 4 = some (.iload_n 1) := by decide +kernel
theorem k_28_5 : hm_code 28 5 = some (.aload_n 0) := by decide +kernel
theorem k_28_6 : hm_code 28 6 = some (.getfield 15) := by decide +kernel
theorem k_28_9 : hm_code 28 9 = some (.if_icmp .ge 12) := by decide +kernel
theorem k_28_12 : hm_code 28 12 = some (.aload_n 0) := by decide +kernel
theorem k_28_13 : hm_code 28 13 = some (.getfield 9) := by decide +kernel
theorem k_28_16 : hm_code 28 16 = some (.iload_n 1) := by decide +kernel
theorem k_28_17 : hm_code 28 17 = some (.iaload) := by decide +kernel
theorem k_28_18 : hm_code 28 18 = some (.goto 4) := by decide +kernel
theorem k_28_21 : hm_code 28 21 = some (.iconst (-1)) := by decide +kernel
theorem k_28_22 : hm_code 28 22 = some (.ireturn) := by decide +kernel
theorem m_29 : hm_mtab[29]? = some (⟨"HourPromised$LawReader", "skip", "()I"⟩, prog_5_method_3_code, 1, (some .int), 3, 1, 1) := rfl
theorem k_29_0 : hm_code 29 0 = some (.aload_n 0) := by decide +kernel
theorem k_29_1 : hm_code 29 1 = some (.dup) := by decide +kernel
theorem k_29_2 : hm_code 29 2 = some (.getfield 26) := by decide +kernel
theorem k_29_5 : hm_code 29 5 = some (.iconst 1) := by decide +kernel
theorem k_29_6 : hm_code 29 6 = some (.iadd) := by decide +kernel
theorem k_29_7 : hm_code 29 7 = some (.putfield 26) := by decide +kernel
theorem k_29_10 : hm_code 29 10 = some (.iconst 0) := by decide +kernel
theorem k_29_11 : hm_code 29 11 = some (.ireturn) := by decide +kernel
theorem m_30 : hm_mtab[30]? = some (⟨"HourPromised$LawReader", "readPart", "(LHourPromised$Text;LHourPromised$Law;)I"⟩, prog_5_method_4_code, 3, (some .int), 3, 3, 1) := rfl
theorem k_30_0 : hm_code 30 0 = some (.aload_n 0) := by decide +kernel
theorem k_30_1 : hm_code 30 1 = some (.getfield 20) := by decide +kernel
theorem k_30_4 : hm_code 30 4 = some (.tableswitch 105 0 2 #[28, 44, 67]) := by decide +kernel
theorem k_30_32 : hm_code 30 32 = some (.aload_n 0) := by decide +kernel
theorem k_30_33 : hm_code 30 33 = some (.aload_n 1) := by decide +kernel
theorem k_30_34 : hm_code 30 34 = some (.aload_n 0) := by decide +kernel
theorem k_30_35 : hm_code 30 35 = some (.getfield 26) := by decide +kernel
theorem k_30_38 : hm_code 30 38 = some (.invokevirtual 34) := by decide +kernel
theorem k_30_41 : hm_code 30 41 = some (.invokestatic 46) := by decide +kernel
theorem k_30_44 : hm_code 30 44 = some (.invokevirtual 49) := by decide +kernel
theorem k_30_47 : hm_code 30 47 = some (.ireturn) := by decide +kernel
theorem k_30_48 : hm_code 30 48 = some (.aload_n 1) := by decide +kernel
theorem k_30_49 : hm_code 30 49 = some (.aload_n 0) := by decide +kernel
theorem k_30_50 : hm_code 30 50 = some (.getfield 26) := by decide +kernel
theorem k_30_53 : hm_code 30 53 = some (.invokevirtual 34) := by decide +kernel
theorem k_30_56 : hm_code 30 56 = some (.bipush 58) := by decide +kernel
theorem k_30_58 : hm_code 30 58 = some (.if_icmp .ne 11) := by decide +kernel
theorem k_30_61 : hm_code 30 61 = some (.aload_n 0) := by decide +kernel
theorem k_30_62 : hm_code 30 62 = some (.iconst 2) := by decide +kernel
theorem k_30_63 : hm_code 30 63 = some (.invokevirtual 52) := by decide +kernel
theorem k_30_66 : hm_code 30 66 = some (.goto 4) := by decide +kernel
theorem k_30_69 : hm_code 30 69 = some (.iconst 1) := by decide +kernel
theorem k_30_70 : hm_code 30 70 = some (.ireturn) := by decide +kernel
theorem k_30_71 : hm_code 30 71 = some (.aload_n 1) := by decide +kernel
theorem k_30_72 : hm_code 30 72 = some (.aload_n 0) := by decide +kernel
theorem k_30_73 : hm_code 30 73 = some (.getfield 26) := by decide +kernel
theorem k_30_76 : hm_code 30 76 = some (.invokevirtual 34) := by decide +kernel
theorem k_30_79 : hm_code 30 79 = some (.bipush 59) := by decide +kernel
theorem k_30_81 : hm_code 30 81 = some (.if_icmp .ne 11) := by decide +kernel
theorem k_30_84 : hm_code 30 84 = some (.aload_n 0) := by decide +kernel
theorem k_30_85 : hm_code 30 85 = some (.iconst 0) := by decide +kernel
theorem k_30_86 : hm_code 30 86 = some (.invokevirtual 52) := by decide +kernel
theorem k_30_89 : hm_code 30 89 = some (.goto 19) := by decide +kernel
theorem k_30_92 : hm_code 30 92 = some (.aload_n 0) := by decide +kernel
theorem k_30_93 : hm_code 30 93 = some (.aload_n 1) := by decide +kernel
theorem k_30_94 : hm_code 30 94 = some (.aload_n 0) := by decide +kernel
theorem k_30_95 : hm_code 30 95 = some (.getfield 26) := by decide +kernel
theorem k_30_98 : hm_code 30 98 = some (.invokevirtual 34) := by decide +kernel
theorem k_30_101 : hm_code 30 101 = some (.invokestatic 55) := by decide +kernel
theorem k_30_104 : hm_code 30 104 = some (.aload_n 2) := by decide +kernel
theorem k_30_105 : hm_code 30 105 = some (.invokevirtual 58) := by decide +kernel
theorem k_30_108 : hm_code 30 108 = some (.ireturn) := by decide +kernel
theorem k_30_109 : hm_code 30 109 = some (.aload_n 0) := by decide +kernel
theorem k_30_110 : hm_code 30 110 = some (.aload_n 1) := by decide +kernel
theorem k_30_111 : hm_code 30 111 = some (.aload_n 2) := by decide +kernel
theorem k_30_112 : hm_code 30 112 = some (.invokevirtual 62) := by decide +kernel
theorem k_30_115 : hm_code 30 115 = some (.ireturn) := by decide +kernel
theorem m_31 : hm_mtab[31]? = some (⟨"HourPromised$LawReader", "stepOf", "(I)I"⟩, prog_5_method_10_code, 1, (some .int), 3, 1, 0) := rfl
theorem k_31_0 : hm_code 31 0 = some (.iload_n 0) := by decide +kernel
theorem k_31_1 : hm_code 31 1 = some (.lookupswitch 51 #[(98, 47), (102, 43), (103, 49), (115, 45)]) := by decide +kernel
theorem k_31_44 : hm_code 31 44 = some (.iconst 0) := by decide +kernel
theorem k_31_45 : hm_code 31 45 = some (.ireturn) := by decide +kernel
theorem k_31_46 : hm_code 31 46 = some (.iconst 1) := by decide +kernel
theorem k_31_47 : hm_code 31 47 = some (.ireturn) := by decide +kernel
theorem k_31_48 : hm_code 31 48 = some (.iconst 2) := by decide +kernel
theorem k_31_49 : hm_code 31 49 = some (.ireturn) := by decide +kernel
theorem k_31_50 : hm_code 31 50 = some (.iconst 3) := by decide +kernel
theorem k_31_51 : hm_code 31 51 = some (.ireturn) := by decide +kernel
theorem k_31_52 : hm_code 31 52 = some (.iconst (-1)) := by decide +kernel
theorem k_31_53 : hm_code 31 53 = some (.ireturn) := by decide +kernel
theorem m_32 : hm_mtab[32]? = some (⟨"HourPromised$LawReader", "readClause", "(I)I"⟩, prog_5_method_6_code, 2, (some .int), 3, 2, 1) := rfl
theorem k_32_0 : hm_code 32 0 = some (.iload_n 1) := by decide +kernel
theorem k_32_1 : hm_code 32 1 = some (.iconst (-1)) := by decide +kernel
theorem k_32_2 : hm_code 32 2 = some (.if_icmp .ne 5) := by decide +kernel
theorem k_32_5 : hm_code 32 5 = some (.iconst 1) := by decide +kernel
theorem k_32_6 : hm_code 32 6 = some (.ireturn) := by decide +kernel
theorem k_32_7 : hm_code 32 7 = some (.aload_n 0) := by decide +kernel
theorem k_32_8 : hm_code 32 8 = some (.getfield 23) := by decide +kernel
theorem k_32_11 : hm_code 32 11 = some (.iload_n 1) := by decide +kernel
theorem k_32_12 : hm_code 32 12 = some (.invokestatic 65) := by decide +kernel
theorem k_32_15 : hm_code 32 15 = some (.ifCond .eq 5) := by decide +kernel
theorem k_32_18 : hm_code 32 18 = some (.iconst 3) := by decide +kernel
theorem k_32_19 : hm_code 32 19 = some (.ireturn) := by decide +kernel
theorem k_32_20 : hm_code 32 20 = some (.aload_n 0) := by decide +kernel
theorem k_32_21 : hm_code 32 21 = some (.dup) := by decide +kernel
theorem k_32_22 : hm_code 32 22 = some (.getfield 23) := by decide +kernel
theorem k_32_25 : hm_code 32 25 = some (.iconst 1) := by decide +kernel
theorem k_32_26 : hm_code 32 26 = some (.iload_n 1) := by decide +kernel
theorem k_32_27 : hm_code 32 27 = some (.ishl) := by decide +kernel
theorem k_32_28 : hm_code 32 28 = some (.ior) := by decide +kernel
theorem k_32_29 : hm_code 32 29 = some (.putfield 23) := by decide +kernel
theorem k_32_32 : hm_code 32 32 = some (.aload_n 0) := by decide +kernel
theorem k_32_33 : hm_code 32 33 = some (.iconst 0) := by decide +kernel
theorem k_32_34 : hm_code 32 34 = some (.putfield 69) := by decide +kernel
theorem k_32_37 : hm_code 32 37 = some (.aload_n 0) := by decide +kernel
theorem k_32_38 : hm_code 32 38 = some (.iload_n 1) := by decide +kernel
theorem k_32_39 : hm_code 32 39 = some (.putfield 72) := by decide +kernel
theorem k_32_42 : hm_code 32 42 = some (.aload_n 0) := by decide +kernel
theorem k_32_43 : hm_code 32 43 = some (.iconst 1) := by decide +kernel
theorem k_32_44 : hm_code 32 44 = some (.invokevirtual 52) := by decide +kernel
theorem k_32_47 : hm_code 32 47 = some (.ireturn) := by decide +kernel
theorem m_33 : hm_mtab[33]? = some (⟨"HourPromised$LawReader", "goOn", "(I)I"⟩, prog_5_method_5_code, 2, (some .int), 3, 2, 1) := rfl
theorem k_33_0 : hm_code 33 0 = some (.aload_n 0) := by decide +kernel
theorem k_33_1 : hm_code 33 1 = some (.dup) := by decide +kernel
theorem k_33_2 : hm_code 33 2 = some (.getfield 26) := by decide +kernel
theorem k_33_5 : hm_code 33 5 = some (.iconst 1) := by decide +kernel
theorem k_33_6 : hm_code 33 6 = some (.iadd) := by decide +kernel
theorem k_33_7 : hm_code 33 7 = some (.putfield 26) := by decide +kernel
theorem k_33_10 : hm_code 33 10 = some (.aload_n 0) := by decide +kernel
theorem k_33_11 : hm_code 33 11 = some (.iload_n 1) := by decide +kernel
theorem k_33_12 : hm_code 33 12 = some (.putfield 20) := by decide +kernel
theorem k_33_15 : hm_code 33 15 = some (.iconst 0) := by decide +kernel
theorem k_33_16 : hm_code 33 16 = some (.ireturn) := by decide +kernel
theorem m_34 : hm_mtab[34]? = some (⟨"HourPromised$LawReader", "itemOf", "(I)I"⟩, prog_5_method_11_code, 2, (some .int), 3, 1, 0) := rfl
theorem k_34_0 : hm_code 34 0 = some (.iload_n 0) := by decide +kernel
theorem k_34_1 : hm_code 34 1 = some (.bipush 65) := by decide +kernel
theorem k_34_3 : hm_code 34 3 = some (.if_icmp .lt 14) := by decide +kernel
theorem k_34_6 : hm_code 34 6 = some (.iload_n 0) := by decide +kernel
theorem k_34_7 : hm_code 34 7 = some (.bipush 71) := by decide +kernel
theorem k_34_9 : hm_code 34 9 = some (.if_icmp .ge 8) := by decide +kernel
theorem k_34_12 : hm_code 34 12 = some (.iload_n 0) := by decide +kernel
theorem k_34_13 : hm_code 34 13 = some (.bipush 65) := by decide +kernel
theorem k_34_15 : hm_code 34 15 = some (.isub) := by decide +kernel
theorem k_34_16 : hm_code 34 16 = some (.ireturn) := by decide +kernel
theorem k_34_17 : hm_code 34 17 = some (.iload_n 0) := by decide +kernel
theorem k_34_18 : hm_code 34 18 = some (.lookupswitch 43 #[(33, 40), (60, 34), (62, 37)]) := by decide +kernel
theorem k_34_52 : hm_code 34 52 = some (.bipush 6) := by decide +kernel
theorem k_34_54 : hm_code 34 54 = some (.ireturn) := by decide +kernel
theorem k_34_55 : hm_code 34 55 = some (.bipush 7) := by decide +kernel
theorem k_34_57 : hm_code 34 57 = some (.ireturn) := by decide +kernel
theorem k_34_58 : hm_code 34 58 = some (.bipush 8) := by decide +kernel
theorem k_34_60 : hm_code 34 60 = some (.ireturn) := by decide +kernel
theorem k_34_61 : hm_code 34 61 = some (.iload_n 0) := by decide +kernel
theorem k_34_62 : hm_code 34 62 = some (.invokestatic 46) := by decide +kernel
theorem k_34_65 : hm_code 34 65 = some (.istore_n 1) := by decide +kernel
theorem k_34_66 : hm_code 34 66 = some (.iload_n 1) := by decide +kernel
theorem k_34_67 : hm_code 34 67 = some (.iconst (-1)) := by decide +kernel
theorem k_34_68 : hm_code 34 68 = some (.if_icmp .ne 7) := by decide +kernel
theorem k_34_71 : hm_code 34 71 = some (.iconst (-1)) := by decide +kernel
theorem k_34_72 : hm_code 34 72 = some (.goto 7) := by decide +kernel
theorem k_34_75 : hm_code 34 75 = some (.bipush 9) := by decide +kernel
theorem k_34_77 : hm_code 34 77 = some (.iload_n 1) := by decide +kernel
theorem k_34_78 : hm_code 34 78 = some (.iadd) := by decide +kernel
theorem k_34_79 : hm_code 34 79 = some (.ireturn) := by decide +kernel
theorem m_35 : hm_mtab[35]? = some (⟨"HourPromised$LawReader", "readItem", "(ILHourPromised$Law;)I"⟩, prog_5_method_7_code, 3, (some .int), 3, 3, 1) := rfl
theorem k_35_0 : hm_code 35 0 = some (.iload_n 1) := by decide +kernel
theorem k_35_1 : hm_code 35 1 = some (.iconst (-1)) := by decide +kernel
theorem k_35_2 : hm_code 35 2 = some (.if_icmp .ne 5) := by decide +kernel
theorem k_35_5 : hm_code 35 5 = some (.iconst 1) := by decide +kernel
theorem k_35_6 : hm_code 35 6 = some (.ireturn) := by decide +kernel
theorem k_35_7 : hm_code 35 7 = some (.aload_n 0) := by decide +kernel
theorem k_35_8 : hm_code 35 8 = some (.getfield 69) := by decide +kernel
theorem k_35_11 : hm_code 35 11 = some (.iload_n 1) := by decide +kernel
theorem k_35_12 : hm_code 35 12 = some (.invokestatic 65) := by decide +kernel
theorem k_35_15 : hm_code 35 15 = some (.ifCond .eq 5) := by decide +kernel
theorem k_35_18 : hm_code 35 18 = some (.iconst 4) := by decide +kernel
theorem k_35_19 : hm_code 35 19 = some (.ireturn) := by decide +kernel
theorem k_35_20 : hm_code 35 20 = some (.iload_n 1) := by decide +kernel
theorem k_35_21 : hm_code 35 21 = some (.bipush 9) := by decide +kernel
theorem k_35_23 : hm_code 35 23 = some (.aload_n 0) := by decide +kernel
theorem k_35_24 : hm_code 35 24 = some (.getfield 72) := by decide +kernel
theorem k_35_27 : hm_code 35 27 = some (.iadd) := by decide +kernel
theorem k_35_28 : hm_code 35 28 = some (.if_icmp .ne 5) := by decide +kernel
theorem k_35_31 : hm_code 35 31 = some (.iconst 5) := by decide +kernel
theorem k_35_32 : hm_code 35 32 = some (.ireturn) := by decide +kernel
theorem k_35_33 : hm_code 35 33 = some (.aload_n 0) := by decide +kernel
theorem k_35_34 : hm_code 35 34 = some (.dup) := by decide +kernel
theorem k_35_35 : hm_code 35 35 = some (.getfield 69) := by decide +kernel
theorem k_35_38 : hm_code 35 38 = some (.iconst 1) := by decide +kernel
theorem k_35_39 : hm_code 35 39 = some (.iload_n 1) := by decide +kernel
theorem k_35_40 : hm_code 35 40 = some (.ishl) := by decide +kernel
theorem k_35_41 : hm_code 35 41 = some (.ior) := by decide +kernel
theorem k_35_42 : hm_code 35 42 = some (.putfield 69) := by decide +kernel
theorem k_35_45 : hm_code 35 45 = some (.iload_n 1) := by decide +kernel
theorem k_35_46 : hm_code 35 46 = some (.bipush 6) := by decide +kernel
theorem k_35_48 : hm_code 35 48 = some (.if_icmp .eq 9) := by decide +kernel
theorem k_35_51 : hm_code 35 51 = some (.iload_n 1) := by decide +kernel
theorem k_35_52 : hm_code 35 52 = some (.bipush 7) := by decide +kernel
theorem k_35_54 : hm_code 35 54 = some (.if_icmp .ne 24) := by decide +kernel
theorem k_35_57 : hm_code 35 57 = some (.aload_n 0) := by decide +kernel
theorem k_35_58 : hm_code 35 58 = some (.iload_n 1) := by decide +kernel
theorem k_35_59 : hm_code 35 59 = some (.bipush 6) := by decide +kernel
theorem k_35_61 : hm_code 35 61 = some (.if_icmp .ne 7) := by decide +kernel
theorem k_35_64 : hm_code 35 64 = some (.iconst 1) := by decide +kernel
theorem k_35_65 : hm_code 35 65 = some (.goto 4) := by decide +kernel
theorem k_35_68 : hm_code 35 68 = some (.iconst 2) := by decide +kernel
theorem k_35_69 : hm_code 35 69 = some (.putfield 75) := by decide +kernel
theorem k_35_72 : hm_code 35 72 = some (.aload_n 0) := by decide +kernel
theorem k_35_73 : hm_code 35 73 = some (.iconst 3) := by decide +kernel
theorem k_35_74 : hm_code 35 74 = some (.invokevirtual 52) := by decide +kernel
theorem k_35_77 : hm_code 35 77 = some (.ireturn) := by decide +kernel
theorem k_35_78 : hm_code 35 78 = some (.iload_n 1) := by decide +kernel
theorem k_35_79 : hm_code 35 79 = some (.bipush 8) := by decide +kernel
theorem k_35_81 : hm_code 35 81 = some (.if_icmp .ne 16) := by decide +kernel
theorem k_35_84 : hm_code 35 84 = some (.aload_n 2) := by decide +kernel
theorem k_35_85 : hm_code 35 85 = some (.aload_n 0) := by decide +kernel
theorem k_35_86 : hm_code 35 86 = some (.getfield 72) := by decide +kernel
theorem k_35_89 : hm_code 35 89 = some (.iconst 3) := by decide +kernel
theorem k_35_90 : hm_code 35 90 = some (.iconst 1) := by decide +kernel
theorem k_35_91 : hm_code 35 91 = some (.invokevirtual 78) := by decide +kernel
theorem k_35_94 : hm_code 35 94 = some (.goto 35) := by decide +kernel
theorem k_35_97 : hm_code 35 97 = some (.iload_n 1) := by decide +kernel
theorem k_35_98 : hm_code 35 98 = some (.bipush 6) := by decide +kernel
theorem k_35_100 : hm_code 35 100 = some (.if_icmp .ge 16) := by decide +kernel
theorem k_35_103 : hm_code 35 103 = some (.aload_n 2) := by decide +kernel
theorem k_35_104 : hm_code 35 104 = some (.aload_n 0) := by decide +kernel
theorem k_35_105 : hm_code 35 105 = some (.getfield 72) := by decide +kernel
theorem k_35_108 : hm_code 35 108 = some (.iconst 0) := by decide +kernel
theorem k_35_109 : hm_code 35 109 = some (.iload_n 1) := by decide +kernel
theorem k_35_110 : hm_code 35 110 = some (.invokevirtual 82) := by decide +kernel
theorem k_35_113 : hm_code 35 113 = some (.goto 16) := by decide +kernel
theorem k_35_116 : hm_code 35 116 = some (.aload_n 2) := by decide +kernel
theorem k_35_117 : hm_code 35 117 = some (.aload_n 0) := by decide +kernel
theorem k_35_118 : hm_code 35 118 = some (.getfield 72) := by decide +kernel
theorem k_35_121 : hm_code 35 121 = some (.iconst 4) := by decide +kernel
theorem k_35_122 : hm_code 35 122 = some (.iload_n 1) := by decide +kernel
theorem k_35_123 : hm_code 35 123 = some (.bipush 9) := by decide +kernel
theorem k_35_125 : hm_code 35 125 = some (.isub) := by decide +kernel
theorem k_35_126 : hm_code 35 126 = some (.invokevirtual 82) := by decide +kernel
theorem k_35_129 : hm_code 35 129 = some (.aload_n 0) := by decide +kernel
theorem k_35_130 : hm_code 35 130 = some (.iconst 2) := by decide +kernel
theorem k_35_131 : hm_code 35 131 = some (.invokevirtual 52) := by decide +kernel
theorem k_35_134 : hm_code 35 134 = some (.ireturn) := by decide +kernel
theorem m_36 : hm_mtab[36]? = some (⟨"HourPromised$Law", "put", "(III)V"⟩, prog_4_method_4_code, 4, none, 2, 4, 1) := rfl
theorem k_36_0 : hm_code 36 0 = some (.aload_n 0) := by decide +kernel
theorem k_36_1 : hm_code 36 1 = some (.getfield 11) := by decide +kernel
theorem k_36_4 : hm_code 36 4 = some (.iload_n 1) := by decide +kernel
theorem k_36_5 : hm_code 36 5 = some (.aaload) := by decide +kernel
theorem k_36_6 : hm_code 36 6 = some (.iload_n 2) := by decide +kernel
theorem k_36_7 : hm_code 36 7 = some (.iload_n 3) := by decide +kernel
theorem k_36_8 : hm_code 36 8 = some (.iastore) := by decide +kernel
theorem k_36_9 : hm_code 36 9 = some (.return_) := by decide +kernel
theorem m_37 : hm_mtab[37]? = some (⟨"HourPromised$Law", "addTo", "(III)V"⟩, prog_4_method_5_code, 4, none, 2, 4, 1) := rfl
theorem k_37_0 : hm_code 37 0 = some (.aload_n 0) := by decide +kernel
theorem k_37_1 : hm_code 37 1 = some (.getfield 11) := by decide +kernel
theorem k_37_4 : hm_code 37 4 = some (.iload_n 1) := by decide +kernel
theorem k_37_5 : hm_code 37 5 = some (.aaload) := by decide +kernel
theorem k_37_6 : hm_code 37 6 = some (.iload_n 2) := by decide +kernel
theorem k_37_7 : hm_code 37 7 = some (.dup2) := by decide +kernel
theorem k_37_8 : hm_code 37 8 = some (.iaload) := by decide +kernel
theorem k_37_9 : hm_code 37 9 = some (.iconst 1) := by decide +kernel
theorem k_37_10 : hm_code 37 10 = some (.iload_n 3) := by decide +kernel
theorem k_37_11 : hm_code 37 11 = some (.ishl) := by decide +kernel
theorem k_37_12 : hm_code 37 12 = some (.ior) := by decide +kernel
theorem k_37_13 : hm_code 37 13 = some (.iastore) := by decide +kernel
theorem k_37_14 : hm_code 37 14 = some (.return_) := by decide +kernel
theorem m_38 : hm_mtab[38]? = some (⟨"HourPromised$LawReader", "readNumber", "(LHourPromised$Text;LHourPromised$Law;)I"⟩, prog_5_method_8_code, 5, (some .int), 3, 3, 1) := rfl
theorem k_38_0 : hm_code 38 0 = some (.iconst 0) := by decide +kernel
theorem k_38_1 : hm_code 38 1 = some (.istore_n 3) := by decide +kernel
theorem k_38_2 : hm_code 38 2 = some (.iconst 0) := by decide +kernel
theorem k_38_3 : hm_code 38 3 = some (.istore 4) := by decide +kernel
theorem k_38_5 : hm_code 38 5 = some (.iload 4) := by decide +kernel
theorem k_38_7 : hm_code 38 7 = some (.iconst 3) := by decide +kernel
theorem k_38_8 : hm_code 38 8 = some (.if_icmp .gt 46) := by decide +kernel
theorem k_38_11 : hm_code 38 11 = some (.aload_n 1) := by decide +kernel
theorem k_38_12 : hm_code 38 12 = some (.aload_n 0) := by decide +kernel
theorem k_38_13 : hm_code 38 13 = some (.getfield 26) := by decide +kernel
theorem k_38_16 : hm_code 38 16 = some (.iload 4) := by decide +kernel
theorem k_38_18 : hm_code 38 18 = some (.iadd) := by decide +kernel
theorem k_38_19 : hm_code 38 19 = some (.invokevirtual 34) := by decide +kernel
theorem k_38_22 : hm_code 38 22 = some (.invokestatic 85) := by decide +kernel
theorem k_38_25 : hm_code 38 25 = some (.ifCond .eq 29) := by decide +kernel
theorem k_38_28 : hm_code 38 28 = some (.iload_n 3) := by decide +kernel
theorem k_38_29 : hm_code 38 29 = some (.bipush 10) := by decide +kernel
theorem k_38_31 : hm_code 38 31 = some (.imul) := by decide +kernel
theorem k_38_32 : hm_code 38 32 = some (.aload_n 1) := by decide +kernel
theorem k_38_33 : hm_code 38 33 = some (.aload_n 0) := by decide +kernel
theorem k_38_34 : hm_code 38 34 = some (.getfield 26) := by decide +kernel
theorem k_38_37 : hm_code 38 37 = some (.iload 4) := by decide +kernel
theorem k_38_39 : hm_code 38 39 = some (.iadd) := by decide +kernel
theorem k_38_40 : hm_code 38 40 = some (.invokevirtual 34) := by decide +kernel
theorem k_38_43 : hm_code 38 43 = some (.iadd) := by decide +kernel
theorem k_38_44 : hm_code 38 44 = some (.bipush 48) := by decide +kernel
theorem k_38_46 : hm_code 38 46 = some (.isub) := by decide +kernel
theorem k_38_47 : hm_code 38 47 = some (.istore_n 3) := by decide +kernel
theorem k_38_48 : hm_code 38 48 = some (.iinc 4 1) := by decide +kernel
theorem k_38_51 : hm_code 38 51 = some (.goto (-46)) := by decide +kernel
theorem k_38_54 : hm_code 38 54 = some (.iload 4) := by decide +kernel
theorem k_38_56 : hm_code 38 56 = some (.ifCond .ne 5) := by decide +kernel
theorem k_38_59 : hm_code 38 59 = some (.iconst 1) := by decide +kernel
theorem k_38_60 : hm_code 38 60 = some (.ireturn) := by decide +kernel
theorem k_38_61 : hm_code 38 61 = some (.iload 4) := by decide +kernel
theorem k_38_63 : hm_code 38 63 = some (.iconst 3) := by decide +kernel
theorem k_38_64 : hm_code 38 64 = some (.if_icmp .le 5) := by decide +kernel
theorem k_38_67 : hm_code 38 67 = some (.iconst 2) := by decide +kernel
theorem k_38_68 : hm_code 38 68 = some (.ireturn) := by decide +kernel
theorem k_38_69 : hm_code 38 69 = some (.aload_n 2) := by decide +kernel
theorem k_38_70 : hm_code 38 70 = some (.aload_n 0) := by decide +kernel
theorem k_38_71 : hm_code 38 71 = some (.getfield 72) := by decide +kernel
theorem k_38_74 : hm_code 38 74 = some (.aload_n 0) := by decide +kernel
theorem k_38_75 : hm_code 38 75 = some (.getfield 75) := by decide +kernel
theorem k_38_78 : hm_code 38 78 = some (.iload_n 3) := by decide +kernel
theorem k_38_79 : hm_code 38 79 = some (.invokevirtual 78) := by decide +kernel
theorem k_38_82 : hm_code 38 82 = some (.aload_n 0) := by decide +kernel
theorem k_38_83 : hm_code 38 83 = some (.dup) := by decide +kernel
theorem k_38_84 : hm_code 38 84 = some (.getfield 26) := by decide +kernel
theorem k_38_87 : hm_code 38 87 = some (.iload 4) := by decide +kernel
theorem k_38_89 : hm_code 38 89 = some (.iadd) := by decide +kernel
theorem k_38_90 : hm_code 38 90 = some (.putfield 26) := by decide +kernel
theorem k_38_93 : hm_code 38 93 = some (.aload_n 0) := by decide +kernel
theorem k_38_94 : hm_code 38 94 = some (.iconst 2) := by decide +kernel
theorem k_38_95 : hm_code 38 95 = some (.putfield 20) := by decide +kernel
theorem k_38_98 : hm_code 38 98 = some (.iconst 0) := by decide +kernel
theorem k_38_99 : hm_code 38 99 = some (.ireturn) := by decide +kernel
theorem m_39 : hm_mtab[39]? = some (⟨"HourPromised$LawReader", "isFigure", "(I)Z"⟩, prog_5_method_9_code, 1, (some .boolean), 3, 1, 0) := rfl
theorem k_39_0 : hm_code 39 0 = some (.iload_n 0) := by decide +kernel
theorem k_39_1 : hm_code 39 1 = some (.bipush 48) := by decide +kernel
theorem k_39_3 : hm_code 39 3 = some (.if_icmp .lt 13) := by decide +kernel
theorem k_39_6 : hm_code 39 6 = some (.iload_n 0) := by decide +kernel
theorem k_39_7 : hm_code 39 7 = some (.bipush 57) := by decide +kernel
theorem k_39_9 : hm_code 39 9 = some (.if_icmp .gt 7) := by decide +kernel
theorem k_39_12 : hm_code 39 12 = some (.iconst 1) := by decide +kernel
theorem k_39_13 : hm_code 39 13 = some (.goto 4) := by decide +kernel
theorem k_39_16 : hm_code 39 16 = some (.iconst 0) := by decide +kernel
theorem k_39_17 : hm_code 39 17 = some (.ireturn) := by decide +kernel
theorem m_40 : hm_mtab[40]? = some (⟨"HourPromised$Text", "empty", "()V"⟩, prog_8_method_4_code, 1, none, 6, 1, 1) := rfl
theorem k_40_0 : hm_code 40 0 = some (.aload_n 0) := by decide +kernel
theorem k_40_1 : hm_code 40 1 = some (.iconst 0) := by decide +kernel
theorem k_40_2 : hm_code 40 2 = some (.putfield 15) := by decide +kernel
theorem k_40_5 : hm_code 40 5 = some (.return_) := by decide +kernel
theorem m_41 : hm_mtab[41]? = some (⟨"java/util/ArrayList", "size", "()I"⟩, prog_19_method_8_code, 1, (some .int), 9, 1, 1) := rfl
theorem k_41_0 : hm_code 41 0 = some (.aload_n 0) := by decide +kernel
theorem k_41_1 : hm_code 41 1 = some (.getfield 48) := by decide +kernel
theorem k_41_4 : hm_code 41 4 = some (.ireturn) := by decide +kernel
theorem m_42 : hm_mtab[42]? = some (⟨"java/util/ArrayList", "get", "(I)Ljava/lang/Object;"⟩, prog_19_method_20_code, 2, (some (.object "java/lang/Object")), 9, 2, 1) := rfl
theorem k_42_0 : hm_code 42 0 = some (.iload_n 1) := by decide +kernel
theorem k_42_1 : hm_code 42 1 = some (.aload_n 0) := by decide +kernel
theorem k_42_2 : hm_code 42 2 = some (.getfield 48) := by decide +kernel
theorem k_42_5 : hm_code 42 5 = some (.invokestatic 118) := by decide +kernel
theorem k_42_8 : hm_code 42 8 = some (.pop) := by decide +kernel
theorem k_42_9 : hm_code 42 9 = some (.aload_n 0) := by decide +kernel
theorem k_42_10 : hm_code 42 10 = some (.iload_n 1) := by decide +kernel
theorem k_42_11 : hm_code 42 11 = some (.invokevirtual 123) := by decide +kernel
theorem k_42_14 : hm_code 42 14 = some (.areturn) := by decide +kernel
theorem m_43 : hm_mtab[43]? = some (⟨"java/util/Objects", "checkIndex", "(II)I"⟩, prog_23_method_17_code, 2, (some .int), 15, 2, 0) := rfl
theorem k_43_0 : hm_code 43 0 = some (.iload_n 0) := by decide +kernel
theorem k_43_1 : hm_code 43 1 = some (.iload_n 1) := by decide +kernel
theorem k_43_2 : hm_code 43 2 = some (.aconst_null) := by decide +kernel
theorem k_43_3 : hm_code 43 3 = some (.invokestatic 105) := by decide +kernel
theorem k_43_6 : hm_code 43 6 = some (.ireturn) := by decide +kernel
theorem m_44 : hm_mtab[44]? = some (⟨"jdk/internal/util/Preconditions", "checkIndex", "(IILjava/util/function/BiFunction;)I"⟩, prog_27_method_11_code, 3, (some .int), 16, 3, 0) := rfl
theorem k_44_0 : hm_code 44 0 = some (.iload_n 0) := by decide +kernel
theorem k_44_1 : hm_code 44 1 = some (.ifCond .lt 8) := by decide +kernel
theorem k_44_4 : hm_code 44 4 = some (.iload_n 0) := by decide +kernel
theorem k_44_5 : hm_code 44 5 = some (.iload_n 1) := by decide +kernel
theorem k_44_6 : hm_code 44 6 = some (.if_icmp .lt 10) := by decide +kernel
theorem k_44_9 : hm_code 44 9 = some (.aload_n 2) := by decide +kernel
theorem k_44_10 : hm_code 44 10 = some (.iload_n 0) := by decide +kernel
theorem k_44_11 : hm_code 44 11 = some (.iload_n 1) := by decide +kernel
theorem k_44_12 : hm_code 44 12 = some (.invokestatic 95) := by decide +kernel
theorem k_44_16 : hm_code 44 16 = some (.iload_n 0) := by decide +kernel
theorem k_44_17 : hm_code 44 17 = some (.ireturn) := by decide +kernel
theorem m_45 : hm_mtab[45]? = some (⟨"java/util/ArrayList", "elementData", "(I)Ljava/lang/Object;"⟩, prog_19_method_18_code, 2, (some (.object "java/lang/Object")), 9, 2, 1) := rfl
theorem k_45_0 : hm_code 45 0 = some (.aload_n 0) := by decide +kernel
theorem k_45_1 : hm_code 45 1 = some (.getfield 9) := by decide +kernel
theorem k_45_4 : hm_code 45 4 = some (.iload_n 1) := by decide +kernel
theorem k_45_5 : hm_code 45 5 = some (.aaload) := by decide +kernel
theorem k_45_6 : hm_code 45 6 = some (.areturn) := by decide +kernel
theorem m_46 : hm_mtab[46]? = some (⟨"HourPromised", "undoBroken", "(LHourPromised$CaseFile;)I"⟩, prog_1_method_29_code, 6, (some .int), 7, 2, 1) := rfl
theorem k_46_0 : hm_code 46 0 = some (.aload_n 0) := by decide +kernel
theorem k_46_1 : hm_code 46 1 = some (.getfield 46) := by decide +kernel
theorem k_46_4 : hm_code 46 4 = some (.aload_n 1) := by decide +kernel
theorem k_46_5 : hm_code 46 5 = some (.getfield 134) := by decide +kernel
theorem k_46_8 : hm_code 46 8 = some (.aaload) := by decide +kernel
theorem k_46_9 : hm_code 46 9 = some (.astore_n 2) := by decide +kernel
theorem k_46_10 : hm_code 46 10 = some (.iconst 0) := by decide +kernel
theorem k_46_11 : hm_code 46 11 = some (.istore_n 3) := by decide +kernel
theorem k_46_12 : hm_code 46 12 = some (.iconst 0) := by decide +kernel
theorem k_46_13 : hm_code 46 13 = some (.istore 4) := by decide +kernel
theorem k_46_15 : hm_code 46 15 = some (.iload 4) := by decide +kernel
theorem k_46_17 : hm_code 46 17 = some (.iconst 4) := by decide +kernel
theorem k_46_18 : hm_code 46 18 = some (.if_icmp .ge 35) := by decide +kernel
theorem k_46_21 : hm_code 46 21 = some (.aload_n 1) := by decide +kernel
theorem k_46_22 : hm_code 46 22 = some (.aload_n 2) := by decide +kernel
theorem k_46_23 : hm_code 46 23 = some (.invokevirtual 256) := by decide +kernel
theorem k_46_26 : hm_code 46 26 = some (.istore 5) := by decide +kernel
theorem k_46_28 : hm_code 46 28 = some (.iload 5) := by decide +kernel
theorem k_46_30 : hm_code 46 30 = some (.iconst (-1)) := by decide +kernel
theorem k_46_31 : hm_code 46 31 = some (.if_icmp .ne 6) := by decide +kernel
theorem k_46_34 : hm_code 46 34 = some (.goto 19) := by decide +kernel
theorem k_46_37 : hm_code 46 37 = some (.aload_n 0) := by decide +kernel
theorem k_46_38 : hm_code 46 38 = some (.aload_n 1) := by decide +kernel
theorem k_46_39 : hm_code 46 39 = some (.iload 5) := by decide +kernel
theorem k_46_41 : hm_code 46 41 = some (.invokevirtual 179) := by decide +kernel
theorem k_46_44 : hm_code 46 44 = some (.iinc 3 1) := by decide +kernel
theorem k_46_47 : hm_code 46 47 = some (.iinc 4 1) := by decide +kernel
theorem k_46_50 : hm_code 46 50 = some (.goto (-35)) := by decide +kernel
theorem k_46_53 : hm_code 46 53 = some (.iload_n 3) := by decide +kernel
theorem k_46_54 : hm_code 46 54 = some (.ireturn) := by decide +kernel
theorem m_47 : hm_mtab[47]? = some (⟨"HourPromised$CaseFile", "firstBroken", "(LHourPromised$Law;)I"⟩, prog_3_method_5_code, 3, (some .int), 1, 2, 1) := rfl
theorem k_47_0 : hm_code 47 0 = some (.iconst 0) := by decide +kernel
theorem k_47_1 : hm_code 47 1 = some (.istore_n 2) := by decide +kernel
theorem k_47_2 : hm_code 47 2 = some (.iload_n 2) := by decide +kernel
theorem k_47_3 : hm_code 47 3 = some (.iconst 4) := by decide +kernel
theorem k_47_4 : hm_code 47 4 = some (.if_icmp .ge 34) := by decide +kernel
theorem k_47_7 : hm_code 47 7 = some (.aload_n 0) := by decide +kernel
theorem k_47_8 : hm_code 47 8 = some (.iload_n 2) := by decide +kernel
theorem k_47_9 : hm_code 47 9 = some (.invokevirtual 44) := by decide +kernel
theorem k_47_12 : hm_code 47 12 = some (.ifCond .eq 20) := by decide +kernel
theorem k_47_15 : hm_code 47 15 = some (.aload_n 0) := by decide +kernel
theorem k_47_16 : hm_code 47 16 = some (.aload_n 1) := by decide +kernel
theorem k_47_17 : hm_code 47 17 = some (.iload_n 2) := by decide +kernel
theorem k_47_18 : hm_code 47 18 = some (.aload_n 0) := by decide +kernel
theorem k_47_19 : hm_code 47 19 = some (.getfield 15) := by decide +kernel
theorem k_47_22 : hm_code 47 22 = some (.iload_n 2) := by decide +kernel
theorem k_47_23 : hm_code 47 23 = some (.iaload) := by decide +kernel
theorem k_47_24 : hm_code 47 24 = some (.invokevirtual 54) := by decide +kernel
theorem k_47_27 : hm_code 47 27 = some (.ifCond .eq 5) := by decide +kernel
theorem k_47_30 : hm_code 47 30 = some (.iload_n 2) := by decide +kernel
theorem k_47_31 : hm_code 47 31 = some (.ireturn) := by decide +kernel
theorem k_47_32 : hm_code 47 32 = some (.iinc 2 1) := by decide +kernel
theorem k_47_35 : hm_code 47 35 = some (.goto (-33)) := by decide +kernel
theorem k_47_38 : hm_code 47 38 = some (.iconst (-1)) := by decide +kernel
theorem k_47_39 : hm_code 47 39 = some (.ireturn) := by decide +kernel
theorem m_48 : hm_mtab[48]? = some (⟨"HourPromised$CaseFile", "hasPromised", "(I)Z"⟩, prog_3_method_2_code, 2, (some .boolean), 1, 2, 1) := rfl
theorem k_48_0 : hm_code 48 0 = some (.aload_n 0) := by decide +kernel
theorem k_48_1 : hm_code 48 1 = some (.getfield 15) := by decide +kernel
theorem k_48_4 : hm_code 48 4 = some (.iload_n 1) := by decide +kernel
theorem k_48_5 : hm_code 48 5 = some (.iaload) := by decide +kernel
theorem k_48_6 : hm_code 48 6 = some (.iconst (-1)) := by decide +kernel
theorem k_48_7 : hm_code 48 7 = some (.if_icmp .eq 7) := by decide +kernel
theorem k_48_10 : hm_code 48 10 = some (.iconst 1) := by decide +kernel
theorem k_48_11 : hm_code 48 11 = some (.goto 4) := by decide +kernel
theorem k_48_14 : hm_code 48 14 = some (.iconst 0) := by decide +kernel
theorem k_48_15 : hm_code 48 15 = some (.ireturn) := by decide +kernel
theorem m_49 : hm_mtab[49]? = some (⟨"HourPromised$CaseFile", "hinderedByLaw", "(LHourPromised$Law;II)I"⟩, prog_3_method_6_code, 4, (some .int), 1, 4, 1) := rfl
theorem k_49_0 : hm_code 49 0 = some (.iload_n 3) := by decide +kernel
theorem k_49_1 : hm_code 49 1 = some (.aload_n 0) := by decide +kernel
theorem k_49_2 : hm_code 49 2 = some (.getfield 29) := by decide +kernel
theorem k_49_5 : hm_code 49 5 = some (.if_icmp .gt 5) := by decide +kernel
theorem k_49_8 : hm_code 49 8 = some (.iconst 2) := by decide +kernel
theorem k_49_9 : hm_code 49 9 = some (.ireturn) := by decide +kernel
theorem k_49_10 : hm_code 49 10 = some (.aload_n 1) := by decide +kernel
theorem k_49_11 : hm_code 49 11 = some (.iload_n 2) := by decide +kernel
theorem k_49_12 : hm_code 49 12 = some (.iconst 3) := by decide +kernel
theorem k_49_13 : hm_code 49 13 = some (.invokevirtual 58) := by decide +kernel
theorem k_49_16 : hm_code 49 16 = some (.iconst 1) := by decide +kernel
theorem k_49_17 : hm_code 49 17 = some (.if_icmp .ne 5) := by decide +kernel
theorem k_49_20 : hm_code 49 20 = some (.iconst 3) := by decide +kernel
theorem k_49_21 : hm_code 49 21 = some (.ireturn) := by decide +kernel
theorem k_49_22 : hm_code 49 22 = some (.aload_n 0) := by decide +kernel
theorem k_49_23 : hm_code 49 23 = some (.aload_n 1) := by decide +kernel
theorem k_49_24 : hm_code 49 24 = some (.iload_n 2) := by decide +kernel
theorem k_49_25 : hm_code 49 25 = some (.iconst 0) := by decide +kernel
theorem k_49_26 : hm_code 49 26 = some (.invokevirtual 58) := by decide +kernel
theorem k_49_29 : hm_code 49 29 = some (.iload_n 3) := by decide +kernel
theorem k_49_30 : hm_code 49 30 = some (.invokevirtual 63) := by decide +kernel
theorem k_49_33 : hm_code 49 33 = some (.ifCond .ne 5) := by decide +kernel
theorem k_49_36 : hm_code 49 36 = some (.iconst 4) := by decide +kernel
theorem k_49_37 : hm_code 49 37 = some (.ireturn) := by decide +kernel
theorem k_49_38 : hm_code 49 38 = some (.aload_n 1) := by decide +kernel
theorem k_49_39 : hm_code 49 39 = some (.iload_n 2) := by decide +kernel
theorem k_49_40 : hm_code 49 40 = some (.iload_n 3) := by decide +kernel
theorem k_49_41 : hm_code 49 41 = some (.aload_n 0) := by decide +kernel
theorem k_49_42 : hm_code 49 42 = some (.getfield 29) := by decide +kernel
theorem k_49_45 : hm_code 49 45 = some (.isub) := by decide +kernel
theorem k_49_46 : hm_code 49 46 = some (.invokevirtual 67) := by decide +kernel
theorem k_49_49 : hm_code 49 49 = some (.ifCond .ne 5) := by decide +kernel
theorem k_49_52 : hm_code 49 52 = some (.iconst 5) := by decide +kernel
theorem k_49_53 : hm_code 49 53 = some (.ireturn) := by decide +kernel
theorem k_49_54 : hm_code 49 54 = some (.aload_n 0) := by decide +kernel
theorem k_49_55 : hm_code 49 55 = some (.aload_n 1) := by decide +kernel
theorem k_49_56 : hm_code 49 56 = some (.iload_n 2) := by decide +kernel
theorem k_49_57 : hm_code 49 57 = some (.iconst 4) := by decide +kernel
theorem k_49_58 : hm_code 49 58 = some (.invokevirtual 58) := by decide +kernel
theorem k_49_61 : hm_code 49 61 = some (.iload_n 3) := by decide +kernel
theorem k_49_62 : hm_code 49 62 = some (.invokevirtual 70) := by decide +kernel
theorem k_49_65 : hm_code 49 65 = some (.ifCond .eq 7) := by decide +kernel
theorem k_49_68 : hm_code 49 68 = some (.iconst 0) := by decide +kernel
theorem k_49_69 : hm_code 49 69 = some (.goto 5) := by decide +kernel
theorem k_49_72 : hm_code 49 72 = some (.bipush 6) := by decide +kernel
theorem k_49_74 : hm_code 49 74 = some (.ireturn) := by decide +kernel
theorem m_50 : hm_mtab[50]? = some (⟨"HourPromised$Law", "of", "(II)I"⟩, prog_4_method_3_code, 3, (some .int), 2, 3, 1) := rfl
theorem k_50_0 : hm_code 50 0 = some (.aload_n 0) := by decide +kernel
theorem k_50_1 : hm_code 50 1 = some (.getfield 11) := by decide +kernel
theorem k_50_4 : hm_code 50 4 = some (.iload_n 1) := by decide +kernel
theorem k_50_5 : hm_code 50 5 = some (.aaload) := by decide +kernel
theorem k_50_6 : hm_code 50 6 = some (.iload_n 2) := by decide +kernel
theorem k_50_7 : hm_code 50 7 = some (.iaload) := by decide +kernel
theorem k_50_8 : hm_code 50 8 = some (.ireturn) := by decide +kernel
theorem m_51 : hm_mtab[51]? = some (⟨"HourPromised$CaseFile", "hasPapers", "(II)Z"⟩, prog_3_method_8_code, 4, (some .boolean), 1, 3, 1) := rfl
theorem k_51_0 : hm_code 51 0 = some (.iconst 0) := by decide +kernel
theorem k_51_1 : hm_code 51 1 = some (.istore_n 3) := by decide +kernel
theorem k_51_2 : hm_code 51 2 = some (.iload_n 3) := by decide +kernel
theorem k_51_3 : hm_code 51 3 = some (.bipush 6) := by decide +kernel
theorem k_51_5 : hm_code 51 5 = some (.if_icmp .ge 39) := by decide +kernel
theorem k_51_8 : hm_code 51 8 = some (.iload_n 1) := by decide +kernel
theorem k_51_9 : hm_code 51 9 = some (.iload_n 3) := by decide +kernel
theorem k_51_10 : hm_code 51 10 = some (.invokestatic 80) := by decide +kernel
theorem k_51_13 : hm_code 51 13 = some (.ifCond .eq 25) := by decide +kernel
theorem k_51_16 : hm_code 51 16 = some (.aload_n 0) := by decide +kernel
theorem k_51_17 : hm_code 51 17 = some (.getfield 9) := by decide +kernel
theorem k_51_20 : hm_code 51 20 = some (.iload_n 3) := by decide +kernel
theorem k_51_21 : hm_code 51 21 = some (.iaload) := by decide +kernel
theorem k_51_22 : hm_code 51 22 = some (.iconst (-1)) := by decide +kernel
theorem k_51_23 : hm_code 51 23 = some (.if_icmp .eq 13) := by decide +kernel
theorem k_51_26 : hm_code 51 26 = some (.aload_n 0) := by decide +kernel
theorem k_51_27 : hm_code 51 27 = some (.getfield 9) := by decide +kernel
theorem k_51_30 : hm_code 51 30 = some (.iload_n 3) := by decide +kernel
theorem k_51_31 : hm_code 51 31 = some (.iaload) := by decide +kernel
theorem k_51_32 : hm_code 51 32 = some (.iload_n 2) := by decide +kernel
theorem k_51_33 : hm_code 51 33 = some (.if_icmp .le 5) := by decide +kernel
theorem k_51_36 : hm_code 51 36 = some (.iconst 0) := by decide +kernel
theorem k_51_37 : hm_code 51 37 = some (.ireturn) := by decide +kernel
theorem k_51_38 : hm_code 51 38 = some (.iinc 3 1) := by decide +kernel
theorem k_51_41 : hm_code 51 41 = some (.goto (-39)) := by decide +kernel
theorem k_51_44 : hm_code 51 44 = some (.iconst 1) := by decide +kernel
theorem k_51_45 : hm_code 51 45 = some (.ireturn) := by decide +kernel
theorem m_52 : hm_mtab[52]? = some (⟨"HourPromised$Law", "isWithinBounds", "(II)Z"⟩, prog_4_method_6_code, 5, (some .boolean), 2, 3, 1) := rfl
theorem k_52_0 : hm_code 52 0 = some (.aload_n 0) := by decide +kernel
theorem k_52_1 : hm_code 52 1 = some (.getfield 11) := by decide +kernel
theorem k_52_4 : hm_code 52 4 = some (.iload_n 1) := by decide +kernel
theorem k_52_5 : hm_code 52 5 = some (.aaload) := by decide +kernel
theorem k_52_6 : hm_code 52 6 = some (.iconst 1) := by decide +kernel
theorem k_52_7 : hm_code 52 7 = some (.iaload) := by decide +kernel
theorem k_52_8 : hm_code 52 8 = some (.istore_n 3) := by decide +kernel
theorem k_52_9 : hm_code 52 9 = some (.aload_n 0) := by decide +kernel
theorem k_52_10 : hm_code 52 10 = some (.getfield 11) := by decide +kernel
theorem k_52_13 : hm_code 52 13 = some (.iload_n 1) := by decide +kernel
theorem k_52_14 : hm_code 52 14 = some (.aaload) := by decide +kernel
theorem k_52_15 : hm_code 52 15 = some (.iconst 2) := by decide +kernel
theorem k_52_16 : hm_code 52 16 = some (.iaload) := by decide +kernel
theorem k_52_17 : hm_code 52 17 = some (.istore 4) := by decide +kernel
theorem k_52_19 : hm_code 52 19 = some (.iload_n 3) := by decide +kernel
theorem k_52_20 : hm_code 52 20 = some (.iconst (-1)) := by decide +kernel
theorem k_52_21 : hm_code 52 21 = some (.if_icmp .eq 8) := by decide +kernel
theorem k_52_24 : hm_code 52 24 = some (.iload_n 2) := by decide +kernel
theorem k_52_25 : hm_code 52 25 = some (.iload_n 3) := by decide +kernel
theorem k_52_26 : hm_code 52 26 = some (.if_icmp .gt 19) := by decide +kernel
theorem k_52_29 : hm_code 52 29 = some (.iload 4) := by decide +kernel
theorem k_52_31 : hm_code 52 31 = some (.iconst (-1)) := by decide +kernel
theorem k_52_32 : hm_code 52 32 = some (.if_icmp .eq 9) := by decide +kernel
theorem k_52_35 : hm_code 52 35 = some (.iload_n 2) := by decide +kernel
theorem k_52_36 : hm_code 52 36 = some (.iload 4) := by decide +kernel
theorem k_52_38 : hm_code 52 38 = some (.if_icmp .lt 7) := by decide +kernel
theorem k_52_41 : hm_code 52 41 = some (.iconst 1) := by decide +kernel
theorem k_52_42 : hm_code 52 42 = some (.goto 4) := by decide +kernel
theorem k_52_45 : hm_code 52 45 = some (.iconst 0) := by decide +kernel
theorem k_52_46 : hm_code 52 46 = some (.ireturn) := by decide +kernel
theorem m_53 : hm_mtab[53]? = some (⟨"HourPromised$CaseFile", "hasStepsAhead", "(II)Z"⟩, prog_3_method_9_code, 4, (some .boolean), 1, 3, 1) := rfl
theorem k_53_0 : hm_code 53 0 = some (.iconst 0) := by decide +kernel
theorem k_53_1 : hm_code 53 1 = some (.istore_n 3) := by decide +kernel
theorem k_53_2 : hm_code 53 2 = some (.iload_n 3) := by decide +kernel
theorem k_53_3 : hm_code 53 3 = some (.iconst 4) := by decide +kernel
theorem k_53_4 : hm_code 53 4 = some (.if_icmp .ge 37) := by decide +kernel
theorem k_53_7 : hm_code 53 7 = some (.iload_n 1) := by decide +kernel
theorem k_53_8 : hm_code 53 8 = some (.iload_n 3) := by decide +kernel
theorem k_53_9 : hm_code 53 9 = some (.invokestatic 80) := by decide +kernel
theorem k_53_12 : hm_code 53 12 = some (.ifCond .eq 23) := by decide +kernel
theorem k_53_15 : hm_code 53 15 = some (.aload_n 0) := by decide +kernel
theorem k_53_16 : hm_code 53 16 = some (.iload_n 3) := by decide +kernel
theorem k_53_17 : hm_code 53 17 = some (.invokevirtual 44) := by decide +kernel
theorem k_53_20 : hm_code 53 20 = some (.ifCond .eq 13) := by decide +kernel
theorem k_53_23 : hm_code 53 23 = some (.aload_n 0) := by decide +kernel
theorem k_53_24 : hm_code 53 24 = some (.getfield 15) := by decide +kernel
theorem k_53_27 : hm_code 53 27 = some (.iload_n 3) := by decide +kernel
theorem k_53_28 : hm_code 53 28 = some (.iaload) := by decide +kernel
theorem k_53_29 : hm_code 53 29 = some (.iload_n 2) := by decide +kernel
theorem k_53_30 : hm_code 53 30 = some (.if_icmp .lt 5) := by decide +kernel
theorem k_53_33 : hm_code 53 33 = some (.iconst 0) := by decide +kernel
theorem k_53_34 : hm_code 53 34 = some (.ireturn) := by decide +kernel
theorem k_53_35 : hm_code 53 35 = some (.iinc 3 1) := by decide +kernel
theorem k_53_38 : hm_code 53 38 = some (.goto (-36)) := by decide +kernel
theorem k_53_41 : hm_code 53 41 = some (.iconst 1) := by decide +kernel
theorem k_53_42 : hm_code 53 42 = some (.ireturn) := by decide +kernel
theorem m_54 : hm_mtab[54]? = some (⟨"HourPromised", "takeBack", "(LHourPromised$CaseFile;I)V"⟩, prog_1_method_28_code, 3, none, 7, 3, 1) := rfl
theorem k_54_0 : hm_code 54 0 = some (.aload_n 0) := by decide +kernel
theorem k_54_1 : hm_code 54 1 = some (.getfield 26) := by decide +kernel
theorem k_54_4 : hm_code 54 4 = some (.aload_n 1) := by decide +kernel
theorem k_54_5 : hm_code 54 5 = some (.iconst (-1)) := by decide +kernel
theorem k_54_6 : hm_code 54 6 = some (.invokevirtual 250) := by decide +kernel
theorem k_54_9 : hm_code 54 9 = some (.aload_n 0) := by decide +kernel
theorem k_54_10 : hm_code 54 10 = some (.getfield 26) := by decide +kernel
theorem k_54_13 : hm_code 54 13 = some (.aload_n 1) := by decide +kernel
theorem k_54_14 : hm_code 54 14 = some (.iload_n 2) := by decide +kernel
theorem k_54_15 : hm_code 54 15 = some (.iconst (-1)) := by decide +kernel
theorem k_54_16 : hm_code 54 16 = some (.invokevirtual 253) := by decide +kernel
theorem k_54_19 : hm_code 54 19 = some (.aload_n 1) := by decide +kernel
theorem k_54_20 : hm_code 54 20 = some (.getfield 183) := by decide +kernel
theorem k_54_23 : hm_code 54 23 = some (.iload_n 2) := by decide +kernel
theorem k_54_24 : hm_code 54 24 = some (.iconst (-1)) := by decide +kernel
theorem k_54_25 : hm_code 54 25 = some (.iastore) := by decide +kernel
theorem k_54_26 : hm_code 54 26 = some (.aload_n 0) := by decide +kernel
theorem k_54_27 : hm_code 54 27 = some (.getfield 26) := by decide +kernel
theorem k_54_30 : hm_code 54 30 = some (.aload_n 1) := by decide +kernel
theorem k_54_31 : hm_code 54 31 = some (.iconst 1) := by decide +kernel
theorem k_54_32 : hm_code 54 32 = some (.invokevirtual 250) := by decide +kernel
theorem k_54_35 : hm_code 54 35 = some (.aload_n 0) := by decide +kernel
theorem k_54_36 : hm_code 54 36 = some (.dup) := by decide +kernel
theorem k_54_37 : hm_code 54 37 = some (.getfield 62) := by decide +kernel
theorem k_54_40 : hm_code 54 40 = some (.iconst 1) := by decide +kernel
theorem k_54_41 : hm_code 54 41 = some (.isub) := by decide +kernel
theorem k_54_42 : hm_code 54 42 = some (.putfield 62) := by decide +kernel
theorem k_54_45 : hm_code 54 45 = some (.aload_n 0) := by decide +kernel
theorem k_54_46 : hm_code 54 46 = some (.dup) := by decide +kernel
theorem k_54_47 : hm_code 54 47 = some (.getfield 66) := by decide +kernel
theorem k_54_50 : hm_code 54 50 = some (.iconst 1) := by decide +kernel
theorem k_54_51 : hm_code 54 51 = some (.iadd) := by decide +kernel
theorem k_54_52 : hm_code 54 52 = some (.putfield 66) := by decide +kernel
theorem k_54_55 : hm_code 54 55 = some (.return_) := by decide +kernel
theorem m_55 : hm_mtab[55]? = some (⟨"HourPromised$Ledger", "enterRoom", "(LHourPromised$CaseFile;I)V"⟩, prog_6_method_6_code, 5, none, 4, 3, 1) := rfl
theorem k_55_0 : hm_code 55 0 = some (.aload_n 1) := by decide +kernel
theorem k_55_1 : hm_code 55 1 = some (.iconst 0) := by decide +kernel
theorem k_55_2 : hm_code 55 2 = some (.invokevirtual 36) := by decide +kernel
theorem k_55_5 : hm_code 55 5 = some (.ifCond .ne 4) := by decide +kernel
theorem k_55_8 : hm_code 55 8 = some (.return_) := by decide +kernel
theorem k_55_9 : hm_code 55 9 = some (.aload_n 1) := by decide +kernel
theorem k_55_10 : hm_code 55 10 = some (.invokevirtual 39) := by decide +kernel
theorem k_55_13 : hm_code 55 13 = some (.istore_n 3) := by decide +kernel
theorem k_55_14 : hm_code 55 14 = some (.aload_n 1) := by decide +kernel
theorem k_55_15 : hm_code 55 15 = some (.getfield 22) := by decide +kernel
theorem k_55_18 : hm_code 55 18 = some (.iconst 0) := by decide +kernel
theorem k_55_19 : hm_code 55 19 = some (.iaload) := by decide +kernel
theorem k_55_20 : hm_code 55 20 = some (.istore 4) := by decide +kernel
theorem k_55_22 : hm_code 55 22 = some (.iload 4) := by decide +kernel
theorem k_55_24 : hm_code 55 24 = some (.iload_n 3) := by decide +kernel
theorem k_55_25 : hm_code 55 25 = some (.if_icmp .ge 22) := by decide +kernel
theorem k_55_28 : hm_code 55 28 = some (.aload_n 0) := by decide +kernel
theorem k_55_29 : hm_code 55 29 = some (.getfield 11) := by decide +kernel
theorem k_55_32 : hm_code 55 32 = some (.iconst 3) := by decide +kernel
theorem k_55_33 : hm_code 55 33 = some (.aaload) := by decide +kernel
theorem k_55_34 : hm_code 55 34 = some (.iload 4) := by decide +kernel
theorem k_55_36 : hm_code 55 36 = some (.dup2) := by decide +kernel
theorem k_55_37 : hm_code 55 37 = some (.iaload) := by decide +kernel
theorem k_55_38 : hm_code 55 38 = some (.iload_n 2) := by decide +kernel
theorem k_55_39 : hm_code 55 39 = some (.iadd) := by decide +kernel
theorem k_55_40 : hm_code 55 40 = some (.iastore) := by decide +kernel
theorem k_55_41 : hm_code 55 41 = some (.iinc 4 1) := by decide +kernel
theorem k_55_44 : hm_code 55 44 = some (.goto (-22)) := by decide +kernel
theorem k_55_47 : hm_code 55 47 = some (.return_) := by decide +kernel
theorem m_56 : hm_mtab[56]? = some (⟨"HourPromised$CaseFile", "roomEnd", "()I"⟩, prog_3_method_4_code, 2, (some .int), 1, 1, 1) := rfl
theorem k_56_0 : hm_code 56 0 = some (.sipush 400) := by decide +kernel
theorem k_56_3 : hm_code 56 3 = some (.istore_n 1) := by decide +kernel
theorem k_56_4 : hm_code 56 4 = some (.aload_n 0) := by decide +kernel
theorem k_56_5 : hm_code 56 5 = some (.iconst 2) := by decide +kernel
theorem k_56_6 : hm_code 56 6 = some (.invokevirtual 44) := by decide +kernel
theorem k_56_9 : hm_code 56 9 = some (.ifCond .eq 16) := by decide +kernel
theorem k_56_12 : hm_code 56 12 = some (.iload_n 1) := by decide +kernel
theorem k_56_13 : hm_code 56 13 = some (.aload_n 0) := by decide +kernel
theorem k_56_14 : hm_code 56 14 = some (.getfield 15) := by decide +kernel
theorem k_56_17 : hm_code 56 17 = some (.iconst 2) := by decide +kernel
theorem k_56_18 : hm_code 56 18 = some (.iaload) := by decide +kernel
theorem k_56_19 : hm_code 56 19 = some (.invokestatic 48) := by decide +kernel
theorem k_56_22 : hm_code 56 22 = some (.goto 4) := by decide +kernel
theorem k_56_25 : hm_code 56 25 = some (.iload_n 1) := by decide +kernel
theorem k_56_26 : hm_code 56 26 = some (.istore_n 1) := by decide +kernel
theorem k_56_27 : hm_code 56 27 = some (.aload_n 0) := by decide +kernel
theorem k_56_28 : hm_code 56 28 = some (.iconst 3) := by decide +kernel
theorem k_56_29 : hm_code 56 29 = some (.invokevirtual 44) := by decide +kernel
theorem k_56_32 : hm_code 56 32 = some (.ifCond .eq 16) := by decide +kernel
theorem k_56_35 : hm_code 56 35 = some (.iload_n 1) := by decide +kernel
theorem k_56_36 : hm_code 56 36 = some (.aload_n 0) := by decide +kernel
theorem k_56_37 : hm_code 56 37 = some (.getfield 15) := by decide +kernel
theorem k_56_40 : hm_code 56 40 = some (.iconst 3) := by decide +kernel
theorem k_56_41 : hm_code 56 41 = some (.iaload) := by decide +kernel
theorem k_56_42 : hm_code 56 42 = some (.invokestatic 48) := by decide +kernel
theorem k_56_45 : hm_code 56 45 = some (.goto 4) := by decide +kernel
theorem k_56_48 : hm_code 56 48 = some (.iload_n 1) := by decide +kernel
theorem k_56_49 : hm_code 56 49 = some (.istore_n 1) := by decide +kernel
theorem k_56_50 : hm_code 56 50 = some (.iload_n 1) := by decide +kernel
theorem k_56_51 : hm_code 56 51 = some (.ireturn) := by decide +kernel
theorem m_57 : hm_mtab[57]? = some (⟨"java/lang/Math", "min", "(II)I"⟩, prog_15_method_69_code, 2, (some .int), 14, 2, 0) := rfl
theorem k_57_0 : hm_code 57 0 = some (.iload_n 0) := by decide +kernel
theorem k_57_1 : hm_code 57 1 = some (.iload_n 1) := by decide +kernel
theorem k_57_2 : hm_code 57 2 = some (.if_icmp .gt 7) := by decide +kernel
theorem k_57_5 : hm_code 57 5 = some (.iload_n 0) := by decide +kernel
theorem k_57_6 : hm_code 57 6 = some (.goto 4) := by decide +kernel
theorem k_57_9 : hm_code 57 9 = some (.iload_n 1) := by decide +kernel
theorem k_57_10 : hm_code 57 10 = some (.ireturn) := by decide +kernel
theorem m_58 : hm_mtab[58]? = some (⟨"HourPromised$Ledger", "enterStep", "(LHourPromised$CaseFile;II)V"⟩, prog_6_method_5_code, 5, none, 4, 4, 1) := rfl
theorem k_58_0 : hm_code 58 0 = some (.aload_n 1) := by decide +kernel
theorem k_58_1 : hm_code 58 1 = some (.getfield 22) := by decide +kernel
theorem k_58_4 : hm_code 58 4 = some (.iload_n 2) := by decide +kernel
theorem k_58_5 : hm_code 58 5 = some (.iaload) := by decide +kernel
theorem k_58_6 : hm_code 58 6 = some (.istore 4) := by decide +kernel
theorem k_58_8 : hm_code 58 8 = some (.iload 4) := by decide +kernel
theorem k_58_10 : hm_code 58 10 = some (.iconst (-1)) := by decide +kernel
theorem k_58_11 : hm_code 58 11 = some (.if_icmp .ne 4) := by decide +kernel
theorem k_58_14 : hm_code 58 14 = some (.return_) := by decide +kernel
theorem k_58_15 : hm_code 58 15 = some (.aload_n 0) := by decide +kernel
theorem k_58_16 : hm_code 58 16 = some (.getfield 11) := by decide +kernel
theorem k_58_19 : hm_code 58 19 = some (.iconst 0) := by decide +kernel
theorem k_58_20 : hm_code 58 20 = some (.aaload) := by decide +kernel
theorem k_58_21 : hm_code 58 21 = some (.iload 4) := by decide +kernel
theorem k_58_23 : hm_code 58 23 = some (.dup2) := by decide +kernel
theorem k_58_24 : hm_code 58 24 = some (.iaload) := by decide +kernel
theorem k_58_25 : hm_code 58 25 = some (.iload_n 3) := by decide +kernel
theorem k_58_26 : hm_code 58 26 = some (.iadd) := by decide +kernel
theorem k_58_27 : hm_code 58 27 = some (.iastore) := by decide +kernel
theorem k_58_28 : hm_code 58 28 = some (.aload_n 0) := by decide +kernel
theorem k_58_29 : hm_code 58 29 = some (.getfield 11) := by decide +kernel
theorem k_58_32 : hm_code 58 32 = some (.iconst 5) := by decide +kernel
theorem k_58_33 : hm_code 58 33 = some (.aaload) := by decide +kernel
theorem k_58_34 : hm_code 58 34 = some (.iload 4) := by decide +kernel
theorem k_58_36 : hm_code 58 36 = some (.dup2) := by decide +kernel
theorem k_58_37 : hm_code 58 37 = some (.iaload) := by decide +kernel
theorem k_58_38 : hm_code 58 38 = some (.iload_n 3) := by decide +kernel
theorem k_58_39 : hm_code 58 39 = some (.iadd) := by decide +kernel
theorem k_58_40 : hm_code 58 40 = some (.iastore) := by decide +kernel
theorem k_58_41 : hm_code 58 41 = some (.iload_n 2) := by decide +kernel
theorem k_58_42 : hm_code 58 42 = some (.iconst 1) := by decide +kernel
theorem k_58_43 : hm_code 58 43 = some (.if_icmp .ne 16) := by decide +kernel
theorem k_58_46 : hm_code 58 46 = some (.aload_n 0) := by decide +kernel
theorem k_58_47 : hm_code 58 47 = some (.getfield 11) := by decide +kernel
theorem k_58_50 : hm_code 58 50 = some (.iconst 1) := by decide +kernel
theorem k_58_51 : hm_code 58 51 = some (.aaload) := by decide +kernel
theorem k_58_52 : hm_code 58 52 = some (.iload 4) := by decide +kernel
theorem k_58_54 : hm_code 58 54 = some (.dup2) := by decide +kernel
theorem k_58_55 : hm_code 58 55 = some (.iaload) := by decide +kernel
theorem k_58_56 : hm_code 58 56 = some (.iload_n 3) := by decide +kernel
theorem k_58_57 : hm_code 58 57 = some (.iadd) := by decide +kernel
theorem k_58_58 : hm_code 58 58 = some (.iastore) := by decide +kernel
theorem k_58_59 : hm_code 58 59 = some (.iload_n 2) := by decide +kernel
theorem k_58_60 : hm_code 58 60 = some (.iconst 2) := by decide +kernel
theorem k_58_61 : hm_code 58 61 = some (.if_icmp .ne 16) := by decide +kernel
theorem k_58_64 : hm_code 58 64 = some (.aload_n 0) := by decide +kernel
theorem k_58_65 : hm_code 58 65 = some (.getfield 11) := by decide +kernel
theorem k_58_68 : hm_code 58 68 = some (.iconst 2) := by decide +kernel
theorem k_58_69 : hm_code 58 69 = some (.aaload) := by decide +kernel
theorem k_58_70 : hm_code 58 70 = some (.iload 4) := by decide +kernel
theorem k_58_72 : hm_code 58 72 = some (.dup2) := by decide +kernel
theorem k_58_73 : hm_code 58 73 = some (.iaload) := by decide +kernel
theorem k_58_74 : hm_code 58 74 = some (.iload_n 3) := by decide +kernel
theorem k_58_75 : hm_code 58 75 = some (.iadd) := by decide +kernel
theorem k_58_76 : hm_code 58 76 = some (.iastore) := by decide +kernel
theorem k_58_77 : hm_code 58 77 = some (.iload_n 2) := by decide +kernel
theorem k_58_78 : hm_code 58 78 = some (.invokestatic 28) := by decide +kernel
theorem k_58_81 : hm_code 58 81 = some (.ifCond .eq 21) := by decide +kernel
theorem k_58_84 : hm_code 58 84 = some (.aload_n 0) := by decide +kernel
theorem k_58_85 : hm_code 58 85 = some (.getfield 11) := by decide +kernel
theorem k_58_88 : hm_code 58 88 = some (.iconst 4) := by decide +kernel
theorem k_58_89 : hm_code 58 89 = some (.aaload) := by decide +kernel
theorem k_58_90 : hm_code 58 90 = some (.iload 4) := by decide +kernel
theorem k_58_92 : hm_code 58 92 = some (.dup2) := by decide +kernel
theorem k_58_93 : hm_code 58 93 = some (.iaload) := by decide +kernel
theorem k_58_94 : hm_code 58 94 = some (.iload_n 3) := by decide +kernel
theorem k_58_95 : hm_code 58 95 = some (.aload_n 1) := by decide +kernel
theorem k_58_96 : hm_code 58 96 = some (.getfield 32) := by decide +kernel
theorem k_58_99 : hm_code 58 99 = some (.imul) := by decide +kernel
theorem k_58_100 : hm_code 58 100 = some (.iadd) := by decide +kernel
theorem k_58_101 : hm_code 58 101 = some (.iastore) := by decide +kernel
theorem k_58_102 : hm_code 58 102 = some (.return_) := by decide +kernel
theorem m_59 : hm_mtab[59]? = some (⟨"HourPromised", "takesBearers", "(I)Z"⟩, prog_1_method_43_code, 1, (some .boolean), 7, 1, 0) := rfl
theorem k_59_0 : hm_code 59 0 = some (.iload_n 0) := by decide +kernel
theorem k_59_1 : hm_code 59 1 = some (.iconst 1) := by decide +kernel
theorem k_59_2 : hm_code 59 2 = some (.if_icmp .eq 8) := by decide +kernel
theorem k_59_5 : hm_code 59 5 = some (.iload_n 0) := by decide +kernel
theorem k_59_6 : hm_code 59 6 = some (.iconst 3) := by decide +kernel
theorem k_59_7 : hm_code 59 7 = some (.if_icmp .ne 7) := by decide +kernel
theorem k_59_10 : hm_code 59 10 = some (.iconst 1) := by decide +kernel
theorem k_59_11 : hm_code 59 11 = some (.goto 4) := by decide +kernel
theorem k_59_14 : hm_code 59 14 = some (.iconst 0) := by decide +kernel
theorem k_59_15 : hm_code 59 15 = some (.ireturn) := by decide +kernel
end
section
theorem m_60 : hm_mtab[60]? = some (⟨"HourPromised", "place", "()I"⟩, prog_1_method_10_code, 1, (some .int), 7, 1, 1) := rfl
theorem k_60_0 : hm_code 60 0 = some (.aload_n 0) := by decide +kernel
theorem k_60_1 : hm_code 60 1 = some (.getfield 40) := by decide +kernel
theorem k_60_4 : hm_code 60 4 = some (.getfield 141) := by decide +kernel
theorem k_60_7 : hm_code 60 7 = some (.ireturn) := by decide +kernel
theorem m_61 : hm_mtab[61]? = some (⟨"HourPromised", "says", "(III)I"⟩, prog_1_method_11_code, 4, (some .int), 7, 4, 1) := rfl
theorem k_61_0 : hm_code 61 0 = some (.iload_n 1) := by decide +kernel
theorem k_61_1 : hm_code 61 1 = some (.iconst 0) := by decide +kernel
theorem k_61_2 : hm_code 61 2 = some (.iconst 3) := by decide +kernel
theorem k_61_3 : hm_code 61 3 = some (.invokestatic 78) := by decide +kernel
theorem k_61_6 : hm_code 61 6 = some (.ifCond .ne 7) := by decide +kernel
theorem k_61_9 : hm_code 61 9 = some (.sipush (-1001)) := by decide +kernel
theorem k_61_12 : hm_code 61 12 = some (.ireturn) := by decide +kernel
theorem k_61_13 : hm_code 61 13 = some (.iload_n 2) := by decide +kernel
theorem k_61_14 : hm_code 61 14 = some (.invokestatic 144) := by decide +kernel
theorem k_61_17 : hm_code 61 17 = some (.ifCond .eq 12) := by decide +kernel
theorem k_61_20 : hm_code 61 20 = some (.iload_n 3) := by decide +kernel
theorem k_61_21 : hm_code 61 21 = some (.iconst 0) := by decide +kernel
theorem k_61_22 : hm_code 61 22 = some (.iconst 4) := by decide +kernel
theorem k_61_23 : hm_code 61 23 = some (.invokestatic 78) := by decide +kernel
theorem k_61_26 : hm_code 61 26 = some (.ifCond .ne 7) := by decide +kernel
theorem k_61_29 : hm_code 61 29 = some (.sipush (-1002)) := by decide +kernel
theorem k_61_32 : hm_code 61 32 = some (.ireturn) := by decide +kernel
theorem k_61_33 : hm_code 61 33 = some (.aload_n 0) := by decide +kernel
theorem k_61_34 : hm_code 61 34 = some (.getfield 46) := by decide +kernel
theorem k_61_37 : hm_code 61 37 = some (.iload_n 1) := by decide +kernel
theorem k_61_38 : hm_code 61 38 = some (.aaload) := by decide +kernel
theorem k_61_39 : hm_code 61 39 = some (.iload_n 2) := by decide +kernel
theorem k_61_40 : hm_code 61 40 = some (.iload_n 3) := by decide +kernel
theorem k_61_41 : hm_code 61 41 = some (.invokevirtual 148) := by decide +kernel
theorem k_61_44 : hm_code 61 44 = some (.ireturn) := by decide +kernel
theorem m_62 : hm_mtab[62]? = some (⟨"HourPromised", "isStep", "(I)Z"⟩, prog_1_method_41_code, 1, (some .boolean), 7, 1, 0) := rfl
theorem k_62_0 : hm_code 62 0 = some (.iload_n 0) := by decide +kernel
theorem k_62_1 : hm_code 62 1 = some (.iconst 0) := by decide +kernel
theorem k_62_2 : hm_code 62 2 = some (.iconst 3) := by decide +kernel
theorem k_62_3 : hm_code 62 3 = some (.invokestatic 78) := by decide +kernel
theorem k_62_6 : hm_code 62 6 = some (.ireturn) := by decide +kernel
theorem m_63 : hm_mtab[63]? = some (⟨"HourPromised", "casus", "(IIII)I"⟩, prog_1_method_12_code, 5, (some .int), 7, 5, 1) := rfl
theorem k_63_0 : hm_code 63 0 = some (.iload_n 1) := by decide +kernel
theorem k_63_1 : hm_code 63 1 = some (.iconst 0) := by decide +kernel
theorem k_63_2 : hm_code 63 2 = some (.iconst 3) := by decide +kernel
theorem k_63_3 : hm_code 63 3 = some (.invokestatic 78) := by decide +kernel
theorem k_63_6 : hm_code 63 6 = some (.ifCond .ne 7) := by decide +kernel
theorem k_63_9 : hm_code 63 9 = some (.sipush (-1001)) := by decide +kernel
theorem k_63_12 : hm_code 63 12 = some (.ireturn) := by decide +kernel
theorem k_63_13 : hm_code 63 13 = some (.iload_n 2) := by decide +kernel
theorem k_63_14 : hm_code 63 14 = some (.invokestatic 151) := by decide +kernel
theorem k_63_17 : hm_code 63 17 = some (.ifCond .eq 24) := by decide +kernel
theorem k_63_20 : hm_code 63 20 = some (.iload_n 3) := by decide +kernel
theorem k_63_21 : hm_code 63 21 = some (.iconst 0) := by decide +kernel
theorem k_63_22 : hm_code 63 22 = some (.bipush 6) := by decide +kernel
theorem k_63_24 : hm_code 63 24 = some (.invokestatic 78) := by decide +kernel
theorem k_63_27 : hm_code 63 27 = some (.ifCond .eq 14) := by decide +kernel
theorem k_63_30 : hm_code 63 30 = some (.iload 4) := by decide +kernel
theorem k_63_32 : hm_code 63 32 = some (.iconst 0) := by decide +kernel
theorem k_63_33 : hm_code 63 33 = some (.bipush 70) := by decide +kernel
theorem k_63_35 : hm_code 63 35 = some (.invokestatic 78) := by decide +kernel
theorem k_63_38 : hm_code 63 38 = some (.ifCond .ne 7) := by decide +kernel
theorem k_63_41 : hm_code 63 41 = some (.sipush (-1002)) := by decide +kernel
theorem k_63_44 : hm_code 63 44 = some (.ireturn) := by decide +kernel
theorem k_63_45 : hm_code 63 45 = some (.aload_n 0) := by decide +kernel
theorem k_63_46 : hm_code 63 46 = some (.getfield 58) := by decide +kernel
theorem k_63_49 : hm_code 63 49 = some (.invokevirtual 124) := by decide +kernel
theorem k_63_52 : hm_code 63 52 = some (.bipush 16) := by decide +kernel
theorem k_63_54 : hm_code 63 54 = some (.if_icmp .lt 7) := by decide +kernel
theorem k_63_57 : hm_code 63 57 = some (.sipush (-1004)) := by decide +kernel
theorem k_63_60 : hm_code 63 60 = some (.ireturn) := by decide +kernel
theorem k_63_61 : hm_code 63 61 = some (.aload_n 0) := by decide +kernel
theorem k_63_62 : hm_code 63 62 = some (.getfield 58) := by decide +kernel
theorem k_63_65 : hm_code 63 65 = some (.new 132) := by decide +kernel
theorem k_63_68 : hm_code 63 68 = some (.dup) := by decide +kernel
theorem k_63_69 : hm_code 63 69 = some (.iload_n 1) := by decide +kernel
theorem k_63_70 : hm_code 63 70 = some (.iload_n 2) := by decide +kernel
theorem k_63_71 : hm_code 63 71 = some (.iload_n 3) := by decide +kernel
theorem k_63_72 : hm_code 63 72 = some (.iload 4) := by decide +kernel
theorem k_63_74 : hm_code 63 74 = some (.invokespecial 154) := by decide +kernel
theorem k_63_77 : hm_code 63 77 = some (.invokevirtual 157) := by decide +kernel
theorem k_63_80 : hm_code 63 80 = some (.pop) := by decide +kernel
theorem k_63_81 : hm_code 63 81 = some (.aload_n 0) := by decide +kernel
theorem k_63_82 : hm_code 63 82 = some (.getfield 58) := by decide +kernel
theorem k_63_85 : hm_code 63 85 = some (.invokevirtual 124) := by decide +kernel
theorem k_63_88 : hm_code 63 88 = some (.iconst 1) := by decide +kernel
theorem k_63_89 : hm_code 63 89 = some (.isub) := by decide +kernel
theorem k_63_90 : hm_code 63 90 = some (.ireturn) := by decide +kernel
theorem m_64 : hm_mtab[64]? = some (⟨"HourPromised", "isHour", "(I)Z"⟩, prog_1_method_40_code, 1, (some .boolean), 7, 1, 0) := rfl
theorem k_64_0 : hm_code 64 0 = some (.iload_n 0) := by decide +kernel
theorem k_64_1 : hm_code 64 1 = some (.iconst 0) := by decide +kernel
theorem k_64_2 : hm_code 64 2 = some (.sipush 399) := by decide +kernel
theorem k_64_5 : hm_code 64 5 = some (.invokestatic 78) := by decide +kernel
theorem k_64_8 : hm_code 64 8 = some (.ireturn) := by decide +kernel
theorem m_65 : hm_mtab[65]? = some (⟨"HourPromised$CaseFile", "<init>", "(IIII)V"⟩, prog_3_method_1_code, 5, none, 1, 5, 2) := rfl
theorem k_65_0 : hm_code 65 0 = some (.aload_n 0) := by decide +kernel
theorem k_65_1 : hm_code 65 1 = some (.invokespecial 3) := by decide +kernel
theorem k_65_4 : hm_code 65 4 = some (.aload_n 0) := by decide +kernel
theorem k_65_5 : hm_code 65 5 = some (.bipush 6) := by decide +kernel
theorem k_65_7 : hm_code 65 7 = some (.newarray .int) := by decide +kernel
theorem k_65_9 : hm_code 65 9 = some (.putfield 9) := by decide +kernel
theorem k_65_12 : hm_code 65 12 = some (.aload_n 0) := by decide +kernel
theorem k_65_13 : hm_code 65 13 = some (.iconst 4) := by decide +kernel
theorem k_65_14 : hm_code 65 14 = some (.newarray .int) := by decide +kernel
theorem k_65_16 : hm_code 65 16 = some (.putfield 15) := by decide +kernel
theorem k_65_19 : hm_code 65 19 = some (.aload_n 0) := by decide +kernel
theorem k_65_20 : hm_code 65 20 = some (.iconst (-1)) := by decide +kernel
theorem k_65_21 : hm_code 65 21 = some (.putfield 18) := by decide +kernel
theorem k_65_24 : hm_code 65 24 = some (.aload_n 0) := by decide +kernel
theorem k_65_25 : hm_code 65 25 = some (.iconst 0) := by decide +kernel
theorem k_65_26 : hm_code 65 26 = some (.putfield 22) := by decide +kernel
theorem k_65_29 : hm_code 65 29 = some (.aload_n 0) := by decide +kernel
theorem k_65_30 : hm_code 65 30 = some (.iload_n 1) := by decide +kernel
theorem k_65_31 : hm_code 65 31 = some (.putfield 26) := by decide +kernel
theorem k_65_34 : hm_code 65 34 = some (.aload_n 0) := by decide +kernel
theorem k_65_35 : hm_code 65 35 = some (.iload_n 2) := by decide +kernel
theorem k_65_36 : hm_code 65 36 = some (.putfield 29) := by decide +kernel
theorem k_65_39 : hm_code 65 39 = some (.aload_n 0) := by decide +kernel
theorem k_65_40 : hm_code 65 40 = some (.iload_n 3) := by decide +kernel
theorem k_65_41 : hm_code 65 41 = some (.putfield 32) := by decide +kernel
theorem k_65_44 : hm_code 65 44 = some (.aload_n 0) := by decide +kernel
theorem k_65_45 : hm_code 65 45 = some (.iload 4) := by decide +kernel
theorem k_65_47 : hm_code 65 47 = some (.putfield 35) := by decide +kernel
theorem k_65_50 : hm_code 65 50 = some (.aload_n 0) := by decide +kernel
theorem k_65_51 : hm_code 65 51 = some (.getfield 9) := by decide +kernel
theorem k_65_54 : hm_code 65 54 = some (.iconst (-1)) := by decide +kernel
theorem k_65_55 : hm_code 65 55 = some (.invokestatic 38) := by decide +kernel
theorem k_65_58 : hm_code 65 58 = some (.aload_n 0) := by decide +kernel
theorem k_65_59 : hm_code 65 59 = some (.getfield 15) := by decide +kernel
theorem k_65_62 : hm_code 65 62 = some (.iconst (-1)) := by decide +kernel
theorem k_65_63 : hm_code 65 63 = some (.invokestatic 38) := by decide +kernel
theorem k_65_66 : hm_code 65 66 = some (.return_) := by decide +kernel
theorem m_66 : hm_mtab[66]? = some (⟨"java/util/ArrayList", "add", "(Ljava/lang/Object;)Z"⟩, prog_19_method_25_code, 2, (some .boolean), 9, 2, 1) := rfl
theorem k_66_0 : hm_code 66 0 = some (.aload_n 0) := by decide +kernel
theorem k_66_1 : hm_code 66 1 = some (.dup) := by decide +kernel
theorem k_66_2 : hm_code 66 2 = some (.getfield 63) := by decide +kernel
theorem k_66_5 : hm_code 66 5 = some (.iconst 1) := by decide +kernel
theorem k_66_6 : hm_code 66 6 = some (.iadd) := by decide +kernel
theorem k_66_7 : hm_code 66 7 = some (.putfield 63) := by decide +kernel
theorem k_66_10 : hm_code 66 10 = some (.aload_n 0) := by decide +kernel
theorem k_66_11 : hm_code 66 11 = some (.aload_n 1) := by decide +kernel
theorem k_66_12 : hm_code 66 12 = some (.aload_n 0) := by decide +kernel
theorem k_66_13 : hm_code 66 13 = some (.getfield 9) := by decide +kernel
theorem k_66_16 : hm_code 66 16 = some (.aload_n 0) := by decide +kernel
theorem k_66_17 : hm_code 66 17 = some (.getfield 48) := by decide +kernel
theorem k_66_20 : hm_code 66 20 = some (.invokevirtual 131) := by decide +kernel
theorem k_66_23 : hm_code 66 23 = some (.iconst 1) := by decide +kernel
theorem k_66_24 : hm_code 66 24 = some (.ireturn) := by decide +kernel
theorem m_67 : hm_mtab[67]? = some (⟨"java/util/ArrayList", "add", "(Ljava/lang/Object;[Ljava/lang/Object;I)V"⟩, prog_19_method_24_code, 4, none, 9, 4, 1) := rfl
theorem k_67_0 : hm_code 67 0 = some (.iload_n 3) := by decide +kernel
theorem k_67_1 : hm_code 67 1 = some (.aload_n 2) := by decide +kernel
theorem k_67_2 : hm_code 67 2 = some (.arraylength) := by decide +kernel
theorem k_67_3 : hm_code 67 3 = some (.if_icmp .ne 8) := by decide +kernel
theorem k_67_6 : hm_code 67 6 = some (.aload_n 0) := by decide +kernel
theorem k_67_7 : hm_code 67 7 = some (.invokevirtual 129) := by decide +kernel
theorem k_67_10 : hm_code 67 10 = some (.astore_n 2) := by decide +kernel
theorem k_67_11 : hm_code 67 11 = some (.aload_n 2) := by decide +kernel
theorem k_67_12 : hm_code 67 12 = some (.iload_n 3) := by decide +kernel
theorem k_67_13 : hm_code 67 13 = some (.aload_n 1) := by decide +kernel
theorem k_67_14 : hm_code 67 14 = some (.aastore) := by decide +kernel
theorem k_67_15 : hm_code 67 15 = some (.aload_n 0) := by decide +kernel
theorem k_67_16 : hm_code 67 16 = some (.iload_n 3) := by decide +kernel
theorem k_67_17 : hm_code 67 17 = some (.iconst 1) := by decide +kernel
theorem k_67_18 : hm_code 67 18 = some (.iadd) := by decide +kernel
theorem k_67_19 : hm_code 67 19 = some (.putfield 48) := by decide +kernel
theorem k_67_22 : hm_code 67 22 = some (.return_) := by decide +kernel
theorem m_68 : hm_mtab[68]? = some (⟨"java/util/ArrayList", "grow", "()[Ljava/lang/Object;"⟩, prog_19_method_7_code, 1, (some (.array (.object "java/lang/Object"))), 9, 1, 1) := rfl
theorem k_68_0 : hm_code 68 0 = some (.aload_n 0) := by decide +kernel
theorem k_68_1 : hm_code 68 1 = some (.aload_n 0) := by decide +kernel
theorem k_68_2 : hm_code 68 2 = some (.getfield 48) := by decide +kernel
theorem k_68_5 : hm_code 68 5 = some (.iconst 1) := by decide +kernel
theorem k_68_6 : hm_code 68 6 = some (.iadd) := by decide +kernel
theorem k_68_7 : hm_code 68 7 = some (.invokevirtual 69) := by decide +kernel
theorem k_68_10 : hm_code 68 10 = some (.areturn) := by decide +kernel
theorem m_69 : hm_mtab[69]? = some (⟨"java/util/ArrayList", "grow", "(I)[Ljava/lang/Object;"⟩, prog_19_method_6_code, 4, (some (.array (.object "java/lang/Object"))), 9, 2, 1) := rfl
theorem k_69_0 : hm_code 69 0 = some (.aload_n 0) := by decide +kernel
theorem k_69_1 : hm_code 69 1 = some (.getfield 9) := by decide +kernel
theorem k_69_4 : hm_code 69 4 = some (.arraylength) := by decide +kernel
theorem k_69_5 : hm_code 69 5 = some (.istore_n 2) := by decide +kernel
theorem k_69_6 : hm_code 69 6 = some (.iload_n 2) := by decide +kernel
theorem k_69_7 : hm_code 69 7 = some (.ifCond .gt 13) := by decide +kernel
theorem k_69_10 : hm_code 69 10 = some (.aload_n 0) := by decide +kernel
theorem k_69_11 : hm_code 69 11 = some (.getfield 9) := by decide +kernel
theorem k_69_14 : hm_code 69 14 = some (.getstatic 39) := by decide +kernel
theorem k_69_17 : hm_code 69 17 = some (.if_acmp .eq 28) := by decide +kernel
theorem k_69_20 : hm_code 69 20 = some (.iload_n 2) := by decide +kernel
theorem k_69_21 : hm_code 69 21 = some (.iload_n 1) := by decide +kernel
theorem k_69_22 : hm_code 69 22 = some (.iload_n 2) := by decide +kernel
theorem k_69_23 : hm_code 69 23 = some (.isub) := by decide +kernel
theorem k_69_24 : hm_code 69 24 = some (.iload_n 2) := by decide +kernel
theorem k_69_25 : hm_code 69 25 = some (.iconst 1) := by decide +kernel
theorem k_69_26 : hm_code 69 26 = some (.ishr) := by decide +kernel
theorem k_69_27 : hm_code 69 27 = some (.invokestatic 73) := by decide +kernel
theorem k_69_30 : hm_code 69 30 = some (.istore_n 3) := by decide +kernel
theorem k_69_31 : hm_code 69 31 = some (.aload_n 0) := by decide +kernel
theorem k_69_32 : hm_code 69 32 = some (.aload_n 0) := by decide +kernel
theorem k_69_33 : hm_code 69 33 = some (.getfield 9) := by decide +kernel
theorem k_69_36 : hm_code 69 36 = some (.iload_n 3) := by decide +kernel
theorem k_69_37 : hm_code 69 37 = some (.invokestatic 66) := by decide +kernel
theorem k_69_40 : hm_code 69 40 = some (.dup_x1) := by decide +kernel
theorem k_69_41 : hm_code 69 41 = some (.putfield 9) := by decide +kernel
theorem k_69_44 : hm_code 69 44 = some (.areturn) := by decide +kernel
theorem k_69_45 : hm_code 69 45 = some (.aload_n 0) := by decide +kernel
theorem k_69_46 : hm_code 69 46 = some (.bipush 10) := by decide +kernel
theorem k_69_48 : hm_code 69 48 = some (.iload_n 1) := by decide +kernel
theorem k_69_49 : hm_code 69 49 = some (.invokestatic 79) := by decide +kernel
theorem k_69_52 : hm_code 69 52 = some (.anewarray 7) := by decide +kernel
theorem k_69_55 : hm_code 69 55 = some (.dup_x1) := by decide +kernel
theorem k_69_56 : hm_code 69 56 = some (.putfield 9) := by decide +kernel
theorem k_69_59 : hm_code 69 59 = some (.areturn) := by decide +kernel
theorem m_70 : hm_mtab[70]? = some (⟨"jdk/internal/util/ArraysSupport", "newLength", "(III)I"⟩, prog_26_method_27_code, 4, (some .int), 17, 3, 0) := rfl
theorem k_70_0 : hm_code 70 0 = some (.iload_n 0) := by decide +kernel
theorem k_70_1 : hm_code 70 1 = some (.iload_n 1) := by decide +kernel
theorem k_70_2 : hm_code 70 2 = some (.iload_n 2) := by decide +kernel
theorem k_70_3 : hm_code 70 3 = some (.invokestatic 194) := by decide +kernel
theorem k_70_6 : hm_code 70 6 = some (.iadd) := by decide +kernel
theorem k_70_7 : hm_code 70 7 = some (.istore_n 3) := by decide +kernel
theorem k_70_8 : hm_code 70 8 = some (.iconst 0) := by decide +kernel
theorem k_70_9 : hm_code 70 9 = some (.iload_n 3) := by decide +kernel
theorem k_70_10 : hm_code 70 10 = some (.if_icmp .ge 11) := by decide +kernel
theorem k_70_13 : hm_code 70 13 = some (.iload_n 3) := by decide +kernel
theorem k_70_14 : hm_code 70 14 = some (.ldc 200) := by decide +kernel
theorem k_70_16 : hm_code 70 16 = some (.if_icmp .gt 5) := by decide +kernel
theorem k_70_19 : hm_code 70 19 = some (.iload_n 3) := by decide +kernel
theorem k_70_20 : hm_code 70 20 = some (.ireturn) := by decide +kernel
theorem k_70_21 : hm_code 70 21 = some (.iload_n 0) := by decide +kernel
theorem k_70_22 : hm_code 70 22 = some (.iload_n 1) := by decide +kernel
theorem k_70_23 : hm_code 70 23 = some (.invokestatic 201) := by decide +kernel
theorem k_70_26 : hm_code 70 26 = some (.ireturn) := by decide +kernel
theorem m_72 : hm_mtab[72]? = some (⟨"java/util/Arrays", "copyOf", "([Ljava/lang/Object;I)[Ljava/lang/Object;"⟩, prog_20_method_119_code, 2, (some (.array (.object "java/lang/Object"))), 11, 2, 0) := rfl
theorem k_72_0 : hm_code 72 0 = some (.aload_n 0) := by decide +kernel
theorem k_72_1 : hm_code 72 1 = some (.iload_n 1) := by decide +kernel
theorem k_72_2 : hm_code 72 2 = some (.aload_n 0) := by decide +kernel
theorem k_72_3 : hm_code 72 3 = some (.invokevirtual 86) := by decide +kernel
theorem k_72_6 : hm_code 72 6 = some (.invokestatic 300) := by decide +kernel
theorem k_72_9 : hm_code 72 9 = some (.areturn) := by decide +kernel
theorem m_73 : hm_mtab[73]? = some (⟨"java/util/Arrays", "copyOf", "([Ljava/lang/Object;ILjava/lang/Class;)[Ljava/lang/Object;"⟩, prog_20_method_120_code, 4, (some (.array (.object "java/lang/Object"))), 11, 3, 0) := rfl
theorem k_73_0 : hm_code 73 0 = some (.aload_n 2) := by decide +kernel
theorem k_73_1 : hm_code 73 1 = some (.ldc 110) := by decide +kernel
theorem k_73_3 : hm_code 73 3 = some (.if_acmp .ne 10) := by decide +kernel
theorem k_73_6 : hm_code 73 6 = some (.iload_n 1) := by decide +kernel
theorem k_73_7 : hm_code 73 7 = some (.anewarray 2) := by decide +kernel
theorem k_73_10 : hm_code 73 10 = some (.goto 14) := by decide +kernel
theorem k_73_13 : hm_code 73 13 = some (.aload_n 2) := by decide +kernel
theorem k_73_14 : hm_code 73 14 = some (.invokevirtual 90) := by decide +kernel
theorem k_73_17 : hm_code 73 17 = some (.iload_n 1) := by decide +kernel
theorem k_73_18 : hm_code 73 18 = some (.invokestatic 95) := by decide +kernel
theorem k_73_21 : hm_code 73 21 = some (.checkcast 110) := by decide +kernel
theorem k_73_24 : hm_code 73 24 = some (.astore_n 3) := by decide +kernel
theorem k_73_25 : hm_code 73 25 = some (.aload_n 0) := by decide +kernel
theorem k_73_26 : hm_code 73 26 = some (.iconst 0) := by decide +kernel
theorem k_73_27 : hm_code 73 27 = some (.aload_n 3) := by decide +kernel
theorem k_73_28 : hm_code 73 28 = some (.iconst 0) := by decide +kernel
theorem k_73_29 : hm_code 73 29 = some (.aload_n 0) := by decide +kernel
theorem k_73_30 : hm_code 73 30 = some (.arraylength) := by decide +kernel
theorem k_73_31 : hm_code 73 31 = some (.iload_n 1) := by decide +kernel
theorem k_73_32 : hm_code 73 32 = some (.invokestatic 304) := by decide +kernel
theorem k_73_35 : hm_code 73 35 = some (.invokestatic 150) := by decide +kernel
theorem k_73_38 : hm_code 73 38 = some (.aload_n 3) := by decide +kernel
theorem k_73_39 : hm_code 73 39 = some (.areturn) := by decide +kernel
theorem m_74 : hm_mtab[74]? = some (⟨"HourPromised", "paper", "(III)I"⟩, prog_1_method_13_code, 5, (some .int), 7, 4, 1) := rfl
theorem k_74_0 : hm_code 74 0 = some (.aload_n 0) := by decide +kernel
theorem k_74_1 : hm_code 74 1 = some (.iload_n 1) := by decide +kernel
theorem k_74_2 : hm_code 74 2 = some (.invokevirtual 161) := by decide +kernel
theorem k_74_5 : hm_code 74 5 = some (.astore 4) := by decide +kernel
theorem k_74_7 : hm_code 74 7 = some (.aload 4) := by decide +kernel
theorem k_74_9 : hm_code 74 9 = some (.ifnonnull 7) := by decide +kernel
theorem k_74_12 : hm_code 74 12 = some (.sipush (-1001)) := by decide +kernel
theorem k_74_15 : hm_code 74 15 = some (.ireturn) := by decide +kernel
theorem k_74_16 : hm_code 74 16 = some (.iload_n 2) := by decide +kernel
theorem k_74_17 : hm_code 74 17 = some (.iconst 0) := by decide +kernel
theorem k_74_18 : hm_code 74 18 = some (.iconst 5) := by decide +kernel
theorem k_74_19 : hm_code 74 19 = some (.invokestatic 78) := by decide +kernel
theorem k_74_22 : hm_code 74 22 = some (.ifCond .eq 15) := by decide +kernel
theorem k_74_25 : hm_code 74 25 = some (.iload_n 3) := by decide +kernel
theorem k_74_26 : hm_code 74 26 = some (.iconst (-1)) := by decide +kernel
theorem k_74_27 : hm_code 74 27 = some (.if_icmp .eq 14) := by decide +kernel
theorem k_74_30 : hm_code 74 30 = some (.iload_n 3) := by decide +kernel
theorem k_74_31 : hm_code 74 31 = some (.invokestatic 151) := by decide +kernel
theorem k_74_34 : hm_code 74 34 = some (.ifCond .ne 7) := by decide +kernel
theorem k_74_37 : hm_code 74 37 = some (.sipush (-1002)) := by decide +kernel
theorem k_74_40 : hm_code 74 40 = some (.ireturn) := by decide +kernel
theorem k_74_41 : hm_code 74 41 = some (.aload 4) := by decide +kernel
theorem k_74_43 : hm_code 74 43 = some (.getfield 165) := by decide +kernel
theorem k_74_46 : hm_code 74 46 = some (.iload_n 2) := by decide +kernel
theorem k_74_47 : hm_code 74 47 = some (.iload_n 3) := by decide +kernel
theorem k_74_48 : hm_code 74 48 = some (.iastore) := by decide +kernel
theorem k_74_49 : hm_code 74 49 = some (.aload_n 0) := by decide +kernel
theorem k_74_50 : hm_code 74 50 = some (.aload 4) := by decide +kernel
theorem k_74_52 : hm_code 74 52 = some (.invokevirtual 137) := by decide +kernel
theorem k_74_55 : hm_code 74 55 = some (.ireturn) := by decide +kernel
theorem m_75 : hm_mtab[75]? = some (⟨"HourPromised", "fileOf", "(I)LHourPromised$CaseFile;"⟩, prog_1_method_21_code, 2, (some (.object "HourPromised$CaseFile")), 7, 2, 1) := rfl
theorem k_75_0 : hm_code 75 0 = some (.iload_n 1) := by decide +kernel
theorem k_75_1 : hm_code 75 1 = some (.iconst 0) := by decide +kernel
theorem k_75_2 : hm_code 75 2 = some (.aload_n 0) := by decide +kernel
theorem k_75_3 : hm_code 75 3 = some (.getfield 58) := by decide +kernel
theorem k_75_6 : hm_code 75 6 = some (.invokevirtual 124) := by decide +kernel
theorem k_75_9 : hm_code 75 9 = some (.iconst 1) := by decide +kernel
theorem k_75_10 : hm_code 75 10 = some (.isub) := by decide +kernel
theorem k_75_11 : hm_code 75 11 = some (.invokestatic 78) := by decide +kernel
theorem k_75_14 : hm_code 75 14 = some (.ifCond .eq 17) := by decide +kernel
theorem k_75_17 : hm_code 75 17 = some (.aload_n 0) := by decide +kernel
theorem k_75_18 : hm_code 75 18 = some (.getfield 58) := by decide +kernel
theorem k_75_21 : hm_code 75 21 = some (.iload_n 1) := by decide +kernel
theorem k_75_22 : hm_code 75 22 = some (.invokevirtual 128) := by decide +kernel
theorem k_75_25 : hm_code 75 25 = some (.checkcast 132) := by decide +kernel
theorem k_75_28 : hm_code 75 28 = some (.goto 4) := by decide +kernel
theorem k_75_31 : hm_code 75 31 = some (.aconst_null) := by decide +kernel
theorem k_75_32 : hm_code 75 32 = some (.areturn) := by decide +kernel
theorem m_76 : hm_mtab[76]? = some (⟨"HourPromised", "may", "(III)I"⟩, prog_1_method_14_code, 5, (some .int), 7, 4, 1) := rfl
theorem k_76_0 : hm_code 76 0 = some (.aload_n 0) := by decide +kernel
theorem k_76_1 : hm_code 76 1 = some (.iload_n 1) := by decide +kernel
theorem k_76_2 : hm_code 76 2 = some (.invokevirtual 161) := by decide +kernel
theorem k_76_5 : hm_code 76 5 = some (.astore 4) := by decide +kernel
theorem k_76_7 : hm_code 76 7 = some (.aload 4) := by decide +kernel
theorem k_76_9 : hm_code 76 9 = some (.ifnonnull 7) := by decide +kernel
theorem k_76_12 : hm_code 76 12 = some (.sipush (-1001)) := by decide +kernel
theorem k_76_15 : hm_code 76 15 = some (.ireturn) := by decide +kernel
theorem k_76_16 : hm_code 76 16 = some (.iload_n 2) := by decide +kernel
theorem k_76_17 : hm_code 76 17 = some (.invokestatic 144) := by decide +kernel
theorem k_76_20 : hm_code 76 20 = some (.ifCond .eq 10) := by decide +kernel
theorem k_76_23 : hm_code 76 23 = some (.iload_n 3) := by decide +kernel
theorem k_76_24 : hm_code 76 24 = some (.invokestatic 151) := by decide +kernel
theorem k_76_27 : hm_code 76 27 = some (.ifCond .ne 7) := by decide +kernel
theorem k_76_30 : hm_code 76 30 = some (.sipush (-1002)) := by decide +kernel
theorem k_76_33 : hm_code 76 33 = some (.ireturn) := by decide +kernel
theorem k_76_34 : hm_code 76 34 = some (.aload_n 0) := by decide +kernel
theorem k_76_35 : hm_code 76 35 = some (.aload 4) := by decide +kernel
theorem k_76_37 : hm_code 76 37 = some (.iload_n 2) := by decide +kernel
theorem k_76_38 : hm_code 76 38 = some (.iload_n 3) := by decide +kernel
theorem k_76_39 : hm_code 76 39 = some (.invokevirtual 168) := by decide +kernel
theorem k_76_42 : hm_code 76 42 = some (.ireturn) := by decide +kernel
theorem m_77 : hm_mtab[77]? = some (⟨"HourPromised", "hindrance", "(LHourPromised$CaseFile;II)I"⟩, prog_1_method_22_code, 6, (some .int), 7, 4, 1) := rfl
theorem k_77_0 : hm_code 77 0 = some (.aload_n 1) := by decide +kernel
theorem k_77_1 : hm_code 77 1 = some (.iload_n 2) := by decide +kernel
theorem k_77_2 : hm_code 77 2 = some (.invokevirtual 176) := by decide +kernel
theorem k_77_5 : hm_code 77 5 = some (.ifCond .eq 5) := by decide +kernel
theorem k_77_8 : hm_code 77 8 = some (.iconst 1) := by decide +kernel
theorem k_77_9 : hm_code 77 9 = some (.ireturn) := by decide +kernel
theorem k_77_10 : hm_code 77 10 = some (.aload_n 0) := by decide +kernel
theorem k_77_11 : hm_code 77 11 = some (.getfield 46) := by decide +kernel
theorem k_77_14 : hm_code 77 14 = some (.aload_n 1) := by decide +kernel
theorem k_77_15 : hm_code 77 15 = some (.getfield 134) := by decide +kernel
theorem k_77_18 : hm_code 77 18 = some (.aaload) := by decide +kernel
theorem k_77_19 : hm_code 77 19 = some (.astore 4) := by decide +kernel
theorem k_77_21 : hm_code 77 21 = some (.aload_n 1) := by decide +kernel
theorem k_77_22 : hm_code 77 22 = some (.aload 4) := by decide +kernel
theorem k_77_24 : hm_code 77 24 = some (.iload_n 2) := by decide +kernel
theorem k_77_25 : hm_code 77 25 = some (.iload_n 3) := by decide +kernel
theorem k_77_26 : hm_code 77 26 = some (.invokevirtual 204) := by decide +kernel
theorem k_77_29 : hm_code 77 29 = some (.istore 5) := by decide +kernel
theorem k_77_31 : hm_code 77 31 = some (.iload 5) := by decide +kernel
theorem k_77_33 : hm_code 77 33 = some (.ifCond .ne 13) := by decide +kernel
theorem k_77_36 : hm_code 77 36 = some (.aload_n 1) := by decide +kernel
theorem k_77_37 : hm_code 77 37 = some (.aload 4) := by decide +kernel
theorem k_77_39 : hm_code 77 39 = some (.iload_n 2) := by decide +kernel
theorem k_77_40 : hm_code 77 40 = some (.iload_n 3) := by decide +kernel
theorem k_77_41 : hm_code 77 41 = some (.invokevirtual 208) := by decide +kernel
theorem k_77_44 : hm_code 77 44 = some (.istore 5) := by decide +kernel
theorem k_77_46 : hm_code 77 46 = some (.iload 5) := by decide +kernel
theorem k_77_48 : hm_code 77 48 = some (.ifCond .eq 6) := by decide +kernel
theorem k_77_51 : hm_code 77 51 = some (.iload 5) := by decide +kernel
theorem k_77_53 : hm_code 77 53 = some (.ireturn) := by decide +kernel
theorem k_77_54 : hm_code 77 54 = some (.aload_n 0) := by decide +kernel
theorem k_77_55 : hm_code 77 55 = some (.getfield 26) := by decide +kernel
theorem k_77_58 : hm_code 77 58 = some (.iload_n 3) := by decide +kernel
theorem k_77_59 : hm_code 77 59 = some (.iconst 0) := by decide +kernel
theorem k_77_60 : hm_code 77 60 = some (.invokevirtual 99) := by decide +kernel
theorem k_77_63 : hm_code 77 63 = some (.aload_n 0) := by decide +kernel
theorem k_77_64 : hm_code 77 64 = some (.getfield 7) := by decide +kernel
theorem k_77_67 : hm_code 77 67 = some (.iconst 0) := by decide +kernel
theorem k_77_68 : hm_code 77 68 = some (.iaload) := by decide +kernel
theorem k_77_69 : hm_code 77 69 = some (.if_icmp .lt 6) := by decide +kernel
theorem k_77_72 : hm_code 77 72 = some (.bipush 10) := by decide +kernel
theorem k_77_74 : hm_code 77 74 = some (.ireturn) := by decide +kernel
theorem k_77_75 : hm_code 77 75 = some (.aload_n 0) := by decide +kernel
theorem k_77_76 : hm_code 77 76 = some (.aload_n 1) := by decide +kernel
theorem k_77_77 : hm_code 77 77 = some (.iload_n 2) := by decide +kernel
theorem k_77_78 : hm_code 77 78 = some (.iload_n 3) := by decide +kernel
theorem k_77_79 : hm_code 77 79 = some (.invokevirtual 211) := by decide +kernel
theorem k_77_82 : hm_code 77 82 = some (.ifCond .ne 6) := by decide +kernel
theorem k_77_85 : hm_code 77 85 = some (.bipush 11) := by decide +kernel
theorem k_77_87 : hm_code 77 87 = some (.ireturn) := by decide +kernel
theorem k_77_88 : hm_code 77 88 = some (.iload_n 2) := by decide +kernel
theorem k_77_89 : hm_code 77 89 = some (.invokestatic 189) := by decide +kernel
theorem k_77_92 : hm_code 77 92 = some (.ifCond .eq 17) := by decide +kernel
theorem k_77_95 : hm_code 77 95 = some (.aload_n 0) := by decide +kernel
theorem k_77_96 : hm_code 77 96 = some (.aload_n 1) := by decide +kernel
theorem k_77_97 : hm_code 77 97 = some (.iload_n 3) := by decide +kernel
theorem k_77_98 : hm_code 77 98 = some (.invokevirtual 215) := by decide +kernel
theorem k_77_101 : hm_code 77 101 = some (.ifCond .ne 8) := by decide +kernel
theorem k_77_104 : hm_code 77 104 = some (.bipush 12) := by decide +kernel
theorem k_77_106 : hm_code 77 106 = some (.goto 4) := by decide +kernel
theorem k_77_109 : hm_code 77 109 = some (.iconst 0) := by decide +kernel
theorem k_77_110 : hm_code 77 110 = some (.ireturn) := by decide +kernel
theorem m_78 : hm_mtab[78]? = some (⟨"HourPromised$CaseFile", "hinderedByOtherSteps", "(LHourPromised$Law;II)I"⟩, prog_3_method_7_code, 4, (some .int), 1, 4, 1) := rfl
theorem k_78_0 : hm_code 78 0 = some (.aload_n 0) := by decide +kernel
theorem k_78_1 : hm_code 78 1 = some (.aload_n 1) := by decide +kernel
theorem k_78_2 : hm_code 78 2 = some (.iload_n 2) := by decide +kernel
theorem k_78_3 : hm_code 78 3 = some (.iload_n 3) := by decide +kernel
theorem k_78_4 : hm_code 78 4 = some (.invokevirtual 73) := by decide +kernel
theorem k_78_7 : hm_code 78 7 = some (.ifCond .eq 6) := by decide +kernel
theorem k_78_10 : hm_code 78 10 = some (.bipush 7) := by decide +kernel
theorem k_78_12 : hm_code 78 12 = some (.ireturn) := by decide +kernel
theorem k_78_13 : hm_code 78 13 = some (.iload_n 2) := by decide +kernel
theorem k_78_14 : hm_code 78 14 = some (.iconst 2) := by decide +kernel
theorem k_78_15 : hm_code 78 15 = some (.if_icmp .ne 11) := by decide +kernel
theorem k_78_18 : hm_code 78 18 = some (.aload_n 0) := by decide +kernel
theorem k_78_19 : hm_code 78 19 = some (.iconst 3) := by decide +kernel
theorem k_78_20 : hm_code 78 20 = some (.invokevirtual 44) := by decide +kernel
theorem k_78_23 : hm_code 78 23 = some (.ifCond .ne 16) := by decide +kernel
theorem k_78_26 : hm_code 78 26 = some (.iload_n 2) := by decide +kernel
theorem k_78_27 : hm_code 78 27 = some (.iconst 3) := by decide +kernel
theorem k_78_28 : hm_code 78 28 = some (.if_icmp .ne 14) := by decide +kernel
theorem k_78_31 : hm_code 78 31 = some (.aload_n 0) := by decide +kernel
theorem k_78_32 : hm_code 78 32 = some (.iconst 2) := by decide +kernel
theorem k_78_33 : hm_code 78 33 = some (.invokevirtual 44) := by decide +kernel
theorem k_78_36 : hm_code 78 36 = some (.ifCond .eq 6) := by decide +kernel
theorem k_78_39 : hm_code 78 39 = some (.bipush 8) := by decide +kernel
theorem k_78_41 : hm_code 78 41 = some (.ireturn) := by decide +kernel
theorem k_78_42 : hm_code 78 42 = some (.aload_n 0) := by decide +kernel
theorem k_78_43 : hm_code 78 43 = some (.iload_n 2) := by decide +kernel
theorem k_78_44 : hm_code 78 44 = some (.iload_n 3) := by decide +kernel
theorem k_78_45 : hm_code 78 45 = some (.invokevirtual 77) := by decide +kernel
theorem k_78_48 : hm_code 78 48 = some (.ifCond .eq 8) := by decide +kernel
theorem k_78_51 : hm_code 78 51 = some (.bipush 9) := by decide +kernel
theorem k_78_53 : hm_code 78 53 = some (.goto 4) := by decide +kernel
theorem k_78_56 : hm_code 78 56 = some (.iconst 0) := by decide +kernel
theorem k_78_57 : hm_code 78 57 = some (.ireturn) := by decide +kernel
theorem m_79 : hm_mtab[79]? = some (⟨"HourPromised$CaseFile", "comesTooLate", "(LHourPromised$Law;II)Z"⟩, prog_3_method_10_code, 5, (some .boolean), 1, 4, 1) := rfl
theorem k_79_0 : hm_code 79 0 = some (.iconst 0) := by decide +kernel
theorem k_79_1 : hm_code 79 1 = some (.istore 4) := by decide +kernel
theorem k_79_3 : hm_code 79 3 = some (.iload 4) := by decide +kernel
theorem k_79_5 : hm_code 79 5 = some (.iconst 4) := by decide +kernel
theorem k_79_6 : hm_code 79 6 = some (.if_icmp .ge 45) := by decide +kernel
theorem k_79_9 : hm_code 79 9 = some (.aload_n 0) := by decide +kernel
theorem k_79_10 : hm_code 79 10 = some (.iload 4) := by decide +kernel
theorem k_79_12 : hm_code 79 12 = some (.invokevirtual 44) := by decide +kernel
theorem k_79_15 : hm_code 79 15 = some (.ifCond .eq 30) := by decide +kernel
theorem k_79_18 : hm_code 79 18 = some (.aload_n 1) := by decide +kernel
theorem k_79_19 : hm_code 79 19 = some (.iload 4) := by decide +kernel
theorem k_79_21 : hm_code 79 21 = some (.iconst 4) := by decide +kernel
theorem k_79_22 : hm_code 79 22 = some (.invokevirtual 58) := by decide +kernel
theorem k_79_25 : hm_code 79 25 = some (.iload_n 2) := by decide +kernel
theorem k_79_26 : hm_code 79 26 = some (.invokestatic 80) := by decide +kernel
theorem k_79_29 : hm_code 79 29 = some (.ifCond .eq 16) := by decide +kernel
theorem k_79_32 : hm_code 79 32 = some (.aload_n 0) := by decide +kernel
theorem k_79_33 : hm_code 79 33 = some (.getfield 15) := by decide +kernel
theorem k_79_36 : hm_code 79 36 = some (.iload 4) := by decide +kernel
theorem k_79_38 : hm_code 79 38 = some (.iaload) := by decide +kernel
theorem k_79_39 : hm_code 79 39 = some (.iload_n 3) := by decide +kernel
theorem k_79_40 : hm_code 79 40 = some (.if_icmp .gt 5) := by decide +kernel
theorem k_79_43 : hm_code 79 43 = some (.iconst 1) := by decide +kernel
theorem k_79_44 : hm_code 79 44 = some (.ireturn) := by decide +kernel
theorem k_79_45 : hm_code 79 45 = some (.iinc 4 1) := by decide +kernel
theorem k_79_48 : hm_code 79 48 = some (.goto (-45)) := by decide +kernel
theorem k_79_51 : hm_code 79 51 = some (.iconst 0) := by decide +kernel
theorem k_79_52 : hm_code 79 52 = some (.ireturn) := by decide +kernel
theorem m_80 : hm_mtab[80]? = some (⟨"HourPromised$CaseFile", "hasOtherStepAt", "(II)Z"⟩, prog_3_method_11_code, 4, (some .boolean), 1, 3, 1) := rfl
theorem k_80_0 : hm_code 80 0 = some (.iconst 0) := by decide +kernel
theorem k_80_1 : hm_code 80 1 = some (.istore_n 3) := by decide +kernel
theorem k_80_2 : hm_code 80 2 = some (.iload_n 3) := by decide +kernel
theorem k_80_3 : hm_code 80 3 = some (.iconst 4) := by decide +kernel
theorem k_80_4 : hm_code 80 4 = some (.if_icmp .ge 26) := by decide +kernel
theorem k_80_7 : hm_code 80 7 = some (.iload_n 3) := by decide +kernel
theorem k_80_8 : hm_code 80 8 = some (.iload_n 1) := by decide +kernel
theorem k_80_9 : hm_code 80 9 = some (.if_icmp .eq 15) := by decide +kernel
theorem k_80_12 : hm_code 80 12 = some (.aload_n 0) := by decide +kernel
theorem k_80_13 : hm_code 80 13 = some (.getfield 15) := by decide +kernel
theorem k_80_16 : hm_code 80 16 = some (.iload_n 3) := by decide +kernel
theorem k_80_17 : hm_code 80 17 = some (.iaload) := by decide +kernel
theorem k_80_18 : hm_code 80 18 = some (.iload_n 2) := by decide +kernel
theorem k_80_19 : hm_code 80 19 = some (.if_icmp .ne 5) := by decide +kernel
theorem k_80_22 : hm_code 80 22 = some (.iconst 1) := by decide +kernel
theorem k_80_23 : hm_code 80 23 = some (.ireturn) := by decide +kernel
theorem k_80_24 : hm_code 80 24 = some (.iinc 3 1) := by decide +kernel
theorem k_80_27 : hm_code 80 27 = some (.goto (-25)) := by decide +kernel
theorem k_80_30 : hm_code 80 30 = some (.iconst 0) := by decide +kernel
theorem k_80_31 : hm_code 80 31 = some (.ireturn) := by decide +kernel
theorem m_81 : hm_mtab[81]? = some (⟨"HourPromised", "hasPlaceFor", "(LHourPromised$CaseFile;II)Z"⟩, prog_1_method_23_code, 4, (some .boolean), 7, 4, 1) := rfl
theorem k_81_0 : hm_code 81 0 = some (.iload_n 2) := by decide +kernel
theorem k_81_1 : hm_code 81 1 = some (.tableswitch 93 0 2 #[27, 46, 69]) := by decide +kernel
theorem k_81_28 : hm_code 81 28 = some (.aload_n 0) := by decide +kernel
theorem k_81_29 : hm_code 81 29 = some (.getfield 26) := by decide +kernel
theorem k_81_32 : hm_code 81 32 = some (.iload_n 3) := by decide +kernel
theorem k_81_33 : hm_code 81 33 = some (.aload_n 1) := by decide +kernel
theorem k_81_34 : hm_code 81 34 = some (.invokevirtual 219) := by decide +kernel
theorem k_81_37 : hm_code 81 37 = some (.aload_n 0) := by decide +kernel
theorem k_81_38 : hm_code 81 38 = some (.getfield 7) := by decide +kernel
theorem k_81_41 : hm_code 81 41 = some (.iconst 2) := by decide +kernel
theorem k_81_42 : hm_code 81 42 = some (.iaload) := by decide +kernel
theorem k_81_43 : hm_code 81 43 = some (.invokevirtual 222) := by decide +kernel
theorem k_81_46 : hm_code 81 46 = some (.ireturn) := by decide +kernel
theorem k_81_47 : hm_code 81 47 = some (.aload_n 0) := by decide +kernel
theorem k_81_48 : hm_code 81 48 = some (.getfield 26) := by decide +kernel
theorem k_81_51 : hm_code 81 51 = some (.iload_n 3) := by decide +kernel
theorem k_81_52 : hm_code 81 52 = some (.iconst 1) := by decide +kernel
theorem k_81_53 : hm_code 81 53 = some (.invokevirtual 99) := by decide +kernel
theorem k_81_56 : hm_code 81 56 = some (.aload_n 0) := by decide +kernel
theorem k_81_57 : hm_code 81 57 = some (.iload_n 3) := by decide +kernel
theorem k_81_58 : hm_code 81 58 = some (.invokevirtual 103) := by decide +kernel
theorem k_81_61 : hm_code 81 61 = some (.if_icmp .ge 7) := by decide +kernel
theorem k_81_64 : hm_code 81 64 = some (.iconst 1) := by decide +kernel
theorem k_81_65 : hm_code 81 65 = some (.goto 4) := by decide +kernel
theorem k_81_68 : hm_code 81 68 = some (.iconst 0) := by decide +kernel
theorem k_81_69 : hm_code 81 69 = some (.ireturn) := by decide +kernel
theorem k_81_70 : hm_code 81 70 = some (.aload_n 0) := by decide +kernel
theorem k_81_71 : hm_code 81 71 = some (.getfield 26) := by decide +kernel
theorem k_81_74 : hm_code 81 74 = some (.iload_n 3) := by decide +kernel
theorem k_81_75 : hm_code 81 75 = some (.iconst 2) := by decide +kernel
theorem k_81_76 : hm_code 81 76 = some (.invokevirtual 99) := by decide +kernel
theorem k_81_79 : hm_code 81 79 = some (.aload_n 0) := by decide +kernel
theorem k_81_80 : hm_code 81 80 = some (.getfield 7) := by decide +kernel
theorem k_81_83 : hm_code 81 83 = some (.iconst 1) := by decide +kernel
theorem k_81_84 : hm_code 81 84 = some (.iaload) := by decide +kernel
theorem k_81_85 : hm_code 81 85 = some (.if_icmp .ge 7) := by decide +kernel
theorem k_81_88 : hm_code 81 88 = some (.iconst 1) := by decide +kernel
theorem k_81_89 : hm_code 81 89 = some (.goto 4) := by decide +kernel
theorem k_81_92 : hm_code 81 92 = some (.iconst 0) := by decide +kernel
theorem k_81_93 : hm_code 81 93 = some (.ireturn) := by decide +kernel
theorem k_81_94 : hm_code 81 94 = some (.iconst 1) := by decide +kernel
theorem k_81_95 : hm_code 81 95 = some (.ireturn) := by decide +kernel
theorem m_82 : hm_mtab[82]? = some (⟨"HourPromised$Ledger", "hasRooms", "(III)Z"⟩, prog_6_method_4_code, 5, (some .boolean), 4, 4, 1) := rfl
theorem k_82_0 : hm_code 82 0 = some (.iload_n 1) := by decide +kernel
theorem k_82_1 : hm_code 82 1 = some (.istore 4) := by decide +kernel
theorem k_82_3 : hm_code 82 3 = some (.iload 4) := by decide +kernel
theorem k_82_5 : hm_code 82 5 = some (.iload_n 2) := by decide +kernel
theorem k_82_6 : hm_code 82 6 = some (.if_icmp .ge 24) := by decide +kernel
theorem k_82_9 : hm_code 82 9 = some (.aload_n 0) := by decide +kernel
theorem k_82_10 : hm_code 82 10 = some (.getfield 11) := by decide +kernel
theorem k_82_13 : hm_code 82 13 = some (.iconst 3) := by decide +kernel
theorem k_82_14 : hm_code 82 14 = some (.aaload) := by decide +kernel
theorem k_82_15 : hm_code 82 15 = some (.iload 4) := by decide +kernel
theorem k_82_17 : hm_code 82 17 = some (.iaload) := by decide +kernel
theorem k_82_18 : hm_code 82 18 = some (.iload_n 3) := by decide +kernel
theorem k_82_19 : hm_code 82 19 = some (.if_icmp .lt 5) := by decide +kernel
theorem k_82_22 : hm_code 82 22 = some (.iconst 0) := by decide +kernel
theorem k_82_23 : hm_code 82 23 = some (.ireturn) := by decide +kernel
theorem k_82_24 : hm_code 82 24 = some (.iinc 4 1) := by decide +kernel
theorem k_82_27 : hm_code 82 27 = some (.goto (-24)) := by decide +kernel
theorem k_82_30 : hm_code 82 30 = some (.iconst 1) := by decide +kernel
theorem k_82_31 : hm_code 82 31 = some (.ireturn) := by decide +kernel
theorem m_83 : hm_mtab[83]? = some (⟨"HourPromised", "hasBearersFor", "(LHourPromised$CaseFile;I)Z"⟩, prog_1_method_24_code, 5, (some .boolean), 7, 3, 1) := rfl
theorem k_83_0 : hm_code 83 0 = some (.aload_n 0) := by decide +kernel
theorem k_83_1 : hm_code 83 1 = some (.getfield 19) := by decide +kernel
theorem k_83_4 : hm_code 83 4 = some (.invokevirtual 225) := by decide +kernel
theorem k_83_7 : hm_code 83 7 = some (.iconst 0) := by decide +kernel
theorem k_83_8 : hm_code 83 8 = some (.istore_n 3) := by decide +kernel
theorem k_83_9 : hm_code 83 9 = some (.iload_n 3) := by decide +kernel
theorem k_83_10 : hm_code 83 10 = some (.aload_n 0) := by decide +kernel
theorem k_83_11 : hm_code 83 11 = some (.getfield 58) := by decide +kernel
theorem k_83_14 : hm_code 83 14 = some (.invokevirtual 124) := by decide +kernel
theorem k_83_17 : hm_code 83 17 = some (.if_icmp .ge 48) := by decide +kernel
theorem k_83_20 : hm_code 83 20 = some (.aload_n 0) := by decide +kernel
theorem k_83_21 : hm_code 83 21 = some (.getfield 58) := by decide +kernel
theorem k_83_24 : hm_code 83 24 = some (.iload_n 3) := by decide +kernel
theorem k_83_25 : hm_code 83 25 = some (.invokevirtual 128) := by decide +kernel
theorem k_83_28 : hm_code 83 28 = some (.checkcast 132) := by decide +kernel
theorem k_83_31 : hm_code 83 31 = some (.astore 4) := by decide +kernel
theorem k_83_33 : hm_code 83 33 = some (.aload 4) := by decide +kernel
theorem k_83_35 : hm_code 83 35 = some (.iload_n 2) := by decide +kernel
theorem k_83_36 : hm_code 83 36 = some (.invokevirtual 228) := by decide +kernel
theorem k_83_39 : hm_code 83 39 = some (.ifCond .eq 20) := by decide +kernel
theorem k_83_42 : hm_code 83 42 = some (.aload_n 0) := by decide +kernel
theorem k_83_43 : hm_code 83 43 = some (.getfield 19) := by decide +kernel
theorem k_83_46 : hm_code 83 46 = some (.aload 4) := by decide +kernel
theorem k_83_48 : hm_code 83 48 = some (.getfield 231) := by decide +kernel
theorem k_83_51 : hm_code 83 51 = some (.aload 4) := by decide +kernel
theorem k_83_53 : hm_code 83 53 = some (.getfield 234) := by decide +kernel
theorem k_83_56 : hm_code 83 56 = some (.invokevirtual 237) := by decide +kernel
theorem k_83_59 : hm_code 83 59 = some (.iinc 3 1) := by decide +kernel
theorem k_83_62 : hm_code 83 62 = some (.goto (-53)) := by decide +kernel
theorem k_83_65 : hm_code 83 65 = some (.aload_n 0) := by decide +kernel
theorem k_83_66 : hm_code 83 66 = some (.getfield 19) := by decide +kernel
theorem k_83_69 : hm_code 83 69 = some (.aload_n 1) := by decide +kernel
theorem k_83_70 : hm_code 83 70 = some (.getfield 231) := by decide +kernel
theorem k_83_73 : hm_code 83 73 = some (.aload_n 1) := by decide +kernel
theorem k_83_74 : hm_code 83 74 = some (.getfield 234) := by decide +kernel
theorem k_83_77 : hm_code 83 77 = some (.invokevirtual 237) := by decide +kernel
theorem k_83_80 : hm_code 83 80 = some (.aload_n 0) := by decide +kernel
theorem k_83_81 : hm_code 83 81 = some (.getfield 19) := by decide +kernel
theorem k_83_84 : hm_code 83 84 = some (.invokevirtual 241) := by decide +kernel
theorem k_83_87 : hm_code 83 87 = some (.ireturn) := by decide +kernel
theorem m_84 : hm_mtab[84]? = some (⟨"HourPromised$Bearers", "wantNothing", "()V"⟩, prog_2_method_3_code, 1, none, 0, 1, 1) := rfl
theorem k_84_0 : hm_code 84 0 = some (.aload_n 0) := by decide +kernel
theorem k_84_1 : hm_code 84 1 = some (.iconst 0) := by decide +kernel
theorem k_84_2 : hm_code 84 2 = some (.putfield 28) := by decide +kernel
theorem k_84_5 : hm_code 84 5 = some (.return_) := by decide +kernel
theorem m_85 : hm_mtab[85]? = some (⟨"HourPromised$CaseFile", "isCarriedAt", "(I)Z"⟩, prog_3_method_3_code, 2, (some .boolean), 1, 2, 1) := rfl
theorem k_85_0 : hm_code 85 0 = some (.aload_n 0) := by decide +kernel
theorem k_85_1 : hm_code 85 1 = some (.getfield 15) := by decide +kernel
theorem k_85_4 : hm_code 85 4 = some (.iconst 1) := by decide +kernel
theorem k_85_5 : hm_code 85 5 = some (.iaload) := by decide +kernel
theorem k_85_6 : hm_code 85 6 = some (.iload_n 1) := by decide +kernel
theorem k_85_7 : hm_code 85 7 = some (.if_icmp .eq 13) := by decide +kernel
theorem k_85_10 : hm_code 85 10 = some (.aload_n 0) := by decide +kernel
theorem k_85_11 : hm_code 85 11 = some (.getfield 15) := by decide +kernel
theorem k_85_14 : hm_code 85 14 = some (.iconst 3) := by decide +kernel
theorem k_85_15 : hm_code 85 15 = some (.iaload) := by decide +kernel
theorem k_85_16 : hm_code 85 16 = some (.iload_n 1) := by decide +kernel
theorem k_85_17 : hm_code 85 17 = some (.if_icmp .ne 7) := by decide +kernel
theorem k_85_20 : hm_code 85 20 = some (.iconst 1) := by decide +kernel
theorem k_85_21 : hm_code 85 21 = some (.goto 4) := by decide +kernel
theorem k_85_24 : hm_code 85 24 = some (.iconst 0) := by decide +kernel
theorem k_85_25 : hm_code 85 25 = some (.ireturn) := by decide +kernel
theorem m_86 : hm_mtab[86]? = some (⟨"HourPromised$Bearers", "want", "(II)V"⟩, prog_2_method_4_code, 3, none, 0, 3, 1) := rfl
theorem k_86_0 : hm_code 86 0 = some (.aload_n 0) := by decide +kernel
theorem k_86_1 : hm_code 86 1 = some (.getfield 28) := by decide +kernel
theorem k_86_4 : hm_code 86 4 = some (.iconst 4) := by decide +kernel
theorem k_86_5 : hm_code 86 5 = some (.if_icmp .ge 33) := by decide +kernel
theorem k_86_8 : hm_code 86 8 = some (.aload_n 0) := by decide +kernel
theorem k_86_9 : hm_code 86 9 = some (.getfield 19) := by decide +kernel
theorem k_86_12 : hm_code 86 12 = some (.aload_n 0) := by decide +kernel
theorem k_86_13 : hm_code 86 13 = some (.getfield 28) := by decide +kernel
theorem k_86_16 : hm_code 86 16 = some (.iload_n 1) := by decide +kernel
theorem k_86_17 : hm_code 86 17 = some (.iastore) := by decide +kernel
theorem k_86_18 : hm_code 86 18 = some (.aload_n 0) := by decide +kernel
theorem k_86_19 : hm_code 86 19 = some (.getfield 22) := by decide +kernel
theorem k_86_22 : hm_code 86 22 = some (.aload_n 0) := by decide +kernel
theorem k_86_23 : hm_code 86 23 = some (.getfield 28) := by decide +kernel
theorem k_86_26 : hm_code 86 26 = some (.iload_n 2) := by decide +kernel
theorem k_86_27 : hm_code 86 27 = some (.iastore) := by decide +kernel
theorem k_86_28 : hm_code 86 28 = some (.aload_n 0) := by decide +kernel
theorem k_86_29 : hm_code 86 29 = some (.dup) := by decide +kernel
theorem k_86_30 : hm_code 86 30 = some (.getfield 28) := by decide +kernel
theorem k_86_33 : hm_code 86 33 = some (.iconst 1) := by decide +kernel
theorem k_86_34 : hm_code 86 34 = some (.iadd) := by decide +kernel
theorem k_86_35 : hm_code 86 35 = some (.putfield 28) := by decide +kernel
theorem k_86_38 : hm_code 86 38 = some (.return_) := by decide +kernel
theorem m_87 : hm_mtab[87]? = some (⟨"HourPromised$Bearers", "findSets", "()Z"⟩, prog_2_method_6_code, 3, (some .boolean), 0, 1, 1) := rfl
theorem k_87_0 : hm_code 87 0 = some (.iconst 0) := by decide +kernel
theorem k_87_1 : hm_code 87 1 = some (.istore_n 1) := by decide +kernel
theorem k_87_2 : hm_code 87 2 = some (.iconst 0) := by decide +kernel
theorem k_87_3 : hm_code 87 3 = some (.istore_n 2) := by decide +kernel
theorem k_87_4 : hm_code 87 4 = some (.iload_n 2) := by decide +kernel
theorem k_87_5 : hm_code 87 5 = some (.aload_n 0) := by decide +kernel
theorem k_87_6 : hm_code 87 6 = some (.getfield 28) := by decide +kernel
theorem k_87_9 : hm_code 87 9 = some (.if_icmp .ge 18) := by decide +kernel
theorem k_87_12 : hm_code 87 12 = some (.iload_n 1) := by decide +kernel
theorem k_87_13 : hm_code 87 13 = some (.aload_n 0) := by decide +kernel
theorem k_87_14 : hm_code 87 14 = some (.getfield 19) := by decide +kernel
theorem k_87_17 : hm_code 87 17 = some (.iload_n 2) := by decide +kernel
theorem k_87_18 : hm_code 87 18 = some (.iaload) := by decide +kernel
theorem k_87_19 : hm_code 87 19 = some (.iadd) := by decide +kernel
theorem k_87_20 : hm_code 87 20 = some (.istore_n 1) := by decide +kernel
theorem k_87_21 : hm_code 87 21 = some (.iinc 2 1) := by decide +kernel
theorem k_87_24 : hm_code 87 24 = some (.goto (-20)) := by decide +kernel
theorem k_87_27 : hm_code 87 27 = some (.iload_n 1) := by decide +kernel
theorem k_87_28 : hm_code 87 28 = some (.aload_n 0) := by decide +kernel
theorem k_87_29 : hm_code 87 29 = some (.getfield 15) := by decide +kernel
theorem k_87_32 : hm_code 87 32 = some (.if_icmp .le 5) := by decide +kernel
theorem k_87_35 : hm_code 87 35 = some (.iconst 0) := by decide +kernel
theorem k_87_36 : hm_code 87 36 = some (.ireturn) := by decide +kernel
theorem k_87_37 : hm_code 87 37 = some (.iconst 1) := by decide +kernel
theorem k_87_38 : hm_code 87 38 = some (.istore_n 2) := by decide +kernel
theorem k_87_39 : hm_code 87 39 = some (.iload_n 2) := by decide +kernel
theorem k_87_40 : hm_code 87 40 = some (.aload_n 0) := by decide +kernel
theorem k_87_41 : hm_code 87 41 = some (.getfield 28) := by decide +kernel
theorem k_87_44 : hm_code 87 44 = some (.if_icmp .ge 19) := by decide +kernel
theorem k_87_47 : hm_code 87 47 = some (.aload_n 0) := by decide +kernel
theorem k_87_48 : hm_code 87 48 = some (.getfield 33) := by decide +kernel
theorem k_87_51 : hm_code 87 51 = some (.iload_n 2) := by decide +kernel
theorem k_87_52 : hm_code 87 52 = some (.aaload) := by decide +kernel
theorem k_87_53 : hm_code 87 53 = some (.lconst 0) := by decide +kernel
theorem k_87_54 : hm_code 87 54 = some (.invokestatic 36) := by decide +kernel
theorem k_87_57 : hm_code 87 57 = some (.iinc 2 1) := by decide +kernel
theorem k_87_60 : hm_code 87 60 = some (.goto (-21)) := by decide +kernel
theorem k_87_63 : hm_code 87 63 = some (.aload_n 0) := by decide +kernel
theorem k_87_64 : hm_code 87 64 = some (.iconst 0) := by decide +kernel
theorem k_87_65 : hm_code 87 65 = some (.iconst 0) := by decide +kernel
theorem k_87_66 : hm_code 87 66 = some (.invokevirtual 42) := by decide +kernel
theorem k_87_69 : hm_code 87 69 = some (.ireturn) := by decide +kernel
theorem m_88 : hm_mtab[88]? = some (⟨"java/util/Arrays", "fill", "([JJ)V"⟩, prog_20_method_101_code, 5, none, 11, 2, 0) := rfl
theorem k_88_0 : hm_code 88 0 = some (.iconst 0) := by decide +kernel
theorem k_88_1 : hm_code 88 1 = some (.istore_n 3) := by decide +kernel
theorem k_88_2 : hm_code 88 2 = some (.aload_n 0) := by decide +kernel
theorem k_88_3 : hm_code 88 3 = some (.arraylength) := by decide +kernel
theorem k_88_4 : hm_code 88 4 = some (.istore 4) := by decide +kernel
theorem k_88_6 : hm_code 88 6 = some (.iload_n 3) := by decide +kernel
theorem k_88_7 : hm_code 88 7 = some (.iload 4) := by decide +kernel
theorem k_88_9 : hm_code 88 9 = some (.if_icmp .ge 13) := by decide +kernel
theorem k_88_12 : hm_code 88 12 = some (.aload_n 0) := by decide +kernel
theorem k_88_13 : hm_code 88 13 = some (.iload_n 3) := by decide +kernel
theorem k_88_14 : hm_code 88 14 = some (.lload_n 1) := by decide +kernel
theorem k_88_15 : hm_code 88 15 = some (.lastore) := by decide +kernel
theorem k_88_16 : hm_code 88 16 = some (.iinc 3 1) := by decide +kernel
theorem k_88_19 : hm_code 88 19 = some (.goto (-13)) := by decide +kernel
theorem k_88_22 : hm_code 88 22 = some (.return_) := by decide +kernel
theorem m_89 : hm_mtab[89]? = some (⟨"HourPromised$Bearers", "findFrom", "(II)Z"⟩, prog_2_method_7_code, 7, (some .boolean), 0, 3, 1) := rfl
theorem k_89_0 : hm_code 89 0 = some (.iload_n 1) := by decide +kernel
theorem k_89_1 : hm_code 89 1 = some (.aload_n 0) := by decide +kernel
theorem k_89_2 : hm_code 89 2 = some (.getfield 28) := by decide +kernel
theorem k_89_5 : hm_code 89 5 = some (.if_icmp .lt 5) := by decide +kernel
theorem k_89_8 : hm_code 89 8 = some (.iconst 1) := by decide +kernel
theorem k_89_9 : hm_code 89 9 = some (.ireturn) := by decide +kernel
theorem k_89_10 : hm_code 89 10 = some (.iload_n 2) := by decide +kernel
theorem k_89_11 : hm_code 89 11 = some (.bipush 64) := by decide +kernel
theorem k_89_13 : hm_code 89 13 = some (.idiv) := by decide +kernel
theorem k_89_14 : hm_code 89 14 = some (.istore_n 3) := by decide +kernel
theorem k_89_15 : hm_code 89 15 = some (.lconst 1) := by decide +kernel
theorem k_89_16 : hm_code 89 16 = some (.iload_n 2) := by decide +kernel
theorem k_89_17 : hm_code 89 17 = some (.bipush 64) := by decide +kernel
theorem k_89_19 : hm_code 89 19 = some (.irem) := by decide +kernel
theorem k_89_20 : hm_code 89 20 = some (.lshl) := by decide +kernel
theorem k_89_21 : hm_code 89 21 = some (.lstore 4) := by decide +kernel
theorem k_89_23 : hm_code 89 23 = some (.iload_n 1) := by decide +kernel
theorem k_89_24 : hm_code 89 24 = some (.ifCond .le 21) := by decide +kernel
theorem k_89_27 : hm_code 89 27 = some (.aload_n 0) := by decide +kernel
theorem k_89_28 : hm_code 89 28 = some (.getfield 33) := by decide +kernel
theorem k_89_31 : hm_code 89 31 = some (.iload_n 1) := by decide +kernel
theorem k_89_32 : hm_code 89 32 = some (.aaload) := by decide +kernel
theorem k_89_33 : hm_code 89 33 = some (.iload_n 3) := by decide +kernel
theorem k_89_34 : hm_code 89 34 = some (.laload) := by decide +kernel
theorem k_89_35 : hm_code 89 35 = some (.lload 4) := by decide +kernel
theorem k_89_37 : hm_code 89 37 = some (.land) := by decide +kernel
theorem k_89_38 : hm_code 89 38 = some (.lconst 0) := by decide +kernel
theorem k_89_39 : hm_code 89 39 = some (.lcmp) := by decide +kernel
theorem k_89_40 : hm_code 89 40 = some (.ifCond .eq 5) := by decide +kernel
theorem k_89_43 : hm_code 89 43 = some (.iconst 0) := by decide +kernel
theorem k_89_44 : hm_code 89 44 = some (.ireturn) := by decide +kernel
theorem k_89_45 : hm_code 89 45 = some (.iconst 1) := by decide +kernel
theorem k_89_46 : hm_code 89 46 = some (.aload_n 0) := by decide +kernel
theorem k_89_47 : hm_code 89 47 = some (.getfield 15) := by decide +kernel
theorem k_89_50 : hm_code 89 50 = some (.ishl) := by decide +kernel
theorem k_89_51 : hm_code 89 51 = some (.iconst 1) := by decide +kernel
theorem k_89_52 : hm_code 89 52 = some (.isub) := by decide +kernel
theorem k_89_53 : hm_code 89 53 = some (.iload_n 2) := by decide +kernel
theorem k_89_54 : hm_code 89 54 = some (.iconst (-1)) := by decide +kernel
theorem k_89_55 : hm_code 89 55 = some (.ixor) := by decide +kernel
theorem k_89_56 : hm_code 89 56 = some (.iand) := by decide +kernel
theorem k_89_57 : hm_code 89 57 = some (.istore 6) := by decide +kernel
theorem k_89_59 : hm_code 89 59 = some (.aload_n 0) := by decide +kernel
theorem k_89_60 : hm_code 89 60 = some (.iload_n 1) := by decide +kernel
theorem k_89_61 : hm_code 89 61 = some (.iload_n 2) := by decide +kernel
theorem k_89_62 : hm_code 89 62 = some (.iconst 0) := by decide +kernel
theorem k_89_63 : hm_code 89 63 = some (.iload 6) := by decide +kernel
theorem k_89_65 : hm_code 89 65 = some (.invokevirtual 46) := by decide +kernel
theorem k_89_68 : hm_code 89 68 = some (.ifCond .eq 5) := by decide +kernel
theorem k_89_71 : hm_code 89 71 = some (.iconst 1) := by decide +kernel
theorem k_89_72 : hm_code 89 72 = some (.ireturn) := by decide +kernel
theorem k_89_73 : hm_code 89 73 = some (.aload_n 0) := by decide +kernel
theorem k_89_74 : hm_code 89 74 = some (.getfield 33) := by decide +kernel
theorem k_89_77 : hm_code 89 77 = some (.iload_n 1) := by decide +kernel
theorem k_89_78 : hm_code 89 78 = some (.aaload) := by decide +kernel
theorem k_89_79 : hm_code 89 79 = some (.iload_n 3) := by decide +kernel
theorem k_89_80 : hm_code 89 80 = some (.dup2) := by decide +kernel
theorem k_89_81 : hm_code 89 81 = some (.laload) := by decide +kernel
theorem k_89_82 : hm_code 89 82 = some (.lload 4) := by decide +kernel
theorem k_89_84 : hm_code 89 84 = some (.lor) := by decide +kernel
theorem k_89_85 : hm_code 89 85 = some (.lastore) := by decide +kernel
theorem k_89_86 : hm_code 89 86 = some (.iconst 0) := by decide +kernel
theorem k_89_87 : hm_code 89 87 = some (.ireturn) := by decide +kernel
theorem m_90 : hm_mtab[90]? = some (⟨"HourPromised$Bearers", "fillSet", "(IIII)Z"⟩, prog_2_method_8_code, 8, (some .boolean), 0, 5, 1) := rfl
theorem k_90_0 : hm_code 90 0 = some (.aload_n 0) := by decide +kernel
theorem k_90_1 : hm_code 90 1 = some (.getfield 19) := by decide +kernel
theorem k_90_4 : hm_code 90 4 = some (.iload_n 1) := by decide +kernel
theorem k_90_5 : hm_code 90 5 = some (.iaload) := by decide +kernel
theorem k_90_6 : hm_code 90 6 = some (.iload_n 3) := by decide +kernel
theorem k_90_7 : hm_code 90 7 = some (.invokestatic 50) := by decide +kernel
theorem k_90_10 : hm_code 90 10 = some (.isub) := by decide +kernel
theorem k_90_11 : hm_code 90 11 = some (.istore 5) := by decide +kernel
theorem k_90_13 : hm_code 90 13 = some (.iload 5) := by decide +kernel
theorem k_90_15 : hm_code 90 15 = some (.ifCond .gt 21) := by decide +kernel
theorem k_90_18 : hm_code 90 18 = some (.aload_n 0) := by decide +kernel
theorem k_90_19 : hm_code 90 19 = some (.getfield 25) := by decide +kernel
theorem k_90_22 : hm_code 90 22 = some (.iload_n 1) := by decide +kernel
theorem k_90_23 : hm_code 90 23 = some (.iload_n 3) := by decide +kernel
theorem k_90_24 : hm_code 90 24 = some (.iastore) := by decide +kernel
theorem k_90_25 : hm_code 90 25 = some (.aload_n 0) := by decide +kernel
theorem k_90_26 : hm_code 90 26 = some (.iload_n 1) := by decide +kernel
theorem k_90_27 : hm_code 90 27 = some (.iconst 1) := by decide +kernel
theorem k_90_28 : hm_code 90 28 = some (.iadd) := by decide +kernel
theorem k_90_29 : hm_code 90 29 = some (.iload_n 2) := by decide +kernel
theorem k_90_30 : hm_code 90 30 = some (.iload_n 3) := by decide +kernel
theorem k_90_31 : hm_code 90 31 = some (.ior) := by decide +kernel
theorem k_90_32 : hm_code 90 32 = some (.invokevirtual 42) := by decide +kernel
theorem k_90_35 : hm_code 90 35 = some (.ireturn) := by decide +kernel
theorem k_90_36 : hm_code 90 36 = some (.iload 4) := by decide +kernel
theorem k_90_38 : hm_code 90 38 = some (.istore 6) := by decide +kernel
theorem k_90_40 : hm_code 90 40 = some (.iconst 0) := by decide +kernel
theorem k_90_41 : hm_code 90 41 = some (.istore 7) := by decide +kernel
theorem k_90_43 : hm_code 90 43 = some (.iload 7) := by decide +kernel
theorem k_90_45 : hm_code 90 45 = some (.aload_n 0) := by decide +kernel
theorem k_90_46 : hm_code 90 46 = some (.getfield 15) := by decide +kernel
theorem k_90_49 : hm_code 90 49 = some (.if_icmp .ge 72) := by decide +kernel
theorem k_90_52 : hm_code 90 52 = some (.iload 6) := by decide +kernel
theorem k_90_54 : hm_code 90 54 = some (.invokestatic 50) := by decide +kernel
theorem k_90_57 : hm_code 90 57 = some (.iload 5) := by decide +kernel
theorem k_90_59 : hm_code 90 59 = some (.if_icmp .lt 62) := by decide +kernel
theorem k_90_62 : hm_code 90 62 = some (.iload 6) := by decide +kernel
theorem k_90_64 : hm_code 90 64 = some (.iload 7) := by decide +kernel
theorem k_90_66 : hm_code 90 66 = some (.invokestatic 56) := by decide +kernel
theorem k_90_69 : hm_code 90 69 = some (.ifCond .eq 46) := by decide +kernel
theorem k_90_72 : hm_code 90 72 = some (.iload 6) := by decide +kernel
theorem k_90_74 : hm_code 90 74 = some (.iconst 1) := by decide +kernel
theorem k_90_75 : hm_code 90 75 = some (.iload 7) := by decide +kernel
theorem k_90_77 : hm_code 90 77 = some (.ishl) := by decide +kernel
theorem k_90_78 : hm_code 90 78 = some (.iconst (-1)) := by decide +kernel
theorem k_90_79 : hm_code 90 79 = some (.ixor) := by decide +kernel
theorem k_90_80 : hm_code 90 80 = some (.iand) := by decide +kernel
theorem k_90_81 : hm_code 90 81 = some (.istore 6) := by decide +kernel
theorem k_90_83 : hm_code 90 83 = some (.aload_n 0) := by decide +kernel
theorem k_90_84 : hm_code 90 84 = some (.iload_n 1) := by decide +kernel
theorem k_90_85 : hm_code 90 85 = some (.iload_n 2) := by decide +kernel
theorem k_90_86 : hm_code 90 86 = some (.iload_n 3) := by decide +kernel
theorem k_90_87 : hm_code 90 87 = some (.iconst 1) := by decide +kernel
theorem k_90_88 : hm_code 90 88 = some (.iload 7) := by decide +kernel
theorem k_90_90 : hm_code 90 90 = some (.ishl) := by decide +kernel
theorem k_90_91 : hm_code 90 91 = some (.ior) := by decide +kernel
theorem k_90_92 : hm_code 90 92 = some (.iload 6) := by decide +kernel
theorem k_90_94 : hm_code 90 94 = some (.aload_n 0) := by decide +kernel
theorem k_90_95 : hm_code 90 95 = some (.iload 7) := by decide +kernel
theorem k_90_97 : hm_code 90 97 = some (.aload_n 0) := by decide +kernel
theorem k_90_98 : hm_code 90 98 = some (.getfield 22) := by decide +kernel
theorem k_90_101 : hm_code 90 101 = some (.iload_n 1) := by decide +kernel
theorem k_90_102 : hm_code 90 102 = some (.iaload) := by decide +kernel
theorem k_90_103 : hm_code 90 103 = some (.invokevirtual 59) := by decide +kernel
theorem k_90_106 : hm_code 90 106 = some (.iand) := by decide +kernel
theorem k_90_107 : hm_code 90 107 = some (.invokevirtual 46) := by decide +kernel
theorem k_90_110 : hm_code 90 110 = some (.ifCond .eq 5) := by decide +kernel
theorem k_90_113 : hm_code 90 113 = some (.iconst 1) := by decide +kernel
theorem k_90_114 : hm_code 90 114 = some (.ireturn) := by decide +kernel
theorem k_90_115 : hm_code 90 115 = some (.iinc 7 1) := by decide +kernel
theorem k_90_118 : hm_code 90 118 = some (.goto (-75)) := by decide +kernel
theorem k_90_121 : hm_code 90 121 = some (.iconst 0) := by decide +kernel
theorem k_90_122 : hm_code 90 122 = some (.ireturn) := by decide +kernel
theorem m_91 : hm_mtab[91]? = some (⟨"java/lang/Integer", "bitCount", "(I)I"⟩, prog_13_method_49_code, 1, (some .int), 18, 1, 0) := rfl
theorem k_91_0 : hm_code 91 0 = some (.iload_n 0) := by decide +kernel
theorem k_91_1 : hm_code 91 1 = some (.iload_n 0) := by decide +kernel
theorem k_91_2 : hm_code 91 2 = some (.iconst 1) := by decide +kernel
theorem k_91_3 : hm_code 91 3 = some (.iushr) := by decide +kernel
theorem k_91_4 : hm_code 91 4 = some (.ldc_w 265) := by decide +kernel
theorem k_91_7 : hm_code 91 7 = some (.iand) := by decide +kernel
theorem k_91_8 : hm_code 91 8 = some (.isub) := by decide +kernel
theorem k_91_9 : hm_code 91 9 = some (.istore_n 0) := by decide +kernel
theorem k_91_10 : hm_code 91 10 = some (.iload_n 0) := by decide +kernel
theorem k_91_11 : hm_code 91 11 = some (.ldc_w 266) := by decide +kernel
theorem k_91_14 : hm_code 91 14 = some (.iand) := by decide +kernel
theorem k_91_15 : hm_code 91 15 = some (.iload_n 0) := by decide +kernel
theorem k_91_16 : hm_code 91 16 = some (.iconst 2) := by decide +kernel
theorem k_91_17 : hm_code 91 17 = some (.iushr) := by decide +kernel
theorem k_91_18 : hm_code 91 18 = some (.ldc_w 266) := by decide +kernel
theorem k_91_21 : hm_code 91 21 = some (.iand) := by decide +kernel
theorem k_91_22 : hm_code 91 22 = some (.iadd) := by decide +kernel
theorem k_91_23 : hm_code 91 23 = some (.istore_n 0) := by decide +kernel
theorem k_91_24 : hm_code 91 24 = some (.iload_n 0) := by decide +kernel
theorem k_91_25 : hm_code 91 25 = some (.iload_n 0) := by decide +kernel
theorem k_91_26 : hm_code 91 26 = some (.iconst 4) := by decide +kernel
theorem k_91_27 : hm_code 91 27 = some (.iushr) := by decide +kernel
theorem k_91_28 : hm_code 91 28 = some (.iadd) := by decide +kernel
theorem k_91_29 : hm_code 91 29 = some (.ldc_w 267) := by decide +kernel
theorem k_91_32 : hm_code 91 32 = some (.iand) := by decide +kernel
theorem k_91_33 : hm_code 91 33 = some (.istore_n 0) := by decide +kernel
theorem k_91_34 : hm_code 91 34 = some (.iload_n 0) := by decide +kernel
theorem k_91_35 : hm_code 91 35 = some (.iload_n 0) := by decide +kernel
theorem k_91_36 : hm_code 91 36 = some (.bipush 8) := by decide +kernel
theorem k_91_38 : hm_code 91 38 = some (.iushr) := by decide +kernel
theorem k_91_39 : hm_code 91 39 = some (.iadd) := by decide +kernel
theorem k_91_40 : hm_code 91 40 = some (.istore_n 0) := by decide +kernel
theorem k_91_41 : hm_code 91 41 = some (.iload_n 0) := by decide +kernel
theorem k_91_42 : hm_code 91 42 = some (.iload_n 0) := by decide +kernel
theorem k_91_43 : hm_code 91 43 = some (.bipush 16) := by decide +kernel
theorem k_91_45 : hm_code 91 45 = some (.iushr) := by decide +kernel
theorem k_91_46 : hm_code 91 46 = some (.iadd) := by decide +kernel
theorem k_91_47 : hm_code 91 47 = some (.istore_n 0) := by decide +kernel
theorem k_91_48 : hm_code 91 48 = some (.iload_n 0) := by decide +kernel
theorem k_91_49 : hm_code 91 49 = some (.bipush 63) := by decide +kernel
theorem k_91_51 : hm_code 91 51 = some (.iand) := by decide +kernel
theorem k_91_52 : hm_code 91 52 = some (.ireturn) := by decide +kernel
theorem m_92 : hm_mtab[92]? = some (⟨"HourPromised$Bearers", "likeInHeight", "(II)I"⟩, prog_2_method_9_code, 5, (some .int), 0, 3, 1) := rfl
theorem k_92_0 : hm_code 92 0 = some (.iconst 0) := by decide +kernel
theorem k_92_1 : hm_code 92 1 = some (.istore_n 3) := by decide +kernel
theorem k_92_2 : hm_code 92 2 = some (.iconst 0) := by decide +kernel
theorem k_92_3 : hm_code 92 3 = some (.istore 4) := by decide +kernel
theorem k_92_5 : hm_code 92 5 = some (.iload 4) := by decide +kernel
theorem k_92_7 : hm_code 92 7 = some (.aload_n 0) := by decide +kernel
theorem k_92_8 : hm_code 92 8 = some (.getfield 15) := by decide +kernel
theorem k_92_11 : hm_code 92 11 = some (.if_icmp .ge 41) := by decide +kernel
theorem k_92_14 : hm_code 92 14 = some (.iload_n 3) := by decide +kernel
theorem k_92_15 : hm_code 92 15 = some (.aload_n 0) := by decide +kernel
theorem k_92_16 : hm_code 92 16 = some (.getfield 11) := by decide +kernel
theorem k_92_19 : hm_code 92 19 = some (.iload 4) := by decide +kernel
theorem k_92_21 : hm_code 92 21 = some (.iaload) := by decide +kernel
theorem k_92_22 : hm_code 92 22 = some (.aload_n 0) := by decide +kernel
theorem k_92_23 : hm_code 92 23 = some (.getfield 11) := by decide +kernel
theorem k_92_26 : hm_code 92 26 = some (.iload_n 1) := by decide +kernel
theorem k_92_27 : hm_code 92 27 = some (.iaload) := by decide +kernel
theorem k_92_28 : hm_code 92 28 = some (.isub) := by decide +kernel
theorem k_92_29 : hm_code 92 29 = some (.invokestatic 63) := by decide +kernel
theorem k_92_32 : hm_code 92 32 = some (.iload_n 2) := by decide +kernel
theorem k_92_33 : hm_code 92 33 = some (.if_icmp .gt 10) := by decide +kernel
theorem k_92_36 : hm_code 92 36 = some (.iconst 1) := by decide +kernel
theorem k_92_37 : hm_code 92 37 = some (.iload 4) := by decide +kernel
theorem k_92_39 : hm_code 92 39 = some (.ishl) := by decide +kernel
theorem k_92_40 : hm_code 92 40 = some (.goto 4) := by decide +kernel
theorem k_92_43 : hm_code 92 43 = some (.iconst 0) := by decide +kernel
theorem k_92_44 : hm_code 92 44 = some (.ior) := by decide +kernel
theorem k_92_45 : hm_code 92 45 = some (.istore_n 3) := by decide +kernel
theorem k_92_46 : hm_code 92 46 = some (.iinc 4 1) := by decide +kernel
theorem k_92_49 : hm_code 92 49 = some (.goto (-44)) := by decide +kernel
theorem k_92_52 : hm_code 92 52 = some (.iload_n 3) := by decide +kernel
theorem k_92_53 : hm_code 92 53 = some (.ireturn) := by decide +kernel
theorem m_93 : hm_mtab[93]? = some (⟨"java/lang/Math", "abs", "(I)I"⟩, prog_15_method_59_code, 1, (some .int), 14, 1, 0) := rfl
theorem k_93_0 : hm_code 93 0 = some (.iload_n 0) := by decide +kernel
theorem k_93_1 : hm_code 93 1 = some (.ifCond .ge 8) := by decide +kernel
theorem k_93_4 : hm_code 93 4 = some (.iload_n 0) := by decide +kernel
theorem k_93_5 : hm_code 93 5 = some (.ineg) := by decide +kernel
theorem k_93_6 : hm_code 93 6 = some (.goto 4) := by decide +kernel
theorem k_93_9 : hm_code 93 9 = some (.iload_n 0) := by decide +kernel
theorem k_93_10 : hm_code 93 10 = some (.ireturn) := by decide +kernel
theorem m_94 : hm_mtab[94]? = some (⟨"HourPromised", "promise", "(III)I"⟩, prog_1_method_15_code, 5, (some .int), 7, 4, 1) := rfl
theorem k_94_0 : hm_code 94 0 = some (.aload_n 0) := by decide +kernel
theorem k_94_1 : hm_code 94 1 = some (.iload_n 1) := by decide +kernel
theorem k_94_2 : hm_code 94 2 = some (.invokevirtual 161) := by decide +kernel
theorem k_94_5 : hm_code 94 5 = some (.astore 4) := by decide +kernel
theorem k_94_7 : hm_code 94 7 = some (.aload 4) := by decide +kernel
theorem k_94_9 : hm_code 94 9 = some (.ifnonnull 7) := by decide +kernel
theorem k_94_12 : hm_code 94 12 = some (.sipush (-1001)) := by decide +kernel
theorem k_94_15 : hm_code 94 15 = some (.ireturn) := by decide +kernel
theorem k_94_16 : hm_code 94 16 = some (.iload_n 2) := by decide +kernel
theorem k_94_17 : hm_code 94 17 = some (.invokestatic 144) := by decide +kernel
theorem k_94_20 : hm_code 94 20 = some (.ifCond .eq 10) := by decide +kernel
theorem k_94_23 : hm_code 94 23 = some (.iload_n 3) := by decide +kernel
theorem k_94_24 : hm_code 94 24 = some (.invokestatic 151) := by decide +kernel
theorem k_94_27 : hm_code 94 27 = some (.ifCond .ne 7) := by decide +kernel
theorem k_94_30 : hm_code 94 30 = some (.sipush (-1002)) := by decide +kernel
theorem k_94_33 : hm_code 94 33 = some (.ireturn) := by decide +kernel
theorem k_94_34 : hm_code 94 34 = some (.aload_n 0) := by decide +kernel
theorem k_94_35 : hm_code 94 35 = some (.aload 4) := by decide +kernel
theorem k_94_37 : hm_code 94 37 = some (.iload_n 2) := by decide +kernel
theorem k_94_38 : hm_code 94 38 = some (.iload_n 3) := by decide +kernel
theorem k_94_39 : hm_code 94 39 = some (.invokevirtual 168) := by decide +kernel
theorem k_94_42 : hm_code 94 42 = some (.ifCond .eq 7) := by decide +kernel
theorem k_94_45 : hm_code 94 45 = some (.sipush (-1003)) := by decide +kernel
theorem k_94_48 : hm_code 94 48 = some (.ireturn) := by decide +kernel
theorem k_94_49 : hm_code 94 49 = some (.aload_n 0) := by decide +kernel
theorem k_94_50 : hm_code 94 50 = some (.aload 4) := by decide +kernel
theorem k_94_52 : hm_code 94 52 = some (.iload_n 2) := by decide +kernel
theorem k_94_53 : hm_code 94 53 = some (.iload_n 3) := by decide +kernel
theorem k_94_54 : hm_code 94 54 = some (.invokevirtual 172) := by decide +kernel
theorem k_94_57 : hm_code 94 57 = some (.iconst 1) := by decide +kernel
theorem k_94_58 : hm_code 94 58 = some (.ireturn) := by decide +kernel
theorem m_95 : hm_mtab[95]? = some (⟨"HourPromised", "book", "(LHourPromised$CaseFile;II)V"⟩, prog_1_method_27_code, 4, none, 7, 4, 1) := rfl
theorem k_95_0 : hm_code 95 0 = some (.aload_n 0) := by decide +kernel
theorem k_95_1 : hm_code 95 1 = some (.getfield 26) := by decide +kernel
theorem k_95_4 : hm_code 95 4 = some (.aload_n 1) := by decide +kernel
theorem k_95_5 : hm_code 95 5 = some (.iconst (-1)) := by decide +kernel
theorem k_95_6 : hm_code 95 6 = some (.invokevirtual 250) := by decide +kernel
theorem k_95_9 : hm_code 95 9 = some (.aload_n 1) := by decide +kernel
theorem k_95_10 : hm_code 95 10 = some (.getfield 183) := by decide +kernel
theorem k_95_13 : hm_code 95 13 = some (.iload_n 2) := by decide +kernel
theorem k_95_14 : hm_code 95 14 = some (.iload_n 3) := by decide +kernel
theorem k_95_15 : hm_code 95 15 = some (.iastore) := by decide +kernel
theorem k_95_16 : hm_code 95 16 = some (.aload_n 0) := by decide +kernel
theorem k_95_17 : hm_code 95 17 = some (.getfield 26) := by decide +kernel
theorem k_95_20 : hm_code 95 20 = some (.aload_n 1) := by decide +kernel
theorem k_95_21 : hm_code 95 21 = some (.iload_n 2) := by decide +kernel
theorem k_95_22 : hm_code 95 22 = some (.iconst 1) := by decide +kernel
theorem k_95_23 : hm_code 95 23 = some (.invokevirtual 253) := by decide +kernel
theorem k_95_26 : hm_code 95 26 = some (.aload_n 0) := by decide +kernel
theorem k_95_27 : hm_code 95 27 = some (.getfield 26) := by decide +kernel
theorem k_95_30 : hm_code 95 30 = some (.aload_n 1) := by decide +kernel
theorem k_95_31 : hm_code 95 31 = some (.iconst 1) := by decide +kernel
theorem k_95_32 : hm_code 95 32 = some (.invokevirtual 250) := by decide +kernel
theorem k_95_35 : hm_code 95 35 = some (.aload_n 0) := by decide +kernel
theorem k_95_36 : hm_code 95 36 = some (.dup) := by decide +kernel
theorem k_95_37 : hm_code 95 37 = some (.getfield 62) := by decide +kernel
theorem k_95_40 : hm_code 95 40 = some (.iconst 1) := by decide +kernel
theorem k_95_41 : hm_code 95 41 = some (.iadd) := by decide +kernel
theorem k_95_42 : hm_code 95 42 = some (.putfield 62) := by decide +kernel
theorem k_95_45 : hm_code 95 45 = some (.return_) := by decide +kernel
theorem m_96 : hm_mtab[96]? = some (⟨"HourPromised", "earliest", "(III)I"⟩, prog_1_method_16_code, 6, (some .int), 7, 4, 1) := rfl
theorem k_96_0 : hm_code 96 0 = some (.aload_n 0) := by decide +kernel
theorem k_96_1 : hm_code 96 1 = some (.iload_n 1) := by decide +kernel
theorem k_96_2 : hm_code 96 2 = some (.invokevirtual 161) := by decide +kernel
theorem k_96_5 : hm_code 96 5 = some (.astore 4) := by decide +kernel
theorem k_96_7 : hm_code 96 7 = some (.aload 4) := by decide +kernel
theorem k_96_9 : hm_code 96 9 = some (.ifnonnull 7) := by decide +kernel
theorem k_96_12 : hm_code 96 12 = some (.sipush (-1001)) := by decide +kernel
theorem k_96_15 : hm_code 96 15 = some (.ireturn) := by decide +kernel
theorem k_96_16 : hm_code 96 16 = some (.iload_n 2) := by decide +kernel
theorem k_96_17 : hm_code 96 17 = some (.invokestatic 144) := by decide +kernel
theorem k_96_20 : hm_code 96 20 = some (.ifCond .eq 10) := by decide +kernel
theorem k_96_23 : hm_code 96 23 = some (.iload_n 3) := by decide +kernel
theorem k_96_24 : hm_code 96 24 = some (.invokestatic 151) := by decide +kernel
theorem k_96_27 : hm_code 96 27 = some (.ifCond .ne 7) := by decide +kernel
theorem k_96_30 : hm_code 96 30 = some (.sipush (-1002)) := by decide +kernel
theorem k_96_33 : hm_code 96 33 = some (.ireturn) := by decide +kernel
theorem k_96_34 : hm_code 96 34 = some (.iload_n 3) := by decide +kernel
theorem k_96_35 : hm_code 96 35 = some (.istore 5) := by decide +kernel
theorem k_96_37 : hm_code 96 37 = some (.iload 5) := by decide +kernel
theorem k_96_39 : hm_code 96 39 = some (.sipush 400) := by decide +kernel
theorem k_96_42 : hm_code 96 42 = some (.if_icmp .ge 24) := by decide +kernel
theorem k_96_45 : hm_code 96 45 = some (.aload_n 0) := by decide +kernel
theorem k_96_46 : hm_code 96 46 = some (.aload 4) := by decide +kernel
theorem k_96_48 : hm_code 96 48 = some (.iload_n 2) := by decide +kernel
theorem k_96_49 : hm_code 96 49 = some (.iload 5) := by decide +kernel
theorem k_96_51 : hm_code 96 51 = some (.invokevirtual 168) := by decide +kernel
theorem k_96_54 : hm_code 96 54 = some (.ifCond .ne 6) := by decide +kernel
theorem k_96_57 : hm_code 96 57 = some (.iload 5) := by decide +kernel
theorem k_96_59 : hm_code 96 59 = some (.ireturn) := by decide +kernel
theorem k_96_60 : hm_code 96 60 = some (.iinc 5 1) := by decide +kernel
theorem k_96_63 : hm_code 96 63 = some (.goto (-26)) := by decide +kernel
theorem k_96_66 : hm_code 96 66 = some (.iconst (-1)) := by decide +kernel
theorem k_96_67 : hm_code 96 67 = some (.ireturn) := by decide +kernel
theorem m_97 : hm_mtab[97]? = some (⟨"HourPromised", "undo", "(II)I"⟩, prog_1_method_17_code, 4, (some .int), 7, 3, 1) := rfl
theorem k_97_0 : hm_code 97 0 = some (.aload_n 0) := by decide +kernel
theorem k_97_1 : hm_code 97 1 = some (.iload_n 1) := by decide +kernel
theorem k_97_2 : hm_code 97 2 = some (.invokevirtual 161) := by decide +kernel
theorem k_97_5 : hm_code 97 5 = some (.astore_n 3) := by decide +kernel
theorem k_97_6 : hm_code 97 6 = some (.aload_n 3) := by decide +kernel
theorem k_97_7 : hm_code 97 7 = some (.ifnonnull 7) := by decide +kernel
theorem k_97_10 : hm_code 97 10 = some (.sipush (-1001)) := by decide +kernel
theorem k_97_13 : hm_code 97 13 = some (.ireturn) := by decide +kernel
theorem k_97_14 : hm_code 97 14 = some (.iload_n 2) := by decide +kernel
theorem k_97_15 : hm_code 97 15 = some (.invokestatic 144) := by decide +kernel
theorem k_97_18 : hm_code 97 18 = some (.ifCond .ne 7) := by decide +kernel
theorem k_97_21 : hm_code 97 21 = some (.sipush (-1002)) := by decide +kernel
theorem k_97_24 : hm_code 97 24 = some (.ireturn) := by decide +kernel
theorem k_97_25 : hm_code 97 25 = some (.aload_n 3) := by decide +kernel
theorem k_97_26 : hm_code 97 26 = some (.iload_n 2) := by decide +kernel
theorem k_97_27 : hm_code 97 27 = some (.invokevirtual 176) := by decide +kernel
theorem k_97_30 : hm_code 97 30 = some (.ifCond .ne 7) := by decide +kernel
theorem k_97_33 : hm_code 97 33 = some (.sipush (-1003)) := by decide +kernel
theorem k_97_36 : hm_code 97 36 = some (.ireturn) := by decide +kernel
theorem k_97_37 : hm_code 97 37 = some (.aload_n 0) := by decide +kernel
theorem k_97_38 : hm_code 97 38 = some (.aload_n 3) := by decide +kernel
theorem k_97_39 : hm_code 97 39 = some (.iload_n 2) := by decide +kernel
theorem k_97_40 : hm_code 97 40 = some (.invokevirtual 179) := by decide +kernel
theorem k_97_43 : hm_code 97 43 = some (.iconst 1) := by decide +kernel
theorem k_97_44 : hm_code 97 44 = some (.aload_n 0) := by decide +kernel
theorem k_97_45 : hm_code 97 45 = some (.aload_n 3) := by decide +kernel
theorem k_97_46 : hm_code 97 46 = some (.invokevirtual 137) := by decide +kernel
theorem k_97_49 : hm_code 97 49 = some (.iadd) := by decide +kernel
theorem k_97_50 : hm_code 97 50 = some (.ireturn) := by decide +kernel
theorem m_98 : hm_mtab[98]? = some (⟨"HourPromised", "promised", "(III)I"⟩, prog_1_method_18_code, 5, (some .int), 7, 4, 1) := rfl
theorem k_98_0 : hm_code 98 0 = some (.aload_n 0) := by decide +kernel
theorem k_98_1 : hm_code 98 1 = some (.iload_n 1) := by decide +kernel
theorem k_98_2 : hm_code 98 2 = some (.invokevirtual 161) := by decide +kernel
theorem k_98_5 : hm_code 98 5 = some (.astore 4) := by decide +kernel
theorem k_98_7 : hm_code 98 7 = some (.aload 4) := by decide +kernel
theorem k_98_9 : hm_code 98 9 = some (.ifnonnull 7) := by decide +kernel
theorem k_98_12 : hm_code 98 12 = some (.sipush (-1001)) := by decide +kernel
theorem k_98_15 : hm_code 98 15 = some (.ireturn) := by decide +kernel
theorem k_98_16 : hm_code 98 16 = some (.iload_n 2) := by decide +kernel
theorem k_98_17 : hm_code 98 17 = some (.invokestatic 144) := by decide +kernel
theorem k_98_20 : hm_code 98 20 = some (.ifCond .ne 7) := by decide +kernel
theorem k_98_23 : hm_code 98 23 = some (.sipush (-1002)) := by decide +kernel
theorem k_98_26 : hm_code 98 26 = some (.ireturn) := by decide +kernel
theorem k_98_27 : hm_code 98 27 = some (.iload_n 3) := by decide +kernel
theorem k_98_28 : hm_code 98 28 = some (.tableswitch 82 0 2 #[28, 36, 58]) := by decide +kernel
theorem k_98_56 : hm_code 98 56 = some (.aload 4) := by decide +kernel
theorem k_98_58 : hm_code 98 58 = some (.getfield 183) := by decide +kernel
theorem k_98_61 : hm_code 98 61 = some (.iload_n 2) := by decide +kernel
theorem k_98_62 : hm_code 98 62 = some (.iaload) := by decide +kernel
theorem k_98_63 : hm_code 98 63 = some (.ireturn) := by decide +kernel
theorem k_98_64 : hm_code 98 64 = some (.iload_n 2) := by decide +kernel
theorem k_98_65 : hm_code 98 65 = some (.iconst 1) := by decide +kernel
theorem k_98_66 : hm_code 98 66 = some (.if_icmp .ne 18) := by decide +kernel
theorem k_98_69 : hm_code 98 69 = some (.aload_n 0) := by decide +kernel
theorem k_98_70 : hm_code 98 70 = some (.iload_n 1) := by decide +kernel
theorem k_98_71 : hm_code 98 71 = some (.aload 4) := by decide +kernel
theorem k_98_73 : hm_code 98 73 = some (.getfield 183) := by decide +kernel
theorem k_98_76 : hm_code 98 76 = some (.iconst 1) := by decide +kernel
theorem k_98_77 : hm_code 98 77 = some (.iaload) := by decide +kernel
theorem k_98_78 : hm_code 98 78 = some (.invokevirtual 186) := by decide +kernel
theorem k_98_81 : hm_code 98 81 = some (.goto 4) := by decide +kernel
theorem k_98_84 : hm_code 98 84 = some (.iconst (-1)) := by decide +kernel
theorem k_98_85 : hm_code 98 85 = some (.ireturn) := by decide +kernel
theorem k_98_86 : hm_code 98 86 = some (.iload_n 2) := by decide +kernel
theorem k_98_87 : hm_code 98 87 = some (.invokestatic 189) := by decide +kernel
theorem k_98_90 : hm_code 98 90 = some (.ifCond .eq 18) := by decide +kernel
theorem k_98_93 : hm_code 98 93 = some (.aload_n 0) := by decide +kernel
theorem k_98_94 : hm_code 98 94 = some (.iload_n 1) := by decide +kernel
theorem k_98_95 : hm_code 98 95 = some (.aload 4) := by decide +kernel
theorem k_98_97 : hm_code 98 97 = some (.getfield 183) := by decide +kernel
theorem k_98_100 : hm_code 98 100 = some (.iload_n 2) := by decide +kernel
theorem k_98_101 : hm_code 98 101 = some (.iaload) := by decide +kernel
theorem k_98_102 : hm_code 98 102 = some (.invokevirtual 192) := by decide +kernel
theorem k_98_105 : hm_code 98 105 = some (.goto 4) := by decide +kernel
theorem k_98_108 : hm_code 98 108 = some (.iconst 0) := by decide +kernel
theorem k_98_109 : hm_code 98 109 = some (.ireturn) := by decide +kernel
theorem k_98_110 : hm_code 98 110 = some (.sipush (-1002)) := by decide +kernel
theorem k_98_113 : hm_code 98 113 = some (.ireturn) := by decide +kernel
theorem m_99 : hm_mtab[99]? = some (⟨"HourPromised", "chapelOf", "(II)I"⟩, prog_1_method_26_code, 5, (some .int), 7, 3, 1) := rfl
theorem k_99_0 : hm_code 99 0 = some (.iload_n 2) := by decide +kernel
theorem k_99_1 : hm_code 99 1 = some (.iconst (-1)) := by decide +kernel
theorem k_99_2 : hm_code 99 2 = some (.if_icmp .ne 5) := by decide +kernel
theorem k_99_5 : hm_code 99 5 = some (.iconst (-1)) := by decide +kernel
theorem k_99_6 : hm_code 99 6 = some (.ireturn) := by decide +kernel
theorem k_99_7 : hm_code 99 7 = some (.iconst 0) := by decide +kernel
theorem k_99_8 : hm_code 99 8 = some (.istore_n 3) := by decide +kernel
theorem k_99_9 : hm_code 99 9 = some (.iconst 0) := by decide +kernel
theorem k_99_10 : hm_code 99 10 = some (.istore 4) := by decide +kernel
theorem k_99_12 : hm_code 99 12 = some (.iload 4) := by decide +kernel
theorem k_99_14 : hm_code 99 14 = some (.iload_n 1) := by decide +kernel
theorem k_99_15 : hm_code 99 15 = some (.if_icmp .ge 50) := by decide +kernel
theorem k_99_18 : hm_code 99 18 = some (.iload 4) := by decide +kernel
theorem k_99_20 : hm_code 99 20 = some (.aload_n 0) := by decide +kernel
theorem k_99_21 : hm_code 99 21 = some (.getfield 58) := by decide +kernel
theorem k_99_24 : hm_code 99 24 = some (.invokevirtual 124) := by decide +kernel
theorem k_99_27 : hm_code 99 27 = some (.if_icmp .ge 38) := by decide +kernel
theorem k_99_30 : hm_code 99 30 = some (.iload_n 3) := by decide +kernel
theorem k_99_31 : hm_code 99 31 = some (.aload_n 0) := by decide +kernel
theorem k_99_32 : hm_code 99 32 = some (.getfield 58) := by decide +kernel
theorem k_99_35 : hm_code 99 35 = some (.iload 4) := by decide +kernel
theorem k_99_37 : hm_code 99 37 = some (.invokevirtual 128) := by decide +kernel
theorem k_99_40 : hm_code 99 40 = some (.checkcast 132) := by decide +kernel
theorem k_99_43 : hm_code 99 43 = some (.getfield 183) := by decide +kernel
theorem k_99_46 : hm_code 99 46 = some (.iconst 1) := by decide +kernel
theorem k_99_47 : hm_code 99 47 = some (.iaload) := by decide +kernel
theorem k_99_48 : hm_code 99 48 = some (.iload_n 2) := by decide +kernel
theorem k_99_49 : hm_code 99 49 = some (.if_icmp .ne 7) := by decide +kernel
theorem k_99_52 : hm_code 99 52 = some (.iconst 1) := by decide +kernel
theorem k_99_53 : hm_code 99 53 = some (.goto 4) := by decide +kernel
theorem k_99_56 : hm_code 99 56 = some (.iconst 0) := by decide +kernel
theorem k_99_57 : hm_code 99 57 = some (.iadd) := by decide +kernel
theorem k_99_58 : hm_code 99 58 = some (.istore_n 3) := by decide +kernel
theorem k_99_59 : hm_code 99 59 = some (.iinc 4 1) := by decide +kernel
theorem k_99_62 : hm_code 99 62 = some (.goto (-50)) := by decide +kernel
theorem k_99_65 : hm_code 99 65 = some (.iconst 0) := by decide +kernel
theorem k_99_66 : hm_code 99 66 = some (.istore 4) := by decide +kernel
theorem k_99_68 : hm_code 99 68 = some (.iload 4) := by decide +kernel
theorem k_99_70 : hm_code 99 70 = some (.iconst 3) := by decide +kernel
theorem k_99_71 : hm_code 99 71 = some (.if_icmp .ge 29) := by decide +kernel
theorem k_99_74 : hm_code 99 74 = some (.aload_n 0) := by decide +kernel
theorem k_99_75 : hm_code 99 75 = some (.iload 4) := by decide +kernel
theorem k_99_77 : hm_code 99 77 = some (.iload_n 2) := by decide +kernel
theorem k_99_78 : hm_code 99 78 = some (.invokevirtual 106) := by decide +kernel
theorem k_99_81 : hm_code 99 81 = some (.ifCond .eq 13) := by decide +kernel
theorem k_99_84 : hm_code 99 84 = some (.iload_n 3) := by decide +kernel
theorem k_99_85 : hm_code 99 85 = some (.ifCond .ne 6) := by decide +kernel
theorem k_99_88 : hm_code 99 88 = some (.iload 4) := by decide +kernel
theorem k_99_90 : hm_code 99 90 = some (.ireturn) := by decide +kernel
theorem k_99_91 : hm_code 99 91 = some (.iinc 3 (-1)) := by decide +kernel
theorem k_99_94 : hm_code 99 94 = some (.iinc 4 1) := by decide +kernel
theorem k_99_97 : hm_code 99 97 = some (.goto (-29)) := by decide +kernel
theorem k_99_100 : hm_code 99 100 = some (.iconst (-1)) := by decide +kernel
theorem k_99_101 : hm_code 99 101 = some (.ireturn) := by decide +kernel
theorem m_100 : hm_mtab[100]? = some (⟨"HourPromised", "bearersOf", "(II)I"⟩, prog_1_method_25_code, 6, (some .int), 7, 3, 1) := rfl
theorem k_100_0 : hm_code 100 0 = some (.iload_n 2) := by decide +kernel
theorem k_100_1 : hm_code 100 1 = some (.iconst (-1)) := by decide +kernel
theorem k_100_2 : hm_code 100 2 = some (.if_icmp .ne 5) := by decide +kernel
theorem k_100_5 : hm_code 100 5 = some (.iconst 0) := by decide +kernel
theorem k_100_6 : hm_code 100 6 = some (.ireturn) := by decide +kernel
theorem k_100_7 : hm_code 100 7 = some (.iconst (-1)) := by decide +kernel
theorem k_100_8 : hm_code 100 8 = some (.istore_n 3) := by decide +kernel
theorem k_100_9 : hm_code 100 9 = some (.aload_n 0) := by decide +kernel
theorem k_100_10 : hm_code 100 10 = some (.getfield 19) := by decide +kernel
theorem k_100_13 : hm_code 100 13 = some (.invokevirtual 225) := by decide +kernel
theorem k_100_16 : hm_code 100 16 = some (.iconst 0) := by decide +kernel
theorem k_100_17 : hm_code 100 17 = some (.istore 4) := by decide +kernel
theorem k_100_19 : hm_code 100 19 = some (.iload 4) := by decide +kernel
theorem k_100_21 : hm_code 100 21 = some (.aload_n 0) := by decide +kernel
theorem k_100_22 : hm_code 100 22 = some (.getfield 58) := by decide +kernel
theorem k_100_25 : hm_code 100 25 = some (.invokevirtual 124) := by decide +kernel
theorem k_100_28 : hm_code 100 28 = some (.if_icmp .ge 67) := by decide +kernel
theorem k_100_31 : hm_code 100 31 = some (.aload_n 0) := by decide +kernel
theorem k_100_32 : hm_code 100 32 = some (.getfield 58) := by decide +kernel
theorem k_100_35 : hm_code 100 35 = some (.iload 4) := by decide +kernel
theorem k_100_37 : hm_code 100 37 = some (.invokevirtual 128) := by decide +kernel
theorem k_100_40 : hm_code 100 40 = some (.checkcast 132) := by decide +kernel
theorem k_100_43 : hm_code 100 43 = some (.astore 5) := by decide +kernel
theorem k_100_45 : hm_code 100 45 = some (.aload 5) := by decide +kernel
theorem k_100_47 : hm_code 100 47 = some (.iload_n 2) := by decide +kernel
theorem k_100_48 : hm_code 100 48 = some (.invokevirtual 228) := by decide +kernel
theorem k_100_51 : hm_code 100 51 = some (.ifCond .eq 38) := by decide +kernel
theorem k_100_54 : hm_code 100 54 = some (.iload 4) := by decide +kernel
theorem k_100_56 : hm_code 100 56 = some (.iload_n 1) := by decide +kernel
theorem k_100_57 : hm_code 100 57 = some (.if_icmp .ne 13) := by decide +kernel
theorem k_100_60 : hm_code 100 60 = some (.aload_n 0) := by decide +kernel
theorem k_100_61 : hm_code 100 61 = some (.getfield 19) := by decide +kernel
theorem k_100_64 : hm_code 100 64 = some (.getfield 244) := by decide +kernel
theorem k_100_67 : hm_code 100 67 = some (.goto 4) := by decide +kernel
theorem k_100_70 : hm_code 100 70 = some (.iload_n 3) := by decide +kernel
theorem k_100_71 : hm_code 100 71 = some (.istore_n 3) := by decide +kernel
theorem k_100_72 : hm_code 100 72 = some (.aload_n 0) := by decide +kernel
theorem k_100_73 : hm_code 100 73 = some (.getfield 19) := by decide +kernel
theorem k_100_76 : hm_code 100 76 = some (.aload 5) := by decide +kernel
theorem k_100_78 : hm_code 100 78 = some (.getfield 231) := by decide +kernel
theorem k_100_81 : hm_code 100 81 = some (.aload 5) := by decide +kernel
theorem k_100_83 : hm_code 100 83 = some (.getfield 234) := by decide +kernel
theorem k_100_86 : hm_code 100 86 = some (.invokevirtual 237) := by decide +kernel
theorem k_100_89 : hm_code 100 89 = some (.iinc 4 1) := by decide +kernel
theorem k_100_92 : hm_code 100 92 = some (.goto (-73)) := by decide +kernel
theorem k_100_95 : hm_code 100 95 = some (.aload_n 0) := by decide +kernel
theorem k_100_96 : hm_code 100 96 = some (.getfield 19) := by decide +kernel
theorem k_100_99 : hm_code 100 99 = some (.invokevirtual 241) := by decide +kernel
theorem k_100_102 : hm_code 100 102 = some (.ifCond .eq 14) := by decide +kernel
theorem k_100_105 : hm_code 100 105 = some (.aload_n 0) := by decide +kernel
theorem k_100_106 : hm_code 100 106 = some (.getfield 19) := by decide +kernel
theorem k_100_109 : hm_code 100 109 = some (.iload_n 3) := by decide +kernel
theorem k_100_110 : hm_code 100 110 = some (.invokevirtual 247) := by decide +kernel
theorem k_100_113 : hm_code 100 113 = some (.goto 4) := by decide +kernel
theorem k_100_116 : hm_code 100 116 = some (.iconst 0) := by decide +kernel
theorem k_100_117 : hm_code 100 117 = some (.ireturn) := by decide +kernel
theorem m_101 : hm_mtab[101]? = some (⟨"HourPromised$Bearers", "setOf", "(I)I"⟩, prog_2_method_5_code, 2, (some .int), 0, 2, 1) := rfl
theorem k_101_0 : hm_code 101 0 = some (.iload_n 1) := by decide +kernel
theorem k_101_1 : hm_code 101 1 = some (.ifCond .lt 20) := by decide +kernel
theorem k_101_4 : hm_code 101 4 = some (.iload_n 1) := by decide +kernel
theorem k_101_5 : hm_code 101 5 = some (.aload_n 0) := by decide +kernel
theorem k_101_6 : hm_code 101 6 = some (.getfield 28) := by decide +kernel
theorem k_101_9 : hm_code 101 9 = some (.if_icmp .ge 12) := by decide +kernel
theorem k_101_12 : hm_code 101 12 = some (.aload_n 0) := by decide +kernel
theorem k_101_13 : hm_code 101 13 = some (.getfield 25) := by decide +kernel
theorem k_101_16 : hm_code 101 16 = some (.iload_n 1) := by decide +kernel
theorem k_101_17 : hm_code 101 17 = some (.iaload) := by decide +kernel
theorem k_101_18 : hm_code 101 18 = some (.goto 4) := by decide +kernel
theorem k_101_21 : hm_code 101 21 = some (.iconst 0) := by decide +kernel
theorem k_101_22 : hm_code 101 22 = some (.ireturn) := by decide +kernel
theorem m_102 : hm_mtab[102]? = some (⟨"HourPromised", "taken", "(II)I"⟩, prog_1_method_19_code, 3, (some .int), 7, 3, 1) := rfl
theorem k_102_0 : hm_code 102 0 = some (.iload_n 1) := by decide +kernel
theorem k_102_1 : hm_code 102 1 = some (.invokestatic 151) := by decide +kernel
theorem k_102_4 : hm_code 102 4 = some (.ifCond .eq 12) := by decide +kernel
theorem k_102_7 : hm_code 102 7 = some (.iload_n 2) := by decide +kernel
theorem k_102_8 : hm_code 102 8 = some (.iconst 0) := by decide +kernel
theorem k_102_9 : hm_code 102 9 = some (.iconst 5) := by decide +kernel
theorem k_102_10 : hm_code 102 10 = some (.invokestatic 78) := by decide +kernel
theorem k_102_13 : hm_code 102 13 = some (.ifCond .ne 7) := by decide +kernel
theorem k_102_16 : hm_code 102 16 = some (.sipush (-1002)) := by decide +kernel
theorem k_102_19 : hm_code 102 19 = some (.ireturn) := by decide +kernel
theorem k_102_20 : hm_code 102 20 = some (.aload_n 0) := by decide +kernel
theorem k_102_21 : hm_code 102 21 = some (.getfield 26) := by decide +kernel
theorem k_102_24 : hm_code 102 24 = some (.iload_n 1) := by decide +kernel
theorem k_102_25 : hm_code 102 25 = some (.iload_n 2) := by decide +kernel
theorem k_102_26 : hm_code 102 26 = some (.invokevirtual 99) := by decide +kernel
theorem k_102_29 : hm_code 102 29 = some (.ireturn) := by decide +kernel
theorem m_103 : hm_mtab[103]? = some (⟨"HourPromised", "count", "(I)I"⟩, prog_1_method_20_code, 2, (some .int), 7, 2, 1) := rfl
theorem k_103_0 : hm_code 103 0 = some (.iload_n 1) := by decide +kernel
theorem k_103_1 : hm_code 103 1 = some (.tableswitch 132 0 10 #[59, 67, 75, 80, 85, 93, 101, 106, 111, 118, 125]) := by decide +kernel
theorem k_103_60 : hm_code 103 60 = some (.aload_n 0) := by decide +kernel
theorem k_103_61 : hm_code 103 61 = some (.getfield 58) := by decide +kernel
theorem k_103_64 : hm_code 103 64 = some (.invokevirtual 124) := by decide +kernel
theorem k_103_67 : hm_code 103 67 = some (.ireturn) := by decide +kernel
theorem k_103_68 : hm_code 103 68 = some (.aload_n 0) := by decide +kernel
theorem k_103_69 : hm_code 103 69 = some (.getfield 19) := by decide +kernel
theorem k_103_72 : hm_code 103 72 = some (.getfield 195) := by decide +kernel
theorem k_103_75 : hm_code 103 75 = some (.ireturn) := by decide +kernel
theorem k_103_76 : hm_code 103 76 = some (.aload_n 0) := by decide +kernel
theorem k_103_77 : hm_code 103 77 = some (.getfield 62) := by decide +kernel
theorem k_103_80 : hm_code 103 80 = some (.ireturn) := by decide +kernel
theorem k_103_81 : hm_code 103 81 = some (.aload_n 0) := by decide +kernel
theorem k_103_82 : hm_code 103 82 = some (.getfield 66) := by decide +kernel
theorem k_103_85 : hm_code 103 85 = some (.ireturn) := by decide +kernel
theorem k_103_86 : hm_code 103 86 = some (.aload_n 0) := by decide +kernel
theorem k_103_87 : hm_code 103 87 = some (.getfield 33) := by decide +kernel
theorem k_103_90 : hm_code 103 90 = some (.getfield 198) := by decide +kernel
theorem k_103_93 : hm_code 103 93 = some (.ireturn) := by decide +kernel
theorem k_103_94 : hm_code 103 94 = some (.aload_n 0) := by decide +kernel
theorem k_103_95 : hm_code 103 95 = some (.getfield 69) := by decide +kernel
theorem k_103_98 : hm_code 103 98 = some (.invokevirtual 124) := by decide +kernel
theorem k_103_101 : hm_code 103 101 = some (.ireturn) := by decide +kernel
theorem k_103_102 : hm_code 103 102 = some (.aload_n 0) := by decide +kernel
theorem k_103_103 : hm_code 103 103 = some (.invokevirtual 201) := by decide +kernel
theorem k_103_106 : hm_code 103 106 = some (.ireturn) := by decide +kernel
theorem k_103_107 : hm_code 103 107 = some (.aload_n 0) := by decide +kernel
theorem k_103_108 : hm_code 103 108 = some (.getfield 75) := by decide +kernel
theorem k_103_111 : hm_code 103 111 = some (.ireturn) := by decide +kernel
theorem k_103_112 : hm_code 103 112 = some (.aload_n 0) := by decide +kernel
theorem k_103_113 : hm_code 103 113 = some (.getfield 7) := by decide +kernel
theorem k_103_116 : hm_code 103 116 = some (.iconst 0) := by decide +kernel
theorem k_103_117 : hm_code 103 117 = some (.iaload) := by decide +kernel
theorem k_103_118 : hm_code 103 118 = some (.ireturn) := by decide +kernel
theorem k_103_119 : hm_code 103 119 = some (.aload_n 0) := by decide +kernel
theorem k_103_120 : hm_code 103 120 = some (.getfield 7) := by decide +kernel
theorem k_103_123 : hm_code 103 123 = some (.iconst 1) := by decide +kernel
theorem k_103_124 : hm_code 103 124 = some (.iaload) := by decide +kernel
theorem k_103_125 : hm_code 103 125 = some (.ireturn) := by decide +kernel
theorem k_103_126 : hm_code 103 126 = some (.aload_n 0) := by decide +kernel
theorem k_103_127 : hm_code 103 127 = some (.getfield 7) := by decide +kernel
theorem k_103_130 : hm_code 103 130 = some (.iconst 2) := by decide +kernel
theorem k_103_131 : hm_code 103 131 = some (.iaload) := by decide +kernel
theorem k_103_132 : hm_code 103 132 = some (.ireturn) := by decide +kernel
theorem k_103_133 : hm_code 103 133 = some (.sipush (-1002)) := by decide +kernel
theorem k_103_136 : hm_code 103 136 = some (.ireturn) := by decide +kernel
theorem m_104 : hm_mtab[104]? = some (⟨"HourPromised", "trustOfAll", "()I"⟩, prog_1_method_38_code, 3, (some .int), 7, 1, 1) := rfl
theorem k_104_0 : hm_code 104 0 = some (.iconst 0) := by decide +kernel
theorem k_104_1 : hm_code 104 1 = some (.istore_n 1) := by decide +kernel
theorem k_104_2 : hm_code 104 2 = some (.iconst 0) := by decide +kernel
theorem k_104_3 : hm_code 104 3 = some (.istore_n 2) := by decide +kernel
theorem k_104_4 : hm_code 104 4 = some (.iload_n 2) := by decide +kernel
theorem k_104_5 : hm_code 104 5 = some (.aload_n 0) := by decide +kernel
theorem k_104_6 : hm_code 104 6 = some (.getfield 69) := by decide +kernel
theorem k_104_9 : hm_code 104 9 = some (.invokevirtual 124) := by decide +kernel
theorem k_104_12 : hm_code 104 12 = some (.if_icmp .ge 26) := by decide +kernel
theorem k_104_15 : hm_code 104 15 = some (.iload_n 1) := by decide +kernel
theorem k_104_16 : hm_code 104 16 = some (.aload_n 0) := by decide +kernel
theorem k_104_17 : hm_code 104 17 = some (.getfield 69) := by decide +kernel
theorem k_104_20 : hm_code 104 20 = some (.iload_n 2) := by decide +kernel
theorem k_104_21 : hm_code 104 21 = some (.invokevirtual 128) := by decide +kernel
theorem k_104_24 : hm_code 104 24 = some (.checkcast 261) := by decide +kernel
theorem k_104_27 : hm_code 104 27 = some (.getfield 270) := by decide +kernel
theorem k_104_30 : hm_code 104 30 = some (.iadd) := by decide +kernel
theorem k_104_31 : hm_code 104 31 = some (.istore_n 1) := by decide +kernel
theorem k_104_32 : hm_code 104 32 = some (.iinc 2 1) := by decide +kernel
theorem k_104_35 : hm_code 104 35 = some (.goto (-31)) := by decide +kernel
theorem k_104_38 : hm_code 104 38 = some (.iload_n 1) := by decide +kernel
theorem k_104_39 : hm_code 104 39 = some (.ireturn) := by decide +kernel
theorem m_105 : hm_mtab[105]? = some (⟨"HourPromised", "plan", "(I)I"⟩, prog_1_method_30_code, 2, (some .int), 7, 2, 1) := rfl
theorem k_105_0 : hm_code 105 0 = some (.iload_n 1) := by decide +kernel
theorem k_105_1 : hm_code 105 1 = some (.iconst 0) := by decide +kernel
theorem k_105_2 : hm_code 105 2 = some (.ldc_w 260) := by decide +kernel
theorem k_105_5 : hm_code 105 5 = some (.invokestatic 78) := by decide +kernel
theorem k_105_8 : hm_code 105 8 = some (.ifCond .ne 7) := by decide +kernel
theorem k_105_11 : hm_code 105 11 = some (.sipush (-1002)) := by decide +kernel
theorem k_105_14 : hm_code 105 14 = some (.ireturn) := by decide +kernel
theorem k_105_15 : hm_code 105 15 = some (.aload_n 0) := by decide +kernel
theorem k_105_16 : hm_code 105 16 = some (.getfield 69) := by decide +kernel
theorem k_105_19 : hm_code 105 19 = some (.invokevirtual 124) := by decide +kernel
theorem k_105_22 : hm_code 105 22 = some (.bipush 16) := by decide +kernel
theorem k_105_24 : hm_code 105 24 = some (.if_icmp .lt 7) := by decide +kernel
theorem k_105_27 : hm_code 105 27 = some (.sipush (-1004)) := by decide +kernel
theorem k_105_30 : hm_code 105 30 = some (.ireturn) := by decide +kernel
theorem k_105_31 : hm_code 105 31 = some (.aload_n 0) := by decide +kernel
theorem k_105_32 : hm_code 105 32 = some (.getfield 69) := by decide +kernel
theorem k_105_35 : hm_code 105 35 = some (.new 261) := by decide +kernel
theorem k_105_38 : hm_code 105 38 = some (.dup) := by decide +kernel
theorem k_105_39 : hm_code 105 39 = some (.iload_n 1) := by decide +kernel
theorem k_105_40 : hm_code 105 40 = some (.invokespecial 263) := by decide +kernel
theorem k_105_43 : hm_code 105 43 = some (.invokevirtual 157) := by decide +kernel
theorem k_105_46 : hm_code 105 46 = some (.pop) := by decide +kernel
theorem k_105_47 : hm_code 105 47 = some (.aload_n 0) := by decide +kernel
theorem k_105_48 : hm_code 105 48 = some (.getfield 69) := by decide +kernel
theorem k_105_51 : hm_code 105 51 = some (.invokevirtual 124) := by decide +kernel
theorem k_105_54 : hm_code 105 54 = some (.iconst 1) := by decide +kernel
theorem k_105_55 : hm_code 105 55 = some (.isub) := by decide +kernel
theorem k_105_56 : hm_code 105 56 = some (.ireturn) := by decide +kernel
theorem m_106 : hm_mtab[106]? = some (⟨"HourPromised$Plan", "<init>", "(I)V"⟩, prog_7_method_1_code, 2, none, 5, 2, 2) := rfl
theorem k_106_0 : hm_code 106 0 = some (.aload_n 0) := by decide +kernel
theorem k_106_1 : hm_code 106 1 = some (.invokespecial 3) := by decide +kernel
theorem k_106_4 : hm_code 106 4 = some (.aload_n 0) := by decide +kernel
theorem k_106_5 : hm_code 106 5 = some (.iconst 0) := by decide +kernel
theorem k_106_6 : hm_code 106 6 = some (.putfield 9) := by decide +kernel
theorem k_106_9 : hm_code 106 9 = some (.aload_n 0) := by decide +kernel
theorem k_106_10 : hm_code 106 10 = some (.iconst (-1)) := by decide +kernel
theorem k_106_11 : hm_code 106 11 = some (.putfield 15) := by decide +kernel
theorem k_106_14 : hm_code 106 14 = some (.aload_n 0) := by decide +kernel
theorem k_106_15 : hm_code 106 15 = some (.iconst 0) := by decide +kernel
theorem k_106_16 : hm_code 106 16 = some (.putfield 18) := by decide +kernel
theorem k_106_19 : hm_code 106 19 = some (.aload_n 0) := by decide +kernel
theorem k_106_20 : hm_code 106 20 = some (.iconst 0) := by decide +kernel
theorem k_106_21 : hm_code 106 21 = some (.putfield 22) := by decide +kernel
theorem k_106_24 : hm_code 106 24 = some (.aload_n 0) := by decide +kernel
theorem k_106_25 : hm_code 106 25 = some (.iload_n 1) := by decide +kernel
theorem k_106_26 : hm_code 106 26 = some (.putfield 25) := by decide +kernel
theorem k_106_29 : hm_code 106 29 = some (.return_) := by decide +kernel
theorem m_107 : hm_mtab[107]? = some (⟨"HourPromised", "pay", "(II)I"⟩, prog_1_method_31_code, 4, (some .int), 7, 3, 1) := rfl
theorem k_107_0 : hm_code 107 0 = some (.aload_n 0) := by decide +kernel
theorem k_107_1 : hm_code 107 1 = some (.iload_n 1) := by decide +kernel
theorem k_107_2 : hm_code 107 2 = some (.invokevirtual 266) := by decide +kernel
theorem k_107_5 : hm_code 107 5 = some (.astore_n 3) := by decide +kernel
theorem k_107_6 : hm_code 107 6 = some (.aload_n 3) := by decide +kernel
theorem k_107_7 : hm_code 107 7 = some (.ifnonnull 7) := by decide +kernel
theorem k_107_10 : hm_code 107 10 = some (.sipush (-1001)) := by decide +kernel
theorem k_107_13 : hm_code 107 13 = some (.ireturn) := by decide +kernel
theorem k_107_14 : hm_code 107 14 = some (.iload_n 2) := by decide +kernel
theorem k_107_15 : hm_code 107 15 = some (.iconst 1) := by decide +kernel
theorem k_107_16 : hm_code 107 16 = some (.ldc_w 260) := by decide +kernel
theorem k_107_19 : hm_code 107 19 = some (.invokestatic 78) := by decide +kernel
theorem k_107_22 : hm_code 107 22 = some (.ifCond .ne 7) := by decide +kernel
theorem k_107_25 : hm_code 107 25 = some (.sipush (-1002)) := by decide +kernel
theorem k_107_28 : hm_code 107 28 = some (.ireturn) := by decide +kernel
theorem k_107_29 : hm_code 107 29 = some (.aload_n 3) := by decide +kernel
theorem k_107_30 : hm_code 107 30 = some (.getfield 270) := by decide +kernel
theorem k_107_33 : hm_code 107 33 = some (.iload_n 2) := by decide +kernel
theorem k_107_34 : hm_code 107 34 = some (.iadd) := by decide +kernel
theorem k_107_35 : hm_code 107 35 = some (.ldc_w 273) := by decide +kernel
theorem k_107_38 : hm_code 107 38 = some (.if_icmp .le 7) := by decide +kernel
theorem k_107_41 : hm_code 107 41 = some (.sipush (-1003)) := by decide +kernel
theorem k_107_44 : hm_code 107 44 = some (.ireturn) := by decide +kernel
theorem k_107_45 : hm_code 107 45 = some (.aload_n 3) := by decide +kernel
theorem k_107_46 : hm_code 107 46 = some (.dup) := by decide +kernel
theorem k_107_47 : hm_code 107 47 = some (.getfield 270) := by decide +kernel
theorem k_107_50 : hm_code 107 50 = some (.iload_n 2) := by decide +kernel
theorem k_107_51 : hm_code 107 51 = some (.iadd) := by decide +kernel
theorem k_107_52 : hm_code 107 52 = some (.putfield 270) := by decide +kernel
theorem k_107_55 : hm_code 107 55 = some (.aload_n 3) := by decide +kernel
theorem k_107_56 : hm_code 107 56 = some (.getfield 270) := by decide +kernel
theorem k_107_59 : hm_code 107 59 = some (.ireturn) := by decide +kernel
theorem m_108 : hm_mtab[108]? = some (⟨"HourPromised", "planOf", "(I)LHourPromised$Plan;"⟩, prog_1_method_37_code, 2, (some (.object "HourPromised$Plan")), 7, 2, 1) := rfl
theorem k_108_0 : hm_code 108 0 = some (.iload_n 1) := by decide +kernel
theorem k_108_1 : hm_code 108 1 = some (.iconst 0) := by decide +kernel
theorem k_108_2 : hm_code 108 2 = some (.aload_n 0) := by decide +kernel
theorem k_108_3 : hm_code 108 3 = some (.getfield 69) := by decide +kernel
theorem k_108_6 : hm_code 108 6 = some (.invokevirtual 124) := by decide +kernel
theorem k_108_9 : hm_code 108 9 = some (.iconst 1) := by decide +kernel
theorem k_108_10 : hm_code 108 10 = some (.isub) := by decide +kernel
theorem k_108_11 : hm_code 108 11 = some (.invokestatic 78) := by decide +kernel
theorem k_108_14 : hm_code 108 14 = some (.ifCond .eq 17) := by decide +kernel
theorem k_108_17 : hm_code 108 17 = some (.aload_n 0) := by decide +kernel
theorem k_108_18 : hm_code 108 18 = some (.getfield 69) := by decide +kernel
theorem k_108_21 : hm_code 108 21 = some (.iload_n 1) := by decide +kernel
theorem k_108_22 : hm_code 108 22 = some (.invokevirtual 128) := by decide +kernel
theorem k_108_25 : hm_code 108 25 = some (.checkcast 261) := by decide +kernel
theorem k_108_28 : hm_code 108 28 = some (.goto 4) := by decide +kernel
theorem k_108_31 : hm_code 108 31 = some (.aconst_null) := by decide +kernel
theorem k_108_32 : hm_code 108 32 = some (.areturn) := by decide +kernel
theorem m_109 : hm_mtab[109]? = some (⟨"HourPromised", "rate", "(I)I"⟩, prog_1_method_32_code, 3, (some .int), 7, 2, 1) := rfl
theorem k_109_0 : hm_code 109 0 = some (.iload_n 1) := by decide +kernel
theorem k_109_1 : hm_code 109 1 = some (.iconst 0) := by decide +kernel
theorem k_109_2 : hm_code 109 2 = some (.bipush 100) := by decide +kernel
theorem k_109_4 : hm_code 109 4 = some (.invokestatic 78) := by decide +kernel
theorem k_109_7 : hm_code 109 7 = some (.ifCond .ne 7) := by decide +kernel
theorem k_109_10 : hm_code 109 10 = some (.sipush (-1002)) := by decide +kernel
theorem k_109_13 : hm_code 109 13 = some (.ireturn) := by decide +kernel
theorem k_109_14 : hm_code 109 14 = some (.aload_n 0) := by decide +kernel
theorem k_109_15 : hm_code 109 15 = some (.getfield 72) := by decide +kernel
theorem k_109_18 : hm_code 109 18 = some (.istore_n 2) := by decide +kernel
theorem k_109_19 : hm_code 109 19 = some (.aload_n 0) := by decide +kernel
theorem k_109_20 : hm_code 109 20 = some (.iload_n 1) := by decide +kernel
theorem k_109_21 : hm_code 109 21 = some (.putfield 72) := by decide +kernel
theorem k_109_24 : hm_code 109 24 = some (.iload_n 2) := by decide +kernel
theorem k_109_25 : hm_code 109 25 = some (.ireturn) := by decide +kernel
theorem m_110 : hm_mtab[110]? = some (⟨"HourPromised", "days", "(I)I"⟩, prog_1_method_33_code, 3, (some .int), 7, 2, 1) := rfl
theorem k_110_0 : hm_code 110 0 = some (.iload_n 1) := by decide +kernel
theorem k_110_1 : hm_code 110 1 = some (.iconst 0) := by decide +kernel
theorem k_110_2 : hm_code 110 2 = some (.sipush 400) := by decide +kernel
theorem k_110_5 : hm_code 110 5 = some (.invokestatic 78) := by decide +kernel
theorem k_110_8 : hm_code 110 8 = some (.ifCond .ne 7) := by decide +kernel
theorem k_110_11 : hm_code 110 11 = some (.sipush (-1002)) := by decide +kernel
theorem k_110_14 : hm_code 110 14 = some (.ireturn) := by decide +kernel
theorem k_110_15 : hm_code 110 15 = some (.iconst 0) := by decide +kernel
theorem k_110_16 : hm_code 110 16 = some (.istore_n 2) := by decide +kernel
theorem k_110_17 : hm_code 110 17 = some (.iload_n 2) := by decide +kernel
theorem k_110_18 : hm_code 110 18 = some (.aload_n 0) := by decide +kernel
theorem k_110_19 : hm_code 110 19 = some (.getfield 69) := by decide +kernel
theorem k_110_22 : hm_code 110 22 = some (.invokevirtual 124) := by decide +kernel
theorem k_110_25 : hm_code 110 25 = some (.if_icmp .ge 28) := by decide +kernel
theorem k_110_28 : hm_code 110 28 = some (.aload_n 0) := by decide +kernel
theorem k_110_29 : hm_code 110 29 = some (.getfield 69) := by decide +kernel
theorem k_110_32 : hm_code 110 32 = some (.iload_n 2) := by decide +kernel
theorem k_110_33 : hm_code 110 33 = some (.invokevirtual 128) := by decide +kernel
theorem k_110_36 : hm_code 110 36 = some (.checkcast 261) := by decide +kernel
theorem k_110_39 : hm_code 110 39 = some (.iload_n 1) := by decide +kernel
theorem k_110_40 : hm_code 110 40 = some (.aload_n 0) := by decide +kernel
theorem k_110_41 : hm_code 110 41 = some (.getfield 72) := by decide +kernel
theorem k_110_44 : hm_code 110 44 = some (.invokevirtual 274) := by decide +kernel
theorem k_110_47 : hm_code 110 47 = some (.iinc 2 1) := by decide +kernel
theorem k_110_50 : hm_code 110 50 = some (.goto (-33)) := by decide +kernel
theorem k_110_53 : hm_code 110 53 = some (.aload_n 0) := by decide +kernel
theorem k_110_54 : hm_code 110 54 = some (.invokevirtual 201) := by decide +kernel
theorem k_110_57 : hm_code 110 57 = some (.ireturn) := by decide +kernel
theorem m_111 : hm_mtab[111]? = some (⟨"HourPromised$Plan", "grow", "(II)V"⟩, prog_7_method_2_code, 6, none, 5, 3, 1) := rfl
theorem k_111_0 : hm_code 111 0 = some (.iconst 0) := by decide +kernel
theorem k_111_1 : hm_code 111 1 = some (.istore_n 3) := by decide +kernel
theorem k_111_2 : hm_code 111 2 = some (.iload_n 3) := by decide +kernel
theorem k_111_3 : hm_code 111 3 = some (.iload_n 1) := by decide +kernel
theorem k_111_4 : hm_code 111 4 = some (.if_icmp .ge 42) := by decide +kernel
theorem k_111_7 : hm_code 111 7 = some (.aload_n 0) := by decide +kernel
theorem k_111_8 : hm_code 111 8 = some (.getfield 9) := by decide +kernel
theorem k_111_11 : hm_code 111 11 = some (.i2l) := by decide +kernel
theorem k_111_12 : hm_code 111 12 = some (.aload_n 0) := by decide +kernel
theorem k_111_13 : hm_code 111 13 = some (.getfield 9) := by decide +kernel
theorem k_111_16 : hm_code 111 16 = some (.i2l) := by decide +kernel
theorem k_111_17 : hm_code 111 17 = some (.iload_n 2) := by decide +kernel
theorem k_111_18 : hm_code 111 18 = some (.i2l) := by decide +kernel
theorem k_111_19 : hm_code 111 19 = some (.lmul) := by decide +kernel
theorem k_111_20 : hm_code 111 20 = some (.ldc2_w 28) := by decide +kernel
theorem k_111_23 : hm_code 111 23 = some (.ldiv) := by decide +kernel
theorem k_111_24 : hm_code 111 24 = some (.ladd) := by decide +kernel
theorem k_111_25 : hm_code 111 25 = some (.lstore 4) := by decide +kernel
theorem k_111_27 : hm_code 111 27 = some (.aload_n 0) := by decide +kernel
theorem k_111_28 : hm_code 111 28 = some (.lload 4) := by decide +kernel
theorem k_111_30 : hm_code 111 30 = some (.ldc2_w 30) := by decide +kernel
theorem k_111_33 : hm_code 111 33 = some (.invokestatic 32) := by decide +kernel
theorem k_111_36 : hm_code 111 36 = some (.l2i) := by decide +kernel
theorem k_111_37 : hm_code 111 37 = some (.putfield 9) := by decide +kernel
theorem k_111_40 : hm_code 111 40 = some (.iinc 3 1) := by decide +kernel
theorem k_111_43 : hm_code 111 43 = some (.goto (-41)) := by decide +kernel
theorem k_111_46 : hm_code 111 46 = some (.return_) := by decide +kernel
theorem m_112 : hm_mtab[112]? = some (⟨"java/lang/Math", "min", "(JJ)J"⟩, prog_15_method_70_code, 4, (some .long), 14, 2, 0) := rfl
theorem k_112_0 : hm_code 112 0 = some (.lload_n 0) := by decide +kernel
theorem k_112_1 : hm_code 112 1 = some (.lload_n 2) := by decide +kernel
theorem k_112_2 : hm_code 112 2 = some (.lcmp) := by decide +kernel
theorem k_112_3 : hm_code 112 3 = some (.ifCond .gt 7) := by decide +kernel
theorem k_112_6 : hm_code 112 6 = some (.lload_n 0) := by decide +kernel
theorem k_112_7 : hm_code 112 7 = some (.goto 4) := by decide +kernel
theorem k_112_10 : hm_code 112 10 = some (.lload_n 2) := by decide +kernel
theorem k_112_11 : hm_code 112 11 = some (.lreturn) := by decide +kernel
theorem m_113 : hm_mtab[113]? = some (⟨"HourPromised", "tie", "(II)I"⟩, prog_1_method_34_code, 5, (some .int), 7, 3, 1) := rfl
theorem k_113_0 : hm_code 113 0 = some (.aload_n 0) := by decide +kernel
theorem k_113_1 : hm_code 113 1 = some (.iload_n 1) := by decide +kernel
theorem k_113_2 : hm_code 113 2 = some (.invokevirtual 266) := by decide +kernel
theorem k_113_5 : hm_code 113 5 = some (.astore_n 3) := by decide +kernel
theorem k_113_6 : hm_code 113 6 = some (.aload_n 0) := by decide +kernel
theorem k_113_7 : hm_code 113 7 = some (.iload_n 2) := by decide +kernel
theorem k_113_8 : hm_code 113 8 = some (.invokevirtual 161) := by decide +kernel
theorem k_113_11 : hm_code 113 11 = some (.astore 4) := by decide +kernel
theorem k_113_13 : hm_code 113 13 = some (.aload_n 3) := by decide +kernel
theorem k_113_14 : hm_code 113 14 = some (.ifnull 8) := by decide +kernel
theorem k_113_17 : hm_code 113 17 = some (.aload 4) := by decide +kernel
theorem k_113_19 : hm_code 113 19 = some (.ifnonnull 7) := by decide +kernel
theorem k_113_22 : hm_code 113 22 = some (.sipush (-1001)) := by decide +kernel
theorem k_113_25 : hm_code 113 25 = some (.ireturn) := by decide +kernel
theorem k_113_26 : hm_code 113 26 = some (.aload_n 3) := by decide +kernel
theorem k_113_27 : hm_code 113 27 = some (.getfield 277) := by decide +kernel
theorem k_113_30 : hm_code 113 30 = some (.iconst (-1)) := by decide +kernel
theorem k_113_31 : hm_code 113 31 = some (.if_icmp .ne 19) := by decide +kernel
theorem k_113_34 : hm_code 113 34 = some (.aload 4) := by decide +kernel
theorem k_113_36 : hm_code 113 36 = some (.getfield 280) := by decide +kernel
theorem k_113_39 : hm_code 113 39 = some (.iconst (-1)) := by decide +kernel
theorem k_113_40 : hm_code 113 40 = some (.if_icmp .ne 10) := by decide +kernel
theorem k_113_43 : hm_code 113 43 = some (.aload_n 3) := by decide +kernel
theorem k_113_44 : hm_code 113 44 = some (.getfield 283) := by decide +kernel
theorem k_113_47 : hm_code 113 47 = some (.ifCond .eq 7) := by decide +kernel
theorem k_113_50 : hm_code 113 50 = some (.sipush (-1003)) := by decide +kernel
theorem k_113_53 : hm_code 113 53 = some (.ireturn) := by decide +kernel
theorem k_113_54 : hm_code 113 54 = some (.aload_n 3) := by decide +kernel
theorem k_113_55 : hm_code 113 55 = some (.iload_n 2) := by decide +kernel
theorem k_113_56 : hm_code 113 56 = some (.putfield 277) := by decide +kernel
theorem k_113_59 : hm_code 113 59 = some (.aload 4) := by decide +kernel
theorem k_113_61 : hm_code 113 61 = some (.iload_n 1) := by decide +kernel
theorem k_113_62 : hm_code 113 62 = some (.putfield 280) := by decide +kernel
theorem k_113_65 : hm_code 113 65 = some (.iconst 1) := by decide +kernel
theorem k_113_66 : hm_code 113 66 = some (.ireturn) := by decide +kernel
theorem m_114 : hm_mtab[114]? = some (⟨"HourPromised", "settle", "(I)I"⟩, prog_1_method_35_code, 5, (some .int), 7, 2, 1) := rfl
theorem k_114_0 : hm_code 114 0 = some (.aload_n 0) := by decide +kernel
theorem k_114_1 : hm_code 114 1 = some (.iload_n 1) := by decide +kernel
theorem k_114_2 : hm_code 114 2 = some (.invokevirtual 161) := by decide +kernel
theorem k_114_5 : hm_code 114 5 = some (.astore_n 2) := by decide +kernel
theorem k_114_6 : hm_code 114 6 = some (.aload_n 2) := by decide +kernel
theorem k_114_7 : hm_code 114 7 = some (.ifnonnull 7) := by decide +kernel
theorem k_114_10 : hm_code 114 10 = some (.sipush (-1001)) := by decide +kernel
theorem k_114_13 : hm_code 114 13 = some (.ireturn) := by decide +kernel
theorem k_114_14 : hm_code 114 14 = some (.aload_n 2) := by decide +kernel
theorem k_114_15 : hm_code 114 15 = some (.getfield 287) := by decide +kernel
theorem k_114_18 : hm_code 114 18 = some (.ifCond .ne 19) := by decide +kernel
theorem k_114_21 : hm_code 114 21 = some (.aload_n 2) := by decide +kernel
theorem k_114_22 : hm_code 114 22 = some (.iconst 2) := by decide +kernel
theorem k_114_23 : hm_code 114 23 = some (.invokevirtual 176) := by decide +kernel
theorem k_114_26 : hm_code 114 26 = some (.ifCond .ne 15) := by decide +kernel
theorem k_114_29 : hm_code 114 29 = some (.aload_n 2) := by decide +kernel
theorem k_114_30 : hm_code 114 30 = some (.iconst 3) := by decide +kernel
theorem k_114_31 : hm_code 114 31 = some (.invokevirtual 176) := by decide +kernel
theorem k_114_34 : hm_code 114 34 = some (.ifCond .ne 7) := by decide +kernel
theorem k_114_37 : hm_code 114 37 = some (.sipush (-1003)) := by decide +kernel
theorem k_114_40 : hm_code 114 40 = some (.ireturn) := by decide +kernel
theorem k_114_41 : hm_code 114 41 = some (.aload_n 2) := by decide +kernel
theorem k_114_42 : hm_code 114 42 = some (.iconst 1) := by decide +kernel
theorem k_114_43 : hm_code 114 43 = some (.putfield 287) := by decide +kernel
theorem k_114_46 : hm_code 114 46 = some (.aload_n 0) := by decide +kernel
theorem k_114_47 : hm_code 114 47 = some (.aload_n 2) := by decide +kernel
theorem k_114_48 : hm_code 114 48 = some (.getfield 280) := by decide +kernel
theorem k_114_51 : hm_code 114 51 = some (.invokevirtual 266) := by decide +kernel
theorem k_114_54 : hm_code 114 54 = some (.astore_n 3) := by decide +kernel
theorem k_114_55 : hm_code 114 55 = some (.aload_n 3) := by decide +kernel
theorem k_114_56 : hm_code 114 56 = some (.ifnonnull 5) := by decide +kernel
theorem k_114_59 : hm_code 114 59 = some (.iconst 0) := by decide +kernel
theorem k_114_60 : hm_code 114 60 = some (.ireturn) := by decide +kernel
theorem k_114_61 : hm_code 114 61 = some (.aload_n 3) := by decide +kernel
theorem k_114_62 : hm_code 114 62 = some (.invokevirtual 290) := by decide +kernel
theorem k_114_65 : hm_code 114 65 = some (.istore 4) := by decide +kernel
theorem k_114_67 : hm_code 114 67 = some (.aload_n 0) := by decide +kernel
theorem k_114_68 : hm_code 114 68 = some (.dup) := by decide +kernel
theorem k_114_69 : hm_code 114 69 = some (.getfield 75) := by decide +kernel
theorem k_114_72 : hm_code 114 72 = some (.iload 4) := by decide +kernel
theorem k_114_74 : hm_code 114 74 = some (.iadd) := by decide +kernel
theorem k_114_75 : hm_code 114 75 = some (.putfield 75) := by decide +kernel
theorem k_114_78 : hm_code 114 78 = some (.iload 4) := by decide +kernel
theorem k_114_80 : hm_code 114 80 = some (.ireturn) := by decide +kernel
theorem m_115 : hm_mtab[115]? = some (⟨"HourPromised$Plan", "payOut", "()I"⟩, prog_7_method_3_code, 2, (some .int), 5, 1, 1) := rfl
theorem k_115_0 : hm_code 115 0 = some (.aload_n 0) := by decide +kernel
theorem k_115_1 : hm_code 115 1 = some (.getfield 25) := by decide +kernel
theorem k_115_4 : hm_code 115 4 = some (.aload_n 0) := by decide +kernel
theorem k_115_5 : hm_code 115 5 = some (.getfield 9) := by decide +kernel
theorem k_115_8 : hm_code 115 8 = some (.invokestatic 38) := by decide +kernel
theorem k_115_11 : hm_code 115 11 = some (.istore_n 1) := by decide +kernel
theorem k_115_12 : hm_code 115 12 = some (.aload_n 0) := by decide +kernel
theorem k_115_13 : hm_code 115 13 = some (.dup) := by decide +kernel
theorem k_115_14 : hm_code 115 14 = some (.getfield 9) := by decide +kernel
theorem k_115_17 : hm_code 115 17 = some (.iload_n 1) := by decide +kernel
theorem k_115_18 : hm_code 115 18 = some (.isub) := by decide +kernel
theorem k_115_19 : hm_code 115 19 = some (.putfield 9) := by decide +kernel
theorem k_115_22 : hm_code 115 22 = some (.aload_n 0) := by decide +kernel
theorem k_115_23 : hm_code 115 23 = some (.iload_n 1) := by decide +kernel
theorem k_115_24 : hm_code 115 24 = some (.putfield 22) := by decide +kernel
theorem k_115_27 : hm_code 115 27 = some (.aload_n 0) := by decide +kernel
theorem k_115_28 : hm_code 115 28 = some (.iconst 1) := by decide +kernel
theorem k_115_29 : hm_code 115 29 = some (.putfield 18) := by decide +kernel
theorem k_115_32 : hm_code 115 32 = some (.iload_n 1) := by decide +kernel
theorem k_115_33 : hm_code 115 33 = some (.ireturn) := by decide +kernel
theorem m_116 : hm_mtab[116]? = some (⟨"HourPromised", "planned", "(II)I"⟩, prog_1_method_36_code, 4, (some .int), 7, 3, 1) := rfl
theorem k_116_0 : hm_code 116 0 = some (.aload_n 0) := by decide +kernel
theorem k_116_1 : hm_code 116 1 = some (.iload_n 1) := by decide +kernel
theorem k_116_2 : hm_code 116 2 = some (.invokevirtual 266) := by decide +kernel
theorem k_116_5 : hm_code 116 5 = some (.astore_n 3) := by decide +kernel
theorem k_116_6 : hm_code 116 6 = some (.aload_n 3) := by decide +kernel
theorem k_116_7 : hm_code 116 7 = some (.ifnonnull 7) := by decide +kernel
theorem k_116_10 : hm_code 116 10 = some (.sipush (-1001)) := by decide +kernel
theorem k_116_13 : hm_code 116 13 = some (.ireturn) := by decide +kernel
theorem k_116_14 : hm_code 116 14 = some (.iload_n 2) := by decide +kernel
theorem k_116_15 : hm_code 116 15 = some (.tableswitch 49 0 3 #[29, 34, 39, 44]) := by decide +kernel
theorem k_116_44 : hm_code 116 44 = some (.aload_n 3) := by decide +kernel
theorem k_116_45 : hm_code 116 45 = some (.getfield 293) := by decide +kernel
theorem k_116_48 : hm_code 116 48 = some (.ireturn) := by decide +kernel
theorem k_116_49 : hm_code 116 49 = some (.aload_n 3) := by decide +kernel
theorem k_116_50 : hm_code 116 50 = some (.getfield 270) := by decide +kernel
theorem k_116_53 : hm_code 116 53 = some (.ireturn) := by decide +kernel
theorem k_116_54 : hm_code 116 54 = some (.aload_n 3) := by decide +kernel
theorem k_116_55 : hm_code 116 55 = some (.getfield 277) := by decide +kernel
theorem k_116_58 : hm_code 116 58 = some (.ireturn) := by decide +kernel
theorem k_116_59 : hm_code 116 59 = some (.aload_n 3) := by decide +kernel
theorem k_116_60 : hm_code 116 60 = some (.getfield 296) := by decide +kernel
theorem k_116_63 : hm_code 116 63 = some (.ireturn) := by decide +kernel
theorem k_116_64 : hm_code 116 64 = some (.sipush (-1002)) := by decide +kernel
theorem k_116_67 : hm_code 116 67 = some (.ireturn) := by decide +kernel
end
section
theorem m_117 : hm_mtab[117]? = some (⟨"HourPromisedModel", "<init>", "()V"⟩, prog_10_method_1_code, 2, none, 8, 1, 2) := rfl
theorem k_117_0 : hm_code 117 0 = some (.aload_n 0) := by decide +kernel
theorem k_117_1 : hm_code 117 1 = some (.invokespecial 1) := by decide +kernel
theorem k_117_4 : hm_code 117 4 = some (.aload_n 0) := by decide +kernel
theorem k_117_5 : hm_code 117 5 = some (.iconst 3) := by decide +kernel
theorem k_117_6 : hm_code 117 6 = some (.newarray .int) := by decide +kernel
theorem k_117_8 : hm_code 117 8 = some (.putfield 7) := by decide +kernel
theorem k_117_11 : hm_code 117 11 = some (.aload_n 0) := by decide +kernel
theorem k_117_12 : hm_code 117 12 = some (.iconst 3) := by decide +kernel
theorem k_117_13 : hm_code 117 13 = some (.newarray .int) := by decide +kernel
theorem k_117_15 : hm_code 117 15 = some (.putfield 13) := by decide +kernel
theorem k_117_18 : hm_code 117 18 = some (.aload_n 0) := by decide +kernel
theorem k_117_19 : hm_code 117 19 = some (.bipush 12) := by decide +kernel
theorem k_117_21 : hm_code 117 21 = some (.newarray .int) := by decide +kernel
theorem k_117_23 : hm_code 117 23 = some (.putfield 16) := by decide +kernel
theorem k_117_26 : hm_code 117 26 = some (.aload_n 0) := by decide +kernel
theorem k_117_27 : hm_code 117 27 = some (.bipush 80) := by decide +kernel
theorem k_117_29 : hm_code 117 29 = some (.newarray .int) := by decide +kernel
theorem k_117_31 : hm_code 117 31 = some (.putfield 19) := by decide +kernel
theorem k_117_34 : hm_code 117 34 = some (.aload_n 0) := by decide +kernel
theorem k_117_35 : hm_code 117 35 = some (.bipush 20) := by decide +kernel
theorem k_117_37 : hm_code 117 37 = some (.newarray .int) := by decide +kernel
theorem k_117_39 : hm_code 117 39 = some (.putfield 22) := by decide +kernel
theorem k_117_42 : hm_code 117 42 = some (.aload_n 0) := by decide +kernel
theorem k_117_43 : hm_code 117 43 = some (.bipush 100) := by decide +kernel
theorem k_117_45 : hm_code 117 45 = some (.newarray .int) := by decide +kernel
theorem k_117_47 : hm_code 117 47 = some (.putfield 25) := by decide +kernel
theorem k_117_50 : hm_code 117 50 = some (.aload_n 0) := by decide +kernel
theorem k_117_51 : hm_code 117 51 = some (.iconst (-1)) := by decide +kernel
theorem k_117_52 : hm_code 117 52 = some (.putfield 28) := by decide +kernel
theorem k_117_55 : hm_code 117 55 = some (.aload_n 0) := by decide +kernel
theorem k_117_56 : hm_code 117 56 = some (.bipush 16) := by decide +kernel
theorem k_117_58 : hm_code 117 58 = some (.newarray .int) := by decide +kernel
theorem k_117_60 : hm_code 117 60 = some (.putfield 32) := by decide +kernel
theorem k_117_63 : hm_code 117 63 = some (.aload_n 0) := by decide +kernel
theorem k_117_64 : hm_code 117 64 = some (.bipush 16) := by decide +kernel
theorem k_117_66 : hm_code 117 66 = some (.newarray .int) := by decide +kernel
theorem k_117_68 : hm_code 117 68 = some (.putfield 35) := by decide +kernel
theorem k_117_71 : hm_code 117 71 = some (.aload_n 0) := by decide +kernel
theorem k_117_72 : hm_code 117 72 = some (.bipush 16) := by decide +kernel
theorem k_117_74 : hm_code 117 74 = some (.newarray .int) := by decide +kernel
theorem k_117_76 : hm_code 117 76 = some (.putfield 38) := by decide +kernel
theorem k_117_79 : hm_code 117 79 = some (.aload_n 0) := by decide +kernel
theorem k_117_80 : hm_code 117 80 = some (.bipush 16) := by decide +kernel
theorem k_117_82 : hm_code 117 82 = some (.newarray .int) := by decide +kernel
theorem k_117_84 : hm_code 117 84 = some (.putfield 41) := by decide +kernel
theorem k_117_87 : hm_code 117 87 = some (.aload_n 0) := by decide +kernel
theorem k_117_88 : hm_code 117 88 = some (.bipush 96) := by decide +kernel
theorem k_117_90 : hm_code 117 90 = some (.newarray .int) := by decide +kernel
theorem k_117_92 : hm_code 117 92 = some (.putfield 44) := by decide +kernel
theorem k_117_95 : hm_code 117 95 = some (.aload_n 0) := by decide +kernel
theorem k_117_96 : hm_code 117 96 = some (.bipush 64) := by decide +kernel
theorem k_117_98 : hm_code 117 98 = some (.newarray .int) := by decide +kernel
theorem k_117_100 : hm_code 117 100 = some (.putfield 47) := by decide +kernel
theorem k_117_103 : hm_code 117 103 = some (.aload_n 0) := by decide +kernel
theorem k_117_104 : hm_code 117 104 = some (.bipush 16) := by decide +kernel
theorem k_117_106 : hm_code 117 106 = some (.newarray .boolean) := by decide +kernel
theorem k_117_108 : hm_code 117 108 = some (.putfield 50) := by decide +kernel
theorem k_117_111 : hm_code 117 111 = some (.aload_n 0) := by decide +kernel
theorem k_117_112 : hm_code 117 112 = some (.bipush 16) := by decide +kernel
theorem k_117_114 : hm_code 117 114 = some (.newarray .int) := by decide +kernel
theorem k_117_116 : hm_code 117 116 = some (.putfield 54) := by decide +kernel
theorem k_117_119 : hm_code 117 119 = some (.aload_n 0) := by decide +kernel
theorem k_117_120 : hm_code 117 120 = some (.bipush 16) := by decide +kernel
theorem k_117_122 : hm_code 117 122 = some (.newarray .int) := by decide +kernel
theorem k_117_124 : hm_code 117 124 = some (.putfield 57) := by decide +kernel
theorem k_117_127 : hm_code 117 127 = some (.aload_n 0) := by decide +kernel
theorem k_117_128 : hm_code 117 128 = some (.bipush 16) := by decide +kernel
theorem k_117_130 : hm_code 117 130 = some (.newarray .int) := by decide +kernel
theorem k_117_132 : hm_code 117 132 = some (.putfield 60) := by decide +kernel
theorem k_117_135 : hm_code 117 135 = some (.aload_n 0) := by decide +kernel
theorem k_117_136 : hm_code 117 136 = some (.bipush 16) := by decide +kernel
theorem k_117_138 : hm_code 117 138 = some (.newarray .int) := by decide +kernel
theorem k_117_140 : hm_code 117 140 = some (.putfield 63) := by decide +kernel
theorem k_117_143 : hm_code 117 143 = some (.aload_n 0) := by decide +kernel
theorem k_117_144 : hm_code 117 144 = some (.bipush 8) := by decide +kernel
theorem k_117_146 : hm_code 117 146 = some (.newarray .int) := by decide +kernel
theorem k_117_148 : hm_code 117 148 = some (.putfield 66) := by decide +kernel
theorem k_117_151 : hm_code 117 151 = some (.aload_n 0) := by decide +kernel
theorem k_117_152 : hm_code 117 152 = some (.bipush 8) := by decide +kernel
theorem k_117_154 : hm_code 117 154 = some (.newarray .int) := by decide +kernel
theorem k_117_156 : hm_code 117 156 = some (.putfield 69) := by decide +kernel
theorem k_117_159 : hm_code 117 159 = some (.aload_n 0) := by decide +kernel
theorem k_117_160 : hm_code 117 160 = some (.sipush 7392) := by decide +kernel
theorem k_117_163 : hm_code 117 163 = some (.newarray .int) := by decide +kernel
theorem k_117_165 : hm_code 117 165 = some (.putfield 72) := by decide +kernel
theorem k_117_168 : hm_code 117 168 = some (.aload_n 0) := by decide +kernel
theorem k_117_169 : hm_code 117 169 = some (.bipush 8) := by decide +kernel
theorem k_117_171 : hm_code 117 171 = some (.newarray .int) := by decide +kernel
theorem k_117_173 : hm_code 117 173 = some (.putfield 75) := by decide +kernel
theorem k_117_176 : hm_code 117 176 = some (.aload_n 0) := by decide +kernel
theorem k_117_177 : hm_code 117 177 = some (.bipush 6) := by decide +kernel
theorem k_117_179 : hm_code 117 179 = some (.newarray .int) := by decide +kernel
theorem k_117_181 : hm_code 117 181 = some (.putfield 78) := by decide +kernel
theorem k_117_184 : hm_code 117 184 = some (.aload_n 0) := by decide +kernel
theorem k_117_185 : hm_code 117 185 = some (.getfield 7) := by decide +kernel
theorem k_117_188 : hm_code 117 188 = some (.iconst 0) := by decide +kernel
theorem k_117_189 : hm_code 117 189 = some (.iconst 3) := by decide +kernel
theorem k_117_190 : hm_code 117 190 = some (.iastore) := by decide +kernel
theorem k_117_191 : hm_code 117 191 = some (.aload_n 0) := by decide +kernel
theorem k_117_192 : hm_code 117 192 = some (.getfield 7) := by decide +kernel
theorem k_117_195 : hm_code 117 195 = some (.iconst 1) := by decide +kernel
theorem k_117_196 : hm_code 117 196 = some (.iconst 1) := by decide +kernel
theorem k_117_197 : hm_code 117 197 = some (.iastore) := by decide +kernel
theorem k_117_198 : hm_code 117 198 = some (.aload_n 0) := by decide +kernel
theorem k_117_199 : hm_code 117 199 = some (.getfield 7) := by decide +kernel
theorem k_117_202 : hm_code 117 202 = some (.iconst 2) := by decide +kernel
theorem k_117_203 : hm_code 117 203 = some (.iconst 4) := by decide +kernel
theorem k_117_204 : hm_code 117 204 = some (.iastore) := by decide +kernel
theorem k_117_205 : hm_code 117 205 = some (.iconst 0) := by decide +kernel
theorem k_117_206 : hm_code 117 206 = some (.istore_n 1) := by decide +kernel
theorem k_117_207 : hm_code 117 207 = some (.iload_n 1) := by decide +kernel
theorem k_117_208 : hm_code 117 208 = some (.iconst 3) := by decide +kernel
theorem k_117_209 : hm_code 117 209 = some (.if_icmp .ge 18) := by decide +kernel
theorem k_117_212 : hm_code 117 212 = some (.aload_n 0) := by decide +kernel
theorem k_117_213 : hm_code 117 213 = some (.getfield 13) := by decide +kernel
theorem k_117_216 : hm_code 117 216 = some (.iload_n 1) := by decide +kernel
theorem k_117_217 : hm_code 117 217 = some (.sipush 1023) := by decide +kernel
theorem k_117_220 : hm_code 117 220 = some (.iastore) := by decide +kernel
theorem k_117_221 : hm_code 117 221 = some (.iinc 1 1) := by decide +kernel
theorem k_117_224 : hm_code 117 224 = some (.goto (-17)) := by decide +kernel
theorem k_117_227 : hm_code 117 227 = some (.iconst 0) := by decide +kernel
theorem k_117_228 : hm_code 117 228 = some (.istore_n 1) := by decide +kernel
theorem k_117_229 : hm_code 117 229 = some (.iload_n 1) := by decide +kernel
theorem k_117_230 : hm_code 117 230 = some (.bipush 80) := by decide +kernel
theorem k_117_232 : hm_code 117 232 = some (.if_icmp .ge 34) := by decide +kernel
theorem k_117_235 : hm_code 117 235 = some (.aload_n 0) := by decide +kernel
theorem k_117_236 : hm_code 117 236 = some (.getfield 19) := by decide +kernel
theorem k_117_239 : hm_code 117 239 = some (.iload_n 1) := by decide +kernel
theorem k_117_240 : hm_code 117 240 = some (.iload_n 1) := by decide +kernel
theorem k_117_241 : hm_code 117 241 = some (.iconst 5) := by decide +kernel
theorem k_117_242 : hm_code 117 242 = some (.irem) := by decide +kernel
theorem k_117_243 : hm_code 117 243 = some (.iconst 1) := by decide +kernel
theorem k_117_244 : hm_code 117 244 = some (.if_icmp .eq 10) := by decide +kernel
theorem k_117_247 : hm_code 117 247 = some (.iload_n 1) := by decide +kernel
theorem k_117_248 : hm_code 117 248 = some (.iconst 5) := by decide +kernel
theorem k_117_249 : hm_code 117 249 = some (.irem) := by decide +kernel
theorem k_117_250 : hm_code 117 250 = some (.iconst 2) := by decide +kernel
theorem k_117_251 : hm_code 117 251 = some (.if_icmp .ne 7) := by decide +kernel
theorem k_117_254 : hm_code 117 254 = some (.iconst (-1)) := by decide +kernel
theorem k_117_255 : hm_code 117 255 = some (.goto 4) := by decide +kernel
theorem k_117_258 : hm_code 117 258 = some (.iconst 0) := by decide +kernel
theorem k_117_259 : hm_code 117 259 = some (.iastore) := by decide +kernel
theorem k_117_260 : hm_code 117 260 = some (.iinc 1 1) := by decide +kernel
theorem k_117_263 : hm_code 117 263 = some (.goto (-34)) := by decide +kernel
theorem k_117_266 : hm_code 117 266 = some (.return_) := by decide +kernel
theorem m_118 : hm_mtab[118]? = some (⟨"HourPromisedModel", "house", "(II)I"⟩, prog_10_method_14_code, 5, (some .int), 8, 3, 1) := rfl
theorem k_118_0 : hm_code 118 0 = some (.iload_n 1) := by decide +kernel
theorem k_118_1 : hm_code 118 1 = some (.i2l) := by decide +kernel
theorem k_118_2 : hm_code 118 2 = some (.lconst 0) := by decide +kernel
theorem k_118_3 : hm_code 118 3 = some (.ldc2_w 103) := by decide +kernel
theorem k_118_6 : hm_code 118 6 = some (.invokestatic 84) := by decide +kernel
theorem k_118_9 : hm_code 118 9 = some (.ifCond .eq 36) := by decide +kernel
theorem k_118_12 : hm_code 118 12 = some (.iload_n 2) := by decide +kernel
theorem k_118_13 : hm_code 118 13 = some (.i2l) := by decide +kernel
theorem k_118_14 : hm_code 118 14 = some (.lconst 0) := by decide +kernel
theorem k_118_15 : hm_code 118 15 = some (.iload_n 1) := by decide +kernel
theorem k_118_16 : hm_code 118 16 = some (.ifCond .ne 9) := by decide +kernel
theorem k_118_19 : hm_code 118 19 = some (.ldc2_w 105) := by decide +kernel
theorem k_118_22 : hm_code 118 22 = some (.goto 17) := by decide +kernel
theorem k_118_25 : hm_code 118 25 = some (.iload_n 1) := by decide +kernel
theorem k_118_26 : hm_code 118 26 = some (.iconst 1) := by decide +kernel
theorem k_118_27 : hm_code 118 27 = some (.if_icmp .ne 9) := by decide +kernel
theorem k_118_30 : hm_code 118 30 = some (.ldc2_w 90) := by decide +kernel
theorem k_118_33 : hm_code 118 33 = some (.goto 6) := by decide +kernel
theorem k_118_36 : hm_code 118 36 = some (.ldc2_w 107) := by decide +kernel
theorem k_118_39 : hm_code 118 39 = some (.invokestatic 84) := by decide +kernel
theorem k_118_42 : hm_code 118 42 = some (.ifCond .ne 7) := by decide +kernel
theorem k_118_45 : hm_code 118 45 = some (.sipush (-1002)) := by decide +kernel
theorem k_118_48 : hm_code 118 48 = some (.ireturn) := by decide +kernel
theorem k_118_49 : hm_code 118 49 = some (.iconst 0) := by decide +kernel
theorem k_118_50 : hm_code 118 50 = some (.istore_n 3) := by decide +kernel
theorem k_118_51 : hm_code 118 51 = some (.iload_n 3) := by decide +kernel
theorem k_118_52 : hm_code 118 52 = some (.sipush 400) := by decide +kernel
theorem k_118_55 : hm_code 118 55 = some (.if_icmp .ge 52) := by decide +kernel
theorem k_118_58 : hm_code 118 58 = some (.iload_n 1) := by decide +kernel
theorem k_118_59 : hm_code 118 59 = some (.ifCond .ne 11) := by decide +kernel
theorem k_118_62 : hm_code 118 62 = some (.aload_n 0) := by decide +kernel
theorem k_118_63 : hm_code 118 63 = some (.iload_n 3) := by decide +kernel
theorem k_118_64 : hm_code 118 64 = some (.invokevirtual 109) := by decide +kernel
theorem k_118_67 : hm_code 118 67 = some (.goto 22) := by decide +kernel
theorem k_118_70 : hm_code 118 70 = some (.iload_n 1) := by decide +kernel
theorem k_118_71 : hm_code 118 71 = some (.iconst 1) := by decide +kernel
theorem k_118_72 : hm_code 118 72 = some (.if_icmp .ne 12) := by decide +kernel
theorem k_118_75 : hm_code 118 75 = some (.aload_n 0) := by decide +kernel
theorem k_118_76 : hm_code 118 76 = some (.iload_n 3) := by decide +kernel
theorem k_118_77 : hm_code 118 77 = some (.iconst 2) := by decide +kernel
theorem k_118_78 : hm_code 118 78 = some (.invokevirtual 96) := by decide +kernel
theorem k_118_81 : hm_code 118 81 = some (.goto 8) := by decide +kernel
theorem k_118_84 : hm_code 118 84 = some (.aload_n 0) := by decide +kernel
theorem k_118_85 : hm_code 118 85 = some (.iload_n 3) := by decide +kernel
theorem k_118_86 : hm_code 118 86 = some (.invokevirtual 112) := by decide +kernel
theorem k_118_89 : hm_code 118 89 = some (.istore 4) := by decide +kernel
theorem k_118_91 : hm_code 118 91 = some (.iload 4) := by decide +kernel
theorem k_118_93 : hm_code 118 93 = some (.iload_n 2) := by decide +kernel
theorem k_118_94 : hm_code 118 94 = some (.if_icmp .le 7) := by decide +kernel
theorem k_118_97 : hm_code 118 97 = some (.sipush (-1003)) := by decide +kernel
theorem k_118_100 : hm_code 118 100 = some (.ireturn) := by decide +kernel
theorem k_118_101 : hm_code 118 101 = some (.iinc 3 1) := by decide +kernel
theorem k_118_104 : hm_code 118 104 = some (.goto (-53)) := by decide +kernel
theorem k_118_107 : hm_code 118 107 = some (.aload_n 0) := by decide +kernel
theorem k_118_108 : hm_code 118 108 = some (.getfield 7) := by decide +kernel
theorem k_118_111 : hm_code 118 111 = some (.iload_n 1) := by decide +kernel
theorem k_118_112 : hm_code 118 112 = some (.iaload) := by decide +kernel
theorem k_118_113 : hm_code 118 113 = some (.istore_n 3) := by decide +kernel
theorem k_118_114 : hm_code 118 114 = some (.aload_n 0) := by decide +kernel
theorem k_118_115 : hm_code 118 115 = some (.getfield 7) := by decide +kernel
theorem k_118_118 : hm_code 118 118 = some (.iload_n 1) := by decide +kernel
theorem k_118_119 : hm_code 118 119 = some (.iload_n 2) := by decide +kernel
theorem k_118_120 : hm_code 118 120 = some (.iastore) := by decide +kernel
theorem k_118_121 : hm_code 118 121 = some (.iload_n 3) := by decide +kernel
theorem k_118_122 : hm_code 118 122 = some (.ireturn) := by decide +kernel
theorem m_119 : hm_mtab[119]? = some (⟨"HourPromisedModel", "in", "(JJJ)Z"⟩, prog_10_method_3_code, 6, (some .boolean), 8, 3, 0) := rfl
theorem k_119_0 : hm_code 119 0 = some (.lload_n 0) := by decide +kernel
theorem k_119_1 : hm_code 119 1 = some (.lload_n 2) := by decide +kernel
theorem k_119_2 : hm_code 119 2 = some (.lcmp) := by decide +kernel
theorem k_119_3 : hm_code 119 3 = some (.ifCond .lt 14) := by decide +kernel
theorem k_119_6 : hm_code 119 6 = some (.lload_n 0) := by decide +kernel
theorem k_119_7 : hm_code 119 7 = some (.lload 4) := by decide +kernel
theorem k_119_9 : hm_code 119 9 = some (.lcmp) := by decide +kernel
theorem k_119_10 : hm_code 119 10 = some (.ifCond .gt 7) := by decide +kernel
theorem k_119_13 : hm_code 119 13 = some (.iconst 1) := by decide +kernel
theorem k_119_14 : hm_code 119 14 = some (.goto 4) := by decide +kernel
theorem k_119_17 : hm_code 119 17 = some (.iconst 0) := by decide +kernel
theorem k_119_18 : hm_code 119 18 = some (.ireturn) := by decide +kernel
theorem m_120 : hm_mtab[120]? = some (⟨"HourPromisedModel", "carsAt", "(I)I"⟩, prog_10_method_10_code, 2, (some .int), 8, 2, 1) := rfl
theorem k_120_0 : hm_code 120 0 = some (.aload_n 0) := by decide +kernel
theorem k_120_1 : hm_code 120 1 = some (.iload_n 1) := by decide +kernel
theorem k_120_2 : hm_code 120 2 = some (.iconst 0) := by decide +kernel
theorem k_120_3 : hm_code 120 3 = some (.invokevirtual 96) := by decide +kernel
theorem k_120_6 : hm_code 120 6 = some (.aload_n 0) := by decide +kernel
theorem k_120_7 : hm_code 120 7 = some (.iload_n 1) := by decide +kernel
theorem k_120_8 : hm_code 120 8 = some (.iconst 1) := by decide +kernel
theorem k_120_9 : hm_code 120 9 = some (.invokevirtual 96) := by decide +kernel
theorem k_120_12 : hm_code 120 12 = some (.iadd) := by decide +kernel
theorem k_120_13 : hm_code 120 13 = some (.aload_n 0) := by decide +kernel
theorem k_120_14 : hm_code 120 14 = some (.iload_n 1) := by decide +kernel
theorem k_120_15 : hm_code 120 15 = some (.iconst 2) := by decide +kernel
theorem k_120_16 : hm_code 120 16 = some (.invokevirtual 96) := by decide +kernel
theorem k_120_19 : hm_code 120 19 = some (.iadd) := by decide +kernel
theorem k_120_20 : hm_code 120 20 = some (.aload_n 0) := by decide +kernel
theorem k_120_21 : hm_code 120 21 = some (.iload_n 1) := by decide +kernel
theorem k_120_22 : hm_code 120 22 = some (.iconst 3) := by decide +kernel
theorem k_120_23 : hm_code 120 23 = some (.invokevirtual 96) := by decide +kernel
theorem k_120_26 : hm_code 120 26 = some (.iadd) := by decide +kernel
theorem k_120_27 : hm_code 120 27 = some (.ireturn) := by decide +kernel
theorem m_121 : hm_mtab[121]? = some (⟨"HourPromisedModel", "stepsAt", "(II)I"⟩, prog_10_method_9_code, 5, (some .int), 8, 3, 1) := rfl
theorem k_121_0 : hm_code 121 0 = some (.iconst 0) := by decide +kernel
theorem k_121_1 : hm_code 121 1 = some (.istore_n 3) := by decide +kernel
theorem k_121_2 : hm_code 121 2 = some (.iconst 0) := by decide +kernel
theorem k_121_3 : hm_code 121 3 = some (.istore 4) := by decide +kernel
theorem k_121_5 : hm_code 121 5 = some (.iload 4) := by decide +kernel
theorem k_121_7 : hm_code 121 7 = some (.aload_n 0) := by decide +kernel
theorem k_121_8 : hm_code 121 8 = some (.getfield 81) := by decide +kernel
theorem k_121_11 : hm_code 121 11 = some (.if_icmp .ge 28) := by decide +kernel
theorem k_121_14 : hm_code 121 14 = some (.iload_n 3) := by decide +kernel
theorem k_121_15 : hm_code 121 15 = some (.aload_n 0) := by decide +kernel
theorem k_121_16 : hm_code 121 16 = some (.iload 4) := by decide +kernel
theorem k_121_18 : hm_code 121 18 = some (.iload_n 2) := by decide +kernel
theorem k_121_19 : hm_code 121 19 = some (.invokevirtual 92) := by decide +kernel
theorem k_121_22 : hm_code 121 22 = some (.iload_n 1) := by decide +kernel
theorem k_121_23 : hm_code 121 23 = some (.if_icmp .ne 7) := by decide +kernel
theorem k_121_26 : hm_code 121 26 = some (.iconst 1) := by decide +kernel
theorem k_121_27 : hm_code 121 27 = some (.goto 4) := by decide +kernel
theorem k_121_30 : hm_code 121 30 = some (.iconst 0) := by decide +kernel
theorem k_121_31 : hm_code 121 31 = some (.iadd) := by decide +kernel
theorem k_121_32 : hm_code 121 32 = some (.istore_n 3) := by decide +kernel
theorem k_121_33 : hm_code 121 33 = some (.iinc 4 1) := by decide +kernel
theorem k_121_36 : hm_code 121 36 = some (.goto (-31)) := by decide +kernel
theorem k_121_39 : hm_code 121 39 = some (.iload_n 3) := by decide +kernel
theorem k_121_40 : hm_code 121 40 = some (.ireturn) := by decide +kernel
theorem m_122 : hm_mtab[122]? = some (⟨"HourPromisedModel", "hourOf", "(II)I"⟩, prog_10_method_7_code, 3, (some .int), 8, 3, 1) := rfl
theorem k_122_0 : hm_code 122 0 = some (.aload_n 0) := by decide +kernel
theorem k_122_1 : hm_code 122 1 = some (.getfield 47) := by decide +kernel
theorem k_122_4 : hm_code 122 4 = some (.iconst 4) := by decide +kernel
theorem k_122_5 : hm_code 122 5 = some (.iload_n 1) := by decide +kernel
theorem k_122_6 : hm_code 122 6 = some (.imul) := by decide +kernel
theorem k_122_7 : hm_code 122 7 = some (.iload_n 2) := by decide +kernel
theorem k_122_8 : hm_code 122 8 = some (.iadd) := by decide +kernel
theorem k_122_9 : hm_code 122 9 = some (.iaload) := by decide +kernel
theorem k_122_10 : hm_code 122 10 = some (.ireturn) := by decide +kernel
theorem m_123 : hm_mtab[123]? = some (⟨"HourPromisedModel", "roomsAt", "(I)I"⟩, prog_10_method_12_code, 4, (some .int), 8, 2, 1) := rfl
theorem k_123_0 : hm_code 123 0 = some (.iconst 0) := by decide +kernel
theorem k_123_1 : hm_code 123 1 = some (.istore_n 2) := by decide +kernel
theorem k_123_2 : hm_code 123 2 = some (.iconst 0) := by decide +kernel
theorem k_123_3 : hm_code 123 3 = some (.istore_n 3) := by decide +kernel
theorem k_123_4 : hm_code 123 4 = some (.iload_n 3) := by decide +kernel
theorem k_123_5 : hm_code 123 5 = some (.aload_n 0) := by decide +kernel
theorem k_123_6 : hm_code 123 6 = some (.getfield 81) := by decide +kernel
theorem k_123_9 : hm_code 123 9 = some (.if_icmp .ge 47) := by decide +kernel
theorem k_123_12 : hm_code 123 12 = some (.iload_n 2) := by decide +kernel
theorem k_123_13 : hm_code 123 13 = some (.aload_n 0) := by decide +kernel
theorem k_123_14 : hm_code 123 14 = some (.iload_n 3) := by decide +kernel
theorem k_123_15 : hm_code 123 15 = some (.iconst 0) := by decide +kernel
theorem k_123_16 : hm_code 123 16 = some (.invokevirtual 92) := by decide +kernel
theorem k_123_19 : hm_code 123 19 = some (.ifCond .lt 28) := by decide +kernel
theorem k_123_22 : hm_code 123 22 = some (.iload_n 1) := by decide +kernel
theorem k_123_23 : hm_code 123 23 = some (.i2l) := by decide +kernel
theorem k_123_24 : hm_code 123 24 = some (.aload_n 0) := by decide +kernel
theorem k_123_25 : hm_code 123 25 = some (.iload_n 3) := by decide +kernel
theorem k_123_26 : hm_code 123 26 = some (.iconst 0) := by decide +kernel
theorem k_123_27 : hm_code 123 27 = some (.invokevirtual 92) := by decide +kernel
theorem k_123_30 : hm_code 123 30 = some (.i2l) := by decide +kernel
theorem k_123_31 : hm_code 123 31 = some (.aload_n 0) := by decide +kernel
theorem k_123_32 : hm_code 123 32 = some (.iload_n 3) := by decide +kernel
theorem k_123_33 : hm_code 123 33 = some (.invokevirtual 99) := by decide +kernel
theorem k_123_36 : hm_code 123 36 = some (.i2l) := by decide +kernel
theorem k_123_37 : hm_code 123 37 = some (.invokestatic 84) := by decide +kernel
theorem k_123_40 : hm_code 123 40 = some (.ifCond .eq 7) := by decide +kernel
theorem k_123_43 : hm_code 123 43 = some (.iconst 1) := by decide +kernel
theorem k_123_44 : hm_code 123 44 = some (.goto 4) := by decide +kernel
theorem k_123_47 : hm_code 123 47 = some (.iconst 0) := by decide +kernel
theorem k_123_48 : hm_code 123 48 = some (.iadd) := by decide +kernel
theorem k_123_49 : hm_code 123 49 = some (.istore_n 2) := by decide +kernel
theorem k_123_50 : hm_code 123 50 = some (.iinc 3 1) := by decide +kernel
theorem k_123_53 : hm_code 123 53 = some (.goto (-49)) := by decide +kernel
theorem k_123_56 : hm_code 123 56 = some (.iload_n 2) := by decide +kernel
theorem k_123_57 : hm_code 123 57 = some (.ireturn) := by decide +kernel
theorem m_124 : hm_mtab[124]? = some (⟨"HourPromisedModel", "roomEnd", "(I)I"⟩, prog_10_method_11_code, 5, (some .int), 8, 2, 1) := rfl
theorem k_124_0 : hm_code 124 0 = some (.aload_n 0) := by decide +kernel
theorem k_124_1 : hm_code 124 1 = some (.iload_n 1) := by decide +kernel
theorem k_124_2 : hm_code 124 2 = some (.iconst 2) := by decide +kernel
theorem k_124_3 : hm_code 124 3 = some (.invokevirtual 92) := by decide +kernel
theorem k_124_6 : hm_code 124 6 = some (.istore_n 2) := by decide +kernel
theorem k_124_7 : hm_code 124 7 = some (.aload_n 0) := by decide +kernel
theorem k_124_8 : hm_code 124 8 = some (.iload_n 1) := by decide +kernel
theorem k_124_9 : hm_code 124 9 = some (.iconst 3) := by decide +kernel
theorem k_124_10 : hm_code 124 10 = some (.invokevirtual 92) := by decide +kernel
theorem k_124_13 : hm_code 124 13 = some (.istore_n 3) := by decide +kernel
theorem k_124_14 : hm_code 124 14 = some (.iload_n 2) := by decide +kernel
theorem k_124_15 : hm_code 124 15 = some (.ifCond .ge 7) := by decide +kernel
theorem k_124_18 : hm_code 124 18 = some (.iload_n 3) := by decide +kernel
theorem k_124_19 : hm_code 124 19 = some (.goto 21) := by decide +kernel
theorem k_124_22 : hm_code 124 22 = some (.iload_n 3) := by decide +kernel
theorem k_124_23 : hm_code 124 23 = some (.ifCond .ge 7) := by decide +kernel
theorem k_124_26 : hm_code 124 26 = some (.iload_n 2) := by decide +kernel
theorem k_124_27 : hm_code 124 27 = some (.goto 13) := by decide +kernel
theorem k_124_30 : hm_code 124 30 = some (.iload_n 2) := by decide +kernel
theorem k_124_31 : hm_code 124 31 = some (.iload_n 3) := by decide +kernel
theorem k_124_32 : hm_code 124 32 = some (.if_icmp .ge 7) := by decide +kernel
theorem k_124_35 : hm_code 124 35 = some (.iload_n 2) := by decide +kernel
theorem k_124_36 : hm_code 124 36 = some (.goto 4) := by decide +kernel
theorem k_124_39 : hm_code 124 39 = some (.iload_n 3) := by decide +kernel
theorem k_124_40 : hm_code 124 40 = some (.istore 4) := by decide +kernel
theorem k_124_42 : hm_code 124 42 = some (.iload 4) := by decide +kernel
theorem k_124_44 : hm_code 124 44 = some (.ifCond .ge 9) := by decide +kernel
theorem k_124_47 : hm_code 124 47 = some (.sipush 399) := by decide +kernel
theorem k_124_50 : hm_code 124 50 = some (.goto 7) := by decide +kernel
theorem k_124_53 : hm_code 124 53 = some (.iload 4) := by decide +kernel
theorem k_124_55 : hm_code 124 55 = some (.iconst 1) := by decide +kernel
theorem k_124_56 : hm_code 124 56 = some (.isub) := by decide +kernel
theorem k_124_57 : hm_code 124 57 = some (.ireturn) := by decide +kernel
theorem m_125 : hm_mtab[125]? = some (⟨"HourPromisedModel", "open", "(II)I"⟩, prog_10_method_15_code, 5, (some .int), 8, 3, 1) := rfl
theorem k_125_0 : hm_code 125 0 = some (.iload_n 1) := by decide +kernel
theorem k_125_1 : hm_code 125 1 = some (.i2l) := by decide +kernel
theorem k_125_2 : hm_code 125 2 = some (.lconst 0) := by decide +kernel
theorem k_125_3 : hm_code 125 3 = some (.ldc2_w 103) := by decide +kernel
theorem k_125_6 : hm_code 125 6 = some (.invokestatic 84) := by decide +kernel
theorem k_125_9 : hm_code 125 9 = some (.ifCond .ne 7) := by decide +kernel
theorem k_125_12 : hm_code 125 12 = some (.sipush (-1001)) := by decide +kernel
theorem k_125_15 : hm_code 125 15 = some (.ireturn) := by decide +kernel
theorem k_125_16 : hm_code 125 16 = some (.iload_n 2) := by decide +kernel
theorem k_125_17 : hm_code 125 17 = some (.i2l) := by decide +kernel
theorem k_125_18 : hm_code 125 18 = some (.lconst 0) := by decide +kernel
theorem k_125_19 : hm_code 125 19 = some (.ldc2_w 115) := by decide +kernel
theorem k_125_22 : hm_code 125 22 = some (.invokestatic 84) := by decide +kernel
theorem k_125_25 : hm_code 125 25 = some (.ifCond .ne 7) := by decide +kernel
theorem k_125_28 : hm_code 125 28 = some (.sipush (-1002)) := by decide +kernel
theorem k_125_31 : hm_code 125 31 = some (.ireturn) := by decide +kernel
theorem k_125_32 : hm_code 125 32 = some (.aload_n 0) := by decide +kernel
theorem k_125_33 : hm_code 125 33 = some (.getfield 13) := by decide +kernel
theorem k_125_36 : hm_code 125 36 = some (.iload_n 1) := by decide +kernel
theorem k_125_37 : hm_code 125 37 = some (.iaload) := by decide +kernel
theorem k_125_38 : hm_code 125 38 = some (.istore_n 3) := by decide +kernel
theorem k_125_39 : hm_code 125 39 = some (.aload_n 0) := by decide +kernel
theorem k_125_40 : hm_code 125 40 = some (.getfield 13) := by decide +kernel
theorem k_125_43 : hm_code 125 43 = some (.iload_n 1) := by decide +kernel
theorem k_125_44 : hm_code 125 44 = some (.iload_n 2) := by decide +kernel
theorem k_125_45 : hm_code 125 45 = some (.iastore) := by decide +kernel
theorem k_125_46 : hm_code 125 46 = some (.iconst 0) := by decide +kernel
theorem k_125_47 : hm_code 125 47 = some (.istore 4) := by decide +kernel
theorem k_125_49 : hm_code 125 49 = some (.iload 4) := by decide +kernel
theorem k_125_51 : hm_code 125 51 = some (.sipush 400) := by decide +kernel
theorem k_125_54 : hm_code 125 54 = some (.if_icmp .ge 36) := by decide +kernel
theorem k_125_57 : hm_code 125 57 = some (.aload_n 0) := by decide +kernel
theorem k_125_58 : hm_code 125 58 = some (.iload 4) := by decide +kernel
theorem k_125_60 : hm_code 125 60 = some (.iconst 1) := by decide +kernel
theorem k_125_61 : hm_code 125 61 = some (.invokevirtual 96) := by decide +kernel
theorem k_125_64 : hm_code 125 64 = some (.aload_n 0) := by decide +kernel
theorem k_125_65 : hm_code 125 65 = some (.iload 4) := by decide +kernel
theorem k_125_67 : hm_code 125 67 = some (.invokevirtual 117) := by decide +kernel
theorem k_125_70 : hm_code 125 70 = some (.if_icmp .le 14) := by decide +kernel
theorem k_125_73 : hm_code 125 73 = some (.aload_n 0) := by decide +kernel
theorem k_125_74 : hm_code 125 74 = some (.getfield 13) := by decide +kernel
theorem k_125_77 : hm_code 125 77 = some (.iload_n 1) := by decide +kernel
theorem k_125_78 : hm_code 125 78 = some (.iload_n 3) := by decide +kernel
theorem k_125_79 : hm_code 125 79 = some (.iastore) := by decide +kernel
theorem k_125_80 : hm_code 125 80 = some (.sipush (-1003)) := by decide +kernel
theorem k_125_83 : hm_code 125 83 = some (.ireturn) := by decide +kernel
theorem k_125_84 : hm_code 125 84 = some (.iinc 4 1) := by decide +kernel
theorem k_125_87 : hm_code 125 87 = some (.goto (-38)) := by decide +kernel
theorem k_125_90 : hm_code 125 90 = some (.iload_n 3) := by decide +kernel
theorem k_125_91 : hm_code 125 91 = some (.ireturn) := by decide +kernel
theorem m_126 : hm_mtab[126]? = some (⟨"HourPromisedModel", "chapelsAt", "(I)I"⟩, prog_10_method_13_code, 4, (some .int), 8, 2, 1) := rfl
theorem k_126_0 : hm_code 126 0 = some (.iconst 0) := by decide +kernel
theorem k_126_1 : hm_code 126 1 = some (.istore_n 2) := by decide +kernel
theorem k_126_2 : hm_code 126 2 = some (.iconst 0) := by decide +kernel
theorem k_126_3 : hm_code 126 3 = some (.istore_n 3) := by decide +kernel
theorem k_126_4 : hm_code 126 4 = some (.iload_n 3) := by decide +kernel
theorem k_126_5 : hm_code 126 5 = some (.iconst 3) := by decide +kernel
theorem k_126_6 : hm_code 126 6 = some (.if_icmp .ge 25) := by decide +kernel
theorem k_126_9 : hm_code 126 9 = some (.iload_n 2) := by decide +kernel
theorem k_126_10 : hm_code 126 10 = some (.aload_n 0) := by decide +kernel
theorem k_126_11 : hm_code 126 11 = some (.getfield 13) := by decide +kernel
theorem k_126_14 : hm_code 126 14 = some (.iload_n 3) := by decide +kernel
theorem k_126_15 : hm_code 126 15 = some (.iaload) := by decide +kernel
theorem k_126_16 : hm_code 126 16 = some (.iload_n 1) := by decide +kernel
theorem k_126_17 : hm_code 126 17 = some (.bipush 10) := by decide +kernel
theorem k_126_19 : hm_code 126 19 = some (.irem) := by decide +kernel
theorem k_126_20 : hm_code 126 20 = some (.ishr) := by decide +kernel
theorem k_126_21 : hm_code 126 21 = some (.iconst 1) := by decide +kernel
theorem k_126_22 : hm_code 126 22 = some (.iand) := by decide +kernel
theorem k_126_23 : hm_code 126 23 = some (.iadd) := by decide +kernel
theorem k_126_24 : hm_code 126 24 = some (.istore_n 2) := by decide +kernel
theorem k_126_25 : hm_code 126 25 = some (.iinc 3 1) := by decide +kernel
theorem k_126_28 : hm_code 126 28 = some (.goto (-24)) := by decide +kernel
theorem k_126_31 : hm_code 126 31 = some (.iload_n 2) := by decide +kernel
theorem k_126_32 : hm_code 126 32 = some (.ireturn) := by decide +kernel
theorem m_127 : hm_mtab[127]? = some (⟨"HourPromisedModel", "bearer", "(I)I"⟩, prog_10_method_16_code, 2, (some .int), 8, 2, 1) := rfl
theorem k_127_0 : hm_code 127 0 = some (.iload_n 1) := by decide +kernel
theorem k_127_1 : hm_code 127 1 = some (.i2l) := by decide +kernel
theorem k_127_2 : hm_code 127 2 = some (.ldc2_w 120) := by decide +kernel
theorem k_127_5 : hm_code 127 5 = some (.ldc2_w 122) := by decide +kernel
theorem k_127_8 : hm_code 127 8 = some (.invokestatic 84) := by decide +kernel
theorem k_127_11 : hm_code 127 11 = some (.ifCond .ne 7) := by decide +kernel
theorem k_127_14 : hm_code 127 14 = some (.sipush (-1002)) := by decide +kernel
theorem k_127_17 : hm_code 127 17 = some (.ireturn) := by decide +kernel
theorem k_127_18 : hm_code 127 18 = some (.aload_n 0) := by decide +kernel
theorem k_127_19 : hm_code 127 19 = some (.getfield 124) := by decide +kernel
theorem k_127_22 : hm_code 127 22 = some (.bipush 12) := by decide +kernel
theorem k_127_24 : hm_code 127 24 = some (.if_icmp .ne 7) := by decide +kernel
theorem k_127_27 : hm_code 127 27 = some (.sipush (-1004)) := by decide +kernel
theorem k_127_30 : hm_code 127 30 = some (.ireturn) := by decide +kernel
theorem k_127_31 : hm_code 127 31 = some (.aload_n 0) := by decide +kernel
theorem k_127_32 : hm_code 127 32 = some (.getfield 16) := by decide +kernel
theorem k_127_35 : hm_code 127 35 = some (.aload_n 0) := by decide +kernel
theorem k_127_36 : hm_code 127 36 = some (.getfield 124) := by decide +kernel
theorem k_127_39 : hm_code 127 39 = some (.iload_n 1) := by decide +kernel
theorem k_127_40 : hm_code 127 40 = some (.iastore) := by decide +kernel
theorem k_127_41 : hm_code 127 41 = some (.aload_n 0) := by decide +kernel
theorem k_127_42 : hm_code 127 42 = some (.dup) := by decide +kernel
theorem k_127_43 : hm_code 127 43 = some (.getfield 124) := by decide +kernel
theorem k_127_46 : hm_code 127 46 = some (.iconst 1) := by decide +kernel
theorem k_127_47 : hm_code 127 47 = some (.iadd) := by decide +kernel
theorem k_127_48 : hm_code 127 48 = some (.putfield 124) := by decide +kernel
theorem k_127_51 : hm_code 127 51 = some (.aload_n 0) := by decide +kernel
theorem k_127_52 : hm_code 127 52 = some (.getfield 124) := by decide +kernel
theorem k_127_55 : hm_code 127 55 = some (.iconst 1) := by decide +kernel
theorem k_127_56 : hm_code 127 56 = some (.isub) := by decide +kernel
theorem k_127_57 : hm_code 127 57 = some (.ireturn) := by decide +kernel
theorem m_128 : hm_mtab[128]? = some (⟨"HourPromisedModel", "feed", "(IJ)I"⟩, prog_10_method_17_code, 5, (some .int), 8, 3, 1) := rfl
theorem k_128_0 : hm_code 128 0 = some (.iload_n 1) := by decide +kernel
theorem k_128_1 : hm_code 128 1 = some (.i2l) := by decide +kernel
theorem k_128_2 : hm_code 128 2 = some (.lconst 1) := by decide +kernel
theorem k_128_3 : hm_code 128 3 = some (.ldc2_w 107) := by decide +kernel
theorem k_128_6 : hm_code 128 6 = some (.invokestatic 84) := by decide +kernel
theorem k_128_9 : hm_code 128 9 = some (.ifCond .ne 7) := by decide +kernel
theorem k_128_12 : hm_code 128 12 = some (.sipush (-1002)) := by decide +kernel
theorem k_128_15 : hm_code 128 15 = some (.ireturn) := by decide +kernel
theorem k_128_16 : hm_code 128 16 = some (.aload_n 0) := by decide +kernel
theorem k_128_17 : hm_code 128 17 = some (.getfield 127) := by decide +kernel
theorem k_128_20 : hm_code 128 20 = some (.iload_n 1) := by decide +kernel
theorem k_128_21 : hm_code 128 21 = some (.iadd) := by decide +kernel
theorem k_128_22 : hm_code 128 22 = some (.bipush 100) := by decide +kernel
theorem k_128_24 : hm_code 128 24 = some (.if_icmp .le 7) := by decide +kernel
theorem k_128_27 : hm_code 128 27 = some (.sipush (-1004)) := by decide +kernel
theorem k_128_30 : hm_code 128 30 = some (.ireturn) := by decide +kernel
theorem k_128_31 : hm_code 128 31 = some (.iload_n 1) := by decide +kernel
theorem k_128_32 : hm_code 128 32 = some (.iconst 1) := by decide +kernel
theorem k_128_33 : hm_code 128 33 = some (.isub) := by decide +kernel
theorem k_128_34 : hm_code 128 34 = some (.istore 4) := by decide +kernel
theorem k_128_36 : hm_code 128 36 = some (.iload 4) := by decide +kernel
theorem k_128_38 : hm_code 128 38 = some (.ifCond .lt 40) := by decide +kernel
theorem k_128_41 : hm_code 128 41 = some (.aload_n 0) := by decide +kernel
theorem k_128_42 : hm_code 128 42 = some (.getfield 25) := by decide +kernel
theorem k_128_45 : hm_code 128 45 = some (.aload_n 0) := by decide +kernel
theorem k_128_46 : hm_code 128 46 = some (.getfield 127) := by decide +kernel
theorem k_128_49 : hm_code 128 49 = some (.lload_n 2) := by decide +kernel
theorem k_128_50 : hm_code 128 50 = some (.bipush 8) := by decide +kernel
theorem k_128_52 : hm_code 128 52 = some (.iload 4) := by decide +kernel
theorem k_128_54 : hm_code 128 54 = some (.imul) := by decide +kernel
theorem k_128_55 : hm_code 128 55 = some (.lshr) := by decide +kernel
theorem k_128_56 : hm_code 128 56 = some (.ldc2_w 130) := by decide +kernel
theorem k_128_59 : hm_code 128 59 = some (.land) := by decide +kernel
theorem k_128_60 : hm_code 128 60 = some (.l2i) := by decide +kernel
theorem k_128_61 : hm_code 128 61 = some (.iastore) := by decide +kernel
theorem k_128_62 : hm_code 128 62 = some (.aload_n 0) := by decide +kernel
theorem k_128_63 : hm_code 128 63 = some (.dup) := by decide +kernel
theorem k_128_64 : hm_code 128 64 = some (.getfield 127) := by decide +kernel
theorem k_128_67 : hm_code 128 67 = some (.iconst 1) := by decide +kernel
theorem k_128_68 : hm_code 128 68 = some (.iadd) := by decide +kernel
theorem k_128_69 : hm_code 128 69 = some (.putfield 127) := by decide +kernel
theorem k_128_72 : hm_code 128 72 = some (.iinc 4 (-1)) := by decide +kernel
theorem k_128_75 : hm_code 128 75 = some (.goto (-39)) := by decide +kernel
theorem k_128_78 : hm_code 128 78 = some (.aload_n 0) := by decide +kernel
theorem k_128_79 : hm_code 128 79 = some (.getfield 127) := by decide +kernel
theorem k_128_82 : hm_code 128 82 = some (.ireturn) := by decide +kernel
theorem m_129 : hm_mtab[129]? = some (⟨"HourPromisedModel", "law", "(I)I"⟩, prog_10_method_24_code, 4, (some .int), 8, 2, 1) := rfl
theorem k_129_0 : hm_code 129 0 = some (.iload_n 1) := by decide +kernel
theorem k_129_1 : hm_code 129 1 = some (.i2l) := by decide +kernel
theorem k_129_2 : hm_code 129 2 = some (.lconst 0) := by decide +kernel
theorem k_129_3 : hm_code 129 3 = some (.ldc2_w 90) := by decide +kernel
theorem k_129_6 : hm_code 129 6 = some (.invokestatic 84) := by decide +kernel
theorem k_129_9 : hm_code 129 9 = some (.ifCond .ne 7) := by decide +kernel
theorem k_129_12 : hm_code 129 12 = some (.sipush (-1001)) := by decide +kernel
theorem k_129_15 : hm_code 129 15 = some (.ireturn) := by decide +kernel
theorem k_129_16 : hm_code 129 16 = some (.aload_n 0) := by decide +kernel
theorem k_129_17 : hm_code 129 17 = some (.iconst (-1)) := by decide +kernel
theorem k_129_18 : hm_code 129 18 = some (.putfield 28) := by decide +kernel
theorem k_129_21 : hm_code 129 21 = some (.aload_n 0) := by decide +kernel
theorem k_129_22 : hm_code 129 22 = some (.invokevirtual 159) := by decide +kernel
theorem k_129_25 : hm_code 129 25 = some (.istore_n 2) := by decide +kernel
theorem k_129_26 : hm_code 129 26 = some (.aload_n 0) := by decide +kernel
theorem k_129_27 : hm_code 129 27 = some (.iconst 0) := by decide +kernel
theorem k_129_28 : hm_code 129 28 = some (.putfield 127) := by decide +kernel
theorem k_129_31 : hm_code 129 31 = some (.iload_n 2) := by decide +kernel
theorem k_129_32 : hm_code 129 32 = some (.ifCond .le 8) := by decide +kernel
theorem k_129_35 : hm_code 129 35 = some (.bipush (-10)) := by decide +kernel
theorem k_129_37 : hm_code 129 37 = some (.iload_n 2) := by decide +kernel
theorem k_129_38 : hm_code 129 38 = some (.isub) := by decide +kernel
theorem k_129_39 : hm_code 129 39 = some (.ireturn) := by decide +kernel
theorem k_129_40 : hm_code 129 40 = some (.iconst 0) := by decide +kernel
theorem k_129_41 : hm_code 129 41 = some (.istore_n 3) := by decide +kernel
theorem k_129_42 : hm_code 129 42 = some (.iload_n 3) := by decide +kernel
theorem k_129_43 : hm_code 129 43 = some (.bipush 20) := by decide +kernel
theorem k_129_45 : hm_code 129 45 = some (.if_icmp .ge 26) := by decide +kernel
theorem k_129_48 : hm_code 129 48 = some (.aload_n 0) := by decide +kernel
theorem k_129_49 : hm_code 129 49 = some (.getfield 19) := by decide +kernel
theorem k_129_52 : hm_code 129 52 = some (.bipush 20) := by decide +kernel
theorem k_129_54 : hm_code 129 54 = some (.iload_n 1) := by decide +kernel
theorem k_129_55 : hm_code 129 55 = some (.imul) := by decide +kernel
theorem k_129_56 : hm_code 129 56 = some (.iload_n 3) := by decide +kernel
theorem k_129_57 : hm_code 129 57 = some (.iadd) := by decide +kernel
theorem k_129_58 : hm_code 129 58 = some (.aload_n 0) := by decide +kernel
theorem k_129_59 : hm_code 129 59 = some (.getfield 22) := by decide +kernel
theorem k_129_62 : hm_code 129 62 = some (.iload_n 3) := by decide +kernel
theorem k_129_63 : hm_code 129 63 = some (.iaload) := by decide +kernel
theorem k_129_64 : hm_code 129 64 = some (.iastore) := by decide +kernel
theorem k_129_65 : hm_code 129 65 = some (.iinc 3 1) := by decide +kernel
theorem k_129_68 : hm_code 129 68 = some (.goto (-26)) := by decide +kernel
theorem k_129_71 : hm_code 129 71 = some (.aload_n 0) := by decide +kernel
theorem k_129_72 : hm_code 129 72 = some (.iconst (-1)) := by decide +kernel
theorem k_129_73 : hm_code 129 73 = some (.iload_n 1) := by decide +kernel
theorem k_129_74 : hm_code 129 74 = some (.invokevirtual 162) := by decide +kernel
theorem k_129_77 : hm_code 129 77 = some (.ireturn) := by decide +kernel
theorem m_130 : hm_mtab[130]? = some (⟨"HourPromisedModel", "readLaw", "()I"⟩, prog_10_method_23_code, 4, (some .int), 8, 1, 1) := rfl
theorem k_130_0 : hm_code 130 0 = some (.iconst 0) := by decide +kernel
theorem k_130_1 : hm_code 130 1 = some (.istore_n 1) := by decide +kernel
theorem k_130_2 : hm_code 130 2 = some (.iload_n 1) := by decide +kernel
theorem k_130_3 : hm_code 130 3 = some (.bipush 20) := by decide +kernel
theorem k_130_5 : hm_code 130 5 = some (.if_icmp .ge 34) := by decide +kernel
theorem k_130_8 : hm_code 130 8 = some (.aload_n 0) := by decide +kernel
theorem k_130_9 : hm_code 130 9 = some (.getfield 22) := by decide +kernel
theorem k_130_12 : hm_code 130 12 = some (.iload_n 1) := by decide +kernel
theorem k_130_13 : hm_code 130 13 = some (.iload_n 1) := by decide +kernel
theorem k_130_14 : hm_code 130 14 = some (.iconst 5) := by decide +kernel
theorem k_130_15 : hm_code 130 15 = some (.irem) := by decide +kernel
theorem k_130_16 : hm_code 130 16 = some (.iconst 1) := by decide +kernel
theorem k_130_17 : hm_code 130 17 = some (.if_icmp .eq 10) := by decide +kernel
theorem k_130_20 : hm_code 130 20 = some (.iload_n 1) := by decide +kernel
theorem k_130_21 : hm_code 130 21 = some (.iconst 5) := by decide +kernel
theorem k_130_22 : hm_code 130 22 = some (.irem) := by decide +kernel
theorem k_130_23 : hm_code 130 23 = some (.iconst 2) := by decide +kernel
theorem k_130_24 : hm_code 130 24 = some (.if_icmp .ne 7) := by decide +kernel
theorem k_130_27 : hm_code 130 27 = some (.iconst (-1)) := by decide +kernel
theorem k_130_28 : hm_code 130 28 = some (.goto 4) := by decide +kernel
theorem k_130_31 : hm_code 130 31 = some (.iconst 0) := by decide +kernel
theorem k_130_32 : hm_code 130 32 = some (.iastore) := by decide +kernel
theorem k_130_33 : hm_code 130 33 = some (.iinc 1 1) := by decide +kernel
theorem k_130_36 : hm_code 130 36 = some (.goto (-34)) := by decide +kernel
theorem k_130_39 : hm_code 130 39 = some (.aload_n 0) := by decide +kernel
theorem k_130_40 : hm_code 130 40 = some (.iconst 0) := by decide +kernel
theorem k_130_41 : hm_code 130 41 = some (.putfield 132) := by decide +kernel
theorem k_130_44 : hm_code 130 44 = some (.iconst 0) := by decide +kernel
theorem k_130_45 : hm_code 130 45 = some (.istore_n 1) := by decide +kernel
theorem k_130_46 : hm_code 130 46 = some (.aload_n 0) := by decide +kernel
theorem k_130_47 : hm_code 130 47 = some (.invokevirtual 135) := by decide +kernel
theorem k_130_50 : hm_code 130 50 = some (.ifCond .lt 130) := by decide +kernel
theorem k_130_53 : hm_code 130 53 = some (.aload_n 0) := by decide +kernel
theorem k_130_54 : hm_code 130 54 = some (.invokevirtual 135) := by decide +kernel
theorem k_130_57 : hm_code 130 57 = some (.invokestatic 146) := by decide +kernel
theorem k_130_60 : hm_code 130 60 = some (.istore_n 2) := by decide +kernel
theorem k_130_61 : hm_code 130 61 = some (.iload_n 2) := by decide +kernel
theorem k_130_62 : hm_code 130 62 = some (.ifCond .ge 13) := by decide +kernel
theorem k_130_65 : hm_code 130 65 = some (.aload_n 0) := by decide +kernel
theorem k_130_66 : hm_code 130 66 = some (.iconst 1) := by decide +kernel
theorem k_130_67 : hm_code 130 67 = some (.aload_n 0) := by decide +kernel
theorem k_130_68 : hm_code 130 68 = some (.getfield 132) := by decide +kernel
theorem k_130_71 : hm_code 130 71 = some (.invokevirtual 143) := by decide +kernel
theorem k_130_74 : hm_code 130 74 = some (.ireturn) := by decide +kernel
theorem k_130_75 : hm_code 130 75 = some (.iload_n 1) := by decide +kernel
theorem k_130_76 : hm_code 130 76 = some (.iload_n 2) := by decide +kernel
theorem k_130_77 : hm_code 130 77 = some (.ishr) := by decide +kernel
theorem k_130_78 : hm_code 130 78 = some (.iconst 1) := by decide +kernel
theorem k_130_79 : hm_code 130 79 = some (.iand) := by decide +kernel
theorem k_130_80 : hm_code 130 80 = some (.iconst 1) := by decide +kernel
theorem k_130_81 : hm_code 130 81 = some (.if_icmp .ne 13) := by decide +kernel
theorem k_130_84 : hm_code 130 84 = some (.aload_n 0) := by decide +kernel
theorem k_130_85 : hm_code 130 85 = some (.iconst 3) := by decide +kernel
theorem k_130_86 : hm_code 130 86 = some (.aload_n 0) := by decide +kernel
theorem k_130_87 : hm_code 130 87 = some (.getfield 132) := by decide +kernel
theorem k_130_90 : hm_code 130 90 = some (.invokevirtual 143) := by decide +kernel
theorem k_130_93 : hm_code 130 93 = some (.ireturn) := by decide +kernel
theorem k_130_94 : hm_code 130 94 = some (.iload_n 1) := by decide +kernel
theorem k_130_95 : hm_code 130 95 = some (.iconst 1) := by decide +kernel
theorem k_130_96 : hm_code 130 96 = some (.iload_n 2) := by decide +kernel
theorem k_130_97 : hm_code 130 97 = some (.ishl) := by decide +kernel
theorem k_130_98 : hm_code 130 98 = some (.ior) := by decide +kernel
theorem k_130_99 : hm_code 130 99 = some (.istore_n 1) := by decide +kernel
theorem k_130_100 : hm_code 130 100 = some (.aload_n 0) := by decide +kernel
theorem k_130_101 : hm_code 130 101 = some (.dup) := by decide +kernel
theorem k_130_102 : hm_code 130 102 = some (.getfield 132) := by decide +kernel
theorem k_130_105 : hm_code 130 105 = some (.iconst 1) := by decide +kernel
theorem k_130_106 : hm_code 130 106 = some (.iadd) := by decide +kernel
theorem k_130_107 : hm_code 130 107 = some (.putfield 132) := by decide +kernel
theorem k_130_110 : hm_code 130 110 = some (.aload_n 0) := by decide +kernel
theorem k_130_111 : hm_code 130 111 = some (.invokevirtual 135) := by decide +kernel
theorem k_130_114 : hm_code 130 114 = some (.bipush 58) := by decide +kernel
theorem k_130_116 : hm_code 130 116 = some (.if_icmp .eq 13) := by decide +kernel
theorem k_130_119 : hm_code 130 119 = some (.aload_n 0) := by decide +kernel
theorem k_130_120 : hm_code 130 120 = some (.iconst 1) := by decide +kernel
theorem k_130_121 : hm_code 130 121 = some (.aload_n 0) := by decide +kernel
theorem k_130_122 : hm_code 130 122 = some (.getfield 132) := by decide +kernel
theorem k_130_125 : hm_code 130 125 = some (.invokevirtual 143) := by decide +kernel
theorem k_130_128 : hm_code 130 128 = some (.ireturn) := by decide +kernel
theorem k_130_129 : hm_code 130 129 = some (.aload_n 0) := by decide +kernel
theorem k_130_130 : hm_code 130 130 = some (.dup) := by decide +kernel
theorem k_130_131 : hm_code 130 131 = some (.getfield 132) := by decide +kernel
theorem k_130_134 : hm_code 130 134 = some (.iconst 1) := by decide +kernel
theorem k_130_135 : hm_code 130 135 = some (.iadd) := by decide +kernel
theorem k_130_136 : hm_code 130 136 = some (.putfield 132) := by decide +kernel
theorem k_130_139 : hm_code 130 139 = some (.aload_n 0) := by decide +kernel
theorem k_130_140 : hm_code 130 140 = some (.invokevirtual 135) := by decide +kernel
theorem k_130_143 : hm_code 130 143 = some (.bipush 59) := by decide +kernel
theorem k_130_145 : hm_code 130 145 = some (.if_icmp .eq 22) := by decide +kernel
theorem k_130_148 : hm_code 130 148 = some (.aload_n 0) := by decide +kernel
theorem k_130_149 : hm_code 130 149 = some (.iload_n 2) := by decide +kernel
theorem k_130_150 : hm_code 130 150 = some (.aload_n 0) := by decide +kernel
theorem k_130_151 : hm_code 130 151 = some (.invokevirtual 135) := by decide +kernel
theorem k_130_154 : hm_code 130 154 = some (.invokevirtual 156) := by decide +kernel
theorem k_130_157 : hm_code 130 157 = some (.istore_n 3) := by decide +kernel
theorem k_130_158 : hm_code 130 158 = some (.iload_n 3) := by decide +kernel
theorem k_130_159 : hm_code 130 159 = some (.ifCond .le 5) := by decide +kernel
theorem k_130_162 : hm_code 130 162 = some (.iload_n 3) := by decide +kernel
theorem k_130_163 : hm_code 130 163 = some (.ireturn) := by decide +kernel
theorem k_130_164 : hm_code 130 164 = some (.goto (-25)) := by decide +kernel
theorem k_130_167 : hm_code 130 167 = some (.aload_n 0) := by decide +kernel
theorem k_130_168 : hm_code 130 168 = some (.dup) := by decide +kernel
theorem k_130_169 : hm_code 130 169 = some (.getfield 132) := by decide +kernel
theorem k_130_172 : hm_code 130 172 = some (.iconst 1) := by decide +kernel
theorem k_130_173 : hm_code 130 173 = some (.iadd) := by decide +kernel
theorem k_130_174 : hm_code 130 174 = some (.putfield 132) := by decide +kernel
theorem k_130_177 : hm_code 130 177 = some (.goto (-131)) := by decide +kernel
theorem k_130_180 : hm_code 130 180 = some (.iconst 0) := by decide +kernel
theorem k_130_181 : hm_code 130 181 = some (.ireturn) := by decide +kernel
theorem m_131 : hm_mtab[131]? = some (⟨"HourPromisedModel", "here", "()I"⟩, prog_10_method_18_code, 1, (some .int), 8, 1, 1) := rfl
theorem k_131_0 : hm_code 131 0 = some (.aload_n 0) := by decide +kernel
theorem k_131_1 : hm_code 131 1 = some (.getfield 132) := by decide +kernel
theorem k_131_4 : hm_code 131 4 = some (.aload_n 0) := by decide +kernel
theorem k_131_5 : hm_code 131 5 = some (.getfield 127) := by decide +kernel
theorem k_131_8 : hm_code 131 8 = some (.if_icmp .ge 30) := by decide +kernel
theorem k_131_11 : hm_code 131 11 = some (.aload_n 0) := by decide +kernel
theorem k_131_12 : hm_code 131 12 = some (.getfield 25) := by decide +kernel
theorem k_131_15 : hm_code 131 15 = some (.aload_n 0) := by decide +kernel
theorem k_131_16 : hm_code 131 16 = some (.getfield 132) := by decide +kernel
theorem k_131_19 : hm_code 131 19 = some (.iaload) := by decide +kernel
theorem k_131_20 : hm_code 131 20 = some (.bipush 32) := by decide +kernel
theorem k_131_22 : hm_code 131 22 = some (.if_icmp .ne 16) := by decide +kernel
theorem k_131_25 : hm_code 131 25 = some (.aload_n 0) := by decide +kernel
theorem k_131_26 : hm_code 131 26 = some (.dup) := by decide +kernel
theorem k_131_27 : hm_code 131 27 = some (.getfield 132) := by decide +kernel
theorem k_131_30 : hm_code 131 30 = some (.iconst 1) := by decide +kernel
theorem k_131_31 : hm_code 131 31 = some (.iadd) := by decide +kernel
theorem k_131_32 : hm_code 131 32 = some (.putfield 132) := by decide +kernel
theorem k_131_35 : hm_code 131 35 = some (.goto (-35)) := by decide +kernel
theorem k_131_38 : hm_code 131 38 = some (.aload_n 0) := by decide +kernel
theorem k_131_39 : hm_code 131 39 = some (.getfield 132) := by decide +kernel
theorem k_131_42 : hm_code 131 42 = some (.aload_n 0) := by decide +kernel
theorem k_131_43 : hm_code 131 43 = some (.getfield 127) := by decide +kernel
theorem k_131_46 : hm_code 131 46 = some (.if_icmp .ge 15) := by decide +kernel
theorem k_131_49 : hm_code 131 49 = some (.aload_n 0) := by decide +kernel
theorem k_131_50 : hm_code 131 50 = some (.getfield 25) := by decide +kernel
theorem k_131_53 : hm_code 131 53 = some (.aload_n 0) := by decide +kernel
theorem k_131_54 : hm_code 131 54 = some (.getfield 132) := by decide +kernel
theorem k_131_57 : hm_code 131 57 = some (.iaload) := by decide +kernel
theorem k_131_58 : hm_code 131 58 = some (.goto 4) := by decide +kernel
theorem k_131_61 : hm_code 131 61 = some (.iconst (-1)) := by decide +kernel
theorem k_131_62 : hm_code 131 62 = some (.ireturn) := by decide +kernel
theorem m_132 : hm_mtab[132]? = some (⟨"HourPromisedModel", "stepOf", "(I)I"⟩, prog_10_method_19_code, 1, (some .int), 8, 1, 0) := rfl
theorem k_132_0 : hm_code 132 0 = some (.iload_n 0) := by decide +kernel
theorem k_132_1 : hm_code 132 1 = some (.bipush 102) := by decide +kernel
theorem k_132_3 : hm_code 132 3 = some (.if_icmp .ne 7) := by decide +kernel
theorem k_132_6 : hm_code 132 6 = some (.iconst 0) := by decide +kernel
theorem k_132_7 : hm_code 132 7 = some (.goto 34) := by decide +kernel
theorem k_132_10 : hm_code 132 10 = some (.iload_n 0) := by decide +kernel
theorem k_132_11 : hm_code 132 11 = some (.bipush 115) := by decide +kernel
theorem k_132_13 : hm_code 132 13 = some (.if_icmp .ne 7) := by decide +kernel
theorem k_132_16 : hm_code 132 16 = some (.iconst 1) := by decide +kernel
theorem k_132_17 : hm_code 132 17 = some (.goto 24) := by decide +kernel
theorem k_132_20 : hm_code 132 20 = some (.iload_n 0) := by decide +kernel
theorem k_132_21 : hm_code 132 21 = some (.bipush 98) := by decide +kernel
theorem k_132_23 : hm_code 132 23 = some (.if_icmp .ne 7) := by decide +kernel
theorem k_132_26 : hm_code 132 26 = some (.iconst 2) := by decide +kernel
theorem k_132_27 : hm_code 132 27 = some (.goto 14) := by decide +kernel
theorem k_132_30 : hm_code 132 30 = some (.iload_n 0) := by decide +kernel
theorem k_132_31 : hm_code 132 31 = some (.bipush 103) := by decide +kernel
theorem k_132_33 : hm_code 132 33 = some (.if_icmp .ne 7) := by decide +kernel
theorem k_132_36 : hm_code 132 36 = some (.iconst 3) := by decide +kernel
theorem k_132_37 : hm_code 132 37 = some (.goto 4) := by decide +kernel
theorem k_132_40 : hm_code 132 40 = some (.iconst (-1)) := by decide +kernel
theorem k_132_41 : hm_code 132 41 = some (.ireturn) := by decide +kernel
theorem m_133 : hm_mtab[133]? = some (⟨"HourPromisedModel", "fails", "(II)I"⟩, prog_10_method_20_code, 3, (some .int), 8, 3, 1) := rfl
theorem k_133_0 : hm_code 133 0 = some (.aload_n 0) := by decide +kernel
theorem k_133_1 : hm_code 133 1 = some (.iload_n 2) := by decide +kernel
theorem k_133_2 : hm_code 133 2 = some (.putfield 28) := by decide +kernel
theorem k_133_5 : hm_code 133 5 = some (.iload_n 1) := by decide +kernel
theorem k_133_6 : hm_code 133 6 = some (.ireturn) := by decide +kernel
theorem m_134 : hm_mtab[134]? = some (⟨"HourPromisedModel", "readItem", "(II)I"⟩, prog_10_method_22_code, 6, (some .int), 8, 3, 1) := rfl
theorem k_134_0 : hm_code 134 0 = some (.iconst 5) := by decide +kernel
theorem k_134_1 : hm_code 134 1 = some (.iload_n 1) := by decide +kernel
theorem k_134_2 : hm_code 134 2 = some (.imul) := by decide +kernel
theorem k_134_3 : hm_code 134 3 = some (.istore_n 3) := by decide +kernel
theorem k_134_4 : hm_code 134 4 = some (.iload_n 2) := by decide +kernel
theorem k_134_5 : hm_code 134 5 = some (.invokestatic 146) := by decide +kernel
theorem k_134_8 : hm_code 134 8 = some (.istore 4) := by decide +kernel
theorem k_134_10 : hm_code 134 10 = some (.iload_n 2) := by decide +kernel
theorem k_134_11 : hm_code 134 11 = some (.i2l) := by decide +kernel
theorem k_134_12 : hm_code 134 12 = some (.ldc2_w 149) := by decide +kernel
theorem k_134_15 : hm_code 134 15 = some (.ldc2_w 151) := by decide +kernel
theorem k_134_18 : hm_code 134 18 = some (.invokestatic 84) := by decide +kernel
theorem k_134_21 : hm_code 134 21 = some (.ifCond .eq 48) := by decide +kernel
theorem k_134_24 : hm_code 134 24 = some (.aload_n 0) := by decide +kernel
theorem k_134_25 : hm_code 134 25 = some (.getfield 22) := by decide +kernel
theorem k_134_28 : hm_code 134 28 = some (.iload_n 3) := by decide +kernel
theorem k_134_29 : hm_code 134 29 = some (.iaload) := by decide +kernel
theorem k_134_30 : hm_code 134 30 = some (.iload_n 2) := by decide +kernel
theorem k_134_31 : hm_code 134 31 = some (.bipush 65) := by decide +kernel
theorem k_134_33 : hm_code 134 33 = some (.isub) := by decide +kernel
theorem k_134_34 : hm_code 134 34 = some (.ishr) := by decide +kernel
theorem k_134_35 : hm_code 134 35 = some (.iconst 1) := by decide +kernel
theorem k_134_36 : hm_code 134 36 = some (.iand) := by decide +kernel
theorem k_134_37 : hm_code 134 37 = some (.iconst 1) := by decide +kernel
theorem k_134_38 : hm_code 134 38 = some (.if_icmp .ne 13) := by decide +kernel
theorem k_134_41 : hm_code 134 41 = some (.aload_n 0) := by decide +kernel
theorem k_134_42 : hm_code 134 42 = some (.iconst 4) := by decide +kernel
theorem k_134_43 : hm_code 134 43 = some (.aload_n 0) := by decide +kernel
theorem k_134_44 : hm_code 134 44 = some (.getfield 132) := by decide +kernel
theorem k_134_47 : hm_code 134 47 = some (.invokevirtual 143) := by decide +kernel
theorem k_134_50 : hm_code 134 50 = some (.ireturn) := by decide +kernel
theorem k_134_51 : hm_code 134 51 = some (.aload_n 0) := by decide +kernel
theorem k_134_52 : hm_code 134 52 = some (.getfield 22) := by decide +kernel
theorem k_134_55 : hm_code 134 55 = some (.iload_n 3) := by decide +kernel
theorem k_134_56 : hm_code 134 56 = some (.dup2) := by decide +kernel
theorem k_134_57 : hm_code 134 57 = some (.iaload) := by decide +kernel
theorem k_134_58 : hm_code 134 58 = some (.iconst 1) := by decide +kernel
theorem k_134_59 : hm_code 134 59 = some (.iload_n 2) := by decide +kernel
theorem k_134_60 : hm_code 134 60 = some (.bipush 65) := by decide +kernel
theorem k_134_62 : hm_code 134 62 = some (.isub) := by decide +kernel
theorem k_134_63 : hm_code 134 63 = some (.ishl) := by decide +kernel
theorem k_134_64 : hm_code 134 64 = some (.ior) := by decide +kernel
theorem k_134_65 : hm_code 134 65 = some (.iastore) := by decide +kernel
theorem k_134_66 : hm_code 134 66 = some (.goto 183) := by decide +kernel
theorem k_134_69 : hm_code 134 69 = some (.iload_n 2) := by decide +kernel
theorem k_134_70 : hm_code 134 70 = some (.bipush 60) := by decide +kernel
theorem k_134_72 : hm_code 134 72 = some (.if_icmp .eq 9) := by decide +kernel
theorem k_134_75 : hm_code 134 75 = some (.iload_n 2) := by decide +kernel
theorem k_134_76 : hm_code 134 76 = some (.bipush 62) := by decide +kernel
theorem k_134_78 : hm_code 134 78 = some (.if_icmp .ne 55) := by decide +kernel
theorem k_134_81 : hm_code 134 81 = some (.iload_n 3) := by decide +kernel
theorem k_134_82 : hm_code 134 82 = some (.iload_n 2) := by decide +kernel
theorem k_134_83 : hm_code 134 83 = some (.bipush 60) := by decide +kernel
theorem k_134_85 : hm_code 134 85 = some (.if_icmp .ne 7) := by decide +kernel
theorem k_134_88 : hm_code 134 88 = some (.iconst 1) := by decide +kernel
theorem k_134_89 : hm_code 134 89 = some (.goto 4) := by decide +kernel
theorem k_134_92 : hm_code 134 92 = some (.iconst 2) := by decide +kernel
theorem k_134_93 : hm_code 134 93 = some (.iadd) := by decide +kernel
theorem k_134_94 : hm_code 134 94 = some (.istore 5) := by decide +kernel
theorem k_134_96 : hm_code 134 96 = some (.aload_n 0) := by decide +kernel
theorem k_134_97 : hm_code 134 97 = some (.getfield 22) := by decide +kernel
theorem k_134_100 : hm_code 134 100 = some (.iload 5) := by decide +kernel
theorem k_134_102 : hm_code 134 102 = some (.iaload) := by decide +kernel
theorem k_134_103 : hm_code 134 103 = some (.ifCond .lt 13) := by decide +kernel
theorem k_134_106 : hm_code 134 106 = some (.aload_n 0) := by decide +kernel
theorem k_134_107 : hm_code 134 107 = some (.iconst 4) := by decide +kernel
theorem k_134_108 : hm_code 134 108 = some (.aload_n 0) := by decide +kernel
theorem k_134_109 : hm_code 134 109 = some (.getfield 132) := by decide +kernel
theorem k_134_112 : hm_code 134 112 = some (.invokevirtual 143) := by decide +kernel
theorem k_134_115 : hm_code 134 115 = some (.ireturn) := by decide +kernel
theorem k_134_116 : hm_code 134 116 = some (.aload_n 0) := by decide +kernel
theorem k_134_117 : hm_code 134 117 = some (.dup) := by decide +kernel
theorem k_134_118 : hm_code 134 118 = some (.getfield 132) := by decide +kernel
theorem k_134_121 : hm_code 134 121 = some (.iconst 1) := by decide +kernel
theorem k_134_122 : hm_code 134 122 = some (.iadd) := by decide +kernel
theorem k_134_123 : hm_code 134 123 = some (.putfield 132) := by decide +kernel
theorem k_134_126 : hm_code 134 126 = some (.aload_n 0) := by decide +kernel
theorem k_134_127 : hm_code 134 127 = some (.iload 5) := by decide +kernel
theorem k_134_129 : hm_code 134 129 = some (.invokevirtual 153) := by decide +kernel
theorem k_134_132 : hm_code 134 132 = some (.ireturn) := by decide +kernel
theorem k_134_133 : hm_code 134 133 = some (.iload_n 2) := by decide +kernel
theorem k_134_134 : hm_code 134 134 = some (.bipush 33) := by decide +kernel
theorem k_134_136 : hm_code 134 136 = some (.if_icmp .ne 37) := by decide +kernel
theorem k_134_139 : hm_code 134 139 = some (.aload_n 0) := by decide +kernel
theorem k_134_140 : hm_code 134 140 = some (.getfield 22) := by decide +kernel
theorem k_134_143 : hm_code 134 143 = some (.iload_n 3) := by decide +kernel
theorem k_134_144 : hm_code 134 144 = some (.iconst 3) := by decide +kernel
theorem k_134_145 : hm_code 134 145 = some (.iadd) := by decide +kernel
theorem k_134_146 : hm_code 134 146 = some (.iaload) := by decide +kernel
theorem k_134_147 : hm_code 134 147 = some (.iconst 1) := by decide +kernel
theorem k_134_148 : hm_code 134 148 = some (.if_icmp .ne 13) := by decide +kernel
theorem k_134_151 : hm_code 134 151 = some (.aload_n 0) := by decide +kernel
theorem k_134_152 : hm_code 134 152 = some (.iconst 4) := by decide +kernel
theorem k_134_153 : hm_code 134 153 = some (.aload_n 0) := by decide +kernel
theorem k_134_154 : hm_code 134 154 = some (.getfield 132) := by decide +kernel
theorem k_134_157 : hm_code 134 157 = some (.invokevirtual 143) := by decide +kernel
theorem k_134_160 : hm_code 134 160 = some (.ireturn) := by decide +kernel
theorem k_134_161 : hm_code 134 161 = some (.aload_n 0) := by decide +kernel
theorem k_134_162 : hm_code 134 162 = some (.getfield 22) := by decide +kernel
theorem k_134_165 : hm_code 134 165 = some (.iload_n 3) := by decide +kernel
theorem k_134_166 : hm_code 134 166 = some (.iconst 3) := by decide +kernel
theorem k_134_167 : hm_code 134 167 = some (.iadd) := by decide +kernel
theorem k_134_168 : hm_code 134 168 = some (.iconst 1) := by decide +kernel
theorem k_134_169 : hm_code 134 169 = some (.iastore) := by decide +kernel
theorem k_134_170 : hm_code 134 170 = some (.goto 79) := by decide +kernel
theorem k_134_173 : hm_code 134 173 = some (.iload 4) := by decide +kernel
theorem k_134_175 : hm_code 134 175 = some (.ifCond .lt 64) := by decide +kernel
theorem k_134_178 : hm_code 134 178 = some (.iload 4) := by decide +kernel
theorem k_134_180 : hm_code 134 180 = some (.iload_n 1) := by decide +kernel
theorem k_134_181 : hm_code 134 181 = some (.if_icmp .ne 13) := by decide +kernel
theorem k_134_184 : hm_code 134 184 = some (.aload_n 0) := by decide +kernel
theorem k_134_185 : hm_code 134 185 = some (.iconst 5) := by decide +kernel
theorem k_134_186 : hm_code 134 186 = some (.aload_n 0) := by decide +kernel
theorem k_134_187 : hm_code 134 187 = some (.getfield 132) := by decide +kernel
theorem k_134_190 : hm_code 134 190 = some (.invokevirtual 143) := by decide +kernel
theorem k_134_193 : hm_code 134 193 = some (.ireturn) := by decide +kernel
theorem k_134_194 : hm_code 134 194 = some (.aload_n 0) := by decide +kernel
theorem k_134_195 : hm_code 134 195 = some (.getfield 22) := by decide +kernel
theorem k_134_198 : hm_code 134 198 = some (.iload_n 3) := by decide +kernel
theorem k_134_199 : hm_code 134 199 = some (.iconst 4) := by decide +kernel
theorem k_134_200 : hm_code 134 200 = some (.iadd) := by decide +kernel
theorem k_134_201 : hm_code 134 201 = some (.iaload) := by decide +kernel
theorem k_134_202 : hm_code 134 202 = some (.iload 4) := by decide +kernel
theorem k_134_204 : hm_code 134 204 = some (.ishr) := by decide +kernel
theorem k_134_205 : hm_code 134 205 = some (.iconst 1) := by decide +kernel
theorem k_134_206 : hm_code 134 206 = some (.iand) := by decide +kernel
theorem k_134_207 : hm_code 134 207 = some (.iconst 1) := by decide +kernel
theorem k_134_208 : hm_code 134 208 = some (.if_icmp .ne 13) := by decide +kernel
theorem k_134_211 : hm_code 134 211 = some (.aload_n 0) := by decide +kernel
theorem k_134_212 : hm_code 134 212 = some (.iconst 4) := by decide +kernel
theorem k_134_213 : hm_code 134 213 = some (.aload_n 0) := by decide +kernel
theorem k_134_214 : hm_code 134 214 = some (.getfield 132) := by decide +kernel
theorem k_134_217 : hm_code 134 217 = some (.invokevirtual 143) := by decide +kernel
theorem k_134_220 : hm_code 134 220 = some (.ireturn) := by decide +kernel
theorem k_134_221 : hm_code 134 221 = some (.aload_n 0) := by decide +kernel
theorem k_134_222 : hm_code 134 222 = some (.getfield 22) := by decide +kernel
theorem k_134_225 : hm_code 134 225 = some (.iload_n 3) := by decide +kernel
theorem k_134_226 : hm_code 134 226 = some (.iconst 4) := by decide +kernel
theorem k_134_227 : hm_code 134 227 = some (.iadd) := by decide +kernel
theorem k_134_228 : hm_code 134 228 = some (.dup2) := by decide +kernel
theorem k_134_229 : hm_code 134 229 = some (.iaload) := by decide +kernel
theorem k_134_230 : hm_code 134 230 = some (.iconst 1) := by decide +kernel
theorem k_134_231 : hm_code 134 231 = some (.iload 4) := by decide +kernel
theorem k_134_233 : hm_code 134 233 = some (.ishl) := by decide +kernel
theorem k_134_234 : hm_code 134 234 = some (.ior) := by decide +kernel
theorem k_134_235 : hm_code 134 235 = some (.iastore) := by decide +kernel
theorem k_134_236 : hm_code 134 236 = some (.goto 13) := by decide +kernel
theorem k_134_239 : hm_code 134 239 = some (.aload_n 0) := by decide +kernel
theorem k_134_240 : hm_code 134 240 = some (.iconst 1) := by decide +kernel
theorem k_134_241 : hm_code 134 241 = some (.aload_n 0) := by decide +kernel
theorem k_134_242 : hm_code 134 242 = some (.getfield 132) := by decide +kernel
theorem k_134_245 : hm_code 134 245 = some (.invokevirtual 143) := by decide +kernel
theorem k_134_248 : hm_code 134 248 = some (.ireturn) := by decide +kernel
theorem k_134_249 : hm_code 134 249 = some (.aload_n 0) := by decide +kernel
theorem k_134_250 : hm_code 134 250 = some (.dup) := by decide +kernel
theorem k_134_251 : hm_code 134 251 = some (.getfield 132) := by decide +kernel
theorem k_134_254 : hm_code 134 254 = some (.iconst 1) := by decide +kernel
theorem k_134_255 : hm_code 134 255 = some (.iadd) := by decide +kernel
theorem k_134_256 : hm_code 134 256 = some (.putfield 132) := by decide +kernel
theorem k_134_259 : hm_code 134 259 = some (.iconst 0) := by decide +kernel
theorem k_134_260 : hm_code 134 260 = some (.ireturn) := by decide +kernel
theorem m_135 : hm_mtab[135]? = some (⟨"HourPromisedModel", "readNumber", "(I)I"⟩, prog_10_method_21_code, 5, (some .int), 8, 2, 1) := rfl
theorem k_135_0 : hm_code 135 0 = some (.aload_n 0) := by decide +kernel
theorem k_135_1 : hm_code 135 1 = some (.invokevirtual 135) := by decide +kernel
theorem k_135_4 : hm_code 135 4 = some (.istore_n 2) := by decide +kernel
theorem k_135_5 : hm_code 135 5 = some (.aload_n 0) := by decide +kernel
theorem k_135_6 : hm_code 135 6 = some (.getfield 132) := by decide +kernel
theorem k_135_9 : hm_code 135 9 = some (.istore_n 3) := by decide +kernel
theorem k_135_10 : hm_code 135 10 = some (.iconst 0) := by decide +kernel
theorem k_135_11 : hm_code 135 11 = some (.istore 4) := by decide +kernel
theorem k_135_13 : hm_code 135 13 = some (.iload_n 2) := by decide +kernel
theorem k_135_14 : hm_code 135 14 = some (.i2l) := by decide +kernel
theorem k_135_15 : hm_code 135 15 = some (.ldc2_w 139) := by decide +kernel
theorem k_135_18 : hm_code 135 18 = some (.ldc2_w 141) := by decide +kernel
theorem k_135_21 : hm_code 135 21 = some (.invokestatic 84) := by decide +kernel
theorem k_135_24 : hm_code 135 24 = some (.ifCond .ne 13) := by decide +kernel
theorem k_135_27 : hm_code 135 27 = some (.aload_n 0) := by decide +kernel
theorem k_135_28 : hm_code 135 28 = some (.iconst 1) := by decide +kernel
theorem k_135_29 : hm_code 135 29 = some (.aload_n 0) := by decide +kernel
theorem k_135_30 : hm_code 135 30 = some (.getfield 132) := by decide +kernel
theorem k_135_33 : hm_code 135 33 = some (.invokevirtual 143) := by decide +kernel
theorem k_135_36 : hm_code 135 36 = some (.ireturn) := by decide +kernel
theorem k_135_37 : hm_code 135 37 = some (.aload_n 0) := by decide +kernel
theorem k_135_38 : hm_code 135 38 = some (.getfield 132) := by decide +kernel
theorem k_135_41 : hm_code 135 41 = some (.aload_n 0) := by decide +kernel
theorem k_135_42 : hm_code 135 42 = some (.getfield 127) := by decide +kernel
theorem k_135_45 : hm_code 135 45 = some (.if_icmp .ge 73) := by decide +kernel
theorem k_135_48 : hm_code 135 48 = some (.aload_n 0) := by decide +kernel
theorem k_135_49 : hm_code 135 49 = some (.getfield 25) := by decide +kernel
theorem k_135_52 : hm_code 135 52 = some (.aload_n 0) := by decide +kernel
theorem k_135_53 : hm_code 135 53 = some (.getfield 132) := by decide +kernel
theorem k_135_56 : hm_code 135 56 = some (.iaload) := by decide +kernel
theorem k_135_57 : hm_code 135 57 = some (.i2l) := by decide +kernel
theorem k_135_58 : hm_code 135 58 = some (.ldc2_w 139) := by decide +kernel
theorem k_135_61 : hm_code 135 61 = some (.ldc2_w 141) := by decide +kernel
theorem k_135_64 : hm_code 135 64 = some (.invokestatic 84) := by decide +kernel
theorem k_135_67 : hm_code 135 67 = some (.ifCond .eq 51) := by decide +kernel
theorem k_135_70 : hm_code 135 70 = some (.aload_n 0) := by decide +kernel
theorem k_135_71 : hm_code 135 71 = some (.getfield 132) := by decide +kernel
theorem k_135_74 : hm_code 135 74 = some (.iload_n 3) := by decide +kernel
theorem k_135_75 : hm_code 135 75 = some (.isub) := by decide +kernel
theorem k_135_76 : hm_code 135 76 = some (.iconst 3) := by decide +kernel
theorem k_135_77 : hm_code 135 77 = some (.if_icmp .ge 24) := by decide +kernel
theorem k_135_80 : hm_code 135 80 = some (.bipush 10) := by decide +kernel
theorem k_135_82 : hm_code 135 82 = some (.iload 4) := by decide +kernel
theorem k_135_84 : hm_code 135 84 = some (.imul) := by decide +kernel
theorem k_135_85 : hm_code 135 85 = some (.aload_n 0) := by decide +kernel
theorem k_135_86 : hm_code 135 86 = some (.getfield 25) := by decide +kernel
theorem k_135_89 : hm_code 135 89 = some (.aload_n 0) := by decide +kernel
theorem k_135_90 : hm_code 135 90 = some (.getfield 132) := by decide +kernel
theorem k_135_93 : hm_code 135 93 = some (.iaload) := by decide +kernel
theorem k_135_94 : hm_code 135 94 = some (.iadd) := by decide +kernel
theorem k_135_95 : hm_code 135 95 = some (.bipush 48) := by decide +kernel
theorem k_135_97 : hm_code 135 97 = some (.isub) := by decide +kernel
theorem k_135_98 : hm_code 135 98 = some (.goto 5) := by decide +kernel
theorem k_135_101 : hm_code 135 101 = some (.iload 4) := by decide +kernel
theorem k_135_103 : hm_code 135 103 = some (.istore 4) := by decide +kernel
theorem k_135_105 : hm_code 135 105 = some (.aload_n 0) := by decide +kernel
theorem k_135_106 : hm_code 135 106 = some (.dup) := by decide +kernel
theorem k_135_107 : hm_code 135 107 = some (.getfield 132) := by decide +kernel
theorem k_135_110 : hm_code 135 110 = some (.iconst 1) := by decide +kernel
theorem k_135_111 : hm_code 135 111 = some (.iadd) := by decide +kernel
theorem k_135_112 : hm_code 135 112 = some (.putfield 132) := by decide +kernel
theorem k_135_115 : hm_code 135 115 = some (.goto (-78)) := by decide +kernel
theorem k_135_118 : hm_code 135 118 = some (.aload_n 0) := by decide +kernel
theorem k_135_119 : hm_code 135 119 = some (.getfield 132) := by decide +kernel
theorem k_135_122 : hm_code 135 122 = some (.iload_n 3) := by decide +kernel
theorem k_135_123 : hm_code 135 123 = some (.isub) := by decide +kernel
theorem k_135_124 : hm_code 135 124 = some (.iconst 3) := by decide +kernel
theorem k_135_125 : hm_code 135 125 = some (.if_icmp .le 10) := by decide +kernel
theorem k_135_128 : hm_code 135 128 = some (.aload_n 0) := by decide +kernel
theorem k_135_129 : hm_code 135 129 = some (.iconst 2) := by decide +kernel
theorem k_135_130 : hm_code 135 130 = some (.iload_n 3) := by decide +kernel
theorem k_135_131 : hm_code 135 131 = some (.invokevirtual 143) := by decide +kernel
theorem k_135_134 : hm_code 135 134 = some (.ireturn) := by decide +kernel
theorem k_135_135 : hm_code 135 135 = some (.aload_n 0) := by decide +kernel
theorem k_135_136 : hm_code 135 136 = some (.getfield 22) := by decide +kernel
theorem k_135_139 : hm_code 135 139 = some (.iload_n 1) := by decide +kernel
theorem k_135_140 : hm_code 135 140 = some (.iload 4) := by decide +kernel
theorem k_135_142 : hm_code 135 142 = some (.iastore) := by decide +kernel
theorem k_135_143 : hm_code 135 143 = some (.iconst 0) := by decide +kernel
theorem k_135_144 : hm_code 135 144 = some (.ireturn) := by decide +kernel
theorem m_136 : hm_mtab[136]? = some (⟨"HourPromisedModel", "putRight", "(II)I"⟩, prog_10_method_38_code, 7, (some .int), 8, 3, 1) := rfl
theorem k_136_0 : hm_code 136 0 = some (.iconst 0) := by decide +kernel
theorem k_136_1 : hm_code 136 1 = some (.istore_n 3) := by decide +kernel
theorem k_136_2 : hm_code 136 2 = some (.iconst 0) := by decide +kernel
theorem k_136_3 : hm_code 136 3 = some (.istore 4) := by decide +kernel
theorem k_136_5 : hm_code 136 5 = some (.iload 4) := by decide +kernel
theorem k_136_7 : hm_code 136 7 = some (.iconst 4) := by decide +kernel
theorem k_136_8 : hm_code 136 8 = some (.aload_n 0) := by decide +kernel
theorem k_136_9 : hm_code 136 9 = some (.getfield 81) := by decide +kernel
theorem k_136_12 : hm_code 136 12 = some (.imul) := by decide +kernel
theorem k_136_13 : hm_code 136 13 = some (.if_icmp .ge 103) := by decide +kernel
theorem k_136_16 : hm_code 136 16 = some (.iload 4) := by decide +kernel
theorem k_136_18 : hm_code 136 18 = some (.iconst 4) := by decide +kernel
theorem k_136_19 : hm_code 136 19 = some (.idiv) := by decide +kernel
theorem k_136_20 : hm_code 136 20 = some (.istore 5) := by decide +kernel
theorem k_136_22 : hm_code 136 22 = some (.iload_n 1) := by decide +kernel
theorem k_136_23 : hm_code 136 23 = some (.ifCond .ge 22) := by decide +kernel
theorem k_136_26 : hm_code 136 26 = some (.aload_n 0) := by decide +kernel
theorem k_136_27 : hm_code 136 27 = some (.getfield 32) := by decide +kernel
theorem k_136_30 : hm_code 136 30 = some (.iload 5) := by decide +kernel
theorem k_136_32 : hm_code 136 32 = some (.iaload) := by decide +kernel
theorem k_136_33 : hm_code 136 33 = some (.iload_n 2) := by decide +kernel
theorem k_136_34 : hm_code 136 34 = some (.if_icmp .ne 7) := by decide +kernel
theorem k_136_37 : hm_code 136 37 = some (.iconst 1) := by decide +kernel
theorem k_136_38 : hm_code 136 38 = some (.goto 18) := by decide +kernel
theorem k_136_41 : hm_code 136 41 = some (.iconst 0) := by decide +kernel
theorem k_136_42 : hm_code 136 42 = some (.goto 14) := by decide +kernel
theorem k_136_45 : hm_code 136 45 = some (.iload 5) := by decide +kernel
theorem k_136_47 : hm_code 136 47 = some (.iload_n 1) := by decide +kernel
theorem k_136_48 : hm_code 136 48 = some (.if_icmp .ne 7) := by decide +kernel
theorem k_136_51 : hm_code 136 51 = some (.iconst 1) := by decide +kernel
theorem k_136_52 : hm_code 136 52 = some (.goto 4) := by decide +kernel
theorem k_136_55 : hm_code 136 55 = some (.iconst 0) := by decide +kernel
theorem k_136_56 : hm_code 136 56 = some (.istore 6) := by decide +kernel
theorem k_136_58 : hm_code 136 58 = some (.iload 6) := by decide +kernel
theorem k_136_60 : hm_code 136 60 = some (.ifCond .eq 50) := by decide +kernel
theorem k_136_63 : hm_code 136 63 = some (.aload_n 0) := by decide +kernel
theorem k_136_64 : hm_code 136 64 = some (.getfield 47) := by decide +kernel
theorem k_136_67 : hm_code 136 67 = some (.iload 4) := by decide +kernel
theorem k_136_69 : hm_code 136 69 = some (.iaload) := by decide +kernel
theorem k_136_70 : hm_code 136 70 = some (.ifCond .lt 40) := by decide +kernel
theorem k_136_73 : hm_code 136 73 = some (.aload_n 0) := by decide +kernel
theorem k_136_74 : hm_code 136 74 = some (.iload 5) := by decide +kernel
theorem k_136_76 : hm_code 136 76 = some (.iload 4) := by decide +kernel
theorem k_136_78 : hm_code 136 78 = some (.iconst 4) := by decide +kernel
theorem k_136_79 : hm_code 136 79 = some (.irem) := by decide +kernel
theorem k_136_80 : hm_code 136 80 = some (.aload_n 0) := by decide +kernel
theorem k_136_81 : hm_code 136 81 = some (.getfield 47) := by decide +kernel
theorem k_136_84 : hm_code 136 84 = some (.iload 4) := by decide +kernel
theorem k_136_86 : hm_code 136 86 = some (.iaload) := by decide +kernel
theorem k_136_87 : hm_code 136 87 = some (.invokevirtual 183) := by decide +kernel
theorem k_136_90 : hm_code 136 90 = some (.ifCond .le 20) := by decide +kernel
theorem k_136_93 : hm_code 136 93 = some (.aload_n 0) := by decide +kernel
theorem k_136_94 : hm_code 136 94 = some (.getfield 47) := by decide +kernel
theorem k_136_97 : hm_code 136 97 = some (.iload 4) := by decide +kernel
theorem k_136_99 : hm_code 136 99 = some (.iconst (-1)) := by decide +kernel
theorem k_136_100 : hm_code 136 100 = some (.iastore) := by decide +kernel
theorem k_136_101 : hm_code 136 101 = some (.iinc 3 1) := by decide +kernel
theorem k_136_104 : hm_code 136 104 = some (.iconst 0) := by decide +kernel
theorem k_136_105 : hm_code 136 105 = some (.istore 4) := by decide +kernel
theorem k_136_107 : hm_code 136 107 = some (.goto 6) := by decide +kernel
theorem k_136_110 : hm_code 136 110 = some (.iinc 4 1) := by decide +kernel
theorem k_136_113 : hm_code 136 113 = some (.goto (-108)) := by decide +kernel
theorem k_136_116 : hm_code 136 116 = some (.aload_n 0) := by decide +kernel
theorem k_136_117 : hm_code 136 117 = some (.dup) := by decide +kernel
theorem k_136_118 : hm_code 136 118 = some (.getfield 210) := by decide +kernel
theorem k_136_121 : hm_code 136 121 = some (.iload_n 3) := by decide +kernel
theorem k_136_122 : hm_code 136 122 = some (.iadd) := by decide +kernel
theorem k_136_123 : hm_code 136 123 = some (.putfield 210) := by decide +kernel
theorem k_136_126 : hm_code 136 126 = some (.iload_n 3) := by decide +kernel
theorem k_136_127 : hm_code 136 127 = some (.ireturn) := by decide +kernel
theorem m_137 : hm_mtab[137]? = some (⟨"HourPromisedModel", "hinders", "(III)I"⟩, prog_10_method_30_code, 4, (some .int), 8, 4, 1) := rfl
theorem k_137_0 : hm_code 137 0 = some (.iload_n 3) := by decide +kernel
theorem k_137_1 : hm_code 137 1 = some (.aload_n 0) := by decide +kernel
theorem k_137_2 : hm_code 137 2 = some (.getfield 35) := by decide +kernel
theorem k_137_5 : hm_code 137 5 = some (.iload_n 1) := by decide +kernel
theorem k_137_6 : hm_code 137 6 = some (.iaload) := by decide +kernel
theorem k_137_7 : hm_code 137 7 = some (.if_icmp .gt 7) := by decide +kernel
theorem k_137_10 : hm_code 137 10 = some (.iconst 2) := by decide +kernel
theorem k_137_11 : hm_code 137 11 = some (.goto 62) := by decide +kernel
theorem k_137_14 : hm_code 137 14 = some (.aload_n 0) := by decide +kernel
theorem k_137_15 : hm_code 137 15 = some (.iload_n 1) := by decide +kernel
theorem k_137_16 : hm_code 137 16 = some (.iload_n 2) := by decide +kernel
theorem k_137_17 : hm_code 137 17 = some (.iconst 3) := by decide +kernel
theorem k_137_18 : hm_code 137 18 = some (.invokevirtual 169) := by decide +kernel
theorem k_137_21 : hm_code 137 21 = some (.iconst 1) := by decide +kernel
theorem k_137_22 : hm_code 137 22 = some (.if_icmp .ne 7) := by decide +kernel
theorem k_137_25 : hm_code 137 25 = some (.iconst 3) := by decide +kernel
theorem k_137_26 : hm_code 137 26 = some (.goto 47) := by decide +kernel
theorem k_137_29 : hm_code 137 29 = some (.aload_n 0) := by decide +kernel
theorem k_137_30 : hm_code 137 30 = some (.iload_n 1) := by decide +kernel
theorem k_137_31 : hm_code 137 31 = some (.iload_n 2) := by decide +kernel
theorem k_137_32 : hm_code 137 32 = some (.iload_n 3) := by decide +kernel
theorem k_137_33 : hm_code 137 33 = some (.invokevirtual 173) := by decide +kernel
theorem k_137_36 : hm_code 137 36 = some (.ifCond .eq 7) := by decide +kernel
theorem k_137_39 : hm_code 137 39 = some (.iconst 4) := by decide +kernel
theorem k_137_40 : hm_code 137 40 = some (.goto 33) := by decide +kernel
theorem k_137_43 : hm_code 137 43 = some (.aload_n 0) := by decide +kernel
theorem k_137_44 : hm_code 137 44 = some (.iload_n 1) := by decide +kernel
theorem k_137_45 : hm_code 137 45 = some (.iload_n 2) := by decide +kernel
theorem k_137_46 : hm_code 137 46 = some (.iload_n 3) := by decide +kernel
theorem k_137_47 : hm_code 137 47 = some (.invokevirtual 177) := by decide +kernel
theorem k_137_50 : hm_code 137 50 = some (.ifCond .eq 7) := by decide +kernel
theorem k_137_53 : hm_code 137 53 = some (.iconst 5) := by decide +kernel
theorem k_137_54 : hm_code 137 54 = some (.goto 19) := by decide +kernel
theorem k_137_57 : hm_code 137 57 = some (.aload_n 0) := by decide +kernel
theorem k_137_58 : hm_code 137 58 = some (.iload_n 1) := by decide +kernel
theorem k_137_59 : hm_code 137 59 = some (.iload_n 2) := by decide +kernel
theorem k_137_60 : hm_code 137 60 = some (.iload_n 3) := by decide +kernel
theorem k_137_61 : hm_code 137 61 = some (.invokevirtual 180) := by decide +kernel
theorem k_137_64 : hm_code 137 64 = some (.ifCond .eq 8) := by decide +kernel
theorem k_137_67 : hm_code 137 67 = some (.bipush 6) := by decide +kernel
theorem k_137_69 : hm_code 137 69 = some (.goto 4) := by decide +kernel
theorem k_137_72 : hm_code 137 72 = some (.iconst 0) := by decide +kernel
theorem k_137_73 : hm_code 137 73 = some (.ireturn) := by decide +kernel
theorem m_138 : hm_mtab[138]? = some (⟨"HourPromisedModel", "lawOf", "(III)I"⟩, prog_10_method_8_code, 4, (some .int), 8, 4, 1) := rfl
theorem k_138_0 : hm_code 138 0 = some (.aload_n 0) := by decide +kernel
theorem k_138_1 : hm_code 138 1 = some (.getfield 19) := by decide +kernel
theorem k_138_4 : hm_code 138 4 = some (.bipush 20) := by decide +kernel
theorem k_138_6 : hm_code 138 6 = some (.aload_n 0) := by decide +kernel
theorem k_138_7 : hm_code 138 7 = some (.getfield 32) := by decide +kernel
theorem k_138_10 : hm_code 138 10 = some (.iload_n 1) := by decide +kernel
theorem k_138_11 : hm_code 138 11 = some (.iaload) := by decide +kernel
theorem k_138_12 : hm_code 138 12 = some (.imul) := by decide +kernel
theorem k_138_13 : hm_code 138 13 = some (.iconst 5) := by decide +kernel
theorem k_138_14 : hm_code 138 14 = some (.iload_n 2) := by decide +kernel
theorem k_138_15 : hm_code 138 15 = some (.imul) := by decide +kernel
theorem k_138_16 : hm_code 138 16 = some (.iadd) := by decide +kernel
theorem k_138_17 : hm_code 138 17 = some (.iload_n 3) := by decide +kernel
theorem k_138_18 : hm_code 138 18 = some (.iadd) := by decide +kernel
theorem k_138_19 : hm_code 138 19 = some (.iaload) := by decide +kernel
theorem k_138_20 : hm_code 138 20 = some (.ireturn) := by decide +kernel
theorem m_139 : hm_mtab[139]? = some (⟨"HourPromisedModel", "papersMiss", "(III)Z"⟩, prog_10_method_27_code, 7, (some .boolean), 8, 4, 1) := rfl
theorem k_139_0 : hm_code 139 0 = some (.iconst 0) := by decide +kernel
theorem k_139_1 : hm_code 139 1 = some (.istore 4) := by decide +kernel
theorem k_139_3 : hm_code 139 3 = some (.iconst 0) := by decide +kernel
theorem k_139_4 : hm_code 139 4 = some (.istore 5) := by decide +kernel
theorem k_139_6 : hm_code 139 6 = some (.iload 5) := by decide +kernel
theorem k_139_8 : hm_code 139 8 = some (.bipush 6) := by decide +kernel
theorem k_139_10 : hm_code 139 10 = some (.if_icmp .ge 80) := by decide +kernel
theorem k_139_13 : hm_code 139 13 = some (.aload_n 0) := by decide +kernel
theorem k_139_14 : hm_code 139 14 = some (.getfield 44) := by decide +kernel
theorem k_139_17 : hm_code 139 17 = some (.bipush 6) := by decide +kernel
theorem k_139_19 : hm_code 139 19 = some (.iload_n 1) := by decide +kernel
theorem k_139_20 : hm_code 139 20 = some (.imul) := by decide +kernel
theorem k_139_21 : hm_code 139 21 = some (.iload 5) := by decide +kernel
theorem k_139_23 : hm_code 139 23 = some (.iadd) := by decide +kernel
theorem k_139_24 : hm_code 139 24 = some (.iaload) := by decide +kernel
theorem k_139_25 : hm_code 139 25 = some (.ifCond .lt 23) := by decide +kernel
theorem k_139_28 : hm_code 139 28 = some (.aload_n 0) := by decide +kernel
theorem k_139_29 : hm_code 139 29 = some (.getfield 44) := by decide +kernel
theorem k_139_32 : hm_code 139 32 = some (.bipush 6) := by decide +kernel
theorem k_139_34 : hm_code 139 34 = some (.iload_n 1) := by decide +kernel
theorem k_139_35 : hm_code 139 35 = some (.imul) := by decide +kernel
theorem k_139_36 : hm_code 139 36 = some (.iload 5) := by decide +kernel
theorem k_139_38 : hm_code 139 38 = some (.iadd) := by decide +kernel
theorem k_139_39 : hm_code 139 39 = some (.iaload) := by decide +kernel
theorem k_139_40 : hm_code 139 40 = some (.iload_n 3) := by decide +kernel
theorem k_139_41 : hm_code 139 41 = some (.if_icmp .gt 7) := by decide +kernel
theorem k_139_44 : hm_code 139 44 = some (.iconst 1) := by decide +kernel
theorem k_139_45 : hm_code 139 45 = some (.goto 4) := by decide +kernel
theorem k_139_48 : hm_code 139 48 = some (.iconst 0) := by decide +kernel
theorem k_139_49 : hm_code 139 49 = some (.istore 6) := by decide +kernel
theorem k_139_51 : hm_code 139 51 = some (.iload 4) := by decide +kernel
theorem k_139_53 : hm_code 139 53 = some (.ifCond .ne 24) := by decide +kernel
theorem k_139_56 : hm_code 139 56 = some (.aload_n 0) := by decide +kernel
theorem k_139_57 : hm_code 139 57 = some (.iload_n 1) := by decide +kernel
theorem k_139_58 : hm_code 139 58 = some (.iload_n 2) := by decide +kernel
theorem k_139_59 : hm_code 139 59 = some (.iconst 0) := by decide +kernel
theorem k_139_60 : hm_code 139 60 = some (.invokevirtual 169) := by decide +kernel
theorem k_139_63 : hm_code 139 63 = some (.iload 5) := by decide +kernel
theorem k_139_65 : hm_code 139 65 = some (.ishr) := by decide +kernel
theorem k_139_66 : hm_code 139 66 = some (.iconst 1) := by decide +kernel
theorem k_139_67 : hm_code 139 67 = some (.iand) := by decide +kernel
theorem k_139_68 : hm_code 139 68 = some (.iconst 1) := by decide +kernel
theorem k_139_69 : hm_code 139 69 = some (.if_icmp .ne 12) := by decide +kernel
theorem k_139_72 : hm_code 139 72 = some (.iload 6) := by decide +kernel
theorem k_139_74 : hm_code 139 74 = some (.ifCond .ne 7) := by decide +kernel
theorem k_139_77 : hm_code 139 77 = some (.iconst 1) := by decide +kernel
theorem k_139_78 : hm_code 139 78 = some (.goto 4) := by decide +kernel
theorem k_139_81 : hm_code 139 81 = some (.iconst 0) := by decide +kernel
theorem k_139_82 : hm_code 139 82 = some (.istore 4) := by decide +kernel
theorem k_139_84 : hm_code 139 84 = some (.iinc 5 1) := by decide +kernel
theorem k_139_87 : hm_code 139 87 = some (.goto (-81)) := by decide +kernel
theorem k_139_90 : hm_code 139 90 = some (.iload 4) := by decide +kernel
theorem k_139_92 : hm_code 139 92 = some (.ireturn) := by decide +kernel
theorem m_140 : hm_mtab[140]? = some (⟨"HourPromisedModel", "isOut", "(III)Z"⟩, prog_10_method_28_code, 5, (some .boolean), 8, 4, 1) := rfl
theorem k_140_0 : hm_code 140 0 = some (.iload_n 3) := by decide +kernel
theorem k_140_1 : hm_code 140 1 = some (.aload_n 0) := by decide +kernel
theorem k_140_2 : hm_code 140 2 = some (.getfield 35) := by decide +kernel
theorem k_140_5 : hm_code 140 5 = some (.iload_n 1) := by decide +kernel
theorem k_140_6 : hm_code 140 6 = some (.iaload) := by decide +kernel
theorem k_140_7 : hm_code 140 7 = some (.isub) := by decide +kernel
theorem k_140_8 : hm_code 140 8 = some (.istore 4) := by decide +kernel
theorem k_140_10 : hm_code 140 10 = some (.aload_n 0) := by decide +kernel
theorem k_140_11 : hm_code 140 11 = some (.iload_n 1) := by decide +kernel
theorem k_140_12 : hm_code 140 12 = some (.iload_n 2) := by decide +kernel
theorem k_140_13 : hm_code 140 13 = some (.iconst 1) := by decide +kernel
theorem k_140_14 : hm_code 140 14 = some (.invokevirtual 169) := by decide +kernel
theorem k_140_17 : hm_code 140 17 = some (.ifCond .lt 15) := by decide +kernel
theorem k_140_20 : hm_code 140 20 = some (.iload 4) := by decide +kernel
theorem k_140_22 : hm_code 140 22 = some (.aload_n 0) := by decide +kernel
theorem k_140_23 : hm_code 140 23 = some (.iload_n 1) := by decide +kernel
theorem k_140_24 : hm_code 140 24 = some (.iload_n 2) := by decide +kernel
theorem k_140_25 : hm_code 140 25 = some (.iconst 1) := by decide +kernel
theorem k_140_26 : hm_code 140 26 = some (.invokevirtual 169) := by decide +kernel
theorem k_140_29 : hm_code 140 29 = some (.if_icmp .gt 15) := by decide +kernel
theorem k_140_32 : hm_code 140 32 = some (.iload 4) := by decide +kernel
theorem k_140_34 : hm_code 140 34 = some (.aload_n 0) := by decide +kernel
theorem k_140_35 : hm_code 140 35 = some (.iload_n 1) := by decide +kernel
theorem k_140_36 : hm_code 140 36 = some (.iload_n 2) := by decide +kernel
theorem k_140_37 : hm_code 140 37 = some (.iconst 2) := by decide +kernel
theorem k_140_38 : hm_code 140 38 = some (.invokevirtual 169) := by decide +kernel
theorem k_140_41 : hm_code 140 41 = some (.if_icmp .ge 7) := by decide +kernel
theorem k_140_44 : hm_code 140 44 = some (.iconst 1) := by decide +kernel
theorem k_140_45 : hm_code 140 45 = some (.goto 4) := by decide +kernel
theorem k_140_48 : hm_code 140 48 = some (.iconst 0) := by decide +kernel
theorem k_140_49 : hm_code 140 49 = some (.ireturn) := by decide +kernel
theorem m_141 : hm_mtab[141]? = some (⟨"HourPromisedModel", "aheadMiss", "(III)Z"⟩, prog_10_method_29_code, 7, (some .boolean), 8, 4, 1) := rfl
theorem k_141_0 : hm_code 141 0 = some (.iconst 0) := by decide +kernel
theorem k_141_1 : hm_code 141 1 = some (.istore 4) := by decide +kernel
theorem k_141_3 : hm_code 141 3 = some (.iconst 0) := by decide +kernel
theorem k_141_4 : hm_code 141 4 = some (.istore 5) := by decide +kernel
theorem k_141_6 : hm_code 141 6 = some (.iload 5) := by decide +kernel
theorem k_141_8 : hm_code 141 8 = some (.iconst 4) := by decide +kernel
theorem k_141_9 : hm_code 141 9 = some (.if_icmp .ge 70) := by decide +kernel
theorem k_141_12 : hm_code 141 12 = some (.aload_n 0) := by decide +kernel
theorem k_141_13 : hm_code 141 13 = some (.iload_n 1) := by decide +kernel
theorem k_141_14 : hm_code 141 14 = some (.iload 5) := by decide +kernel
theorem k_141_16 : hm_code 141 16 = some (.invokevirtual 92) := by decide +kernel
theorem k_141_19 : hm_code 141 19 = some (.ifCond .lt 18) := by decide +kernel
theorem k_141_22 : hm_code 141 22 = some (.aload_n 0) := by decide +kernel
theorem k_141_23 : hm_code 141 23 = some (.iload_n 1) := by decide +kernel
theorem k_141_24 : hm_code 141 24 = some (.iload 5) := by decide +kernel
theorem k_141_26 : hm_code 141 26 = some (.invokevirtual 92) := by decide +kernel
theorem k_141_29 : hm_code 141 29 = some (.iload_n 3) := by decide +kernel
theorem k_141_30 : hm_code 141 30 = some (.if_icmp .ge 7) := by decide +kernel
theorem k_141_33 : hm_code 141 33 = some (.iconst 1) := by decide +kernel
theorem k_141_34 : hm_code 141 34 = some (.goto 4) := by decide +kernel
theorem k_141_37 : hm_code 141 37 = some (.iconst 0) := by decide +kernel
theorem k_141_38 : hm_code 141 38 = some (.istore 6) := by decide +kernel
theorem k_141_40 : hm_code 141 40 = some (.iload 4) := by decide +kernel
theorem k_141_42 : hm_code 141 42 = some (.ifCond .ne 24) := by decide +kernel
theorem k_141_45 : hm_code 141 45 = some (.aload_n 0) := by decide +kernel
theorem k_141_46 : hm_code 141 46 = some (.iload_n 1) := by decide +kernel
theorem k_141_47 : hm_code 141 47 = some (.iload_n 2) := by decide +kernel
theorem k_141_48 : hm_code 141 48 = some (.iconst 4) := by decide +kernel
theorem k_141_49 : hm_code 141 49 = some (.invokevirtual 169) := by decide +kernel
theorem k_141_52 : hm_code 141 52 = some (.iload 5) := by decide +kernel
theorem k_141_54 : hm_code 141 54 = some (.ishr) := by decide +kernel
theorem k_141_55 : hm_code 141 55 = some (.iconst 1) := by decide +kernel
theorem k_141_56 : hm_code 141 56 = some (.iand) := by decide +kernel
theorem k_141_57 : hm_code 141 57 = some (.iconst 1) := by decide +kernel
theorem k_141_58 : hm_code 141 58 = some (.if_icmp .ne 12) := by decide +kernel
theorem k_141_61 : hm_code 141 61 = some (.iload 6) := by decide +kernel
theorem k_141_63 : hm_code 141 63 = some (.ifCond .ne 7) := by decide +kernel
theorem k_141_66 : hm_code 141 66 = some (.iconst 1) := by decide +kernel
theorem k_141_67 : hm_code 141 67 = some (.goto 4) := by decide +kernel
theorem k_141_70 : hm_code 141 70 = some (.iconst 0) := by decide +kernel
theorem k_141_71 : hm_code 141 71 = some (.istore 4) := by decide +kernel
theorem k_141_73 : hm_code 141 73 = some (.iinc 5 1) := by decide +kernel
theorem k_141_76 : hm_code 141 76 = some (.goto (-70)) := by decide +kernel
theorem k_141_79 : hm_code 141 79 = some (.iload 4) := by decide +kernel
theorem k_141_81 : hm_code 141 81 = some (.ireturn) := by decide +kernel
theorem m_142 : hm_mtab[142]? = some (⟨"HourPromisedModel", "place", "()I"⟩, prog_10_method_25_code, 1, (some .int), 8, 1, 1) := rfl
theorem k_142_0 : hm_code 142 0 = some (.aload_n 0) := by decide +kernel
theorem k_142_1 : hm_code 142 1 = some (.getfield 28) := by decide +kernel
theorem k_142_4 : hm_code 142 4 = some (.ireturn) := by decide +kernel
theorem m_143 : hm_mtab[143]? = some (⟨"HourPromisedModel", "says", "(III)I"⟩, prog_10_method_26_code, 4, (some .int), 8, 4, 1) := rfl
theorem k_143_0 : hm_code 143 0 = some (.iload_n 1) := by decide +kernel
theorem k_143_1 : hm_code 143 1 = some (.i2l) := by decide +kernel
theorem k_143_2 : hm_code 143 2 = some (.lconst 0) := by decide +kernel
theorem k_143_3 : hm_code 143 3 = some (.ldc2_w 90) := by decide +kernel
theorem k_143_6 : hm_code 143 6 = some (.invokestatic 84) := by decide +kernel
theorem k_143_9 : hm_code 143 9 = some (.ifCond .ne 7) := by decide +kernel
theorem k_143_12 : hm_code 143 12 = some (.sipush (-1001)) := by decide +kernel
theorem k_143_15 : hm_code 143 15 = some (.ireturn) := by decide +kernel
theorem k_143_16 : hm_code 143 16 = some (.iload_n 2) := by decide +kernel
theorem k_143_17 : hm_code 143 17 = some (.invokestatic 165) := by decide +kernel
theorem k_143_20 : hm_code 143 20 = some (.ifCond .eq 33) := by decide +kernel
theorem k_143_23 : hm_code 143 23 = some (.iload_n 3) := by decide +kernel
theorem k_143_24 : hm_code 143 24 = some (.i2l) := by decide +kernel
theorem k_143_25 : hm_code 143 25 = some (.lconst 0) := by decide +kernel
theorem k_143_26 : hm_code 143 26 = some (.ldc2_w 105) := by decide +kernel
theorem k_143_29 : hm_code 143 29 = some (.invokestatic 84) := by decide +kernel
theorem k_143_32 : hm_code 143 32 = some (.ifCond .eq 21) := by decide +kernel
theorem k_143_35 : hm_code 143 35 = some (.aload_n 0) := by decide +kernel
theorem k_143_36 : hm_code 143 36 = some (.getfield 19) := by decide +kernel
theorem k_143_39 : hm_code 143 39 = some (.bipush 20) := by decide +kernel
theorem k_143_41 : hm_code 143 41 = some (.iload_n 1) := by decide +kernel
theorem k_143_42 : hm_code 143 42 = some (.imul) := by decide +kernel
theorem k_143_43 : hm_code 143 43 = some (.iconst 5) := by decide +kernel
theorem k_143_44 : hm_code 143 44 = some (.iload_n 2) := by decide +kernel
theorem k_143_45 : hm_code 143 45 = some (.imul) := by decide +kernel
theorem k_143_46 : hm_code 143 46 = some (.iadd) := by decide +kernel
theorem k_143_47 : hm_code 143 47 = some (.iload_n 3) := by decide +kernel
theorem k_143_48 : hm_code 143 48 = some (.iadd) := by decide +kernel
theorem k_143_49 : hm_code 143 49 = some (.iaload) := by decide +kernel
theorem k_143_50 : hm_code 143 50 = some (.goto 6) := by decide +kernel
theorem k_143_53 : hm_code 143 53 = some (.sipush (-1002)) := by decide +kernel
theorem k_143_56 : hm_code 143 56 = some (.ireturn) := by decide +kernel
theorem m_144 : hm_mtab[144]? = some (⟨"HourPromisedModel", "isStep", "(I)Z"⟩, prog_10_method_6_code, 1, (some .boolean), 8, 1, 0) := rfl
theorem k_144_0 : hm_code 144 0 = some (.iload_n 0) := by decide +kernel
theorem k_144_1 : hm_code 144 1 = some (.i2l) := by decide +kernel
theorem k_144_2 : hm_code 144 2 = some (.lconst 0) := by decide +kernel
theorem k_144_3 : hm_code 144 3 = some (.ldc2_w 90) := by decide +kernel
theorem k_144_6 : hm_code 144 6 = some (.invokestatic 84) := by decide +kernel
theorem k_144_9 : hm_code 144 9 = some (.ireturn) := by decide +kernel
end
section
theorem m_145 : hm_mtab[145]? = some (⟨"HourPromisedModel", "casus", "(IIII)I"⟩, prog_10_method_37_code, 7, (some .int), 8, 5, 1) := rfl
theorem k_145_0 : hm_code 145 0 = some (.iload_n 1) := by decide +kernel
theorem k_145_1 : hm_code 145 1 = some (.i2l) := by decide +kernel
theorem k_145_2 : hm_code 145 2 = some (.lconst 0) := by decide +kernel
theorem k_145_3 : hm_code 145 3 = some (.ldc2_w 90) := by decide +kernel
theorem k_145_6 : hm_code 145 6 = some (.invokestatic 84) := by decide +kernel
theorem k_145_9 : hm_code 145 9 = some (.ifCond .ne 7) := by decide +kernel
theorem k_145_12 : hm_code 145 12 = some (.sipush (-1001)) := by decide +kernel
theorem k_145_15 : hm_code 145 15 = some (.ireturn) := by decide +kernel
theorem k_145_16 : hm_code 145 16 = some (.iload_n 2) := by decide +kernel
theorem k_145_17 : hm_code 145 17 = some (.invokestatic 205) := by decide +kernel
theorem k_145_20 : hm_code 145 20 = some (.ifCond .eq 28) := by decide +kernel
theorem k_145_23 : hm_code 145 23 = some (.iload_n 3) := by decide +kernel
theorem k_145_24 : hm_code 145 24 = some (.i2l) := by decide +kernel
theorem k_145_25 : hm_code 145 25 = some (.lconst 0) := by decide +kernel
theorem k_145_26 : hm_code 145 26 = some (.ldc2_w 208) := by decide +kernel
theorem k_145_29 : hm_code 145 29 = some (.invokestatic 84) := by decide +kernel
theorem k_145_32 : hm_code 145 32 = some (.ifCond .eq 16) := by decide +kernel
theorem k_145_35 : hm_code 145 35 = some (.iload 4) := by decide +kernel
theorem k_145_37 : hm_code 145 37 = some (.i2l) := by decide +kernel
theorem k_145_38 : hm_code 145 38 = some (.lconst 0) := by decide +kernel
theorem k_145_39 : hm_code 145 39 = some (.ldc2_w 151) := by decide +kernel
theorem k_145_42 : hm_code 145 42 = some (.invokestatic 84) := by decide +kernel
theorem k_145_45 : hm_code 145 45 = some (.ifCond .ne 7) := by decide +kernel
theorem k_145_48 : hm_code 145 48 = some (.sipush (-1002)) := by decide +kernel
theorem k_145_51 : hm_code 145 51 = some (.ireturn) := by decide +kernel
theorem k_145_52 : hm_code 145 52 = some (.aload_n 0) := by decide +kernel
theorem k_145_53 : hm_code 145 53 = some (.getfield 81) := by decide +kernel
theorem k_145_56 : hm_code 145 56 = some (.bipush 16) := by decide +kernel
theorem k_145_58 : hm_code 145 58 = some (.if_icmp .ne 7) := by decide +kernel
theorem k_145_61 : hm_code 145 61 = some (.sipush (-1004)) := by decide +kernel
theorem k_145_64 : hm_code 145 64 = some (.ireturn) := by decide +kernel
theorem k_145_65 : hm_code 145 65 = some (.aload_n 0) := by decide +kernel
theorem k_145_66 : hm_code 145 66 = some (.getfield 81) := by decide +kernel
theorem k_145_69 : hm_code 145 69 = some (.istore 5) := by decide +kernel
theorem k_145_71 : hm_code 145 71 = some (.aload_n 0) := by decide +kernel
theorem k_145_72 : hm_code 145 72 = some (.getfield 32) := by decide +kernel
theorem k_145_75 : hm_code 145 75 = some (.iload 5) := by decide +kernel
theorem k_145_77 : hm_code 145 77 = some (.iload_n 1) := by decide +kernel
theorem k_145_78 : hm_code 145 78 = some (.iastore) := by decide +kernel
theorem k_145_79 : hm_code 145 79 = some (.aload_n 0) := by decide +kernel
theorem k_145_80 : hm_code 145 80 = some (.getfield 35) := by decide +kernel
theorem k_145_83 : hm_code 145 83 = some (.iload 5) := by decide +kernel
theorem k_145_85 : hm_code 145 85 = some (.iload_n 2) := by decide +kernel
theorem k_145_86 : hm_code 145 86 = some (.iastore) := by decide +kernel
theorem k_145_87 : hm_code 145 87 = some (.aload_n 0) := by decide +kernel
theorem k_145_88 : hm_code 145 88 = some (.getfield 38) := by decide +kernel
theorem k_145_91 : hm_code 145 91 = some (.iload 5) := by decide +kernel
theorem k_145_93 : hm_code 145 93 = some (.iload_n 3) := by decide +kernel
theorem k_145_94 : hm_code 145 94 = some (.iastore) := by decide +kernel
theorem k_145_95 : hm_code 145 95 = some (.aload_n 0) := by decide +kernel
theorem k_145_96 : hm_code 145 96 = some (.getfield 41) := by decide +kernel
theorem k_145_99 : hm_code 145 99 = some (.iload 5) := by decide +kernel
theorem k_145_101 : hm_code 145 101 = some (.iload 4) := by decide +kernel
theorem k_145_103 : hm_code 145 103 = some (.iastore) := by decide +kernel
theorem k_145_104 : hm_code 145 104 = some (.iconst 0) := by decide +kernel
theorem k_145_105 : hm_code 145 105 = some (.istore 6) := by decide +kernel
theorem k_145_107 : hm_code 145 107 = some (.iload 6) := by decide +kernel
theorem k_145_109 : hm_code 145 109 = some (.bipush 6) := by decide +kernel
theorem k_145_111 : hm_code 145 111 = some (.if_icmp .ge 23) := by decide +kernel
theorem k_145_114 : hm_code 145 114 = some (.aload_n 0) := by decide +kernel
theorem k_145_115 : hm_code 145 115 = some (.getfield 44) := by decide +kernel
theorem k_145_118 : hm_code 145 118 = some (.bipush 6) := by decide +kernel
theorem k_145_120 : hm_code 145 120 = some (.iload 5) := by decide +kernel
theorem k_145_122 : hm_code 145 122 = some (.imul) := by decide +kernel
theorem k_145_123 : hm_code 145 123 = some (.iload 6) := by decide +kernel
theorem k_145_125 : hm_code 145 125 = some (.iadd) := by decide +kernel
theorem k_145_126 : hm_code 145 126 = some (.iconst (-1)) := by decide +kernel
theorem k_145_127 : hm_code 145 127 = some (.iastore) := by decide +kernel
theorem k_145_128 : hm_code 145 128 = some (.iinc 6 1) := by decide +kernel
theorem k_145_131 : hm_code 145 131 = some (.goto (-24)) := by decide +kernel
theorem k_145_134 : hm_code 145 134 = some (.iconst 0) := by decide +kernel
theorem k_145_135 : hm_code 145 135 = some (.istore 6) := by decide +kernel
theorem k_145_137 : hm_code 145 137 = some (.iload 6) := by decide +kernel
theorem k_145_139 : hm_code 145 139 = some (.iconst 4) := by decide +kernel
theorem k_145_140 : hm_code 145 140 = some (.if_icmp .ge 22) := by decide +kernel
theorem k_145_143 : hm_code 145 143 = some (.aload_n 0) := by decide +kernel
theorem k_145_144 : hm_code 145 144 = some (.getfield 47) := by decide +kernel
theorem k_145_147 : hm_code 145 147 = some (.iconst 4) := by decide +kernel
theorem k_145_148 : hm_code 145 148 = some (.iload 5) := by decide +kernel
theorem k_145_150 : hm_code 145 150 = some (.imul) := by decide +kernel
theorem k_145_151 : hm_code 145 151 = some (.iload 6) := by decide +kernel
theorem k_145_153 : hm_code 145 153 = some (.iadd) := by decide +kernel
theorem k_145_154 : hm_code 145 154 = some (.iconst (-1)) := by decide +kernel
theorem k_145_155 : hm_code 145 155 = some (.iastore) := by decide +kernel
theorem k_145_156 : hm_code 145 156 = some (.iinc 6 1) := by decide +kernel
theorem k_145_159 : hm_code 145 159 = some (.goto (-22)) := by decide +kernel
theorem k_145_162 : hm_code 145 162 = some (.aload_n 0) := by decide +kernel
theorem k_145_163 : hm_code 145 163 = some (.dup) := by decide +kernel
theorem k_145_164 : hm_code 145 164 = some (.getfield 81) := by decide +kernel
theorem k_145_167 : hm_code 145 167 = some (.iconst 1) := by decide +kernel
theorem k_145_168 : hm_code 145 168 = some (.iadd) := by decide +kernel
theorem k_145_169 : hm_code 145 169 = some (.putfield 81) := by decide +kernel
theorem k_145_172 : hm_code 145 172 = some (.iload 5) := by decide +kernel
theorem k_145_174 : hm_code 145 174 = some (.ireturn) := by decide +kernel
theorem m_146 : hm_mtab[146]? = some (⟨"HourPromisedModel", "isHour", "(I)Z"⟩, prog_10_method_5_code, 1, (some .boolean), 8, 1, 0) := rfl
theorem k_146_0 : hm_code 146 0 = some (.iload_n 0) := by decide +kernel
theorem k_146_1 : hm_code 146 1 = some (.i2l) := by decide +kernel
theorem k_146_2 : hm_code 146 2 = some (.lconst 0) := by decide +kernel
theorem k_146_3 : hm_code 146 3 = some (.ldc2_w 88) := by decide +kernel
theorem k_146_6 : hm_code 146 6 = some (.invokestatic 84) := by decide +kernel
theorem k_146_9 : hm_code 146 9 = some (.ireturn) := by decide +kernel
theorem m_147 : hm_mtab[147]? = some (⟨"HourPromisedModel", "paper", "(III)I"⟩, prog_10_method_39_code, 4, (some .int), 8, 4, 1) := rfl
theorem k_147_0 : hm_code 147 0 = some (.aload_n 0) := by decide +kernel
theorem k_147_1 : hm_code 147 1 = some (.iload_n 1) := by decide +kernel
theorem k_147_2 : hm_code 147 2 = some (.invokevirtual 213) := by decide +kernel
theorem k_147_5 : hm_code 147 5 = some (.ifCond .ne 7) := by decide +kernel
theorem k_147_8 : hm_code 147 8 = some (.sipush (-1001)) := by decide +kernel
theorem k_147_11 : hm_code 147 11 = some (.ireturn) := by decide +kernel
theorem k_147_12 : hm_code 147 12 = some (.iload_n 2) := by decide +kernel
theorem k_147_13 : hm_code 147 13 = some (.i2l) := by decide +kernel
theorem k_147_14 : hm_code 147 14 = some (.lconst 0) := by decide +kernel
theorem k_147_15 : hm_code 147 15 = some (.ldc2_w 216) := by decide +kernel
theorem k_147_18 : hm_code 147 18 = some (.invokestatic 84) := by decide +kernel
theorem k_147_21 : hm_code 147 21 = some (.ifCond .eq 17) := by decide +kernel
theorem k_147_24 : hm_code 147 24 = some (.iload_n 3) := by decide +kernel
theorem k_147_25 : hm_code 147 25 = some (.i2l) := by decide +kernel
theorem k_147_26 : hm_code 147 26 = some (.ldc2_w 218) := by decide +kernel
theorem k_147_29 : hm_code 147 29 = some (.ldc2_w 88) := by decide +kernel
theorem k_147_32 : hm_code 147 32 = some (.invokestatic 84) := by decide +kernel
theorem k_147_35 : hm_code 147 35 = some (.ifCond .ne 7) := by decide +kernel
theorem k_147_38 : hm_code 147 38 = some (.sipush (-1002)) := by decide +kernel
theorem k_147_41 : hm_code 147 41 = some (.ireturn) := by decide +kernel
theorem k_147_42 : hm_code 147 42 = some (.aload_n 0) := by decide +kernel
theorem k_147_43 : hm_code 147 43 = some (.getfield 44) := by decide +kernel
theorem k_147_46 : hm_code 147 46 = some (.bipush 6) := by decide +kernel
theorem k_147_48 : hm_code 147 48 = some (.iload_n 1) := by decide +kernel
theorem k_147_49 : hm_code 147 49 = some (.imul) := by decide +kernel
theorem k_147_50 : hm_code 147 50 = some (.iload_n 2) := by decide +kernel
theorem k_147_51 : hm_code 147 51 = some (.iadd) := by decide +kernel
theorem k_147_52 : hm_code 147 52 = some (.iload_n 3) := by decide +kernel
theorem k_147_53 : hm_code 147 53 = some (.iastore) := by decide +kernel
theorem k_147_54 : hm_code 147 54 = some (.aload_n 0) := by decide +kernel
theorem k_147_55 : hm_code 147 55 = some (.iload_n 1) := by decide +kernel
theorem k_147_56 : hm_code 147 56 = some (.iconst (-1)) := by decide +kernel
theorem k_147_57 : hm_code 147 57 = some (.invokevirtual 162) := by decide +kernel
theorem k_147_60 : hm_code 147 60 = some (.ireturn) := by decide +kernel
theorem m_148 : hm_mtab[148]? = some (⟨"HourPromisedModel", "isCase", "(I)Z"⟩, prog_10_method_4_code, 2, (some .boolean), 8, 2, 1) := rfl
theorem k_148_0 : hm_code 148 0 = some (.iload_n 1) := by decide +kernel
theorem k_148_1 : hm_code 148 1 = some (.i2l) := by decide +kernel
theorem k_148_2 : hm_code 148 2 = some (.lconst 0) := by decide +kernel
theorem k_148_3 : hm_code 148 3 = some (.aload_n 0) := by decide +kernel
theorem k_148_4 : hm_code 148 4 = some (.getfield 81) := by decide +kernel
theorem k_148_7 : hm_code 148 7 = some (.iconst 1) := by decide +kernel
theorem k_148_8 : hm_code 148 8 = some (.isub) := by decide +kernel
theorem k_148_9 : hm_code 148 9 = some (.i2l) := by decide +kernel
theorem k_148_10 : hm_code 148 10 = some (.invokestatic 84) := by decide +kernel
theorem k_148_13 : hm_code 148 13 = some (.ireturn) := by decide +kernel
theorem m_149 : hm_mtab[149]? = some (⟨"HourPromisedModel", "may", "(III)I"⟩, prog_10_method_40_code, 4, (some .int), 8, 4, 1) := rfl
theorem k_149_0 : hm_code 149 0 = some (.aload_n 0) := by decide +kernel
theorem k_149_1 : hm_code 149 1 = some (.iload_n 1) := by decide +kernel
theorem k_149_2 : hm_code 149 2 = some (.invokevirtual 213) := by decide +kernel
theorem k_149_5 : hm_code 149 5 = some (.ifCond .ne 7) := by decide +kernel
theorem k_149_8 : hm_code 149 8 = some (.sipush (-1001)) := by decide +kernel
theorem k_149_11 : hm_code 149 11 = some (.ireturn) := by decide +kernel
theorem k_149_12 : hm_code 149 12 = some (.iload_n 2) := by decide +kernel
theorem k_149_13 : hm_code 149 13 = some (.invokestatic 165) := by decide +kernel
theorem k_149_16 : hm_code 149 16 = some (.ifCond .eq 20) := by decide +kernel
theorem k_149_19 : hm_code 149 19 = some (.iload_n 3) := by decide +kernel
theorem k_149_20 : hm_code 149 20 = some (.invokestatic 205) := by decide +kernel
theorem k_149_23 : hm_code 149 23 = some (.ifCond .eq 13) := by decide +kernel
theorem k_149_26 : hm_code 149 26 = some (.aload_n 0) := by decide +kernel
theorem k_149_27 : hm_code 149 27 = some (.iload_n 1) := by decide +kernel
theorem k_149_28 : hm_code 149 28 = some (.iload_n 2) := by decide +kernel
theorem k_149_29 : hm_code 149 29 = some (.iload_n 3) := by decide +kernel
theorem k_149_30 : hm_code 149 30 = some (.invokevirtual 220) := by decide +kernel
theorem k_149_33 : hm_code 149 33 = some (.goto 6) := by decide +kernel
theorem k_149_36 : hm_code 149 36 = some (.sipush (-1002)) := by decide +kernel
theorem k_149_39 : hm_code 149 39 = some (.ireturn) := by decide +kernel
theorem m_150 : hm_mtab[150]? = some (⟨"HourPromisedModel", "mayBe", "(III)I"⟩, prog_10_method_34_code, 6, (some .int), 8, 4, 1) := rfl
theorem k_150_0 : hm_code 150 0 = some (.aload_n 0) := by decide +kernel
theorem k_150_1 : hm_code 150 1 = some (.iload_n 1) := by decide +kernel
theorem k_150_2 : hm_code 150 2 = some (.iload_n 2) := by decide +kernel
theorem k_150_3 : hm_code 150 3 = some (.invokevirtual 92) := by decide +kernel
theorem k_150_6 : hm_code 150 6 = some (.ifCond .lt 5) := by decide +kernel
theorem k_150_9 : hm_code 150 9 = some (.iconst 1) := by decide +kernel
theorem k_150_10 : hm_code 150 10 = some (.ireturn) := by decide +kernel
theorem k_150_11 : hm_code 150 11 = some (.aload_n 0) := by decide +kernel
theorem k_150_12 : hm_code 150 12 = some (.iload_n 1) := by decide +kernel
theorem k_150_13 : hm_code 150 13 = some (.iload_n 2) := by decide +kernel
theorem k_150_14 : hm_code 150 14 = some (.iload_n 3) := by decide +kernel
theorem k_150_15 : hm_code 150 15 = some (.invokevirtual 183) := by decide +kernel
theorem k_150_18 : hm_code 150 18 = some (.istore 4) := by decide +kernel
theorem k_150_20 : hm_code 150 20 = some (.iload 4) := by decide +kernel
theorem k_150_22 : hm_code 150 22 = some (.ifCond .le 6) := by decide +kernel
theorem k_150_25 : hm_code 150 25 = some (.iload 4) := by decide +kernel
theorem k_150_27 : hm_code 150 27 = some (.ireturn) := by decide +kernel
theorem k_150_28 : hm_code 150 28 = some (.aload_n 0) := by decide +kernel
theorem k_150_29 : hm_code 150 29 = some (.iload_n 1) := by decide +kernel
theorem k_150_30 : hm_code 150 30 = some (.iload_n 2) := by decide +kernel
theorem k_150_31 : hm_code 150 31 = some (.iload_n 3) := by decide +kernel
theorem k_150_32 : hm_code 150 32 = some (.invokevirtual 186) := by decide +kernel
theorem k_150_35 : hm_code 150 35 = some (.ifCond .eq 6) := by decide +kernel
theorem k_150_38 : hm_code 150 38 = some (.bipush 7) := by decide +kernel
theorem k_150_40 : hm_code 150 40 = some (.ireturn) := by decide +kernel
theorem k_150_41 : hm_code 150 41 = some (.iload_n 2) := by decide +kernel
theorem k_150_42 : hm_code 150 42 = some (.iconst 2) := by decide +kernel
theorem k_150_43 : hm_code 150 43 = some (.if_icmp .ne 12) := by decide +kernel
theorem k_150_46 : hm_code 150 46 = some (.aload_n 0) := by decide +kernel
theorem k_150_47 : hm_code 150 47 = some (.iload_n 1) := by decide +kernel
theorem k_150_48 : hm_code 150 48 = some (.iconst 3) := by decide +kernel
theorem k_150_49 : hm_code 150 49 = some (.invokevirtual 92) := by decide +kernel
theorem k_150_52 : hm_code 150 52 = some (.ifCond .ge 17) := by decide +kernel
theorem k_150_55 : hm_code 150 55 = some (.iload_n 2) := by decide +kernel
theorem k_150_56 : hm_code 150 56 = some (.iconst 3) := by decide +kernel
theorem k_150_57 : hm_code 150 57 = some (.if_icmp .ne 15) := by decide +kernel
theorem k_150_60 : hm_code 150 60 = some (.aload_n 0) := by decide +kernel
theorem k_150_61 : hm_code 150 61 = some (.iload_n 1) := by decide +kernel
theorem k_150_62 : hm_code 150 62 = some (.iconst 2) := by decide +kernel
theorem k_150_63 : hm_code 150 63 = some (.invokevirtual 92) := by decide +kernel
theorem k_150_66 : hm_code 150 66 = some (.ifCond .lt 6) := by decide +kernel
theorem k_150_69 : hm_code 150 69 = some (.bipush 8) := by decide +kernel
theorem k_150_71 : hm_code 150 71 = some (.ireturn) := by decide +kernel
theorem k_150_72 : hm_code 150 72 = some (.aload_n 0) := by decide +kernel
theorem k_150_73 : hm_code 150 73 = some (.iload_n 1) := by decide +kernel
theorem k_150_74 : hm_code 150 74 = some (.iload_n 3) := by decide +kernel
theorem k_150_75 : hm_code 150 75 = some (.invokevirtual 189) := by decide +kernel
theorem k_150_78 : hm_code 150 78 = some (.ifCond .eq 6) := by decide +kernel
theorem k_150_81 : hm_code 150 81 = some (.bipush 9) := by decide +kernel
theorem k_150_83 : hm_code 150 83 = some (.ireturn) := by decide +kernel
theorem k_150_84 : hm_code 150 84 = some (.aload_n 0) := by decide +kernel
theorem k_150_85 : hm_code 150 85 = some (.iload_n 3) := by decide +kernel
theorem k_150_86 : hm_code 150 86 = some (.invokevirtual 109) := by decide +kernel
theorem k_150_89 : hm_code 150 89 = some (.aload_n 0) := by decide +kernel
theorem k_150_90 : hm_code 150 90 = some (.getfield 7) := by decide +kernel
theorem k_150_93 : hm_code 150 93 = some (.iconst 0) := by decide +kernel
theorem k_150_94 : hm_code 150 94 = some (.iaload) := by decide +kernel
theorem k_150_95 : hm_code 150 95 = some (.if_icmp .lt 6) := by decide +kernel
theorem k_150_98 : hm_code 150 98 = some (.bipush 10) := by decide +kernel
theorem k_150_100 : hm_code 150 100 = some (.ireturn) := by decide +kernel
theorem k_150_101 : hm_code 150 101 = some (.aload_n 0) := by decide +kernel
theorem k_150_102 : hm_code 150 102 = some (.iload_n 1) := by decide +kernel
theorem k_150_103 : hm_code 150 103 = some (.iload_n 2) := by decide +kernel
theorem k_150_104 : hm_code 150 104 = some (.iload_n 3) := by decide +kernel
theorem k_150_105 : hm_code 150 105 = some (.invokevirtual 193) := by decide +kernel
theorem k_150_108 : hm_code 150 108 = some (.ifCond .eq 6) := by decide +kernel
theorem k_150_111 : hm_code 150 111 = some (.bipush 11) := by decide +kernel
theorem k_150_113 : hm_code 150 113 = some (.ireturn) := by decide +kernel
theorem k_150_114 : hm_code 150 114 = some (.iload_n 2) := by decide +kernel
theorem k_150_115 : hm_code 150 115 = some (.iconst 1) := by decide +kernel
theorem k_150_116 : hm_code 150 116 = some (.if_icmp .eq 8) := by decide +kernel
theorem k_150_119 : hm_code 150 119 = some (.iload_n 2) := by decide +kernel
theorem k_150_120 : hm_code 150 120 = some (.iconst 3) := by decide +kernel
theorem k_150_121 : hm_code 150 121 = some (.if_icmp .ne 53) := by decide +kernel
theorem k_150_124 : hm_code 150 124 = some (.aload_n 0) := by decide +kernel
theorem k_150_125 : hm_code 150 125 = some (.getfield 38) := by decide +kernel
theorem k_150_128 : hm_code 150 128 = some (.iload_n 1) := by decide +kernel
theorem k_150_129 : hm_code 150 129 = some (.iaload) := by decide +kernel
theorem k_150_130 : hm_code 150 130 = some (.ifCond .le 44) := by decide +kernel
theorem k_150_133 : hm_code 150 133 = some (.aload_n 0) := by decide +kernel
theorem k_150_134 : hm_code 150 134 = some (.getfield 47) := by decide +kernel
theorem k_150_137 : hm_code 150 137 = some (.iconst 4) := by decide +kernel
theorem k_150_138 : hm_code 150 138 = some (.iload_n 1) := by decide +kernel
theorem k_150_139 : hm_code 150 139 = some (.imul) := by decide +kernel
theorem k_150_140 : hm_code 150 140 = some (.iload_n 2) := by decide +kernel
theorem k_150_141 : hm_code 150 141 = some (.iadd) := by decide +kernel
theorem k_150_142 : hm_code 150 142 = some (.iload_n 3) := by decide +kernel
theorem k_150_143 : hm_code 150 143 = some (.iastore) := by decide +kernel
theorem k_150_144 : hm_code 150 144 = some (.aload_n 0) := by decide +kernel
theorem k_150_145 : hm_code 150 145 = some (.iload_n 3) := by decide +kernel
theorem k_150_146 : hm_code 150 146 = some (.invokevirtual 196) := by decide +kernel
theorem k_150_149 : hm_code 150 149 = some (.istore 5) := by decide +kernel
theorem k_150_151 : hm_code 150 151 = some (.aload_n 0) := by decide +kernel
theorem k_150_152 : hm_code 150 152 = some (.getfield 47) := by decide +kernel
theorem k_150_155 : hm_code 150 155 = some (.iconst 4) := by decide +kernel
theorem k_150_156 : hm_code 150 156 = some (.iload_n 1) := by decide +kernel
theorem k_150_157 : hm_code 150 157 = some (.imul) := by decide +kernel
theorem k_150_158 : hm_code 150 158 = some (.iload_n 2) := by decide +kernel
theorem k_150_159 : hm_code 150 159 = some (.iadd) := by decide +kernel
theorem k_150_160 : hm_code 150 160 = some (.iconst (-1)) := by decide +kernel
theorem k_150_161 : hm_code 150 161 = some (.iastore) := by decide +kernel
theorem k_150_162 : hm_code 150 162 = some (.iload 5) := by decide +kernel
theorem k_150_164 : hm_code 150 164 = some (.ifCond .eq 7) := by decide +kernel
theorem k_150_167 : hm_code 150 167 = some (.iconst 0) := by decide +kernel
theorem k_150_168 : hm_code 150 168 = some (.goto 5) := by decide +kernel
theorem k_150_171 : hm_code 150 171 = some (.bipush 12) := by decide +kernel
theorem k_150_173 : hm_code 150 173 = some (.ireturn) := by decide +kernel
theorem k_150_174 : hm_code 150 174 = some (.iconst 0) := by decide +kernel
theorem k_150_175 : hm_code 150 175 = some (.ireturn) := by decide +kernel
theorem m_151 : hm_mtab[151]? = some (⟨"HourPromisedModel", "isWantedLater", "(III)Z"⟩, prog_10_method_31_code, 6, (some .boolean), 8, 4, 1) := rfl
theorem k_151_0 : hm_code 151 0 = some (.iconst 0) := by decide +kernel
theorem k_151_1 : hm_code 151 1 = some (.istore 4) := by decide +kernel
theorem k_151_3 : hm_code 151 3 = some (.iconst 0) := by decide +kernel
theorem k_151_4 : hm_code 151 4 = some (.istore 5) := by decide +kernel
theorem k_151_6 : hm_code 151 6 = some (.iload 5) := by decide +kernel
theorem k_151_8 : hm_code 151 8 = some (.iconst 4) := by decide +kernel
theorem k_151_9 : hm_code 151 9 = some (.if_icmp .ge 58) := by decide +kernel
theorem k_151_12 : hm_code 151 12 = some (.iload 4) := by decide +kernel
theorem k_151_14 : hm_code 151 14 = some (.ifCond .ne 40) := by decide +kernel
theorem k_151_17 : hm_code 151 17 = some (.aload_n 0) := by decide +kernel
theorem k_151_18 : hm_code 151 18 = some (.iload_n 1) := by decide +kernel
theorem k_151_19 : hm_code 151 19 = some (.iload 5) := by decide +kernel
theorem k_151_21 : hm_code 151 21 = some (.invokevirtual 92) := by decide +kernel
theorem k_151_24 : hm_code 151 24 = some (.ifCond .lt 34) := by decide +kernel
theorem k_151_27 : hm_code 151 27 = some (.aload_n 0) := by decide +kernel
theorem k_151_28 : hm_code 151 28 = some (.iload_n 1) := by decide +kernel
theorem k_151_29 : hm_code 151 29 = some (.iload 5) := by decide +kernel
theorem k_151_31 : hm_code 151 31 = some (.invokevirtual 92) := by decide +kernel
theorem k_151_34 : hm_code 151 34 = some (.iload_n 3) := by decide +kernel
theorem k_151_35 : hm_code 151 35 = some (.if_icmp .gt 23) := by decide +kernel
theorem k_151_38 : hm_code 151 38 = some (.aload_n 0) := by decide +kernel
theorem k_151_39 : hm_code 151 39 = some (.iload_n 1) := by decide +kernel
theorem k_151_40 : hm_code 151 40 = some (.iload 5) := by decide +kernel
theorem k_151_42 : hm_code 151 42 = some (.iconst 4) := by decide +kernel
theorem k_151_43 : hm_code 151 43 = some (.invokevirtual 169) := by decide +kernel
theorem k_151_46 : hm_code 151 46 = some (.iload_n 2) := by decide +kernel
theorem k_151_47 : hm_code 151 47 = some (.ishr) := by decide +kernel
theorem k_151_48 : hm_code 151 48 = some (.iconst 1) := by decide +kernel
theorem k_151_49 : hm_code 151 49 = some (.iand) := by decide +kernel
theorem k_151_50 : hm_code 151 50 = some (.iconst 1) := by decide +kernel
theorem k_151_51 : hm_code 151 51 = some (.if_icmp .ne 7) := by decide +kernel
theorem k_151_54 : hm_code 151 54 = some (.iconst 1) := by decide +kernel
theorem k_151_55 : hm_code 151 55 = some (.goto 4) := by decide +kernel
theorem k_151_58 : hm_code 151 58 = some (.iconst 0) := by decide +kernel
theorem k_151_59 : hm_code 151 59 = some (.istore 4) := by decide +kernel
theorem k_151_61 : hm_code 151 61 = some (.iinc 5 1) := by decide +kernel
theorem k_151_64 : hm_code 151 64 = some (.goto (-58)) := by decide +kernel
theorem k_151_67 : hm_code 151 67 = some (.iload 4) := by decide +kernel
theorem k_151_69 : hm_code 151 69 = some (.ireturn) := by decide +kernel
theorem m_152 : hm_mtab[152]? = some (⟨"HourPromisedModel", "isBusy", "(II)Z"⟩, prog_10_method_32_code, 5, (some .boolean), 8, 3, 1) := rfl
theorem k_152_0 : hm_code 152 0 = some (.iconst 0) := by decide +kernel
theorem k_152_1 : hm_code 152 1 = some (.istore_n 3) := by decide +kernel
theorem k_152_2 : hm_code 152 2 = some (.iconst 0) := by decide +kernel
theorem k_152_3 : hm_code 152 3 = some (.istore 4) := by decide +kernel
theorem k_152_5 : hm_code 152 5 = some (.iload 4) := by decide +kernel
theorem k_152_7 : hm_code 152 7 = some (.iconst 4) := by decide +kernel
theorem k_152_8 : hm_code 152 8 = some (.if_icmp .ge 30) := by decide +kernel
theorem k_152_11 : hm_code 152 11 = some (.iload_n 3) := by decide +kernel
theorem k_152_12 : hm_code 152 12 = some (.ifCond .ne 14) := by decide +kernel
theorem k_152_15 : hm_code 152 15 = some (.aload_n 0) := by decide +kernel
theorem k_152_16 : hm_code 152 16 = some (.iload_n 1) := by decide +kernel
theorem k_152_17 : hm_code 152 17 = some (.iload 4) := by decide +kernel
theorem k_152_19 : hm_code 152 19 = some (.invokevirtual 92) := by decide +kernel
theorem k_152_22 : hm_code 152 22 = some (.iload_n 2) := by decide +kernel
theorem k_152_23 : hm_code 152 23 = some (.if_icmp .ne 7) := by decide +kernel
theorem k_152_26 : hm_code 152 26 = some (.iconst 1) := by decide +kernel
theorem k_152_27 : hm_code 152 27 = some (.goto 4) := by decide +kernel
theorem k_152_30 : hm_code 152 30 = some (.iconst 0) := by decide +kernel
theorem k_152_31 : hm_code 152 31 = some (.istore_n 3) := by decide +kernel
theorem k_152_32 : hm_code 152 32 = some (.iinc 4 1) := by decide +kernel
theorem k_152_35 : hm_code 152 35 = some (.goto (-30)) := by decide +kernel
theorem k_152_38 : hm_code 152 38 = some (.iload_n 3) := by decide +kernel
theorem k_152_39 : hm_code 152 39 = some (.ireturn) := by decide +kernel
theorem m_153 : hm_mtab[153]? = some (⟨"HourPromisedModel", "placeMiss", "(III)Z"⟩, prog_10_method_33_code, 6, (some .boolean), 8, 4, 1) := rfl
theorem k_153_0 : hm_code 153 0 = some (.iload_n 2) := by decide +kernel
theorem k_153_1 : hm_code 153 1 = some (.iconst 1) := by decide +kernel
theorem k_153_2 : hm_code 153 2 = some (.if_icmp .ne 23) := by decide +kernel
theorem k_153_5 : hm_code 153 5 = some (.aload_n 0) := by decide +kernel
theorem k_153_6 : hm_code 153 6 = some (.iload_n 3) := by decide +kernel
theorem k_153_7 : hm_code 153 7 = some (.iconst 1) := by decide +kernel
theorem k_153_8 : hm_code 153 8 = some (.invokevirtual 96) := by decide +kernel
theorem k_153_11 : hm_code 153 11 = some (.aload_n 0) := by decide +kernel
theorem k_153_12 : hm_code 153 12 = some (.iload_n 3) := by decide +kernel
theorem k_153_13 : hm_code 153 13 = some (.invokevirtual 117) := by decide +kernel
theorem k_153_16 : hm_code 153 16 = some (.if_icmp .lt 7) := by decide +kernel
theorem k_153_19 : hm_code 153 19 = some (.iconst 1) := by decide +kernel
theorem k_153_20 : hm_code 153 20 = some (.goto 4) := by decide +kernel
theorem k_153_23 : hm_code 153 23 = some (.iconst 0) := by decide +kernel
theorem k_153_24 : hm_code 153 24 = some (.ireturn) := by decide +kernel
theorem k_153_25 : hm_code 153 25 = some (.iload_n 2) := by decide +kernel
theorem k_153_26 : hm_code 153 26 = some (.iconst 2) := by decide +kernel
theorem k_153_27 : hm_code 153 27 = some (.if_icmp .ne 24) := by decide +kernel
theorem k_153_30 : hm_code 153 30 = some (.aload_n 0) := by decide +kernel
theorem k_153_31 : hm_code 153 31 = some (.iload_n 3) := by decide +kernel
theorem k_153_32 : hm_code 153 32 = some (.iconst 2) := by decide +kernel
theorem k_153_33 : hm_code 153 33 = some (.invokevirtual 96) := by decide +kernel
theorem k_153_36 : hm_code 153 36 = some (.aload_n 0) := by decide +kernel
theorem k_153_37 : hm_code 153 37 = some (.getfield 7) := by decide +kernel
theorem k_153_40 : hm_code 153 40 = some (.iconst 1) := by decide +kernel
theorem k_153_41 : hm_code 153 41 = some (.iaload) := by decide +kernel
theorem k_153_42 : hm_code 153 42 = some (.if_icmp .lt 7) := by decide +kernel
theorem k_153_45 : hm_code 153 45 = some (.iconst 1) := by decide +kernel
theorem k_153_46 : hm_code 153 46 = some (.goto 4) := by decide +kernel
theorem k_153_49 : hm_code 153 49 = some (.iconst 0) := by decide +kernel
theorem k_153_50 : hm_code 153 50 = some (.ireturn) := by decide +kernel
theorem k_153_51 : hm_code 153 51 = some (.iconst 0) := by decide +kernel
theorem k_153_52 : hm_code 153 52 = some (.istore 4) := by decide +kernel
theorem k_153_54 : hm_code 153 54 = some (.iload_n 3) := by decide +kernel
theorem k_153_55 : hm_code 153 55 = some (.istore 5) := by decide +kernel
theorem k_153_57 : hm_code 153 57 = some (.iload 5) := by decide +kernel
theorem k_153_59 : hm_code 153 59 = some (.aload_n 0) := by decide +kernel
theorem k_153_60 : hm_code 153 60 = some (.iload_n 1) := by decide +kernel
theorem k_153_61 : hm_code 153 61 = some (.invokevirtual 99) := by decide +kernel
theorem k_153_64 : hm_code 153 64 = some (.if_icmp .gt 40) := by decide +kernel
theorem k_153_67 : hm_code 153 67 = some (.iload_n 2) := by decide +kernel
theorem k_153_68 : hm_code 153 68 = some (.ifCond .ne 36) := by decide +kernel
theorem k_153_71 : hm_code 153 71 = some (.iload 4) := by decide +kernel
theorem k_153_73 : hm_code 153 73 = some (.ifCond .ne 18) := by decide +kernel
theorem k_153_76 : hm_code 153 76 = some (.aload_n 0) := by decide +kernel
theorem k_153_77 : hm_code 153 77 = some (.iload 5) := by decide +kernel
theorem k_153_79 : hm_code 153 79 = some (.invokevirtual 112) := by decide +kernel
theorem k_153_82 : hm_code 153 82 = some (.aload_n 0) := by decide +kernel
theorem k_153_83 : hm_code 153 83 = some (.getfield 7) := by decide +kernel
theorem k_153_86 : hm_code 153 86 = some (.iconst 2) := by decide +kernel
theorem k_153_87 : hm_code 153 87 = some (.iaload) := by decide +kernel
theorem k_153_88 : hm_code 153 88 = some (.if_icmp .lt 7) := by decide +kernel
theorem k_153_91 : hm_code 153 91 = some (.iconst 1) := by decide +kernel
theorem k_153_92 : hm_code 153 92 = some (.goto 4) := by decide +kernel
theorem k_153_95 : hm_code 153 95 = some (.iconst 0) := by decide +kernel
theorem k_153_96 : hm_code 153 96 = some (.istore 4) := by decide +kernel
theorem k_153_98 : hm_code 153 98 = some (.iinc 5 1) := by decide +kernel
theorem k_153_101 : hm_code 153 101 = some (.goto (-44)) := by decide +kernel
theorem k_153_104 : hm_code 153 104 = some (.iload 4) := by decide +kernel
theorem k_153_106 : hm_code 153 106 = some (.ireturn) := by decide +kernel
theorem m_154 : hm_mtab[154]? = some (⟨"HourPromisedModel", "findSets", "(I)Z"⟩, prog_10_method_36_code, 4, (some .boolean), 8, 2, 1) := rfl
theorem k_154_0 : hm_code 154 0 = some (.aload_n 0) := by decide +kernel
theorem k_154_1 : hm_code 154 1 = some (.iconst 0) := by decide +kernel
theorem k_154_2 : hm_code 154 2 = some (.putfield 199) := by decide +kernel
theorem k_154_5 : hm_code 154 5 = some (.iconst 0) := by decide +kernel
theorem k_154_6 : hm_code 154 6 = some (.istore_n 2) := by decide +kernel
theorem k_154_7 : hm_code 154 7 = some (.iload_n 2) := by decide +kernel
theorem k_154_8 : hm_code 154 8 = some (.iconst 4) := by decide +kernel
theorem k_154_9 : hm_code 154 9 = some (.aload_n 0) := by decide +kernel
theorem k_154_10 : hm_code 154 10 = some (.getfield 81) := by decide +kernel
theorem k_154_13 : hm_code 154 13 = some (.imul) := by decide +kernel
theorem k_154_14 : hm_code 154 14 = some (.if_icmp .ge 99) := by decide +kernel
theorem k_154_17 : hm_code 154 17 = some (.iload_n 2) := by decide +kernel
theorem k_154_18 : hm_code 154 18 = some (.iconst 4) := by decide +kernel
theorem k_154_19 : hm_code 154 19 = some (.irem) := by decide +kernel
theorem k_154_20 : hm_code 154 20 = some (.iconst 1) := by decide +kernel
theorem k_154_21 : hm_code 154 21 = some (.if_icmp .eq 10) := by decide +kernel
theorem k_154_24 : hm_code 154 24 = some (.iload_n 2) := by decide +kernel
theorem k_154_25 : hm_code 154 25 = some (.iconst 4) := by decide +kernel
theorem k_154_26 : hm_code 154 26 = some (.irem) := by decide +kernel
theorem k_154_27 : hm_code 154 27 = some (.iconst 3) := by decide +kernel
theorem k_154_28 : hm_code 154 28 = some (.if_icmp .ne 79) := by decide +kernel
theorem k_154_31 : hm_code 154 31 = some (.aload_n 0) := by decide +kernel
theorem k_154_32 : hm_code 154 32 = some (.getfield 47) := by decide +kernel
theorem k_154_35 : hm_code 154 35 = some (.iload_n 2) := by decide +kernel
theorem k_154_36 : hm_code 154 36 = some (.iaload) := by decide +kernel
theorem k_154_37 : hm_code 154 37 = some (.iload_n 1) := by decide +kernel
theorem k_154_38 : hm_code 154 38 = some (.if_icmp .ne 69) := by decide +kernel
theorem k_154_41 : hm_code 154 41 = some (.aload_n 0) := by decide +kernel
theorem k_154_42 : hm_code 154 42 = some (.getfield 38) := by decide +kernel
theorem k_154_45 : hm_code 154 45 = some (.iload_n 2) := by decide +kernel
theorem k_154_46 : hm_code 154 46 = some (.iconst 4) := by decide +kernel
theorem k_154_47 : hm_code 154 47 = some (.idiv) := by decide +kernel
theorem k_154_48 : hm_code 154 48 = some (.iaload) := by decide +kernel
theorem k_154_49 : hm_code 154 49 = some (.ifCond .le 58) := by decide +kernel
theorem k_154_52 : hm_code 154 52 = some (.aload_n 0) := by decide +kernel
theorem k_154_53 : hm_code 154 53 = some (.getfield 199) := by decide +kernel
theorem k_154_56 : hm_code 154 56 = some (.bipush 8) := by decide +kernel
theorem k_154_58 : hm_code 154 58 = some (.if_icmp .ne 5) := by decide +kernel
theorem k_154_61 : hm_code 154 61 = some (.iconst 0) := by decide +kernel
theorem k_154_62 : hm_code 154 62 = some (.ireturn) := by decide +kernel
theorem k_154_63 : hm_code 154 63 = some (.aload_n 0) := by decide +kernel
theorem k_154_64 : hm_code 154 64 = some (.getfield 66) := by decide +kernel
theorem k_154_67 : hm_code 154 67 = some (.aload_n 0) := by decide +kernel
theorem k_154_68 : hm_code 154 68 = some (.getfield 199) := by decide +kernel
theorem k_154_71 : hm_code 154 71 = some (.iload_n 2) := by decide +kernel
theorem k_154_72 : hm_code 154 72 = some (.iastore) := by decide +kernel
theorem k_154_73 : hm_code 154 73 = some (.aload_n 0) := by decide +kernel
theorem k_154_74 : hm_code 154 74 = some (.getfield 69) := by decide +kernel
theorem k_154_77 : hm_code 154 77 = some (.aload_n 0) := by decide +kernel
theorem k_154_78 : hm_code 154 78 = some (.getfield 199) := by decide +kernel
theorem k_154_81 : hm_code 154 81 = some (.aload_n 0) := by decide +kernel
theorem k_154_82 : hm_code 154 82 = some (.iload_n 2) := by decide +kernel
theorem k_154_83 : hm_code 154 83 = some (.iconst 4) := by decide +kernel
theorem k_154_84 : hm_code 154 84 = some (.idiv) := by decide +kernel
theorem k_154_85 : hm_code 154 85 = some (.sipush 924) := by decide +kernel
theorem k_154_88 : hm_code 154 88 = some (.aload_n 0) := by decide +kernel
theorem k_154_89 : hm_code 154 89 = some (.getfield 199) := by decide +kernel
theorem k_154_92 : hm_code 154 92 = some (.imul) := by decide +kernel
theorem k_154_93 : hm_code 154 93 = some (.invokevirtual 202) := by decide +kernel
theorem k_154_96 : hm_code 154 96 = some (.iastore) := by decide +kernel
theorem k_154_97 : hm_code 154 97 = some (.aload_n 0) := by decide +kernel
theorem k_154_98 : hm_code 154 98 = some (.dup) := by decide +kernel
theorem k_154_99 : hm_code 154 99 = some (.getfield 199) := by decide +kernel
theorem k_154_102 : hm_code 154 102 = some (.iconst 1) := by decide +kernel
theorem k_154_103 : hm_code 154 103 = some (.iadd) := by decide +kernel
theorem k_154_104 : hm_code 154 104 = some (.putfield 199) := by decide +kernel
theorem k_154_107 : hm_code 154 107 = some (.iinc 2 1) := by decide +kernel
theorem k_154_110 : hm_code 154 110 = some (.goto (-103)) := by decide +kernel
theorem k_154_113 : hm_code 154 113 = some (.iconst 0) := by decide +kernel
theorem k_154_114 : hm_code 154 114 = some (.istore_n 2) := by decide +kernel
theorem k_154_115 : hm_code 154 115 = some (.iconst 0) := by decide +kernel
theorem k_154_116 : hm_code 154 116 = some (.istore_n 3) := by decide +kernel
theorem k_154_117 : hm_code 154 117 = some (.aload_n 0) := by decide +kernel
theorem k_154_118 : hm_code 154 118 = some (.getfield 75) := by decide +kernel
theorem k_154_121 : hm_code 154 121 = some (.iconst 0) := by decide +kernel
theorem k_154_122 : hm_code 154 122 = some (.iconst (-1)) := by decide +kernel
theorem k_154_123 : hm_code 154 123 = some (.iastore) := by decide +kernel
theorem k_154_124 : hm_code 154 124 = some (.iload_n 2) := by decide +kernel
theorem k_154_125 : hm_code 154 125 = some (.ifCond .lt 164) := by decide +kernel
theorem k_154_128 : hm_code 154 128 = some (.iload_n 2) := by decide +kernel
theorem k_154_129 : hm_code 154 129 = some (.aload_n 0) := by decide +kernel
theorem k_154_130 : hm_code 154 130 = some (.getfield 199) := by decide +kernel
theorem k_154_133 : hm_code 154 133 = some (.if_icmp .ge 156) := by decide +kernel
theorem k_154_136 : hm_code 154 136 = some (.aload_n 0) := by decide +kernel
theorem k_154_137 : hm_code 154 137 = some (.getfield 75) := by decide +kernel
theorem k_154_140 : hm_code 154 140 = some (.iload_n 2) := by decide +kernel
theorem k_154_141 : hm_code 154 141 = some (.iaload) := by decide +kernel
theorem k_154_142 : hm_code 154 142 = some (.ifCond .lt 25) := by decide +kernel
theorem k_154_145 : hm_code 154 145 = some (.iload_n 3) := by decide +kernel
theorem k_154_146 : hm_code 154 146 = some (.aload_n 0) := by decide +kernel
theorem k_154_147 : hm_code 154 147 = some (.getfield 72) := by decide +kernel
theorem k_154_150 : hm_code 154 150 = some (.sipush 924) := by decide +kernel
theorem k_154_153 : hm_code 154 153 = some (.iload_n 2) := by decide +kernel
theorem k_154_154 : hm_code 154 154 = some (.imul) := by decide +kernel
theorem k_154_155 : hm_code 154 155 = some (.aload_n 0) := by decide +kernel
theorem k_154_156 : hm_code 154 156 = some (.getfield 75) := by decide +kernel
theorem k_154_159 : hm_code 154 159 = some (.iload_n 2) := by decide +kernel
theorem k_154_160 : hm_code 154 160 = some (.iaload) := by decide +kernel
theorem k_154_161 : hm_code 154 161 = some (.iadd) := by decide +kernel
theorem k_154_162 : hm_code 154 162 = some (.iaload) := by decide +kernel
theorem k_154_163 : hm_code 154 163 = some (.iconst (-1)) := by decide +kernel
theorem k_154_164 : hm_code 154 164 = some (.ixor) := by decide +kernel
theorem k_154_165 : hm_code 154 165 = some (.iand) := by decide +kernel
theorem k_154_166 : hm_code 154 166 = some (.istore_n 3) := by decide +kernel
theorem k_154_167 : hm_code 154 167 = some (.aload_n 0) := by decide +kernel
theorem k_154_168 : hm_code 154 168 = some (.getfield 75) := by decide +kernel
theorem k_154_171 : hm_code 154 171 = some (.iload_n 2) := by decide +kernel
theorem k_154_172 : hm_code 154 172 = some (.dup2) := by decide +kernel
theorem k_154_173 : hm_code 154 173 = some (.iaload) := by decide +kernel
theorem k_154_174 : hm_code 154 174 = some (.iconst 1) := by decide +kernel
theorem k_154_175 : hm_code 154 175 = some (.iadd) := by decide +kernel
theorem k_154_176 : hm_code 154 176 = some (.iastore) := by decide +kernel
theorem k_154_177 : hm_code 154 177 = some (.aload_n 0) := by decide +kernel
theorem k_154_178 : hm_code 154 178 = some (.getfield 75) := by decide +kernel
theorem k_154_181 : hm_code 154 181 = some (.iload_n 2) := by decide +kernel
theorem k_154_182 : hm_code 154 182 = some (.iaload) := by decide +kernel
theorem k_154_183 : hm_code 154 183 = some (.aload_n 0) := by decide +kernel
theorem k_154_184 : hm_code 154 184 = some (.getfield 69) := by decide +kernel
theorem k_154_187 : hm_code 154 187 = some (.iload_n 2) := by decide +kernel
theorem k_154_188 : hm_code 154 188 = some (.iaload) := by decide +kernel
theorem k_154_189 : hm_code 154 189 = some (.if_icmp .ge 38) := by decide +kernel
theorem k_154_192 : hm_code 154 192 = some (.aload_n 0) := by decide +kernel
theorem k_154_193 : hm_code 154 193 = some (.getfield 72) := by decide +kernel
theorem k_154_196 : hm_code 154 196 = some (.sipush 924) := by decide +kernel
theorem k_154_199 : hm_code 154 199 = some (.iload_n 2) := by decide +kernel
theorem k_154_200 : hm_code 154 200 = some (.imul) := by decide +kernel
theorem k_154_201 : hm_code 154 201 = some (.aload_n 0) := by decide +kernel
theorem k_154_202 : hm_code 154 202 = some (.getfield 75) := by decide +kernel
theorem k_154_205 : hm_code 154 205 = some (.iload_n 2) := by decide +kernel
theorem k_154_206 : hm_code 154 206 = some (.iaload) := by decide +kernel
theorem k_154_207 : hm_code 154 207 = some (.iadd) := by decide +kernel
theorem k_154_208 : hm_code 154 208 = some (.iaload) := by decide +kernel
theorem k_154_209 : hm_code 154 209 = some (.iload_n 3) := by decide +kernel
theorem k_154_210 : hm_code 154 210 = some (.iand) := by decide +kernel
theorem k_154_211 : hm_code 154 211 = some (.ifCond .eq 16) := by decide +kernel
theorem k_154_214 : hm_code 154 214 = some (.aload_n 0) := by decide +kernel
theorem k_154_215 : hm_code 154 215 = some (.getfield 75) := by decide +kernel
theorem k_154_218 : hm_code 154 218 = some (.iload_n 2) := by decide +kernel
theorem k_154_219 : hm_code 154 219 = some (.dup2) := by decide +kernel
theorem k_154_220 : hm_code 154 220 = some (.iaload) := by decide +kernel
theorem k_154_221 : hm_code 154 221 = some (.iconst 1) := by decide +kernel
theorem k_154_222 : hm_code 154 222 = some (.iadd) := by decide +kernel
theorem k_154_223 : hm_code 154 223 = some (.iastore) := by decide +kernel
theorem k_154_224 : hm_code 154 224 = some (.goto (-47)) := by decide +kernel
theorem k_154_227 : hm_code 154 227 = some (.aload_n 0) := by decide +kernel
theorem k_154_228 : hm_code 154 228 = some (.getfield 75) := by decide +kernel
theorem k_154_231 : hm_code 154 231 = some (.iload_n 2) := by decide +kernel
theorem k_154_232 : hm_code 154 232 = some (.iaload) := by decide +kernel
theorem k_154_233 : hm_code 154 233 = some (.aload_n 0) := by decide +kernel
theorem k_154_234 : hm_code 154 234 = some (.getfield 69) := by decide +kernel
theorem k_154_237 : hm_code 154 237 = some (.iload_n 2) := by decide +kernel
theorem k_154_238 : hm_code 154 238 = some (.iaload) := by decide +kernel
theorem k_154_239 : hm_code 154 239 = some (.if_icmp .ne 9) := by decide +kernel
theorem k_154_242 : hm_code 154 242 = some (.iinc 2 (-1)) := by decide +kernel
theorem k_154_245 : hm_code 154 245 = some (.goto (-121)) := by decide +kernel
theorem k_154_248 : hm_code 154 248 = some (.iload_n 3) := by decide +kernel
theorem k_154_249 : hm_code 154 249 = some (.aload_n 0) := by decide +kernel
theorem k_154_250 : hm_code 154 250 = some (.getfield 72) := by decide +kernel
theorem k_154_253 : hm_code 154 253 = some (.sipush 924) := by decide +kernel
theorem k_154_256 : hm_code 154 256 = some (.iload_n 2) := by decide +kernel
theorem k_154_257 : hm_code 154 257 = some (.imul) := by decide +kernel
theorem k_154_258 : hm_code 154 258 = some (.aload_n 0) := by decide +kernel
theorem k_154_259 : hm_code 154 259 = some (.getfield 75) := by decide +kernel
theorem k_154_262 : hm_code 154 262 = some (.iload_n 2) := by decide +kernel
theorem k_154_263 : hm_code 154 263 = some (.iaload) := by decide +kernel
theorem k_154_264 : hm_code 154 264 = some (.iadd) := by decide +kernel
theorem k_154_265 : hm_code 154 265 = some (.iaload) := by decide +kernel
theorem k_154_266 : hm_code 154 266 = some (.ior) := by decide +kernel
theorem k_154_267 : hm_code 154 267 = some (.istore_n 3) := by decide +kernel
theorem k_154_268 : hm_code 154 268 = some (.iinc 2 1) := by decide +kernel
theorem k_154_271 : hm_code 154 271 = some (.iload_n 2) := by decide +kernel
theorem k_154_272 : hm_code 154 272 = some (.aload_n 0) := by decide +kernel
theorem k_154_273 : hm_code 154 273 = some (.getfield 199) := by decide +kernel
theorem k_154_276 : hm_code 154 276 = some (.if_icmp .ge (-152)) := by decide +kernel
theorem k_154_279 : hm_code 154 279 = some (.aload_n 0) := by decide +kernel
theorem k_154_280 : hm_code 154 280 = some (.getfield 75) := by decide +kernel
theorem k_154_283 : hm_code 154 283 = some (.iload_n 2) := by decide +kernel
theorem k_154_284 : hm_code 154 284 = some (.iconst (-1)) := by decide +kernel
theorem k_154_285 : hm_code 154 285 = some (.iastore) := by decide +kernel
theorem k_154_286 : hm_code 154 286 = some (.goto (-162)) := by decide +kernel
theorem k_154_289 : hm_code 154 289 = some (.iload_n 2) := by decide +kernel
theorem k_154_290 : hm_code 154 290 = some (.aload_n 0) := by decide +kernel
theorem k_154_291 : hm_code 154 291 = some (.getfield 199) := by decide +kernel
theorem k_154_294 : hm_code 154 294 = some (.if_icmp .ne 7) := by decide +kernel
theorem k_154_297 : hm_code 154 297 = some (.iconst 1) := by decide +kernel
theorem k_154_298 : hm_code 154 298 = some (.goto 4) := by decide +kernel
theorem k_154_301 : hm_code 154 301 = some (.iconst 0) := by decide +kernel
theorem k_154_302 : hm_code 154 302 = some (.ireturn) := by decide +kernel
theorem m_155 : hm_mtab[155]? = some (⟨"HourPromisedModel", "listSets", "(II)I"⟩, prog_10_method_35_code, 11, (some .int), 8, 3, 1) := rfl
theorem k_155_0 : hm_code 155 0 = some (.aload_n 0) := by decide +kernel
theorem k_155_1 : hm_code 155 1 = some (.getfield 38) := by decide +kernel
theorem k_155_4 : hm_code 155 4 = some (.iload_n 1) := by decide +kernel
theorem k_155_5 : hm_code 155 5 = some (.iaload) := by decide +kernel
theorem k_155_6 : hm_code 155 6 = some (.istore_n 3) := by decide +kernel
theorem k_155_7 : hm_code 155 7 = some (.iconst 0) := by decide +kernel
theorem k_155_8 : hm_code 155 8 = some (.istore 4) := by decide +kernel
theorem k_155_10 : hm_code 155 10 = some (.iload_n 3) := by decide +kernel
theorem k_155_11 : hm_code 155 11 = some (.aload_n 0) := by decide +kernel
theorem k_155_12 : hm_code 155 12 = some (.getfield 124) := by decide +kernel
theorem k_155_15 : hm_code 155 15 = some (.if_icmp .le 5) := by decide +kernel
theorem k_155_18 : hm_code 155 18 = some (.iconst 0) := by decide +kernel
theorem k_155_19 : hm_code 155 19 = some (.ireturn) := by decide +kernel
theorem k_155_20 : hm_code 155 20 = some (.iconst 0) := by decide +kernel
theorem k_155_21 : hm_code 155 21 = some (.istore 5) := by decide +kernel
theorem k_155_23 : hm_code 155 23 = some (.iload 5) := by decide +kernel
theorem k_155_25 : hm_code 155 25 = some (.iload_n 3) := by decide +kernel
theorem k_155_26 : hm_code 155 26 = some (.if_icmp .ge 18) := by decide +kernel
theorem k_155_29 : hm_code 155 29 = some (.aload_n 0) := by decide +kernel
theorem k_155_30 : hm_code 155 30 = some (.getfield 78) := by decide +kernel
theorem k_155_33 : hm_code 155 33 = some (.iload 5) := by decide +kernel
theorem k_155_35 : hm_code 155 35 = some (.iload 5) := by decide +kernel
theorem k_155_37 : hm_code 155 37 = some (.iastore) := by decide +kernel
theorem k_155_38 : hm_code 155 38 = some (.iinc 5 1) := by decide +kernel
theorem k_155_41 : hm_code 155 41 = some (.goto (-18)) := by decide +kernel
theorem k_155_44 : hm_code 155 44 = some (.iconst 1) := by decide +kernel
theorem k_155_45 : hm_code 155 45 = some (.istore 5) := by decide +kernel
theorem k_155_47 : hm_code 155 47 = some (.iload 5) := by decide +kernel
theorem k_155_49 : hm_code 155 49 = some (.ifCond .eq 219) := by decide +kernel
theorem k_155_52 : hm_code 155 52 = some (.sipush 999) := by decide +kernel
theorem k_155_55 : hm_code 155 55 = some (.istore 6) := by decide +kernel
theorem k_155_57 : hm_code 155 57 = some (.iconst 0) := by decide +kernel
theorem k_155_58 : hm_code 155 58 = some (.istore 7) := by decide +kernel
theorem k_155_60 : hm_code 155 60 = some (.iconst 0) := by decide +kernel
theorem k_155_61 : hm_code 155 61 = some (.istore 8) := by decide +kernel
theorem k_155_63 : hm_code 155 63 = some (.iconst 0) := by decide +kernel
theorem k_155_64 : hm_code 155 64 = some (.istore 9) := by decide +kernel
theorem k_155_66 : hm_code 155 66 = some (.iload 9) := by decide +kernel
theorem k_155_68 : hm_code 155 68 = some (.iload_n 3) := by decide +kernel
theorem k_155_69 : hm_code 155 69 = some (.if_icmp .ge 69) := by decide +kernel
theorem k_155_72 : hm_code 155 72 = some (.aload_n 0) := by decide +kernel
theorem k_155_73 : hm_code 155 73 = some (.getfield 16) := by decide +kernel
theorem k_155_76 : hm_code 155 76 = some (.aload_n 0) := by decide +kernel
theorem k_155_77 : hm_code 155 77 = some (.getfield 78) := by decide +kernel
theorem k_155_80 : hm_code 155 80 = some (.iload 9) := by decide +kernel
theorem k_155_82 : hm_code 155 82 = some (.iaload) := by decide +kernel
theorem k_155_83 : hm_code 155 83 = some (.iaload) := by decide +kernel
theorem k_155_84 : hm_code 155 84 = some (.istore 10) := by decide +kernel
theorem k_155_86 : hm_code 155 86 = some (.iload 10) := by decide +kernel
theorem k_155_88 : hm_code 155 88 = some (.iload 6) := by decide +kernel
theorem k_155_90 : hm_code 155 90 = some (.if_icmp .ge 8) := by decide +kernel
theorem k_155_93 : hm_code 155 93 = some (.iload 10) := by decide +kernel
theorem k_155_95 : hm_code 155 95 = some (.goto 5) := by decide +kernel
theorem k_155_98 : hm_code 155 98 = some (.iload 6) := by decide +kernel
theorem k_155_100 : hm_code 155 100 = some (.istore 6) := by decide +kernel
theorem k_155_102 : hm_code 155 102 = some (.iload 10) := by decide +kernel
theorem k_155_104 : hm_code 155 104 = some (.iload 7) := by decide +kernel
theorem k_155_106 : hm_code 155 106 = some (.if_icmp .le 8) := by decide +kernel
theorem k_155_109 : hm_code 155 109 = some (.iload 10) := by decide +kernel
theorem k_155_111 : hm_code 155 111 = some (.goto 5) := by decide +kernel
theorem k_155_114 : hm_code 155 114 = some (.iload 7) := by decide +kernel
theorem k_155_116 : hm_code 155 116 = some (.istore 7) := by decide +kernel
theorem k_155_118 : hm_code 155 118 = some (.iload 8) := by decide +kernel
theorem k_155_120 : hm_code 155 120 = some (.iconst 1) := by decide +kernel
theorem k_155_121 : hm_code 155 121 = some (.aload_n 0) := by decide +kernel
theorem k_155_122 : hm_code 155 122 = some (.getfield 78) := by decide +kernel
theorem k_155_125 : hm_code 155 125 = some (.iload 9) := by decide +kernel
theorem k_155_127 : hm_code 155 127 = some (.iaload) := by decide +kernel
theorem k_155_128 : hm_code 155 128 = some (.ishl) := by decide +kernel
theorem k_155_129 : hm_code 155 129 = some (.ior) := by decide +kernel
theorem k_155_130 : hm_code 155 130 = some (.istore 8) := by decide +kernel
theorem k_155_132 : hm_code 155 132 = some (.iinc 9 1) := by decide +kernel
theorem k_155_135 : hm_code 155 135 = some (.goto (-69)) := by decide +kernel
theorem k_155_138 : hm_code 155 138 = some (.iload 7) := by decide +kernel
theorem k_155_140 : hm_code 155 140 = some (.iload 6) := by decide +kernel
theorem k_155_142 : hm_code 155 142 = some (.isub) := by decide +kernel
theorem k_155_143 : hm_code 155 143 = some (.aload_n 0) := by decide +kernel
theorem k_155_144 : hm_code 155 144 = some (.getfield 41) := by decide +kernel
theorem k_155_147 : hm_code 155 147 = some (.iload_n 1) := by decide +kernel
theorem k_155_148 : hm_code 155 148 = some (.iaload) := by decide +kernel
theorem k_155_149 : hm_code 155 149 = some (.if_icmp .gt 17) := by decide +kernel
theorem k_155_152 : hm_code 155 152 = some (.aload_n 0) := by decide +kernel
theorem k_155_153 : hm_code 155 153 = some (.getfield 72) := by decide +kernel
theorem k_155_156 : hm_code 155 156 = some (.iload_n 2) := by decide +kernel
theorem k_155_157 : hm_code 155 157 = some (.iload 4) := by decide +kernel
theorem k_155_159 : hm_code 155 159 = some (.iadd) := by decide +kernel
theorem k_155_160 : hm_code 155 160 = some (.iload 8) := by decide +kernel
theorem k_155_162 : hm_code 155 162 = some (.iastore) := by decide +kernel
theorem k_155_163 : hm_code 155 163 = some (.iinc 4 1) := by decide +kernel
theorem k_155_166 : hm_code 155 166 = some (.iload_n 3) := by decide +kernel
theorem k_155_167 : hm_code 155 167 = some (.iconst 1) := by decide +kernel
theorem k_155_168 : hm_code 155 168 = some (.isub) := by decide +kernel
theorem k_155_169 : hm_code 155 169 = some (.istore 9) := by decide +kernel
theorem k_155_171 : hm_code 155 171 = some (.iload 9) := by decide +kernel
theorem k_155_173 : hm_code 155 173 = some (.ifCond .lt 28) := by decide +kernel
theorem k_155_176 : hm_code 155 176 = some (.aload_n 0) := by decide +kernel
theorem k_155_177 : hm_code 155 177 = some (.getfield 78) := by decide +kernel
theorem k_155_180 : hm_code 155 180 = some (.iload 9) := by decide +kernel
theorem k_155_182 : hm_code 155 182 = some (.iaload) := by decide +kernel
theorem k_155_183 : hm_code 155 183 = some (.aload_n 0) := by decide +kernel
theorem k_155_184 : hm_code 155 184 = some (.getfield 124) := by decide +kernel
theorem k_155_187 : hm_code 155 187 = some (.iload_n 3) := by decide +kernel
theorem k_155_188 : hm_code 155 188 = some (.isub) := by decide +kernel
theorem k_155_189 : hm_code 155 189 = some (.iload 9) := by decide +kernel
theorem k_155_191 : hm_code 155 191 = some (.iadd) := by decide +kernel
theorem k_155_192 : hm_code 155 192 = some (.if_icmp .ne 9) := by decide +kernel
theorem k_155_195 : hm_code 155 195 = some (.iinc 9 (-1)) := by decide +kernel
theorem k_155_198 : hm_code 155 198 = some (.goto (-27)) := by decide +kernel
theorem k_155_201 : hm_code 155 201 = some (.iload 9) := by decide +kernel
theorem k_155_203 : hm_code 155 203 = some (.ifCond .lt 7) := by decide +kernel
theorem k_155_206 : hm_code 155 206 = some (.iconst 1) := by decide +kernel
theorem k_155_207 : hm_code 155 207 = some (.goto 4) := by decide +kernel
theorem k_155_210 : hm_code 155 210 = some (.iconst 0) := by decide +kernel
theorem k_155_211 : hm_code 155 211 = some (.istore 5) := by decide +kernel
theorem k_155_213 : hm_code 155 213 = some (.iload 5) := by decide +kernel
theorem k_155_215 : hm_code 155 215 = some (.ifCond .eq 50) := by decide +kernel
theorem k_155_218 : hm_code 155 218 = some (.aload_n 0) := by decide +kernel
theorem k_155_219 : hm_code 155 219 = some (.getfield 78) := by decide +kernel
theorem k_155_222 : hm_code 155 222 = some (.iload 9) := by decide +kernel
theorem k_155_224 : hm_code 155 224 = some (.dup2) := by decide +kernel
theorem k_155_225 : hm_code 155 225 = some (.iaload) := by decide +kernel
theorem k_155_226 : hm_code 155 226 = some (.iconst 1) := by decide +kernel
theorem k_155_227 : hm_code 155 227 = some (.iadd) := by decide +kernel
theorem k_155_228 : hm_code 155 228 = some (.iastore) := by decide +kernel
theorem k_155_229 : hm_code 155 229 = some (.iload 9) := by decide +kernel
theorem k_155_231 : hm_code 155 231 = some (.iconst 1) := by decide +kernel
theorem k_155_232 : hm_code 155 232 = some (.iadd) := by decide +kernel
theorem k_155_233 : hm_code 155 233 = some (.istore 10) := by decide +kernel
theorem k_155_235 : hm_code 155 235 = some (.iload 10) := by decide +kernel
theorem k_155_237 : hm_code 155 237 = some (.iload_n 3) := by decide +kernel
theorem k_155_238 : hm_code 155 238 = some (.if_icmp .ge 27) := by decide +kernel
theorem k_155_241 : hm_code 155 241 = some (.aload_n 0) := by decide +kernel
theorem k_155_242 : hm_code 155 242 = some (.getfield 78) := by decide +kernel
theorem k_155_245 : hm_code 155 245 = some (.iload 10) := by decide +kernel
theorem k_155_247 : hm_code 155 247 = some (.aload_n 0) := by decide +kernel
theorem k_155_248 : hm_code 155 248 = some (.getfield 78) := by decide +kernel
theorem k_155_251 : hm_code 155 251 = some (.iload 10) := by decide +kernel
theorem k_155_253 : hm_code 155 253 = some (.iconst 1) := by decide +kernel
theorem k_155_254 : hm_code 155 254 = some (.isub) := by decide +kernel
theorem k_155_255 : hm_code 155 255 = some (.iaload) := by decide +kernel
theorem k_155_256 : hm_code 155 256 = some (.iconst 1) := by decide +kernel
theorem k_155_257 : hm_code 155 257 = some (.iadd) := by decide +kernel
theorem k_155_258 : hm_code 155 258 = some (.iastore) := by decide +kernel
theorem k_155_259 : hm_code 155 259 = some (.iinc 10 1) := by decide +kernel
theorem k_155_262 : hm_code 155 262 = some (.goto (-27)) := by decide +kernel
theorem k_155_265 : hm_code 155 265 = some (.goto (-218)) := by decide +kernel
theorem k_155_268 : hm_code 155 268 = some (.iload 4) := by decide +kernel
theorem k_155_270 : hm_code 155 270 = some (.ireturn) := by decide +kernel
theorem m_156 : hm_mtab[156]? = some (⟨"HourPromisedModel", "promise", "(III)I"⟩, prog_10_method_41_code, 5, (some .int), 8, 4, 1) := rfl
theorem k_156_0 : hm_code 156 0 = some (.aload_n 0) := by decide +kernel
theorem k_156_1 : hm_code 156 1 = some (.iload_n 1) := by decide +kernel
theorem k_156_2 : hm_code 156 2 = some (.iload_n 2) := by decide +kernel
theorem k_156_3 : hm_code 156 3 = some (.iload_n 3) := by decide +kernel
theorem k_156_4 : hm_code 156 4 = some (.invokevirtual 223) := by decide +kernel
theorem k_156_7 : hm_code 156 7 = some (.istore 4) := by decide +kernel
theorem k_156_9 : hm_code 156 9 = some (.iload 4) := by decide +kernel
theorem k_156_11 : hm_code 156 11 = some (.ifCond .ge 6) := by decide +kernel
theorem k_156_14 : hm_code 156 14 = some (.iload 4) := by decide +kernel
theorem k_156_16 : hm_code 156 16 = some (.ireturn) := by decide +kernel
theorem k_156_17 : hm_code 156 17 = some (.iload 4) := by decide +kernel
theorem k_156_19 : hm_code 156 19 = some (.ifCond .le 7) := by decide +kernel
theorem k_156_22 : hm_code 156 22 = some (.sipush (-1003)) := by decide +kernel
theorem k_156_25 : hm_code 156 25 = some (.ireturn) := by decide +kernel
theorem k_156_26 : hm_code 156 26 = some (.aload_n 0) := by decide +kernel
theorem k_156_27 : hm_code 156 27 = some (.getfield 47) := by decide +kernel
theorem k_156_30 : hm_code 156 30 = some (.iconst 4) := by decide +kernel
theorem k_156_31 : hm_code 156 31 = some (.iload_n 1) := by decide +kernel
theorem k_156_32 : hm_code 156 32 = some (.imul) := by decide +kernel
theorem k_156_33 : hm_code 156 33 = some (.iload_n 2) := by decide +kernel
theorem k_156_34 : hm_code 156 34 = some (.iadd) := by decide +kernel
theorem k_156_35 : hm_code 156 35 = some (.iload_n 3) := by decide +kernel
theorem k_156_36 : hm_code 156 36 = some (.iastore) := by decide +kernel
theorem k_156_37 : hm_code 156 37 = some (.iconst 1) := by decide +kernel
theorem k_156_38 : hm_code 156 38 = some (.ireturn) := by decide +kernel
theorem m_157 : hm_mtab[157]? = some (⟨"HourPromisedModel", "earliest", "(III)I"⟩, prog_10_method_42_code, 5, (some .int), 8, 4, 1) := rfl
theorem k_157_0 : hm_code 157 0 = some (.aload_n 0) := by decide +kernel
theorem k_157_1 : hm_code 157 1 = some (.iload_n 1) := by decide +kernel
theorem k_157_2 : hm_code 157 2 = some (.invokevirtual 213) := by decide +kernel
theorem k_157_5 : hm_code 157 5 = some (.ifCond .ne 7) := by decide +kernel
theorem k_157_8 : hm_code 157 8 = some (.sipush (-1001)) := by decide +kernel
theorem k_157_11 : hm_code 157 11 = some (.ireturn) := by decide +kernel
theorem k_157_12 : hm_code 157 12 = some (.iload_n 2) := by decide +kernel
theorem k_157_13 : hm_code 157 13 = some (.invokestatic 165) := by decide +kernel
theorem k_157_16 : hm_code 157 16 = some (.ifCond .eq 10) := by decide +kernel
theorem k_157_19 : hm_code 157 19 = some (.iload_n 3) := by decide +kernel
theorem k_157_20 : hm_code 157 20 = some (.invokestatic 205) := by decide +kernel
theorem k_157_23 : hm_code 157 23 = some (.ifCond .ne 7) := by decide +kernel
theorem k_157_26 : hm_code 157 26 = some (.sipush (-1002)) := by decide +kernel
theorem k_157_29 : hm_code 157 29 = some (.ireturn) := by decide +kernel
theorem k_157_30 : hm_code 157 30 = some (.iload_n 3) := by decide +kernel
theorem k_157_31 : hm_code 157 31 = some (.istore 4) := by decide +kernel
theorem k_157_33 : hm_code 157 33 = some (.iload 4) := by decide +kernel
theorem k_157_35 : hm_code 157 35 = some (.sipush 400) := by decide +kernel
theorem k_157_38 : hm_code 157 38 = some (.if_icmp .ge 23) := by decide +kernel
theorem k_157_41 : hm_code 157 41 = some (.aload_n 0) := by decide +kernel
theorem k_157_42 : hm_code 157 42 = some (.iload_n 1) := by decide +kernel
theorem k_157_43 : hm_code 157 43 = some (.iload_n 2) := by decide +kernel
theorem k_157_44 : hm_code 157 44 = some (.iload 4) := by decide +kernel
theorem k_157_46 : hm_code 157 46 = some (.invokevirtual 220) := by decide +kernel
theorem k_157_49 : hm_code 157 49 = some (.ifCond .ne 6) := by decide +kernel
theorem k_157_52 : hm_code 157 52 = some (.iload 4) := by decide +kernel
theorem k_157_54 : hm_code 157 54 = some (.ireturn) := by decide +kernel
theorem k_157_55 : hm_code 157 55 = some (.iinc 4 1) := by decide +kernel
theorem k_157_58 : hm_code 157 58 = some (.goto (-25)) := by decide +kernel
theorem k_157_61 : hm_code 157 61 = some (.iconst (-1)) := by decide +kernel
theorem k_157_62 : hm_code 157 62 = some (.ireturn) := by decide +kernel
theorem m_158 : hm_mtab[158]? = some (⟨"HourPromisedModel", "undo", "(II)I"⟩, prog_10_method_43_code, 3, (some .int), 8, 3, 1) := rfl
theorem k_158_0 : hm_code 158 0 = some (.aload_n 0) := by decide +kernel
theorem k_158_1 : hm_code 158 1 = some (.iload_n 1) := by decide +kernel
theorem k_158_2 : hm_code 158 2 = some (.invokevirtual 213) := by decide +kernel
theorem k_158_5 : hm_code 158 5 = some (.ifCond .ne 7) := by decide +kernel
theorem k_158_8 : hm_code 158 8 = some (.sipush (-1001)) := by decide +kernel
theorem k_158_11 : hm_code 158 11 = some (.ireturn) := by decide +kernel
theorem k_158_12 : hm_code 158 12 = some (.iload_n 2) := by decide +kernel
theorem k_158_13 : hm_code 158 13 = some (.invokestatic 165) := by decide +kernel
theorem k_158_16 : hm_code 158 16 = some (.ifCond .ne 7) := by decide +kernel
theorem k_158_19 : hm_code 158 19 = some (.sipush (-1002)) := by decide +kernel
theorem k_158_22 : hm_code 158 22 = some (.ireturn) := by decide +kernel
theorem k_158_23 : hm_code 158 23 = some (.aload_n 0) := by decide +kernel
theorem k_158_24 : hm_code 158 24 = some (.iload_n 1) := by decide +kernel
theorem k_158_25 : hm_code 158 25 = some (.iload_n 2) := by decide +kernel
theorem k_158_26 : hm_code 158 26 = some (.invokevirtual 92) := by decide +kernel
theorem k_158_29 : hm_code 158 29 = some (.ifCond .ge 7) := by decide +kernel
theorem k_158_32 : hm_code 158 32 = some (.sipush (-1003)) := by decide +kernel
theorem k_158_35 : hm_code 158 35 = some (.ireturn) := by decide +kernel
theorem k_158_36 : hm_code 158 36 = some (.aload_n 0) := by decide +kernel
theorem k_158_37 : hm_code 158 37 = some (.getfield 47) := by decide +kernel
theorem k_158_40 : hm_code 158 40 = some (.iconst 4) := by decide +kernel
theorem k_158_41 : hm_code 158 41 = some (.iload_n 1) := by decide +kernel
theorem k_158_42 : hm_code 158 42 = some (.imul) := by decide +kernel
theorem k_158_43 : hm_code 158 43 = some (.iload_n 2) := by decide +kernel
theorem k_158_44 : hm_code 158 44 = some (.iadd) := by decide +kernel
theorem k_158_45 : hm_code 158 45 = some (.iconst (-1)) := by decide +kernel
theorem k_158_46 : hm_code 158 46 = some (.iastore) := by decide +kernel
theorem k_158_47 : hm_code 158 47 = some (.aload_n 0) := by decide +kernel
theorem k_158_48 : hm_code 158 48 = some (.dup) := by decide +kernel
theorem k_158_49 : hm_code 158 49 = some (.getfield 210) := by decide +kernel
theorem k_158_52 : hm_code 158 52 = some (.iconst 1) := by decide +kernel
theorem k_158_53 : hm_code 158 53 = some (.iadd) := by decide +kernel
theorem k_158_54 : hm_code 158 54 = some (.putfield 210) := by decide +kernel
theorem k_158_57 : hm_code 158 57 = some (.iconst 1) := by decide +kernel
theorem k_158_58 : hm_code 158 58 = some (.aload_n 0) := by decide +kernel
theorem k_158_59 : hm_code 158 59 = some (.iload_n 1) := by decide +kernel
theorem k_158_60 : hm_code 158 60 = some (.iconst (-1)) := by decide +kernel
theorem k_158_61 : hm_code 158 61 = some (.invokevirtual 162) := by decide +kernel
theorem k_158_64 : hm_code 158 64 = some (.iadd) := by decide +kernel
theorem k_158_65 : hm_code 158 65 = some (.ireturn) := by decide +kernel
theorem m_159 : hm_mtab[159]? = some (⟨"HourPromisedModel", "promised", "(III)I"⟩, prog_10_method_46_code, 5, (some .int), 8, 4, 1) := rfl
theorem k_159_0 : hm_code 159 0 = some (.aload_n 0) := by decide +kernel
theorem k_159_1 : hm_code 159 1 = some (.iload_n 1) := by decide +kernel
theorem k_159_2 : hm_code 159 2 = some (.invokevirtual 213) := by decide +kernel
theorem k_159_5 : hm_code 159 5 = some (.ifCond .ne 7) := by decide +kernel
theorem k_159_8 : hm_code 159 8 = some (.sipush (-1001)) := by decide +kernel
theorem k_159_11 : hm_code 159 11 = some (.ireturn) := by decide +kernel
theorem k_159_12 : hm_code 159 12 = some (.iload_n 2) := by decide +kernel
theorem k_159_13 : hm_code 159 13 = some (.invokestatic 165) := by decide +kernel
theorem k_159_16 : hm_code 159 16 = some (.ifCond .eq 15) := by decide +kernel
theorem k_159_19 : hm_code 159 19 = some (.iload_n 3) := by decide +kernel
theorem k_159_20 : hm_code 159 20 = some (.i2l) := by decide +kernel
theorem k_159_21 : hm_code 159 21 = some (.lconst 0) := by decide +kernel
theorem k_159_22 : hm_code 159 22 = some (.ldc2_w 103) := by decide +kernel
theorem k_159_25 : hm_code 159 25 = some (.invokestatic 84) := by decide +kernel
theorem k_159_28 : hm_code 159 28 = some (.ifCond .ne 7) := by decide +kernel
theorem k_159_31 : hm_code 159 31 = some (.sipush (-1002)) := by decide +kernel
theorem k_159_34 : hm_code 159 34 = some (.ireturn) := by decide +kernel
theorem k_159_35 : hm_code 159 35 = some (.aload_n 0) := by decide +kernel
theorem k_159_36 : hm_code 159 36 = some (.iload_n 1) := by decide +kernel
theorem k_159_37 : hm_code 159 37 = some (.iload_n 2) := by decide +kernel
theorem k_159_38 : hm_code 159 38 = some (.invokevirtual 92) := by decide +kernel
theorem k_159_41 : hm_code 159 41 = some (.istore 4) := by decide +kernel
theorem k_159_43 : hm_code 159 43 = some (.iload_n 3) := by decide +kernel
theorem k_159_44 : hm_code 159 44 = some (.ifCond .eq 8) := by decide +kernel
theorem k_159_47 : hm_code 159 47 = some (.iload 4) := by decide +kernel
theorem k_159_49 : hm_code 159 49 = some (.ifCond .ge 15) := by decide +kernel
theorem k_159_52 : hm_code 159 52 = some (.iload_n 3) := by decide +kernel
theorem k_159_53 : hm_code 159 53 = some (.iconst 2) := by decide +kernel
theorem k_159_54 : hm_code 159 54 = some (.if_icmp .ne 7) := by decide +kernel
theorem k_159_57 : hm_code 159 57 = some (.iconst 0) := by decide +kernel
theorem k_159_58 : hm_code 159 58 = some (.goto 5) := by decide +kernel
theorem k_159_61 : hm_code 159 61 = some (.iload 4) := by decide +kernel
theorem k_159_63 : hm_code 159 63 = some (.ireturn) := by decide +kernel
theorem k_159_64 : hm_code 159 64 = some (.iload_n 3) := by decide +kernel
theorem k_159_65 : hm_code 159 65 = some (.iconst 1) := by decide +kernel
theorem k_159_66 : hm_code 159 66 = some (.if_icmp .ne 20) := by decide +kernel
theorem k_159_69 : hm_code 159 69 = some (.iload_n 2) := by decide +kernel
theorem k_159_70 : hm_code 159 70 = some (.iconst 1) := by decide +kernel
theorem k_159_71 : hm_code 159 71 = some (.if_icmp .ne 11) := by decide +kernel
theorem k_159_74 : hm_code 159 74 = some (.aload_n 0) := by decide +kernel
theorem k_159_75 : hm_code 159 75 = some (.iload_n 1) := by decide +kernel
theorem k_159_76 : hm_code 159 76 = some (.invokevirtual 226) := by decide +kernel
theorem k_159_79 : hm_code 159 79 = some (.goto 27) := by decide +kernel
theorem k_159_82 : hm_code 159 82 = some (.iconst (-1)) := by decide +kernel
theorem k_159_83 : hm_code 159 83 = some (.goto 23) := by decide +kernel
theorem k_159_86 : hm_code 159 86 = some (.iload_n 2) := by decide +kernel
theorem k_159_87 : hm_code 159 87 = some (.iconst 1) := by decide +kernel
theorem k_159_88 : hm_code 159 88 = some (.if_icmp .eq 8) := by decide +kernel
theorem k_159_91 : hm_code 159 91 = some (.iload_n 2) := by decide +kernel
theorem k_159_92 : hm_code 159 92 = some (.iconst 3) := by decide +kernel
theorem k_159_93 : hm_code 159 93 = some (.if_icmp .ne 12) := by decide +kernel
theorem k_159_96 : hm_code 159 96 = some (.aload_n 0) := by decide +kernel
theorem k_159_97 : hm_code 159 97 = some (.iload_n 1) := by decide +kernel
theorem k_159_98 : hm_code 159 98 = some (.iload_n 2) := by decide +kernel
theorem k_159_99 : hm_code 159 99 = some (.invokevirtual 229) := by decide +kernel
theorem k_159_102 : hm_code 159 102 = some (.goto 4) := by decide +kernel
theorem k_159_105 : hm_code 159 105 = some (.iconst 0) := by decide +kernel
theorem k_159_106 : hm_code 159 106 = some (.ireturn) := by decide +kernel
theorem m_160 : hm_mtab[160]? = some (⟨"HourPromisedModel", "chapelOf", "(I)I"⟩, prog_10_method_44_code, 5, (some .int), 8, 2, 1) := rfl
theorem k_160_0 : hm_code 160 0 = some (.aload_n 0) := by decide +kernel
theorem k_160_1 : hm_code 160 1 = some (.iload_n 1) := by decide +kernel
theorem k_160_2 : hm_code 160 2 = some (.iconst 1) := by decide +kernel
theorem k_160_3 : hm_code 160 3 = some (.invokevirtual 92) := by decide +kernel
theorem k_160_6 : hm_code 160 6 = some (.istore_n 2) := by decide +kernel
theorem k_160_7 : hm_code 160 7 = some (.iconst 0) := by decide +kernel
theorem k_160_8 : hm_code 160 8 = some (.istore_n 3) := by decide +kernel
theorem k_160_9 : hm_code 160 9 = some (.iconst 0) := by decide +kernel
theorem k_160_10 : hm_code 160 10 = some (.istore 4) := by decide +kernel
theorem k_160_12 : hm_code 160 12 = some (.iload 4) := by decide +kernel
theorem k_160_14 : hm_code 160 14 = some (.iload_n 1) := by decide +kernel
theorem k_160_15 : hm_code 160 15 = some (.if_icmp .ge 28) := by decide +kernel
theorem k_160_18 : hm_code 160 18 = some (.iload_n 3) := by decide +kernel
theorem k_160_19 : hm_code 160 19 = some (.aload_n 0) := by decide +kernel
theorem k_160_20 : hm_code 160 20 = some (.iload 4) := by decide +kernel
theorem k_160_22 : hm_code 160 22 = some (.iconst 1) := by decide +kernel
theorem k_160_23 : hm_code 160 23 = some (.invokevirtual 92) := by decide +kernel
theorem k_160_26 : hm_code 160 26 = some (.iload_n 2) := by decide +kernel
theorem k_160_27 : hm_code 160 27 = some (.if_icmp .ne 7) := by decide +kernel
theorem k_160_30 : hm_code 160 30 = some (.iconst 1) := by decide +kernel
theorem k_160_31 : hm_code 160 31 = some (.goto 4) := by decide +kernel
theorem k_160_34 : hm_code 160 34 = some (.iconst 0) := by decide +kernel
theorem k_160_35 : hm_code 160 35 = some (.iadd) := by decide +kernel
theorem k_160_36 : hm_code 160 36 = some (.istore_n 3) := by decide +kernel
theorem k_160_37 : hm_code 160 37 = some (.iinc 4 1) := by decide +kernel
theorem k_160_40 : hm_code 160 40 = some (.goto (-28)) := by decide +kernel
theorem k_160_43 : hm_code 160 43 = some (.iconst 0) := by decide +kernel
theorem k_160_44 : hm_code 160 44 = some (.istore 4) := by decide +kernel
theorem k_160_46 : hm_code 160 46 = some (.iload 4) := by decide +kernel
theorem k_160_48 : hm_code 160 48 = some (.iconst 3) := by decide +kernel
theorem k_160_49 : hm_code 160 49 = some (.if_icmp .ge 37) := by decide +kernel
theorem k_160_52 : hm_code 160 52 = some (.aload_n 0) := by decide +kernel
theorem k_160_53 : hm_code 160 53 = some (.getfield 13) := by decide +kernel
theorem k_160_56 : hm_code 160 56 = some (.iload 4) := by decide +kernel
theorem k_160_58 : hm_code 160 58 = some (.iaload) := by decide +kernel
theorem k_160_59 : hm_code 160 59 = some (.iload_n 2) := by decide +kernel
theorem k_160_60 : hm_code 160 60 = some (.bipush 10) := by decide +kernel
theorem k_160_62 : hm_code 160 62 = some (.irem) := by decide +kernel
theorem k_160_63 : hm_code 160 63 = some (.ishr) := by decide +kernel
theorem k_160_64 : hm_code 160 64 = some (.iconst 1) := by decide +kernel
theorem k_160_65 : hm_code 160 65 = some (.iand) := by decide +kernel
theorem k_160_66 : hm_code 160 66 = some (.iconst 1) := by decide +kernel
theorem k_160_67 : hm_code 160 67 = some (.if_icmp .ne 13) := by decide +kernel
theorem k_160_70 : hm_code 160 70 = some (.iload_n 3) := by decide +kernel
theorem k_160_71 : hm_code 160 71 = some (.ifCond .ne 6) := by decide +kernel
theorem k_160_74 : hm_code 160 74 = some (.iload 4) := by decide +kernel
theorem k_160_76 : hm_code 160 76 = some (.ireturn) := by decide +kernel
theorem k_160_77 : hm_code 160 77 = some (.iinc 3 (-1)) := by decide +kernel
theorem k_160_80 : hm_code 160 80 = some (.iinc 4 1) := by decide +kernel
theorem k_160_83 : hm_code 160 83 = some (.goto (-37)) := by decide +kernel
theorem k_160_86 : hm_code 160 86 = some (.iconst (-1)) := by decide +kernel
theorem k_160_87 : hm_code 160 87 = some (.ireturn) := by decide +kernel
theorem m_161 : hm_mtab[161]? = some (⟨"HourPromisedModel", "setOf", "(II)I"⟩, prog_10_method_45_code, 6, (some .int), 8, 3, 1) := rfl
theorem k_161_0 : hm_code 161 0 = some (.aload_n 0) := by decide +kernel
theorem k_161_1 : hm_code 161 1 = some (.aload_n 0) := by decide +kernel
theorem k_161_2 : hm_code 161 2 = some (.iload_n 1) := by decide +kernel
theorem k_161_3 : hm_code 161 3 = some (.iload_n 2) := by decide +kernel
theorem k_161_4 : hm_code 161 4 = some (.invokevirtual 92) := by decide +kernel
theorem k_161_7 : hm_code 161 7 = some (.invokevirtual 196) := by decide +kernel
theorem k_161_10 : hm_code 161 10 = some (.istore_n 3) := by decide +kernel
theorem k_161_11 : hm_code 161 11 = some (.iconst 0) := by decide +kernel
theorem k_161_12 : hm_code 161 12 = some (.istore 4) := by decide +kernel
theorem k_161_14 : hm_code 161 14 = some (.iconst 0) := by decide +kernel
theorem k_161_15 : hm_code 161 15 = some (.istore 5) := by decide +kernel
theorem k_161_17 : hm_code 161 17 = some (.iload 5) := by decide +kernel
theorem k_161_19 : hm_code 161 19 = some (.aload_n 0) := by decide +kernel
theorem k_161_20 : hm_code 161 20 = some (.getfield 199) := by decide +kernel
theorem k_161_23 : hm_code 161 23 = some (.if_icmp .ge 54) := by decide +kernel
theorem k_161_26 : hm_code 161 26 = some (.iload_n 3) := by decide +kernel
theorem k_161_27 : hm_code 161 27 = some (.ifCond .eq 50) := by decide +kernel
theorem k_161_30 : hm_code 161 30 = some (.aload_n 0) := by decide +kernel
theorem k_161_31 : hm_code 161 31 = some (.getfield 66) := by decide +kernel
theorem k_161_34 : hm_code 161 34 = some (.iload 5) := by decide +kernel
theorem k_161_36 : hm_code 161 36 = some (.iaload) := by decide +kernel
theorem k_161_37 : hm_code 161 37 = some (.iconst 4) := by decide +kernel
theorem k_161_38 : hm_code 161 38 = some (.iload_n 1) := by decide +kernel
theorem k_161_39 : hm_code 161 39 = some (.imul) := by decide +kernel
theorem k_161_40 : hm_code 161 40 = some (.iload_n 2) := by decide +kernel
theorem k_161_41 : hm_code 161 41 = some (.iadd) := by decide +kernel
theorem k_161_42 : hm_code 161 42 = some (.if_icmp .ne 25) := by decide +kernel
theorem k_161_45 : hm_code 161 45 = some (.aload_n 0) := by decide +kernel
theorem k_161_46 : hm_code 161 46 = some (.getfield 72) := by decide +kernel
theorem k_161_49 : hm_code 161 49 = some (.sipush 924) := by decide +kernel
theorem k_161_52 : hm_code 161 52 = some (.iload 5) := by decide +kernel
theorem k_161_54 : hm_code 161 54 = some (.imul) := by decide +kernel
theorem k_161_55 : hm_code 161 55 = some (.aload_n 0) := by decide +kernel
theorem k_161_56 : hm_code 161 56 = some (.getfield 75) := by decide +kernel
theorem k_161_59 : hm_code 161 59 = some (.iload 5) := by decide +kernel
theorem k_161_61 : hm_code 161 61 = some (.iaload) := by decide +kernel
theorem k_161_62 : hm_code 161 62 = some (.iadd) := by decide +kernel
theorem k_161_63 : hm_code 161 63 = some (.iaload) := by decide +kernel
theorem k_161_64 : hm_code 161 64 = some (.goto 5) := by decide +kernel
theorem k_161_67 : hm_code 161 67 = some (.iload 4) := by decide +kernel
theorem k_161_69 : hm_code 161 69 = some (.istore 4) := by decide +kernel
theorem k_161_71 : hm_code 161 71 = some (.iinc 5 1) := by decide +kernel
theorem k_161_74 : hm_code 161 74 = some (.goto (-57)) := by decide +kernel
theorem k_161_77 : hm_code 161 77 = some (.iload 4) := by decide +kernel
theorem k_161_79 : hm_code 161 79 = some (.ireturn) := by decide +kernel
theorem m_162 : hm_mtab[162]? = some (⟨"HourPromisedModel", "taken", "(II)I"⟩, prog_10_method_47_code, 5, (some .int), 8, 3, 1) := rfl
theorem k_162_0 : hm_code 162 0 = some (.iload_n 1) := by decide +kernel
theorem k_162_1 : hm_code 162 1 = some (.invokestatic 205) := by decide +kernel
theorem k_162_4 : hm_code 162 4 = some (.ifCond .ne 7) := by decide +kernel
theorem k_162_7 : hm_code 162 7 = some (.sipush (-1002)) := by decide +kernel
theorem k_162_10 : hm_code 162 10 = some (.ireturn) := by decide +kernel
theorem k_162_11 : hm_code 162 11 = some (.iconst 0) := by decide +kernel
theorem k_162_12 : hm_code 162 12 = some (.istore_n 3) := by decide +kernel
theorem k_162_13 : hm_code 162 13 = some (.iconst 0) := by decide +kernel
theorem k_162_14 : hm_code 162 14 = some (.istore 4) := by decide +kernel
theorem k_162_16 : hm_code 162 16 = some (.iload 4) := by decide +kernel
theorem k_162_18 : hm_code 162 18 = some (.aload_n 0) := by decide +kernel
theorem k_162_19 : hm_code 162 19 = some (.getfield 81) := by decide +kernel
theorem k_162_22 : hm_code 162 22 = some (.if_icmp .ge 45) := by decide +kernel
theorem k_162_25 : hm_code 162 25 = some (.iload_n 3) := by decide +kernel
theorem k_162_26 : hm_code 162 26 = some (.aload_n 0) := by decide +kernel
theorem k_162_27 : hm_code 162 27 = some (.iload 4) := by decide +kernel
theorem k_162_29 : hm_code 162 29 = some (.iconst 1) := by decide +kernel
theorem k_162_30 : hm_code 162 30 = some (.invokevirtual 92) := by decide +kernel
theorem k_162_33 : hm_code 162 33 = some (.iload_n 1) := by decide +kernel
theorem k_162_34 : hm_code 162 34 = some (.if_icmp .eq 14) := by decide +kernel
theorem k_162_37 : hm_code 162 37 = some (.aload_n 0) := by decide +kernel
theorem k_162_38 : hm_code 162 38 = some (.iload 4) := by decide +kernel
theorem k_162_40 : hm_code 162 40 = some (.iconst 3) := by decide +kernel
theorem k_162_41 : hm_code 162 41 = some (.invokevirtual 92) := by decide +kernel
theorem k_162_44 : hm_code 162 44 = some (.iload_n 1) := by decide +kernel
theorem k_162_45 : hm_code 162 45 = some (.if_icmp .ne 13) := by decide +kernel
theorem k_162_48 : hm_code 162 48 = some (.aload_n 0) := by decide +kernel
theorem k_162_49 : hm_code 162 49 = some (.getfield 38) := by decide +kernel
theorem k_162_52 : hm_code 162 52 = some (.iload 4) := by decide +kernel
theorem k_162_54 : hm_code 162 54 = some (.iaload) := by decide +kernel
theorem k_162_55 : hm_code 162 55 = some (.goto 4) := by decide +kernel
theorem k_162_58 : hm_code 162 58 = some (.iconst 0) := by decide +kernel
theorem k_162_59 : hm_code 162 59 = some (.iadd) := by decide +kernel
theorem k_162_60 : hm_code 162 60 = some (.istore_n 3) := by decide +kernel
theorem k_162_61 : hm_code 162 61 = some (.iinc 4 1) := by decide +kernel
theorem k_162_64 : hm_code 162 64 = some (.goto (-48)) := by decide +kernel
theorem k_162_67 : hm_code 162 67 = some (.iload_n 2) := by decide +kernel
theorem k_162_68 : hm_code 162 68 = some (.tableswitch 68 0 5 #[40, 46, 53, 60, 66, 40]) := by decide +kernel
theorem k_162_108 : hm_code 162 108 = some (.aload_n 0) := by decide +kernel
theorem k_162_109 : hm_code 162 109 = some (.iload_n 1) := by decide +kernel
theorem k_162_110 : hm_code 162 110 = some (.invokevirtual 109) := by decide +kernel
theorem k_162_113 : hm_code 162 113 = some (.ireturn) := by decide +kernel
theorem k_162_114 : hm_code 162 114 = some (.aload_n 0) := by decide +kernel
theorem k_162_115 : hm_code 162 115 = some (.iload_n 1) := by decide +kernel
theorem k_162_116 : hm_code 162 116 = some (.iconst 1) := by decide +kernel
theorem k_162_117 : hm_code 162 117 = some (.invokevirtual 96) := by decide +kernel
theorem k_162_120 : hm_code 162 120 = some (.ireturn) := by decide +kernel
theorem k_162_121 : hm_code 162 121 = some (.aload_n 0) := by decide +kernel
theorem k_162_122 : hm_code 162 122 = some (.iload_n 1) := by decide +kernel
theorem k_162_123 : hm_code 162 123 = some (.iconst 2) := by decide +kernel
theorem k_162_124 : hm_code 162 124 = some (.invokevirtual 96) := by decide +kernel
theorem k_162_127 : hm_code 162 127 = some (.ireturn) := by decide +kernel
theorem k_162_128 : hm_code 162 128 = some (.aload_n 0) := by decide +kernel
theorem k_162_129 : hm_code 162 129 = some (.iload_n 1) := by decide +kernel
theorem k_162_130 : hm_code 162 130 = some (.invokevirtual 112) := by decide +kernel
theorem k_162_133 : hm_code 162 133 = some (.ireturn) := by decide +kernel
theorem k_162_134 : hm_code 162 134 = some (.iload_n 3) := by decide +kernel
theorem k_162_135 : hm_code 162 135 = some (.ireturn) := by decide +kernel
theorem k_162_136 : hm_code 162 136 = some (.sipush (-1002)) := by decide +kernel
theorem k_162_139 : hm_code 162 139 = some (.ireturn) := by decide +kernel
theorem m_163 : hm_mtab[163]? = some (⟨"HourPromisedModel", "count", "(I)I"⟩, prog_10_method_48_code, 5, (some .int), 8, 2, 1) := rfl
theorem k_163_0 : hm_code 163 0 = some (.iconst 0) := by decide +kernel
theorem k_163_1 : hm_code 163 1 = some (.istore_n 2) := by decide +kernel
theorem k_163_2 : hm_code 163 2 = some (.iconst 0) := by decide +kernel
theorem k_163_3 : hm_code 163 3 = some (.istore_n 3) := by decide +kernel
theorem k_163_4 : hm_code 163 4 = some (.iload_n 3) := by decide +kernel
theorem k_163_5 : hm_code 163 5 = some (.iconst 4) := by decide +kernel
theorem k_163_6 : hm_code 163 6 = some (.aload_n 0) := by decide +kernel
theorem k_163_7 : hm_code 163 7 = some (.getfield 81) := by decide +kernel
theorem k_163_10 : hm_code 163 10 = some (.imul) := by decide +kernel
theorem k_163_11 : hm_code 163 11 = some (.if_icmp .ge 26) := by decide +kernel
theorem k_163_14 : hm_code 163 14 = some (.iload_n 2) := by decide +kernel
theorem k_163_15 : hm_code 163 15 = some (.aload_n 0) := by decide +kernel
theorem k_163_16 : hm_code 163 16 = some (.getfield 47) := by decide +kernel
theorem k_163_19 : hm_code 163 19 = some (.iload_n 3) := by decide +kernel
theorem k_163_20 : hm_code 163 20 = some (.iaload) := by decide +kernel
theorem k_163_21 : hm_code 163 21 = some (.ifCond .lt 7) := by decide +kernel
theorem k_163_24 : hm_code 163 24 = some (.iconst 1) := by decide +kernel
theorem k_163_25 : hm_code 163 25 = some (.goto 4) := by decide +kernel
theorem k_163_28 : hm_code 163 28 = some (.iconst 0) := by decide +kernel
theorem k_163_29 : hm_code 163 29 = some (.iadd) := by decide +kernel
theorem k_163_30 : hm_code 163 30 = some (.istore_n 2) := by decide +kernel
theorem k_163_31 : hm_code 163 31 = some (.iinc 3 1) := by decide +kernel
theorem k_163_34 : hm_code 163 34 = some (.goto (-30)) := by decide +kernel
theorem k_163_37 : hm_code 163 37 = some (.iconst 0) := by decide +kernel
theorem k_163_38 : hm_code 163 38 = some (.istore_n 3) := by decide +kernel
theorem k_163_39 : hm_code 163 39 = some (.iconst 0) := by decide +kernel
theorem k_163_40 : hm_code 163 40 = some (.istore 4) := by decide +kernel
theorem k_163_42 : hm_code 163 42 = some (.iload 4) := by decide +kernel
theorem k_163_44 : hm_code 163 44 = some (.aload_n 0) := by decide +kernel
theorem k_163_45 : hm_code 163 45 = some (.getfield 232) := by decide +kernel
theorem k_163_48 : hm_code 163 48 = some (.if_icmp .ge 19) := by decide +kernel
theorem k_163_51 : hm_code 163 51 = some (.iload_n 3) := by decide +kernel
theorem k_163_52 : hm_code 163 52 = some (.aload_n 0) := by decide +kernel
theorem k_163_53 : hm_code 163 53 = some (.getfield 63) := by decide +kernel
theorem k_163_56 : hm_code 163 56 = some (.iload 4) := by decide +kernel
theorem k_163_58 : hm_code 163 58 = some (.iaload) := by decide +kernel
theorem k_163_59 : hm_code 163 59 = some (.iadd) := by decide +kernel
theorem k_163_60 : hm_code 163 60 = some (.istore_n 3) := by decide +kernel
theorem k_163_61 : hm_code 163 61 = some (.iinc 4 1) := by decide +kernel
theorem k_163_64 : hm_code 163 64 = some (.goto (-22)) := by decide +kernel
theorem k_163_67 : hm_code 163 67 = some (.iload_n 1) := by decide +kernel
theorem k_163_68 : hm_code 163 68 = some (.tableswitch 115 0 10 #[60, 65, 70, 72, 77, 82, 87, 92, 94, 101, 108]) := by decide +kernel
theorem k_163_128 : hm_code 163 128 = some (.aload_n 0) := by decide +kernel
theorem k_163_129 : hm_code 163 129 = some (.getfield 81) := by decide +kernel
theorem k_163_132 : hm_code 163 132 = some (.ireturn) := by decide +kernel
theorem k_163_133 : hm_code 163 133 = some (.aload_n 0) := by decide +kernel
theorem k_163_134 : hm_code 163 134 = some (.getfield 124) := by decide +kernel
theorem k_163_137 : hm_code 163 137 = some (.ireturn) := by decide +kernel
theorem k_163_138 : hm_code 163 138 = some (.iload_n 2) := by decide +kernel
theorem k_163_139 : hm_code 163 139 = some (.ireturn) := by decide +kernel
theorem k_163_140 : hm_code 163 140 = some (.aload_n 0) := by decide +kernel
theorem k_163_141 : hm_code 163 141 = some (.getfield 210) := by decide +kernel
theorem k_163_144 : hm_code 163 144 = some (.ireturn) := by decide +kernel
theorem k_163_145 : hm_code 163 145 = some (.aload_n 0) := by decide +kernel
theorem k_163_146 : hm_code 163 146 = some (.getfield 127) := by decide +kernel
theorem k_163_149 : hm_code 163 149 = some (.ireturn) := by decide +kernel
theorem k_163_150 : hm_code 163 150 = some (.aload_n 0) := by decide +kernel
theorem k_163_151 : hm_code 163 151 = some (.getfield 232) := by decide +kernel
theorem k_163_154 : hm_code 163 154 = some (.ireturn) := by decide +kernel
theorem k_163_155 : hm_code 163 155 = some (.aload_n 0) := by decide +kernel
theorem k_163_156 : hm_code 163 156 = some (.invokevirtual 235) := by decide +kernel
theorem k_163_159 : hm_code 163 159 = some (.ireturn) := by decide +kernel
theorem k_163_160 : hm_code 163 160 = some (.iload_n 3) := by decide +kernel
theorem k_163_161 : hm_code 163 161 = some (.ireturn) := by decide +kernel
theorem k_163_162 : hm_code 163 162 = some (.aload_n 0) := by decide +kernel
theorem k_163_163 : hm_code 163 163 = some (.getfield 7) := by decide +kernel
theorem k_163_166 : hm_code 163 166 = some (.iconst 0) := by decide +kernel
theorem k_163_167 : hm_code 163 167 = some (.iaload) := by decide +kernel
theorem k_163_168 : hm_code 163 168 = some (.ireturn) := by decide +kernel
theorem k_163_169 : hm_code 163 169 = some (.aload_n 0) := by decide +kernel
theorem k_163_170 : hm_code 163 170 = some (.getfield 7) := by decide +kernel
theorem k_163_173 : hm_code 163 173 = some (.iconst 1) := by decide +kernel
theorem k_163_174 : hm_code 163 174 = some (.iaload) := by decide +kernel
theorem k_163_175 : hm_code 163 175 = some (.ireturn) := by decide +kernel
theorem k_163_176 : hm_code 163 176 = some (.aload_n 0) := by decide +kernel
theorem k_163_177 : hm_code 163 177 = some (.getfield 7) := by decide +kernel
theorem k_163_180 : hm_code 163 180 = some (.iconst 2) := by decide +kernel
theorem k_163_181 : hm_code 163 181 = some (.iaload) := by decide +kernel
theorem k_163_182 : hm_code 163 182 = some (.ireturn) := by decide +kernel
theorem k_163_183 : hm_code 163 183 = some (.sipush (-1002)) := by decide +kernel
theorem k_163_186 : hm_code 163 186 = some (.ireturn) := by decide +kernel
theorem m_164 : hm_mtab[164]? = some (⟨"HourPromisedModel", "allTrust", "()I"⟩, prog_10_method_49_code, 3, (some .int), 8, 1, 1) := rfl
theorem k_164_0 : hm_code 164 0 = some (.iconst 0) := by decide +kernel
theorem k_164_1 : hm_code 164 1 = some (.istore_n 1) := by decide +kernel
theorem k_164_2 : hm_code 164 2 = some (.iconst 0) := by decide +kernel
theorem k_164_3 : hm_code 164 3 = some (.istore_n 2) := by decide +kernel
theorem k_164_4 : hm_code 164 4 = some (.iload_n 2) := by decide +kernel
theorem k_164_5 : hm_code 164 5 = some (.aload_n 0) := by decide +kernel
theorem k_164_6 : hm_code 164 6 = some (.getfield 232) := by decide +kernel
theorem k_164_9 : hm_code 164 9 = some (.if_icmp .ge 18) := by decide +kernel
theorem k_164_12 : hm_code 164 12 = some (.iload_n 1) := by decide +kernel
theorem k_164_13 : hm_code 164 13 = some (.aload_n 0) := by decide +kernel
theorem k_164_14 : hm_code 164 14 = some (.getfield 57) := by decide +kernel
theorem k_164_17 : hm_code 164 17 = some (.iload_n 2) := by decide +kernel
theorem k_164_18 : hm_code 164 18 = some (.iaload) := by decide +kernel
theorem k_164_19 : hm_code 164 19 = some (.iadd) := by decide +kernel
theorem k_164_20 : hm_code 164 20 = some (.istore_n 1) := by decide +kernel
theorem k_164_21 : hm_code 164 21 = some (.iinc 2 1) := by decide +kernel
theorem k_164_24 : hm_code 164 24 = some (.goto (-20)) := by decide +kernel
theorem k_164_27 : hm_code 164 27 = some (.iload_n 1) := by decide +kernel
theorem k_164_28 : hm_code 164 28 = some (.ireturn) := by decide +kernel
theorem m_165 : hm_mtab[165]? = some (⟨"HourPromisedModel", "plan", "(I)I"⟩, prog_10_method_50_code, 2, (some .int), 8, 2, 1) := rfl
theorem k_165_0 : hm_code 165 0 = some (.iload_n 1) := by decide +kernel
theorem k_165_1 : hm_code 165 1 = some (.i2l) := by decide +kernel
theorem k_165_2 : hm_code 165 2 = some (.lconst 0) := by decide +kernel
theorem k_165_3 : hm_code 165 3 = some (.ldc2_w 238) := by decide +kernel
theorem k_165_6 : hm_code 165 6 = some (.invokestatic 84) := by decide +kernel
theorem k_165_9 : hm_code 165 9 = some (.ifCond .ne 7) := by decide +kernel
theorem k_165_12 : hm_code 165 12 = some (.sipush (-1002)) := by decide +kernel
theorem k_165_15 : hm_code 165 15 = some (.ireturn) := by decide +kernel
theorem k_165_16 : hm_code 165 16 = some (.aload_n 0) := by decide +kernel
theorem k_165_17 : hm_code 165 17 = some (.getfield 232) := by decide +kernel
theorem k_165_20 : hm_code 165 20 = some (.bipush 16) := by decide +kernel
theorem k_165_22 : hm_code 165 22 = some (.if_icmp .ne 7) := by decide +kernel
theorem k_165_25 : hm_code 165 25 = some (.sipush (-1004)) := by decide +kernel
theorem k_165_28 : hm_code 165 28 = some (.ireturn) := by decide +kernel
theorem k_165_29 : hm_code 165 29 = some (.aload_n 0) := by decide +kernel
theorem k_165_30 : hm_code 165 30 = some (.getfield 54) := by decide +kernel
theorem k_165_33 : hm_code 165 33 = some (.aload_n 0) := by decide +kernel
theorem k_165_34 : hm_code 165 34 = some (.getfield 232) := by decide +kernel
theorem k_165_37 : hm_code 165 37 = some (.iload_n 1) := by decide +kernel
theorem k_165_38 : hm_code 165 38 = some (.iastore) := by decide +kernel
theorem k_165_39 : hm_code 165 39 = some (.aload_n 0) := by decide +kernel
theorem k_165_40 : hm_code 165 40 = some (.getfield 57) := by decide +kernel
theorem k_165_43 : hm_code 165 43 = some (.aload_n 0) := by decide +kernel
theorem k_165_44 : hm_code 165 44 = some (.getfield 232) := by decide +kernel
theorem k_165_47 : hm_code 165 47 = some (.iconst 0) := by decide +kernel
theorem k_165_48 : hm_code 165 48 = some (.iastore) := by decide +kernel
theorem k_165_49 : hm_code 165 49 = some (.aload_n 0) := by decide +kernel
theorem k_165_50 : hm_code 165 50 = some (.getfield 60) := by decide +kernel
theorem k_165_53 : hm_code 165 53 = some (.aload_n 0) := by decide +kernel
theorem k_165_54 : hm_code 165 54 = some (.getfield 232) := by decide +kernel
theorem k_165_57 : hm_code 165 57 = some (.iconst (-1)) := by decide +kernel
theorem k_165_58 : hm_code 165 58 = some (.iastore) := by decide +kernel
theorem k_165_59 : hm_code 165 59 = some (.aload_n 0) := by decide +kernel
theorem k_165_60 : hm_code 165 60 = some (.getfield 63) := by decide +kernel
theorem k_165_63 : hm_code 165 63 = some (.aload_n 0) := by decide +kernel
theorem k_165_64 : hm_code 165 64 = some (.getfield 232) := by decide +kernel
theorem k_165_67 : hm_code 165 67 = some (.iconst 0) := by decide +kernel
theorem k_165_68 : hm_code 165 68 = some (.iastore) := by decide +kernel
theorem k_165_69 : hm_code 165 69 = some (.aload_n 0) := by decide +kernel
theorem k_165_70 : hm_code 165 70 = some (.dup) := by decide +kernel
theorem k_165_71 : hm_code 165 71 = some (.getfield 232) := by decide +kernel
theorem k_165_74 : hm_code 165 74 = some (.iconst 1) := by decide +kernel
theorem k_165_75 : hm_code 165 75 = some (.iadd) := by decide +kernel
theorem k_165_76 : hm_code 165 76 = some (.putfield 232) := by decide +kernel
theorem k_165_79 : hm_code 165 79 = some (.aload_n 0) := by decide +kernel
theorem k_165_80 : hm_code 165 80 = some (.getfield 232) := by decide +kernel
theorem k_165_83 : hm_code 165 83 = some (.iconst 1) := by decide +kernel
theorem k_165_84 : hm_code 165 84 = some (.isub) := by decide +kernel
theorem k_165_85 : hm_code 165 85 = some (.ireturn) := by decide +kernel
theorem m_166 : hm_mtab[166]? = some (⟨"HourPromisedModel", "pay", "(II)I"⟩, prog_10_method_52_code, 3, (some .int), 8, 3, 1) := rfl
theorem k_166_0 : hm_code 166 0 = some (.aload_n 0) := by decide +kernel
theorem k_166_1 : hm_code 166 1 = some (.iload_n 1) := by decide +kernel
theorem k_166_2 : hm_code 166 2 = some (.invokevirtual 240) := by decide +kernel
theorem k_166_5 : hm_code 166 5 = some (.ifCond .ne 7) := by decide +kernel
theorem k_166_8 : hm_code 166 8 = some (.sipush (-1001)) := by decide +kernel
theorem k_166_11 : hm_code 166 11 = some (.ireturn) := by decide +kernel
theorem k_166_12 : hm_code 166 12 = some (.iload_n 2) := by decide +kernel
theorem k_166_13 : hm_code 166 13 = some (.i2l) := by decide +kernel
theorem k_166_14 : hm_code 166 14 = some (.lconst 1) := by decide +kernel
theorem k_166_15 : hm_code 166 15 = some (.ldc2_w 238) := by decide +kernel
theorem k_166_18 : hm_code 166 18 = some (.invokestatic 84) := by decide +kernel
theorem k_166_21 : hm_code 166 21 = some (.ifCond .ne 7) := by decide +kernel
theorem k_166_24 : hm_code 166 24 = some (.sipush (-1002)) := by decide +kernel
theorem k_166_27 : hm_code 166 27 = some (.ireturn) := by decide +kernel
theorem k_166_28 : hm_code 166 28 = some (.aload_n 0) := by decide +kernel
theorem k_166_29 : hm_code 166 29 = some (.getfield 57) := by decide +kernel
theorem k_166_32 : hm_code 166 32 = some (.iload_n 1) := by decide +kernel
theorem k_166_33 : hm_code 166 33 = some (.iaload) := by decide +kernel
theorem k_166_34 : hm_code 166 34 = some (.iload_n 2) := by decide +kernel
theorem k_166_35 : hm_code 166 35 = some (.iadd) := by decide +kernel
theorem k_166_36 : hm_code 166 36 = some (.ldc 243) := by decide +kernel
theorem k_166_38 : hm_code 166 38 = some (.if_icmp .le 7) := by decide +kernel
theorem k_166_41 : hm_code 166 41 = some (.sipush (-1003)) := by decide +kernel
theorem k_166_44 : hm_code 166 44 = some (.ireturn) := by decide +kernel
theorem k_166_45 : hm_code 166 45 = some (.aload_n 0) := by decide +kernel
theorem k_166_46 : hm_code 166 46 = some (.getfield 57) := by decide +kernel
theorem k_166_49 : hm_code 166 49 = some (.iload_n 1) := by decide +kernel
theorem k_166_50 : hm_code 166 50 = some (.dup2) := by decide +kernel
theorem k_166_51 : hm_code 166 51 = some (.iaload) := by decide +kernel
theorem k_166_52 : hm_code 166 52 = some (.iload_n 2) := by decide +kernel
theorem k_166_53 : hm_code 166 53 = some (.iadd) := by decide +kernel
theorem k_166_54 : hm_code 166 54 = some (.iastore) := by decide +kernel
theorem k_166_55 : hm_code 166 55 = some (.aload_n 0) := by decide +kernel
theorem k_166_56 : hm_code 166 56 = some (.getfield 57) := by decide +kernel
theorem k_166_59 : hm_code 166 59 = some (.iload_n 1) := by decide +kernel
theorem k_166_60 : hm_code 166 60 = some (.iaload) := by decide +kernel
theorem k_166_61 : hm_code 166 61 = some (.ireturn) := by decide +kernel
theorem m_167 : hm_mtab[167]? = some (⟨"HourPromisedModel", "isPlan", "(I)Z"⟩, prog_10_method_51_code, 2, (some .boolean), 8, 2, 1) := rfl
theorem k_167_0 : hm_code 167 0 = some (.iload_n 1) := by decide +kernel
theorem k_167_1 : hm_code 167 1 = some (.i2l) := by decide +kernel
theorem k_167_2 : hm_code 167 2 = some (.lconst 0) := by decide +kernel
theorem k_167_3 : hm_code 167 3 = some (.aload_n 0) := by decide +kernel
theorem k_167_4 : hm_code 167 4 = some (.getfield 232) := by decide +kernel
theorem k_167_7 : hm_code 167 7 = some (.iconst 1) := by decide +kernel
theorem k_167_8 : hm_code 167 8 = some (.isub) := by decide +kernel
theorem k_167_9 : hm_code 167 9 = some (.i2l) := by decide +kernel
theorem k_167_10 : hm_code 167 10 = some (.invokestatic 84) := by decide +kernel
theorem k_167_13 : hm_code 167 13 = some (.ireturn) := by decide +kernel
theorem m_168 : hm_mtab[168]? = some (⟨"HourPromisedModel", "rate", "(I)I"⟩, prog_10_method_53_code, 3, (some .int), 8, 2, 1) := rfl
theorem k_168_0 : hm_code 168 0 = some (.iload_n 1) := by decide +kernel
theorem k_168_1 : hm_code 168 1 = some (.i2l) := by decide +kernel
theorem k_168_2 : hm_code 168 2 = some (.lconst 0) := by decide +kernel
theorem k_168_3 : hm_code 168 3 = some (.ldc2_w 244) := by decide +kernel
theorem k_168_6 : hm_code 168 6 = some (.invokestatic 84) := by decide +kernel
theorem k_168_9 : hm_code 168 9 = some (.ifCond .ne 7) := by decide +kernel
theorem k_168_12 : hm_code 168 12 = some (.sipush (-1002)) := by decide +kernel
theorem k_168_15 : hm_code 168 15 = some (.ireturn) := by decide +kernel
theorem k_168_16 : hm_code 168 16 = some (.aload_n 0) := by decide +kernel
theorem k_168_17 : hm_code 168 17 = some (.getfield 246) := by decide +kernel
theorem k_168_20 : hm_code 168 20 = some (.istore_n 2) := by decide +kernel
theorem k_168_21 : hm_code 168 21 = some (.aload_n 0) := by decide +kernel
theorem k_168_22 : hm_code 168 22 = some (.iload_n 1) := by decide +kernel
theorem k_168_23 : hm_code 168 23 = some (.putfield 246) := by decide +kernel
theorem k_168_26 : hm_code 168 26 = some (.iload_n 2) := by decide +kernel
theorem k_168_27 : hm_code 168 27 = some (.ireturn) := by decide +kernel
theorem m_169 : hm_mtab[169]? = some (⟨"HourPromisedModel", "days", "(I)I"⟩, prog_10_method_54_code, 6, (some .int), 8, 2, 1) := rfl
theorem k_169_0 : hm_code 169 0 = some (.iload_n 1) := by decide +kernel
theorem k_169_1 : hm_code 169 1 = some (.i2l) := by decide +kernel
theorem k_169_2 : hm_code 169 2 = some (.lconst 0) := by decide +kernel
theorem k_169_3 : hm_code 169 3 = some (.ldc2_w 249) := by decide +kernel
theorem k_169_6 : hm_code 169 6 = some (.invokestatic 84) := by decide +kernel
theorem k_169_9 : hm_code 169 9 = some (.ifCond .ne 7) := by decide +kernel
theorem k_169_12 : hm_code 169 12 = some (.sipush (-1002)) := by decide +kernel
theorem k_169_15 : hm_code 169 15 = some (.ireturn) := by decide +kernel
theorem k_169_16 : hm_code 169 16 = some (.iconst 0) := by decide +kernel
theorem k_169_17 : hm_code 169 17 = some (.istore_n 2) := by decide +kernel
theorem k_169_18 : hm_code 169 18 = some (.iload_n 2) := by decide +kernel
theorem k_169_19 : hm_code 169 19 = some (.iload_n 1) := by decide +kernel
theorem k_169_20 : hm_code 169 20 = some (.if_icmp .ge 76) := by decide +kernel
theorem k_169_23 : hm_code 169 23 = some (.iconst 0) := by decide +kernel
theorem k_169_24 : hm_code 169 24 = some (.istore_n 3) := by decide +kernel
theorem k_169_25 : hm_code 169 25 = some (.iload_n 3) := by decide +kernel
theorem k_169_26 : hm_code 169 26 = some (.aload_n 0) := by decide +kernel
theorem k_169_27 : hm_code 169 27 = some (.getfield 232) := by decide +kernel
theorem k_169_30 : hm_code 169 30 = some (.if_icmp .ge 60) := by decide +kernel
theorem k_169_33 : hm_code 169 33 = some (.aload_n 0) := by decide +kernel
theorem k_169_34 : hm_code 169 34 = some (.getfield 57) := by decide +kernel
theorem k_169_37 : hm_code 169 37 = some (.iload_n 3) := by decide +kernel
theorem k_169_38 : hm_code 169 38 = some (.iaload) := by decide +kernel
theorem k_169_39 : hm_code 169 39 = some (.i2l) := by decide +kernel
theorem k_169_40 : hm_code 169 40 = some (.aload_n 0) := by decide +kernel
theorem k_169_41 : hm_code 169 41 = some (.getfield 57) := by decide +kernel
theorem k_169_44 : hm_code 169 44 = some (.iload_n 3) := by decide +kernel
theorem k_169_45 : hm_code 169 45 = some (.iaload) := by decide +kernel
theorem k_169_46 : hm_code 169 46 = some (.i2l) := by decide +kernel
theorem k_169_47 : hm_code 169 47 = some (.aload_n 0) := by decide +kernel
theorem k_169_48 : hm_code 169 48 = some (.getfield 246) := by decide +kernel
theorem k_169_51 : hm_code 169 51 = some (.i2l) := by decide +kernel
theorem k_169_52 : hm_code 169 52 = some (.lmul) := by decide +kernel
theorem k_169_53 : hm_code 169 53 = some (.ldc2_w 251) := by decide +kernel
theorem k_169_56 : hm_code 169 56 = some (.ldiv) := by decide +kernel
theorem k_169_57 : hm_code 169 57 = some (.ladd) := by decide +kernel
theorem k_169_58 : hm_code 169 58 = some (.lstore 4) := by decide +kernel
theorem k_169_60 : hm_code 169 60 = some (.aload_n 0) := by decide +kernel
theorem k_169_61 : hm_code 169 61 = some (.getfield 57) := by decide +kernel
theorem k_169_64 : hm_code 169 64 = some (.iload_n 3) := by decide +kernel
theorem k_169_65 : hm_code 169 65 = some (.lload 4) := by decide +kernel
theorem k_169_67 : hm_code 169 67 = some (.ldc2_w 253) := by decide +kernel
theorem k_169_70 : hm_code 169 70 = some (.lcmp) := by decide +kernel
theorem k_169_71 : hm_code 169 71 = some (.ifCond .le 9) := by decide +kernel
theorem k_169_74 : hm_code 169 74 = some (.ldc2_w 253) := by decide +kernel
theorem k_169_77 : hm_code 169 77 = some (.goto 5) := by decide +kernel
theorem k_169_80 : hm_code 169 80 = some (.lload 4) := by decide +kernel
theorem k_169_82 : hm_code 169 82 = some (.l2i) := by decide +kernel
theorem k_169_83 : hm_code 169 83 = some (.iastore) := by decide +kernel
theorem k_169_84 : hm_code 169 84 = some (.iinc 3 1) := by decide +kernel
theorem k_169_87 : hm_code 169 87 = some (.goto (-62)) := by decide +kernel
theorem k_169_90 : hm_code 169 90 = some (.iinc 2 1) := by decide +kernel
theorem k_169_93 : hm_code 169 93 = some (.goto (-75)) := by decide +kernel
theorem k_169_96 : hm_code 169 96 = some (.aload_n 0) := by decide +kernel
theorem k_169_97 : hm_code 169 97 = some (.invokevirtual 235) := by decide +kernel
theorem k_169_100 : hm_code 169 100 = some (.ireturn) := by decide +kernel
theorem m_170 : hm_mtab[170]? = some (⟨"HourPromisedModel", "tie", "(II)I"⟩, prog_10_method_56_code, 3, (some .int), 8, 3, 1) := rfl
theorem k_170_0 : hm_code 170 0 = some (.aload_n 0) := by decide +kernel
theorem k_170_1 : hm_code 170 1 = some (.iload_n 1) := by decide +kernel
theorem k_170_2 : hm_code 170 2 = some (.invokevirtual 240) := by decide +kernel
theorem k_170_5 : hm_code 170 5 = some (.ifCond .eq 11) := by decide +kernel
theorem k_170_8 : hm_code 170 8 = some (.aload_n 0) := by decide +kernel
theorem k_170_9 : hm_code 170 9 = some (.iload_n 2) := by decide +kernel
theorem k_170_10 : hm_code 170 10 = some (.invokevirtual 213) := by decide +kernel
theorem k_170_13 : hm_code 170 13 = some (.ifCond .ne 7) := by decide +kernel
theorem k_170_16 : hm_code 170 16 = some (.sipush (-1001)) := by decide +kernel
theorem k_170_19 : hm_code 170 19 = some (.ireturn) := by decide +kernel
theorem k_170_20 : hm_code 170 20 = some (.aload_n 0) := by decide +kernel
theorem k_170_21 : hm_code 170 21 = some (.getfield 60) := by decide +kernel
theorem k_170_24 : hm_code 170 24 = some (.iload_n 1) := by decide +kernel
theorem k_170_25 : hm_code 170 25 = some (.iaload) := by decide +kernel
theorem k_170_26 : hm_code 170 26 = some (.ifCond .ge 11) := by decide +kernel
theorem k_170_29 : hm_code 170 29 = some (.aload_n 0) := by decide +kernel
theorem k_170_30 : hm_code 170 30 = some (.iload_n 2) := by decide +kernel
theorem k_170_31 : hm_code 170 31 = some (.invokevirtual 255) := by decide +kernel
theorem k_170_34 : hm_code 170 34 = some (.ifCond .lt 7) := by decide +kernel
theorem k_170_37 : hm_code 170 37 = some (.sipush (-1003)) := by decide +kernel
theorem k_170_40 : hm_code 170 40 = some (.ireturn) := by decide +kernel
theorem k_170_41 : hm_code 170 41 = some (.aload_n 0) := by decide +kernel
theorem k_170_42 : hm_code 170 42 = some (.getfield 60) := by decide +kernel
theorem k_170_45 : hm_code 170 45 = some (.iload_n 1) := by decide +kernel
theorem k_170_46 : hm_code 170 46 = some (.iload_n 2) := by decide +kernel
theorem k_170_47 : hm_code 170 47 = some (.iastore) := by decide +kernel
theorem k_170_48 : hm_code 170 48 = some (.iconst 1) := by decide +kernel
theorem k_170_49 : hm_code 170 49 = some (.ireturn) := by decide +kernel
theorem m_171 : hm_mtab[171]? = some (⟨"HourPromisedModel", "planOf", "(I)I"⟩, prog_10_method_55_code, 4, (some .int), 8, 2, 1) := rfl
theorem k_171_0 : hm_code 171 0 = some (.iconst (-1)) := by decide +kernel
theorem k_171_1 : hm_code 171 1 = some (.istore_n 2) := by decide +kernel
theorem k_171_2 : hm_code 171 2 = some (.iconst 0) := by decide +kernel
theorem k_171_3 : hm_code 171 3 = some (.istore_n 3) := by decide +kernel
theorem k_171_4 : hm_code 171 4 = some (.iload_n 3) := by decide +kernel
theorem k_171_5 : hm_code 171 5 = some (.aload_n 0) := by decide +kernel
theorem k_171_6 : hm_code 171 6 = some (.getfield 232) := by decide +kernel
theorem k_171_9 : hm_code 171 9 = some (.if_icmp .ge 25) := by decide +kernel
theorem k_171_12 : hm_code 171 12 = some (.aload_n 0) := by decide +kernel
theorem k_171_13 : hm_code 171 13 = some (.getfield 60) := by decide +kernel
theorem k_171_16 : hm_code 171 16 = some (.iload_n 3) := by decide +kernel
theorem k_171_17 : hm_code 171 17 = some (.iaload) := by decide +kernel
theorem k_171_18 : hm_code 171 18 = some (.iload_n 1) := by decide +kernel
theorem k_171_19 : hm_code 171 19 = some (.if_icmp .ne 7) := by decide +kernel
theorem k_171_22 : hm_code 171 22 = some (.iload_n 3) := by decide +kernel
theorem k_171_23 : hm_code 171 23 = some (.goto 4) := by decide +kernel
theorem k_171_26 : hm_code 171 26 = some (.iload_n 2) := by decide +kernel
theorem k_171_27 : hm_code 171 27 = some (.istore_n 2) := by decide +kernel
theorem k_171_28 : hm_code 171 28 = some (.iinc 3 1) := by decide +kernel
theorem k_171_31 : hm_code 171 31 = some (.goto (-27)) := by decide +kernel
theorem k_171_34 : hm_code 171 34 = some (.iload_n 2) := by decide +kernel
theorem k_171_35 : hm_code 171 35 = some (.ireturn) := by decide +kernel
theorem m_172 : hm_mtab[172]? = some (⟨"HourPromisedModel", "settle", "(I)I"⟩, prog_10_method_57_code, 4, (some .int), 8, 2, 1) := rfl
theorem k_172_0 : hm_code 172 0 = some (.aload_n 0) := by decide +kernel
theorem k_172_1 : hm_code 172 1 = some (.iload_n 1) := by decide +kernel
theorem k_172_2 : hm_code 172 2 = some (.invokevirtual 213) := by decide +kernel
theorem k_172_5 : hm_code 172 5 = some (.ifCond .ne 7) := by decide +kernel
theorem k_172_8 : hm_code 172 8 = some (.sipush (-1001)) := by decide +kernel
theorem k_172_11 : hm_code 172 11 = some (.ireturn) := by decide +kernel
theorem k_172_12 : hm_code 172 12 = some (.aload_n 0) := by decide +kernel
theorem k_172_13 : hm_code 172 13 = some (.getfield 50) := by decide +kernel
theorem k_172_16 : hm_code 172 16 = some (.iload_n 1) := by decide +kernel
theorem k_172_17 : hm_code 172 17 = some (.baload) := by decide +kernel
theorem k_172_18 : hm_code 172 18 = some (.ifCond .ne 21) := by decide +kernel
theorem k_172_21 : hm_code 172 21 = some (.aload_n 0) := by decide +kernel
theorem k_172_22 : hm_code 172 22 = some (.iload_n 1) := by decide +kernel
theorem k_172_23 : hm_code 172 23 = some (.iconst 2) := by decide +kernel
theorem k_172_24 : hm_code 172 24 = some (.invokevirtual 92) := by decide +kernel
theorem k_172_27 : hm_code 172 27 = some (.ifCond .ge 16) := by decide +kernel
theorem k_172_30 : hm_code 172 30 = some (.aload_n 0) := by decide +kernel
theorem k_172_31 : hm_code 172 31 = some (.iload_n 1) := by decide +kernel
theorem k_172_32 : hm_code 172 32 = some (.iconst 3) := by decide +kernel
theorem k_172_33 : hm_code 172 33 = some (.invokevirtual 92) := by decide +kernel
theorem k_172_36 : hm_code 172 36 = some (.ifCond .ge 7) := by decide +kernel
theorem k_172_39 : hm_code 172 39 = some (.sipush (-1003)) := by decide +kernel
theorem k_172_42 : hm_code 172 42 = some (.ireturn) := by decide +kernel
theorem k_172_43 : hm_code 172 43 = some (.aload_n 0) := by decide +kernel
theorem k_172_44 : hm_code 172 44 = some (.getfield 50) := by decide +kernel
theorem k_172_47 : hm_code 172 47 = some (.iload_n 1) := by decide +kernel
theorem k_172_48 : hm_code 172 48 = some (.iconst 1) := by decide +kernel
theorem k_172_49 : hm_code 172 49 = some (.bastore) := by decide +kernel
theorem k_172_50 : hm_code 172 50 = some (.aload_n 0) := by decide +kernel
theorem k_172_51 : hm_code 172 51 = some (.iload_n 1) := by decide +kernel
theorem k_172_52 : hm_code 172 52 = some (.invokevirtual 255) := by decide +kernel
theorem k_172_55 : hm_code 172 55 = some (.istore_n 2) := by decide +kernel
theorem k_172_56 : hm_code 172 56 = some (.iload_n 2) := by decide +kernel
theorem k_172_57 : hm_code 172 57 = some (.ifCond .ge 5) := by decide +kernel
theorem k_172_60 : hm_code 172 60 = some (.iconst 0) := by decide +kernel
theorem k_172_61 : hm_code 172 61 = some (.ireturn) := by decide +kernel
theorem k_172_62 : hm_code 172 62 = some (.aload_n 0) := by decide +kernel
theorem k_172_63 : hm_code 172 63 = some (.getfield 54) := by decide +kernel
theorem k_172_66 : hm_code 172 66 = some (.iload_n 2) := by decide +kernel
theorem k_172_67 : hm_code 172 67 = some (.iaload) := by decide +kernel
theorem k_172_68 : hm_code 172 68 = some (.aload_n 0) := by decide +kernel
theorem k_172_69 : hm_code 172 69 = some (.getfield 57) := by decide +kernel
theorem k_172_72 : hm_code 172 72 = some (.iload_n 2) := by decide +kernel
theorem k_172_73 : hm_code 172 73 = some (.iaload) := by decide +kernel
theorem k_172_74 : hm_code 172 74 = some (.if_icmp .ge 12) := by decide +kernel
theorem k_172_77 : hm_code 172 77 = some (.aload_n 0) := by decide +kernel
theorem k_172_78 : hm_code 172 78 = some (.getfield 54) := by decide +kernel
theorem k_172_81 : hm_code 172 81 = some (.iload_n 2) := by decide +kernel
theorem k_172_82 : hm_code 172 82 = some (.iaload) := by decide +kernel
theorem k_172_83 : hm_code 172 83 = some (.goto 9) := by decide +kernel
theorem k_172_86 : hm_code 172 86 = some (.aload_n 0) := by decide +kernel
theorem k_172_87 : hm_code 172 87 = some (.getfield 57) := by decide +kernel
theorem k_172_90 : hm_code 172 90 = some (.iload_n 2) := by decide +kernel
theorem k_172_91 : hm_code 172 91 = some (.iaload) := by decide +kernel
theorem k_172_92 : hm_code 172 92 = some (.istore_n 3) := by decide +kernel
theorem k_172_93 : hm_code 172 93 = some (.aload_n 0) := by decide +kernel
theorem k_172_94 : hm_code 172 94 = some (.getfield 57) := by decide +kernel
theorem k_172_97 : hm_code 172 97 = some (.iload_n 2) := by decide +kernel
theorem k_172_98 : hm_code 172 98 = some (.dup2) := by decide +kernel
theorem k_172_99 : hm_code 172 99 = some (.iaload) := by decide +kernel
theorem k_172_100 : hm_code 172 100 = some (.iload_n 3) := by decide +kernel
theorem k_172_101 : hm_code 172 101 = some (.isub) := by decide +kernel
theorem k_172_102 : hm_code 172 102 = some (.iastore) := by decide +kernel
theorem k_172_103 : hm_code 172 103 = some (.aload_n 0) := by decide +kernel
theorem k_172_104 : hm_code 172 104 = some (.getfield 63) := by decide +kernel
theorem k_172_107 : hm_code 172 107 = some (.iload_n 2) := by decide +kernel
theorem k_172_108 : hm_code 172 108 = some (.dup2) := by decide +kernel
theorem k_172_109 : hm_code 172 109 = some (.iaload) := by decide +kernel
theorem k_172_110 : hm_code 172 110 = some (.iload_n 3) := by decide +kernel
theorem k_172_111 : hm_code 172 111 = some (.iadd) := by decide +kernel
theorem k_172_112 : hm_code 172 112 = some (.iastore) := by decide +kernel
theorem k_172_113 : hm_code 172 113 = some (.iload_n 3) := by decide +kernel
theorem k_172_114 : hm_code 172 114 = some (.ireturn) := by decide +kernel
theorem m_173 : hm_mtab[173]? = some (⟨"HourPromisedModel", "planned", "(II)I"⟩, prog_10_method_58_code, 3, (some .int), 8, 3, 1) := rfl
theorem k_173_0 : hm_code 173 0 = some (.aload_n 0) := by decide +kernel
theorem k_173_1 : hm_code 173 1 = some (.iload_n 1) := by decide +kernel
theorem k_173_2 : hm_code 173 2 = some (.invokevirtual 240) := by decide +kernel
theorem k_173_5 : hm_code 173 5 = some (.ifCond .ne 7) := by decide +kernel
theorem k_173_8 : hm_code 173 8 = some (.sipush (-1001)) := by decide +kernel
theorem k_173_11 : hm_code 173 11 = some (.ireturn) := by decide +kernel
theorem k_173_12 : hm_code 173 12 = some (.iload_n 2) := by decide +kernel
theorem k_173_13 : hm_code 173 13 = some (.tableswitch 59 0 3 #[31, 38, 45, 52]) := by decide +kernel
theorem k_173_44 : hm_code 173 44 = some (.aload_n 0) := by decide +kernel
theorem k_173_45 : hm_code 173 45 = some (.getfield 54) := by decide +kernel
theorem k_173_48 : hm_code 173 48 = some (.iload_n 1) := by decide +kernel
theorem k_173_49 : hm_code 173 49 = some (.iaload) := by decide +kernel
theorem k_173_50 : hm_code 173 50 = some (.ireturn) := by decide +kernel
theorem k_173_51 : hm_code 173 51 = some (.aload_n 0) := by decide +kernel
theorem k_173_52 : hm_code 173 52 = some (.getfield 57) := by decide +kernel
theorem k_173_55 : hm_code 173 55 = some (.iload_n 1) := by decide +kernel
theorem k_173_56 : hm_code 173 56 = some (.iaload) := by decide +kernel
theorem k_173_57 : hm_code 173 57 = some (.ireturn) := by decide +kernel
theorem k_173_58 : hm_code 173 58 = some (.aload_n 0) := by decide +kernel
theorem k_173_59 : hm_code 173 59 = some (.getfield 60) := by decide +kernel
theorem k_173_62 : hm_code 173 62 = some (.iload_n 1) := by decide +kernel
theorem k_173_63 : hm_code 173 63 = some (.iaload) := by decide +kernel
theorem k_173_64 : hm_code 173 64 = some (.ireturn) := by decide +kernel
theorem k_173_65 : hm_code 173 65 = some (.aload_n 0) := by decide +kernel
theorem k_173_66 : hm_code 173 66 = some (.getfield 63) := by decide +kernel
theorem k_173_69 : hm_code 173 69 = some (.iload_n 1) := by decide +kernel
theorem k_173_70 : hm_code 173 70 = some (.iaload) := by decide +kernel
theorem k_173_71 : hm_code 173 71 = some (.ireturn) := by decide +kernel
theorem k_173_72 : hm_code 173 72 = some (.sipush (-1002)) := by decide +kernel
theorem k_173_75 : hm_code 173 75 = some (.ireturn) := by decide +kernel
end
section
theorem m_174 : hm_mtab[174]? = some (x, code, maxLocals, ret, 19, 1, 0) := rfl
theorem k_174_0 : hm_code 174 0 = some (.new 7) := by decide +kernel
theorem k_174_3 : hm_code 174 3 = some (.dup) := by decide +kernel
theorem k_174_4 : hm_code 174 4 = some (.invokespecial 9) := by decide +kernel
theorem k_174_7 : hm_code 174 7 = some (.astore_n 1) := by decide +kernel
theorem k_174_8 : hm_code 174 8 = some (.new 10) := by decide +kernel
theorem k_174_11 : hm_code 174 11 = some (.dup) := by decide +kernel
theorem k_174_12 : hm_code 174 12 = some (.invokespecial 12) := by decide +kernel
theorem k_174_15 : hm_code 174 15 = some (.astore_n 2) := by decide +kernel
theorem k_174_16 : hm_code 174 16 = some (.iconst 0) := by decide +kernel
theorem k_174_17 : hm_code 174 17 = some (.istore_n 3) := by decide +kernel
theorem k_174_18 : hm_code 174 18 = some (.iload_n 3) := by decide +kernel
theorem k_174_19 : hm_code 174 19 = some (.aload_n 0) := by decide +kernel
theorem k_174_20 : hm_code 174 20 = some (.arraylength) := by decide +kernel
theorem k_174_21 : hm_code 174 21 = some (.iconst 5) := by decide +kernel
theorem k_174_22 : hm_code 174 22 = some (.isub) := by decide +kernel
theorem k_174_23 : hm_code 174 23 = some (.if_icmp .gt 902) := by decide +kernel
theorem k_174_26 : hm_code 174 26 = some (.aload_n 0) := by decide +kernel
theorem k_174_27 : hm_code 174 27 = some (.iload_n 3) := by decide +kernel
theorem k_174_28 : hm_code 174 28 = some (.iaload) := by decide +kernel
theorem k_174_29 : hm_code 174 29 = some (.bipush 31) := by decide +kernel
theorem k_174_31 : hm_code 174 31 = some (.iand) := by decide +kernel
theorem k_174_32 : hm_code 174 32 = some (.tableswitch 887 0 22 #[108, 141, 174, 197, 260, 283, 296, 339, 392, 435, 478, 521, 564, 597, 640, 673, 696, 719, 752, 775, 798, 831, 854]) := by decide +kernel
theorem k_174_140 : hm_code 174 140 = some (.aload_n 1) := by decide +kernel
theorem k_174_141 : hm_code 174 141 = some (.aload_n 0) := by decide +kernel
theorem k_174_142 : hm_code 174 142 = some (.iload_n 3) := by decide +kernel
theorem k_174_143 : hm_code 174 143 = some (.iconst 1) := by decide +kernel
theorem k_174_144 : hm_code 174 144 = some (.iadd) := by decide +kernel
theorem k_174_145 : hm_code 174 145 = some (.iaload) := by decide +kernel
theorem k_174_146 : hm_code 174 146 = some (.aload_n 0) := by decide +kernel
theorem k_174_147 : hm_code 174 147 = some (.iload_n 3) := by decide +kernel
theorem k_174_148 : hm_code 174 148 = some (.iconst 2) := by decide +kernel
theorem k_174_149 : hm_code 174 149 = some (.iadd) := by decide +kernel
theorem k_174_150 : hm_code 174 150 = some (.iaload) := by decide +kernel
theorem k_174_151 : hm_code 174 151 = some (.invokevirtual 13) := by decide +kernel
theorem k_174_154 : hm_code 174 154 = some (.aload_n 2) := by decide +kernel
theorem k_174_155 : hm_code 174 155 = some (.aload_n 0) := by decide +kernel
theorem k_174_156 : hm_code 174 156 = some (.iload_n 3) := by decide +kernel
theorem k_174_157 : hm_code 174 157 = some (.iconst 1) := by decide +kernel
theorem k_174_158 : hm_code 174 158 = some (.iadd) := by decide +kernel
theorem k_174_159 : hm_code 174 159 = some (.iaload) := by decide +kernel
theorem k_174_160 : hm_code 174 160 = some (.aload_n 0) := by decide +kernel
theorem k_174_161 : hm_code 174 161 = some (.iload_n 3) := by decide +kernel
theorem k_174_162 : hm_code 174 162 = some (.iconst 2) := by decide +kernel
theorem k_174_163 : hm_code 174 163 = some (.iadd) := by decide +kernel
theorem k_174_164 : hm_code 174 164 = some (.iaload) := by decide +kernel
theorem k_174_165 : hm_code 174 165 = some (.invokevirtual 17) := by decide +kernel
theorem k_174_168 : hm_code 174 168 = some (.if_icmp .eq 751) := by decide +kernel
theorem k_174_171 : hm_code 174 171 = some (.iconst 0) := by decide +kernel
theorem k_174_172 : hm_code 174 172 = some (.ireturn) := by decide +kernel
theorem k_174_173 : hm_code 174 173 = some (.aload_n 1) := by decide +kernel
theorem k_174_174 : hm_code 174 174 = some (.aload_n 0) := by decide +kernel
theorem k_174_175 : hm_code 174 175 = some (.iload_n 3) := by decide +kernel
theorem k_174_176 : hm_code 174 176 = some (.iconst 1) := by decide +kernel
theorem k_174_177 : hm_code 174 177 = some (.iadd) := by decide +kernel
theorem k_174_178 : hm_code 174 178 = some (.iaload) := by decide +kernel
theorem k_174_179 : hm_code 174 179 = some (.aload_n 0) := by decide +kernel
theorem k_174_180 : hm_code 174 180 = some (.iload_n 3) := by decide +kernel
theorem k_174_181 : hm_code 174 181 = some (.iconst 2) := by decide +kernel
theorem k_174_182 : hm_code 174 182 = some (.iadd) := by decide +kernel
theorem k_174_183 : hm_code 174 183 = some (.iaload) := by decide +kernel
theorem k_174_184 : hm_code 174 184 = some (.invokevirtual 18) := by decide +kernel
theorem k_174_187 : hm_code 174 187 = some (.aload_n 2) := by decide +kernel
theorem k_174_188 : hm_code 174 188 = some (.aload_n 0) := by decide +kernel
theorem k_174_189 : hm_code 174 189 = some (.iload_n 3) := by decide +kernel
theorem k_174_190 : hm_code 174 190 = some (.iconst 1) := by decide +kernel
theorem k_174_191 : hm_code 174 191 = some (.iadd) := by decide +kernel
theorem k_174_192 : hm_code 174 192 = some (.iaload) := by decide +kernel
theorem k_174_193 : hm_code 174 193 = some (.aload_n 0) := by decide +kernel
theorem k_174_194 : hm_code 174 194 = some (.iload_n 3) := by decide +kernel
theorem k_174_195 : hm_code 174 195 = some (.iconst 2) := by decide +kernel
theorem k_174_196 : hm_code 174 196 = some (.iadd) := by decide +kernel
theorem k_174_197 : hm_code 174 197 = some (.iaload) := by decide +kernel
theorem k_174_198 : hm_code 174 198 = some (.invokevirtual 21) := by decide +kernel
theorem k_174_201 : hm_code 174 201 = some (.if_icmp .eq 718) := by decide +kernel
theorem k_174_204 : hm_code 174 204 = some (.iconst 0) := by decide +kernel
theorem k_174_205 : hm_code 174 205 = some (.ireturn) := by decide +kernel
theorem k_174_206 : hm_code 174 206 = some (.aload_n 1) := by decide +kernel
theorem k_174_207 : hm_code 174 207 = some (.aload_n 0) := by decide +kernel
theorem k_174_208 : hm_code 174 208 = some (.iload_n 3) := by decide +kernel
theorem k_174_209 : hm_code 174 209 = some (.iconst 1) := by decide +kernel
theorem k_174_210 : hm_code 174 210 = some (.iadd) := by decide +kernel
theorem k_174_211 : hm_code 174 211 = some (.iaload) := by decide +kernel
theorem k_174_212 : hm_code 174 212 = some (.invokevirtual 22) := by decide +kernel
theorem k_174_215 : hm_code 174 215 = some (.aload_n 2) := by decide +kernel
theorem k_174_216 : hm_code 174 216 = some (.aload_n 0) := by decide +kernel
theorem k_174_217 : hm_code 174 217 = some (.iload_n 3) := by decide +kernel
theorem k_174_218 : hm_code 174 218 = some (.iconst 1) := by decide +kernel
theorem k_174_219 : hm_code 174 219 = some (.iadd) := by decide +kernel
theorem k_174_220 : hm_code 174 220 = some (.iaload) := by decide +kernel
theorem k_174_221 : hm_code 174 221 = some (.invokevirtual 26) := by decide +kernel
theorem k_174_224 : hm_code 174 224 = some (.if_icmp .eq 695) := by decide +kernel
theorem k_174_227 : hm_code 174 227 = some (.iconst 0) := by decide +kernel
theorem k_174_228 : hm_code 174 228 = some (.ireturn) := by decide +kernel
theorem k_174_229 : hm_code 174 229 = some (.aload_n 1) := by decide +kernel
theorem k_174_230 : hm_code 174 230 = some (.aload_n 0) := by decide +kernel
theorem k_174_231 : hm_code 174 231 = some (.iload_n 3) := by decide +kernel
theorem k_174_232 : hm_code 174 232 = some (.iconst 1) := by decide +kernel
theorem k_174_233 : hm_code 174 233 = some (.iadd) := by decide +kernel
theorem k_174_234 : hm_code 174 234 = some (.iaload) := by decide +kernel
theorem k_174_235 : hm_code 174 235 = some (.aload_n 0) := by decide +kernel
theorem k_174_236 : hm_code 174 236 = some (.iload_n 3) := by decide +kernel
theorem k_174_237 : hm_code 174 237 = some (.iconst 2) := by decide +kernel
theorem k_174_238 : hm_code 174 238 = some (.iadd) := by decide +kernel
theorem k_174_239 : hm_code 174 239 = some (.iaload) := by decide +kernel
theorem k_174_240 : hm_code 174 240 = some (.i2l) := by decide +kernel
theorem k_174_241 : hm_code 174 241 = some (.bipush 32) := by decide +kernel
theorem k_174_243 : hm_code 174 243 = some (.lshl) := by decide +kernel
theorem k_174_244 : hm_code 174 244 = some (.aload_n 0) := by decide +kernel
theorem k_174_245 : hm_code 174 245 = some (.iload_n 3) := by decide +kernel
theorem k_174_246 : hm_code 174 246 = some (.iconst 3) := by decide +kernel
theorem k_174_247 : hm_code 174 247 = some (.iadd) := by decide +kernel
theorem k_174_248 : hm_code 174 248 = some (.iaload) := by decide +kernel
theorem k_174_249 : hm_code 174 249 = some (.i2l) := by decide +kernel
theorem k_174_250 : hm_code 174 250 = some (.ldc2_w 27) := by decide +kernel
theorem k_174_253 : hm_code 174 253 = some (.land) := by decide +kernel
theorem k_174_254 : hm_code 174 254 = some (.lor) := by decide +kernel
theorem k_174_255 : hm_code 174 255 = some (.invokevirtual 29) := by decide +kernel
theorem k_174_258 : hm_code 174 258 = some (.aload_n 2) := by decide +kernel
theorem k_174_259 : hm_code 174 259 = some (.aload_n 0) := by decide +kernel
theorem k_174_260 : hm_code 174 260 = some (.iload_n 3) := by decide +kernel
theorem k_174_261 : hm_code 174 261 = some (.iconst 1) := by decide +kernel
theorem k_174_262 : hm_code 174 262 = some (.iadd) := by decide +kernel
theorem k_174_263 : hm_code 174 263 = some (.iaload) := by decide +kernel
theorem k_174_264 : hm_code 174 264 = some (.aload_n 0) := by decide +kernel
theorem k_174_265 : hm_code 174 265 = some (.iload_n 3) := by decide +kernel
theorem k_174_266 : hm_code 174 266 = some (.iconst 2) := by decide +kernel
theorem k_174_267 : hm_code 174 267 = some (.iadd) := by decide +kernel
theorem k_174_268 : hm_code 174 268 = some (.iaload) := by decide +kernel
theorem k_174_269 : hm_code 174 269 = some (.i2l) := by decide +kernel
theorem k_174_270 : hm_code 174 270 = some (.bipush 32) := by decide +kernel
theorem k_174_272 : hm_code 174 272 = some (.lshl) := by decide +kernel
theorem k_174_273 : hm_code 174 273 = some (.aload_n 0) := by decide +kernel
theorem k_174_274 : hm_code 174 274 = some (.iload_n 3) := by decide +kernel
theorem k_174_275 : hm_code 174 275 = some (.iconst 3) := by decide +kernel
theorem k_174_276 : hm_code 174 276 = some (.iadd) := by decide +kernel
theorem k_174_277 : hm_code 174 277 = some (.iaload) := by decide +kernel
theorem k_174_278 : hm_code 174 278 = some (.i2l) := by decide +kernel
theorem k_174_279 : hm_code 174 279 = some (.ldc2_w 27) := by decide +kernel
theorem k_174_282 : hm_code 174 282 = some (.land) := by decide +kernel
theorem k_174_283 : hm_code 174 283 = some (.lor) := by decide +kernel
theorem k_174_284 : hm_code 174 284 = some (.invokevirtual 33) := by decide +kernel
theorem k_174_287 : hm_code 174 287 = some (.if_icmp .eq 632) := by decide +kernel
theorem k_174_290 : hm_code 174 290 = some (.iconst 0) := by decide +kernel
theorem k_174_291 : hm_code 174 291 = some (.ireturn) := by decide +kernel
theorem k_174_292 : hm_code 174 292 = some (.aload_n 1) := by decide +kernel
theorem k_174_293 : hm_code 174 293 = some (.aload_n 0) := by decide +kernel
theorem k_174_294 : hm_code 174 294 = some (.iload_n 3) := by decide +kernel
theorem k_174_295 : hm_code 174 295 = some (.iconst 1) := by decide +kernel
theorem k_174_296 : hm_code 174 296 = some (.iadd) := by decide +kernel
theorem k_174_297 : hm_code 174 297 = some (.iaload) := by decide +kernel
theorem k_174_298 : hm_code 174 298 = some (.invokevirtual 34) := by decide +kernel
theorem k_174_301 : hm_code 174 301 = some (.aload_n 2) := by decide +kernel
theorem k_174_302 : hm_code 174 302 = some (.aload_n 0) := by decide +kernel
theorem k_174_303 : hm_code 174 303 = some (.iload_n 3) := by decide +kernel
theorem k_174_304 : hm_code 174 304 = some (.iconst 1) := by decide +kernel
theorem k_174_305 : hm_code 174 305 = some (.iadd) := by decide +kernel
theorem k_174_306 : hm_code 174 306 = some (.iaload) := by decide +kernel
theorem k_174_307 : hm_code 174 307 = some (.invokevirtual 37) := by decide +kernel
theorem k_174_310 : hm_code 174 310 = some (.if_icmp .eq 609) := by decide +kernel
theorem k_174_313 : hm_code 174 313 = some (.iconst 0) := by decide +kernel
theorem k_174_314 : hm_code 174 314 = some (.ireturn) := by decide +kernel
theorem k_174_315 : hm_code 174 315 = some (.aload_n 1) := by decide +kernel
theorem k_174_316 : hm_code 174 316 = some (.invokevirtual 38) := by decide +kernel
theorem k_174_319 : hm_code 174 319 = some (.aload_n 2) := by decide +kernel
theorem k_174_320 : hm_code 174 320 = some (.invokevirtual 42) := by decide +kernel
theorem k_174_323 : hm_code 174 323 = some (.if_icmp .eq 596) := by decide +kernel
theorem k_174_326 : hm_code 174 326 = some (.iconst 0) := by decide +kernel
theorem k_174_327 : hm_code 174 327 = some (.ireturn) := by decide +kernel
theorem k_174_328 : hm_code 174 328 = some (.aload_n 1) := by decide +kernel
theorem k_174_329 : hm_code 174 329 = some (.aload_n 0) := by decide +kernel
theorem k_174_330 : hm_code 174 330 = some (.iload_n 3) := by decide +kernel
theorem k_174_331 : hm_code 174 331 = some (.iconst 1) := by decide +kernel
theorem k_174_332 : hm_code 174 332 = some (.iadd) := by decide +kernel
theorem k_174_333 : hm_code 174 333 = some (.iaload) := by decide +kernel
theorem k_174_334 : hm_code 174 334 = some (.aload_n 0) := by decide +kernel
theorem k_174_335 : hm_code 174 335 = some (.iload_n 3) := by decide +kernel
theorem k_174_336 : hm_code 174 336 = some (.iconst 2) := by decide +kernel
theorem k_174_337 : hm_code 174 337 = some (.iadd) := by decide +kernel
theorem k_174_338 : hm_code 174 338 = some (.iaload) := by decide +kernel
theorem k_174_339 : hm_code 174 339 = some (.aload_n 0) := by decide +kernel
theorem k_174_340 : hm_code 174 340 = some (.iload_n 3) := by decide +kernel
theorem k_174_341 : hm_code 174 341 = some (.iconst 3) := by decide +kernel
theorem k_174_342 : hm_code 174 342 = some (.iadd) := by decide +kernel
theorem k_174_343 : hm_code 174 343 = some (.iaload) := by decide +kernel
theorem k_174_344 : hm_code 174 344 = some (.invokevirtual 43) := by decide +kernel
theorem k_174_347 : hm_code 174 347 = some (.aload_n 2) := by decide +kernel
theorem k_174_348 : hm_code 174 348 = some (.aload_n 0) := by decide +kernel
theorem k_174_349 : hm_code 174 349 = some (.iload_n 3) := by decide +kernel
theorem k_174_350 : hm_code 174 350 = some (.iconst 1) := by decide +kernel
theorem k_174_351 : hm_code 174 351 = some (.iadd) := by decide +kernel
theorem k_174_352 : hm_code 174 352 = some (.iaload) := by decide +kernel
theorem k_174_353 : hm_code 174 353 = some (.aload_n 0) := by decide +kernel
theorem k_174_354 : hm_code 174 354 = some (.iload_n 3) := by decide +kernel
theorem k_174_355 : hm_code 174 355 = some (.iconst 2) := by decide +kernel
theorem k_174_356 : hm_code 174 356 = some (.iadd) := by decide +kernel
theorem k_174_357 : hm_code 174 357 = some (.iaload) := by decide +kernel
theorem k_174_358 : hm_code 174 358 = some (.aload_n 0) := by decide +kernel
theorem k_174_359 : hm_code 174 359 = some (.iload_n 3) := by decide +kernel
theorem k_174_360 : hm_code 174 360 = some (.iconst 3) := by decide +kernel
theorem k_174_361 : hm_code 174 361 = some (.iadd) := by decide +kernel
theorem k_174_362 : hm_code 174 362 = some (.iaload) := by decide +kernel
theorem k_174_363 : hm_code 174 363 = some (.invokevirtual 47) := by decide +kernel
theorem k_174_366 : hm_code 174 366 = some (.if_icmp .eq 553) := by decide +kernel
theorem k_174_369 : hm_code 174 369 = some (.iconst 0) := by decide +kernel
theorem k_174_370 : hm_code 174 370 = some (.ireturn) := by decide +kernel
theorem k_174_371 : hm_code 174 371 = some (.aload_n 1) := by decide +kernel
theorem k_174_372 : hm_code 174 372 = some (.aload_n 0) := by decide +kernel
theorem k_174_373 : hm_code 174 373 = some (.iload_n 3) := by decide +kernel
theorem k_174_374 : hm_code 174 374 = some (.iconst 1) := by decide +kernel
theorem k_174_375 : hm_code 174 375 = some (.iadd) := by decide +kernel
theorem k_174_376 : hm_code 174 376 = some (.iaload) := by decide +kernel
theorem k_174_377 : hm_code 174 377 = some (.aload_n 0) := by decide +kernel
theorem k_174_378 : hm_code 174 378 = some (.iload_n 3) := by decide +kernel
theorem k_174_379 : hm_code 174 379 = some (.iconst 2) := by decide +kernel
theorem k_174_380 : hm_code 174 380 = some (.iadd) := by decide +kernel
theorem k_174_381 : hm_code 174 381 = some (.iaload) := by decide +kernel
theorem k_174_382 : hm_code 174 382 = some (.aload_n 0) := by decide +kernel
theorem k_174_383 : hm_code 174 383 = some (.iload_n 3) := by decide +kernel
theorem k_174_384 : hm_code 174 384 = some (.iconst 3) := by decide +kernel
theorem k_174_385 : hm_code 174 385 = some (.iadd) := by decide +kernel
theorem k_174_386 : hm_code 174 386 = some (.iaload) := by decide +kernel
theorem k_174_387 : hm_code 174 387 = some (.aload_n 0) := by decide +kernel
theorem k_174_388 : hm_code 174 388 = some (.iload_n 3) := by decide +kernel
theorem k_174_389 : hm_code 174 389 = some (.iconst 4) := by decide +kernel
theorem k_174_390 : hm_code 174 390 = some (.iadd) := by decide +kernel
theorem k_174_391 : hm_code 174 391 = some (.iaload) := by decide +kernel
theorem k_174_392 : hm_code 174 392 = some (.invokevirtual 48) := by decide +kernel
theorem k_174_395 : hm_code 174 395 = some (.aload_n 2) := by decide +kernel
theorem k_174_396 : hm_code 174 396 = some (.aload_n 0) := by decide +kernel
theorem k_174_397 : hm_code 174 397 = some (.iload_n 3) := by decide +kernel
theorem k_174_398 : hm_code 174 398 = some (.iconst 1) := by decide +kernel
theorem k_174_399 : hm_code 174 399 = some (.iadd) := by decide +kernel
theorem k_174_400 : hm_code 174 400 = some (.iaload) := by decide +kernel
theorem k_174_401 : hm_code 174 401 = some (.aload_n 0) := by decide +kernel
theorem k_174_402 : hm_code 174 402 = some (.iload_n 3) := by decide +kernel
theorem k_174_403 : hm_code 174 403 = some (.iconst 2) := by decide +kernel
theorem k_174_404 : hm_code 174 404 = some (.iadd) := by decide +kernel
theorem k_174_405 : hm_code 174 405 = some (.iaload) := by decide +kernel
theorem k_174_406 : hm_code 174 406 = some (.aload_n 0) := by decide +kernel
theorem k_174_407 : hm_code 174 407 = some (.iload_n 3) := by decide +kernel
theorem k_174_408 : hm_code 174 408 = some (.iconst 3) := by decide +kernel
theorem k_174_409 : hm_code 174 409 = some (.iadd) := by decide +kernel
theorem k_174_410 : hm_code 174 410 = some (.iaload) := by decide +kernel
theorem k_174_411 : hm_code 174 411 = some (.aload_n 0) := by decide +kernel
theorem k_174_412 : hm_code 174 412 = some (.iload_n 3) := by decide +kernel
theorem k_174_413 : hm_code 174 413 = some (.iconst 4) := by decide +kernel
theorem k_174_414 : hm_code 174 414 = some (.iadd) := by decide +kernel
theorem k_174_415 : hm_code 174 415 = some (.iaload) := by decide +kernel
theorem k_174_416 : hm_code 174 416 = some (.invokevirtual 52) := by decide +kernel
theorem k_174_419 : hm_code 174 419 = some (.if_icmp .eq 500) := by decide +kernel
theorem k_174_422 : hm_code 174 422 = some (.iconst 0) := by decide +kernel
theorem k_174_423 : hm_code 174 423 = some (.ireturn) := by decide +kernel
theorem k_174_424 : hm_code 174 424 = some (.aload_n 1) := by decide +kernel
theorem k_174_425 : hm_code 174 425 = some (.aload_n 0) := by decide +kernel
theorem k_174_426 : hm_code 174 426 = some (.iload_n 3) := by decide +kernel
theorem k_174_427 : hm_code 174 427 = some (.iconst 1) := by decide +kernel
theorem k_174_428 : hm_code 174 428 = some (.iadd) := by decide +kernel
theorem k_174_429 : hm_code 174 429 = some (.iaload) := by decide +kernel
theorem k_174_430 : hm_code 174 430 = some (.aload_n 0) := by decide +kernel
theorem k_174_431 : hm_code 174 431 = some (.iload_n 3) := by decide +kernel
theorem k_174_432 : hm_code 174 432 = some (.iconst 2) := by decide +kernel
theorem k_174_433 : hm_code 174 433 = some (.iadd) := by decide +kernel
theorem k_174_434 : hm_code 174 434 = some (.iaload) := by decide +kernel
theorem k_174_435 : hm_code 174 435 = some (.aload_n 0) := by decide +kernel
theorem k_174_436 : hm_code 174 436 = some (.iload_n 3) := by decide +kernel
theorem k_174_437 : hm_code 174 437 = some (.iconst 3) := by decide +kernel
theorem k_174_438 : hm_code 174 438 = some (.iadd) := by decide +kernel
theorem k_174_439 : hm_code 174 439 = some (.iaload) := by decide +kernel
theorem k_174_440 : hm_code 174 440 = some (.invokevirtual 53) := by decide +kernel
theorem k_174_443 : hm_code 174 443 = some (.aload_n 2) := by decide +kernel
theorem k_174_444 : hm_code 174 444 = some (.aload_n 0) := by decide +kernel
theorem k_174_445 : hm_code 174 445 = some (.iload_n 3) := by decide +kernel
theorem k_174_446 : hm_code 174 446 = some (.iconst 1) := by decide +kernel
theorem k_174_447 : hm_code 174 447 = some (.iadd) := by decide +kernel
theorem k_174_448 : hm_code 174 448 = some (.iaload) := by decide +kernel
theorem k_174_449 : hm_code 174 449 = some (.aload_n 0) := by decide +kernel
theorem k_174_450 : hm_code 174 450 = some (.iload_n 3) := by decide +kernel
theorem k_174_451 : hm_code 174 451 = some (.iconst 2) := by decide +kernel
theorem k_174_452 : hm_code 174 452 = some (.iadd) := by decide +kernel
theorem k_174_453 : hm_code 174 453 = some (.iaload) := by decide +kernel
theorem k_174_454 : hm_code 174 454 = some (.aload_n 0) := by decide +kernel
theorem k_174_455 : hm_code 174 455 = some (.iload_n 3) := by decide +kernel
theorem k_174_456 : hm_code 174 456 = some (.iconst 3) := by decide +kernel
theorem k_174_457 : hm_code 174 457 = some (.iadd) := by decide +kernel
theorem k_174_458 : hm_code 174 458 = some (.iaload) := by decide +kernel
theorem k_174_459 : hm_code 174 459 = some (.invokevirtual 56) := by decide +kernel
theorem k_174_462 : hm_code 174 462 = some (.if_icmp .eq 457) := by decide +kernel
theorem k_174_465 : hm_code 174 465 = some (.iconst 0) := by decide +kernel
theorem k_174_466 : hm_code 174 466 = some (.ireturn) := by decide +kernel
theorem k_174_467 : hm_code 174 467 = some (.aload_n 1) := by decide +kernel
theorem k_174_468 : hm_code 174 468 = some (.aload_n 0) := by decide +kernel
theorem k_174_469 : hm_code 174 469 = some (.iload_n 3) := by decide +kernel
theorem k_174_470 : hm_code 174 470 = some (.iconst 1) := by decide +kernel
theorem k_174_471 : hm_code 174 471 = some (.iadd) := by decide +kernel
theorem k_174_472 : hm_code 174 472 = some (.iaload) := by decide +kernel
theorem k_174_473 : hm_code 174 473 = some (.aload_n 0) := by decide +kernel
theorem k_174_474 : hm_code 174 474 = some (.iload_n 3) := by decide +kernel
theorem k_174_475 : hm_code 174 475 = some (.iconst 2) := by decide +kernel
theorem k_174_476 : hm_code 174 476 = some (.iadd) := by decide +kernel
theorem k_174_477 : hm_code 174 477 = some (.iaload) := by decide +kernel
theorem k_174_478 : hm_code 174 478 = some (.aload_n 0) := by decide +kernel
theorem k_174_479 : hm_code 174 479 = some (.iload_n 3) := by decide +kernel
theorem k_174_480 : hm_code 174 480 = some (.iconst 3) := by decide +kernel
theorem k_174_481 : hm_code 174 481 = some (.iadd) := by decide +kernel
theorem k_174_482 : hm_code 174 482 = some (.iaload) := by decide +kernel
theorem k_174_483 : hm_code 174 483 = some (.invokevirtual 57) := by decide +kernel
theorem k_174_486 : hm_code 174 486 = some (.aload_n 2) := by decide +kernel
theorem k_174_487 : hm_code 174 487 = some (.aload_n 0) := by decide +kernel
theorem k_174_488 : hm_code 174 488 = some (.iload_n 3) := by decide +kernel
theorem k_174_489 : hm_code 174 489 = some (.iconst 1) := by decide +kernel
theorem k_174_490 : hm_code 174 490 = some (.iadd) := by decide +kernel
theorem k_174_491 : hm_code 174 491 = some (.iaload) := by decide +kernel
theorem k_174_492 : hm_code 174 492 = some (.aload_n 0) := by decide +kernel
theorem k_174_493 : hm_code 174 493 = some (.iload_n 3) := by decide +kernel
theorem k_174_494 : hm_code 174 494 = some (.iconst 2) := by decide +kernel
theorem k_174_495 : hm_code 174 495 = some (.iadd) := by decide +kernel
theorem k_174_496 : hm_code 174 496 = some (.iaload) := by decide +kernel
theorem k_174_497 : hm_code 174 497 = some (.aload_n 0) := by decide +kernel
theorem k_174_498 : hm_code 174 498 = some (.iload_n 3) := by decide +kernel
theorem k_174_499 : hm_code 174 499 = some (.iconst 3) := by decide +kernel
theorem k_174_500 : hm_code 174 500 = some (.iadd) := by decide +kernel
theorem k_174_501 : hm_code 174 501 = some (.iaload) := by decide +kernel
theorem k_174_502 : hm_code 174 502 = some (.invokevirtual 60) := by decide +kernel
theorem k_174_505 : hm_code 174 505 = some (.if_icmp .eq 414) := by decide +kernel
theorem k_174_508 : hm_code 174 508 = some (.iconst 0) := by decide +kernel
theorem k_174_509 : hm_code 174 509 = some (.ireturn) := by decide +kernel
theorem k_174_510 : hm_code 174 510 = some (.aload_n 1) := by decide +kernel
theorem k_174_511 : hm_code 174 511 = some (.aload_n 0) := by decide +kernel
theorem k_174_512 : hm_code 174 512 = some (.iload_n 3) := by decide +kernel
theorem k_174_513 : hm_code 174 513 = some (.iconst 1) := by decide +kernel
theorem k_174_514 : hm_code 174 514 = some (.iadd) := by decide +kernel
theorem k_174_515 : hm_code 174 515 = some (.iaload) := by decide +kernel
theorem k_174_516 : hm_code 174 516 = some (.aload_n 0) := by decide +kernel
theorem k_174_517 : hm_code 174 517 = some (.iload_n 3) := by decide +kernel
theorem k_174_518 : hm_code 174 518 = some (.iconst 2) := by decide +kernel
theorem k_174_519 : hm_code 174 519 = some (.iadd) := by decide +kernel
theorem k_174_520 : hm_code 174 520 = some (.iaload) := by decide +kernel
theorem k_174_521 : hm_code 174 521 = some (.aload_n 0) := by decide +kernel
theorem k_174_522 : hm_code 174 522 = some (.iload_n 3) := by decide +kernel
theorem k_174_523 : hm_code 174 523 = some (.iconst 3) := by decide +kernel
theorem k_174_524 : hm_code 174 524 = some (.iadd) := by decide +kernel
theorem k_174_525 : hm_code 174 525 = some (.iaload) := by decide +kernel
theorem k_174_526 : hm_code 174 526 = some (.invokevirtual 61) := by decide +kernel
theorem k_174_529 : hm_code 174 529 = some (.aload_n 2) := by decide +kernel
theorem k_174_530 : hm_code 174 530 = some (.aload_n 0) := by decide +kernel
theorem k_174_531 : hm_code 174 531 = some (.iload_n 3) := by decide +kernel
theorem k_174_532 : hm_code 174 532 = some (.iconst 1) := by decide +kernel
theorem k_174_533 : hm_code 174 533 = some (.iadd) := by decide +kernel
theorem k_174_534 : hm_code 174 534 = some (.iaload) := by decide +kernel
theorem k_174_535 : hm_code 174 535 = some (.aload_n 0) := by decide +kernel
theorem k_174_536 : hm_code 174 536 = some (.iload_n 3) := by decide +kernel
theorem k_174_537 : hm_code 174 537 = some (.iconst 2) := by decide +kernel
theorem k_174_538 : hm_code 174 538 = some (.iadd) := by decide +kernel
theorem k_174_539 : hm_code 174 539 = some (.iaload) := by decide +kernel
theorem k_174_540 : hm_code 174 540 = some (.aload_n 0) := by decide +kernel
theorem k_174_541 : hm_code 174 541 = some (.iload_n 3) := by decide +kernel
theorem k_174_542 : hm_code 174 542 = some (.iconst 3) := by decide +kernel
theorem k_174_543 : hm_code 174 543 = some (.iadd) := by decide +kernel
theorem k_174_544 : hm_code 174 544 = some (.iaload) := by decide +kernel
theorem k_174_545 : hm_code 174 545 = some (.invokevirtual 64) := by decide +kernel
theorem k_174_548 : hm_code 174 548 = some (.if_icmp .eq 371) := by decide +kernel
theorem k_174_551 : hm_code 174 551 = some (.iconst 0) := by decide +kernel
theorem k_174_552 : hm_code 174 552 = some (.ireturn) := by decide +kernel
theorem k_174_553 : hm_code 174 553 = some (.aload_n 1) := by decide +kernel
theorem k_174_554 : hm_code 174 554 = some (.aload_n 0) := by decide +kernel
theorem k_174_555 : hm_code 174 555 = some (.iload_n 3) := by decide +kernel
theorem k_174_556 : hm_code 174 556 = some (.iconst 1) := by decide +kernel
theorem k_174_557 : hm_code 174 557 = some (.iadd) := by decide +kernel
theorem k_174_558 : hm_code 174 558 = some (.iaload) := by decide +kernel
theorem k_174_559 : hm_code 174 559 = some (.aload_n 0) := by decide +kernel
theorem k_174_560 : hm_code 174 560 = some (.iload_n 3) := by decide +kernel
theorem k_174_561 : hm_code 174 561 = some (.iconst 2) := by decide +kernel
theorem k_174_562 : hm_code 174 562 = some (.iadd) := by decide +kernel
theorem k_174_563 : hm_code 174 563 = some (.iaload) := by decide +kernel
theorem k_174_564 : hm_code 174 564 = some (.aload_n 0) := by decide +kernel
theorem k_174_565 : hm_code 174 565 = some (.iload_n 3) := by decide +kernel
theorem k_174_566 : hm_code 174 566 = some (.iconst 3) := by decide +kernel
theorem k_174_567 : hm_code 174 567 = some (.iadd) := by decide +kernel
theorem k_174_568 : hm_code 174 568 = some (.iaload) := by decide +kernel
theorem k_174_569 : hm_code 174 569 = some (.invokevirtual 65) := by decide +kernel
theorem k_174_572 : hm_code 174 572 = some (.aload_n 2) := by decide +kernel
theorem k_174_573 : hm_code 174 573 = some (.aload_n 0) := by decide +kernel
theorem k_174_574 : hm_code 174 574 = some (.iload_n 3) := by decide +kernel
theorem k_174_575 : hm_code 174 575 = some (.iconst 1) := by decide +kernel
theorem k_174_576 : hm_code 174 576 = some (.iadd) := by decide +kernel
theorem k_174_577 : hm_code 174 577 = some (.iaload) := by decide +kernel
theorem k_174_578 : hm_code 174 578 = some (.aload_n 0) := by decide +kernel
theorem k_174_579 : hm_code 174 579 = some (.iload_n 3) := by decide +kernel
theorem k_174_580 : hm_code 174 580 = some (.iconst 2) := by decide +kernel
theorem k_174_581 : hm_code 174 581 = some (.iadd) := by decide +kernel
theorem k_174_582 : hm_code 174 582 = some (.iaload) := by decide +kernel
theorem k_174_583 : hm_code 174 583 = some (.aload_n 0) := by decide +kernel
theorem k_174_584 : hm_code 174 584 = some (.iload_n 3) := by decide +kernel
theorem k_174_585 : hm_code 174 585 = some (.iconst 3) := by decide +kernel
theorem k_174_586 : hm_code 174 586 = some (.iadd) := by decide +kernel
theorem k_174_587 : hm_code 174 587 = some (.iaload) := by decide +kernel
theorem k_174_588 : hm_code 174 588 = some (.invokevirtual 68) := by decide +kernel
theorem k_174_591 : hm_code 174 591 = some (.if_icmp .eq 328) := by decide +kernel
theorem k_174_594 : hm_code 174 594 = some (.iconst 0) := by decide +kernel
theorem k_174_595 : hm_code 174 595 = some (.ireturn) := by decide +kernel
theorem k_174_596 : hm_code 174 596 = some (.aload_n 1) := by decide +kernel
theorem k_174_597 : hm_code 174 597 = some (.aload_n 0) := by decide +kernel
theorem k_174_598 : hm_code 174 598 = some (.iload_n 3) := by decide +kernel
theorem k_174_599 : hm_code 174 599 = some (.iconst 1) := by decide +kernel
theorem k_174_600 : hm_code 174 600 = some (.iadd) := by decide +kernel
theorem k_174_601 : hm_code 174 601 = some (.iaload) := by decide +kernel
theorem k_174_602 : hm_code 174 602 = some (.aload_n 0) := by decide +kernel
theorem k_174_603 : hm_code 174 603 = some (.iload_n 3) := by decide +kernel
theorem k_174_604 : hm_code 174 604 = some (.iconst 2) := by decide +kernel
theorem k_174_605 : hm_code 174 605 = some (.iadd) := by decide +kernel
theorem k_174_606 : hm_code 174 606 = some (.iaload) := by decide +kernel
theorem k_174_607 : hm_code 174 607 = some (.invokevirtual 69) := by decide +kernel
theorem k_174_610 : hm_code 174 610 = some (.aload_n 2) := by decide +kernel
theorem k_174_611 : hm_code 174 611 = some (.aload_n 0) := by decide +kernel
theorem k_174_612 : hm_code 174 612 = some (.iload_n 3) := by decide +kernel
theorem k_174_613 : hm_code 174 613 = some (.iconst 1) := by decide +kernel
theorem k_174_614 : hm_code 174 614 = some (.iadd) := by decide +kernel
theorem k_174_615 : hm_code 174 615 = some (.iaload) := by decide +kernel
theorem k_174_616 : hm_code 174 616 = some (.aload_n 0) := by decide +kernel
theorem k_174_617 : hm_code 174 617 = some (.iload_n 3) := by decide +kernel
theorem k_174_618 : hm_code 174 618 = some (.iconst 2) := by decide +kernel
theorem k_174_619 : hm_code 174 619 = some (.iadd) := by decide +kernel
theorem k_174_620 : hm_code 174 620 = some (.iaload) := by decide +kernel
theorem k_174_621 : hm_code 174 621 = some (.invokevirtual 72) := by decide +kernel
theorem k_174_624 : hm_code 174 624 = some (.if_icmp .eq 295) := by decide +kernel
theorem k_174_627 : hm_code 174 627 = some (.iconst 0) := by decide +kernel
theorem k_174_628 : hm_code 174 628 = some (.ireturn) := by decide +kernel
theorem k_174_629 : hm_code 174 629 = some (.aload_n 1) := by decide +kernel
theorem k_174_630 : hm_code 174 630 = some (.aload_n 0) := by decide +kernel
theorem k_174_631 : hm_code 174 631 = some (.iload_n 3) := by decide +kernel
theorem k_174_632 : hm_code 174 632 = some (.iconst 1) := by decide +kernel
theorem k_174_633 : hm_code 174 633 = some (.iadd) := by decide +kernel
theorem k_174_634 : hm_code 174 634 = some (.iaload) := by decide +kernel
theorem k_174_635 : hm_code 174 635 = some (.aload_n 0) := by decide +kernel
theorem k_174_636 : hm_code 174 636 = some (.iload_n 3) := by decide +kernel
theorem k_174_637 : hm_code 174 637 = some (.iconst 2) := by decide +kernel
theorem k_174_638 : hm_code 174 638 = some (.iadd) := by decide +kernel
theorem k_174_639 : hm_code 174 639 = some (.iaload) := by decide +kernel
theorem k_174_640 : hm_code 174 640 = some (.aload_n 0) := by decide +kernel
theorem k_174_641 : hm_code 174 641 = some (.iload_n 3) := by decide +kernel
theorem k_174_642 : hm_code 174 642 = some (.iconst 3) := by decide +kernel
theorem k_174_643 : hm_code 174 643 = some (.iadd) := by decide +kernel
theorem k_174_644 : hm_code 174 644 = some (.iaload) := by decide +kernel
theorem k_174_645 : hm_code 174 645 = some (.invokevirtual 73) := by decide +kernel
theorem k_174_648 : hm_code 174 648 = some (.aload_n 2) := by decide +kernel
theorem k_174_649 : hm_code 174 649 = some (.aload_n 0) := by decide +kernel
theorem k_174_650 : hm_code 174 650 = some (.iload_n 3) := by decide +kernel
theorem k_174_651 : hm_code 174 651 = some (.iconst 1) := by decide +kernel
theorem k_174_652 : hm_code 174 652 = some (.iadd) := by decide +kernel
theorem k_174_653 : hm_code 174 653 = some (.iaload) := by decide +kernel
theorem k_174_654 : hm_code 174 654 = some (.aload_n 0) := by decide +kernel
theorem k_174_655 : hm_code 174 655 = some (.iload_n 3) := by decide +kernel
theorem k_174_656 : hm_code 174 656 = some (.iconst 2) := by decide +kernel
theorem k_174_657 : hm_code 174 657 = some (.iadd) := by decide +kernel
theorem k_174_658 : hm_code 174 658 = some (.iaload) := by decide +kernel
theorem k_174_659 : hm_code 174 659 = some (.aload_n 0) := by decide +kernel
theorem k_174_660 : hm_code 174 660 = some (.iload_n 3) := by decide +kernel
theorem k_174_661 : hm_code 174 661 = some (.iconst 3) := by decide +kernel
theorem k_174_662 : hm_code 174 662 = some (.iadd) := by decide +kernel
theorem k_174_663 : hm_code 174 663 = some (.iaload) := by decide +kernel
theorem k_174_664 : hm_code 174 664 = some (.invokevirtual 76) := by decide +kernel
theorem k_174_667 : hm_code 174 667 = some (.if_icmp .eq 252) := by decide +kernel
theorem k_174_670 : hm_code 174 670 = some (.iconst 0) := by decide +kernel
theorem k_174_671 : hm_code 174 671 = some (.ireturn) := by decide +kernel
theorem k_174_672 : hm_code 174 672 = some (.aload_n 1) := by decide +kernel
theorem k_174_673 : hm_code 174 673 = some (.aload_n 0) := by decide +kernel
theorem k_174_674 : hm_code 174 674 = some (.iload_n 3) := by decide +kernel
theorem k_174_675 : hm_code 174 675 = some (.iconst 1) := by decide +kernel
theorem k_174_676 : hm_code 174 676 = some (.iadd) := by decide +kernel
theorem k_174_677 : hm_code 174 677 = some (.iaload) := by decide +kernel
theorem k_174_678 : hm_code 174 678 = some (.aload_n 0) := by decide +kernel
theorem k_174_679 : hm_code 174 679 = some (.iload_n 3) := by decide +kernel
theorem k_174_680 : hm_code 174 680 = some (.iconst 2) := by decide +kernel
theorem k_174_681 : hm_code 174 681 = some (.iadd) := by decide +kernel
theorem k_174_682 : hm_code 174 682 = some (.iaload) := by decide +kernel
theorem k_174_683 : hm_code 174 683 = some (.invokevirtual 77) := by decide +kernel
theorem k_174_686 : hm_code 174 686 = some (.aload_n 2) := by decide +kernel
theorem k_174_687 : hm_code 174 687 = some (.aload_n 0) := by decide +kernel
theorem k_174_688 : hm_code 174 688 = some (.iload_n 3) := by decide +kernel
theorem k_174_689 : hm_code 174 689 = some (.iconst 1) := by decide +kernel
theorem k_174_690 : hm_code 174 690 = some (.iadd) := by decide +kernel
theorem k_174_691 : hm_code 174 691 = some (.iaload) := by decide +kernel
theorem k_174_692 : hm_code 174 692 = some (.aload_n 0) := by decide +kernel
theorem k_174_693 : hm_code 174 693 = some (.iload_n 3) := by decide +kernel
theorem k_174_694 : hm_code 174 694 = some (.iconst 2) := by decide +kernel
theorem k_174_695 : hm_code 174 695 = some (.iadd) := by decide +kernel
theorem k_174_696 : hm_code 174 696 = some (.iaload) := by decide +kernel
theorem k_174_697 : hm_code 174 697 = some (.invokevirtual 80) := by decide +kernel
theorem k_174_700 : hm_code 174 700 = some (.if_icmp .eq 219) := by decide +kernel
theorem k_174_703 : hm_code 174 703 = some (.iconst 0) := by decide +kernel
theorem k_174_704 : hm_code 174 704 = some (.ireturn) := by decide +kernel
theorem k_174_705 : hm_code 174 705 = some (.aload_n 1) := by decide +kernel
theorem k_174_706 : hm_code 174 706 = some (.aload_n 0) := by decide +kernel
theorem k_174_707 : hm_code 174 707 = some (.iload_n 3) := by decide +kernel
theorem k_174_708 : hm_code 174 708 = some (.iconst 1) := by decide +kernel
theorem k_174_709 : hm_code 174 709 = some (.iadd) := by decide +kernel
theorem k_174_710 : hm_code 174 710 = some (.iaload) := by decide +kernel
theorem k_174_711 : hm_code 174 711 = some (.invokevirtual 81) := by decide +kernel
theorem k_174_714 : hm_code 174 714 = some (.aload_n 2) := by decide +kernel
theorem k_174_715 : hm_code 174 715 = some (.aload_n 0) := by decide +kernel
theorem k_174_716 : hm_code 174 716 = some (.iload_n 3) := by decide +kernel
theorem k_174_717 : hm_code 174 717 = some (.iconst 1) := by decide +kernel
theorem k_174_718 : hm_code 174 718 = some (.iadd) := by decide +kernel
theorem k_174_719 : hm_code 174 719 = some (.iaload) := by decide +kernel
theorem k_174_720 : hm_code 174 720 = some (.invokevirtual 84) := by decide +kernel
theorem k_174_723 : hm_code 174 723 = some (.if_icmp .eq 196) := by decide +kernel
theorem k_174_726 : hm_code 174 726 = some (.iconst 0) := by decide +kernel
theorem k_174_727 : hm_code 174 727 = some (.ireturn) := by decide +kernel
theorem k_174_728 : hm_code 174 728 = some (.aload_n 1) := by decide +kernel
theorem k_174_729 : hm_code 174 729 = some (.aload_n 0) := by decide +kernel
theorem k_174_730 : hm_code 174 730 = some (.iload_n 3) := by decide +kernel
theorem k_174_731 : hm_code 174 731 = some (.iconst 1) := by decide +kernel
theorem k_174_732 : hm_code 174 732 = some (.iadd) := by decide +kernel
theorem k_174_733 : hm_code 174 733 = some (.iaload) := by decide +kernel
theorem k_174_734 : hm_code 174 734 = some (.invokevirtual 85) := by decide +kernel
theorem k_174_737 : hm_code 174 737 = some (.aload_n 2) := by decide +kernel
theorem k_174_738 : hm_code 174 738 = some (.aload_n 0) := by decide +kernel
theorem k_174_739 : hm_code 174 739 = some (.iload_n 3) := by decide +kernel
theorem k_174_740 : hm_code 174 740 = some (.iconst 1) := by decide +kernel
theorem k_174_741 : hm_code 174 741 = some (.iadd) := by decide +kernel
theorem k_174_742 : hm_code 174 742 = some (.iaload) := by decide +kernel
theorem k_174_743 : hm_code 174 743 = some (.invokevirtual 88) := by decide +kernel
theorem k_174_746 : hm_code 174 746 = some (.if_icmp .eq 173) := by decide +kernel
theorem k_174_749 : hm_code 174 749 = some (.iconst 0) := by decide +kernel
theorem k_174_750 : hm_code 174 750 = some (.ireturn) := by decide +kernel
theorem k_174_751 : hm_code 174 751 = some (.aload_n 1) := by decide +kernel
theorem k_174_752 : hm_code 174 752 = some (.aload_n 0) := by decide +kernel
theorem k_174_753 : hm_code 174 753 = some (.iload_n 3) := by decide +kernel
theorem k_174_754 : hm_code 174 754 = some (.iconst 1) := by decide +kernel
theorem k_174_755 : hm_code 174 755 = some (.iadd) := by decide +kernel
theorem k_174_756 : hm_code 174 756 = some (.iaload) := by decide +kernel
theorem k_174_757 : hm_code 174 757 = some (.aload_n 0) := by decide +kernel
theorem k_174_758 : hm_code 174 758 = some (.iload_n 3) := by decide +kernel
theorem k_174_759 : hm_code 174 759 = some (.iconst 2) := by decide +kernel
theorem k_174_760 : hm_code 174 760 = some (.iadd) := by decide +kernel
theorem k_174_761 : hm_code 174 761 = some (.iaload) := by decide +kernel
theorem k_174_762 : hm_code 174 762 = some (.invokevirtual 89) := by decide +kernel
theorem k_174_765 : hm_code 174 765 = some (.aload_n 2) := by decide +kernel
theorem k_174_766 : hm_code 174 766 = some (.aload_n 0) := by decide +kernel
theorem k_174_767 : hm_code 174 767 = some (.iload_n 3) := by decide +kernel
theorem k_174_768 : hm_code 174 768 = some (.iconst 1) := by decide +kernel
theorem k_174_769 : hm_code 174 769 = some (.iadd) := by decide +kernel
theorem k_174_770 : hm_code 174 770 = some (.iaload) := by decide +kernel
theorem k_174_771 : hm_code 174 771 = some (.aload_n 0) := by decide +kernel
theorem k_174_772 : hm_code 174 772 = some (.iload_n 3) := by decide +kernel
theorem k_174_773 : hm_code 174 773 = some (.iconst 2) := by decide +kernel
theorem k_174_774 : hm_code 174 774 = some (.iadd) := by decide +kernel
theorem k_174_775 : hm_code 174 775 = some (.iaload) := by decide +kernel
theorem k_174_776 : hm_code 174 776 = some (.invokevirtual 92) := by decide +kernel
theorem k_174_779 : hm_code 174 779 = some (.if_icmp .eq 140) := by decide +kernel
theorem k_174_782 : hm_code 174 782 = some (.iconst 0) := by decide +kernel
theorem k_174_783 : hm_code 174 783 = some (.ireturn) := by decide +kernel
theorem k_174_784 : hm_code 174 784 = some (.aload_n 1) := by decide +kernel
theorem k_174_785 : hm_code 174 785 = some (.aload_n 0) := by decide +kernel
theorem k_174_786 : hm_code 174 786 = some (.iload_n 3) := by decide +kernel
theorem k_174_787 : hm_code 174 787 = some (.iconst 1) := by decide +kernel
theorem k_174_788 : hm_code 174 788 = some (.iadd) := by decide +kernel
theorem k_174_789 : hm_code 174 789 = some (.iaload) := by decide +kernel
theorem k_174_790 : hm_code 174 790 = some (.invokevirtual 93) := by decide +kernel
theorem k_174_793 : hm_code 174 793 = some (.aload_n 2) := by decide +kernel
theorem k_174_794 : hm_code 174 794 = some (.aload_n 0) := by decide +kernel
theorem k_174_795 : hm_code 174 795 = some (.iload_n 3) := by decide +kernel
theorem k_174_796 : hm_code 174 796 = some (.iconst 1) := by decide +kernel
theorem k_174_797 : hm_code 174 797 = some (.iadd) := by decide +kernel
theorem k_174_798 : hm_code 174 798 = some (.iaload) := by decide +kernel
theorem k_174_799 : hm_code 174 799 = some (.invokevirtual 96) := by decide +kernel
theorem k_174_802 : hm_code 174 802 = some (.if_icmp .eq 117) := by decide +kernel
theorem k_174_805 : hm_code 174 805 = some (.iconst 0) := by decide +kernel
theorem k_174_806 : hm_code 174 806 = some (.ireturn) := by decide +kernel
theorem k_174_807 : hm_code 174 807 = some (.aload_n 1) := by decide +kernel
theorem k_174_808 : hm_code 174 808 = some (.aload_n 0) := by decide +kernel
theorem k_174_809 : hm_code 174 809 = some (.iload_n 3) := by decide +kernel
theorem k_174_810 : hm_code 174 810 = some (.iconst 1) := by decide +kernel
theorem k_174_811 : hm_code 174 811 = some (.iadd) := by decide +kernel
theorem k_174_812 : hm_code 174 812 = some (.iaload) := by decide +kernel
theorem k_174_813 : hm_code 174 813 = some (.invokevirtual 97) := by decide +kernel
theorem k_174_816 : hm_code 174 816 = some (.aload_n 2) := by decide +kernel
theorem k_174_817 : hm_code 174 817 = some (.aload_n 0) := by decide +kernel
theorem k_174_818 : hm_code 174 818 = some (.iload_n 3) := by decide +kernel
theorem k_174_819 : hm_code 174 819 = some (.iconst 1) := by decide +kernel
theorem k_174_820 : hm_code 174 820 = some (.iadd) := by decide +kernel
theorem k_174_821 : hm_code 174 821 = some (.iaload) := by decide +kernel
theorem k_174_822 : hm_code 174 822 = some (.invokevirtual 100) := by decide +kernel
theorem k_174_825 : hm_code 174 825 = some (.if_icmp .eq 94) := by decide +kernel
theorem k_174_828 : hm_code 174 828 = some (.iconst 0) := by decide +kernel
theorem k_174_829 : hm_code 174 829 = some (.ireturn) := by decide +kernel
theorem k_174_830 : hm_code 174 830 = some (.aload_n 1) := by decide +kernel
theorem k_174_831 : hm_code 174 831 = some (.aload_n 0) := by decide +kernel
theorem k_174_832 : hm_code 174 832 = some (.iload_n 3) := by decide +kernel
theorem k_174_833 : hm_code 174 833 = some (.iconst 1) := by decide +kernel
theorem k_174_834 : hm_code 174 834 = some (.iadd) := by decide +kernel
theorem k_174_835 : hm_code 174 835 = some (.iaload) := by decide +kernel
theorem k_174_836 : hm_code 174 836 = some (.aload_n 0) := by decide +kernel
theorem k_174_837 : hm_code 174 837 = some (.iload_n 3) := by decide +kernel
theorem k_174_838 : hm_code 174 838 = some (.iconst 2) := by decide +kernel
theorem k_174_839 : hm_code 174 839 = some (.iadd) := by decide +kernel
theorem k_174_840 : hm_code 174 840 = some (.iaload) := by decide +kernel
theorem k_174_841 : hm_code 174 841 = some (.invokevirtual 101) := by decide +kernel
theorem k_174_844 : hm_code 174 844 = some (.aload_n 2) := by decide +kernel
theorem k_174_845 : hm_code 174 845 = some (.aload_n 0) := by decide +kernel
theorem k_174_846 : hm_code 174 846 = some (.iload_n 3) := by decide +kernel
theorem k_174_847 : hm_code 174 847 = some (.iconst 1) := by decide +kernel
theorem k_174_848 : hm_code 174 848 = some (.iadd) := by decide +kernel
theorem k_174_849 : hm_code 174 849 = some (.iaload) := by decide +kernel
theorem k_174_850 : hm_code 174 850 = some (.aload_n 0) := by decide +kernel
theorem k_174_851 : hm_code 174 851 = some (.iload_n 3) := by decide +kernel
theorem k_174_852 : hm_code 174 852 = some (.iconst 2) := by decide +kernel
theorem k_174_853 : hm_code 174 853 = some (.iadd) := by decide +kernel
theorem k_174_854 : hm_code 174 854 = some (.iaload) := by decide +kernel
theorem k_174_855 : hm_code 174 855 = some (.invokevirtual 104) := by decide +kernel
theorem k_174_858 : hm_code 174 858 = some (.if_icmp .eq 61) := by decide +kernel
theorem k_174_861 : hm_code 174 861 = some (.iconst 0) := by decide +kernel
theorem k_174_862 : hm_code 174 862 = some (.ireturn) := by decide +kernel
theorem k_174_863 : hm_code 174 863 = some (.aload_n 1) := by decide +kernel
theorem k_174_864 : hm_code 174 864 = some (.aload_n 0) := by decide +kernel
theorem k_174_865 : hm_code 174 865 = some (.iload_n 3) := by decide +kernel
theorem k_174_866 : hm_code 174 866 = some (.iconst 1) := by decide +kernel
theorem k_174_867 : hm_code 174 867 = some (.iadd) := by decide +kernel
theorem k_174_868 : hm_code 174 868 = some (.iaload) := by decide +kernel
theorem k_174_869 : hm_code 174 869 = some (.invokevirtual 105) := by decide +kernel
theorem k_174_872 : hm_code 174 872 = some (.aload_n 2) := by decide +kernel
theorem k_174_873 : hm_code 174 873 = some (.aload_n 0) := by decide +kernel
theorem k_174_874 : hm_code 174 874 = some (.iload_n 3) := by decide +kernel
theorem k_174_875 : hm_code 174 875 = some (.iconst 1) := by decide +kernel
theorem k_174_876 : hm_code 174 876 = some (.iadd) := by decide +kernel
theorem k_174_877 : hm_code 174 877 = some (.iaload) := by decide +kernel
theorem k_174_878 : hm_code 174 878 = some (.invokevirtual 108) := by decide +kernel
theorem k_174_881 : hm_code 174 881 = some (.if_icmp .eq 38) := by decide +kernel
theorem k_174_884 : hm_code 174 884 = some (.iconst 0) := by decide +kernel
theorem k_174_885 : hm_code 174 885 = some (.ireturn) := by decide +kernel
theorem k_174_886 : hm_code 174 886 = some (.aload_n 1) := by decide +kernel
theorem k_174_887 : hm_code 174 887 = some (.aload_n 0) := by decide +kernel
theorem k_174_888 : hm_code 174 888 = some (.iload_n 3) := by decide +kernel
theorem k_174_889 : hm_code 174 889 = some (.iconst 1) := by decide +kernel
theorem k_174_890 : hm_code 174 890 = some (.iadd) := by decide +kernel
theorem k_174_891 : hm_code 174 891 = some (.iaload) := by decide +kernel
theorem k_174_892 : hm_code 174 892 = some (.aload_n 0) := by decide +kernel
theorem k_174_893 : hm_code 174 893 = some (.iload_n 3) := by decide +kernel
theorem k_174_894 : hm_code 174 894 = some (.iconst 2) := by decide +kernel
theorem k_174_895 : hm_code 174 895 = some (.iadd) := by decide +kernel
theorem k_174_896 : hm_code 174 896 = some (.iaload) := by decide +kernel
theorem k_174_897 : hm_code 174 897 = some (.invokevirtual 109) := by decide +kernel
theorem k_174_900 : hm_code 174 900 = some (.aload_n 2) := by decide +kernel
theorem k_174_901 : hm_code 174 901 = some (.aload_n 0) := by decide +kernel
theorem k_174_902 : hm_code 174 902 = some (.iload_n 3) := by decide +kernel
theorem k_174_903 : hm_code 174 903 = some (.iconst 1) := by decide +kernel
theorem k_174_904 : hm_code 174 904 = some (.iadd) := by decide +kernel
theorem k_174_905 : hm_code 174 905 = some (.iaload) := by decide +kernel
theorem k_174_906 : hm_code 174 906 = some (.aload_n 0) := by decide +kernel
theorem k_174_907 : hm_code 174 907 = some (.iload_n 3) := by decide +kernel
theorem k_174_908 : hm_code 174 908 = some (.iconst 2) := by decide +kernel
theorem k_174_909 : hm_code 174 909 = some (.iadd) := by decide +kernel
theorem k_174_910 : hm_code 174 910 = some (.iaload) := by decide +kernel
theorem k_174_911 : hm_code 174 911 = some (.invokevirtual 112) := by decide +kernel
theorem k_174_914 : hm_code 174 914 = some (.if_icmp .eq 5) := by decide +kernel
theorem k_174_917 : hm_code 174 917 = some (.iconst 0) := by decide +kernel
theorem k_174_918 : hm_code 174 918 = some (.ireturn) := by decide +kernel
theorem k_174_919 : hm_code 174 919 = some (.iinc 3 5) := by decide +kernel
theorem k_174_922 : hm_code 174 922 = some (.goto (-904)) := by decide +kernel
theorem k_174_925 : hm_code 174 925 = some (.iconst 1) := by decide +kernel
theorem k_174_926 : hm_code 174 926 = some (.ireturn) := by decide +kernel
end
section
/-! the abstract heap and locals in the machine's own -/
abbrev hm_E : Type := Nat × (Nat → Nat) × va_G × (Nat → ClassId)
def hm_rho (G : hm_E) (i : Nat) : Nat := if i < 4 then G.2.1 i else G.1 + (i - 4)
def hm_v (G : hm_E) (v : Value) : Value := match v with
  | .ref a => .ref (hm_rho G a)
  | v => v
def hm_a (G : hm_E) (x : vp_A) : vp_A := match x with
  | (n, .inr (.inr (.inr (.inr f)))) => (n, .inr (.inr (.inr (.inr (fun j => (f j).map (hm_rho G))))))
  | x => x
def hm_tys (G : hm_E) : List (ClassId × FieldType) := [(G.2.2.2 0, .int), (G.2.2.2 1, .long), (G.2.2.2 2, .boolean), (G.2.2.2 3, .array .int), (G.2.2.2 4, .array .long), (G.2.2.2 5, .object "HourPromised$Law"), (G.2.2.2 6, .object "java/lang/Object")]
def hm_cell (G : hm_E) (U : State) (H : Heap) (i : Nat) (e : va_E) : Prop := match e with
  | .inr (ci, fs) => 4 ≤ i ∧ va_at G.2.2.1 hm_cls (hm_rho G i, .inr (ci, fs.map (hm_v G))) H
  | .inl (t, x) => (t < 7 ∧ 4 ≤ i ∧ H[hm_rho G i]? = some (vp_cell (G.2.2.2 t) (hm_a G x))) ∨
    (t = 100 ∧ i < 4 ∧ ∃ f : Nat → Int32, x.2 = .inl f ∧ va_T .int (hm_rho G i) x.1 (fun j => .int (f j)) (fun q => G.1 ≤ q) U H) ∨
    (t = 101 ∧ i < 4 ∧ x.1 = 0 ∧ va_T (.object "java/lang/Object") (hm_rho G i) 0 (fun _ => .null) (fun q => G.1 ≤ q) U H)
def hm_R (G : hm_E) (U : State) (hp : hm_H) (H : Heap) : Prop :=
  va_K G.2.2.1 hm_cls (hm_tys G) U ∧ H.size = G.1 + hp.2.1 ∧ (∀ (i : Nat) (e : va_E), hp.1 i = some e → hm_cell G U H i e) ∧ ∀ j : Nat, 0 < j → j < 4 → va_Z (hm_sname j).1 (hm_sname j).2.1 (hm_sname j).2.2 (.ref (G.2.1 j)) (fun q => G.1 ≤ q) U H
theorem hm_rho_new {G : hm_E} {i : Nat} (h : 4 ≤ i) : hm_rho G i = G.1 + (i - 4) := if_neg (by omega)
theorem hm_rho_old {G : hm_E} {i : Nat} (h : i < 4) : hm_rho G i = G.2.1 i := if_pos h
theorem hm_v_cat (G : hm_E) (v : Value) : (hm_v G v).category = v.category := by cases v <;> rfl
theorem hm_cell.kept {G : hm_E} {U : State} {H H1 : Heap} {i : Nat} {e : va_E} (h : hm_cell G U H i e) (hq : H1[hm_rho G i]? = H[hm_rho G i]?) : hm_cell G U H1 i e := by
  cases e with
  | inr o => exact ⟨h.1, h.2.kept hq⟩
  | inl a =>
    rcases h with ⟨h1, h2, h3⟩ | ⟨h1, h2, f, h3, h4⟩ | ⟨h1, h2, h3, h4⟩
    · exact Or.inl ⟨h1, h2, hq.trans h3⟩
    · obtain ⟨cell, g1, g2⟩ := h4
      exact Or.inr (Or.inl ⟨h1, h2, f, h3, cell, hq.trans g1, g2⟩)
    · obtain ⟨cell, g1, g2⟩ := h4
      exact Or.inr (Or.inr ⟨h1, h2, h3, cell, hq.trans g1, g2⟩)
theorem hm_cell.lt {G : hm_E} {U : State} {H : Heap} {i : Nat} {e : va_E} (h : hm_cell G U H i e) : hm_rho G i < H.size := by
  cases e with
  | inr o => exact h.2.lt
  | inl a =>
    rcases h with ⟨h1, h2, h3⟩ | ⟨h1, h2, f, h3, cell, h4, -⟩ | ⟨h1, h2, h3, cell, h4, -⟩
    · exact (Array.getElem?_eq_some_iff.mp h3).1
    · exact (Array.getElem?_eq_some_iff.mp h4).1
    · exact (Array.getElem?_eq_some_iff.mp h4).1
theorem hm_cell.side {G : hm_E} {U : State} {H : Heap} {i : Nat} {e : va_E} (h : hm_cell G U H i e) : 4 ≤ i ∨ hm_rho G i < G.1 := by
  cases e with
  | inr o => exact Or.inl h.1
  | inl a =>
    rcases h with ⟨h1, h2, h3⟩ | ⟨h1, h2, f, h3, cell, g⟩ | ⟨h1, h2, h3, cell, g⟩
    · exact Or.inl h2
    · exact Or.inr (Nat.not_le.mp g.2.2.2.2.2.2)
    · exact Or.inr (Nat.not_le.mp g.2.2.2.2.2.2)
theorem hm_cell.ne {G : hm_E} {U : State} {H : Heap} {i j : Nat} {e : va_E} (h : hm_cell G U H i e) (hj : 4 ≤ j) (hij : i ≠ j) : hm_rho G i ≠ hm_rho G j := by
  rw [hm_rho_new hj]
  rcases h.side with h | h
  · rw [hm_rho_new h]
    omega
  · omega
theorem hm_cell.moved {G : hm_E} {u U : State} {H : Heap} {i : Nat} {e : va_E} (hvm : u.vm.Alike U.vm) (h : hm_cell G u H i e) : hm_cell G U H i e := by
  cases e with
  | inr o => exact h
  | inl a =>
    rcases h with h | ⟨h1, h2, f, h3, h4⟩ | ⟨h1, h2, h3, h4⟩
    · exact Or.inl h
    · exact Or.inr (Or.inl ⟨h1, h2, f, h3, va_T.moved hvm h4⟩)
    · exact Or.inr (Or.inr ⟨h1, h2, h3, va_T.moved hvm h4⟩)
theorem hm_R.moved {G : hm_E} {u U : State} {hp : hm_H} {H : Heap} (hvm : u.vm.Alike U.vm) (h : hm_R G u hp H) : hm_R G U hp H :=
  ⟨va_K.moved hvm h.1, h.2.1, fun i e hi => (h.2.2.1 i e hi).moved hvm, fun j h0 h4 => va_Z.moved hvm (h.2.2.2 j h0 h4)⟩
theorem hm_R.set {G : hm_E} {U : State} {hp : hm_H} {H H1 : Heap} {i : Nat} {e : va_E} (h : hm_R G U hp H) (hi : 4 ≤ i) (hz : H1.size = H.size) (ho : ∀ q : Nat, q ≠ hm_rho G i → H1[q]? = H[q]?) (hc : hm_cell G U H1 i e) : hm_R G U (hm_set hp i e) H1 := by
  refine ⟨h.1, hz.trans h.2.1, fun j x hj => ?_, fun j h0 h4 => (h.2.2.2 j h0 h4).kept fun a _ hA => ho a ?_⟩
  · by_cases hji : j = i
    · subst hji
      have : some e = some x := by simpa [hm_set, hm_up] using hj
      cases this
      exact hc
    · have hj2 : hp.1 j = some x := by simpa [hm_set, hm_up, hji] using hj
      exact (h.2.2.1 j x hj2).kept (ho _ ((h.2.2.1 j x hj2).ne hi hji))
  · rw [hm_rho_new hi]
    intro q
    exact hA (by rw [q]; exact Nat.le_add_right _ _)
theorem hm_R.push {G : hm_E} {U : State} {hp : hm_H} {H H1 : Heap} {n : Nat} {e : va_E} (h : hm_R G U hp H) (hz : H1.size = H.size + 1) (ho : ∀ q : Nat, q < H.size → H1[q]? = H[q]?) (hc : hm_cell G U H1 (hp.2.1 + 4) e) : hm_R G U (hm_push hp e n) H1 := by
  refine ⟨h.1, by rw [hz, h.2.1]; rfl, fun j x hj => ?_, fun j h0 h4 => (h.2.2.2 j h0 h4).kept fun a ha _ => ho a ha⟩
  by_cases hji : j = hp.2.1 + 4
  · subst hji
    have : some e = some x := by simpa [hm_push, hm_up] using hj
    cases this
    exact hc
  · have hj2 : hp.1 j = some x := by simpa [hm_push, hm_up, hji] using hj
    exact (h.2.2.1 j x hj2).kept (ho _ (h.2.2.1 j x hj2).lt)
/-! locals -/
def hm_lq (G : hm_E) (i : Nat) (o : Option Value) : Option (Nat × Value) := match o with
  | some (.retAddr _) => none
  | some v => some (i, hm_v G v)
  | none => none
def hm_ll (G : hm_E) (ls : List Value) : List (Nat × Value) := (List.range ls.length).filterMap fun i => hm_lq G i ls[i]?
theorem hm_ll_mem {G : hm_E} {ls : List Value} {q : Nat × Value} (h : q ∈ hm_ll G ls) : ∃ v, ls[q.1]? = some v ∧ q.2 = hm_v G v := by
  obtain ⟨i, -, hi⟩ := List.mem_filterMap.mp h
  cases hl : ls[i]? with
  | none => rw [hl] at hi; cases hi
  | some v =>
    rw [hl] at hi
    cases v <;> first | (cases hi; done) | (cases hi; exact ⟨_, hl, rfl⟩)
theorem hm_ll_in {G : hm_E} {ls : List Value} {i : Nat} {v : Value} (h : ls[i]? = some v) (hv : ∀ n, v ≠ .retAddr n) : (i, hm_v G v) ∈ hm_ll G ls := by
  refine List.mem_filterMap.mpr ⟨i, List.mem_range.mpr (List.getElem?_eq_some_iff.mp h).1, ?_⟩
  rw [h]
  cases v <;> first | rfl | exact absurd rfl (hv _)
def hm_L (G : hm_E) (la : Array Slot) (ls : List Value) : Prop := lv_has la ls.length (hm_ll G ls)
theorem hm_L.get {G : hm_E} {la : Array Slot} {ls : List Value} (h : hm_L G la ls) {i : Nat} {v : Value} (hi : ls[i]? = some v) (hv : ∀ n, v ≠ .retAddr n) : la[i]? = some (.val (hm_v G v)) := h.2.2 (i, hm_v G v) (hm_ll_in hi hv)
theorem hm_narrow {ls : List Value} {i : Nat} (h : hm_wide ls i = false) {j : Nat} {v : Value} (hj : ls[j]? = some v) (hji : j + 1 = i) : ¬ v.category = 2 := by
  subst hji
  intro hc
  simp [hm_wide, hj, hc] at h
theorem hm_L.st1 {G : hm_E} {la : Array Slot} {ls ls2 : List Value} {i : Nat} {v : Value} (hs : hm_st1 ls i v = some ls2) (h : lv_has la ls.length ((i, hm_v G v) :: (hm_ll G ls).filter (fun q => !(q.1 == i) && !(q.1 + 1 == i && q.2.category == 2)))) : hm_L G la ls2 := by
  unfold hm_st1 at hs
  split at hs
  next hc =>
    cases hs
    obtain ⟨hi, hw⟩ := hc
    refine ⟨by rw [List.length_set]; exact h.1, h.2.1, fun q hq => ?_⟩
    obtain ⟨w, hw1, hw2⟩ := hm_ll_mem hq
    by_cases hqi : q.1 = i
    · rw [hqi, List.getElem?_set_self hi] at hw1
      cases hw1
      have := h.2.2 (i, hm_v G v) List.mem_cons_self
      rw [hqi, hw2]
      exact this
    · rw [List.getElem?_set_ne (fun z => hqi z.symm)] at hw1
      have hq2 : q ∈ hm_ll G ls := by
        have hr : ∀ n, w ≠ .retAddr n := by
          intro n hn
          subst hn
          obtain ⟨k, -, hk⟩ := List.mem_filterMap.mp hq
          cases hl : (ls.set i v)[k]? with
          | none => rw [hl] at hk; cases hk
          | some u =>
            rw [hl] at hk
            cases u <;> first | (cases hk; done) | (cases hk; cases hw2)
        have := hm_ll_in (G := G) hw1 hr
        rw [← hw2] at this
        exact this
      refine h.2.2 q (List.mem_cons_of_mem _ (List.mem_filter.mpr ⟨hq2, ?_⟩))
      simp only [Bool.and_eq_true, Bool.not_eq_true', beq_eq_false_iff_ne, ne_eq, Bool.and_eq_false_iff]
      refine ⟨hqi, ?_⟩
      by_cases hj : q.1 + 1 = i
      · right
        rw [hw2, hm_v_cat]
        exact hm_narrow hw hw1 hj
      · left
        exact hj
  next => cases hs
theorem hm_L.st2 {G : hm_E} {la : Array Slot} {ls ls2 : List Value} {i : Nat} {v : Value} (hs : hm_st2 ls i v = some ls2) (h : lv_has la ls.length ((i, hm_v G v) :: (hm_ll G ls).filter (fun q => !(q.1 == i) && (!(q.1 == i + 1) && !(q.1 + 1 == i && q.2.category == 2))))) : hm_L G la ls2 := by
  unfold hm_st2 at hs
  split at hs
  next hc =>
    cases hs
    obtain ⟨hi, hw⟩ := hc
    refine ⟨by rw [List.length_set, List.length_set]; exact h.1, h.2.1, fun q hq => ?_⟩
    obtain ⟨k, -, hk⟩ := List.mem_filterMap.mp hq
    cases hl : ((ls.set i v).set (i + 1) (.retAddr 0))[k]? with
    | none => rw [hl] at hk; cases hk
    | some w =>
      have hkq : q = (k, hm_v G w) ∧ ∀ n, w ≠ .retAddr n := by
        rw [hl] at hk
        cases w <;> first | (cases hk; done) | (cases hk; exact ⟨rfl, fun n hn => by cases hn⟩)
      obtain ⟨hq2, hr⟩ := hkq
      subst hq2
      by_cases hk1 : k = i + 1
      · subst hk1
        rw [List.getElem?_set_self (by rw [List.length_set]; exact hi)] at hl
        cases hl
        exact absurd rfl (hr 0)
      · rw [List.getElem?_set_ne (fun z => hk1 z.symm)] at hl
        by_cases hki : k = i
        · subst hki
          rw [List.getElem?_set_self (by omega)] at hl
          cases hl
          exact h.2.2 (k, hm_v G v) List.mem_cons_self
        · rw [List.getElem?_set_ne (fun z => hki z.symm)] at hl
          refine h.2.2 (k, hm_v G w) (List.mem_cons_of_mem _ (List.mem_filter.mpr ⟨hm_ll_in hl hr, ?_⟩))
          simp only [Bool.and_eq_true, Bool.not_eq_true', beq_eq_false_iff_ne, ne_eq, Bool.and_eq_false_iff]
          refine ⟨hki, hk1, ?_⟩
          by_cases hj : k + 1 = i
          · right
            rw [hm_v_cat]
            exact hm_narrow hw hl hj
          · left
            exact hj
  next => cases hs
end
section
/-! ONE STEP, instructions that leave the heap as it is -/
def hm_K (p : Program) (l : Launch) (e : Env) (R : Room) (s : State) (m : MethodId) (args : Array Value) (below : List Frame) (meth : Method) (c : Code) (Q : State → Prop) (G : hm_E) (n0 s0 : Nat) (σ : hm_S) : Prop :=
  ∀ (H : Heap) (locs : List Loc) (la : Array Slot), hm_R G s σ.2.2.2 H → hm_L G la σ.2.1 → la.size = c.maxLocals → (∀ q ∈ locs, G.1 ≤ q.base) → W p l e R s m args below meth c H locs (σ.2.2.2.2.1 - n0) (σ.2.2.2.2.2 - s0) Q (F0 m σ.1 la (σ.2.2.1.map (hm_v G)))
theorem hm_lnE {i : Instr} {n k : Nat} (hn : hm_ln i = n ∨ hm_ln i = 0) (hk : hm_ln i = k) (h0 : k ≠ 0) : n = k := by
  rcases hn with h | h
  · exact h.symm.trans hk
  · exact absurd (hk.symm.trans h) h0
theorem hm_jmp_eq {pc t : Nat} {off : Int} (h : hm_jmp pc off = some t) : (pc : Int) + off = (t : Int) := by
  unfold hm_jmp at h
  split at h
  next hc => cases h; omega
  next => cases h
theorem hm_st1_lt {ls l2 : List Value} {i : Nat} {v : Value} (h : hm_st1 ls i v = some l2) : i < ls.length := by
  unfold hm_st1 at h
  split at h
  next hc => exact hc.1
  next => cases h
theorem hm_st2_lt {ls l2 : List Value} {i : Nat} {v : Value} (h : hm_st2 ls i v = some l2) : i + 1 < ls.length := by
  unfold hm_st2 at h
  split at h
  next hc => exact hc.1
  next => cases h
section HMS
variable {p : Program} {l : Launch} {e : Env} {R : Room} {s : State} {m : MethodId} {args : Array Value} {below : List Frame} {meth : Method} {c : Code} {Q : State → Prop}
variable {cc : ByteArray} {pc n n0 s0 : Nat} {i : Instr} {ls st : List Value} {hp : hm_H} {σ : hm_S} {G : hm_E}
set_option maxHeartbeats 1000000 in
theorem hm_o1 (hx : p.tables.exec = Jvm.exec) (hb : c.code = cc) (hd : decode cc pc = .ok (i, n)) (hn : hm_ln i = n ∨ hm_ln i = 0) (h : hm_s1 i pc ls st hp = some σ) (k : hm_K p l e R s m args below meth c Q G n0 s0 σ) : hm_K p l e R s m args below meth c Q G n0 s0 (pc, ls, st, hp) := by
  intro H locs la hR hL hz hf
  unfold hm_s1 at h
  split at h
  · obtain rfl : n = 1 := hm_lnE hn rfl (by decide)
    cases h
    exact lv_iconst hx hb hd rfl (k H locs la hR hL hz hf)
  · obtain rfl : n = 2 := hm_lnE hn rfl (by decide)
    cases h
    exact lv_bipush hx hb hd rfl (k H locs la hR hL hz hf)
  · obtain rfl : n = 3 := hm_lnE hn rfl (by decide)
    cases h
    exact lv_sipush hx hb hd rfl (k H locs la hR hL hz hf)
  · obtain rfl : n = 1 := hm_lnE hn rfl (by decide)
    cases h
    exact lv_lconst hx hb hd rfl (k H locs la hR hL hz hf)
  · obtain rfl : n = 1 := hm_lnE hn rfl (by decide)
    cases h
    exact lv_null hx hb hd (k H locs la hR hL hz hf)
  · obtain rfl : n = 1 := hm_lnE hn rfl (by decide)
    split at h
    next hc =>
      cases h
      exact lv_dup hx hb hd (by rw [hm_v_cat]; exact hc) (k H locs la hR hL hz hf)
    next => cases h
  · obtain rfl : n = 1 := hm_lnE hn rfl (by decide)
    split at h
    next hc =>
      cases h
      exact lv_pop hx hb hd (by rw [hm_v_cat]; exact hc) (k H locs la hR hL hz hf)
    next => cases h
  · obtain rfl : n = 1 := hm_lnE hn rfl (by decide)
    split at h
    next hc =>
      cases h
      exact lv_dup_x1 hx hb hd (by rw [hm_v_cat]; exact hc.1) (by rw [hm_v_cat]; exact hc.2) (k H locs la hR hL hz hf)
    next => cases h
  · obtain rfl : n = 1 := hm_lnE hn rfl (by decide)
    split at h
    next hc =>
      cases h
      exact lv_dup2_11 hx hb hd (by rw [hm_v_cat]; exact hc.1) (by rw [hm_v_cat]; exact hc.2) (k H locs la hR hL hz hf)
    next => cases h
  · cases h
set_option maxHeartbeats 1000000 in
theorem hm_o2 (hx : p.tables.exec = Jvm.exec) (hb : c.code = cc) (hd : decode cc pc = .ok (i, n)) (hn : hm_ln i = n ∨ hm_ln i = 0) (h : hm_s2 i pc ls st hp = some σ) (k : hm_K p l e R s m args below meth c Q G n0 s0 σ) : hm_K p l e R s m args below meth c Q G n0 s0 (pc, ls, st, hp) := by
  intro H locs la hR hL hz hf
  unfold hm_s2 at h
  split at h
  · obtain rfl : n = 1 := hm_lnE hn rfl (by decide)
    cases h
    exact lv_iadd hx hb hd (k H locs la hR hL hz hf)
  · obtain rfl : n = 1 := hm_lnE hn rfl (by decide)
    cases h
    exact lv_isub hx hb hd (k H locs la hR hL hz hf)
  · obtain rfl : n = 1 := hm_lnE hn rfl (by decide)
    cases h
    exact lv_imul hx hb hd (k H locs la hR hL hz hf)
  · obtain rfl : n = 1 := hm_lnE hn rfl (by decide)
    cases h
    exact lv_iand hx hb hd (k H locs la hR hL hz hf)
  · obtain rfl : n = 1 := hm_lnE hn rfl (by decide)
    cases h
    exact lv_ior hx hb hd (k H locs la hR hL hz hf)
  · obtain rfl : n = 1 := hm_lnE hn rfl (by decide)
    cases h
    exact lv_ixor hx hb hd (k H locs la hR hL hz hf)
  · obtain rfl : n = 1 := hm_lnE hn rfl (by decide)
    split at h
    next => cases h
    next hc =>
      cases h
      exact lv_idiv hx hb hd hc (k H locs la hR hL hz hf)
  · obtain rfl : n = 1 := hm_lnE hn rfl (by decide)
    split at h
    next => cases h
    next hc =>
      cases h
      exact lv_irem hx hb hd hc (k H locs la hR hL hz hf)
  · obtain rfl : n = 1 := hm_lnE hn rfl (by decide)
    cases h
    exact lv_ineg hx hb hd (k H locs la hR hL hz hf)
  · obtain rfl : n = 1 := hm_lnE hn rfl (by decide)
    cases h
    exact lv_ishl hx hb hd (k H locs la hR hL hz hf)
  · obtain rfl : n = 1 := hm_lnE hn rfl (by decide)
    cases h
    exact lv_ishr hx hb hd (k H locs la hR hL hz hf)
  · obtain rfl : n = 1 := hm_lnE hn rfl (by decide)
    cases h
    exact lv_iushr hx hb hd rfl (k H locs la hR hL hz hf)
  · obtain rfl : n = 1 := hm_lnE hn rfl (by decide)
    cases h
    exact lv_i2l hx hb hd rfl (k H locs la hR hL hz hf)
  · obtain rfl : n = 1 := hm_lnE hn rfl (by decide)
    cases h
    exact lv_l2i hx hb hd rfl (k H locs la hR hL hz hf)
  · obtain rfl : n = 1 := hm_lnE hn rfl (by decide)
    cases h
    exact lv_ladd hx hb hd (k H locs la hR hL hz hf)
  · obtain rfl : n = 1 := hm_lnE hn rfl (by decide)
    cases h
    exact lv_lmul hx hb hd (k H locs la hR hL hz hf)
  · obtain rfl : n = 1 := hm_lnE hn rfl (by decide)
    split at h
    next => cases h
    next hc =>
      cases h
      exact lv_ldiv hx hb hd hc (k H locs la hR hL hz hf)
  · obtain rfl : n = 1 := hm_lnE hn rfl (by decide)
    cases h
    exact lv_land hx hb hd (k H locs la hR hL hz hf)
  · obtain rfl : n = 1 := hm_lnE hn rfl (by decide)
    cases h
    exact lv_lor hx hb hd (k H locs la hR hL hz hf)
  · obtain rfl : n = 1 := hm_lnE hn rfl (by decide)
    cases h
    exact lv_lshl hx hb hd rfl (k H locs la hR hL hz hf)
  · obtain rfl : n = 1 := hm_lnE hn rfl (by decide)
    cases h
    exact lv_lshr hx hb hd rfl (k H locs la hR hL hz hf)
  · obtain rfl : n = 1 := hm_lnE hn rfl (by decide)
    cases h
    exact lv_lushr hx hb hd rfl (k H locs la hR hL hz hf)
  · obtain rfl : n = 1 := hm_lnE hn rfl (by decide)
    cases h
    exact W.lcmp hx hb hd (k H locs la hR hL hz hf)
  · cases h
set_option maxHeartbeats 1000000 in
theorem hm_o3 (hx : p.tables.exec = Jvm.exec) (hb : c.code = cc) (hd : decode cc pc = .ok (i, n)) (hn : hm_ln i = n ∨ hm_ln i = 0) (h : hm_s3 i pc ls st hp = some σ) (k : hm_K p l e R s m args below meth c Q G n0 s0 σ) : hm_K p l e R s m args below meth c Q G n0 s0 (pc, ls, st, hp) := by
  intro H locs la hR hL hz hf
  unfold hm_s3 at h
  split at h
  · obtain rfl : n = 2 := hm_lnE hn rfl (by decide)
    unfold hm_ldi at h
    split at h
    next x hk =>
      cases h
      exact lv_iload hx hb hd (hL.get hk (fun n hn => by cases hn)) (k H locs la hR hL hz hf)
    next => cases h
  · obtain rfl : n = 1 := hm_lnE hn rfl (by decide)
    unfold hm_ldi at h
    split at h
    next x hk =>
      cases h
      exact lv_iload_n hx hb hd rfl (hL.get hk (fun n hn => by cases hn)) (k H locs la hR hL hz hf)
    next => cases h
  · obtain rfl : n = 2 := hm_lnE hn rfl (by decide)
    unfold hm_ldl at h
    split at h
    next x hk =>
      cases h
      exact lv_lload hx hb hd (hL.get hk (fun n hn => by cases hn)) (k H locs la hR hL hz hf)
    next => cases h
  · obtain rfl : n = 1 := hm_lnE hn rfl (by decide)
    unfold hm_ldl at h
    split at h
    next x hk =>
      cases h
      exact lv_lload_n hx hb hd rfl (hL.get hk (fun n hn => by cases hn)) (k H locs la hR hL hz hf)
    next => cases h
  · obtain rfl : n = 2 := hm_lnE hn rfl (by decide)
    unfold hm_lda at h
    split at h
    next x hk =>
      cases h
      exact lv_aload hx hb hd (hL.get hk (fun n hn => by cases hn)) (k H locs la hR hL hz hf)
    next hk =>
      cases h
      exact lv_aloadN hx hb hd (hL.get hk (fun n hn => by cases hn)) (k H locs la hR hL hz hf)
    next => cases h
  · obtain rfl : n = 1 := hm_lnE hn rfl (by decide)
    unfold hm_lda at h
    split at h
    next x hk =>
      cases h
      exact lv_aload_n hx hb hd rfl (hL.get hk (fun n hn => by cases hn)) (k H locs la hR hL hz hf)
    next hk =>
      cases h
      exact lv_aload_nN hx hb hd rfl (hL.get hk (fun n hn => by cases hn)) (k H locs la hR hL hz hf)
    next => cases h
  · obtain rfl : n = 2 := hm_lnE hn rfl (by decide)
    obtain ⟨l2, h1, h2⟩ := Option.map_eq_some_iff.mp h
    cases h2
    exact lv_istore hx hb hd hL (hm_st1_lt h1) rfl (fun la2 hl2 => k H locs la2 hR (hm_L.st1 h1 hl2) (hl2.1.trans (hL.1.symm.trans hz)) hf)
  · obtain rfl : n = 1 := hm_lnE hn rfl (by decide)
    obtain ⟨l2, h1, h2⟩ := Option.map_eq_some_iff.mp h
    cases h2
    exact lv_istore_n hx hb hd rfl hL (hm_st1_lt h1) rfl (fun la2 hl2 => k H locs la2 hR (hm_L.st1 h1 hl2) (hl2.1.trans (hL.1.symm.trans hz)) hf)
  · obtain rfl : n = 2 := hm_lnE hn rfl (by decide)
    obtain ⟨l2, h1, h2⟩ := Option.map_eq_some_iff.mp h
    cases h2
    exact lv_astore hx hb hd hL (hm_st1_lt h1) rfl (fun la2 hl2 => k H locs la2 hR (hm_L.st1 h1 hl2) (hl2.1.trans (hL.1.symm.trans hz)) hf)
  · obtain rfl : n = 1 := hm_lnE hn rfl (by decide)
    obtain ⟨l2, h1, h2⟩ := Option.map_eq_some_iff.mp h
    cases h2
    exact lv_astore_n hx hb hd rfl hL (hm_st1_lt h1) rfl (fun la2 hl2 => k H locs la2 hR (hm_L.st1 h1 hl2) (hl2.1.trans (hL.1.symm.trans hz)) hf)
  · obtain rfl : n = 2 := hm_lnE hn rfl (by decide)
    obtain ⟨l2, h1, h2⟩ := Option.map_eq_some_iff.mp h
    cases h2
    exact lv_astoreN hx hb hd hL (hm_st1_lt h1) rfl (fun la2 hl2 => k H locs la2 hR (hm_L.st1 h1 hl2) (hl2.1.trans (hL.1.symm.trans hz)) hf)
  · obtain rfl : n = 1 := hm_lnE hn rfl (by decide)
    obtain ⟨l2, h1, h2⟩ := Option.map_eq_some_iff.mp h
    cases h2
    exact lv_astore_nN hx hb hd rfl hL (hm_st1_lt h1) rfl (fun la2 hl2 => k H locs la2 hR (hm_L.st1 h1 hl2) (hl2.1.trans (hL.1.symm.trans hz)) hf)
  · obtain rfl : n = 2 := hm_lnE hn rfl (by decide)
    obtain ⟨l2, h1, h2⟩ := Option.map_eq_some_iff.mp h
    cases h2
    exact lv_lstore hx hb hd hL (hm_st2_lt h1) rfl (fun la2 hl2 => k H locs la2 hR (hm_L.st2 h1 hl2) (hl2.1.trans (hL.1.symm.trans hz)) hf)
  · obtain rfl : n = 1 := hm_lnE hn rfl (by decide)
    obtain ⟨l2, h1, h2⟩ := Option.map_eq_some_iff.mp h
    cases h2
    exact lv_lstore_n hx hb hd rfl hL (hm_st2_lt h1) rfl (fun la2 hl2 => k H locs la2 hR (hm_L.st2 h1 hl2) (hl2.1.trans (hL.1.symm.trans hz)) hf)
  · obtain rfl : n = 3 := hm_lnE hn rfl (by decide)
    split at h
    next x hk =>
      obtain ⟨l2, h1, h2⟩ := Option.map_eq_some_iff.mp h
      cases h2
      obtain ⟨kk, hkk⟩ := List.getElem?_of_mem (hm_ll_in (G := G) hk (fun n hn => by cases hn))
      exact lv_iinc hx hb hd hL hkk rfl (hm_st1_lt h1) rfl (fun la2 hl2 => k H locs la2 hR (hm_L.st1 h1 hl2) (hl2.1.trans (hL.1.symm.trans hz)) hf)
    next => cases h
  · cases h
set_option maxHeartbeats 1000000 in
theorem hm_o4 (hx : p.tables.exec = Jvm.exec) (hb : c.code = cc) (hd : decode cc pc = .ok (i, n)) (hn : hm_ln i = n ∨ hm_ln i = 0) (h : hm_s4 i pc ls st hp = some σ) (k : hm_K p l e R s m args below meth c Q G n0 s0 σ) : hm_K p l e R s m args below meth c Q G n0 s0 (pc, ls, st, hp) := by
  intro H locs la hR hL hz hf
  unfold hm_s4 at h
  split at h
  · obtain rfl : n = 3 := hm_lnE hn rfl (by decide)
    unfold hm_to at h
    obtain ⟨t, ht, h2⟩ := Option.map_eq_some_iff.mp h
    cases h2
    exact lv_goto hx hb hd (hm_jmp_eq ht) (k H locs la hR hL hz hf)
  · obtain rfl : n = 3 := hm_lnE hn rfl (by decide)
    obtain ⟨t, ht, h2⟩ := Option.map_eq_some_iff.mp h
    split at h2
    next hc =>
      cases h2
      exact lv_if_eq hx hb hd (hm_jmp_eq ht) (fun _ => (k H locs la hR hL hz hf)) (fun hq => absurd hc hq)
    next hc =>
      cases h2
      exact lv_if_eq hx hb hd (hm_jmp_eq ht) (fun hq => absurd hq hc) (fun _ => (k H locs la hR hL hz hf))
  · obtain rfl : n = 3 := hm_lnE hn rfl (by decide)
    obtain ⟨t, ht, h2⟩ := Option.map_eq_some_iff.mp h
    split at h2
    next hc =>
      cases h2
      exact lv_if_ne hx hb hd (hm_jmp_eq ht) (fun _ => (k H locs la hR hL hz hf)) (fun hq => absurd hq hc)
    next hc =>
      cases h2
      exact lv_if_ne hx hb hd (hm_jmp_eq ht) (fun hq => absurd hq hc) (fun _ => (k H locs la hR hL hz hf))
  · obtain rfl : n = 3 := hm_lnE hn rfl (by decide)
    obtain ⟨t, ht, h2⟩ := Option.map_eq_some_iff.mp h
    split at h2
    next hc =>
      cases h2
      exact lv_if_lt hx hb hd (hm_jmp_eq ht) (fun _ => (k H locs la hR hL hz hf)) (fun hq => absurd hc hq)
    next hc =>
      cases h2
      exact lv_if_lt hx hb hd (hm_jmp_eq ht) (fun hq => absurd hq hc) (fun _ => (k H locs la hR hL hz hf))
  · obtain rfl : n = 3 := hm_lnE hn rfl (by decide)
    obtain ⟨t, ht, h2⟩ := Option.map_eq_some_iff.mp h
    split at h2
    next hc =>
      cases h2
      exact lv_if_ge hx hb hd (hm_jmp_eq ht) (fun _ => (k H locs la hR hL hz hf)) (fun hq => absurd hc hq)
    next hc =>
      cases h2
      exact lv_if_ge hx hb hd (hm_jmp_eq ht) (fun hq => absurd hq hc) (fun _ => (k H locs la hR hL hz hf))
  · obtain rfl : n = 3 := hm_lnE hn rfl (by decide)
    obtain ⟨t, ht, h2⟩ := Option.map_eq_some_iff.mp h
    split at h2
    next hc =>
      cases h2
      exact lv_if_gt hx hb hd (hm_jmp_eq ht) (fun _ => (k H locs la hR hL hz hf)) (fun hq => absurd hc hq)
    next hc =>
      cases h2
      exact lv_if_gt hx hb hd (hm_jmp_eq ht) (fun hq => absurd hq hc) (fun _ => (k H locs la hR hL hz hf))
  · obtain rfl : n = 3 := hm_lnE hn rfl (by decide)
    obtain ⟨t, ht, h2⟩ := Option.map_eq_some_iff.mp h
    split at h2
    next hc =>
      cases h2
      exact lv_if_le hx hb hd (hm_jmp_eq ht) (fun _ => (k H locs la hR hL hz hf)) (fun hq => absurd hc hq)
    next hc =>
      cases h2
      exact lv_if_le hx hb hd (hm_jmp_eq ht) (fun hq => absurd hq hc) (fun _ => (k H locs la hR hL hz hf))
  · obtain rfl : n = 3 := hm_lnE hn rfl (by decide)
    obtain ⟨t, ht, h2⟩ := Option.map_eq_some_iff.mp h
    split at h2
    next hc =>
      cases h2
      exact lv_icmp_eq hx hb hd (hm_jmp_eq ht) (fun _ => (k H locs la hR hL hz hf)) (fun hq => absurd hc hq)
    next hc =>
      cases h2
      exact lv_icmp_eq hx hb hd (hm_jmp_eq ht) (fun hq => absurd hq hc) (fun _ => (k H locs la hR hL hz hf))
  · obtain rfl : n = 3 := hm_lnE hn rfl (by decide)
    obtain ⟨t, ht, h2⟩ := Option.map_eq_some_iff.mp h
    split at h2
    next hc =>
      cases h2
      exact lv_icmp_ne hx hb hd (hm_jmp_eq ht) (fun _ => (k H locs la hR hL hz hf)) (fun hq => absurd hq hc)
    next hc =>
      cases h2
      exact lv_icmp_ne hx hb hd (hm_jmp_eq ht) (fun hq => absurd hq hc) (fun _ => (k H locs la hR hL hz hf))
  · obtain rfl : n = 3 := hm_lnE hn rfl (by decide)
    obtain ⟨t, ht, h2⟩ := Option.map_eq_some_iff.mp h
    split at h2
    next hc =>
      cases h2
      exact lv_icmp_lt hx hb hd (hm_jmp_eq ht) (fun _ => (k H locs la hR hL hz hf)) (fun hq => absurd hc hq)
    next hc =>
      cases h2
      exact lv_icmp_lt hx hb hd (hm_jmp_eq ht) (fun hq => absurd hq hc) (fun _ => (k H locs la hR hL hz hf))
  · obtain rfl : n = 3 := hm_lnE hn rfl (by decide)
    obtain ⟨t, ht, h2⟩ := Option.map_eq_some_iff.mp h
    split at h2
    next hc =>
      cases h2
      exact lv_icmp_ge hx hb hd (hm_jmp_eq ht) (fun _ => (k H locs la hR hL hz hf)) (fun hq => absurd hc hq)
    next hc =>
      cases h2
      exact lv_icmp_ge hx hb hd (hm_jmp_eq ht) (fun hq => absurd hq hc) (fun _ => (k H locs la hR hL hz hf))
  · obtain rfl : n = 3 := hm_lnE hn rfl (by decide)
    obtain ⟨t, ht, h2⟩ := Option.map_eq_some_iff.mp h
    split at h2
    next hc =>
      cases h2
      exact lv_icmp_gt hx hb hd (hm_jmp_eq ht) (fun _ => (k H locs la hR hL hz hf)) (fun hq => absurd hc hq)
    next hc =>
      cases h2
      exact lv_icmp_gt hx hb hd (hm_jmp_eq ht) (fun hq => absurd hq hc) (fun _ => (k H locs la hR hL hz hf))
  · obtain rfl : n = 3 := hm_lnE hn rfl (by decide)
    obtain ⟨t, ht, h2⟩ := Option.map_eq_some_iff.mp h
    split at h2
    next hc =>
      cases h2
      exact lv_icmp_le hx hb hd (hm_jmp_eq ht) (fun _ => (k H locs la hR hL hz hf)) (fun hq => absurd hc hq)
    next hc =>
      cases h2
      exact lv_icmp_le hx hb hd (hm_jmp_eq ht) (fun hq => absurd hq hc) (fun _ => (k H locs la hR hL hz hf))
  · obtain rfl : n = 3 := hm_lnE hn rfl (by decide)
    unfold hm_to at h
    obtain ⟨t, ht, h2⟩ := Option.map_eq_some_iff.mp h
    cases h2
    exact lv_ifnullN hx hb hd (hm_jmp_eq ht) (k H locs la hR hL hz hf)
  · obtain rfl : n = 3 := hm_lnE hn rfl (by decide)
    cases h
    exact lv_ifnull hx hb hd (k H locs la hR hL hz hf)
  · obtain rfl : n = 3 := hm_lnE hn rfl (by decide)
    unfold hm_to at h
    obtain ⟨t, ht, h2⟩ := Option.map_eq_some_iff.mp h
    cases h2
    exact lv_ifnonnull hx hb hd (hm_jmp_eq ht) (k H locs la hR hL hz hf)
  · obtain rfl : n = 3 := hm_lnE hn rfl (by decide)
    cases h
    exact lv_ifnonnullN hx hb hd (k H locs la hR hL hz hf)
  · obtain rfl : n = 3 := hm_lnE hn rfl (by decide)
    split at h
    next a b r hc =>
      subst hc
      unfold hm_to at h
      obtain ⟨t, ht, h2⟩ := Option.map_eq_some_iff.mp h
      cases h2
      exact lv_acmp_eq (rx := some (hm_rho G _)) (ry := some (hm_rho G _)) hx hb hd (hm_jmp_eq ht) (fun _ => (k H locs la hR hL hz hf)) (fun hq => absurd rfl hq)
    next => cases h
  · obtain rfl : n = 3 := hm_lnE hn rfl (by decide)
    split at h
    next a b r hc =>
      subst hc
      obtain ⟨t, ht, h2⟩ := Option.map_eq_some_iff.mp h
      cases h2
      exact lv_acmp_ne (rx := some (hm_rho G _)) (ry := some (hm_rho G _)) hx hb hd (hm_jmp_eq ht) (fun hq => absurd rfl hq) (fun _ => (k H locs la hR hL hz hf))
    next => cases h
  · split at h
    next hc =>
      unfold hm_to at h
      obtain ⟨t, ht, h2⟩ := Option.map_eq_some_iff.mp h
      cases h2
      exact lv_tableOut hx hb hd hc (hm_jmp_eq ht) (k H locs la hR hL hz hf)
    next hc =>
      split at h
      next off ho =>
        unfold hm_to at h
        obtain ⟨t, ht, h2⟩ := Option.map_eq_some_iff.mp h
        cases h2
        exact lv_tableIn hx hb hd (fun q => hc (Or.inl q)) (fun q => hc (Or.inr q)) ho (hm_jmp_eq ht) (k H locs la hR hL hz hf)
      next => cases h
  · split at h
    next hc =>
      unfold hm_to at h
      obtain ⟨t, ht, h2⟩ := Option.map_eq_some_iff.mp h
      cases h2
      exact lv_lookup hx hb hd hc rfl (hm_jmp_eq ht) (k H locs la hR hL hz hf)
    next => cases h
  · cases h
end HMS
end
section
/-! ONE STEP, instructions that read the heap and the tables -/
def hm_isN (w : Cond) : Bool := match w with
  | .fieldLinkNest _ _ _ _ _ _ => true
  | .methodLinkNest _ _ _ _ => true
  | .castable _ _ => true
  | _ => false
def hm_tb : List Cond := lw_tbl.filter goodWord
def hm_NW (U : State) : Prop := (∀ w ∈ tables_1, hm_isN w = true → va_Nw w U) ∧ va_AO "HourPromised$Law" U ∧ va_AO "java/lang/Object" U ∧ (Cond.arrayOver (.array .int)).before #[] U = true ∧ (Cond.arrayOver (.array .long)).before #[] U = true ∧ (∃ mi : Nat, va_Mi "[Ljava/lang/Object;" mi U) ∧ va_Dc U
def hm_Cx (p : Program) (s : State) (m : MethodId) (args : Array Value) (meth : Method) (c : Code) (q : hm_Q) : Prop :=
  p.tables.exec = Jvm.exec ∧ c.code = q.2.1 ∧ c.maxLocals = q.2.2.1 ∧ meth.sig.returnType = q.2.2.2.1 ∧ meth.locks = false ∧ s.vm.findClass q.1.cls = some m.cls ∧ (q.1.name = "<init>" → meth.name = "<init>") ∧ hm_own[q.2.2.2.2.1]? = some q.1.cls ∧ (∀ w ∈ hm_tb, w.before args s = true) ∧ hm_NW s
theorem hm_tb_of {w : Cond} (h : w ∈ tables_1) (hg : goodWord w = true) : w ∈ hm_tb := List.mem_filter.mpr ⟨List.mem_append_right _ h, hg⟩
theorem hm_lk {β : Type} : ∀ {l : List ((Nat × Nat) × β)} {a : Nat × Nat} {b : β}, l.lookup a = some b → (a, b) ∈ l
  | [], _, _, h => by cases h
  | (x, y) :: l, a, b, h => by
    rw [List.lookup_cons] at h
    split at h
    next hc =>
      cases h
      rw [eq_of_beq hc]
      exact List.mem_cons_self
    next => exact List.mem_cons_of_mem _ (hm_lk h)
theorem hm_one {D : va_G} {cl : List vw_C} {x : Nat × va_E} {H : Heap} (h : va_at D cl x H) : va_P D cl [x] H := by
  intro k q hk
  cases k with
  | zero => cases hk; exact h
  | succ k => cases hk
theorem hm_clsE {P : Nat → vw_C → Prop} (h0 : ∀ k : Nat, k < 10 → ∀ r, hm_cls[k]? = some r → P k r) : ∀ (k : Nat) (r : vw_C), hm_cls[k]? = some r → P k r := by
  intro k r h
  have hk : k < 10 := (List.getElem?_eq_some_iff.mp h).1
  exact h0 k hk r h
theorem hm_lt10 {P : Nat → Prop} (h : P 0 ∧ P 1 ∧ P 2 ∧ P 3 ∧ P 4 ∧ P 5 ∧ P 6 ∧ P 7 ∧ P 8 ∧ P 9) (k : Nat) (hk : k < 10) : P k := by
  obtain ⟨h0, h1, h2, h3, h4, h5, h6, h7, h8, h9⟩ := h
  match k, hk with
  | 0, _ => exact h0
  | 1, _ => exact h1
  | 2, _ => exact h2
  | 3, _ => exact h3
  | 4, _ => exact h4
  | 5, _ => exact h5
  | 6, _ => exact h6
  | 7, _ => exact h7
  | 8, _ => exact h8
  | 9, _ => exact h9
  | k + 10, hk => omega
theorem hm_tyok : ∀ (ci : Nat) (r : vw_C), hm_cls[ci]? = some r → ∀ k, k < r.2.2 → parseFieldDescriptor (r.2.1 k).2.2.1 = some (hm_fty ci k) :=
  hm_clsE (hm_lt10 ⟨fun r h => by cases h; exact hm_ty0, fun r h => by cases h; exact hm_ty1, fun r h => by cases h; exact hm_ty2, fun r h => by cases h; exact hm_ty3, fun r h => by cases h; exact hm_ty4, fun r h => by cases h; exact hm_ty5, fun r h => by cases h; exact hm_ty6, fun r h => by cases h; exact hm_ty7, fun r h => by cases h; exact hm_ty8, fun r h => by cases h; exact hm_ty9⟩)
theorem hm_nmok : ∀ (ci : Nat) (r : vw_C), hm_cls[ci]? = some r → ∀ a, a < r.2.2 → ∀ b, b < r.2.2 → a ≠ b → (r.2.1 a).2.1 ≠ (r.2.1 b).2.1 :=
  hm_clsE (hm_lt10 ⟨fun r h => by cases h; exact hm_n0, fun r h => by cases h; exact hm_n1, fun r h => by cases h; exact hm_n2, fun r h => by cases h; exact hm_n3, fun r h => by cases h; exact hm_n4, fun r h => by cases h; exact hm_n5, fun r h => by cases h; exact hm_n6, fun r h => by cases h; exact hm_n7, fun r h => by cases h; exact hm_n8, fun r h => by cases h; exact hm_n9⟩)
theorem hm_good_lay (C : String) (T : u_T) (k : Nat) : goodWord (u_lay C T k) = true := by
  unfold u_lay
  split <;> rfl
theorem hm_kin {ci : Nat} {r : vw_C} (h : hm_cls[ci]? = some r) : ∀ w ∈ u_ws r.1 r.2.1 r.2.2, w ∈ hm_tb := by
  intro w hw
  have h1 := List.all_eq_true.mp hm_kok r (List.mem_of_getElem? h)
  unfold hm_kchk at h1
  simp only [Bool.and_eq_true] at h1
  have h2 := hm_in_mem (List.all_eq_true.mp h1.1.1 w hw)
  obtain ⟨k, -, rfl⟩ := List.mem_map.mp hw
  exact hm_tb_of h2 (hm_good_lay _ _ _)
theorem hm_kinst {ci : Nat} {r : vw_C} (h : hm_cls[ci]? = some r) : Cond.instantiable r.1 r.2.2 ∈ hm_tb ∧ Cond.initialized r.1 ∈ hm_tb := by
  have h1 := List.all_eq_true.mp hm_kok r (List.mem_of_getElem? h)
  unfold hm_kchk at h1
  simp only [Bool.and_eq_true] at h1
  exact ⟨hm_tb_of (hm_in_mem h1.1.2) rfl, hm_tb_of (hm_in_mem h1.2) rfl⟩
section HMH
variable {p : Program} {l : Launch} {e : Env} {R : Room} {s : State} {m : MethodId} {args : Array Value} {below : List Frame} {meth : Method} {c : Code} {Q : State → Prop}
variable {pc n n0 s0 : Nat} {i : Instr} {ls st : List Value} {hp : hm_H} {σ : hm_S} {G : hm_E} {q : hm_Q}
/-- a field by the pool's entry: the class of its objects, and the word that links it -/
theorem hm_fld (C0 : hm_Cx p s m args meth c q) {ix ci k md w : Nat} (h : hm_ftab.lookup (q.2.2.2.2.1, ix) = some (ci, k, md, w)) : ∃ r : vw_C, hm_cls[ci]? = some r ∧ k < r.2.2 ∧
    ((Cond.fieldLink q.1.cls ix (r.2.1 k).1 (r.2.1 k).2.1 (r.2.1 k).2.2.1).before args s = true ∨ (Cond.fieldLinkNest q.1.cls ix (r.2.1 k).1 (r.2.1 k).2.1 (r.2.1 k).2.2.1 "HourPromised").before args s = true ∨
      ((Cond.fieldLink q.1.cls ix "java/util/ArrayList" (r.2.1 k).2.1 (r.2.1 k).2.2.1).before args s = true ∧ (r.2.1 k).1 = "java/util/AbstractList" ∧ (r.2.1 k).2.1 = "modCount" ∧ (r.2.1 k).2.2.1 = "I")) := by
  obtain ⟨-, -, -, -, -, -, -, hw0, hts, hNW⟩ := C0
  have h1 := List.all_eq_true.mp hm_fok _ (hm_lk h)
  unfold hm_fchk at h1
  dsimp only at h1
  rw [hw0] at h1
  cases hc : hm_cls[ci]? with
  | none => rw [hc] at h1; cases h1
  | some r =>
    rw [hc] at h1
    obtain ⟨C, T, N⟩ := r
    simp only [Bool.and_eq_true, decide_eq_true_eq] at h1
    refine ⟨_, rfl, h1.1, ?_⟩
    match md, h1.2 with
    | 0, h2 => exact Or.inl (hts _ (hm_tb_of (hm_at_mem h2) rfl))
    | 1, h2 => exact Or.inr (Or.inl (va_Nw.use rfl (hNW.1 _ (hm_at_mem h2) rfl)))
    | md + 2, h2 =>
      simp only [Bool.and_eq_true, decide_eq_true_eq] at h2
      exact Or.inr (Or.inr ⟨hts _ (hm_tb_of (hm_at_mem h2.1.1.1) rfl), h2.1.1.2, h2.1.2, h2.2⟩)
theorem hm_nlk (C0 : hm_Cx p s m args meth c q) {ix ci w : Nat} (h : hm_ntab.lookup (q.2.2.2.2.1, ix) = some (ci, w)) : (Cond.classLink q.1.cls ix (hm_nname ci)).before args s = true := by
  obtain ⟨-, -, -, -, -, -, -, hw0, hts, -⟩ := C0
  have h1 := List.all_eq_true.mp hm_nok _ (hm_lk h)
  unfold hm_nchk at h1
  dsimp only at h1
  rw [hw0] at h1
  simp only [Bool.and_eq_true] at h1
  exact hts _ (hm_tb_of (hm_at_mem h1.1) rfl)
theorem hm_nnm {ci : Nat} {r : vw_C} (h : hm_cls[ci]? = some r) : hm_nname ci = r.1 := by
  have hk : ci < 10 := (List.getElem?_eq_some_iff.mp h).1
  exact hm_lt10 (P := fun k => ∀ r, hm_cls[k]? = some r → hm_nname k = r.1) ⟨fun r h => by cases h; rfl, fun r h => by cases h; rfl, fun r h => by cases h; rfl, fun r h => by cases h; rfl, fun r h => by cases h; rfl, fun r h => by cases h; rfl, fun r h => by cases h; rfl, fun r h => by cases h; rfl, fun r h => by cases h; rfl, fun r h => by cases h; rfl⟩ ci hk r h
theorem hm_asame (C0 : hm_Cx p s m args meth c q) {r : vw_C} {k : Nat} (h1 : (r.2.1 k).1 = "java/util/AbstractList") (h2 : (r.2.1 k).2.1 = "modCount") (h3 : (r.2.1 k).2.2.1 = "I") : ∀ x, s.fieldFound? (r.2.1 k).1 (r.2.1 k).2.1 (r.2.1 k).2.2.1 = some x → s.fieldFound? "java/util/ArrayList" (r.2.1 k).2.1 (r.2.1 k).2.2.1 = some x := by
  obtain ⟨-, -, -, -, -, -, -, -, hts, -⟩ := C0
  intro x hx
  rw [h1, h2, h3] at hx
  rw [h2, h3]
  exact u_same (hts (.sameField "java/util/ArrayList" "java/util/AbstractList" "modCount" "I") (hm_tb_of (List.mem_of_getElem? (i := 155) (by decide +kernel)) rfl)) x hx
theorem hm_rmap (fs : List Value) (k : Nat) {v : Value} (h : fs[k]? = some v) : (fs.map (hm_v G))[k]? = some (hm_v G v) := by
  rw [List.getElem?_map, h]
  rfl
theorem hm_ty_at {t : Nat} (h : t < 7) : ∃ ty, (hm_tys G)[t]? = some (G.2.2.2 t, ty) := by
  match t, h with
  | 0, _ => exact ⟨_, rfl⟩
  | 1, _ => exact ⟨_, rfl⟩
  | 2, _ => exact ⟨_, rfl⟩
  | 3, _ => exact ⟨_, rfl⟩
  | 4, _ => exact ⟨_, rfl⟩
  | 5, _ => exact ⟨_, rfl⟩
  | 6, _ => exact ⟨_, rfl⟩
  | t + 7, h => omega
theorem hm_a_fst (x : vp_A) : (hm_a G x).1 = x.1 := by
  obtain ⟨n, f | f | f | f | f⟩ := x <;> rfl
theorem hm_rf (r : Option Nat) : va_rf (r.map (hm_rho G)) = hm_v G (va_rf r) := by cases r <;> rfl
end HMH
end
section
section HMR
variable {p : Program} {l : Launch} {e : Env} {R : Room} {s : State} {m : MethodId} {args : Array Value} {below : List Frame} {meth : Method} {c : Code} {Q : State → Prop}
variable {pc n n0 s0 : Nat} {i : Instr} {ls st : List Value} {hp : hm_H} {σ : hm_S} {G : hm_E} {q : hm_Q}
set_option maxHeartbeats 2000000 in
theorem hm_o5 (C0 : hm_Cx p s m args meth c q) (hd : decode q.2.1 pc = .ok (i, n)) (hn : hm_ln i = n ∨ hm_ln i = 0) (h : hm_s5 q.2.2.2.2.1 i pc ls st hp = some σ) (k : hm_K p l e R s m args below meth c Q G n0 s0 σ) : hm_K p l e R s m args below meth c Q G n0 s0 (pc, ls, st, hp) := by
  intro H locs la hR hL hz hf
  obtain ⟨hx, hb, hml, hr, hlk, hown, hnm, hw0, hts, hNW⟩ := id C0
  obtain ⟨hK, hsz, hcl, hst⟩ := id hR
  unfold hm_s5 at h
  split at h
  · obtain rfl : n = 3 := hm_lnE hn rfl (by decide)
    rename_i ix a r
    split at h
    next ci kf md w cj fs hlf hha =>
      split at h
      next hc =>
        subst hc
        obtain ⟨v, hv, h2⟩ := Option.map_eq_some_iff.mp h
        cases h2
        obtain ⟨-, hat⟩ := hcl a _ hha
        obtain ⟨r, hrc, hkN, hlink⟩ := hm_fld C0 hlf
        rcases hlink with hlink | hlink | ⟨hlink, e1, e2, e3⟩
        · exact va_get (C := r.1) (T := r.2.1) (N := r.2.2) hx hb hts (hm_kin hrc) hown hK (hm_one hat) 0 rfl hrc kf hkN hlink (fun _ h9 => h9) (hm_rmap fs kf hv) hd (k H locs la hR hL hz hf)
        · exact va_getN (C := r.1) (T := r.2.1) (N := r.2.2) hx hb hts (hm_kin hrc) hown hK (hm_one hat) 0 rfl hrc kf hkN hlink (fun _ h9 => h9) (hm_rmap fs kf hv) hd (k H locs la hR hL hz hf)
        · exact va_get (C := r.1) (T := r.2.1) (N := r.2.2) hx hb hts (hm_kin hrc) hown hK (hm_one hat) 0 rfl hrc kf hkN hlink (hm_asame C0 e1 e2 e3) (hm_rmap fs kf hv) hd (k H locs la hR hL hz hf)
      next => cases h
    next => cases h
  · obtain rfl : n = 1 := hm_lnE hn rfl (by decide)
    rename_i j a r
    split at h
    next t nn f hha =>
      split at h
      next hc =>
        cases h
        rcases hc.1 with ht | ht
        · subst ht
          rcases hcl a _ hha with ⟨h1, h2, h3⟩ | ⟨h1, h2⟩ | ⟨h1, h2⟩
          · exact va_iald (f := f) (n := nn) hx hb hK (hm_one (x := (hm_rho G a, .inl (G.2.2.2 0, nn, .inl f))) h3) 0 0 rfl rfl hc.2 hd (k H locs la hR hL hz hf)
          · exact absurd h1 (by decide)
          · exact absurd h1 (by decide)
        · subst ht
          rcases hcl a _ hha with ⟨h1, h2⟩ | ⟨h1, h2, f2, h3, cell, g1, g2, g3, g4, g5, g6, g7⟩ | ⟨h1, h2⟩
          · exact absurd h1 (by decide)
          · cases h3
            have hlt : j.toNatClampNeg < nn := Nat.not_le.mp fun z => hc.2 (Or.inr z)
            exact W.iald hx hb g1 g2 g3 (fun z => hc.2 (z.elim Or.inl (fun y => Or.inr (Nat.le_trans g4 y)))) (g6 _ hlt) rfl rfl hd (k H locs la hR hL hz hf)
          · exact absurd h1 (by decide)
      next => cases h
    next => cases h
  · obtain rfl : n = 1 := hm_lnE hn rfl (by decide)
    rename_i j a r
    split at h
    next t nn f hha =>
      split at h
      next hc =>
        cases h
        obtain ⟨rfl, hc⟩ := hc
        rcases hcl a _ hha with ⟨h1, h2, h3⟩ | ⟨h1, h2⟩ | ⟨h1, h2⟩
        · skip
          exact va_zald (f := f) (n := nn) hx hb hK (hm_one (x := (hm_rho G a, .inl (G.2.2.2 2, nn, .inl f))) h3) 0 2 rfl rfl hc hd (k H locs la hR hL hz hf)
        · exact absurd h1 (by decide)
        · exact absurd h1 (by decide)
      next => cases h
    next => cases h
  · obtain rfl : n = 1 := hm_lnE hn rfl (by decide)
    rename_i j a r
    split at h
    next t nn f hha =>
      split at h
      next hc =>
        cases h
        obtain ⟨rfl, hc⟩ := hc
        rcases hcl a _ hha with ⟨h1, h2, h3⟩ | ⟨h1, h2⟩ | ⟨h1, h2⟩
        · skip
          exact va_lald (f := f) (n := nn) hx hb hK (hm_one (x := (hm_rho G a, .inl (G.2.2.2 1, nn, .inr (.inl f)))) h3) 0 1 rfl rfl hc hd (k H locs la hR hL hz hf)
        · exact absurd h1 (by decide)
        · exact absurd h1 (by decide)
      next => cases h
    next => cases h
  · obtain rfl : n = 1 := hm_lnE hn rfl (by decide)
    rename_i j a r
    split at h
    next t nn f hha =>
      split at h
      next hc =>
        cases h
        have hlt : j.toNatClampNeg < nn := Nat.not_le.mp fun z => hc.2 (Or.inr z)
        have kk := k H locs la hR hL hz hf
        have ha : ∀ (ty : FieldType), ty.isReference = true → t < 7 → t ≠ 100 → t ≠ 101 → (hm_tys G)[t]? = some (G.2.2.2 t, ty) → W p l e R s m args below meth c H locs (hp.2.1 - n0) (hp.2.2 - s0) Q (F0 m pc la ((.int j :: .ref a :: r).map (hm_v G))) := by
          intro ty hty ht7 ht0 ht1 hat
          rcases hcl a _ hha with ⟨h1, h2, h3⟩ | ⟨h1, h2⟩ | ⟨h1, h2⟩
          · refine W.aald (v := va_rf ((f j.toNatClampNeg).map (hm_rho G))) (ty := ty) hx hb h3 ((hK.2 t _ hat).1 nn (fun z => va_rf ((f z).map (hm_rho G)))) hty (fun z => by cases z) (by show ¬ (j < 0 ∨ (arrV _ nn _).slots.size ≤ _); rw [arrV_size]; exact hc.2) (by show (arrV _ nn _).slots[_]? = _; rw [arrV_read _ _ hlt]) rfl rfl hd ?_
            rw [hm_rf]
            exact kk
          · exact absurd h1 ht0
          · exact absurd h1 ht1
        rcases hc.1 with rfl | rfl | rfl | rfl
        · exact ha (.array .int) rfl (by decide) (by decide) (by decide) rfl
        · exact ha (.array .long) rfl (by decide) (by decide) (by decide) rfl
        · exact ha (.object "HourPromised$Law") rfl (by decide) (by decide) (by decide) rfl
        · exact ha (.object "java/lang/Object") rfl (by decide) (by decide) (by decide) rfl
      next => cases h
    next => cases h
  · obtain rfl : n = 1 := hm_lnE hn rfl (by decide)
    rename_i a r
    split at h
    next t nn y hha =>
      cases h
      rcases hcl a _ hha with ⟨h1, h2, h3⟩ | ⟨h1, h2, f2, h3, cell, g1, g2, g3, g4, g5, g6, g7⟩ | ⟨h1, h2, h3, cell, g1, g2, g3, g4, g5, g6, g7⟩
      · obtain ⟨ty, hty⟩ := hm_ty_at (G := G) h1
        exact va_alen (x := hm_a G (nn, y)) hx hb hK (hm_one (x := (hm_rho G a, .inl (G.2.2.2 t, hm_a G (nn, y)))) h3) 0 t rfl hty (by rw [hm_a_fst]) hd (k H locs la hR hL hz hf)
      · exact W.alen (n := Int32.ofNat nn) hx hb g1 g2 g5 rfl rfl hd (k H locs la hR hL hz hf)
      · have hnn : nn = 0 := h3
        subst hnn
        exact W.alen (n := Int32.ofNat 0) hx hb g1 g2 g5 rfl rfl hd (k H locs la hR hL hz hf)
    next => cases h
  · obtain rfl : n = 3 := hm_lnE hn rfl (by decide)
    obtain ⟨⟨j, w⟩, h1, h2⟩ := Option.map_eq_some_iff.mp h
    cases h2
    have h3 := List.all_eq_true.mp hm_sok _ (hm_lk h1)
    unfold hm_schk at h3
    dsimp only at h3
    rw [hw0] at h3
    simp only [Bool.and_eq_true, decide_eq_true_eq] at h3
    have hlink := hts _ (hm_tb_of (hm_at_mem h3.2) rfl)
    obtain ⟨cf, kf, fi, f, a, cell, g1, g2, g3, g4, g5, g6, g7, g8⟩ := hst j h3.1.1 h3.1.2
    refine W.gets hx hb hown hlink g1 g2 g3 g4 g5 (fun z => by rw [z] at g6; cases g6) g7 rfl hd ?_
    have kk := k H locs la hR hL hz hf
    have e1 : hm_v G (.ref j) = .ref (G.2.1 j) := by
      show Value.ref (hm_rho G j) = _
      rw [hm_rho_old h3.1.2]
    rw [← e1]
    exact kk
  · obtain rfl : n = 3 := hm_lnE hn rfl (by decide)
    cases h
    exact lv_castN hx hb hd (k H locs la hR hL hz hf)
  · obtain rfl : n = 3 := hm_lnE hn rfl (by decide)
    rename_i ix a r
    split at h
    next ci w cj fs hlf hha =>
      split at h
      next hc =>
        subst hc
        cases h
        obtain ⟨-, hat⟩ := hcl a _ hha
        obtain ⟨rr, hrr, -⟩ := id hat
        have hlink := hm_nlk C0 hlf
        rw [hm_nnm hrr] at hlink
        exact va_castS hx hb hown hlink (hK.1 ci rr hrr).2 (va_recv hK (hm_one hat) (q0 := 0) hrr rfl) hd (k H locs la hR hL hz hf)
      next => cases h
    next => cases h
  · obtain rfl : n = 2 := hm_lnE hn rfl (by decide)
    obtain ⟨⟨v, w⟩, h1, h2⟩ := Option.map_eq_some_iff.mp h
    cases h2
    have h3 := List.all_eq_true.mp hm_iok _ (hm_lk h1)
    unfold hm_ichk at h3
    dsimp only at h3
    rw [hw0] at h3
    exact lv_ldc hx hb hown (hts _ (hm_tb_of (hm_at_mem h3) rfl)) hd (k H locs la hR hL hz hf)
  · obtain rfl : n = 3 := hm_lnE hn rfl (by decide)
    obtain ⟨⟨v, w⟩, h1, h2⟩ := Option.map_eq_some_iff.mp h
    cases h2
    have h3 := List.all_eq_true.mp hm_iok _ (hm_lk h1)
    unfold hm_ichk at h3
    dsimp only at h3
    rw [hw0] at h3
    exact lv_ldcw hx hb hown (hts _ (hm_tb_of (hm_at_mem h3) rfl)) hd (k H locs la hR hL hz hf)
  · obtain rfl : n = 3 := hm_lnE hn rfl (by decide)
    obtain ⟨⟨v, w⟩, h1, h2⟩ := Option.map_eq_some_iff.mp h
    cases h2
    have h3 := List.all_eq_true.mp hm_lok _ (hm_lk h1)
    unfold hm_lchk at h3
    dsimp only at h3
    rw [hw0] at h3
    exact lv_ldc2 hx hb hown (hts _ (hm_tb_of (hm_at_mem h3) rfl)) hd (k H locs la hR hL hz hf)
  · cases h
end HMR
end
section
theorem hm_fv_ok {G : hm_E} {ty : FieldType} {v : Value} (h : hm_fv ty v = true) : narrow ty (hm_v G v) = hm_v G v ∧ fits ty (hm_v G v) = true := by
  unfold hm_fv at h
  split at h
  · exact ⟨rfl, rfl⟩
  · rename_i x
    have h2 : x = 0 ∨ x = 1 := of_decide_eq_true h
    rcases h2 with rfl | rfl
    · exact ⟨show narrow .boolean (.int 0) = .int 0 by decide +kernel, show fits .boolean (.int 0) = true by decide +kernel⟩
    · exact ⟨show narrow .boolean (.int 1) = .int 1 by decide +kernel, show fits .boolean (.int 1) = true by decide +kernel⟩
  · exact ⟨rfl, rfl⟩
  · exact ⟨rfl, rfl⟩
  · exact ⟨rfl, rfl⟩
  · exact ⟨rfl, rfl⟩
  · exact ⟨rfl, rfl⟩
  · cases h
theorem hm_mset (G : hm_E) (fs : List Value) (k : Nat) (v : Value) : (fs.set k v).map (hm_v G) = (fs.map (hm_v G)).set k (hm_v G v) := by
  rw [List.map_set]
section HMW
variable {p : Program} {l : Launch} {e : Env} {R : Room} {s : State} {m : MethodId} {args : Array Value} {below : List Frame} {meth : Method} {c : Code} {Q : State → Prop}
variable {pc n n0 s0 : Nat} {i : Instr} {ls st : List Value} {hp : hm_H} {σ : hm_S} {G : hm_E} {q : hm_Q}
/-- a field of an object that is there is written -/
theorem hm_putf (C0 : hm_Cx p s m args meth c q) {H : Heap} {locs : List Loc} {cells slots a ix ci k md w : Nat} {la : Array Slot} {fs rest : List Value} {v : Value} (hK : va_K G.2.2.1 hm_cls (hm_tys G) s) (hlf : hm_ftab.lookup (q.2.2.2.2.1, ix) = some (ci, k, md, w)) (hat : va_at G.2.2.1 hm_cls (a, .inr (ci, fs)) H) (hkl : k < fs.length) (hv : narrow (hm_fty ci k) v = v ∧ fits (hm_fty ci k) v = true) (hfin : hm_fin q ci k = true) (hd : decode q.2.1 pc = .ok (.putfield ix, 3))
    (kk : ∀ (H1 : Heap) (i1 : Nat), va_at G.2.2.1 hm_cls (a, .inr (ci, fs.set k v)) H1 → H1.size = H.size → (∀ z : Nat, z ≠ a → H1[z]? = H[z]?) → W p l e R s m args below meth c H1 (locs ++ [⟨a, i1⟩]) cells slots Q (F0 m (pc + 3) la rest)) : W p l e R s m args below meth c H locs cells slots Q (F0 m pc la (v :: .ref a :: rest)) := by
  obtain ⟨hx, hb, hml, hr, hlk, hown, hnm, hw0, hts, hNW⟩ := id C0
  obtain ⟨r, hrc, hkN, hlink⟩ := hm_fld C0 hlf
  have hty := hm_tyok ci r hrc
  have hap := va_apart (own := q.1.cls) hts (hm_kin hrc) (hm_fty ci) hty (hm_nmok ci r hrc) hK (show hm_cls[ci]? = some (r.1, r.2.1, r.2.2) from hrc)
  obtain ⟨r2, hr2, cell, q1, q2, q3, q4⟩ := id hat
  cases hrc.symm.trans hr2
  obtain ⟨hS, hfc, kC, hkC, hkind⟩ := hK.1 ci _ hrc
  obtain ⟨cf, kf, fi, f, hi, hsl⟩ := hS k hkN
  have hlay := hts _ (hm_kin hrc _ (u_in_lay hkN))
  have hst := (u_facts hfc hkC (u_lays hts (hm_kin hrc) hkN) hi).1
  have fin : ∀ H' : Heap, H'[a]? = some (cell.setSlot (G.2.2.1.2 ci k) v) → va_at G.2.2.1 hm_cls (a, .inr (ci, fs.set k v)) H' := fun H' e1 =>
    ⟨_, hrc, t_OB.to (V := updV (vp_V fs) k v) ⟨_, e1, q2, q3, t_set q4 hap hkN v⟩ (fun j _ => vp_updV_set hkl v j)⟩
  have hlt : f.slot < cell.slots.size := by rw [hsl]; exact k2_hasslot (q4 k hkN)
  unfold hm_fin at hfin
  rw [hrc] at hfin
  simp only [Bool.or_eq_true, Bool.not_eq_true', Bool.and_eq_true, decide_eq_true_eq] at hfin
  unfold u_lay at hlay
  cases hff : (r.2.1 k).2.2.2 with
  | false =>
    rw [if_neg (by rw [hff]; decide)] at hlay
    have h6 := u_store hfc hkC hkind hlay hi (hty k hkN) hv.1 hv.2
    rcases hlink with hlink | hlink | ⟨hlink, e1, e2, e3⟩
    · refine W.putK hx hb (f := f) ⟨hown, hlink, ⟨_, _, _, hi⟩, hst⟩ (by rw [q2]; exact h6) q1 q3 hlt rfl rfl hd fun H' e1 e2 e3 => ?_
      rw [hsl] at e1
      exact kk H' _ (fin H' e1) e2 e3
    · refine va_WputK hx hb hown hlink hi hst (by rw [q2]; exact h6) q1 q3 hlt rfl rfl hd fun H' e1 e2 e3 => ?_
      rw [hsl] at e1
      exact kk H' _ (fin H' e1) e2 e3
    · refine W.putK hx hb (f := f) ⟨hown, hlink, ⟨_, _, _, hm_asame C0 e1 e2 e3 _ hi⟩, hst⟩ (by rw [q2]; exact h6) q1 q3 hlt rfl rfl hd fun H' e1 e2 e3 => ?_
      rw [hsl] at e1
      exact kk H' _ (fin H' e1) e2 e3
  | true =>
    rw [if_pos hff] at hlay
    have hfin2 : q.1.name = "<init>" ∧ (r.2.1 k).1 = q.1.cls := by
      rcases hfin with h | h
      · rw [hff] at h; cases h
      · exact h
    have hcf : m.cls = cf := by
      obtain ⟨_, _, c', _, _, _, -, -, hf', -, -, -, hown2, -⟩ := Cond.laysFinal_spec hlay
      have e1 : c' = cf := by have := hi.symm.trans hf'; simp at this; exact this.1.symm
      rw [hfin2.2] at hown2
      rw [← e1]; exact Option.some.inj (hown.symm.trans hown2)
    have h6 := u_fits hfc hkC hkind (Or.inr hlay) hi (hty k hkN) hv.1 hv.2
    have hin2 : meth.name = "<init>" := hnm hfin2.1
    rcases hlink with hlink | hlink | ⟨hlink, e1, e2, e3⟩
    · refine W.putFinK hx hb hown hlink hi hst hcf hin2 (by rw [q2]; exact h6) q1 q3 hlt rfl rfl hd fun H' e1 e2 e3 => ?_
      rw [hsl] at e1
      exact kk H' _ (fin H' e1) e2 e3
    · refine va_Wputf hx hb hown hlink hi hst (Or.inr ⟨hcf, hin2⟩) q1 (by rw [q3]; exact fun z => by cases z) hlt h6.1 (by rw [q2, q3]; exact h6.2) rfl rfl hd ?_
      have ha : a < H.size := (Array.getElem?_eq_some_iff.mp q1).1
      refine kk _ _ (fin _ (by rw [← hsl]; simp [ha])) (by simp) (fun z hz => ?_)
      rw [Array.getElem?_setIfInBounds_ne (Ne.symm hz)]
    · refine W.putFinK hx hb hown hlink (hm_asame C0 e1 e2 e3 _ hi) hst hcf hin2 (by rw [q2]; exact h6) q1 q3 hlt rfl rfl hd fun H' e1 e2 e3 => ?_
      rw [hsl] at e1
      exact kk H' _ (fin H' e1) e2 e3
theorem hm_locs {locs : List Loc} {a j : Nat} (hf : ∀ q ∈ locs, G.1 ≤ q.base) (ha : G.1 ≤ a) : ∀ q ∈ locs ++ [⟨a, j⟩], G.1 ≤ q.base := t_lc (free := fun x => G.1 ≤ x) hf ha
theorem hm_rho_ge {i : Nat} (h : 4 ≤ i) : G.1 ≤ hm_rho G i := by
  rw [hm_rho_new h]
  exact Nat.le_add_right _ _
set_option maxHeartbeats 2000000 in
theorem hm_o6 (C0 : hm_Cx p s m args meth c q) (hd : decode q.2.1 pc = .ok (i, n)) (hn : hm_ln i = n ∨ hm_ln i = 0) (h : hm_s6 q i pc ls st hp = some σ) (k : hm_K p l e R s m args below meth c Q G n0 s0 σ) : hm_K p l e R s m args below meth c Q G n0 s0 (pc, ls, st, hp) := by
  intro H locs la hR hL hz hf
  obtain ⟨hx, hb, hml, hr, hlk, hown, hnm, hw0, hts, hNW⟩ := id C0
  obtain ⟨hK, hsz, hcl, hst⟩ := id hR
  unfold hm_s6 at h
  split at h
  · obtain rfl : n = 3 := hm_lnE hn rfl (by decide)
    rename_i ix v a r
    split at h
    next ci kf md w cj fs hlf hha =>
      split at h
      next hc =>
        obtain ⟨⟨hcc, hkl⟩, hfv, hfin⟩ := hc
        subst hcc
        cases h
        obtain ⟨ha4, hat⟩ := hcl a _ hha
        refine hm_putf C0 hK hlf hat (by rw [List.length_map]; exact hkl) (hm_fv_ok hfv) hfin hd (fun H1 i1 hat1 z1 o1 => ?_)
        rw [← hm_mset] at hat1
        exact k H1 _ la (hR.set ha4 z1 o1 ⟨ha4, hat1⟩) hL hz (hm_locs hf (hm_rho_ge ha4))
      next => cases h
    next => cases h
  · obtain rfl : n = 1 := hm_lnE hn rfl (by decide)
    rename_i x j a r
    split at h
    next t nn f hha =>
      split at h
      next hc =>
        obtain ⟨rfl, hc⟩ := hc
        cases h
        rcases hcl a _ hha with ⟨h1, ha4, h3⟩ | ⟨h1, h2⟩ | ⟨h1, h2⟩
        · refine W.iast hx hb h3 ((hK.2 0 _ rfl).1 nn (fun z => .int (f z))) (fun z => by cases z) (by show ¬ (j < 0 ∨ (arrV _ nn _).slots.size ≤ _); rw [arrV_size]; exact hc) rfl rfl hd fun H1 e1 z1 o1 => ?_
          refine k H1 _ la (hR.set ha4 z1 o1 (Or.inl ⟨h1, ha4, ?_⟩)) hL hz (hm_locs hf (hm_rho_ge ha4))
          rw [e1]
          show some ((arrV (G.2.2.2 0) nn (fun z => .int (f z))).setSlot j.toNatClampNeg (.int x)) = some (arrV (G.2.2.2 0) nn (fun z => .int (upd f j.toNatClampNeg x z)))
          rw [arrV_store]
          congr 2
          funext z
          by_cases hz : z = j.toNatClampNeg
          · subst hz
            simp [updV, upd]
          · simp [updV, upd, hz]
        · exact absurd h1 (by decide)
        · exact absurd h1 (by decide)
      next => cases h
    next => cases h
  · obtain rfl : n = 1 := hm_lnE hn rfl (by decide)
    rename_i x j a r
    split at h
    next t nn f hha =>
      split at h
      next hc =>
        obtain ⟨⟨rfl, hx01⟩, hc⟩ := hc
        cases h
        rcases hcl a _ hha with ⟨h1, ha4, h3⟩ | ⟨h1, h2⟩ | ⟨h1, h2⟩
        · refine W.zast hx hb h3 ((hK.2 2 _ rfl).1 nn (fun z => .int (f z))) (fun z => by cases z) (by show ¬ (j < 0 ∨ (arrV _ nn _).slots.size ≤ _); rw [arrV_size]; exact hc) rfl rfl hd fun H1 e1 z1 o1 => ?_
          refine k H1 _ la (hR.set ha4 z1 o1 (Or.inl ⟨h1, ha4, ?_⟩)) hL hz (hm_locs hf (hm_rho_ge ha4))
          rw [e1]
          have hnar : narrow .boolean (.int x) = .int x := by
            rcases hx01 with rfl | rfl
            · decide +kernel
            · decide +kernel
          rw [hnar]
          show some ((arrV (G.2.2.2 2) nn (fun z => .int (f z))).setSlot j.toNatClampNeg (.int x)) = some (arrV (G.2.2.2 2) nn (fun z => .int (upd f j.toNatClampNeg x z)))
          rw [arrV_store]
          congr 2
          funext z
          by_cases hz : z = j.toNatClampNeg
          · subst hz
            simp [updV, upd]
          · simp [updV, upd, hz]
        · exact absurd h1 (by decide)
        · exact absurd h1 (by decide)
      next => cases h
    next => cases h
  · obtain rfl : n = 1 := hm_lnE hn rfl (by decide)
    rename_i x j a r
    split at h
    next t nn f hha =>
      split at h
      next hc =>
        obtain ⟨rfl, hc⟩ := hc
        cases h
        rcases hcl a _ hha with ⟨h1, ha4, h3⟩ | ⟨h1, h2⟩ | ⟨h1, h2⟩
        · refine W.last hx hb h3 ((hK.2 1 _ rfl).1 nn (fun z => .long (f z))) (fun z => by cases z) (by show ¬ (j < 0 ∨ (arrV _ nn _).slots.size ≤ _); rw [arrV_size]; exact hc) rfl rfl hd fun H1 e1 z1 o1 => ?_
          refine k H1 _ la (hR.set ha4 z1 o1 (Or.inl ⟨h1, ha4, ?_⟩)) hL hz (hm_locs hf (hm_rho_ge ha4))
          rw [e1]
          show some ((arrV (G.2.2.2 1) nn (fun z => .long (f z))).setSlot j.toNatClampNeg (.long x)) = some (arrV (G.2.2.2 1) nn (fun z => .long (vp_updL f j.toNatClampNeg x z)))
          rw [arrV_store]
          congr 2
          funext z
          by_cases hz : z = j.toNatClampNeg
          · subst hz
            simp [updV, vp_updL]
          · simp [updV, vp_updL, hz]
        · exact absurd h1 (by decide)
        · exact absurd h1 (by decide)
      next => cases h
    next => cases h
  · obtain rfl : n = 1 := hm_lnE hn rfl (by decide)
    rename_i b j a r
    split at h
    next t nn f cj fs hha hhb =>
      split at h
      next hc =>
        obtain ⟨ht, hc⟩ := hc
        cases h
        have hlt : j.toNatClampNeg < nn := Nat.not_le.mp fun z => hc (Or.inr z)
        have h0 : ¬ j < 0 := fun z => hc (Or.inl z)
        obtain ⟨hb4, hbt⟩ := hcl b _ hhb
        obtain ⟨rb, hrb, cellV, g1, g2, g3, -⟩ := id hbt
        have hcls := (hK.1 cj rb hrb).2
        obtain ⟨kC, hkC, -⟩ := hcls.2
        have fin : t < 7 → t ≠ 100 → t ≠ 101 → ∀ (C : String), (hm_tys G)[t]? = some (G.2.2.2 t, .object C) → (∀ comp : ClassId, s.vm.findClass C = some comp → s.vm.assignable cellV.cls comp = true ∧ ∃ kcomp, s.vm.classes[comp]? = some kcomp) → W p l e R s m args below meth c H locs (hp.2.1 - n0) (hp.2.2 - s0) Q (F0 m pc la ((.ref b :: .int j :: .ref a :: r).map (hm_v G))) := by
          intro t7 t100 t101 C hat hass
          rcases hcl a _ hha with ⟨h1, ha4, h3⟩ | ⟨h1, h2⟩ | ⟨h1, h2⟩
          · obtain ⟨kA, comp, k1, k2, k3, -⟩ := (hK.2 t _ hat).2
            obtain ⟨as, kcomp, hkcomp⟩ := hass comp k3
            refine W.aast hx hb h3 (fun z h => by cases h) (fun h => by cases h) k1 k2 rfl hkcomp ⟨h0, by show _ < (arrV _ nn _).slots.size; rw [arrV_size]; exact hlt⟩ g1 (fun z h => by rw [g3] at h; cases h) (by rw [g2]; exact hkC) as rfl rfl hd fun H1 e1 z1 o1 => ?_
            refine k H1 _ la (hR.set ha4 z1 o1 (Or.inl ⟨h1, ha4, ?_⟩)) hL hz (hm_locs hf (hm_rho_ge ha4))
            rw [e1]
            show some ((arrV (G.2.2.2 t) nn (fun z => va_rf ((f z).map (hm_rho G)))).setSlot j.toNatClampNeg (.ref (hm_rho G b))) = some (arrV (G.2.2.2 t) nn (fun z => va_rf ((va_up f j.toNatClampNeg (some b) z).map (hm_rho G))))
            rw [arrV_store]
            congr 2
            funext z
            by_cases hz : z = j.toNatClampNeg
            · subst hz
              simp [updV, va_up, va_rf]
            · simp [updV, va_up, hz]
          · exact absurd h1 t100
          · exact absurd h1 t101
        rcases ht with ⟨rfl, rfl⟩ | ⟨rfl, hcj⟩
        · cases hrb
          refine fin (by decide) (by decide) (by decide) "HourPromised$Law" rfl (fun comp hcomp => ?_)
          have e1 : comp = G.2.2.1.1 2 := Option.some.inj (hcomp.symm.trans hcls.1)
          subst e1
          exact ⟨by rw [g2]; exact va_assign hcls, kC, hkC⟩
        · refine fin (by decide) (by decide) (by decide) "java/lang/Object" rfl (fun comp hcomp => ?_)
          have hcast : va_Nw (.castable rb.1 "java/lang/Object") s := by
            have hk : cj < 10 := hcj
            have hm : Cond.castable rb.1 "java/lang/Object" ∈ tables_1 := hm_lt10 (P := fun k => ∀ r, hm_cls[k]? = some r → Cond.castable r.1 "java/lang/Object" ∈ tables_1) ⟨fun r h => by cases h; exact List.mem_of_getElem? (i := 1063) (by decide +kernel), fun r h => by cases h; exact List.mem_of_getElem? (i := 1069) (by decide +kernel), fun r h => by cases h; exact List.mem_of_getElem? (i := 1058) (by decide +kernel), fun r h => by cases h; exact List.mem_of_getElem? (i := 1066) (by decide +kernel), fun r h => by cases h; exact List.mem_of_getElem? (i := 1064) (by decide +kernel), fun r h => by cases h; exact List.mem_of_getElem? (i := 1070) (by decide +kernel), fun r h => by cases h; exact List.mem_of_getElem? (i := 1065) (by decide +kernel), fun r h => by cases h; exact List.mem_of_getElem? (i := 1062) (by decide +kernel), fun r h => by cases h; exact List.mem_of_getElem? (i := 1068) (by decide +kernel), fun r h => by cases h; exact List.mem_of_getElem? (i := 1067) (by decide +kernel)⟩ cj hk rb hrb
            exact hNW.1 _ hm rfl
          obtain ⟨c0, t0, f1, f2, f3⟩ := Cond.castable_spec (va_Nw.use (A := args) rfl hcast)
          have e1 : comp = t0 := Option.some.inj (hcomp.symm.trans f2)
          subst e1
          have e2 : c0 = G.2.2.1.1 cj := Option.some.inj (f1.symm.trans hcls.1)
          subst e2
          obtain ⟨kA, comp2, k1, k2, k3, -⟩ := (hK.2 6 _ rfl).2
          obtain ⟨kE, hkE, -⟩ := Vm.findClass_spec hcomp
          exact ⟨by rw [g2]; exact f3, kE, hkE⟩
      next => cases h
    next => cases h
  · cases h
end HMW
end
section
theorem hm_df_at {ci : Nat} {r : vw_C} (h : hm_cls[ci]? = some r) (G : hm_E) : ∀ j, j < r.2.2 → defaultValue (hm_fty ci j) = vp_V ((hm_df ci).map (hm_v G)) j := by
  intro j hj
  have e1 : hm_df ci = (List.range r.2.2).map fun k => defaultValue (hm_fty ci k) := by unfold hm_df; rw [h]
  rw [e1]
  unfold vp_V
  rw [List.getD_eq_getElem?_getD, List.getElem?_map, List.getElem?_map, List.getElem?_range hj]
  show _ = hm_v G (defaultValue (hm_fty ci j))
  cases hm_fty ci j <;> rfl
theorem hm_df_len {ci : Nat} {r : vw_C} (h : hm_cls[ci]? = some r) : (hm_df ci).length = r.2.2 := by
  unfold hm_df
  rw [h]
  simp
theorem hm_cls_lt {ci : Nat} (h : ci < 10) : ∃ r, hm_cls[ci]? = some r := ⟨_, List.getElem?_eq_getElem (l := hm_cls) (show ci < hm_cls.length from h)⟩
theorem hm_sum {G : hm_E} (r : List Value) (h : r.length ≤ 4) : ((r.map (hm_v G)).map fun v => v.category).sum ≤ 8 := by
  have key : ∀ (r : List Value), ((r.map (hm_v G)).map fun v => v.category).sum ≤ 2 * r.length := by
    intro r
    induction r with
    | nil => simp
    | cons a r ih =>
      have h1 : (hm_v G a).category ≤ 2 := by rcases lv_cat (hm_v G a) with h | h <;> omega
      simp only [List.map_cons, List.sum_cons, List.length_cons]
      omega
  have := key r
  omega
section HMN
variable {p : Program} {l : Launch} {e : Env} {R : Room} {s : State} {m : MethodId} {args : Array Value} {below : List Frame} {meth : Method} {c : Code} {Q : State → Prop}
variable {pc n n0 s0 : Nat} {i : Instr} {ls st : List Value} {hp : hm_H} {σ : hm_S} {G : hm_E} {q : hm_Q}
theorem hm_new_rho {H : Heap} {U : State} (hR : hm_R G U hp H) : hm_rho G (hp.2.1 + 4) = H.size := by
  rw [hm_rho_new (by omega), hR.2.1]
  omega
theorem hm_pushA {U : State} {H H1 : Heap} {t nn mm : Nat} {x : vp_A} (hR : hm_R G U hp H) (ht : t < 7) (e1 : H1[H.size]? = some (vp_cell (G.2.2.2 t) (hm_a G x))) (z1 : H1.size = H.size + 1) (o1 : ∀ z : Nat, z < H.size → H1[z]? = H[z]?) : hm_R G U (hm_push hp (.inl (t, x)) mm) H1 := by
  refine hR.push z1 o1 (Or.inl ⟨ht, by omega, ?_⟩)
  rw [hm_new_rho hR]
  exact e1
theorem hm_newref {H : Heap} {U : State} (hR : hm_R G U hp H) : hm_v G (.ref (hp.2.1 + 4)) = .ref H.size := by
  show Value.ref (hm_rho G (hp.2.1 + 4)) = _
  rw [hm_new_rho hR]
/-- a new array of numbers -/
theorem hm_newa (C0 : hm_Cx p s m args meth c q) {H : Heap} {locs : List Loc} {la : Array Slot} {r : List Value} {at_ : ArrayType} {t nn : Nat} {x : vp_A} {j : Int32} (hR : hm_R G s hp H) (ht : t < 7) (hw : (Cond.arrayClass (newarray.typeOf at_)).before args s = true) (hj : ¬ j < 0) (hN : j.toNatClampNeg = nn) (hbytes : nn * componentBytes (newarray.typeOf at_) ≤ 536870912) (hn0 : n0 ≤ hp.2.1) (hs0 : s0 ≤ hp.2.2) (hc : hp.2.1 + 1 - n0 ≤ R.cells) (hs : hp.2.2 + nn - s0 ≤ R.slots) (hfc : s.vm.findClass ("[" ++ (newarray.typeOf at_).toString) = some (G.2.2.2 t)) (hcell : vp_cell (G.2.2.2 t) (hm_a G x) = arrV (G.2.2.2 t) nn (fun _ => defaultValue (newarray.typeOf at_)))
    (hd : decode q.2.1 pc = .ok (.newarray at_, 2)) (k : ∀ H1 : Heap, hm_R G s (hm_push hp (.inl (t, x)) nn) H1 → W p l e R s m args below meth c H1 locs (hp.2.1 + 1 - n0) (hp.2.2 + nn - s0) Q (F0 m (pc + 2) la (hm_v G (.ref (hp.2.1 + 4)) :: r))) : W p l e R s m args below meth c H locs (hp.2.1 - n0) (hp.2.2 - s0) Q (F0 m pc la (.int j :: r)) := by
  obtain ⟨hx, hb, -⟩ := id C0
  refine va_newaK hx hb hw rfl hd rfl hj hN hbytes (by omega) (by omega) rfl (fun H1 cA e1 z1 o1 hAr hNm => ?_)
  have ecA : cA = G.2.2.2 t := Option.some.inj (hNm.symm.trans hfc)
  subst ecA
  have kk := k H1 (hm_pushA (nn := nn) hR ht (by rw [hcell]; exact e1) z1 o1)
  rw [hm_newref hR] at kk
  exact W.cs (by omega) (by omega) kk
theorem va_aoa {ty : FieldType} {A : Array Value} {U : State} (h : (Cond.arrayOver (.array ty)).before #[] U = true) : (Cond.arrayOver (.array ty)).before A U = true := h
theorem hm_outer (cc : ClassId) (N h0 : Nat) : ∀ i : Nat, Jvm.Free.Multi.outerC cc N h0 i = arrV cc N (fun j => va_rf (if j < i then some (h0 + 1 + j) else none))
  | 0 => by
    rw [Jvm.Free.Multi.outerC, arrV_new]
    exact congrArg (arrV cc N) (funext fun j => by simp [va_rf])
  | i + 1 => by
    rw [Jvm.Free.Multi.outerC, hm_outer cc N h0 i, arrV_store]
    refine congrArg (arrV cc N) (funext fun j => ?_)
    by_cases hj : j = i
    · subst hj
      simp [updV, va_rf]
    · by_cases hlt : j < i
      · simp [updV, hj, hlt, show j < i + 1 by omega]
      · simp [updV, hj, hlt, show ¬ j < i + 1 by omega]
set_option maxHeartbeats 1000000 in
/-- rows of numbers and the array that holds them -/
theorem hm_mna (C0 : hm_Cx p s m args meth c q) {H : Heap} {locs : List Loc} {la : Array Slot} {r : List Value} {t ix : Nat} {ty : FieldType} {z : vp_A} {j k1 : Int32} (hR : hm_R G s hp H) (ht : t < 7) (ht3 : t + 3 < 7) (hlink : (Cond.classLink q.1.cls ix ("[" ++ (FieldType.array ty).toString)).before args s = true) (hov : (Cond.arrayOver (.array ty)).before args s = true) (hac : (Cond.arrayClass ty).before args s = true)
    (hfA : s.vm.findClass ("[" ++ (FieldType.array ty).toString) = some (G.2.2.2 (t + 3))) (hfI : s.vm.findClass (FieldType.array ty).toString = some (G.2.2.2 t)) (hj : ¬ j < 0) (hk1 : ¬ k1 < 0) (hjn : j.toNatClampNeg ≤ 100000) (hkn : k1.toNatClampNeg ≤ 100000) (hby : k1.toNatClampNeg * componentBytes ty ≤ 536870912) (hdf : fits ty (defaultValue ty) = true) (hdd : (defaultValue ty).isDefault = true) (hin : ∀ cc : ClassId, Jvm.Free.Multi.innerC cc k1.toNatClampNeg (defaultValue ty) = vp_cell cc (hm_a G z))
    (hn0 : n0 ≤ hp.2.1) (hs0 : s0 ≤ hp.2.2) (hc : (hm_grid hp t j.toNatClampNeg k1.toNatClampNeg z).2.1 - n0 ≤ R.cells) (hs : (hm_grid hp t j.toNatClampNeg k1.toNatClampNeg z).2.2 - s0 ≤ R.slots) (hd : decode q.2.1 pc = .ok (.multianewarray ix 2, 4))
    (k : ∀ H1 : Heap, hm_R G s (hm_grid hp t j.toNatClampNeg k1.toNatClampNeg z) H1 → W p l e R s m args below meth c H1 locs ((hm_grid hp t j.toNatClampNeg k1.toNatClampNeg z).2.1 - n0) ((hm_grid hp t j.toNatClampNeg k1.toNatClampNeg z).2.2 - s0) Q (F0 m (pc + 4) la (hm_v G (.ref (hp.2.1 + 4)) :: r))) : W p l e R s m args below meth c H locs (hp.2.1 - n0) (hp.2.2 - s0) Q (F0 m pc la (.int k1 :: .int j :: r)) := by
  obtain ⟨hx, hb, -, -, -, hown, -⟩ := id C0
  have hc' : hp.2.1 + 1 + j.toNatClampNeg - n0 ≤ R.cells := hc
  have hs' : hp.2.2 + j.toNatClampNeg + j.toNatClampNeg * k1.toNatClampNeg - s0 ≤ R.slots := hs
  intro T hT Xs
  obtain ⟨vm₁, cA, comp, -, fA, fC, hO, -, X', step⟩ := Xs.multianewarray2F hx hown hlink hov hac (g := F0 m pc la (.int k1 :: .int j :: r)) rfl (by rw [hb]; exact hd) rfl hj hk1 (by omega) hby (by omega) hdf hdd (by omega) (by omega)
  have e1 : cA = G.2.2.2 (t + 3) := Option.some.inj (fA.symm.trans hfA)
  have e2 : comp = G.2.2.2 t := Option.some.inj (fC.symm.trans hfI)
  subst e1
  subst e2
  generalize hF : Jvm.Free.Multi.fill (T.setVm vm₁) (G.2.2.2 (t + 3)) (G.2.2.2 t) j.toNatClampNeg k1.toNatClampNeg (defaultValue ty) j.toNatClampNeg = F at X' step
  have hTh : (T.setVm vm₁).heap = H := hT
  obtain ⟨f1, f2, -, -⟩ := Jvm.Free.Multi.fill_facts (T.setVm vm₁) (G.2.2.2 (t + 3)) (G.2.2.2 t) j.toNatClampNeg k1.toNatClampNeg (defaultValue ty) j.toNatClampNeg
  rw [hF, hTh] at f1 f2
  have hold : ∀ x : Nat, x < H.size → F.heap[x]? = H[x]? := fun x hx9 => by
    have h9 := Jvm.Free.Multi.fill_old (T.setVm vm₁) (G.2.2.2 (t + 3)) (G.2.2.2 t) j.toNatClampNeg k1.toNatClampNeg (defaultValue ty) (a := x) (by rw [hTh]; exact hx9) j.toNatClampNeg
    rw [hF, hTh] at h9
    exact h9
  have hrow : ∀ i9 : Nat, i9 < j.toNatClampNeg → F.heap[H.size + 1 + i9]? = some (vp_cell (G.2.2.2 t) (hm_a G z)) := fun i9 hi9 => by
    have h9 := Jvm.Free.Multi.fill_inner (T.setVm vm₁) (G.2.2.2 (t + 3)) (G.2.2.2 t) j.toNatClampNeg k1.toNatClampNeg (defaultValue ty) j.toNatClampNeg i9 hi9
    rw [hF, hTh, hin] at h9
    exact h9
  have hsz := hR.2.1
  have hg : hm_R G s (hm_grid hp t j.toNatClampNeg k1.toNatClampNeg z) F.heap := by
    refine ⟨hR.1, ?_, fun i9 x hx9 => ?_, fun i9 h0 h4 => (hR.2.2.2 i9 h0 h4).kept fun a ha _ => hold a ha⟩
    · rw [f1, hsz]
      show _ = G.1 + (hp.2.1 + 1 + j.toNatClampNeg)
      omega
    · have hx8 : (if i9 = hp.2.1 + 4 then some (Sum.inl (t + 3, j.toNatClampNeg, .inr (.inr (.inr (.inr (fun i => if i < j.toNatClampNeg then some (hp.2.1 + 5 + i) else none)))))) else if hp.2.1 + 4 < i9 ∧ i9 < hp.2.1 + 5 + j.toNatClampNeg then some (.inl (t, z)) else hp.1 i9 : Option va_E) = some x := hx9
      split at hx8
      next hi =>
        cases hx8
        subst hi
        refine Or.inl ⟨ht3, by omega, ?_⟩
        rw [hm_new_rho hR, f2, hm_outer]
        show some (arrV (G.2.2.2 (t + 3)) j.toNatClampNeg (fun i => va_rf (if i < j.toNatClampNeg then some (H.size + 1 + i) else none))) = some (arrV (G.2.2.2 (t + 3)) j.toNatClampNeg (fun i => va_rf ((if i < j.toNatClampNeg then some (hp.2.1 + 5 + i) else none).map (hm_rho G))))
        refine congrArg some (congrArg (arrV _ _) (funext fun i => congrArg va_rf ?_))
        by_cases hlt : i < j.toNatClampNeg
        · rw [if_pos hlt, if_pos hlt]
          show some (H.size + 1 + i) = some (hm_rho G (hp.2.1 + 5 + i))
          rw [hm_rho_new (by omega), hsz]
          congr 1
          omega
        · rw [if_neg hlt, if_neg hlt]
          rfl
      next hi =>
        split at hx8
        next hb9 =>
          cases hx8
          refine Or.inl ⟨ht, by omega, ?_⟩
          have h9 := hrow (i9 - hp.2.1 - 5) (by omega)
          rw [hm_rho_new (by omega), show G.1 + (i9 - 4) = H.size + 1 + (i9 - hp.2.1 - 5) by omega]
          exact h9
        next =>
          have hcl := hR.2.2.1 i9 x hx8
          exact hcl.kept (hold _ hcl.lt)
  obtain ⟨t2, a1, b1⟩ := k F.heap hg F rfl (by
    have e3 : hp.2.1 - n0 + 1 + j.toNatClampNeg = (hm_grid hp t j.toNatClampNeg k1.toNatClampNeg z).2.1 - n0 := by
      show _ = hp.2.1 + 1 + j.toNatClampNeg - n0
      omega
    have e4 : hp.2.2 - s0 + j.toNatClampNeg + j.toNatClampNeg * k1.toNatClampNeg = (hm_grid hp t j.toNatClampNeg k1.toNatClampNeg z).2.2 - s0 := by
      show _ = hp.2.2 + j.toNatClampNeg + j.toNatClampNeg * k1.toNatClampNeg - s0
      omega
    rw [← e3, ← e4]
    exact X')
  refine ⟨t2, step t2 ?_, b1⟩
  rw [hm_newref hR] at a1
  rw [hT]
  exact a1
theorem hm_o7 (C0 : hm_Cx p s m args meth c q) (hd : decode q.2.1 pc = .ok (i, n)) (hn : hm_ln i = n ∨ hm_ln i = 0) (hn0 : n0 ≤ hp.2.1) (hs0 : s0 ≤ hp.2.2) (hcs : σ.2.2.2.2.1 - n0 ≤ R.cells ∧ σ.2.2.2.2.2 - s0 ≤ R.slots) (h : hm_s7 q.2.2.2.2.1 i pc ls st hp = some σ) (k : hm_K p l e R s m args below meth c Q G n0 s0 σ) : hm_K p l e R s m args below meth c Q G n0 s0 (pc, ls, st, hp) := by
  intro H locs la hR hL hz hf
  obtain ⟨hx, hb, hml, hr, hlk, hown, hnm, hw0, hts, hNW⟩ := id C0
  obtain ⟨hK, hsz, hcl, hst⟩ := id hR
  unfold hm_s7 at h
  split at h
  · obtain rfl : n = 3 := hm_lnE hn rfl (by decide)
    rename_i ix
    split at h
    next ci w hlf =>
      split at h
      next hci =>
        cases h
        obtain ⟨r, hrc⟩ := hm_cls_lt hci
        have hlink := hm_nlk C0 hlf
        rw [hm_nnm hrc] at hlink
        have hlen := hm_df_len hrc
        have hc1 : hp.2.1 + 1 - n0 ≤ R.cells := hcs.1
        have hc2 : hp.2.2 + (hm_df ci).length - s0 ≤ R.slots := hcs.2
        rw [hlen] at hc2
        have hKn := hK.1 ci _ hrc
        refine W.newcK hx hb hown hlink (hts _ (hm_kinst hrc).1) (hts _ (hm_kinst hrc).2) rfl hd (by show hp.2.1 - n0 + 1 ≤ R.cells; omega) (by show hp.2.2 - s0 + r.2.2 ≤ R.slots; omega) hKn.2.1 rfl (fun H1 kC hkC e1 z1 o1 => ?_)
        have hat : va_at G.2.2.1 hm_cls (H.size, .inr (ci, (hm_df ci).map (hm_v G))) H1 := ⟨r, hrc, (u_born (hm_fty ci) hts (hm_kin hrc) hKn hkC e1 (hm_tyok ci r hrc)).to (hm_df_at hrc G)⟩
        have hR1 : hm_R G s (hm_push hp (.inr (ci, hm_df ci)) (hm_df ci).length) H1 := by
          refine hR.push z1 o1 ⟨by omega, ?_⟩
          rw [hm_new_rho hR]
          exact hat
        have kk := k H1 locs la hR1 hL hz hf
        refine W.cs (cells' := hp.2.1 + 1 - n0) (slots' := hp.2.2 + (hm_df ci).length - s0) (by show hp.2.1 - n0 + 1 = _; omega) (by show hp.2.2 - s0 + r.2.2 = _; omega) ?_
        have e2 := hm_newref (G := G) hR
        show W p l e R s m args below meth c H1 locs _ _ Q (F0 m (pc + 3) la (.ref H.size :: List.map (hm_v G) st))
        rw [← e2]
        exact kk
      next => cases h
    next => cases h
  · obtain rfl : n = 2 := hm_lnE hn rfl (by decide)
    split at h
    next hc =>
      cases h
      exact hm_newa (at_ := .int) (t := 0) (x := (_, .inl (fun _ => 0))) C0 hR (by decide) (hts _ (hm_tb_of (List.mem_of_getElem? (i := 60) (by decide +kernel)) rfl)) hc.1 rfl (by show _ * 4 ≤ _; omega) hn0 hs0 hcs.1 hcs.2 (hK.2 0 _ rfl).2 rfl hd (fun H1 hR1 => k H1 locs la hR1 hL hz hf)
    next => cases h
  · obtain rfl : n = 2 := hm_lnE hn rfl (by decide)
    split at h
    next hc =>
      cases h
      exact hm_newa (at_ := .long) (t := 1) (x := (_, .inr (.inl (fun _ => 0)))) C0 hR (by decide) (hts _ (hm_tb_of (List.mem_of_getElem? (i := 61) (by decide +kernel)) rfl)) hc.1 rfl (by show _ * 8 ≤ _; omega) hn0 hs0 hcs.1 hcs.2 (hK.2 1 _ rfl).2 rfl hd (fun H1 hR1 => k H1 locs la hR1 hL hz hf)
    next => cases h
  · obtain rfl : n = 2 := hm_lnE hn rfl (by decide)
    split at h
    next hc =>
      cases h
      exact hm_newa (at_ := .boolean) (t := 2) (x := (_, .inl (fun _ => 0))) C0 hR (by decide) (hts _ (hm_tb_of (List.mem_of_getElem? (i := 813) (by decide +kernel)) rfl)) hc.1 rfl (by show _ * 1 ≤ _; omega) hn0 hs0 hcs.1 hcs.2 (hK.2 2 _ rfl).2 rfl hd (fun H1 hR1 => k H1 locs la hR1 hL hz hf)
    next => cases h
  · obtain rfl : n = 3 := hm_lnE hn rfl (by decide)
    rename_i ix j r
    split at h
    next ci w hlf =>
      split at h
      next hc =>
        cases h
        obtain ⟨hci, hj, hjn⟩ := hc
        have hlink := hm_nlk C0 hlf
        have hc1 : hp.2.1 + 1 - n0 ≤ R.cells := hcs.1
        have hc2 : hp.2.2 + j.toNatClampNeg - s0 ≤ R.slots := hcs.2
        have fin : ∀ (t : Nat) (C : String), t < 7 → (if ci = 2 then 5 else 6) = t → hm_nname ci = C → va_AO C s → va_RA s (G.2.2.2 t) (.object C) → W p l e R s m args below meth c H locs (hp.2.1 - n0) (hp.2.2 - s0) Q (F0 m pc la ((.int j :: r).map (hm_v G))) := by
          intro t C ht e1 e2 hao hra
          subst e1
          rw [e2] at hlink
          refine W.anew hx hb hown hlink (va_AO.use hao) rfl hd rfl hj (by omega) (by omega) (by omega) (fun cA kA comp f1 f2 f3 f4 => ?_)
          obtain ⟨kA2, comp2, g1, g2, g3, g4⟩ := hra
          have ecA : cA = G.2.2.2 (if ci = 2 then 5 else 6) := Option.some.inj (f1.symm.trans g4)
          subst ecA
          generalize hH1 : H.push ({ cls := G.2.2.2 (if ci = 2 then 5 else 6), slots := Array.replicate j.toNatClampNeg .null, vm := .none } : Cell) = H1
          have z1 : H1.size = H.size + 1 := by rw [← hH1, Array.size_push]
          have e3 : H1[H.size]? = some (arrV (G.2.2.2 (if ci = 2 then 5 else 6)) j.toNatClampNeg (fun _ => .null)) := by rw [← hH1, Array.getElem?_push_size, ← arrV_new]
          have o1 : ∀ z : Nat, z < H.size → H1[z]? = H[z]? := fun z hq => by rw [← hH1, Array.getElem?_push, if_neg (Nat.ne_of_lt hq)]
          have kk := k H1 locs la (hm_pushA (nn := j.toNatClampNeg) (x := (j.toNatClampNeg, .inr (.inr (.inr (.inr (fun _ => none)))))) hR ht e3 z1 o1) hL hz hf
          refine W.cs (cells' := hp.2.1 + 1 - n0) (slots' := hp.2.2 + j.toNatClampNeg - s0) (by omega) (by omega) ?_
          have e4 := hm_newref (G := G) hR
          show W p l e R s m args below meth c H1 locs _ _ Q (F0 m (pc + 3) la (.ref H.size :: List.map (hm_v G) r))
          rw [← e4]
          exact kk
        rcases hci with rfl | rfl
        · exact fin 5 "HourPromised$Law" (by decide) rfl rfl hNW.2.1 (hK.2 5 _ rfl).2
        · exact fin 6 "java/lang/Object" (by decide) rfl rfl hNW.2.2.1 (hK.2 6 _ rfl).2
      next => cases h
    next => cases h
  · obtain rfl : n = 4 := hm_lnE hn rfl (by decide)
    rename_i ix dm k1 j r
    split at h
    next ci w hlf =>
      split at h
      next hc =>
        obtain ⟨rfl, ⟨hj, hjn⟩, hk1, hkn⟩ := hc
        have hlink := hm_nlk C0 hlf
        have fin : ∀ (t : Nat) (ty : FieldType) (z : vp_A), t < 7 → t + 3 < 7 → hm_nname ci = "[" ++ (FieldType.array ty).toString → (Cond.arrayOver (.array ty)).before args s = true → (Cond.arrayClass ty).before args s = true → s.vm.findClass ("[" ++ (FieldType.array ty).toString) = some (G.2.2.2 (t + 3)) → s.vm.findClass (FieldType.array ty).toString = some (G.2.2.2 t) → k1.toNatClampNeg * componentBytes ty ≤ 536870912 → fits ty (defaultValue ty) = true → (defaultValue ty).isDefault = true → (∀ cc : ClassId, Jvm.Free.Multi.innerC cc k1.toNatClampNeg (defaultValue ty) = vp_cell cc (hm_a G z)) → σ = (pc + 4, ls, .ref (hp.2.1 + 4) :: r, hm_grid hp t j.toNatClampNeg k1.toNatClampNeg z) → W p l e R s m args below meth c H locs (hp.2.1 - n0) (hp.2.2 - s0) Q (F0 m pc la ((.int k1 :: .int j :: r).map (hm_v G))) := by
          intro t ty z ht ht3 hnn hov hac hfA hfI hby hdf hdd hin hσ
          subst hσ
          rw [hnn] at hlink
          exact hm_mna C0 hR ht ht3 hlink hov hac hfA hfI hj hk1 hjn hkn hby hdf hdd hin hn0 hs0 hcs.1 hcs.2 hd (fun H1 hR1 => k H1 locs la hR1 hL hz hf)
        split at h
        next hci =>
          subst hci
          cases h
          exact fin 0 .int (k1.toNatClampNeg, .inl (fun _ => 0)) (by decide) (by decide) rfl (va_aoa hNW.2.2.2.1) (hts _ (hm_tb_of (List.mem_of_getElem? (i := 60) (by decide +kernel)) rfl)) (hK.2 3 _ rfl).2 (hK.2 0 _ rfl).2 (by show _ * 4 ≤ _; omega) rfl rfl (fun cc => by rw [Jvm.Free.Multi.innerC, arrV_new]; rfl) rfl
        next =>
          split at h
          next hci =>
            subst hci
            cases h
            exact fin 1 .long (k1.toNatClampNeg, .inr (.inl (fun _ => 0))) (by decide) (by decide) rfl (va_aoa hNW.2.2.2.2.1) (hts _ (hm_tb_of (List.mem_of_getElem? (i := 61) (by decide +kernel)) rfl)) (hK.2 4 _ rfl).2 (hK.2 1 _ rfl).2 (by show _ * 8 ≤ _; omega) rfl rfl (fun cc => by rw [Jvm.Free.Multi.innerC, arrV_new]; rfl) rfl
          next => cases h
      next => cases h
    next => cases h
  · cases h
theorem hm_o8 (C0 : hm_Cx p s m args meth c q) (hd : decode q.2.1 pc = .ok (i, n)) (hn : hm_ln i = n ∨ hm_ln i = 0) (hfr : 1 ≤ R.frames) (hlo : 20 ≤ R.locals) (h : hm_s8 q.2.2.2.2.1 i pc ls st hp = some σ) (k : hm_K p l e R s m args below meth c Q G n0 s0 σ) : hm_K p l e R s m args below meth c Q G n0 s0 (pc, ls, st, hp) := by
  intro H locs la hR hL hz hf
  obtain ⟨hx, hb, hml, hr, hlk, hown, hnm, hw0, hts, hNW⟩ := id C0
  unfold hm_s8 at h
  split at h
  · obtain rfl : n = 3 := hm_lnE hn rfl (by decide)
    rename_i ix a r
    split at h
    next cc nst w hlf =>
      split at h
      next hc =>
        obtain ⟨⟨rfl, rfl⟩, hlen⟩ := hc
        cases h
        have h3 := List.all_eq_true.mp hm_cok _ (hm_lk hlf)
        unfold hm_cchk at h3
        dsimp only at h3
        rw [hw0] at h3
        have hlink := hts _ (hm_tb_of (hm_at_mem h3) rfl)
        have hsum : ((r.map (hm_v G)).map fun v => v.category).sum ≤ 8 := hm_sum r hlen
        exact W.objInit hx hb hown hlink (hts (.instanceMethod objectInit) (hm_tb_of (List.mem_of_getElem? (i := 26) (by decide +kernel)) rfl)) (hts _ (hm_tb_of hm_cw1 rfl)) rfl hz rfl hd hfr (by show 2 * 0 + _ + 12 ≤ _; omega) (k H locs la hR hL hz hf)
      next => cases h
    next => cases h
  · cases h
end HMN
end
section
/-! the counts of cells and slots never fall -/
theorem hm_s1_hp {i : Instr} {pc : Nat} {ls st : List Value} {hp : hm_H} {σ : hm_S} (h : hm_s1 i pc ls st hp = some σ) : σ.2.2.2 = hp := by
  unfold hm_s1 at h
  split at h <;> first | (cases h; rfl) | (split at h <;> first | (cases h; rfl) | cases h) | cases h
theorem hm_s2_hp {i : Instr} {pc : Nat} {ls st : List Value} {hp : hm_H} {σ : hm_S} (h : hm_s2 i pc ls st hp = some σ) : σ.2.2.2 = hp := by
  unfold hm_s2 at h
  split at h <;> first | (cases h; rfl) | (split at h <;> first | (cases h; rfl) | cases h) | cases h
theorem hm_map_hp {α : Type} {o : Option α} {f : α → hm_S} {hp : hm_H} {σ : hm_S} (h : o.map f = some σ) (hf : ∀ x, (f x).2.2.2 = hp) : σ.2.2.2 = hp := by
  obtain ⟨x, -, h2⟩ := Option.map_eq_some_iff.mp h
  rw [← h2]
  exact hf x
theorem hm_s3_hp {i : Instr} {pc : Nat} {ls st : List Value} {hp : hm_H} {σ : hm_S} (h : hm_s3 i pc ls st hp = some σ) : σ.2.2.2 = hp := by
  unfold hm_s3 hm_ldi hm_ldl hm_lda at h
  split at h <;> first | exact hm_map_hp h (fun _ => rfl) | (split at h <;> first | exact hm_map_hp h (fun _ => rfl) | (cases h; rfl) | cases h) | cases h
theorem hm_s4_hp {i : Instr} {pc : Nat} {ls st : List Value} {hp : hm_H} {σ : hm_S} (h : hm_s4 i pc ls st hp = some σ) : σ.2.2.2 = hp := by
  unfold hm_s4 hm_to at h
  split at h <;> first | exact hm_map_hp h (fun _ => rfl) | exact hm_map_hp h (fun _ => by split <;> rfl) | (cases h; rfl) | (split at h <;> first | exact hm_map_hp h (fun _ => rfl) | (cases h; rfl) | (split at h <;> first | exact hm_map_hp h (fun _ => rfl) | cases h) | cases h) | cases h
theorem hm_s5_hp {cid : Nat} {i : Instr} {pc : Nat} {ls st : List Value} {hp : hm_H} {σ : hm_S} (h : hm_s5 cid i pc ls st hp = some σ) : σ.2.2.2 = hp := by
  unfold hm_s5 at h
  split at h <;> first | exact hm_map_hp h (fun _ => rfl) | (cases h; rfl) | (split at h <;> first | (cases h; rfl) | (split at h <;> first | exact hm_map_hp h (fun _ => rfl) | (cases h; rfl) | cases h) | cases h) | cases h
theorem hm_s6_hp {q : hm_Q} {i : Instr} {pc : Nat} {ls st : List Value} {hp : hm_H} {σ : hm_S} (h : hm_s6 q i pc ls st hp = some σ) : σ.2.2.2.2 = hp.2 := by
  unfold hm_s6 at h
  split at h <;> first | (split at h <;> first | (split at h <;> first | (cases h; rfl) | cases h) | cases h) | cases h
theorem hm_s8_hp {cid : Nat} {i : Instr} {pc : Nat} {ls st : List Value} {hp : hm_H} {σ : hm_S} (h : hm_s8 cid i pc ls st hp = some σ) : σ.2.2.2 = hp := by
  unfold hm_s8 at h
  split at h <;> first | (split at h <;> first | (split at h <;> first | (cases h; rfl) | cases h) | cases h) | cases h
def hm_le (hp hp2 : hm_H) : Prop := hp.2.1 ≤ hp2.2.1 ∧ hp.2.2 ≤ hp2.2.2
theorem hm_push_le (hp : hm_H) (e : va_E) (n : Nat) : hm_le hp (hm_push hp e n) := ⟨Nat.le_add_right _ _, Nat.le_add_right _ _⟩
theorem hm_grid_le (hp : hm_H) (t n k : Nat) (z : vp_A) : hm_le hp (hm_grid hp t n k z) := ⟨by show hp.2.1 ≤ hp.2.1 + 1 + n; omega, by show hp.2.2 ≤ hp.2.2 + n + n * k; omega⟩
theorem hm_s7_le {cid : Nat} {i : Instr} {pc : Nat} {ls st : List Value} {hp : hm_H} {σ : hm_S} (h : hm_s7 cid i pc ls st hp = some σ) : hm_le hp σ.2.2.2 := by
  unfold hm_s7 at h
  split at h <;> first | (split at h <;> first | (cases h; exact hm_push_le _ _ _) | (split at h <;> first | (cases h; exact hm_push_le _ _ _) | (split at h <;> first | (cases h; exact hm_grid_le _ _ _ _ _) | (split at h <;> first | (cases h; exact hm_grid_le _ _ _ _ _) | cases h) | cases h) | cases h) | cases h) | cases h
theorem hm_step_cases {q : hm_Q} {i : Instr} {pc : Nat} {ls st : List Value} {hp : hm_H} {σ : hm_S} (h : hm_step q i pc ls st hp = some σ) : hm_s1 i pc ls st hp = some σ ∨ hm_s2 i pc ls st hp = some σ ∨ hm_s3 i pc ls st hp = some σ ∨ hm_s4 i pc ls st hp = some σ ∨ hm_s5 q.2.2.2.2.1 i pc ls st hp = some σ ∨ hm_s6 q i pc ls st hp = some σ ∨ hm_s7 q.2.2.2.2.1 i pc ls st hp = some σ ∨ hm_s8 q.2.2.2.2.1 i pc ls st hp = some σ := by
  unfold hm_step at h
  simp only [Option.or_eq_some_iff] at h
  rcases h with h | ⟨-, h | ⟨-, h | ⟨-, h | ⟨-, h | ⟨-, h | ⟨-, h | ⟨-, h⟩⟩⟩⟩⟩⟩⟩
  · exact Or.inl h
  · exact Or.inr (Or.inl h)
  · exact Or.inr (Or.inr (Or.inl h))
  · exact Or.inr (Or.inr (Or.inr (Or.inl h)))
  · exact Or.inr (Or.inr (Or.inr (Or.inr (Or.inl h))))
  · exact Or.inr (Or.inr (Or.inr (Or.inr (Or.inr (Or.inl h)))))
  · exact Or.inr (Or.inr (Or.inr (Or.inr (Or.inr (Or.inr (Or.inl h))))))
  · exact Or.inr (Or.inr (Or.inr (Or.inr (Or.inr (Or.inr (Or.inr h))))))
theorem hm_step_le {q : hm_Q} {i : Instr} {pc : Nat} {ls st : List Value} {hp : hm_H} {σ : hm_S} (h : hm_step q i pc ls st hp = some σ) : hm_le hp σ.2.2.2 := by
  have same : σ.2.2.2.2 = hp.2 → hm_le hp σ.2.2.2 := fun e => ⟨by rw [e]; exact Nat.le_refl _, by rw [e]; exact Nat.le_refl _⟩
  rcases hm_step_cases h with h | h | h | h | h | h | h | h
  · exact same (by rw [hm_s1_hp h])
  · exact same (by rw [hm_s2_hp h])
  · exact same (by rw [hm_s3_hp h])
  · exact same (by rw [hm_s4_hp h])
  · exact same (by rw [hm_s5_hp h])
  · exact same (hm_s6_hp h)
  · exact hm_s7_le h
  · exact same (by rw [hm_s8_hp h])
theorem hm_cpy_le {q : hm_Q} {i : Instr} {st : List Value} {hp hp2 : hm_H} {a : Nat} {rest : List Value} (h : hm_cpy q i st hp = some (a, rest, hp2)) : hm_le hp hp2 := by
  unfold hm_cpy at h
  split at h
  · split at h
    · split at h
      · cases h
        exact hm_push_le _ _ _
      · cases h
    · cases h
  · cases h
theorem hm_le.trans {a b c : hm_H} (h1 : hm_le a b) (h2 : hm_le b c) : hm_le a c := ⟨Nat.le_trans h1.1 h2.1, Nat.le_trans h1.2 h2.2⟩
/-- one step of a run, told by what it does -/
theorem hm_run_cases {f d M pc : Nat} {ls st : List Value} {hp hp2 : hm_H} {r : Option Value} (h : hm_run (f + 1) d M pc ls st hp = some (r, hp2)) : ∃ (q : hm_Q) (i : Instr), hm_mtab[M]? = some q ∧ hm_code M pc = some i ∧
    ((hm_ret i q.2.2.2.1 st = some r ∧ hp = hp2) ∨
     (∃ σ : hm_S, hm_step q i pc ls st hp = some σ ∧ hm_run f d M σ.1 σ.2.1 σ.2.2.1 σ.2.2.2 = some (r, hp2)) ∨
     (∃ (d2 c : Nat) (as rest l0 : List Value) (r1 : Option Value) (hp1 : hm_H), d = d2 + 1 ∧ hm_cal q i st hp = some (c, as, rest) ∧ hm_ent c as = some l0 ∧ hm_run f d2 c 0 l0 [] hp = some (r1, hp1) ∧ hm_run f d M (pc + 3) ls (r1.toList ++ rest) hp1 = some (r, hp2)) ∨
     (∃ (d2 a : Nat) (rest : List Value) (hp1 : hm_H), d = d2 + 1 ∧ 4 ≤ d2 ∧ hm_cpy q i st hp = some (a, rest, hp1) ∧ hm_run f d M (pc + 3) ls (.ref a :: rest) hp1 = some (r, hp2))) := by
  rw [hm_run] at h
  split at h
  next q i hq hi =>
    refine ⟨q, i, hq, hi, ?_⟩
    split at h
    next r0 hr =>
      cases h
      exact Or.inl ⟨hr, rfl⟩
    next hr =>
      split at h
      next pc2 ls2 st2 hp3 hs => exact Or.inr (Or.inl ⟨_, hs, h⟩)
      next hs =>
        split at h
        next => cases h
        next d2 =>
          split at h
          next c as rest hc =>
            split at h
            next => cases h
            next l0 hl =>
              split at h
              next => cases h
              next r1 hp1 h1 => exact Or.inr (Or.inr (Or.inl ⟨d2, c, as, rest, l0, r1, hp1, rfl, hc, hl, h1, h⟩))
          next hc =>
            split at h
            next a rest hp1 h1 =>
              split at h
              next h4 => exact Or.inr (Or.inr (Or.inr ⟨d2, a, rest, hp1, rfl, h4, h1, h⟩))
              next => cases h
            next => cases h
  next => cases h
theorem hm_run_le : ∀ {f d M pc : Nat} {ls st : List Value} {hp hp2 : hm_H} {r : Option Value}, hm_run f d M pc ls st hp = some (r, hp2) → hm_le hp hp2
  | 0, _, _, _, _, _, _, _, _, h => by cases h
  | f + 1, d, M, pc, ls, st, hp, hp2, r, h => by
    obtain ⟨q, i, -, -, h | h | h | h⟩ := hm_run_cases h
    · rw [h.2]
      exact ⟨Nat.le_refl _, Nat.le_refl _⟩
    · obtain ⟨σ, h1, h2⟩ := h
      exact (hm_step_le h1).trans (hm_run_le h2)
    · obtain ⟨d2, c, as, rest, l0, r1, hp1, -, -, -, h1, h2⟩ := h
      exact (hm_run_le h1).trans (hm_run_le h2)
    · obtain ⟨d2, a, rest, hp1, -, -, h1, h2⟩ := h
      exact (hm_cpy_le h1).trans (hm_run_le h2)
end
section
/-! THE ABSTRACT MACHINE IS SOUND: a run of it is a run of the machine -/
theorem hm_idx {u U : Vm} (hvm : u.Alike U) (P : Class → Bool) (hP : ∀ k k' : Class, k.kind = k'.kind → P k = P k') : U.classes.findIdx? P = u.classes.findIdx? P := by
  have key : ∀ vm : Vm, vm.bare.classes.findIdx? P = vm.classes.findIdx? P := by
    intro vm
    simp only [Vm.bare, Array.findIdx?_map]
    congr 1
    funext k
    exact hP _ _ rfl
  rw [← key U, hvm.bare_eq, key u]
theorem hm_aoa_moved {ty : FieldType} {u U : State} (hvm : u.vm.Alike U.vm) (h : (Cond.arrayOver (.array ty)).before #[] u = true) : (Cond.arrayOver (.array ty)).before #[] U = true := by
  unfold Cond.before Cond.holds at h ⊢
  simp only [Cond.value] at h ⊢
  rw [hvm.findClass]
  cases hc : u.vm.findClass (FieldType.array ty).toString with
  | none => rw [hc] at h; simp at h
  | some comp =>
    rw [hc] at h
    simp only [Option.bind_some] at h ⊢
    rw [hm_idx hvm _ (fun k k' hk => by rw [hk])]
    generalize hx : Array.findIdx? _ u.vm.classes = o at h ⊢
    cases o with
    | none => simp at h
    | some cc =>
      simp only [Option.bind_some] at h ⊢
      cases hk : u.vm.classes[cc]? with
      | none => rw [hk] at h; simp at h
      | some kk =>
        rw [hk] at h
        obtain ⟨k2, hk2, he⟩ := hvm.2.2 _ _ hk
        rw [hk2]
        simp only [Option.map_some] at h ⊢
        have hkind : k2.kind = kk.kind := by rw [he]
        rw [hkind, hvm.findClass]
        exact h
theorem hm_NW.warm {s U : State} (hW : s.WarmedH U.vm) (h : hm_NW s) : hm_NW U := by
  refine ⟨fun w hw hn => ?_, h.2.1.moved hW.alike, h.2.2.1.moved hW.alike, hm_aoa_moved hW.alike h.2.2.2.1, hm_aoa_moved hW.alike h.2.2.2.2.1, h.2.2.2.2.2.1.elim (fun mi h => ⟨mi, h.moved hW.alike⟩), h.2.2.2.2.2.2.moved hW.alike⟩
  have h1 := h.1 w hw hn
  cases w <;> first | (exact va_Nw.warmF hW h1) | (exact va_Nw.warmM hW h1) | (exact va_Nw.warmC hW h1) | (exact absurd hn (by simp [hm_isN]))
theorem hm_NW.same {u U : State} (hv : u.vm = U.vm) (h : hm_NW u) : hm_NW U := by
  refine ⟨fun w hw hn => ?_, ?_, ?_, ?_, ?_, ?_, ?_⟩
  · have h1 := h.1 w hw hn
    cases w <;> first | (exact va_Nw.same rfl hv h1) | (exact absurd hn (by simp [hm_isN]))
  · exact h.2.1.moved (by rw [hv]; exact Vm.Alike.refl _)
  · exact h.2.2.1.moved (by rw [hv]; exact Vm.Alike.refl _)
  · exact hm_aoa_moved (by rw [hv]; exact Vm.Alike.refl _) h.2.2.2.1
  · exact hm_aoa_moved (by rw [hv]; exact Vm.Alike.refl _) h.2.2.2.2.1
  · exact h.2.2.2.2.2.1.elim (fun mi h => ⟨mi, h.moved (by rw [hv]; exact Vm.Alike.refl _)⟩)
  · exact h.2.2.2.2.2.2.moved (by rw [hv]; exact Vm.Alike.refl _)
def hm_Pre (G : hm_E) (as : List Value) (hp : hm_H) : Array Value → State → Prop := fun v U => v = (as.map (hm_v G)).toArray ∧ hm_R G U hp U.heap ∧ hm_NW U
def hm_Post (G : hm_E) (r : Option Value) (hp2 : hm_H) : Array Value → State → Outcome → State → Prop := fun _ _ o t => o = .returned (r.map (hm_v G)) ∧ hm_R G t hp2 t.heap
def hm_rm (d mc ms : Nat) : Room := { frames := d + 1, cells := mc, slots := ms, locals := 40 * (d + 1) }
theorem hm_Pre.blind (G : hm_E) (as : List Value) (hp : hm_H) : FrameBlind (hm_Pre G as hp) := by
  intro a U g mk h
  exact ⟨h.1, hm_R.moved (u := U) (U := U.calling g mk a) (Vm.Alike.refl U.vm) h.2.1, hm_NW.same (u := U) (U := U.calling g mk a) rfl h.2.2⟩
/-! the locals at a method's entry -/
theorem hm_al_len (G : hm_E) : ∀ as : List Value, (hm_al as).length = (lg_sl (as.map (hm_v G))).length
  | [] => rfl
  | v :: vs => by
    have ih := hm_al_len G vs
    show (hm_al (v :: vs)).length = (List.flatMap _ (hm_v G v :: vs.map (hm_v G))).length
    rw [List.flatMap_cons, List.length_append, hm_v_cat]
    unfold hm_al
    by_cases hc : v.category = 2
    · rw [if_pos hc, if_pos hc]
      simp only [List.length_cons, ih]
      show _ = 2 + (lg_sl (vs.map (hm_v G))).length
      omega
    · rw [if_neg hc, if_neg hc]
      simp only [List.length_cons, ih]
      show _ = 1 + (lg_sl (vs.map (hm_v G))).length
      omega
theorem hm_al_mem (G : hm_E) : ∀ (as : List Value) (k i : Nat) (v : Value), (hm_al as)[i]? = some v → (∀ n, v ≠ .retAddr n) → (k + i, hm_v G v) ∈ lv_args k (as.map (hm_v G))
  | [], _, i, v, h, _ => by cases i <;> cases h
  | w :: vs, k, i, v, h, hv => by
    show (k + i, hm_v G v) ∈ (k, hm_v G w) :: lv_args (if (hm_v G w).category = 2 then k + 2 else k + 1) (vs.map (hm_v G))
    rw [hm_v_cat]
    unfold hm_al at h
    by_cases hc : w.category = 2
    · rw [if_pos hc] at h ⊢
      match i, h with
      | 0, h => cases h; exact List.mem_cons_self
      | 1, h => cases h; exact absurd rfl (hv 0)
      | i + 2, h =>
        have := hm_al_mem G vs (k + 2) i v h hv
        rw [show k + (i + 2) = k + 2 + i by omega]
        exact List.mem_cons_of_mem _ this
    · rw [if_neg hc] at h ⊢
      match i, h with
      | 0, h => cases h; exact List.mem_cons_self
      | i + 1, h =>
        have := hm_al_mem G vs (k + 1) i v h hv
        rw [show k + (i + 1) = k + 1 + i by omega]
        exact List.mem_cons_of_mem _ this
theorem hm_ll_val {G : hm_E} {ls : List Value} {q : Nat × Value} (h : q ∈ hm_ll G ls) : ∃ v, ls[q.1]? = some v ∧ q.2 = hm_v G v ∧ ∀ n, v ≠ .retAddr n := by
  obtain ⟨i, -, hi⟩ := List.mem_filterMap.mp h
  cases hl : ls[i]? with
  | none => rw [hl] at hi; cases hi
  | some v =>
    rw [hl] at hi
    cases v <;> first | (cases hi; done) | (cases hi; exact ⟨_, hl, rfl, fun n hn => by cases hn⟩)
theorem hm_entL (G : hm_E) {as : List Value} {n : Nat} (hn : (hm_al as).length ≤ n) {la : Array Slot} (h : lv_has la n (lv_args 0 (as.map (hm_v G)))) : hm_L G la (hm_al as ++ List.replicate (n - (hm_al as).length) (.retAddr 0)) := by
  have hlen : (hm_al as ++ List.replicate (n - (hm_al as).length) (Value.retAddr 0)).length = n := by simp; omega
  refine ⟨by rw [hlen]; exact h.1, h.2.1, fun q hq => ?_⟩
  obtain ⟨v, hv1, hv2, hv3⟩ := hm_ll_val hq
  by_cases hq1 : q.1 < (hm_al as).length
  · rw [List.getElem?_append_left hq1] at hv1
    have hm := hm_al_mem G as 0 q.1 v hv1 hv3
    have := h.2.2 _ hm
    rw [Nat.zero_add] at this
    rw [hv2]
    exact this
  · rw [List.getElem?_append_right (by omega)] at hv1
    have := List.getElem?_replicate (a := Value.retAddr 0) (n := n - (hm_al as).length) (i := q.1 - (hm_al as).length)
    rw [this] at hv1
    split at hv1
    · cases hv1
      exact absurd rfl (hv3 0)
    · cases hv1
/-! methods' own words -/
theorem hm_cw_all : ∀ (M : Nat) (q : hm_Q), M < 174 → hm_mtab[M]? = some q → Cond.code q.1 q.2.1 q.2.2.1 q.2.2.2.1 ∈ tables_1 := by
  intro M q hM hq
  have key : ∀ q ∈ hm_mt0 ++ (hm_mt1 ++ (hm_mt2 ++ (hm_mt3 ++ (hm_mt4 ++ hm_mt5)))), Cond.code q.1 q.2.1 q.2.2.1 q.2.2.2.1 ∈ tables_1 := by
    intro q h
    simp only [List.mem_append] at h
    rcases h with h | h | h | h | h | h
    · exact hm_cwl0 q h
    · exact hm_cwl1 q h
    · exact hm_cwl2 q h
    · exact hm_cwl3 q h
    · exact hm_cwl4 q h
    · exact hm_cwl5 q h
  have e : hm_mtab = (hm_mt0 ++ (hm_mt1 ++ (hm_mt2 ++ (hm_mt3 ++ (hm_mt4 ++ hm_mt5))))) ++ [(x, code, maxLocals, ret, 19, 1, 0)] := by
    unfold hm_mtab
    simp only [List.append_assoc]
  have hl : (hm_mt0 ++ (hm_mt1 ++ (hm_mt2 ++ (hm_mt3 ++ (hm_mt4 ++ hm_mt5))))).length = 174 := rfl
  rw [e, List.getElem?_append_left (by rw [hl]; exact hM)] at hq
  exact key q (List.mem_of_getElem? hq)
theorem hm_mok_all : ∀ (M : Nat) (q : hm_Q), M < 174 → M ≠ 1 → hm_mtab[M]? = some q → ∃ w, hm_mchk q w = true := by
  intro M q hM h1 hq
  have hlen : hm_mw.length = 174 := rfl
  obtain ⟨w, hw⟩ : ∃ w, hm_mw[M]? = some w := ⟨_, List.getElem?_eq_getElem (l := hm_mw) (by rw [hlen]; exact hM)⟩
  have hz : (hm_mtab.zip hm_mw)[M]? = some (q, w) := List.getElem?_zip_eq_some.mpr ⟨hq, hw⟩
  have key : ∀ a b : Nat, a ≤ M → M < a + b → (((hm_mtab.zip hm_mw).drop a).take b).all (fun q => hm_mchk q.1 q.2 || decide (q.1.1.cls = "java/lang/Object")) = true → hm_mchk q w = true ∨ q.1.cls = "java/lang/Object" := by
    intro a b ha hb hall
    have hm : (q, w) ∈ ((hm_mtab.zip hm_mw).drop a).take b := by
      refine List.mem_of_getElem? (i := M - a) ?_
      rw [List.getElem?_take_of_lt (by omega), List.getElem?_drop, show a + (M - a) = M by omega]
      exact hz
    have := List.all_eq_true.mp hall _ hm
    simp only [Bool.or_eq_true, decide_eq_true_eq] at this
    exact this
  have hor : hm_mchk q w = true ∨ q.1.cls = "java/lang/Object" := by
    rcases Nat.lt_or_ge M 30 with h | h
    · exact key 0 30 (by omega) (by omega) hm_mok0
    rcases Nat.lt_or_ge M 60 with h | h
    · exact key 30 30 (by omega) (by omega) hm_mok1
    rcases Nat.lt_or_ge M 90 with h | h
    · exact key 60 30 (by omega) (by omega) hm_mok2
    rcases Nat.lt_or_ge M 120 with h | h
    · exact key 90 30 (by omega) (by omega) hm_mok3
    rcases Nat.lt_or_ge M 150 with h | h
    · exact key 120 30 (by omega) (by omega) hm_mok4
    · exact key 150 24 (by omega) (by omega) hm_mok5
  rcases hor with h | h
  · exact ⟨w, h⟩
  · exfalso
    have : ∀ k : Nat, k < 174 → k ≠ 1 → ∀ q, hm_mtab[k]? = some q → q.1.cls ≠ "java/lang/Object" := by
      have h9 : ((List.range 174).all fun k => decide (k = 1) || (match hm_mtab[k]? with | some q => decide (q.1.cls ≠ "java/lang/Object") | none => true)) = true := by decide +kernel
      intro k hk hk1 q hq
      have := List.all_eq_true.mp h9 k (List.mem_range.mpr hk)
      simp only [hk1, decide_false, Bool.false_or, hq, decide_eq_true_eq] at this
      exact this
    exact this M hM h1 q hq h
/-- the words of a method, one by one -/
theorem hm_mfacts {M : Nat} {q : hm_Q} (hM : M < 174) (h1 : M ≠ 1) (hq : hm_mtab[M]? = some q) : (Cond.initialized q.1.cls ∈ tables_1 ∧ (q.1.cls ≠ "java/lang/invoke/MethodHandle" ∧ q.1.cls ≠ "java/lang/invoke/VarHandle") ∧ hm_own[q.2.2.2.2.1]? = some q.1.cls ∧ q.2.2.1 ≤ 21 ∧ plainFor q.1 = true ∧ (parseMethodDescriptor q.1.desc).map (fun d => d.parameters.length) = some (if q.2.2.2.2.2.2 = 0 then q.2.2.2.2.2.1 else q.2.2.2.2.2.1 - 1)) ∧
    ((q.2.2.2.2.2.2 = 0 → Cond.static q.1 ∈ tables_1) ∧ (q.2.2.2.2.2.2 = 1 → Cond.instanceMethod q.1 ∈ tables_1 ∧ Cond.selects q.1.cls q.1 q.1 ∈ lw_tbl) ∧ (q.2.2.2.2.2.2 = 2 → Cond.instanceMethod q.1 ∈ tables_1 ∧ q.1.name = "<init>" ∧ q.2.2.2.1 = none)) := by
  obtain ⟨w, hw⟩ := hm_mok_all M q hM h1 hq
  obtain ⟨y, b, mL, rt, cid, na, kd⟩ := q
  unfold hm_mchk hm_nmH at hw
  simp only [Bool.and_eq_true, decide_eq_true_eq] at hw
  obtain ⟨⟨⟨⟨⟨⟨⟨a1, a2⟩, a3⟩, a4⟩, a5⟩, a6⟩, a7⟩, a8⟩ := hw
  refine ⟨⟨hm_at_mem a1, a2, a3, a4, a5, a6⟩, fun hk => ?_, fun hk => ?_, fun hk => ?_⟩
  · have hk : kd = 0 := hk
    subst hk
    exact hm_at_mem a8
  · have hk : kd = 1 := hk
    subst hk
    simp only [Bool.and_eq_true, decide_eq_true_eq] at a8
    exact ⟨hm_at_mem a8.1, List.mem_of_getElem? a8.2⟩
  · have hk : kd = 2 := hk
    subst hk
    simp only [Bool.and_eq_true, decide_eq_true_eq] at a8
    exact ⟨hm_at_mem a8.1.1, a8.1.2, a8.2⟩
theorem hm_goodIn {w : Cond} (h : w ∈ tables_1) (hg : goodWord w = true) : GoodIn hm_tb (w :: hm_tb) := by
  intro u hu
  rcases List.mem_cons.mp hu with rfl | hu
  · exact ⟨hm_tb_of h hg, good_of_word hg⟩
  · exact ⟨hu, good_of_word (List.mem_filter.mp hu).2⟩
end
section
theorem hm_code_ok {M pc : Nat} {i : Instr} {q : hm_Q} (hq : hm_mtab[M]? = some q) (h : hm_code M pc = some i) : ∃ n, decode q.2.1 pc = .ok (i, n) ∧ (hm_ln i = n ∨ hm_ln i = 0) := by
  unfold hm_code at h
  rw [hq] at h
  dsimp only at h
  split at h
  next i2 n he =>
    split at h
    next hc => cases h; exact ⟨n, he, hc⟩
    next => cases h
  next => cases h
theorem hm_own_cls {k : Nat} {r : vw_C} (h : hm_cls[k]? = some r) : hm_own[k]? = some r.1 := by
  have hk : k < 10 := (List.getElem?_eq_some_iff.mp h).1
  exact hm_lt10 (P := fun k => ∀ r, hm_cls[k]? = some r → hm_own[k]? = some r.1) ⟨fun r h => by cases h; rfl, fun r h => by cases h; rfl, fun r h => by cases h; rfl, fun r h => by cases h; rfl, fun r h => by cases h; rfl, fun r h => by cases h; rfl, fun r h => by cases h; rfl, fun r h => by cases h; rfl, fun r h => by cases h; rfl, fun r h => by cases h; rfl⟩ k hk r h
def hm_At (l : Launch) (G : hm_E) (f : Nat) : Prop := ∀ (d M pc : Nat) (ls st : List Value) (hp hp2 : hm_H) (r : Option Value) (q : hm_Q), hm_run f d M pc ls st hp = some (r, hp2) → hm_mtab[M]? = some q →
  ∀ (p : Program) (e : Env) (R : Room) (s : State) (m : MethodId) (args : Array Value) (below : List Frame) (meth : Method) (c : Code) (Q : State → Prop) (n0 s0 : Nat), hm_Cx p s m args meth c q → n0 ≤ hp.2.1 → s0 ≤ hp.2.2 → hp2.2.1 - n0 ≤ R.cells → hp2.2.2 - s0 ≤ R.slots → d + 1 ≤ R.frames → 40 * (d + 1) ≤ R.locals →
  (∀ (pc2 : Nat) (ls2 st2 : List Value) (i : Instr) (n : Nat), decode q.2.1 pc2 = .ok (i, n) → (hm_ln i = n ∨ hm_ln i = 0) → hm_ret i q.2.2.2.1 st2 = some r → hm_K p l e R s m args below meth c Q G n0 s0 (pc2, ls2, st2, hp2)) →
  hm_K p l e R s m args below meth c Q G n0 s0 (pc, ls, st, hp)
/-- a run of a method is its contract -/
theorem hm_metOf {l : Launch} {G : hm_E} {f d M : Nat} (ih : hm_At l G f) {q : hm_Q} {as l0 : List Value} {hp hp2 : hm_H} {r : Option Value} (hM : M < 174) (hM1 : M ≠ 1) (hq : hm_mtab[M]? = some q) (hl : hm_ent M as = some l0) (h : hm_run f d M 0 l0 [] hp = some (r, hp2)) :
    Met l q.1 (Cond.code q.1 q.2.1 q.2.2.1 q.2.2.2.1 :: hm_tb) (hm_rm d (hp2.2.1 - hp.2.1) (hp2.2.2 - hp.2.2)) (hm_Pre G as hp) (hm_Post G r hp2) (hp2.2.1 - hp.2.1) (hp2.2.2 - hp.2.2) (fun a => G.1 ≤ a) := by
  obtain ⟨⟨w1, w2, w3, w4, w5, w6⟩, -⟩ := hm_mfacts hM hM1 hq
  refine va_MetF (cc := q.2.1) (maxL := q.2.2.1) (ret := q.2.2.2.1) w5 rfl ?_
  intro p e s m args below meth c s₁ B hml hv
  obtain ⟨rfl, hR, hNW⟩ := hv
  have hts := atoms_spec (ws := Cond.code q.1 q.2.1 q.2.2.1 q.2.2.2.1 :: hm_tb) B.pre
  have C0 : hm_Cx p s m (as.map (hm_v G)).toArray meth c q := ⟨B.exec, B.bytes, hml, B.returns, B.notSynchronized, findClass_of_methodNamed B.named, fun z => (name_of_methodNamed B.named B.method).1.trans z, w3, fun w hw => hts w (List.mem_cons_of_mem _ hw), hNW⟩
  unfold hm_ent at hl
  rw [hq] at hl
  dsimp only at hl
  split at hl
  next hlen =>
    cases hl
    have hle := hm_al_len G as
    have hent := lv_entry (as.map (hm_v G)) (n := q.2.2.1) (by rw [← hle]; exact hlen)
    rw [lg_entry_eq]
    generalize (lg_sl (as.map (hm_v G)) ++ List.replicate (q.2.2.1 - (lg_sl (as.map (hm_v G))).length) Slot.unset).toArray = la at hent ⊢
    have hL := hm_entL G hlen hent
    have key := ih d M 0 _ [] hp hp2 r q h hq p e (hm_rm d (hp2.2.1 - hp.2.1) (hp2.2.2 - hp.2.2)) s m (as.map (hm_v G)).toArray below meth c (MQ below (hm_Post G r hp2) (as.map (hm_v G)).toArray s (hp2.2.1 - hp.2.1) (hp2.2.2 - hp.2.2) (fun a => G.1 ≤ a)) hp.2.1 hp.2.2 C0 (Nat.le_refl _) (Nat.le_refl _) (Nat.le_refl _) (Nat.le_refl _) (Nat.le_refl _) (Nat.le_refl _) (by
      intro pc2 ls2 st2 i n hd hn hret H locs la2 hR2 hL2 hz2 hf2
      have hx := B.exec
      have hb := B.bytes
      have hr := B.returns
      have hlocks := B.notSynchronized
      unfold hm_ret at hret
      split at hret
      · obtain rfl : n = 1 := hm_lnE hn rfl (by decide)
        cases hret
        exact W.vret hx hb (by rw [hr]; assumption) (fun t ht hW => ⟨rfl, by rw [ht]; exact hR2.moved hW.alike⟩) hf2 hd
      · obtain rfl : n = 1 := hm_lnE hn rfl (by decide)
        cases hret
        exact W.iret hx hb (by rw [hr]; assumption) (fun t ht hW => ⟨rfl, by rw [ht]; exact hR2.moved hW.alike⟩) hf2 hd
      · obtain rfl : n = 1 := hm_lnE hn rfl (by decide)
        rename_i x _
        split at hret
        next h01 =>
          cases hret
          refine W.zret (ty := .boolean) hx hb (by rw [hr]; assumption) ?_ (fun t ht hW => ⟨rfl, by rw [ht]; exact hR2.moved hW.alike⟩) hf2 hd
          rcases h01 with rfl | rfl
          · decide +kernel
          · decide +kernel
        next => cases hret
      · obtain rfl : n = 1 := hm_lnE hn rfl (by decide)
        cases hret
        exact W.lret hx hb (by rw [hr]; assumption) (fun t ht hW => ⟨rfl, by rw [ht]; exact hR2.moved hW.alike⟩) hf2 hd
      · obtain rfl : n = 1 := hm_lnE hn rfl (by decide)
        cases hret
        exact W.aret hx hb (by rw [hr]; assumption) (Or.inl ⟨_, rfl⟩) (Or.inr ⟨_, rfl⟩) (fun t ht hW => ⟨rfl, by rw [ht]; exact hR2.moved hW.alike⟩) hf2 hd
      · obtain rfl : n = 1 := hm_lnE hn rfl (by decide)
        cases hret
        exact W.aret hx hb (by rw [hr]; assumption) (Or.inl ⟨_, rfl⟩) (Or.inl rfl) (fun t ht hW => ⟨rfl, by rw [ht]; exact hR2.moved hW.alike⟩) hf2 hd
      · obtain rfl : n = 1 := hm_lnE hn rfl (by decide)
        cases hret
        exact W.aret hx hb (by rw [hr]; assumption) (Or.inr ⟨_, rfl⟩) (Or.inr ⟨_, rfl⟩) (fun t ht hW => ⟨rfl, by rw [ht]; exact hR2.moved hW.alike⟩) hf2 hd
      · obtain rfl : n = 1 := hm_lnE hn rfl (by decide)
        cases hret
        exact W.aret hx hb (by rw [hr]; assumption) (Or.inr ⟨_, rfl⟩) (Or.inl rfl) (fun t ht hW => ⟨rfl, by rw [ht]; exact hR2.moved hW.alike⟩) hf2 hd
      · cases hret)
    have kk := key s.heap [] la hR hL (by rw [hml]; exact hent.1) (fun q h => by cases h)
    exact W.cs (show 0 = hp.2.1 - hp.2.1 by omega) (show 0 = hp.2.2 - hp.2.2 by omega) kk
  next => cases hl
section HMC
variable {p : Program} {l : Launch} {e : Env} {R : Room} {s : State} {m : MethodId} {args : Array Value} {below : List Frame} {meth : Method} {c : Code} {Q : State → Prop}
variable {pc n n0 s0 : Nat} {i : Instr} {ls st : List Value} {hp : hm_H} {σ : hm_S} {G : hm_E} {q : hm_Q}
/-- the link of a call -/
theorem hm_clk (C0 : hm_Cx p s m args meth c q) {ix cc nst w : Nat} {rq : hm_Q} (hrq : hm_mtab[cc]? = some rq) (h : hm_ctab.lookup (q.2.2.2.2.1, ix) = some (cc, nst, w)) : (Cond.methodLink q.1.cls ix rq.1).before args s = true ∨ va_Nw (.methodLinkNest q.1.cls ix rq.1 "HourPromised") s := by
  obtain ⟨-, -, -, -, -, -, -, hw0, hts, hNW⟩ := C0
  have h1 := List.all_eq_true.mp hm_cok _ (hm_lk h)
  unfold hm_cchk at h1
  dsimp only at h1
  rw [hw0, hrq] at h1
  dsimp only at h1
  split at h1
  · exact Or.inl (hts _ (hm_tb_of (hm_at_mem h1) rfl))
  · exact Or.inr (hNW.1 _ (hm_at_mem h1) rfl)
set_option maxHeartbeats 2000000 in
theorem hm_callK {f d2 : Nat} (ih : hm_At l G f) (C0 : hm_Cx p s m args meth c q) (hd : decode q.2.1 pc = .ok (i, n)) (hn : hm_ln i = n ∨ hm_ln i = 0) {cc : Nat} {as rest l0 : List Value} {r1 : Option Value} {hp1 : hm_H} (hc : hm_cal q i st hp = some (cc, as, rest)) (hl : hm_ent cc as = some l0) (h1 : hm_run f d2 cc 0 l0 [] hp = some (r1, hp1)) (hn0 : n0 ≤ hp.2.1) (hs0 : s0 ≤ hp.2.2) (hc1 : hp1.2.1 - n0 ≤ R.cells) (hs1 : hp1.2.2 - s0 ≤ R.slots) (hfr : d2 + 1 + 1 ≤ R.frames) (hlo : 40 * (d2 + 1 + 1) ≤ R.locals) (k : hm_K p l e R s m args below meth c Q G n0 s0 (pc + 3, ls, r1.toList ++ rest, hp1)) : hm_K p l e R s m args below meth c Q G n0 s0 (pc, ls, st, hp) := by
  intro H locs la hR hL hz hf
  obtain ⟨hx, hb, hml, hr, hlk, hown, hnm, hw0, hts, hNW⟩ := id C0
  obtain ⟨hK, hsz, hcl, hst⟩ := id hR
  obtain ⟨hle1, hle2⟩ := hm_run_le h1
  unfold hm_cal at hc
  split at hc
  next => cases hc
  next c2 kd htg =>
    split at hc
    next => cases hc
    next rq hrq =>
      split at hc
      next hcond =>
        obtain ⟨⟨hlt, hne1, hne2⟩, ⟨hkd, hnast⟩, hrl, hrcv⟩ := hcond
        cases hc
        obtain ⟨⟨w1, w2, w3, w4, w5, w6⟩, w7, w8, w9⟩ := hm_mfacts hlt hne1 hrq
        have hM := hm_metOf ih hlt hne1 hrq hl h1
        have hcw := hm_cw_all _ _ hlt hrq
        have hG := hm_goodIn hcw rfl
        have hini := hts _ (hm_tb_of w1 rfl)
        have hroom : (hm_rm d2 (hp1.2.1 - hp.2.1) (hp1.2.2 - hp.2.2)).frames + 1 ≤ R.frames ∧ 8 + (rq.2.2.1 + 11) + (hm_rm d2 (hp1.2.1 - hp.2.1) (hp1.2.2 - hp.2.2)).locals ≤ R.locals := ⟨hfr, by show 8 + (rq.2.2.1 + 11) + 40 * (d2 + 1) ≤ R.locals; omega⟩
        have hsum : 2 * (F0 m pc la (st.map (hm_v G))).monitorRoom + ((((st.drop rq.2.2.2.2.2.1)).map (hm_v G)).map fun v => v.category).sum ≤ 8 := lv_room (hm_sum _ hrl)
        have hfit : hp.2.1 - n0 + (hp1.2.1 - hp.2.1) ≤ R.cells ∧ hp.2.2 - s0 + (hp1.2.2 - hp.2.2) ≤ R.slots := ⟨by omega, by omega⟩
        have hpre : ∀ U : State, U.heap = H → s.WarmedH U.vm → hm_Pre G ((st.take rq.2.2.2.2.2.1).reverse) hp (((st.take rq.2.2.2.2.2.1).reverse).map (hm_v G)).toArray U := fun U hU hW => ⟨rfl, by rw [hU]; exact hR.moved hW.alike, hNW.warm hW⟩
        have hsz2 : (F0 m pc la (st.map (hm_v G))).locals.size = q.2.2.1 := hz.trans hml
        have hlen : (st.take rq.2.2.2.2.2.1).reverse.length = rq.2.2.2.2.2.1 := by simp; omega
        have hstk : st.map (hm_v G) = (((st.take rq.2.2.2.2.2.1).reverse).map (hm_v G)).reverse ++ (st.drop rq.2.2.2.2.2.1).map (hm_v G) := by
          rw [← List.map_reverse, List.reverse_reverse, ← List.map_append, List.take_append_drop]
        have fin : ∀ a9 : Array Value, va_Run p l e R s m args below meth c H locs (hp.2.1 - n0) (hp.2.2 - s0) (hp1.2.1 - hp.2.1) (hp1.2.2 - hp.2.2) (F0 m pc la (st.map (hm_v G))) ((st.drop rq.2.2.2.2.2.1).map (hm_v G)) (hm_Post G r1 hp1 a9) (fun a => G.1 ≤ a) → W p l e R s m args below meth c H locs (hp.2.1 - n0) (hp.2.2 - s0) Q (F0 m pc la (st.map (hm_v G))) := by
          intro a9 hrun T hT X
          obtain ⟨v, st₀, t, T', L, h0, X', hLf, e1, e2, ⟨hv, hRt⟩, stp⟩ := hrun T hT X
          have hv2 : v = r1.map (hm_v G) := Outcome.returned.inj hv
          subst hv2
          have hal : s.vm.Alike t.vm := by rw [← e2]; exact X'.warmed.alike
          have hR1 : hm_R G s hp1 T'.heap := by rw [e1]; exact hRt.moved hal.symm
          have ec : hp.2.1 - n0 + (hp1.2.1 - hp.2.1) = hp1.2.1 - n0 := by omega
          have es : hp.2.2 - s0 + (hp1.2.2 - hp.2.2) = hp1.2.2 - s0 := by omega
          rw [ec, es] at X'
          obtain ⟨t2, a1, b1⟩ := k T'.heap (locs ++ L) la hR1 hL hz (t_lL (free := fun x => G.1 ≤ x) hf hLf) T' rfl X'
          refine ⟨t2, stp t2 ?_, b1⟩
          have e3 : (r1.toList ++ st.drop rq.2.2.2.2.2.1).map (hm_v G) = (r1.map (hm_v G)).toList ++ (st.drop rq.2.2.2.2.2.1).map (hm_v G) := by
            rw [List.map_append]
            cases r1 <;> rfl
          have a2 : Steps p.tables e below (T'.setTop (F0 m (pc + 3) la ((r1.toList ++ st.drop rq.2.2.2.2.2.1).map (hm_v G)))) t2 := a1
          rw [e3] at a2
          exact a2
        unfold hm_tgt at htg
        split at htg
        · obtain rfl : n = 3 := hm_lnE hn rfl (by decide)
          obtain ⟨⟨c3, nst, w⟩, hlf, he⟩ := Option.map_eq_some_iff.mp htg
          cases he
          have hk0 : rq.2.2.2.2.2.2 = 0 := hkd
          rw [if_pos hk0] at w6
          have hstat := hts _ (hm_tb_of (w7 hk0) rfl)
          rcases hm_clk C0 hrq hlf with hlink | hlink
          · exact fin _ (va_runS ⟨hx, hb, hml, hown, hts⟩ hM ⟨callB_of _ hts hG rfl rfl rfl hini hlink ⟨w2.1, w2.2, w6⟩ hroom, hstat⟩ ⟨hm_Pre.blind _ _ _, hpre⟩ rfl (by rw [List.length_map]; exact hlen) hsz2 hstk hsum hd hfit)
          · exact fin _ (va_runSN ⟨hx, hb, hml, hown, hts⟩ hM ⟨va_cnB _ hts hG rfl rfl rfl hlink hini ⟨w2.1, w2.2, w6⟩ hroom, hstat, trivial⟩ ⟨hm_Pre.blind _ _ _, hpre⟩ rfl (by rw [List.length_map]; exact hlen) hsz2 hstk hsum hd hfit)
        · obtain rfl : n = 3 := hm_lnE hn rfl (by decide)
          obtain ⟨⟨c3, nst, w⟩, hlf, he⟩ := Option.map_eq_some_iff.mp htg
          cases he
          have hk1 : rq.2.2.2.2.2.2 = 1 := hkd
          rw [if_neg (by omega)] at w6
          have hinst := hts _ (hm_tb_of (w8 hk1).1 rfl)
          have hsel : (Cond.selects rq.1.cls rq.1 rq.1).before args s = true := hts _ (List.mem_filter.mpr ⟨(w8 hk1).2, rfl⟩)
          generalize has : (st.take rq.2.2.2.2.2.1).reverse = as at *
          unfold hm_rcv at hrcv
          split at hrcv
          · omega
          · rename_i a as2 _
            split at hrcv
            next cj fs hha =>
              have hcj : cj = rq.2.2.2.2.1 := of_decide_eq_true hrcv
              obtain ⟨-, hat⟩ := hcl a _ hha
              obtain ⟨rr, hrr, -⟩ := id hat
              have hnmc : rr.1 = rq.1.cls := by
                have := hm_own_cls hrr
                rw [hcj, w3] at this
                exact (Option.some.inj this).symm
              have hrecv := va_recv hK (hm_one hat) (q0 := 0) hrr rfl
              rw [hnmc] at hrecv
              have hlen2 : (as2.map (hm_v G)).length = rq.2.2.2.2.2.1 - 1 := by
                rw [List.length_map]
                have : as2.length + 1 = rq.2.2.2.2.2.1 := hlen
                omega
              have hstk2 : st.map (hm_v G) = (as2.map (hm_v G)).reverse ++ .ref (hm_rho G a) :: (st.drop rq.2.2.2.2.2.1).map (hm_v G) := by
                rw [hstk]
                simp [hm_v]
              rcases hm_clk C0 hrq hlf with hlink | hlink
              · exact fin _ (va_runV (C := rq.1.cls) (b := hm_rho G a) (As := as2.map (hm_v G)) ⟨hx, hb, hml, hown, hts⟩ hM ⟨callB_of _ hts hG rfl rfl rfl hini hlink ⟨w2.1, w2.2, w6⟩ hroom, hinst, hsel⟩ ⟨hm_Pre.blind _ _ _, hrecv, hpre⟩ rfl hlen2 hsz2 hstk2 hsum hd hfit)
              · exact fin _ (va_runVN (C := rq.1.cls) (b := hm_rho G a) (As := as2.map (hm_v G)) ⟨hx, hb, hml, hown, hts⟩ hM ⟨va_cnB _ hts hG rfl rfl rfl hlink hini ⟨w2.1, w2.2, w6⟩ hroom, hinst, hsel⟩ ⟨hm_Pre.blind _ _ _, hrecv, hpre⟩ rfl hlen2 hsz2 hstk2 hsum hd hfit)
            next => cases hrcv
          · omega
          · cases hrcv
        · obtain rfl : n = 3 := hm_lnE hn rfl (by decide)
          obtain ⟨⟨c3, nst, w⟩, hlf, he⟩ := Option.map_eq_some_iff.mp htg
          cases he
          have hk2 : rq.2.2.2.2.2.2 = 2 := hkd
          rw [if_neg (by omega)] at w6
          obtain ⟨w91, w92, w93⟩ := w9 hk2
          have hinst := hts _ (hm_tb_of w91 rfl)
          generalize has : (st.take rq.2.2.2.2.2.1).reverse = as at *
          unfold hm_rcv at hrcv
          split at hrcv
          · omega
          · omega
          · rename_i a as2 _
            have hlen2 : (as2.map (hm_v G)).length = rq.2.2.2.2.2.1 - 1 := by
              rw [List.length_map]
              have : as2.length + 1 = rq.2.2.2.2.2.1 := hlen
              omega
            have hstk2 : st.map (hm_v G) = (as2.map (hm_v G)).reverse ++ .ref (hm_rho G a) :: (st.drop rq.2.2.2.2.2.1).map (hm_v G) := by
              rw [hstk]
              simp [hm_v]
            rw [w93] at hM hG
            rcases hm_clk C0 hrq hlf with hlink | hlink
            · exact fin _ (va_runI (b := hm_rho G a) (As := as2.map (hm_v G)) ⟨hx, hb, hml, hown, hts⟩ hM ⟨callB_of _ hts hG rfl rfl rfl hini hlink ⟨w2.1, w2.2, w6⟩ hroom, w92, hinst⟩ ⟨hm_Pre.blind _ _ _, hpre⟩ rfl hlen2 hsz2 hstk2 hsum hd hfit)
            · exact fin _ (va_runIN (b := hm_rho G a) (As := as2.map (hm_v G)) ⟨hx, hb, hml, hown, hts⟩ hM ⟨va_cnB _ hts hG rfl rfl rfl hlink hini ⟨w2.1, w2.2, w6⟩ hroom, w92, hinst⟩ ⟨hm_Pre.blind _ _ _, hpre⟩ rfl hlen2 hsz2 hstk2 hsum hd hfit)
          · cases hrcv
        · cases htg
      next => cases hc
end HMC
end
section
/-! THE PURE CALCULUS: what a run of the abstract machine comes to, goal first -/
theorem hm_run_up : ∀ {f d M pc : Nat} {ls st : List Value} {hp : hm_H} {x : Option Value × hm_H}, hm_run f d M pc ls st hp = some x → hm_run (f + 1) d M pc ls st hp = some x
  | 0, _, _, _, _, _, _, _, h => by cases h
  | f + 1, d, M, pc, ls, st, hp, (r, hp2), h => by
    obtain ⟨q, i, hq, hi, hcase⟩ := hm_run_cases h
    rw [hm_run] at h ⊢
    rw [hq, hi] at h ⊢
    dsimp only at h ⊢
    cases hr : hm_ret i q.2.2.2.1 st with
    | some r0 => rw [hr] at h; exact h
    | none =>
      rw [hr] at h
      dsimp only at h ⊢
      cases hs : hm_step q i pc ls st hp with
      | some σ =>
        rw [hs] at h
        exact hm_run_up h
      | none =>
        rw [hs] at h
        dsimp only at h ⊢
        cases d with
        | zero => exact h
        | succ d2 =>
          dsimp only at h ⊢
          cases hc : hm_cal q i st hp with
          | some y =>
            obtain ⟨c, as, rest⟩ := y
            rw [hc] at h
            dsimp only at h ⊢
            cases he : hm_ent c as with
            | none => rw [he] at h; cases h
            | some l0 =>
              rw [he] at h
              dsimp only at h ⊢
              cases h1 : hm_run f d2 c 0 l0 [] hp with
              | none => rw [h1] at h; cases h
              | some y =>
                obtain ⟨r1, hp1⟩ := y
                rw [h1] at h
                rw [hm_run_up h1]
                exact hm_run_up h
          | none =>
            rw [hc] at h
            dsimp only at h ⊢
            cases hy : hm_cpy q i st hp with
            | none => rw [hy] at h; cases h
            | some y =>
              obtain ⟨a, rest, hp1⟩ := y
              rw [hy] at h
              dsimp only at h ⊢
              split at h
              next h4 => rw [if_pos h4]; exact hm_run_up h
              next => cases h
theorem hm_run_ge {f g d M pc : Nat} {ls st : List Value} {hp : hm_H} {x : Option Value × hm_H} (h : hm_run f d M pc ls st hp = some x) (hg : f ≤ g) : hm_run g d M pc ls st hp = some x := by
  obtain ⟨k, rfl⟩ := Nat.exists_eq_add_of_le hg
  induction k with
  | zero => exact h
  | succ k ih => exact hm_run_up (ih (by omega))
/-- a run comes to an end with Q -/
def hm_T (d M pc : Nat) (ls st : List Value) (hp : hm_H) (Q : Option Value → hm_H → Prop) : Prop := ∃ (f : Nat) (r : Option Value) (hp2 : hm_H), hm_run f d M pc ls st hp = some (r, hp2) ∧ Q r hp2
section HT
variable {d M pc : Nat} {ls st r ls2 st2 : List Value} {hp hp2 : hm_H} {Q : Option Value → hm_H → Prop} {i : Instr} {q : hm_Q}
theorem hm_T.mono {Q2 : Option Value → hm_H → Prop} (h : hm_T d M pc ls st hp Q) (hQ : ∀ r hp2, Q r hp2 → Q2 r hp2) : hm_T d M pc ls st hp Q2 := by
  obtain ⟨f, r, hp2, h1, h2⟩ := h
  exact ⟨f, r, hp2, h1, hQ r hp2 h2⟩
theorem hm_code_q (hI : hm_code M pc = some i) : ∃ q, hm_mtab[M]? = some q := by
  unfold hm_code at hI
  split at hI
  next => cases hI
  next q hq => exact ⟨q, hq⟩
theorem hm_T.ret {v : Option Value} (hq : hm_mtab[M]? = some q) (hI : hm_code M pc = some i) (hr : hm_ret i q.2.2.2.1 st = some v) (h : Q v hp) : hm_T d M pc ls st hp Q := by
  refine ⟨1, v, hp, ?_, h⟩
  rw [hm_run, hq, hI]
  dsimp only
  rw [hr]
theorem hm_T.of {pc2 : Nat} (hI : hm_code M pc = some i) (hr : ∀ ret, hm_ret i ret st = none) (hs : ∀ q, hm_mtab[M]? = some q → hm_step q i pc ls st hp = some (pc2, ls2, st2, hp2)) (h : hm_T d M pc2 ls2 st2 hp2 Q) : hm_T d M pc ls st hp Q := by
  obtain ⟨f, v, hp3, h1, h2⟩ := h
  obtain ⟨q, hq⟩ := hm_code_q hI
  refine ⟨f + 1, v, hp3, ?_, h2⟩
  rw [hm_run, hq, hI]
  dsimp only
  rw [hr, hs q hq]
  exact h1
theorem hm_T.call {as rest l0 : List Value} {cc : Nat} (hq : hm_mtab[M]? = some q) (hI : hm_code M pc = some i) (hr : ∀ ret, hm_ret i ret st = none) (hs : hm_step q i pc ls st hp = none) (hc : hm_cal q i st hp = some (cc, as, rest)) (he : hm_ent cc as = some l0) (h : hm_T d cc 0 l0 [] hp (fun v hp2 => hm_T (d + 1) M (pc + 3) ls (v.toList ++ rest) hp2 Q)) : hm_T (d + 1) M pc ls st hp Q := by
  obtain ⟨f, v, hp3, h1, f2, v2, hp4, h2, h3⟩ := h
  refine ⟨max f f2 + 1, v2, hp4, ?_, h3⟩
  rw [hm_run, hq, hI]
  dsimp only
  rw [hr, hs]
  dsimp only
  rw [hc]
  dsimp only
  rw [he]
  dsimp only
  rw [hm_run_ge h1 (Nat.le_max_left f f2)]
  exact hm_run_ge h2 (Nat.le_max_right f f2)
theorem hm_T.copy {rest : List Value} {a : Nat} (hq : hm_mtab[M]? = some q) (hI : hm_code M pc = some i) (hr : ∀ ret, hm_ret i ret st = none) (hs : hm_step q i pc ls st hp = none) (hc : hm_cal q i st hp = none) (hy : hm_cpy q i st hp = some (a, rest, hp2)) (hd : 4 ≤ d) (h : hm_T (d + 1) M (pc + 3) ls (.ref a :: rest) hp2 Q) : hm_T (d + 1) M pc ls st hp Q := by
  obtain ⟨f, v, hp3, h1, h2⟩ := h
  refine ⟨f + 1, v, hp3, ?_, h2⟩
  rw [hm_run, hq, hI]
  dsimp only
  rw [hr, hs]
  dsimp only
  rw [hc]
  dsimp only
  rw [hy]
  dsimp only
  rw [if_pos hd]
  exact h1
theorem hm_sel1 {σ : hm_S}  (h : hm_s1 i pc ls st hp = some σ) : hm_step q i pc ls st hp = some σ := by
  unfold hm_step
  rw [h]
  rfl
theorem hm_sel2 {σ : hm_S} (h1 : hm_s1 i pc ls st hp = none) (h : hm_s2 i pc ls st hp = some σ) : hm_step q i pc ls st hp = some σ := by
  unfold hm_step
  rw [h1, h]
  rfl
theorem hm_sel3 {σ : hm_S} (h1 : hm_s1 i pc ls st hp = none) (h2 : hm_s2 i pc ls st hp = none) (h : hm_s3 i pc ls st hp = some σ) : hm_step q i pc ls st hp = some σ := by
  unfold hm_step
  rw [h1, h2, h]
  rfl
theorem hm_sel4 {σ : hm_S} (h1 : hm_s1 i pc ls st hp = none) (h2 : hm_s2 i pc ls st hp = none) (h3 : hm_s3 i pc ls st hp = none) (h : hm_s4 i pc ls st hp = some σ) : hm_step q i pc ls st hp = some σ := by
  unfold hm_step
  rw [h1, h2, h3, h]
  rfl
theorem hm_sel5 {σ : hm_S} (h1 : hm_s1 i pc ls st hp = none) (h2 : hm_s2 i pc ls st hp = none) (h3 : hm_s3 i pc ls st hp = none) (h4 : hm_s4 i pc ls st hp = none) (h : hm_s5 q.2.2.2.2.1 i pc ls st hp = some σ) : hm_step q i pc ls st hp = some σ := by
  unfold hm_step
  rw [h1, h2, h3, h4, h]
  rfl
theorem hm_sel6 {σ : hm_S} (h1 : hm_s1 i pc ls st hp = none) (h2 : hm_s2 i pc ls st hp = none) (h3 : hm_s3 i pc ls st hp = none) (h4 : hm_s4 i pc ls st hp = none) (h5 : hm_s5 q.2.2.2.2.1 i pc ls st hp = none) (h : hm_s6 q i pc ls st hp = some σ) : hm_step q i pc ls st hp = some σ := by
  unfold hm_step
  rw [h1, h2, h3, h4, h5, h]
  rfl
theorem hm_sel7 {σ : hm_S} (h1 : hm_s1 i pc ls st hp = none) (h2 : hm_s2 i pc ls st hp = none) (h3 : hm_s3 i pc ls st hp = none) (h4 : hm_s4 i pc ls st hp = none) (h5 : hm_s5 q.2.2.2.2.1 i pc ls st hp = none) (h6 : hm_s6 q i pc ls st hp = none) (h : hm_s7 q.2.2.2.2.1 i pc ls st hp = some σ) : hm_step q i pc ls st hp = some σ := by
  unfold hm_step
  rw [h1, h2, h3, h4, h5, h6, h]
  rfl
theorem hm_sel8 {σ : hm_S} (h1 : hm_s1 i pc ls st hp = none) (h2 : hm_s2 i pc ls st hp = none) (h3 : hm_s3 i pc ls st hp = none) (h4 : hm_s4 i pc ls st hp = none) (h5 : hm_s5 q.2.2.2.2.1 i pc ls st hp = none) (h6 : hm_s6 q i pc ls st hp = none) (h7 : hm_s7 q.2.2.2.2.1 i pc ls st hp = none) (h : hm_s8 q.2.2.2.2.1 i pc ls st hp = some σ) : hm_step q i pc ls st hp = some σ := by
  unfold hm_step
  rw [h1, h2, h3, h4, h5, h6, h7, h]
  rfl
theorem r_iconst {n : Int} {v : Int32} (hI : hm_code M pc = some (.iconst n)) (hv : Int32.ofInt n = v) (h : hm_T d M (pc + 1) ls (.int v :: st) hp Q) : hm_T d M pc ls st hp Q :=
  hm_T.of hI (fun _ => rfl) (fun q2 _ => hm_sel1 (by rw [← hv]; rfl)) h
theorem r_bipush {n : Int} {v : Int32} (hI : hm_code M pc = some (.bipush n)) (hv : (Int8.ofInt n).toInt32 = v) (h : hm_T d M (pc + 2) ls (.int v :: st) hp Q) : hm_T d M pc ls st hp Q :=
  hm_T.of hI (fun _ => rfl) (fun q2 _ => hm_sel1 (by rw [← hv]; rfl)) h
theorem r_sipush {n : Int} {v : Int32} (hI : hm_code M pc = some (.sipush n)) (hv : (Int16.ofInt n).toInt32 = v) (h : hm_T d M (pc + 3) ls (.int v :: st) hp Q) : hm_T d M pc ls st hp Q :=
  hm_T.of hI (fun _ => rfl) (fun q2 _ => hm_sel1 (by rw [← hv]; rfl)) h
theorem r_lconst {n : Fin 2} {v : Int64} (hI : hm_code M pc = some (.lconst n)) (hv : Int64.ofNat (n : Nat) = v) (h : hm_T d M (pc + 1) ls (.long v :: st) hp Q) : hm_T d M pc ls st hp Q :=
  hm_T.of hI (fun _ => rfl) (fun q2 _ => hm_sel1 (by rw [← hv]; rfl)) h
theorem r_null (hI : hm_code M pc = some (.aconst_null)) (h : hm_T d M (pc + 1) ls (.null :: st) hp Q) : hm_T d M pc ls st hp Q :=
  hm_T.of hI (fun _ => rfl) (fun q2 _ => hm_sel1 (rfl)) h
theorem r_dup {a : Value} (hI : hm_code M pc = some (.dup)) (ha : a.category = 1) (h : hm_T d M (pc + 1) ls (a :: a :: r) hp Q) : hm_T d M pc ls (a :: r) hp Q :=
  hm_T.of hI (fun _ => rfl) (fun q2 _ => hm_sel1 (if_pos ha)) h
theorem r_pop {a : Value} (hI : hm_code M pc = some (.pop)) (ha : a.category = 1) (h : hm_T d M (pc + 1) ls r hp Q) : hm_T d M pc ls (a :: r) hp Q :=
  hm_T.of hI (fun _ => rfl) (fun q2 _ => hm_sel1 (if_pos ha)) h
theorem r_dup_x1 {a b : Value} (hI : hm_code M pc = some (.dup_x1)) (ha : a.category = 1) (hb : b.category = 1) (h : hm_T d M (pc + 1) ls (a :: b :: a :: r) hp Q) : hm_T d M pc ls (a :: b :: r) hp Q :=
  hm_T.of hI (fun _ => rfl) (fun q2 _ => hm_sel1 (if_pos ⟨ha, hb⟩)) h
theorem r_dup2 {a b : Value} (hI : hm_code M pc = some (.dup2)) (ha : a.category = 1) (hb : b.category = 1) (h : hm_T d M (pc + 1) ls (a :: b :: a :: b :: r) hp Q) : hm_T d M pc ls (a :: b :: r) hp Q :=
  hm_T.of hI (fun _ => rfl) (fun q2 _ => hm_sel1 (if_pos ⟨ha, hb⟩)) h
theorem r_iadd {x y : Int32} (hI : hm_code M pc = some (.iadd)) (h : hm_T d M (pc + 1) ls (.int (x + y) :: r) hp Q) : hm_T d M pc ls (.int y :: .int x :: r) hp Q :=
  hm_T.of hI (fun _ => rfl) (fun q2 _ => hm_sel2 rfl (rfl)) h
theorem r_isub {x y : Int32} (hI : hm_code M pc = some (.isub)) (h : hm_T d M (pc + 1) ls (.int (x - y) :: r) hp Q) : hm_T d M pc ls (.int y :: .int x :: r) hp Q :=
  hm_T.of hI (fun _ => rfl) (fun q2 _ => hm_sel2 rfl (rfl)) h
theorem r_imul {x y : Int32} (hI : hm_code M pc = some (.imul)) (h : hm_T d M (pc + 1) ls (.int (x * y) :: r) hp Q) : hm_T d M pc ls (.int y :: .int x :: r) hp Q :=
  hm_T.of hI (fun _ => rfl) (fun q2 _ => hm_sel2 rfl (rfl)) h
theorem r_iand {x y : Int32} (hI : hm_code M pc = some (.iand)) (h : hm_T d M (pc + 1) ls (.int (x &&& y) :: r) hp Q) : hm_T d M pc ls (.int y :: .int x :: r) hp Q :=
  hm_T.of hI (fun _ => rfl) (fun q2 _ => hm_sel2 rfl (rfl)) h
theorem r_ior {x y : Int32} (hI : hm_code M pc = some (.ior)) (h : hm_T d M (pc + 1) ls (.int (x ||| y) :: r) hp Q) : hm_T d M pc ls (.int y :: .int x :: r) hp Q :=
  hm_T.of hI (fun _ => rfl) (fun q2 _ => hm_sel2 rfl (rfl)) h
theorem r_ixor {x y : Int32} (hI : hm_code M pc = some (.ixor)) (h : hm_T d M (pc + 1) ls (.int (x ^^^ y) :: r) hp Q) : hm_T d M pc ls (.int y :: .int x :: r) hp Q :=
  hm_T.of hI (fun _ => rfl) (fun q2 _ => hm_sel2 rfl (rfl)) h
theorem r_ishl {x y : Int32} (hI : hm_code M pc = some (.ishl)) (h : hm_T d M (pc + 1) ls (.int (x <<< (y &&& 31)) :: r) hp Q) : hm_T d M pc ls (.int y :: .int x :: r) hp Q :=
  hm_T.of hI (fun _ => rfl) (fun q2 _ => hm_sel2 rfl (rfl)) h
theorem r_ishr {x y : Int32} (hI : hm_code M pc = some (.ishr)) (h : hm_T d M (pc + 1) ls (.int (x >>> (y &&& 31)) :: r) hp Q) : hm_T d M pc ls (.int y :: .int x :: r) hp Q :=
  hm_T.of hI (fun _ => rfl) (fun q2 _ => hm_sel2 rfl (rfl)) h
theorem r_iushr {x y : Int32} (hI : hm_code M pc = some (.iushr)) (h : hm_T d M (pc + 1) ls (.int (x.toUInt32 >>> (y.toUInt32 &&& Int32.toUInt32 31)).toInt32 :: r) hp Q) : hm_T d M pc ls (.int y :: .int x :: r) hp Q :=
  hm_T.of hI (fun _ => rfl) (fun q2 _ => hm_sel2 rfl (rfl)) h
theorem r_idiv {x y : Int32} (hI : hm_code M pc = some (.idiv)) (hy : ¬ y = 0) (h : hm_T d M (pc + 1) ls (.int (x / y) :: r) hp Q) : hm_T d M pc ls (.int y :: .int x :: r) hp Q :=
  hm_T.of hI (fun _ => rfl) (fun q2 _ => hm_sel2 rfl (if_neg hy)) h
theorem r_irem {x y : Int32} (hI : hm_code M pc = some (.irem)) (hy : ¬ y = 0) (h : hm_T d M (pc + 1) ls (.int (x - x / y * y) :: r) hp Q) : hm_T d M pc ls (.int y :: .int x :: r) hp Q :=
  hm_T.of hI (fun _ => rfl) (fun q2 _ => hm_sel2 rfl (if_neg hy)) h
theorem r_ineg {x : Int32} (hI : hm_code M pc = some (.ineg)) (h : hm_T d M (pc + 1) ls (.int (-x) :: r) hp Q) : hm_T d M pc ls (.int x :: r) hp Q :=
  hm_T.of hI (fun _ => rfl) (fun q2 _ => hm_sel2 rfl (rfl)) h
theorem r_i2l {x : Int32} (hI : hm_code M pc = some (.i2l)) (h : hm_T d M (pc + 1) ls (.long x.toInt64 :: r) hp Q) : hm_T d M pc ls (.int x :: r) hp Q :=
  hm_T.of hI (fun _ => rfl) (fun q2 _ => hm_sel2 rfl (rfl)) h
theorem r_l2i {x : Int64} (hI : hm_code M pc = some (.l2i)) (h : hm_T d M (pc + 1) ls (.int x.toInt32 :: r) hp Q) : hm_T d M pc ls (.long x :: r) hp Q :=
  hm_T.of hI (fun _ => rfl) (fun q2 _ => hm_sel2 rfl (rfl)) h
theorem r_ladd {x y : Int64} (hI : hm_code M pc = some (.ladd)) (h : hm_T d M (pc + 1) ls (.long (x + y) :: r) hp Q) : hm_T d M pc ls (.long y :: .long x :: r) hp Q :=
  hm_T.of hI (fun _ => rfl) (fun q2 _ => hm_sel2 rfl (rfl)) h
theorem r_lmul {x y : Int64} (hI : hm_code M pc = some (.lmul)) (h : hm_T d M (pc + 1) ls (.long (x * y) :: r) hp Q) : hm_T d M pc ls (.long y :: .long x :: r) hp Q :=
  hm_T.of hI (fun _ => rfl) (fun q2 _ => hm_sel2 rfl (rfl)) h
theorem r_land {x y : Int64} (hI : hm_code M pc = some (.land)) (h : hm_T d M (pc + 1) ls (.long (x &&& y) :: r) hp Q) : hm_T d M pc ls (.long y :: .long x :: r) hp Q :=
  hm_T.of hI (fun _ => rfl) (fun q2 _ => hm_sel2 rfl (rfl)) h
theorem r_lor {x y : Int64} (hI : hm_code M pc = some (.lor)) (h : hm_T d M (pc + 1) ls (.long (x ||| y) :: r) hp Q) : hm_T d M pc ls (.long y :: .long x :: r) hp Q :=
  hm_T.of hI (fun _ => rfl) (fun q2 _ => hm_sel2 rfl (rfl)) h
theorem r_ldiv {x y : Int64} (hI : hm_code M pc = some (.ldiv)) (hy : ¬ y = 0) (h : hm_T d M (pc + 1) ls (.long (x / y) :: r) hp Q) : hm_T d M pc ls (.long y :: .long x :: r) hp Q :=
  hm_T.of hI (fun _ => rfl) (fun q2 _ => hm_sel2 rfl (if_neg hy)) h
theorem r_lshl {x : Int64} {y : Int32} (hI : hm_code M pc = some (.lshl)) (h : hm_T d M (pc + 1) ls (.long (x <<< (y.toInt64 &&& 63)) :: r) hp Q) : hm_T d M pc ls (.int y :: .long x :: r) hp Q :=
  hm_T.of hI (fun _ => rfl) (fun q2 _ => hm_sel2 rfl (rfl)) h
theorem r_lshr {x : Int64} {y : Int32} (hI : hm_code M pc = some (.lshr)) (h : hm_T d M (pc + 1) ls (.long (x >>> (y.toInt64 &&& 63)) :: r) hp Q) : hm_T d M pc ls (.int y :: .long x :: r) hp Q :=
  hm_T.of hI (fun _ => rfl) (fun q2 _ => hm_sel2 rfl (rfl)) h
theorem r_lushr {x : Int64} {y : Int32} (hI : hm_code M pc = some (.lushr)) (h : hm_T d M (pc + 1) ls (.long (x.toUInt64 >>> (y.toInt64.toUInt64 &&& Int64.toUInt64 63)).toInt64 :: r) hp Q) : hm_T d M pc ls (.int y :: .long x :: r) hp Q :=
  hm_T.of hI (fun _ => rfl) (fun q2 _ => hm_sel2 rfl (rfl)) h
theorem r_lcmp {x y : Int64} (hI : hm_code M pc = some (.lcmp)) (h : hm_T d M (pc + 1) ls (.int (lg_cmp x y) :: r) hp Q) : hm_T d M pc ls (.long y :: .long x :: r) hp Q :=
  hm_T.of hI (fun _ => rfl) (fun q2 _ => hm_sel2 rfl (rfl)) h
theorem r_iload {k : Nat} {x : Int32} (hI : hm_code M pc = some (.iload k)) (hl : ls[(k : Nat)]? = some (.int x)) (h : hm_T d M (pc + 2) ls (.int x :: st) hp Q) : hm_T d M pc ls st hp Q :=
  hm_T.of hI (fun _ => rfl) (fun q2 _ => hm_sel3 rfl rfl (by show hm_ldi ls k 2 pc st hp = _; unfold hm_ldi; rw [hl])) h
theorem r_iload_n {k : Fin 4} {x : Int32} (hI : hm_code M pc = some (.iload_n k)) (hl : ls[(k : Nat)]? = some (.int x)) (h : hm_T d M (pc + 1) ls (.int x :: st) hp Q) : hm_T d M pc ls st hp Q :=
  hm_T.of hI (fun _ => rfl) (fun q2 _ => hm_sel3 rfl rfl (by show hm_ldi ls k 1 pc st hp = _; unfold hm_ldi; rw [hl])) h
theorem r_lload {k : Nat} {x : Int64} (hI : hm_code M pc = some (.lload k)) (hl : ls[(k : Nat)]? = some (.long x)) (h : hm_T d M (pc + 2) ls (.long x :: st) hp Q) : hm_T d M pc ls st hp Q :=
  hm_T.of hI (fun _ => rfl) (fun q2 _ => hm_sel3 rfl rfl (by show hm_ldl ls k 2 pc st hp = _; unfold hm_ldl; rw [hl])) h
theorem r_lload_n {k : Fin 4} {x : Int64} (hI : hm_code M pc = some (.lload_n k)) (hl : ls[(k : Nat)]? = some (.long x)) (h : hm_T d M (pc + 1) ls (.long x :: st) hp Q) : hm_T d M pc ls st hp Q :=
  hm_T.of hI (fun _ => rfl) (fun q2 _ => hm_sel3 rfl rfl (by show hm_ldl ls k 1 pc st hp = _; unfold hm_ldl; rw [hl])) h
theorem r_aload {k : Nat} {x : Nat} (hI : hm_code M pc = some (.aload k)) (hl : ls[(k : Nat)]? = some (.ref x)) (h : hm_T d M (pc + 2) ls (.ref x :: st) hp Q) : hm_T d M pc ls st hp Q :=
  hm_T.of hI (fun _ => rfl) (fun q2 _ => hm_sel3 rfl rfl (by show hm_lda ls k 2 pc st hp = _; unfold hm_lda; rw [hl])) h
theorem r_aloadN {k : Nat} (hI : hm_code M pc = some (.aload k)) (hl : ls[(k : Nat)]? = some .null) (h : hm_T d M (pc + 2) ls (.null :: st) hp Q) : hm_T d M pc ls st hp Q :=
  hm_T.of hI (fun _ => rfl) (fun q2 _ => hm_sel3 rfl rfl (by show hm_lda ls k 2 pc st hp = _; unfold hm_lda; rw [hl])) h
theorem r_aload_n {k : Fin 4} {x : Nat} (hI : hm_code M pc = some (.aload_n k)) (hl : ls[(k : Nat)]? = some (.ref x)) (h : hm_T d M (pc + 1) ls (.ref x :: st) hp Q) : hm_T d M pc ls st hp Q :=
  hm_T.of hI (fun _ => rfl) (fun q2 _ => hm_sel3 rfl rfl (by show hm_lda ls k 1 pc st hp = _; unfold hm_lda; rw [hl])) h
theorem r_aload_nN {k : Fin 4} (hI : hm_code M pc = some (.aload_n k)) (hl : ls[(k : Nat)]? = some .null) (h : hm_T d M (pc + 1) ls (.null :: st) hp Q) : hm_T d M pc ls st hp Q :=
  hm_T.of hI (fun _ => rfl) (fun q2 _ => hm_sel3 rfl rfl (by show hm_lda ls k 1 pc st hp = _; unfold hm_lda; rw [hl])) h
theorem r_istore {k : Nat} {x : Int32} (hI : hm_code M pc = some (.istore k)) (hl : hm_st1 ls k (.int x) = some ls2) (h : hm_T d M (pc + 2) ls2 r hp Q) : hm_T d M pc ls (.int x :: r) hp Q :=
  hm_T.of hI (fun _ => rfl) (fun q2 _ => hm_sel3 rfl rfl (by show (hm_st1 ls k (.int x)).map _ = _; rw [hl]; rfl)) h
theorem r_istore_n {k : Fin 4} {x : Int32} (hI : hm_code M pc = some (.istore_n k)) (hl : hm_st1 ls k (.int x) = some ls2) (h : hm_T d M (pc + 1) ls2 r hp Q) : hm_T d M pc ls (.int x :: r) hp Q :=
  hm_T.of hI (fun _ => rfl) (fun q2 _ => hm_sel3 rfl rfl (by show (hm_st1 ls k (.int x)).map _ = _; rw [hl]; rfl)) h
theorem r_lstore {k : Nat} {x : Int64} (hI : hm_code M pc = some (.lstore k)) (hl : hm_st2 ls k (.long x) = some ls2) (h : hm_T d M (pc + 2) ls2 r hp Q) : hm_T d M pc ls (.long x :: r) hp Q :=
  hm_T.of hI (fun _ => rfl) (fun q2 _ => hm_sel3 rfl rfl (by show (hm_st2 ls k (.long x)).map _ = _; rw [hl]; rfl)) h
theorem r_lstore_n {k : Fin 4} {x : Int64} (hI : hm_code M pc = some (.lstore_n k)) (hl : hm_st2 ls k (.long x) = some ls2) (h : hm_T d M (pc + 1) ls2 r hp Q) : hm_T d M pc ls (.long x :: r) hp Q :=
  hm_T.of hI (fun _ => rfl) (fun q2 _ => hm_sel3 rfl rfl (by show (hm_st2 ls k (.long x)).map _ = _; rw [hl]; rfl)) h
theorem r_astore {k : Nat} {x : Nat} (hI : hm_code M pc = some (.astore k)) (hl : hm_st1 ls k (.ref x) = some ls2) (h : hm_T d M (pc + 2) ls2 r hp Q) : hm_T d M pc ls (.ref x :: r) hp Q :=
  hm_T.of hI (fun _ => rfl) (fun q2 _ => hm_sel3 rfl rfl (by show (hm_st1 ls k (.ref x)).map _ = _; rw [hl]; rfl)) h
theorem r_astoreN {k : Nat} (hI : hm_code M pc = some (.astore k)) (hl : hm_st1 ls k .null = some ls2) (h : hm_T d M (pc + 2) ls2 r hp Q) : hm_T d M pc ls (.null :: r) hp Q :=
  hm_T.of hI (fun _ => rfl) (fun q2 _ => hm_sel3 rfl rfl (by show (hm_st1 ls k .null).map _ = _; rw [hl]; rfl)) h
theorem r_astore_n {k : Fin 4} {x : Nat} (hI : hm_code M pc = some (.astore_n k)) (hl : hm_st1 ls k (.ref x) = some ls2) (h : hm_T d M (pc + 1) ls2 r hp Q) : hm_T d M pc ls (.ref x :: r) hp Q :=
  hm_T.of hI (fun _ => rfl) (fun q2 _ => hm_sel3 rfl rfl (by show (hm_st1 ls k (.ref x)).map _ = _; rw [hl]; rfl)) h
theorem r_astore_nN {k : Fin 4} (hI : hm_code M pc = some (.astore_n k)) (hl : hm_st1 ls k .null = some ls2) (h : hm_T d M (pc + 1) ls2 r hp Q) : hm_T d M pc ls (.null :: r) hp Q :=
  hm_T.of hI (fun _ => rfl) (fun q2 _ => hm_sel3 rfl rfl (by show (hm_st1 ls k .null).map _ = _; rw [hl]; rfl)) h
theorem r_iinc {k : Nat} {n : Int} {x : Int32} (hI : hm_code M pc = some (.iinc k n)) (hk : ls[k]? = some (.int x)) (hl : hm_st1 ls k (.int (x + Int32.ofInt n)) = some ls2) (h : hm_T d M (pc + 3) ls2 st hp Q) : hm_T d M pc ls st hp Q :=
  hm_T.of hI (fun _ => rfl) (fun q2 _ => hm_sel3 rfl rfl (by show (match ls[k]? with | some (.int x) => (hm_st1 ls k (.int (x + Int32.ofInt n))).map fun l2 => (pc + 3, l2, st, hp) | _ => none) = _; rw [hk]; show (hm_st1 ls k (.int (x + Int32.ofInt n))).map _ = _; rw [hl]; rfl)) h
theorem r_goto {off : Int} {t : Nat} (hI : hm_code M pc = some (.goto off)) (ht : hm_jmp pc off = some t) (h : hm_T d M t ls st hp Q) : hm_T d M pc ls st hp Q :=
  hm_T.of hI (fun _ => rfl) (fun q2 _ => hm_sel4 rfl rfl rfl (by show hm_to pc off ls st hp = _; unfold hm_to; rw [ht]; rfl)) h
theorem r_if_eq {x : Int32} {off : Int} {t : Nat} (hI : hm_code M pc = some (.ifCond .eq off)) (ht : hm_jmp pc off = some t) (h1 : x = 0 → hm_T d M t ls r hp Q) (h2 : ¬ (x = 0) → hm_T d M (pc + 3) ls r hp Q) : hm_T d M pc ls (.int x :: r) hp Q := by
  by_cases hc : x = 0
  · exact hm_T.of hI (fun _ => rfl) (fun q2 _ => hm_sel4 rfl rfl rfl (by show (hm_jmp pc off).map _ = _; rw [ht]; show some (if x = 0 then _ else _) = _; rw [if_pos hc])) (h1 hc)
  · exact hm_T.of hI (fun _ => rfl) (fun q2 _ => hm_sel4 rfl rfl rfl (by show (hm_jmp pc off).map _ = _; rw [ht]; show some (if x = 0 then _ else _) = _; rw [if_neg hc])) (h2 hc)
theorem r_if_ne {x : Int32} {off : Int} {t : Nat} (hI : hm_code M pc = some (.ifCond .ne off)) (ht : hm_jmp pc off = some t) (h1 : ¬ x = 0 → hm_T d M t ls r hp Q) (h2 : ¬ (¬ x = 0) → hm_T d M (pc + 3) ls r hp Q) : hm_T d M pc ls (.int x :: r) hp Q := by
  by_cases hc : ¬ x = 0
  · exact hm_T.of hI (fun _ => rfl) (fun q2 _ => hm_sel4 rfl rfl rfl (by show (hm_jmp pc off).map _ = _; rw [ht]; show some (if ¬ x = 0 then _ else _) = _; rw [if_pos hc])) (h1 hc)
  · exact hm_T.of hI (fun _ => rfl) (fun q2 _ => hm_sel4 rfl rfl rfl (by show (hm_jmp pc off).map _ = _; rw [ht]; show some (if ¬ x = 0 then _ else _) = _; rw [if_neg hc])) (h2 hc)
theorem r_if_lt {x : Int32} {off : Int} {t : Nat} (hI : hm_code M pc = some (.ifCond .lt off)) (ht : hm_jmp pc off = some t) (h1 : x < 0 → hm_T d M t ls r hp Q) (h2 : ¬ (x < 0) → hm_T d M (pc + 3) ls r hp Q) : hm_T d M pc ls (.int x :: r) hp Q := by
  by_cases hc : x < 0
  · exact hm_T.of hI (fun _ => rfl) (fun q2 _ => hm_sel4 rfl rfl rfl (by show (hm_jmp pc off).map _ = _; rw [ht]; show some (if x < 0 then _ else _) = _; rw [if_pos hc])) (h1 hc)
  · exact hm_T.of hI (fun _ => rfl) (fun q2 _ => hm_sel4 rfl rfl rfl (by show (hm_jmp pc off).map _ = _; rw [ht]; show some (if x < 0 then _ else _) = _; rw [if_neg hc])) (h2 hc)
theorem r_if_ge {x : Int32} {off : Int} {t : Nat} (hI : hm_code M pc = some (.ifCond .ge off)) (ht : hm_jmp pc off = some t) (h1 : 0 ≤ x → hm_T d M t ls r hp Q) (h2 : ¬ (0 ≤ x) → hm_T d M (pc + 3) ls r hp Q) : hm_T d M pc ls (.int x :: r) hp Q := by
  by_cases hc : 0 ≤ x
  · exact hm_T.of hI (fun _ => rfl) (fun q2 _ => hm_sel4 rfl rfl rfl (by show (hm_jmp pc off).map _ = _; rw [ht]; show some (if 0 ≤ x then _ else _) = _; rw [if_pos hc])) (h1 hc)
  · exact hm_T.of hI (fun _ => rfl) (fun q2 _ => hm_sel4 rfl rfl rfl (by show (hm_jmp pc off).map _ = _; rw [ht]; show some (if 0 ≤ x then _ else _) = _; rw [if_neg hc])) (h2 hc)
theorem r_if_gt {x : Int32} {off : Int} {t : Nat} (hI : hm_code M pc = some (.ifCond .gt off)) (ht : hm_jmp pc off = some t) (h1 : 0 < x → hm_T d M t ls r hp Q) (h2 : ¬ (0 < x) → hm_T d M (pc + 3) ls r hp Q) : hm_T d M pc ls (.int x :: r) hp Q := by
  by_cases hc : 0 < x
  · exact hm_T.of hI (fun _ => rfl) (fun q2 _ => hm_sel4 rfl rfl rfl (by show (hm_jmp pc off).map _ = _; rw [ht]; show some (if 0 < x then _ else _) = _; rw [if_pos hc])) (h1 hc)
  · exact hm_T.of hI (fun _ => rfl) (fun q2 _ => hm_sel4 rfl rfl rfl (by show (hm_jmp pc off).map _ = _; rw [ht]; show some (if 0 < x then _ else _) = _; rw [if_neg hc])) (h2 hc)
theorem r_if_le {x : Int32} {off : Int} {t : Nat} (hI : hm_code M pc = some (.ifCond .le off)) (ht : hm_jmp pc off = some t) (h1 : x ≤ 0 → hm_T d M t ls r hp Q) (h2 : ¬ (x ≤ 0) → hm_T d M (pc + 3) ls r hp Q) : hm_T d M pc ls (.int x :: r) hp Q := by
  by_cases hc : x ≤ 0
  · exact hm_T.of hI (fun _ => rfl) (fun q2 _ => hm_sel4 rfl rfl rfl (by show (hm_jmp pc off).map _ = _; rw [ht]; show some (if x ≤ 0 then _ else _) = _; rw [if_pos hc])) (h1 hc)
  · exact hm_T.of hI (fun _ => rfl) (fun q2 _ => hm_sel4 rfl rfl rfl (by show (hm_jmp pc off).map _ = _; rw [ht]; show some (if x ≤ 0 then _ else _) = _; rw [if_neg hc])) (h2 hc)
theorem r_icmp_eq {x y : Int32} {off : Int} {t : Nat} (hI : hm_code M pc = some (.if_icmp .eq off)) (ht : hm_jmp pc off = some t) (h1 : x = y → hm_T d M t ls r hp Q) (h2 : ¬ (x = y) → hm_T d M (pc + 3) ls r hp Q) : hm_T d M pc ls (.int y :: .int x :: r) hp Q := by
  by_cases hc : x = y
  · exact hm_T.of hI (fun _ => rfl) (fun q2 _ => hm_sel4 rfl rfl rfl (by show (hm_jmp pc off).map _ = _; rw [ht]; show some (if x = y then _ else _) = _; rw [if_pos hc])) (h1 hc)
  · exact hm_T.of hI (fun _ => rfl) (fun q2 _ => hm_sel4 rfl rfl rfl (by show (hm_jmp pc off).map _ = _; rw [ht]; show some (if x = y then _ else _) = _; rw [if_neg hc])) (h2 hc)
theorem r_icmp_ne {x y : Int32} {off : Int} {t : Nat} (hI : hm_code M pc = some (.if_icmp .ne off)) (ht : hm_jmp pc off = some t) (h1 : ¬ x = y → hm_T d M t ls r hp Q) (h2 : ¬ (¬ x = y) → hm_T d M (pc + 3) ls r hp Q) : hm_T d M pc ls (.int y :: .int x :: r) hp Q := by
  by_cases hc : ¬ x = y
  · exact hm_T.of hI (fun _ => rfl) (fun q2 _ => hm_sel4 rfl rfl rfl (by show (hm_jmp pc off).map _ = _; rw [ht]; show some (if ¬ x = y then _ else _) = _; rw [if_pos hc])) (h1 hc)
  · exact hm_T.of hI (fun _ => rfl) (fun q2 _ => hm_sel4 rfl rfl rfl (by show (hm_jmp pc off).map _ = _; rw [ht]; show some (if ¬ x = y then _ else _) = _; rw [if_neg hc])) (h2 hc)
theorem r_icmp_lt {x y : Int32} {off : Int} {t : Nat} (hI : hm_code M pc = some (.if_icmp .lt off)) (ht : hm_jmp pc off = some t) (h1 : x < y → hm_T d M t ls r hp Q) (h2 : ¬ (x < y) → hm_T d M (pc + 3) ls r hp Q) : hm_T d M pc ls (.int y :: .int x :: r) hp Q := by
  by_cases hc : x < y
  · exact hm_T.of hI (fun _ => rfl) (fun q2 _ => hm_sel4 rfl rfl rfl (by show (hm_jmp pc off).map _ = _; rw [ht]; show some (if x < y then _ else _) = _; rw [if_pos hc])) (h1 hc)
  · exact hm_T.of hI (fun _ => rfl) (fun q2 _ => hm_sel4 rfl rfl rfl (by show (hm_jmp pc off).map _ = _; rw [ht]; show some (if x < y then _ else _) = _; rw [if_neg hc])) (h2 hc)
theorem r_icmp_ge {x y : Int32} {off : Int} {t : Nat} (hI : hm_code M pc = some (.if_icmp .ge off)) (ht : hm_jmp pc off = some t) (h1 : y ≤ x → hm_T d M t ls r hp Q) (h2 : ¬ (y ≤ x) → hm_T d M (pc + 3) ls r hp Q) : hm_T d M pc ls (.int y :: .int x :: r) hp Q := by
  by_cases hc : y ≤ x
  · exact hm_T.of hI (fun _ => rfl) (fun q2 _ => hm_sel4 rfl rfl rfl (by show (hm_jmp pc off).map _ = _; rw [ht]; show some (if y ≤ x then _ else _) = _; rw [if_pos hc])) (h1 hc)
  · exact hm_T.of hI (fun _ => rfl) (fun q2 _ => hm_sel4 rfl rfl rfl (by show (hm_jmp pc off).map _ = _; rw [ht]; show some (if y ≤ x then _ else _) = _; rw [if_neg hc])) (h2 hc)
theorem r_icmp_gt {x y : Int32} {off : Int} {t : Nat} (hI : hm_code M pc = some (.if_icmp .gt off)) (ht : hm_jmp pc off = some t) (h1 : y < x → hm_T d M t ls r hp Q) (h2 : ¬ (y < x) → hm_T d M (pc + 3) ls r hp Q) : hm_T d M pc ls (.int y :: .int x :: r) hp Q := by
  by_cases hc : y < x
  · exact hm_T.of hI (fun _ => rfl) (fun q2 _ => hm_sel4 rfl rfl rfl (by show (hm_jmp pc off).map _ = _; rw [ht]; show some (if y < x then _ else _) = _; rw [if_pos hc])) (h1 hc)
  · exact hm_T.of hI (fun _ => rfl) (fun q2 _ => hm_sel4 rfl rfl rfl (by show (hm_jmp pc off).map _ = _; rw [ht]; show some (if y < x then _ else _) = _; rw [if_neg hc])) (h2 hc)
theorem r_icmp_le {x y : Int32} {off : Int} {t : Nat} (hI : hm_code M pc = some (.if_icmp .le off)) (ht : hm_jmp pc off = some t) (h1 : x ≤ y → hm_T d M t ls r hp Q) (h2 : ¬ (x ≤ y) → hm_T d M (pc + 3) ls r hp Q) : hm_T d M pc ls (.int y :: .int x :: r) hp Q := by
  by_cases hc : x ≤ y
  · exact hm_T.of hI (fun _ => rfl) (fun q2 _ => hm_sel4 rfl rfl rfl (by show (hm_jmp pc off).map _ = _; rw [ht]; show some (if x ≤ y then _ else _) = _; rw [if_pos hc])) (h1 hc)
  · exact hm_T.of hI (fun _ => rfl) (fun q2 _ => hm_sel4 rfl rfl rfl (by show (hm_jmp pc off).map _ = _; rw [ht]; show some (if x ≤ y then _ else _) = _; rw [if_neg hc])) (h2 hc)
theorem r_ifnullN {off : Int} {t : Nat} (hI : hm_code M pc = some (.ifnull off)) (ht : hm_jmp pc off = some t) (h : hm_T d M t ls r hp Q) : hm_T d M pc ls (.null :: r) hp Q :=
  hm_T.of hI (fun _ => rfl) (fun q2 _ => hm_sel4 rfl rfl rfl (by show hm_to pc off ls r hp = _; unfold hm_to; rw [ht]; rfl)) h
theorem r_ifnull {off : Int} {a : Nat} (hI : hm_code M pc = some (.ifnull off)) (h : hm_T d M (pc + 3) ls r hp Q) : hm_T d M pc ls (.ref a :: r) hp Q :=
  hm_T.of hI (fun _ => rfl) (fun q2 _ => hm_sel4 rfl rfl rfl (rfl)) h
theorem r_ifnonnull {off : Int} {t a : Nat} (hI : hm_code M pc = some (.ifnonnull off)) (ht : hm_jmp pc off = some t) (h : hm_T d M t ls r hp Q) : hm_T d M pc ls (.ref a :: r) hp Q :=
  hm_T.of hI (fun _ => rfl) (fun q2 _ => hm_sel4 rfl rfl rfl (by show hm_to pc off ls r hp = _; unfold hm_to; rw [ht]; rfl)) h
theorem r_ifnonnullN {off : Int} (hI : hm_code M pc = some (.ifnonnull off)) (h : hm_T d M (pc + 3) ls r hp Q) : hm_T d M pc ls (.null :: r) hp Q :=
  hm_T.of hI (fun _ => rfl) (fun q2 _ => hm_sel4 rfl rfl rfl (rfl)) h
theorem r_acmp_eq {off : Int} {t a : Nat} (hI : hm_code M pc = some (.if_acmp .eq off)) (ht : hm_jmp pc off = some t) (h : hm_T d M t ls r hp Q) : hm_T d M pc ls (.ref a :: .ref a :: r) hp Q :=
  hm_T.of hI (fun _ => rfl) (fun q2 _ => hm_sel4 rfl rfl rfl (by show (if a = a then hm_to pc off ls r hp else none) = _; rw [if_pos rfl]; unfold hm_to; rw [ht]; rfl)) h
theorem r_tableOut {df lo hi : Int} {offs : Array Int} {t : Nat} {x : Int32} (hI : hm_code M pc = some (.tableswitch df lo hi offs)) (hx : x.toInt < lo ∨ hi < x.toInt) (ht : hm_jmp pc df = some t) (h : hm_T d M t ls r hp Q) : hm_T d M pc ls (.int x :: r) hp Q :=
  hm_T.of hI (fun _ => rfl) (fun q2 _ => hm_sel4 rfl rfl rfl (by show (if x.toInt < lo ∨ hi < x.toInt then hm_to pc df ls r hp else _) = _; rw [if_pos hx]; unfold hm_to; rw [ht]; rfl)) h
theorem r_tableIn {df lo hi off : Int} {offs : Array Int} {t : Nat} {x : Int32} (hI : hm_code M pc = some (.tableswitch df lo hi offs)) (hx : ¬ (x.toInt < lo ∨ hi < x.toInt)) (ho : offs[(x.toInt - lo).toNat]? = some off) (ht : hm_jmp pc off = some t) (h : hm_T d M t ls r hp Q) : hm_T d M pc ls (.int x :: r) hp Q :=
  hm_T.of hI (fun _ => rfl) (fun q2 _ => hm_sel4 rfl rfl rfl (by show (if x.toInt < lo ∨ hi < x.toInt then _ else match offs[(x.toInt - lo).toNat]? with | some off => hm_to pc off ls r hp | none => none) = _; rw [if_neg hx, ho]; show hm_to pc off ls r hp = _; unfold hm_to; rw [ht]; rfl)) h
theorem r_lookup {df off : Int} {ps : Array (Int × Int)} {t : Nat} {x : Int32} (hI : hm_code M pc = some (.lookupswitch df ps)) (hp0 : (ps.toList.zip (ps.toList.drop 1)).all (fun (a, next) => a.1 < next.1) = true) (ho : Op.lookupswitch.offset ps.toList df x.toInt = off) (ht : hm_jmp pc off = some t) (h : hm_T d M t ls r hp Q) : hm_T d M pc ls (.int x :: r) hp Q :=
  hm_T.of hI (fun _ => rfl) (fun q2 _ => hm_sel4 rfl rfl rfl (by show (if (ps.toList.zip (ps.toList.drop 1)).all (fun (a, next) => a.1 < next.1) = true then hm_to pc (Op.lookupswitch.offset ps.toList df x.toInt) ls r hp else none) = _; rw [if_pos hp0, ho]; unfold hm_to; rw [ht]; rfl)) h
theorem r_get {ix ci k md w a : Nat} {fs : List Value} {v : Value} (hq : hm_mtab[M]? = some q) (hI : hm_code M pc = some (.getfield ix)) (hf : hm_ftab.lookup (q.2.2.2.2.1, ix) = some (ci, k, md, w)) (ha : hp.1 a = some (.inr (ci, fs))) (hv : fs[k]? = some v) (h : hm_T d M (pc + 3) ls (v :: r) hp Q) : hm_T d M pc ls (.ref a :: r) hp Q :=
  hm_T.of hI (fun _ => rfl) (fun q2 hq2 => by
    cases hq.symm.trans hq2
    exact hm_sel5 rfl rfl rfl rfl (by unfold hm_s5; dsimp only; rw [hf, ha]; dsimp only; rw [if_pos rfl, hv]; rfl)) h
theorem r_iald {t n a : Nat} {j : Int32} {f : Nat → Int32} (hI : hm_code M pc = some (.iaload)) (ha : hp.1 a = some (.inl (t, n, .inl f))) (ht : t = 0 ∨ t = 100) (hj : ¬ (j < 0 ∨ n ≤ j.toNatClampNeg)) (h : hm_T d M (pc + 1) ls (.int (f j.toNatClampNeg) :: r) hp Q) : hm_T d M pc ls (.int j :: .ref a :: r) hp Q :=
  hm_T.of hI (fun _ => rfl) (fun q2 _ => hm_sel5 rfl rfl rfl rfl (by unfold hm_s5; dsimp only; rw [ha]; dsimp only; exact if_pos ⟨ht, hj⟩)) h
theorem r_bald {t n a : Nat} {j : Int32} {f : Nat → Int32} (hI : hm_code M pc = some (.baload)) (ha : hp.1 a = some (.inl (t, n, .inl f))) (ht : t = 2) (hj : ¬ (j < 0 ∨ n ≤ j.toNatClampNeg)) (h : hm_T d M (pc + 1) ls (.int (f j.toNatClampNeg) :: r) hp Q) : hm_T d M pc ls (.int j :: .ref a :: r) hp Q :=
  hm_T.of hI (fun _ => rfl) (fun q2 _ => hm_sel5 rfl rfl rfl rfl (by unfold hm_s5; dsimp only; rw [ha]; dsimp only; exact if_pos ⟨ht, hj⟩)) h
theorem r_lald {t n a : Nat} {j : Int32} {f : Nat → Int64} (hI : hm_code M pc = some (.laload)) (ha : hp.1 a = some (.inl (t, n, .inr (.inl f)))) (ht : t = 1) (hj : ¬ (j < 0 ∨ n ≤ j.toNatClampNeg)) (h : hm_T d M (pc + 1) ls (.long (f j.toNatClampNeg) :: r) hp Q) : hm_T d M pc ls (.int j :: .ref a :: r) hp Q :=
  hm_T.of hI (fun _ => rfl) (fun q2 _ => hm_sel5 rfl rfl rfl rfl (by unfold hm_s5; dsimp only; rw [ha]; dsimp only; exact if_pos ⟨ht, hj⟩)) h
theorem r_aald {t n a : Nat} {j : Int32} {f : Nat → Option Nat} (hI : hm_code M pc = some (.aaload)) (ha : hp.1 a = some (.inl (t, n, .inr (.inr (.inr (.inr f)))))) (ht : t = 3 ∨ t = 4 ∨ t = 5 ∨ t = 6) (hj : ¬ (j < 0 ∨ n ≤ j.toNatClampNeg)) (h : hm_T d M (pc + 1) ls (va_rf (f j.toNatClampNeg) :: r) hp Q) : hm_T d M pc ls (.int j :: .ref a :: r) hp Q :=
  hm_T.of hI (fun _ => rfl) (fun q2 _ => hm_sel5 rfl rfl rfl rfl (by unfold hm_s5; dsimp only; rw [ha]; dsimp only; exact if_pos ⟨ht, hj⟩)) h
theorem r_alen {t n a : Nat} {y : (Nat → Int32) ⊕ (Nat → Int64) ⊕ (Nat → UInt32) ⊕ (Nat → UInt64) ⊕ (Nat → Option Nat)} {v : Int32} (hI : hm_code M pc = some (.arraylength)) (ha : hp.1 a = some (.inl (t, n, y))) (hv : Int32.ofNat n = v) (h : hm_T d M (pc + 1) ls (.int v :: r) hp Q) : hm_T d M pc ls (.ref a :: r) hp Q :=
  hm_T.of hI (fun _ => rfl) (fun q2 _ => hm_sel5 rfl rfl rfl rfl (by unfold hm_s5; dsimp only; rw [ha, ← hv])) h
theorem r_gets {ix j w : Nat} (hq : hm_mtab[M]? = some q) (hI : hm_code M pc = some (.getstatic ix)) (hf : hm_stab.lookup (q.2.2.2.2.1, ix) = some (j, w)) (h : hm_T d M (pc + 3) ls (.ref j :: st) hp Q) : hm_T d M pc ls st hp Q :=
  hm_T.of hI (fun _ => rfl) (fun q2 hq2 => by
    cases hq.symm.trans hq2
    exact hm_sel5 rfl rfl rfl rfl (by unfold hm_s5; dsimp only; rw [hf]; rfl)) h
theorem r_castN {ix : Nat} (hI : hm_code M pc = some (.checkcast ix)) (h : hm_T d M (pc + 3) ls (.null :: r) hp Q) : hm_T d M pc ls (.null :: r) hp Q :=
  hm_T.of hI (fun _ => rfl) (fun q2 _ => hm_sel5 rfl rfl rfl rfl (rfl)) h
theorem r_cast {ix ci w a : Nat} {fs : List Value} (hq : hm_mtab[M]? = some q) (hI : hm_code M pc = some (.checkcast ix)) (hf : hm_ntab.lookup (q.2.2.2.2.1, ix) = some (ci, w)) (ha : hp.1 a = some (.inr (ci, fs))) (h : hm_T d M (pc + 3) ls (.ref a :: r) hp Q) : hm_T d M pc ls (.ref a :: r) hp Q :=
  hm_T.of hI (fun _ => rfl) (fun q2 hq2 => by
    cases hq.symm.trans hq2
    exact hm_sel5 rfl rfl rfl rfl (by unfold hm_s5; dsimp only; rw [hf, ha]; exact if_pos rfl)) h
theorem r_ldc {ix w : Nat} {v : Int32} (hq : hm_mtab[M]? = some q) (hI : hm_code M pc = some (.ldc ix)) (hf : hm_itab.lookup (q.2.2.2.2.1, ix) = some (v, w)) (h : hm_T d M (pc + 2) ls (.int v :: st) hp Q) : hm_T d M pc ls st hp Q :=
  hm_T.of hI (fun _ => rfl) (fun q2 hq2 => by
    cases hq.symm.trans hq2
    exact hm_sel5 rfl rfl rfl rfl (by unfold hm_s5; dsimp only; rw [hf]; rfl)) h
theorem r_ldc_w {ix w : Nat} {v : Int32} (hq : hm_mtab[M]? = some q) (hI : hm_code M pc = some (.ldc_w ix)) (hf : hm_itab.lookup (q.2.2.2.2.1, ix) = some (v, w)) (h : hm_T d M (pc + 3) ls (.int v :: st) hp Q) : hm_T d M pc ls st hp Q :=
  hm_T.of hI (fun _ => rfl) (fun q2 hq2 => by
    cases hq.symm.trans hq2
    exact hm_sel5 rfl rfl rfl rfl (by unfold hm_s5; dsimp only; rw [hf]; rfl)) h
theorem r_ldc2_w {ix w : Nat} {v : Int64} (hq : hm_mtab[M]? = some q) (hI : hm_code M pc = some (.ldc2_w ix)) (hf : hm_ltab.lookup (q.2.2.2.2.1, ix) = some (v, w)) (h : hm_T d M (pc + 3) ls (.long v :: st) hp Q) : hm_T d M pc ls st hp Q :=
  hm_T.of hI (fun _ => rfl) (fun q2 hq2 => by
    cases hq.symm.trans hq2
    exact hm_sel5 rfl rfl rfl rfl (by unfold hm_s5; dsimp only; rw [hf]; rfl)) h
theorem r_put {ix ci k md w a : Nat} {fs : List Value} {v : Value} (hq : hm_mtab[M]? = some q) (hI : hm_code M pc = some (.putfield ix)) (hf : hm_ftab.lookup (q.2.2.2.2.1, ix) = some (ci, k, md, w)) (ha : hp.1 a = some (.inr (ci, fs))) (hk : k < fs.length) (hv : hm_fv (hm_fty ci k) v = true) (hn : hm_fin q ci k = true) (he : hm_set hp a (.inr (ci, fs.set k v)) = hp2) (h : hm_T d M (pc + 3) ls r hp2 Q) : hm_T d M pc ls (v :: .ref a :: r) hp Q :=
  hm_T.of hI (fun _ => rfl) (fun q2 hq2 => by
    cases hq.symm.trans hq2
    exact hm_sel6 rfl rfl rfl rfl rfl (by unfold hm_s6; dsimp only; rw [hf, ha]; dsimp only; rw [if_pos ⟨⟨rfl, hk⟩, hv, hn⟩, he])) h
theorem r_iast {t n a : Nat} {j : Int32} {x : Int32} {f : Nat → Int32} (hI : hm_code M pc = some (.iastore)) (ha : hp.1 a = some (.inl (t, n, .inl f))) (ht : t = 0) (hj : ¬ (j < 0 ∨ n ≤ j.toNatClampNeg)) (he : hm_set hp a (.inl (t, n, .inl (upd f j.toNatClampNeg x))) = hp2) (h : hm_T d M (pc + 1) ls r hp2 Q) : hm_T d M pc ls (.int x :: .int j :: .ref a :: r) hp Q :=
  hm_T.of hI (fun _ => rfl) (fun q2 _ => hm_sel6 rfl rfl rfl rfl rfl (by unfold hm_s6; dsimp only; rw [ha]; dsimp only; rw [if_pos ⟨ht, hj⟩, he])) h
theorem r_bast {t n a : Nat} {j : Int32} {x : Int32} {f : Nat → Int32} (hI : hm_code M pc = some (.bastore)) (ha : hp.1 a = some (.inl (t, n, .inl f))) (ht : t = 2 ∧ (x = 0 ∨ x = 1)) (hj : ¬ (j < 0 ∨ n ≤ j.toNatClampNeg)) (he : hm_set hp a (.inl (t, n, .inl (upd f j.toNatClampNeg x))) = hp2) (h : hm_T d M (pc + 1) ls r hp2 Q) : hm_T d M pc ls (.int x :: .int j :: .ref a :: r) hp Q :=
  hm_T.of hI (fun _ => rfl) (fun q2 _ => hm_sel6 rfl rfl rfl rfl rfl (by unfold hm_s6; dsimp only; rw [ha]; dsimp only; rw [if_pos ⟨ht, hj⟩, he])) h
theorem r_last {t n a : Nat} {j : Int32} {x : Int64} {f : Nat → Int64} (hI : hm_code M pc = some (.lastore)) (ha : hp.1 a = some (.inl (t, n, .inr (.inl f)))) (ht : t = 1) (hj : ¬ (j < 0 ∨ n ≤ j.toNatClampNeg)) (he : hm_set hp a (.inl (t, n, .inr (.inl (vp_updL f j.toNatClampNeg x)))) = hp2) (h : hm_T d M (pc + 1) ls r hp2 Q) : hm_T d M pc ls (.long x :: .int j :: .ref a :: r) hp Q :=
  hm_T.of hI (fun _ => rfl) (fun q2 _ => hm_sel6 rfl rfl rfl rfl rfl (by unfold hm_s6; dsimp only; rw [ha]; dsimp only; rw [if_pos ⟨ht, hj⟩, he])) h
theorem r_aast {t n a b cj : Nat} {j : Int32} {f : Nat → Option Nat} {fs : List Value} (hI : hm_code M pc = some (.aastore)) (ha : hp.1 a = some (.inl (t, n, .inr (.inr (.inr (.inr f)))))) (hb : hp.1 b = some (.inr (cj, fs))) (ht : (t = 5 ∧ cj = 2) ∨ (t = 6 ∧ cj < 10)) (hj : ¬ (j < 0 ∨ n ≤ j.toNatClampNeg)) (he : hm_set hp a (.inl (t, n, .inr (.inr (.inr (.inr (va_up f j.toNatClampNeg (some b))))))) = hp2) (h : hm_T d M (pc + 1) ls r hp2 Q) : hm_T d M pc ls (.ref b :: .int j :: .ref a :: r) hp Q :=
  hm_T.of hI (fun _ => rfl) (fun q2 _ => hm_sel6 rfl rfl rfl rfl rfl (by unfold hm_s6; dsimp only; rw [ha, hb]; dsimp only; rw [if_pos ⟨ht, hj⟩, he])) h
theorem r_new {ix ci w : Nat} (hq : hm_mtab[M]? = some q) (hI : hm_code M pc = some (.new ix)) (hf : hm_ntab.lookup (q.2.2.2.2.1, ix) = some (ci, w)) (hci : ci < 10) (he : hm_push hp (.inr (ci, hm_df ci)) (hm_df ci).length = hp2) (h : hm_T d M (pc + 3) ls (.ref (hp.2.1 + 4) :: st) hp2 Q) : hm_T d M pc ls st hp Q :=
  hm_T.of hI (fun _ => rfl) (fun q2 hq2 => by
    cases hq.symm.trans hq2
    exact hm_sel7 rfl rfl rfl rfl rfl rfl (by unfold hm_s7; dsimp only; rw [hf]; dsimp only; rw [if_pos hci, he])) h
theorem r_newa_int {n : Int32} {N : Nat} (hI : hm_code M pc = some (.newarray .int)) (hn : ¬ n < 0) (hN : n.toNatClampNeg = N) (hm : N ≤ 100000) (he : hm_push hp (.inl (0, N, .inl (fun _ => 0))) N = hp2) (h : hm_T d M (pc + 2) ls (.ref (hp.2.1 + 4) :: r) hp2 Q) : hm_T d M pc ls (.int n :: r) hp Q :=
  hm_T.of hI (fun _ => rfl) (fun q2 _ => hm_sel7 rfl rfl rfl rfl rfl rfl (by subst hN; unfold hm_s7; dsimp only; rw [if_pos ⟨hn, hm⟩, he])) h
theorem r_newa_long {n : Int32} {N : Nat} (hI : hm_code M pc = some (.newarray .long)) (hn : ¬ n < 0) (hN : n.toNatClampNeg = N) (hm : N ≤ 100000) (he : hm_push hp (.inl (1, N, .inr (.inl (fun _ => 0)))) N = hp2) (h : hm_T d M (pc + 2) ls (.ref (hp.2.1 + 4) :: r) hp2 Q) : hm_T d M pc ls (.int n :: r) hp Q :=
  hm_T.of hI (fun _ => rfl) (fun q2 _ => hm_sel7 rfl rfl rfl rfl rfl rfl (by subst hN; unfold hm_s7; dsimp only; rw [if_pos ⟨hn, hm⟩, he])) h
theorem r_newa_boolean {n : Int32} {N : Nat} (hI : hm_code M pc = some (.newarray .boolean)) (hn : ¬ n < 0) (hN : n.toNatClampNeg = N) (hm : N ≤ 100000) (he : hm_push hp (.inl (2, N, .inl (fun _ => 0))) N = hp2) (h : hm_T d M (pc + 2) ls (.ref (hp.2.1 + 4) :: r) hp2 Q) : hm_T d M pc ls (.int n :: r) hp Q :=
  hm_T.of hI (fun _ => rfl) (fun q2 _ => hm_sel7 rfl rfl rfl rfl rfl rfl (by subst hN; unfold hm_s7; dsimp only; rw [if_pos ⟨hn, hm⟩, he])) h
theorem r_anew {n : Int32} {N ix ci w t : Nat} (hq : hm_mtab[M]? = some q) (hI : hm_code M pc = some (.anewarray ix)) (hf : hm_ntab.lookup (q.2.2.2.2.1, ix) = some (ci, w)) (hci : ci = 2 ∨ ci = 22) (ht : (if ci = 2 then 5 else 6) = t) (hn : ¬ n < 0) (hN : n.toNatClampNeg = N) (hm : N ≤ 100000) (he : hm_push hp (.inl (t, N, .inr (.inr (.inr (.inr (fun _ => none)))))) N = hp2) (h : hm_T d M (pc + 3) ls (.ref (hp.2.1 + 4) :: r) hp2 Q) : hm_T d M pc ls (.int n :: r) hp Q :=
  hm_T.of hI (fun _ => rfl) (fun q2 hq2 => by
    cases hq.symm.trans hq2
    exact hm_sel7 rfl rfl rfl rfl rfl rfl (by subst hN; subst ht; unfold hm_s7; dsimp only; rw [hf]; dsimp only; rw [if_pos ⟨hci, hn, hm⟩, he])) h
theorem r_mna_int {n k : Int32} {N K ix w : Nat} (hq : hm_mtab[M]? = some q) (hI : hm_code M pc = some (.multianewarray ix 2)) (hf : hm_ntab.lookup (q.2.2.2.2.1, ix) = some (20, w)) (hn : ¬ n < 0) (hN : n.toNatClampNeg = N) (hm : N ≤ 100000) (hk : ¬ k < 0) (hK : k.toNatClampNeg = K) (hm2 : K ≤ 100000) (he : hm_grid hp 0 N K (K, .inl (fun _ => 0)) = hp2) (h : hm_T d M (pc + 4) ls (.ref (hp.2.1 + 4) :: r) hp2 Q) : hm_T d M pc ls (.int k :: .int n :: r) hp Q :=
  hm_T.of hI (fun _ => rfl) (fun q2 hq2 => by
    cases hq.symm.trans hq2
    exact hm_sel7 rfl rfl rfl rfl rfl rfl (by subst hN; subst hK; unfold hm_s7; dsimp only; rw [hf]; dsimp only; rw [if_pos ⟨rfl, ⟨hn, hm⟩, hk, hm2⟩]; rw [if_pos rfl]; rw [he])) h
theorem r_mna_long {n k : Int32} {N K ix w : Nat} (hq : hm_mtab[M]? = some q) (hI : hm_code M pc = some (.multianewarray ix 2)) (hf : hm_ntab.lookup (q.2.2.2.2.1, ix) = some (21, w)) (hn : ¬ n < 0) (hN : n.toNatClampNeg = N) (hm : N ≤ 100000) (hk : ¬ k < 0) (hK : k.toNatClampNeg = K) (hm2 : K ≤ 100000) (he : hm_grid hp 1 N K (K, .inr (.inl (fun _ => 0))) = hp2) (h : hm_T d M (pc + 4) ls (.ref (hp.2.1 + 4) :: r) hp2 Q) : hm_T d M pc ls (.int k :: .int n :: r) hp Q :=
  hm_T.of hI (fun _ => rfl) (fun q2 hq2 => by
    cases hq.symm.trans hq2
    exact hm_sel7 rfl rfl rfl rfl rfl rfl (by subst hN; subst hK; unfold hm_s7; dsimp only; rw [hf]; dsimp only; rw [if_pos ⟨rfl, ⟨hn, hm⟩, hk, hm2⟩]; rw [if_neg (by decide), if_pos rfl]; rw [he])) h
theorem r_obj {ix w a : Nat} (hq : hm_mtab[M]? = some q) (hI : hm_code M pc = some (.invokespecial ix)) (hf : hm_ctab.lookup (q.2.2.2.2.1, ix) = some (1, 0, w)) (hr : r.length ≤ 4) (h : hm_T d M (pc + 3) ls r hp Q) : hm_T d M pc ls (.ref a :: r) hp Q :=
  hm_T.of hI (fun _ => rfl) (fun q2 hq2 => by
    cases hq.symm.trans hq2
    exact hm_sel8 rfl rfl rfl rfl rfl rfl rfl (by unfold hm_s8; dsimp only; rw [hf]; dsimp only; exact if_pos ⟨⟨rfl, rfl⟩, hr⟩)) h
end HT
end
section
def hm_mir (l : Launch) (G : hm_E) (mi : Nat) : Prop := True
theorem hm_castO : ∀ k : Nat, k < 10 → ∀ r, hm_cls[k]? = some r → Cond.castable r.1 "java/lang/Object" ∈ tables_1 := hm_lt10 ⟨fun r h => by cases h; exact List.mem_of_getElem? (i := 1063) (by decide +kernel), fun r h => by cases h; exact List.mem_of_getElem? (i := 1069) (by decide +kernel), fun r h => by cases h; exact List.mem_of_getElem? (i := 1058) (by decide +kernel), fun r h => by cases h; exact List.mem_of_getElem? (i := 1066) (by decide +kernel), fun r h => by cases h; exact List.mem_of_getElem? (i := 1064) (by decide +kernel), fun r h => by cases h; exact List.mem_of_getElem? (i := 1070) (by decide +kernel), fun r h => by cases h; exact List.mem_of_getElem? (i := 1065) (by decide +kernel), fun r h => by cases h; exact List.mem_of_getElem? (i := 1062) (by decide +kernel), fun r h => by cases h; exact List.mem_of_getElem? (i := 1068) (by decide +kernel), fun r h => by cases h; exact List.mem_of_getElem? (i := 1067) (by decide +kernel)⟩
section HMM
variable {p : Program} {l : Launch} {e : Env} {R : Room} {s : State} {m : MethodId} {args : Array Value} {below : List Frame} {meth : Method} {c : Code} {Q : State → Prop}
variable {pc n n0 s0 : Nat} {i : Instr} {ls st : List Value} {hp : hm_H} {σ : hm_S} {G : hm_E} {q : hm_Q}
theorem hm_stepK (C0 : hm_Cx p s m args meth c q) (hd : decode q.2.1 pc = .ok (i, n)) (hn : hm_ln i = n ∨ hm_ln i = 0) (hn0 : n0 ≤ hp.2.1) (hs0 : s0 ≤ hp.2.2) (hcs : σ.2.2.2.2.1 - n0 ≤ R.cells ∧ σ.2.2.2.2.2 - s0 ≤ R.slots) (hfr : 1 ≤ R.frames) (hlo : 20 ≤ R.locals) (h : hm_step q i pc ls st hp = some σ) (k : hm_K p l e R s m args below meth c Q G n0 s0 σ) : hm_K p l e R s m args below meth c Q G n0 s0 (pc, ls, st, hp) := by
  rcases hm_step_cases h with h | h | h | h | h | h | h | h
  · exact hm_o1 C0.1 C0.2.1 hd hn h k
  · exact hm_o2 C0.1 C0.2.1 hd hn h k
  · exact hm_o3 C0.1 C0.2.1 hd hn h k
  · exact hm_o4 C0.1 C0.2.1 hd hn h k
  · exact hm_o5 C0 hd hn h k
  · exact hm_o6 C0 hd hn h k
  · exact hm_o7 C0 hd hn hn0 hs0 hcs h k
  · exact hm_o8 C0 hd hn hfr hlo h k
end HMM
section HMP
variable {p : Program} {l : Launch} {e : Env} {R : Room} {s : State} {m : MethodId} {args : Array Value} {below : List Frame} {meth : Method} {c : Code} {Q : State → Prop}
variable {pc n n0 s0 : Nat} {i : Instr} {ls st : List Value} {hp hp1 : hm_H} {σ : hm_S} {G : hm_E} {q : hm_Q}
/-- behind a call whose contract tells the abstract heap -/
theorem hm_finK {H : Heap} {locs : List Loc} {la : Array Slot} {st0 rest0 : List Value} {r1 : Option Value} {a9 : Array Value} (hrun : va_Run p l e R s m args below meth c H locs (hp.2.1 - n0) (hp.2.2 - s0) (hp1.2.1 - hp.2.1) (hp1.2.2 - hp.2.2) (F0 m pc la st0) rest0 (hm_Post G r1 hp1 a9) (fun a => G.1 ≤ a)) (hle : hm_le hp hp1) (hn0 : n0 ≤ hp.2.1) (hs0 : s0 ≤ hp.2.2) (hf : ∀ q ∈ locs, G.1 ≤ q.base)
    (kk : ∀ (H1 : Heap) (locs1 : List Loc), hm_R G s hp1 H1 → (∀ q ∈ locs1, G.1 ≤ q.base) → W p l e R s m args below meth c H1 locs1 (hp1.2.1 - n0) (hp1.2.2 - s0) Q (F0 m (pc + 3) la ((r1.map (hm_v G)).toList ++ rest0))) : W p l e R s m args below meth c H locs (hp.2.1 - n0) (hp.2.2 - s0) Q (F0 m pc la st0) := by
  obtain ⟨hle1, hle2⟩ := hle
  intro T hT X
  obtain ⟨v, st₀, t, T', L, h0, X', hLf, e1, e2, ⟨hv, hRt⟩, stp⟩ := hrun T hT X
  have hv2 : v = r1.map (hm_v G) := Outcome.returned.inj hv
  subst hv2
  have hal : s.vm.Alike t.vm := by rw [← e2]; exact X'.warmed.alike
  have hR1 : hm_R G s hp1 T'.heap := by rw [e1]; exact hRt.moved hal.symm
  have ec : hp.2.1 - n0 + (hp1.2.1 - hp.2.1) = hp1.2.1 - n0 := by omega
  have es : hp.2.2 - s0 + (hp1.2.2 - hp.2.2) = hp1.2.2 - s0 := by omega
  rw [ec, es] at X'
  obtain ⟨t2, a1, b1⟩ := kk T'.heap (locs ++ L) hR1 (t_lL (free := fun x => G.1 ≤ x) hf hLf) T' rfl X'
  exact ⟨t2, stp t2 a1, b1⟩
/-- the heap with a copy of an array of references -/
abbrev hm_cp (hp : hm_H) (k N : Nat) (f : Nat → Option Nat) : hm_H := hm_push hp (.inl (6, N, .inr (.inr (.inr (.inr (fun j => if j < k then f j else none)))))) N
abbrev hm_y73 : MethodName := ⟨"java/util/Arrays", "copyOf", "([Ljava/lang/Object;ILjava/lang/Class;)[Ljava/lang/Object;"⟩
abbrev hm_y72 : MethodName := ⟨"java/util/Arrays", "copyOf", "([Ljava/lang/Object;I)[Ljava/lang/Object;"⟩
/-- System.arraycopy of references, from the first place on, exact -/
theorem hm_acopy (C0 : hm_Cx p s m args meth c q) {H : Heap} {locs : List Loc} {la : Array Slot} {rest : List Value} {cells slots a0 a k N ix : Nat} {nI0 : Int32} {f g : Nat → Option Nat} (hz : la.size = c.maxLocals) (hlink : (Cond.methodLink q.1.cls ix arraycopyName).before args s = true) (hK : va_K G.2.2.1 hm_cls (hm_tys G) s) (hc0 : H[a0]? = some (vp_cell (G.2.2.2 6) (k, .inr (.inr (.inr (.inr f)))))) (hc1 : H[a]? = some (vp_cell (G.2.2.2 6) (N, .inr (.inr (.inr (.inr g)))))) (h3 : ¬ nI0 < 0) (hkn : nI0.toNatClampNeg = k) (hkN : k ≤ N)
    (hel : ∀ j : Nat, j < k → ∀ y : Nat, f j = some y → ∃ cellV : Cell, H[y]? = some cellV ∧ cellV.vm.isStatics = false ∧ ∃ kC, s.vm.classes[cellV.cls]? = some kC ∧ ∀ comp : ClassId, s.vm.findClass "java/lang/Object" = some comp → s.vm.assignable cellV.cls comp = true)
    (hframes : 1 ≤ R.frames) (hlocals : (rest.map fun v => v.category).sum + (nativeFrameWords "java/lang/System" "arraycopy" 5 + 11) ≤ R.locals) (hd : decode q.2.1 pc = .ok (.invokestatic ix, 3))
    (kk : ∀ (H1 : Heap) (L : List Loc), (∀ z ∈ L, z.base = a) → H1[a]? = some (vp_cell (G.2.2.2 6) (N, .inr (.inr (.inr (.inr (va_cpy f g 0 0 k)))))) → H1.size = H.size → (∀ z : Nat, z ≠ a → H1[z]? = H[z]?) → W p l e R s m args below meth c H1 (locs ++ L) cells slots Q (F0 m (pc + 3) la rest)) : W p l e R s m args below meth c H locs cells slots Q (F0 m pc la (.int nI0 :: .int 0 :: .ref a :: .int 0 :: .ref a0 :: rest)) := by
  obtain ⟨hx, hb, hml, hr, hlk, hown, hnm, hw0, hts, hNW⟩ := id C0
  have nn : nI0.toInt = (k : Int) := by
    have hz0 : (0 : Int) ≤ nI0.toInt := by
      have := Int32.not_lt.mp h3
      simpa using Int32.le_iff_toInt_le.mp this
    rw [← hkn]
    show nI0.toInt = ((nI0.toInt.toNat : Nat) : Int)
    omega
  have z0 : (0 : Int32).toNatClampNeg = 0 := by decide +kernel
  have z1 : (0 : Int32).toInt = 0 := by decide +kernel
  intro T hT X
  obtain ⟨-, k0, hk0, cm0, hkk0⟩ := (hK.2 6 _ rfl).1 k (fun j => va_rf (f j))
  obtain ⟨kA, comp, r1, r2, r3, -⟩ := (hK.2 6 _ rfl).2
  obtain ⟨vm', X', step⟩ := X.arraycopy hx hown hlink (hts (.native arraycopyName) (hm_tb_of (List.mem_of_getElem? (i := 506) (by decide +kernel)) rfl)) (hts (.static arraycopyName) (hm_tb_of (List.mem_of_getElem? (i := 505) (by decide +kernel)) rfl)) (hts (.initialized "java/lang/System") (hm_tb_of (List.mem_of_getElem? (i := 17) (by decide +kernel)) rfl)) (src := a0) (dst := a) (cs := vp_cell (G.2.2.2 6) (k, .inr (.inr (.inr (.inr f))))) (cd := vp_cell (G.2.2.2 6) (N, .inr (.inr (.inr (.inr g))))) (srcPos := 0) (destPos := 0) (n := nI0) (by rw [hT]; exact hc0) (by rw [hT]; exact hc1)
    (fun _ h => by cases h) (fun _ h => by cases h) (fun h => by cases h) (fun h => by cases h) r1 r1 r2 r2 rfl (by decide +kernel) (by decide +kernel) h3
    (by rw [z1, nn]; show ¬ _ > ((arrV (G.2.2.2 6) k (fun j => va_rf (f j))).slots.size : Int); rw [arrV_size]; omega)
    (by rw [z1, nn]; show ¬ _ > ((arrV (G.2.2.2 6) N (fun j => va_rf (g j))).slots.size : Int); rw [arrV_size]; omega)
    (fun vm₁ hal i hi => by
      rw [hkn] at hi
      have e : (vp_cell (G.2.2.2 6) (k, .inr (.inr (.inr (.inr f))))).slots.getD ((0 : Int32).toNatClampNeg + i) .null = va_rf (f i) := by
        rw [z0, Nat.zero_add]
        show (arrV (G.2.2.2 6) k (fun j => va_rf (f j))).slots.getD _ _ = _
        rw [Array.getD_eq_getD_getElem?, arrV_read _ _ (by omega)]
        rfl
      rw [e]
      cases hy : f i with
      | none => exact ⟨rfl, trivial⟩
      | some y =>
        obtain ⟨cellV, g1, g2, kC, hkC, g3⟩ := hel i hi y hy
        obtain ⟨kE, hkE, -⟩ := Vm.findClass_spec r3
        obtain ⟨kC', hkC', -⟩ := hal.2.2 _ _ hkC
        obtain ⟨kE', hkE', -⟩ := hal.2.2 _ _ hkE
        refine ⟨rfl, cellV, (show T.heap[y]? = some cellV by rw [hT]; exact g1), (fun q h => by rw [h] at g2; cases g2), ⟨kC', hkC'⟩, ?_, ?_⟩
        · exact ⟨kE', hkE'⟩
        · show vm₁.assignable _ _ = true
          rw [hal.assignable]
          exact g3 _ r3)
    (g := F0 m pc la (.int nI0 :: .int 0 :: .ref a :: .int 0 :: .ref a0 :: rest)) rfl (by rw [hz]) (rest := rest) rfl (by rw [hb]; exact hd) hframes (by show 2 * 0 + _ + _ ≤ _; omega)
  have e1 : copied (vp_cell (G.2.2.2 6) (k, .inr (.inr (.inr (.inr f))))) (vp_cell (G.2.2.2 6) (N, .inr (.inr (.inr (.inr g))))) 0 0 nI0 = vp_cell (G.2.2.2 6) (N, .inr (.inr (.inr (.inr (va_cpy f g 0 0 k))))) := by
    rw [vp_cell_q, vp_cell_q, vp_cell_q]
    have h4 : (0 : Int32).toNatClampNeg + nI0.toNatClampNeg ≤ k := by rw [z0, hkn]; omega
    refine (va_copied (fun z => va_rf z) (G.2.2.2 6) (G.2.2.2 6) f g h4).trans ?_
    rw [z0, hkn]
  rw [e1] at X' step
  have hl : a < H.size := (Array.getElem?_eq_some_iff.mp hc1).1
  have hheap : ((T.setVm vm').setCell a (vp_cell (G.2.2.2 6) (N, .inr (.inr (.inr (.inr (va_cpy f g 0 0 k))))))).heap = H.setIfInBounds a (vp_cell (G.2.2.2 6) (N, .inr (.inr (.inr (.inr (va_cpy f g 0 0 k)))))) := by rw [← hT]; rfl
  obtain ⟨t, a1, b1⟩ := kk (H.setIfInBounds a (vp_cell (G.2.2.2 6) (N, .inr (.inr (.inr (.inr (va_cpy f g 0 0 k))))))) _ (fun z hz9 => by
      obtain ⟨y, -, hy⟩ := List.mem_map.mp hz9
      rw [← hy]) (by simp [Array.getElem?_setIfInBounds, hl]) (by simp) (fun z hz9 => by simp [Array.getElem?_setIfInBounds, Ne.symm hz9]) _ hheap X'
  exact ⟨t, step t a1, b1⟩
end HMP
abbrev hm_q73 : hm_Q := (hm_y73, prog_20_method_120_code, 4, (some (.array (.object "java/lang/Object"))), 11, 3, 0)
abbrev hm_q72 : hm_Q := (hm_y72, prog_20_method_119_code, 2, (some (.array (.object "java/lang/Object"))), 11, 2, 0)
theorem hm_isO_ok {G : hm_E} {s : State} {hp : hm_H} {H : Heap} (hR : hm_R G s hp H) (hNW : hm_NW s) {b : Nat} (h : hm_isO hp (some b) = true) : ∃ cellV : Cell, H[hm_rho G b]? = some cellV ∧ cellV.vm.isStatics = false ∧ ∃ kC, s.vm.classes[cellV.cls]? = some kC ∧ ∀ comp : ClassId, s.vm.findClass "java/lang/Object" = some comp → s.vm.assignable cellV.cls comp = true := by
  unfold hm_isO at h
  dsimp only at h
  split at h
  next cj fs hb =>
    have hcj : cj < 10 := of_decide_eq_true h
    obtain ⟨-, hat⟩ := hR.2.2.1 b _ hb
    obtain ⟨rb, hrb, cellV, g1, g2, g3, -⟩ := id hat
    have hcls := (hR.1.1 cj rb hrb).2
    obtain ⟨kC, hkC, -⟩ := hcls.2
    refine ⟨cellV, g1, by rw [g3]; rfl, kC, by rw [g2]; exact hkC, fun comp hcomp => ?_⟩
    have hm : Cond.castable rb.1 "java/lang/Object" ∈ tables_1 := hm_castO cj hcj rb hrb
    obtain ⟨c0, t0, f1, f2, f3⟩ := Cond.castable_spec (va_Nw.use (A := #[]) rfl (hNW.1 _ hm rfl))
    cases hcomp.symm.trans f2
    cases f1.symm.trans hcls.1
    rw [g2]
    exact f3
  next => cases h
set_option maxHeartbeats 2000000 in
/-- Arrays.copyOf(Object[], int, Class) with the class of Object[] -/
theorem hm_m73 (l : Launch) (G : hm_E) {hp : hm_H} {a k N mi : Nat} {nn : Int32} {f : Nat → Option Nat} (hha : hp.1 a = some (.inl (6, k, .inr (.inr (.inr (.inr f)))))) (hn : ¬ nn < 0) (hN : nn.toNatClampNeg = N) (hN5 : N ≤ 100000) (hkN : k ≤ N) (hob : hm_objs hp f k = true) :
    Met l hm_y73 (Cond.code hm_y73 prog_20_method_120_code 4 (some (.array (.object "java/lang/Object"))) :: hm_tb) (hm_rm 1 1 N) (fun v U => v = [.ref (hm_rho G a), .int nn, .ref mi].toArray ∧ hm_R G U hp U.heap ∧ hm_NW U ∧ va_Mi "[Ljava/lang/Object;" mi U) (hm_Post G (some (.ref (hp.2.1 + 4))) (hm_cp hp k N f)) 1 N (fun x => G.1 ≤ x) := by
  obtain ⟨⟨w1, w2, w3, w4, w5, w6⟩, -⟩ := hm_mfacts (M := 73) (q := hm_q73) (by decide) (by decide) rfl
  refine va_MetF (cc := prog_20_method_120_code) (maxL := 4) (ret := some (.array (.object "java/lang/Object"))) w5 rfl ?_
  intro p e s m args below meth c s₁ B hml hv
  obtain ⟨rfl, hR, hNW, hMi⟩ := hv
  have hts := atoms_spec (ws := Cond.code hm_y73 prog_20_method_120_code 4 (some (.array (.object "java/lang/Object"))) :: hm_tb) B.pre
  have C0 : hm_Cx p s m [.ref (hm_rho G a), .int nn, .ref mi].toArray meth c hm_q73 := ⟨B.exec, B.bytes, hml, B.returns, B.notSynchronized, findClass_of_methodNamed B.named, fun z => (name_of_methodNamed B.named B.method).1.trans z, w3, fun w hw => hts w (List.mem_cons_of_mem _ hw), hNW⟩
  obtain ⟨hx, hb, -, hr, hlocks, hown, -, -, hts2, -⟩ := id C0
  have hl := lv_entry ([.ref (hm_rho G a), .int nn, .ref mi]) (n := 4) (Nat.le_of_ble_eq_true rfl)
  rw [lg_entry_eq]
  generalize (lg_sl ([.ref (hm_rho G a), .int nn, .ref mi]) ++ List.replicate (4 - (lg_sl ([.ref (hm_rho G a), .int nn, .ref mi])).length) Slot.unset).toArray = la at hl ⊢
  have hl : lv_has la 4 [(0, .ref (hm_rho G a)), (1, .int nn), (2, .ref mi)] := hl
  have hz : la.size = c.maxLocals := by rw [hml]; exact hl.1
  have hf0 : ∀ q ∈ ([] : List Loc), G.1 ≤ q.base := fun q hq => by cases hq
  refine lv_aload_n hx hb (show decode prog_20_method_120_code 0 = .ok (.aload_n 2, 1) by decide +kernel) rfl (lv_at hl 2 rfl) ?_
  refine va_ldcM hx hb hown (hts2 (.classLink "java/util/Arrays" 110 "[Ljava/lang/Object;") (hm_tb_of (List.mem_of_getElem? (i := 500) (by decide +kernel)) rfl)) hMi (show decode prog_20_method_120_code 1 = .ok (.ldc 110, 2) by decide +kernel) ?_
  refine lv_acmp_ne (rx := some mi) (ry := some mi) (tgt := 13) hx hb (show decode prog_20_method_120_code 3 = .ok (.if_acmp .ne 10, 3) by decide +kernel) (by decide) (fun z => absurd rfl z) (fun _ => ?_)
  have hL : hm_L G la [.ref a, .int nn, .retAddr 0, .retAddr 0] := by
    refine ⟨hl.1, hl.2.1, fun q hq => ?_⟩
    obtain ⟨v, hv1, hv2, hv3⟩ := hm_ll_val hq
    obtain ⟨qi, qv⟩ := q
    dsimp only at hv1 hv2
    subst hv2
    match qi, hv1 with
    | 0, hv1 => cases hv1; exact hl.2.2 (0, .ref (hm_rho G a)) (by simp)
    | 1, hv1 => cases hv1; exact hl.2.2 (1, .int nn) (by simp)
    | 2, hv1 => cases hv1; exact absurd rfl (hv3 0)
    | 3, hv1 => cases hv1; exact absurd rfl (hv3 0)
    | qi + 4, hv1 => cases hv1
  have ha5 : 4 ≤ a ∧ a < hp.2.1 + 4 := by
    have h9 := hR.2.2.1 a _ hha
    have hlt := h9.lt
    rw [hR.2.1] at hlt
    rcases h9 with ⟨-, h4, -⟩ | ⟨h1, -⟩ | ⟨h1, -⟩
    · rw [hm_rho_new h4] at hlt
      exact ⟨h4, by omega⟩
    · exact absurd h1 (by decide)
    · exact absurd h1 (by decide)
  have hR73 : (hm_rm 1 1 N).cells = 1 := rfl
  obtain ⟨hpA, hpAe⟩ : ∃ x : hm_H, x = hm_push hp (.inl (6, N, .inr (.inr (.inr (.inr (fun _ => none)))))) N := ⟨_, rfl⟩
  have hAa : hpA.1 a = some (.inl (6, k, .inr (.inr (.inr (.inr f))))) := by
    rw [hpAe]
    show (if a = hp.2.1 + 4 then _ else hp.1 a) = _
    rw [if_neg (by omega)]
    exact hha
  have hAn : hpA.1 (hp.2.1 + 4) = some (.inl (6, N, .inr (.inr (.inr (.inr (fun _ => none)))))) := by
    rw [hpAe]
    exact if_pos rfl
  have hA1 : hpA.2.1 = hp.2.1 + 1 := by rw [hpAe]; rfl
  have hA2 : hpA.2.2 = hp.2.2 + N := by rw [hpAe]; rfl
  have hkc : (Int32.ofNat k).toNatClampNeg = k := nI_clamp (by omega)
  have hNc : nn = nI N := by
    apply Int32.toInt_inj.mp
    have hz0 : (0 : Int) ≤ nn.toInt := by
      have := Int32.not_lt.mp hn
      simpa using Int32.le_iff_toInt_le.mp this
    rw [nI_toInt (by omega), ← hN]
    show nn.toInt = ((nn.toInt.toNat : Nat) : Int)
    omega
  let KK := fun (σ : hm_S) => hm_K p l e (hm_rm 1 1 N) s m [.ref (hm_rho G a), .int nn, .ref mi].toArray below meth c (MQ below (hm_Post G (some (.ref (hp.2.1 + 4))) (hm_cp hp k N f)) [.ref (hm_rho G a), .int nn, .ref mi].toArray s 1 N (fun x => G.1 ≤ x)) G hp.2.1 hp.2.2 σ
  have step : ∀ {pc n9 : Nat} {i : Instr} {ls st : List Value} {hq : hm_H} {σ : hm_S}, decode prog_20_method_120_code pc = .ok (i, n9) → (hm_ln i = n9 ∨ hm_ln i = 0) → hp.2.1 ≤ hq.2.1 → hp.2.2 ≤ hq.2.2 → (σ.2.2.2.2.1 - hp.2.1 ≤ 1 ∧ σ.2.2.2.2.2 - hp.2.2 ≤ N) → hm_step hm_q73 i pc ls st hq = some σ → KK σ → KK (pc, ls, st, hq) := fun hd hn h1 h2 h3 h4 k => hm_stepK C0 hd hn h1 h2 h3 (by show 1 ≤ 1 + 1; omega) (by show 20 ≤ 40 * (1 + 1); omega) h4 k
  have l3 : ∀ (hq : hm_H), hq = hm_cp hp k N f → KK (38, [.ref a, .int nn, .retAddr 0, .ref (hp.2.1 + 4)], [], hq) := by
    intro hq hqe
    subst hqe
    refine step (show decode prog_20_method_120_code 38 = .ok (.aload_n 3, 1) by decide +kernel) (Or.inl rfl) (by show hp.2.1 ≤ hp.2.1 + 1; omega) (by show hp.2.2 ≤ hp.2.2 + N; omega) ⟨by show hp.2.1 + 1 - hp.2.1 ≤ 1; omega, by show hp.2.2 + N - hp.2.2 ≤ N; omega⟩ (σ := (39, [.ref a, .int nn, .retAddr 0, .ref (hp.2.1 + 4)], [.ref (hp.2.1 + 4)], hm_cp hp k N f)) rfl ?_
    intro H locs la2 hR2 hL2 hz2 hf2
    refine W.cs (cells' := 1) (slots' := N) (by show hp.2.1 + 1 - hp.2.1 = 1; omega) (by show hp.2.2 + N - hp.2.2 = N; omega) ?_
    exact W.aret hx hb hr (Or.inr ⟨_, rfl⟩) (Or.inr ⟨_, rfl⟩) (fun t ht hW => ⟨rfl, by rw [ht]; exact hR2.moved hW.alike⟩) hf2 (show decode prog_20_method_120_code 39 = .ok (.areturn, 1) by decide +kernel)
  have l35 : KK (35, [.ref a, .int nn, .retAddr 0, .ref (hp.2.1 + 4)], [.int (nI k), .int 0, .ref (hp.2.1 + 4), .int 0, .ref a], hpA) := by
    intro H locs la2 hR2 hL2 hz2 hf2
    have hc0 : H[hm_rho G a]? = some (vp_cell (G.2.2.2 6) (k, .inr (.inr (.inr (.inr (fun j => (f j).map (hm_rho G))))))) := by
      rcases hR2.2.2.1 a _ hAa with ⟨-, -, h3⟩ | ⟨h1, -⟩ | ⟨h1, -⟩
      · exact h3
      · exact absurd h1 (by decide)
      · exact absurd h1 (by decide)
    have hc1 : H[hm_rho G (hp.2.1 + 4)]? = some (vp_cell (G.2.2.2 6) (N, .inr (.inr (.inr (.inr (fun _ => none)))))) := by
      rcases hR2.2.2.1 _ _ hAn with ⟨-, -, h3⟩ | ⟨h1, -⟩ | ⟨h1, -⟩
      · exact h3
      · exact absurd h1 (by decide)
      · exact absurd h1 (by decide)
    refine hm_acopy (G := G) (f := fun j => (f j).map (hm_rho G)) (g := fun _ => none) (k := k) (N := N) (a0 := hm_rho G a) (a := hm_rho G (hp.2.1 + 4)) (nI0 := nI k) (rest := []) C0 hz2 (hts2 (.methodLink "java/util/Arrays" 150 arraycopyName) (hm_tb_of (List.mem_of_getElem? (i := 504) (by decide +kernel)) rfl)) hR2.1 hc0 hc1 (nI_pos (by omega)) hkc hkN ?_ (by show 1 ≤ 1 + 1; omega) (by show 0 + (nativeFrameWords "java/lang/System" "arraycopy" 5 + 11) ≤ 80; decide +kernel) (show decode prog_20_method_120_code 35 = .ok (.invokestatic 150, 3) by decide +kernel) ?_
    · intro j hj y hy
      cases hfj : f j with
      | none => rw [hfj] at hy; cases hy
      | some b =>
        rw [hfj] at hy
        cases hy
        have hO : hm_isO hpA (some b) = true := by
          have h9 := List.all_eq_true.mp hob j (List.mem_range.mpr hj)
          rw [hfj] at h9
          have hbn : b ≠ hp.2.1 + 4 := by
            intro hbe
            subst hbe
            unfold hm_isO at h9
            dsimp only at h9
            split at h9
            next cj fs hb9 =>
              have h8 := hR.2.2.1 _ _ hb9
              have hlt := h8.lt
              rw [hR.2.1, hm_rho_new (by omega)] at hlt
              omega
            next => cases h9
          unfold hm_isO at h9 ⊢
          dsimp only at h9 ⊢
          rw [show hpA.1 b = hp.1 b by rw [hpAe]; exact if_neg hbn]
          exact h9
        exact hm_isO_ok hR2 hNW hO
    · intro H1 L hLb e1 z1 o1
      refine W.cs (cells' := (hm_cp hp k N f).2.1 - hp.2.1) (slots' := (hm_cp hp k N f).2.2 - hp.2.2) (by show hpA.2.1 - hp.2.1 = _; rw [hA1]; rfl) (by show hpA.2.2 - hp.2.2 = _; rw [hA2]; rfl) ?_
      refine l3 _ rfl H1 _ la2 ?_ hL2 hz2 (t_lL (free := fun x => G.1 ≤ x) hf2 (fun q hq => by rw [hLb q hq]; exact hm_rho_ge (by omega)))
      have e9 : hm_set hpA (hp.2.1 + 4) (.inl (6, N, .inr (.inr (.inr (.inr (fun j => if j < k then f j else none)))))) = hm_cp hp k N f := by
        rw [hpAe]
        refine Prod.ext (funext fun j => ?_) rfl
        show (if j = hp.2.1 + 4 then _ else if j = hp.2.1 + 4 then _ else hp.1 j) = (if j = hp.2.1 + 4 then _ else hp.1 j)
        by_cases hj : j = hp.2.1 + 4
        · rw [if_pos hj, if_pos hj]
        · rw [if_neg hj, if_neg hj, if_neg hj]
      rw [← e9]
      refine hR2.set (by omega) z1 o1 (Or.inl ⟨by decide, by omega, ?_⟩)
      rw [e1]
      refine congrArg some (congrArg (fun g => vp_cell (G.2.2.2 6) (N, .inr (.inr (.inr (.inr g))))) (funext fun j => ?_))
      unfold va_cpy
      by_cases hj : j < k
      · simp [hj]
      · simp [hj]
  have l32 : KK (32, [.ref a, .int nn, .retAddr 0, .ref (hp.2.1 + 4)], [.int nn, .int (nI k), .int 0, .ref (hp.2.1 + 4), .int 0, .ref a], hpA) := by
    intro H locs la2 hR2 hL2 hz2 hf2
    refine va_mmin (own := "java/util/Arrays") (index := 304) (x := nI k) (y := nn) hx hb hz2.symm hown (hts2 (.methodLink "java/util/Arrays" 304 Lib.Math.min.name) (hm_tb_of (List.mem_of_getElem? (i := 503) (by decide +kernel)) rfl)) (hts2 (.static Lib.Math.min.name) (hm_tb_of (List.mem_of_getElem? (i := 389) (by decide +kernel)) rfl)) (hts2 (.initialized "java/lang/Math") (hm_tb_of (List.mem_of_getElem? (i := 12) (by decide +kernel)) rfl)) (hts2 (.code Lib.Math.min.name Lib.Math.min.code 2 (some .int)) (hm_tb_of (List.mem_of_getElem? (i := 390) (by decide +kernel)) rfl)) (by show 1 ≤ 1 + 1; omega) (by show 1 + (1 + (1 + (1 + 0))) + 13 ≤ 80; omega) (by show hpA.2.1 - hp.2.1 ≤ 1; omega) (by show hpA.2.2 - hp.2.2 ≤ N; omega) (show decode prog_20_method_120_code 32 = .ok (.invokestatic 304, 3) by decide +kernel) ?_
    rw [if_neg (by rw [hNc]; exact nI_nlt hkN (by omega))]
    exact l35 H locs la2 hR2 hL2 hz2 hf2
  have hcA : hp.2.1 ≤ hpA.2.1 := by omega
  have hsA : hp.2.2 ≤ hpA.2.2 := by omega
  have hbA : hpA.2.1 - hp.2.1 ≤ 1 ∧ hpA.2.2 - hp.2.2 ≤ N := ⟨by omega, by omega⟩
  have l6 : KK (6, [.ref a, .int nn, .retAddr 0, .retAddr 0], [], hp) := by
    refine step (show decode prog_20_method_120_code 6 = .ok (.iload_n 1, 1) by decide +kernel) (Or.inl rfl) (Nat.le_refl _) (Nat.le_refl _) ⟨by show hp.2.1 - hp.2.1 ≤ 1; omega, by show hp.2.2 - hp.2.2 ≤ N; omega⟩ (σ := (7, [.ref a, .int nn, .retAddr 0, .retAddr 0], [.int nn], hp)) rfl ?_
    refine step (show decode prog_20_method_120_code 7 = .ok (.anewarray 2, 3) by decide +kernel) (Or.inl rfl) (Nat.le_refl _) (Nat.le_refl _) hbA (σ := (10, [.ref a, .int nn, .retAddr 0, .retAddr 0], [.ref (hp.2.1 + 4)], hpA)) (hm_sel7 rfl rfl rfl rfl rfl rfl (by
      unfold hm_s7
      dsimp only
      rw [show hm_ntab.lookup (11, 2) = some (22, 502) by decide +kernel]
      dsimp only
      rw [if_pos ⟨Or.inr rfl, hn, by rw [hN]; exact hN5⟩, hpAe, hN]
      rfl)) ?_
    refine step (show decode prog_20_method_120_code 10 = .ok (.goto 14, 3) by decide +kernel) (Or.inl rfl) hcA hsA hbA (σ := (24, [.ref a, .int nn, .retAddr 0, .retAddr 0], [.ref (hp.2.1 + 4)], hpA)) rfl ?_
    refine step (show decode prog_20_method_120_code 24 = .ok (.astore_n 3, 1) by decide +kernel) (Or.inl rfl) hcA hsA hbA (σ := (25, [.ref a, .int nn, .retAddr 0, .ref (hp.2.1 + 4)], [], hpA)) rfl ?_
    refine step (show decode prog_20_method_120_code 25 = .ok (.aload_n 0, 1) by decide +kernel) (Or.inl rfl) hcA hsA hbA (σ := (26, [.ref a, .int nn, .retAddr 0, .ref (hp.2.1 + 4)], [.ref a], hpA)) rfl ?_
    refine step (show decode prog_20_method_120_code 26 = .ok (.iconst 0, 1) by decide +kernel) (Or.inl rfl) hcA hsA hbA (σ := (27, [.ref a, .int nn, .retAddr 0, .ref (hp.2.1 + 4)], [.int 0, .ref a], hpA)) rfl ?_
    refine step (show decode prog_20_method_120_code 27 = .ok (.aload_n 3, 1) by decide +kernel) (Or.inl rfl) hcA hsA hbA (σ := (28, [.ref a, .int nn, .retAddr 0, .ref (hp.2.1 + 4)], [.ref (hp.2.1 + 4), .int 0, .ref a], hpA)) rfl ?_
    refine step (show decode prog_20_method_120_code 28 = .ok (.iconst 0, 1) by decide +kernel) (Or.inl rfl) hcA hsA hbA (σ := (29, [.ref a, .int nn, .retAddr 0, .ref (hp.2.1 + 4)], [.int 0, .ref (hp.2.1 + 4), .int 0, .ref a], hpA)) rfl ?_
    refine step (show decode prog_20_method_120_code 29 = .ok (.aload_n 0, 1) by decide +kernel) (Or.inl rfl) hcA hsA hbA (σ := (30, [.ref a, .int nn, .retAddr 0, .ref (hp.2.1 + 4)], [.ref a, .int 0, .ref (hp.2.1 + 4), .int 0, .ref a], hpA)) rfl ?_
    refine step (show decode prog_20_method_120_code 30 = .ok (.arraylength, 1) by decide +kernel) (Or.inl rfl) hcA hsA hbA (σ := (31, [.ref a, .int nn, .retAddr 0, .ref (hp.2.1 + 4)], [.int (nI k), .int 0, .ref (hp.2.1 + 4), .int 0, .ref a], hpA)) (hm_sel5 rfl rfl rfl rfl (by
      unfold hm_s5
      dsimp only
      rw [hAa]
      rfl)) ?_
    exact step (show decode prog_20_method_120_code 31 = .ok (.iload_n 1, 1) by decide +kernel) (Or.inl rfl) hcA hsA hbA (σ := (32, [.ref a, .int nn, .retAddr 0, .ref (hp.2.1 + 4)], [.int nn, .int (nI k), .int 0, .ref (hp.2.1 + 4), .int 0, .ref a], hpA)) rfl l32
  exact W.cs (show 0 = hp.2.1 - hp.2.1 by omega) (show 0 = hp.2.2 - hp.2.2 by omega) (l6 s.heap [] la hR hL hz hf0)
set_option maxHeartbeats 2000000 in
/-- Arrays.copyOf(Object[], int) -/
theorem hm_m72 (l : Launch) (G : hm_E) {hp : hm_H} {a k N : Nat} {nn : Int32} {f : Nat → Option Nat} (hha : hp.1 a = some (.inl (6, k, .inr (.inr (.inr (.inr f)))))) (hn : ¬ nn < 0) (hN : nn.toNatClampNeg = N) (hN5 : N ≤ 100000) (hkN : k ≤ N) (hob : hm_objs hp f k = true) :
    Met l hm_y72 (Cond.code hm_y72 prog_20_method_119_code 2 (some (.array (.object "java/lang/Object"))) :: hm_tb) (hm_rm 3 ((hm_cp hp k N f).2.1 - hp.2.1) ((hm_cp hp k N f).2.2 - hp.2.2)) (hm_Pre G [.ref a, .int nn] hp) (hm_Post G (some (.ref (hp.2.1 + 4))) (hm_cp hp k N f)) ((hm_cp hp k N f).2.1 - hp.2.1) ((hm_cp hp k N f).2.2 - hp.2.2) (fun x => G.1 ≤ x) := by
  obtain ⟨⟨w1, w2, w3, w4, w5, w6⟩, -⟩ := hm_mfacts (M := 72) (q := hm_q72) (by decide) (by decide) rfl
  obtain ⟨⟨v1, v2, v3, v4, v5, v6⟩, v7, -⟩ := hm_mfacts (M := 73) (q := hm_q73) (by decide) (by decide) rfl
  have e1 : (hm_cp hp k N f).2.1 - hp.2.1 = 1 := by show hp.2.1 + 1 - hp.2.1 = 1; omega
  have e2 : (hm_cp hp k N f).2.2 - hp.2.2 = N := by show hp.2.2 + N - hp.2.2 = N; omega
  refine va_MetF (cc := prog_20_method_119_code) (maxL := 2) (ret := some (.array (.object "java/lang/Object"))) w5 rfl ?_
  intro p e s m args below meth c s₁ B hml hv
  obtain ⟨rfl, hR, hNW⟩ := hv
  have hts := atoms_spec (ws := Cond.code hm_y72 prog_20_method_119_code 2 (some (.array (.object "java/lang/Object"))) :: hm_tb) B.pre
  have C0 : hm_Cx p s m (([.ref a, .int nn] : List Value).map (hm_v G)).toArray meth c hm_q72 := ⟨B.exec, B.bytes, hml, B.returns, B.notSynchronized, findClass_of_methodNamed B.named, fun z => (name_of_methodNamed B.named B.method).1.trans z, w3, fun w hw => hts w (List.mem_cons_of_mem _ hw), hNW⟩
  obtain ⟨hx, hb, -, hr, hlocks, hown, -, -, hts2, -⟩ := id C0
  obtain ⟨mi, hMi⟩ := hNW.2.2.2.2.2.1
  have hl := lv_entry ([.ref (hm_rho G a), .int nn]) (n := 2) (Nat.le_of_ble_eq_true rfl)
  rw [lg_entry_eq]
  generalize hla : (lg_sl (([.ref a, .int nn] : List Value).map (hm_v G)) ++ List.replicate (2 - (lg_sl (([.ref a, .int nn] : List Value).map (hm_v G))).length) Slot.unset).toArray = la
  have hl : lv_has la 2 [(0, .ref (hm_rho G a)), (1, .int nn)] := by rw [← hla]; exact hl
  have hz : la.size = c.maxLocals := by rw [hml]; exact hl.1
  have hf0 : ∀ q ∈ ([] : List Loc), G.1 ≤ q.base := fun q hq => by cases hq
  refine lv_aload_n hx hb (show decode prog_20_method_119_code 0 = .ok (.aload_n 0, 1) by decide +kernel) rfl (lv_at hl 0 rfl) ?_
  refine lv_iload_n hx hb (show decode prog_20_method_119_code 1 = .ok (.iload_n 1, 1) by decide +kernel) rfl (lv_at hl 1 rfl) ?_
  refine lv_aload_n hx hb (show decode prog_20_method_119_code 2 = .ok (.aload_n 0, 1) by decide +kernel) rfl (lv_at hl 0 rfl) ?_
  have hrec : ∃ cell : Cell, s.heap[hm_rho G a]? = some cell ∧ cell.vm.isStatics = false ∧ s.vm.findClass "[Ljava/lang/Object;" = some cell.cls := by
    rcases hR.2.2.1 a _ hha with ⟨-, -, h3⟩ | ⟨h1, -⟩ | ⟨h1, -⟩
    · exact ⟨_, h3, rfl, va_nmO (C := "java/lang/Object") (hR.1.2 6 _ rfl).2 rfl⟩
    · exact absurd h1 (by decide)
    · exact absurd h1 (by decide)
  refine va_getC hx hb hz.symm hown (hts2 (.methodLink "java/util/Arrays" 86 ⟨"java/lang/Object", "getClass", "()Ljava/lang/Class;"⟩) (hm_tb_of (List.mem_of_getElem? (i := 483) (by decide +kernel)) rfl)) (va_Dc.use hNW.2.2.2.2.2.2) (hts2 (.selects "[Ljava/lang/Object;" ⟨"java/lang/Object", "getClass", "()Ljava/lang/Class;"⟩ ⟨"java/lang/Object", "getClass", "()Ljava/lang/Class;"⟩) (hm_tb_of (List.mem_of_getElem? (i := 1060) (by decide +kernel)) rfl)) (hts2 (.instanceMethod ⟨"java/lang/Object", "getClass", "()Ljava/lang/Class;"⟩) (hm_tb_of (List.mem_of_getElem? (i := 484) (by decide +kernel)) rfl)) (hts2 (.native ⟨"java/lang/Object", "getClass", "()Ljava/lang/Class;"⟩) (hm_tb_of (List.mem_of_getElem? (i := 496) (by decide +kernel)) rfl)) hMi hrec (by show 1 ≤ 3 + 1; omega) (by show 1 + (1 + 0) + 14 ≤ 40 * (3 + 1); omega) (show decode prog_20_method_119_code 3 = .ok (.invokevirtual 86, 3) by decide +kernel) ?_
  have hM : Met l hm_y73 (Cond.code hm_y73 prog_20_method_120_code 4 (some (.array (.object "java/lang/Object"))) :: hm_tb) (hm_rm 1 ((hm_cp hp k N f).2.1 - hp.2.1) ((hm_cp hp k N f).2.2 - hp.2.2)) (fun v U => v = [.ref (hm_rho G a), .int nn, .ref mi].toArray ∧ hm_R G U hp U.heap ∧ hm_NW U ∧ va_Mi "[Ljava/lang/Object;" mi U) (hm_Post G (some (.ref (hp.2.1 + 4))) (hm_cp hp k N f)) ((hm_cp hp k N f).2.1 - hp.2.1) ((hm_cp hp k N f).2.2 - hp.2.2) (fun x => G.1 ≤ x) := by
    rw [e1, e2]
    exact hm_m73 l G (mi := mi) hha hn hN hN5 hkN hob
  have hG := hm_goodIn (hm_cw_all 73 hm_q73 (by decide) rfl) rfl
  have hrun := va_runS (p := p) (l := l) (e := e) (R := hm_rm 3 ((hm_cp hp k N f).2.1 - hp.2.1) ((hm_cp hp k N f).2.2 - hp.2.2)) (s := s) (m := m) (below := below) (meth := meth) (c := c) (H := s.heap) (locs := []) (cells := hp.2.1 - hp.2.1) (slots := hp.2.2 - hp.2.2) (nL := 2) (Ts := hm_tb) (own := "java/util/Arrays") (index := 300) (As := [.ref (hm_rho G a), .int nn, .ref mi]) (rest := []) (n := 3) (g := F0 m 6 la [.ref mi, .int nn, .ref (hm_rho G a)]) ⟨hx, hb, hml, hown, hts2⟩ hM ⟨callB_of 3 hts2 hG rfl rfl rfl (hts2 _ (hm_tb_of v1 rfl)) (hts2 (.methodLink "java/util/Arrays" 300 hm_y73) (hm_tb_of (List.mem_of_getElem? (i := 497) (by decide +kernel)) rfl)) ⟨v2.1, v2.2, v6⟩ ⟨by show 1 + 1 + 1 ≤ 3 + 1; omega, by show 8 + (4 + 11) + 40 * (1 + 1) ≤ 40 * (3 + 1); omega⟩, hts2 _ (hm_tb_of (v7 rfl) rfl)⟩ ⟨fun a9 U g9 mk9 h9 => ⟨h9.1, hm_R.moved (u := U) (U := U.calling g9 mk9 a9) (Vm.Alike.refl U.vm) h9.2.1, hm_NW.same (u := U) (U := U.calling g9 mk9 a9) rfl h9.2.2.1, va_Mi.moved (u := U) (U := U.calling g9 mk9 a9) (Vm.Alike.refl U.vm) h9.2.2.2⟩, fun U hU hW => ⟨rfl, by rw [hU]; exact hR.moved hW.alike, hNW.warm hW, hMi.moved hW.alike⟩⟩ rfl rfl (hz.trans hml) rfl (lv_room (Nat.le_of_ble_eq_true rfl)) (show decode prog_20_method_119_code 6 = .ok (.invokestatic 300, 3) by decide +kernel) ⟨by show hp.2.1 - hp.2.1 + (hp.2.1 + 1 - hp.2.1) ≤ hp.2.1 + 1 - hp.2.1; omega, by show hp.2.2 - hp.2.2 + (hp.2.2 + N - hp.2.2) ≤ hp.2.2 + N - hp.2.2; omega⟩
  refine W.cs (show 0 = hp.2.1 - hp.2.1 by omega) (show 0 = hp.2.2 - hp.2.2 by omega) ?_
  refine hm_finK (G := G) (hp1 := hm_cp hp k N f) (r1 := some (.ref (hp.2.1 + 4))) (rest0 := []) hrun (hm_push_le _ _ _) (Nat.le_refl _) (Nat.le_refl _) hf0 (fun H1 locs1 hR1 hf1 => ?_)
  exact W.aret hx hb hr (Or.inr ⟨_, rfl⟩) (Or.inr ⟨_, rfl⟩) (fun t ht hW => ⟨rfl, by rw [ht]; exact hR1.moved hW.alike⟩) hf1 (show decode prog_20_method_119_code 9 = .ok (.areturn, 1) by decide +kernel)
section HMQ
variable {p : Program} {l : Launch} {e : Env} {R : Room} {s : State} {m : MethodId} {args : Array Value} {below : List Frame} {meth : Method} {c : Code} {Q : State → Prop}
variable {pc n n0 s0 : Nat} {i : Instr} {ls st : List Value} {hp hp1 : hm_H} {σ : hm_S} {G : hm_E} {q : hm_Q}
theorem hm_cpyK (hmir : ∃ mi : Nat, hm_mir l G mi) (C0 : hm_Cx p s m args meth c q) (hd : decode q.2.1 pc = .ok (i, n)) (hn : hm_ln i = n ∨ hm_ln i = 0) {a : Nat} {rest : List Value} {hp1 : hm_H} (h : hm_cpy q i st hp = some (a, rest, hp1)) (hn0 : n0 ≤ hp.2.1) (hs0 : s0 ≤ hp.2.2) (hc1 : hp1.2.1 - n0 ≤ R.cells) (hs1 : hp1.2.2 - s0 ≤ R.slots) (hfr : 6 ≤ R.frames) (hlo : 240 ≤ R.locals) (k : hm_K p l e R s m args below meth c Q G n0 s0 (pc + 3, ls, .ref a :: rest, hp1)) : hm_K p l e R s m args below meth c Q G n0 s0 (pc, ls, st, hp) := by
  intro H locs la hR hL hz hf
  obtain ⟨hx, hb, hml, hr, hlk, hown, hnm, hw0, hts, hNW⟩ := id C0
  obtain ⟨⟨w1, w2, w3, w4, w5, w6⟩, w7, -⟩ := hm_mfacts (M := 72) (q := hm_q72) (by decide) (by decide) rfl
  unfold hm_cpy at h
  split at h
  next nn b r htg =>
    split at h
    next kk9 f hha =>
      split at h
      next hc =>
        obtain ⟨⟨hn9, hN5⟩, hkN, hrl, hob⟩ := hc
        cases h
        unfold hm_tgt at htg
        split at htg
        · obtain rfl : n = 3 := hm_lnE hn rfl (by decide)
          obtain ⟨⟨c3, nst, w⟩, hlf, he⟩ := Option.map_eq_some_iff.mp htg
          cases he
          have hM := hm_m72 l G hha hn9 rfl hN5 hkN hob
          have hG := hm_goodIn (hm_cw_all 72 hm_q72 (by decide) rfl) rfl
          have hc1' : hp.2.1 + 1 - n0 ≤ R.cells := hc1
          have hs1' : hp.2.2 + nn.toNatClampNeg - s0 ≤ R.slots := hs1
          have hroom : (hm_rm 3 ((hm_cp hp kk9 nn.toNatClampNeg f).2.1 - hp.2.1) ((hm_cp hp kk9 nn.toNatClampNeg f).2.2 - hp.2.2)).frames + 1 ≤ R.frames ∧ 8 + (2 + 11) + (hm_rm 3 ((hm_cp hp kk9 nn.toNatClampNeg f).2.1 - hp.2.1) ((hm_cp hp kk9 nn.toNatClampNeg f).2.2 - hp.2.2)).locals ≤ R.locals := ⟨by show 3 + 1 + 1 ≤ R.frames; omega, by show 8 + (2 + 11) + 40 * (3 + 1) ≤ R.locals; omega⟩
          have hfit : hp.2.1 - n0 + ((hm_cp hp kk9 nn.toNatClampNeg f).2.1 - hp.2.1) ≤ R.cells ∧ hp.2.2 - s0 + ((hm_cp hp kk9 nn.toNatClampNeg f).2.2 - hp.2.2) ≤ R.slots := ⟨by show hp.2.1 - n0 + (hp.2.1 + 1 - hp.2.1) ≤ R.cells; omega, by show hp.2.2 - s0 + (hp.2.2 + nn.toNatClampNeg - hp.2.2) ≤ R.slots; omega⟩
          have hpre : ∀ U : State, U.heap = H → s.WarmedH U.vm → hm_Pre G [.ref b, .int nn] hp (([.ref b, .int nn] : List Value).map (hm_v G)).toArray U := fun U hU hW => ⟨rfl, by rw [hU]; exact hR.moved hW.alike, hNW.warm hW⟩
          have hstat := hts _ (hm_tb_of (w7 rfl) rfl)
          have hini := hts _ (hm_tb_of w1 rfl)
          refine hm_finK (G := G) (hp1 := hm_cp hp kk9 nn.toNatClampNeg f) (r1 := some (.ref (hp.2.1 + 4))) (rest0 := rest.map (hm_v G)) (a9 := (([.ref b, .int nn] : List Value).map (hm_v G)).toArray) ?_ (hm_push_le _ _ _) hn0 hs0 hf (fun H1 locs1 hR1 hf1 => k H1 locs1 la hR1 hL hz hf1)
          rcases hm_clk C0 (rq := hm_q72) rfl hlf with hlink | hlink
          · exact va_runS ⟨hx, hb, hml, hown, hts⟩ hM ⟨callB_of 2 hts hG rfl rfl rfl hini hlink ⟨w2.1, w2.2, w6⟩ hroom, hstat⟩ ⟨hm_Pre.blind _ _ _, hpre⟩ rfl rfl (hz.trans hml) rfl (lv_room (hm_sum _ hrl)) hd hfit
          · exact va_runSN ⟨hx, hb, hml, hown, hts⟩ hM ⟨va_cnB 2 hts hG rfl rfl rfl hlink hini ⟨w2.1, w2.2, w6⟩ hroom, hstat, trivial⟩ ⟨hm_Pre.blind _ _ _, hpre⟩ rfl rfl (hz.trans hml) rfl (lv_room (hm_sum _ hrl)) hd hfit
        · obtain ⟨⟨c3, nst, w⟩, hlf, he⟩ := Option.map_eq_some_iff.mp htg
          cases he
        · obtain ⟨⟨c3, nst, w⟩, hlf, he⟩ := Option.map_eq_some_iff.mp htg
          cases he
        · cases htg
      next => cases h
    next => cases h
  next => cases h
end HMQ
end
section
/-- THE ABSTRACT MACHINE IS SOUND -/
theorem hm_sound (l : Launch) (G : hm_E) (hmir : ∃ mi : Nat, hm_mir l G mi) : ∀ f : Nat, hm_At l G f
  | 0 => by
    intro d M pc ls st hp hp2 r q h
    cases h
  | f + 1 => by
    have ih := hm_sound l G hmir f
    intro d M pc ls st hp hp2 r q h hq p e R s m args below meth c Q n0 s0 C0 hn0 hs0 hc hs hfr hlo hex
    obtain ⟨q2, i, hq2, hi, hcase⟩ := hm_run_cases h
    cases hq.symm.trans hq2
    obtain ⟨n, hd, hn⟩ := hm_code_ok hq hi
    rcases hcase with ⟨hr, rfl⟩ | ⟨σ, h1, h2⟩ | ⟨d2, cc, as, rest, l0, r1, hp1, rfl, h1, h2, h3, h4⟩ | ⟨d2, a, rest, hp1, rfl, h4d, h1, h2⟩
    · exact hex pc ls st i n hd hn hr
    · have hle := hm_step_le h1
      have hle2 := hm_run_le h2
      have k := ih d M σ.1 σ.2.1 σ.2.2.1 σ.2.2.2 hp2 r q h2 hq p e R s m args below meth c Q n0 s0 C0 (Nat.le_trans hn0 hle.1) (Nat.le_trans hs0 hle.2) hc hs hfr hlo hex
      exact hm_stepK C0 hd hn hn0 hs0 ⟨by have := hle2.1; omega, by have := hle2.2; omega⟩ (by omega) (by omega) h1 k
    · have hle := hm_run_le h3
      have hle2 := hm_run_le h4
      have k := ih (d2 + 1) M (pc + 3) ls (r1.toList ++ rest) hp1 hp2 r q h4 hq p e R s m args below meth c Q n0 s0 C0 (Nat.le_trans hn0 hle.1) (Nat.le_trans hs0 hle.2) hc hs hfr hlo hex
      exact hm_callK ih C0 hd hn h1 h2 h3 hn0 hs0 (by have := hle2.1; omega) (by have := hle2.2; omega) hfr hlo k
    · have hle := hm_cpy_le h1
      have hle2 := hm_run_le h2
      have k := ih (d2 + 1) M (pc + 3) ls (.ref a :: rest) hp1 hp2 r q h2 hq p e R s m args below meth c Q n0 s0 C0 (Nat.le_trans hn0 hle.1) (Nat.le_trans hs0 hle.2) hc hs hfr hlo hex
      exact hm_cpyK hmir C0 hd hn h1 hn0 hs0 (by have := hle2.1; omega) (by have := hle2.2; omega) (by omega) (by omega) k
end
section
/-! a segment of the heap, told by a list; the Model's cells: m k i is the i-th place of its field k -/
def hm_seg (a : Nat) (L : List va_E) (h : Nat → Option va_E) : Nat → Option va_E := fun j => if a ≤ j ∧ j < a + L.length then L[j - a]? else h j
theorem hm_seg_set {a k n s : Nat} {L : List va_E} {h : Nat → Option va_E} {e : va_E} (hk : k < L.length) {b : Nat} (hb : a + k = b) {L2 : List va_E} (hL : L.set k e = L2) : hm_set (hm_seg a L h, n, s) b e = (hm_seg a L2 h, n, s) := by
  subst hb
  subst hL
  refine Prod.ext (funext fun j => ?_) rfl
  show (if j = a + k then some e else if a ≤ j ∧ j < a + L.length then L[j - a]? else h j) = (if a ≤ j ∧ j < a + (L.set k e).length then (L.set k e)[j - a]? else h j)
  rw [List.length_set]
  by_cases hj : j = a + k
  · subst hj
    rw [if_pos rfl, if_pos ⟨Nat.le_add_right _ _, by omega⟩, Nat.add_sub_cancel_left, List.getElem?_set_self hk]
  · rw [if_neg hj]
    by_cases hc : a ≤ j ∧ j < a + L.length
    · rw [if_pos hc, if_pos hc, List.getElem?_set_ne (by omega)]
    · rw [if_neg hc, if_neg hc]
theorem hm_seg_out {a j : Nat} {L : List va_E} {h : Nat → Option va_E} (hj : j < a ∨ a + L.length ≤ j) : hm_seg a L h j = h j := if_neg (by omega)
/-- a cell beyond a segment is written -/
theorem hm_seg_far {a b n s : Nat} {L : List va_E} {h : Nat → Option va_E} {e : va_E} (hb : b < a ∨ a + L.length ≤ b) : hm_set (hm_seg a L h, n, s) b e = (hm_seg a L (hm_up h b e), n, s) := by
  refine Prod.ext (funext fun j => ?_) rfl
  show (if j = b then some e else if a ≤ j ∧ j < a + L.length then L[j - a]? else h j) = (if a ≤ j ∧ j < a + L.length then L[j - a]? else if j = b then some e else h j)
  by_cases hj : j = b
  · subst hj
    rw [if_pos rfl, if_neg (by omega), if_pos rfl]
  · rw [if_neg hj, if_neg hj]
abbrev hm_M : Type := Nat → Nat → Int32
def hm_uM (m : hm_M) (k : Nat) (f : Nat → Int32) : hm_M := fun j => if j = k then f else m j
def hm_mF (m : hm_M) : List Value := [.ref 62, .ref 63, .int (m 2 0), .ref 64, .ref 65, .ref 66, .ref 67, .int (m 7 0), .int (m 8 0), .int (m 9 0), .ref 68, .ref 69, .ref 70, .ref 71, .ref 72, .ref 73, .ref 74, .int (m 17 0), .int (m 18 0), .ref 75, .ref 76, .ref 77, .ref 78, .int (m 23 0), .int (m 24 0), .int (m 25 0), .ref 79, .ref 80, .ref 81, .ref 82, .ref 83]
def hm_cM (m : hm_M) : List va_E := [.inr (8, hm_mF m), .inl (0, 3, .inl (m 0)), .inl (0, 3, .inl (m 1)), .inl (0, 12, .inl (m 3)), .inl (0, 80, .inl (m 4)), .inl (0, 20, .inl (m 5)), .inl (0, 100, .inl (m 6)), .inl (0, 16, .inl (m 10)), .inl (0, 16, .inl (m 11)), .inl (0, 16, .inl (m 12)), .inl (0, 16, .inl (m 13)), .inl (0, 96, .inl (m 14)), .inl (0, 64, .inl (m 15)), .inl (2, 16, .inl (m 16)), .inl (0, 16, .inl (m 19)), .inl (0, 16, .inl (m 20)), .inl (0, 16, .inl (m 21)), .inl (0, 16, .inl (m 22)), .inl (0, 8, .inl (m 26)), .inl (0, 8, .inl (m 27)), .inl (0, 7392, .inl (m 28)), .inl (0, 8, .inl (m 29)), .inl (0, 6, .inl (m 30))]
abbrev hm_hM (m : hm_M) (h : Nat → Option va_E) (n s : Nat) : hm_H := (hm_seg 61 (hm_cM m) h, n, s)
section WM
variable {m : hm_M} {h : Nat → Option va_E} {n s : Nat}
theorem wM_0 (f : Nat → Int32) : hm_set (hm_hM m h n s) 62 (.inl (0, 3, .inl f)) = hm_hM (hm_uM m 0 f) h n s := hm_seg_set (k := 1) (Nat.le_of_ble_eq_true rfl) rfl rfl
theorem wM_1 (f : Nat → Int32) : hm_set (hm_hM m h n s) 63 (.inl (0, 3, .inl f)) = hm_hM (hm_uM m 1 f) h n s := hm_seg_set (k := 2) (Nat.le_of_ble_eq_true rfl) rfl rfl
theorem wM_3 (f : Nat → Int32) : hm_set (hm_hM m h n s) 64 (.inl (0, 12, .inl f)) = hm_hM (hm_uM m 3 f) h n s := hm_seg_set (k := 3) (Nat.le_of_ble_eq_true rfl) rfl rfl
theorem wM_4 (f : Nat → Int32) : hm_set (hm_hM m h n s) 65 (.inl (0, 80, .inl f)) = hm_hM (hm_uM m 4 f) h n s := hm_seg_set (k := 4) (Nat.le_of_ble_eq_true rfl) rfl rfl
theorem wM_5 (f : Nat → Int32) : hm_set (hm_hM m h n s) 66 (.inl (0, 20, .inl f)) = hm_hM (hm_uM m 5 f) h n s := hm_seg_set (k := 5) (Nat.le_of_ble_eq_true rfl) rfl rfl
theorem wM_6 (f : Nat → Int32) : hm_set (hm_hM m h n s) 67 (.inl (0, 100, .inl f)) = hm_hM (hm_uM m 6 f) h n s := hm_seg_set (k := 6) (Nat.le_of_ble_eq_true rfl) rfl rfl
theorem wM_10 (f : Nat → Int32) : hm_set (hm_hM m h n s) 68 (.inl (0, 16, .inl f)) = hm_hM (hm_uM m 10 f) h n s := hm_seg_set (k := 7) (Nat.le_of_ble_eq_true rfl) rfl rfl
theorem wM_11 (f : Nat → Int32) : hm_set (hm_hM m h n s) 69 (.inl (0, 16, .inl f)) = hm_hM (hm_uM m 11 f) h n s := hm_seg_set (k := 8) (Nat.le_of_ble_eq_true rfl) rfl rfl
theorem wM_12 (f : Nat → Int32) : hm_set (hm_hM m h n s) 70 (.inl (0, 16, .inl f)) = hm_hM (hm_uM m 12 f) h n s := hm_seg_set (k := 9) (Nat.le_of_ble_eq_true rfl) rfl rfl
theorem wM_13 (f : Nat → Int32) : hm_set (hm_hM m h n s) 71 (.inl (0, 16, .inl f)) = hm_hM (hm_uM m 13 f) h n s := hm_seg_set (k := 10) (Nat.le_of_ble_eq_true rfl) rfl rfl
theorem wM_14 (f : Nat → Int32) : hm_set (hm_hM m h n s) 72 (.inl (0, 96, .inl f)) = hm_hM (hm_uM m 14 f) h n s := hm_seg_set (k := 11) (Nat.le_of_ble_eq_true rfl) rfl rfl
theorem wM_15 (f : Nat → Int32) : hm_set (hm_hM m h n s) 73 (.inl (0, 64, .inl f)) = hm_hM (hm_uM m 15 f) h n s := hm_seg_set (k := 12) (Nat.le_of_ble_eq_true rfl) rfl rfl
theorem wM_16 (f : Nat → Int32) : hm_set (hm_hM m h n s) 74 (.inl (2, 16, .inl f)) = hm_hM (hm_uM m 16 f) h n s := hm_seg_set (k := 13) (Nat.le_of_ble_eq_true rfl) rfl rfl
theorem wM_19 (f : Nat → Int32) : hm_set (hm_hM m h n s) 75 (.inl (0, 16, .inl f)) = hm_hM (hm_uM m 19 f) h n s := hm_seg_set (k := 14) (Nat.le_of_ble_eq_true rfl) rfl rfl
theorem wM_20 (f : Nat → Int32) : hm_set (hm_hM m h n s) 76 (.inl (0, 16, .inl f)) = hm_hM (hm_uM m 20 f) h n s := hm_seg_set (k := 15) (Nat.le_of_ble_eq_true rfl) rfl rfl
theorem wM_21 (f : Nat → Int32) : hm_set (hm_hM m h n s) 77 (.inl (0, 16, .inl f)) = hm_hM (hm_uM m 21 f) h n s := hm_seg_set (k := 16) (Nat.le_of_ble_eq_true rfl) rfl rfl
theorem wM_22 (f : Nat → Int32) : hm_set (hm_hM m h n s) 78 (.inl (0, 16, .inl f)) = hm_hM (hm_uM m 22 f) h n s := hm_seg_set (k := 17) (Nat.le_of_ble_eq_true rfl) rfl rfl
theorem wM_26 (f : Nat → Int32) : hm_set (hm_hM m h n s) 79 (.inl (0, 8, .inl f)) = hm_hM (hm_uM m 26 f) h n s := hm_seg_set (k := 18) (Nat.le_of_ble_eq_true rfl) rfl rfl
theorem wM_27 (f : Nat → Int32) : hm_set (hm_hM m h n s) 80 (.inl (0, 8, .inl f)) = hm_hM (hm_uM m 27 f) h n s := hm_seg_set (k := 19) (Nat.le_of_ble_eq_true rfl) rfl rfl
theorem wM_28 (f : Nat → Int32) : hm_set (hm_hM m h n s) 81 (.inl (0, 7392, .inl f)) = hm_hM (hm_uM m 28 f) h n s := hm_seg_set (k := 20) (Nat.le_of_ble_eq_true rfl) rfl rfl
theorem wM_29 (f : Nat → Int32) : hm_set (hm_hM m h n s) 82 (.inl (0, 8, .inl f)) = hm_hM (hm_uM m 29 f) h n s := hm_seg_set (k := 21) (Nat.le_of_ble_eq_true rfl) rfl rfl
theorem wM_30 (f : Nat → Int32) : hm_set (hm_hM m h n s) 83 (.inl (0, 6, .inl f)) = hm_hM (hm_uM m 30 f) h n s := hm_seg_set (k := 22) (Nat.le_of_ble_eq_true rfl) rfl rfl
theorem wM_2 (x : Int32) : hm_set (hm_hM m h n s) 61 (.inr (8, (hm_mF m).set 2 (.int x))) = hm_hM (hm_uM m 2 (fun _ => x)) h n s := hm_seg_set (k := 0) (Nat.le_of_ble_eq_true rfl) rfl rfl
theorem wM_7 (x : Int32) : hm_set (hm_hM m h n s) 61 (.inr (8, (hm_mF m).set 7 (.int x))) = hm_hM (hm_uM m 7 (fun _ => x)) h n s := hm_seg_set (k := 0) (Nat.le_of_ble_eq_true rfl) rfl rfl
theorem wM_8 (x : Int32) : hm_set (hm_hM m h n s) 61 (.inr (8, (hm_mF m).set 8 (.int x))) = hm_hM (hm_uM m 8 (fun _ => x)) h n s := hm_seg_set (k := 0) (Nat.le_of_ble_eq_true rfl) rfl rfl
theorem wM_9 (x : Int32) : hm_set (hm_hM m h n s) 61 (.inr (8, (hm_mF m).set 9 (.int x))) = hm_hM (hm_uM m 9 (fun _ => x)) h n s := hm_seg_set (k := 0) (Nat.le_of_ble_eq_true rfl) rfl rfl
theorem wM_17 (x : Int32) : hm_set (hm_hM m h n s) 61 (.inr (8, (hm_mF m).set 17 (.int x))) = hm_hM (hm_uM m 17 (fun _ => x)) h n s := hm_seg_set (k := 0) (Nat.le_of_ble_eq_true rfl) rfl rfl
theorem wM_18 (x : Int32) : hm_set (hm_hM m h n s) 61 (.inr (8, (hm_mF m).set 18 (.int x))) = hm_hM (hm_uM m 18 (fun _ => x)) h n s := hm_seg_set (k := 0) (Nat.le_of_ble_eq_true rfl) rfl rfl
theorem wM_23 (x : Int32) : hm_set (hm_hM m h n s) 61 (.inr (8, (hm_mF m).set 23 (.int x))) = hm_hM (hm_uM m 23 (fun _ => x)) h n s := hm_seg_set (k := 0) (Nat.le_of_ble_eq_true rfl) rfl rfl
theorem wM_24 (x : Int32) : hm_set (hm_hM m h n s) 61 (.inr (8, (hm_mF m).set 24 (.int x))) = hm_hM (hm_uM m 24 (fun _ => x)) h n s := hm_seg_set (k := 0) (Nat.le_of_ble_eq_true rfl) rfl rfl
theorem wM_25 (x : Int32) : hm_set (hm_hM m h n s) 61 (.inr (8, (hm_mF m).set 25 (.int x))) = hm_hM (hm_uM m 25 (fun _ => x)) h n s := hm_seg_set (k := 0) (Nat.le_of_ble_eq_true rfl) rfl rfl
end WM
theorem fl_0_11 : hm_ftab.lookup (0, 11) = some (0, 0, 0, 36) := by decide +kernel
theorem fl_0_15 : hm_ftab.lookup (0, 15) = some (0, 1, 0, 37) := by decide +kernel
theorem fl_7_195 : hm_ftab.lookup (7, 195) = some (0, 1, 1, 38) := by decide +kernel
theorem fl_0_19 : hm_ftab.lookup (0, 19) = some (0, 2, 0, 39) := by decide +kernel
theorem fl_0_22 : hm_ftab.lookup (0, 22) = some (0, 3, 0, 40) := by decide +kernel
theorem fl_0_25 : hm_ftab.lookup (0, 25) = some (0, 4, 0, 41) := by decide +kernel
theorem fl_0_28 : hm_ftab.lookup (0, 28) = some (0, 5, 0, 42) := by decide +kernel
theorem fl_7_244 : hm_ftab.lookup (7, 244) = some (0, 5, 1, 43) := by decide +kernel
theorem fl_0_33 : hm_ftab.lookup (0, 33) = some (0, 6, 0, 44) := by decide +kernel
theorem fl_4_11 : hm_ftab.lookup (4, 11) = some (4, 0, 0, 70) := by decide +kernel
theorem fl_6_9 : hm_ftab.lookup (6, 9) = some (6, 0, 0, 80) := by decide +kernel
theorem fl_6_15 : hm_ftab.lookup (6, 15) = some (6, 1, 0, 81) := by decide +kernel
theorem fl_3_29 : hm_ftab.lookup (3, 29) = some (6, 1, 1, 82) := by decide +kernel
theorem fl_7_198 : hm_ftab.lookup (7, 198) = some (6, 1, 1, 83) := by decide +kernel
theorem fl_3_9 : hm_ftab.lookup (3, 9) = some (3, 0, 0, 95) := by decide +kernel
theorem fl_7_141 : hm_ftab.lookup (7, 141) = some (3, 0, 1, 96) := by decide +kernel
theorem fl_3_20 : hm_ftab.lookup (3, 20) = some (3, 1, 0, 97) := by decide +kernel
theorem fl_3_26 : hm_ftab.lookup (3, 26) = some (3, 2, 0, 98) := by decide +kernel
theorem fl_3_72 : hm_ftab.lookup (3, 72) = some (3, 3, 0, 99) := by decide +kernel
theorem fl_3_75 : hm_ftab.lookup (3, 75) = some (3, 4, 0, 100) := by decide +kernel
theorem fl_3_23 : hm_ftab.lookup (3, 23) = some (3, 5, 0, 101) := by decide +kernel
theorem fl_3_69 : hm_ftab.lookup (3, 69) = some (3, 6, 0, 102) := by decide +kernel
theorem fl_2_11 : hm_ftab.lookup (2, 11) = some (2, 0, 0, 133) := by decide +kernel
theorem fl_9_9 : hm_ftab.lookup (9, 9) = some (9, 1, 0, 151) := by decide +kernel
theorem fl_9_48 : hm_ftab.lookup (9, 48) = some (9, 2, 0, 152) := by decide +kernel
theorem fl_12_7 : hm_ftab.lookup (12, 7) = some (9, 0, 0, 153) := by decide +kernel
theorem fl_9_63 : hm_ftab.lookup (9, 63) = some (9, 0, 2, 154) := by decide +kernel
theorem fl_7_7 : hm_ftab.lookup (7, 7) = some (7, 0, 0, 163) := by decide +kernel
theorem fl_7_13 : hm_ftab.lookup (7, 13) = some (7, 1, 0, 164) := by decide +kernel
theorem fl_7_19 : hm_ftab.lookup (7, 19) = some (7, 2, 0, 165) := by decide +kernel
theorem fl_7_26 : hm_ftab.lookup (7, 26) = some (7, 3, 0, 166) := by decide +kernel
theorem fl_7_33 : hm_ftab.lookup (7, 33) = some (7, 4, 0, 167) := by decide +kernel
theorem fl_7_40 : hm_ftab.lookup (7, 40) = some (7, 5, 0, 168) := by decide +kernel
theorem fl_7_46 : hm_ftab.lookup (7, 46) = some (7, 6, 0, 169) := by decide +kernel
theorem fl_7_51 : hm_ftab.lookup (7, 51) = some (7, 7, 0, 170) := by decide +kernel
theorem fl_7_58 : hm_ftab.lookup (7, 58) = some (7, 8, 0, 171) := by decide +kernel
theorem fl_7_62 : hm_ftab.lookup (7, 62) = some (7, 9, 0, 172) := by decide +kernel
theorem fl_7_66 : hm_ftab.lookup (7, 66) = some (7, 10, 0, 173) := by decide +kernel
theorem fl_7_69 : hm_ftab.lookup (7, 69) = some (7, 11, 0, 174) := by decide +kernel
theorem fl_7_72 : hm_ftab.lookup (7, 72) = some (7, 12, 0, 175) := by decide +kernel
theorem fl_7_75 : hm_ftab.lookup (7, 75) = some (7, 13, 0, 176) := by decide +kernel
theorem fl_1_26 : hm_ftab.lookup (1, 26) = some (1, 0, 0, 422) := by decide +kernel
theorem fl_7_134 : hm_ftab.lookup (7, 134) = some (1, 0, 1, 423) := by decide +kernel
theorem fl_1_29 : hm_ftab.lookup (1, 29) = some (1, 1, 0, 424) := by decide +kernel
theorem fl_1_32 : hm_ftab.lookup (1, 32) = some (1, 2, 0, 425) := by decide +kernel
theorem fl_4_32 : hm_ftab.lookup (4, 32) = some (1, 2, 1, 426) := by decide +kernel
theorem fl_7_231 : hm_ftab.lookup (7, 231) = some (1, 2, 1, 427) := by decide +kernel
theorem fl_1_35 : hm_ftab.lookup (1, 35) = some (1, 3, 0, 428) := by decide +kernel
theorem fl_7_234 : hm_ftab.lookup (7, 234) = some (1, 3, 1, 429) := by decide +kernel
theorem fl_1_9 : hm_ftab.lookup (1, 9) = some (1, 4, 0, 430) := by decide +kernel
theorem fl_7_165 : hm_ftab.lookup (7, 165) = some (1, 4, 1, 431) := by decide +kernel
theorem fl_1_15 : hm_ftab.lookup (1, 15) = some (1, 5, 0, 432) := by decide +kernel
theorem fl_4_22 : hm_ftab.lookup (4, 22) = some (1, 5, 1, 433) := by decide +kernel
theorem fl_7_183 : hm_ftab.lookup (7, 183) = some (1, 5, 1, 434) := by decide +kernel
theorem fl_1_18 : hm_ftab.lookup (1, 18) = some (1, 6, 0, 435) := by decide +kernel
theorem fl_7_280 : hm_ftab.lookup (7, 280) = some (1, 6, 1, 436) := by decide +kernel
theorem fl_1_22 : hm_ftab.lookup (1, 22) = some (1, 7, 0, 437) := by decide +kernel
theorem fl_7_287 : hm_ftab.lookup (7, 287) = some (1, 7, 1, 438) := by decide +kernel
theorem fl_5_25 : hm_ftab.lookup (5, 25) = some (5, 0, 0, 649) := by decide +kernel
theorem fl_7_293 : hm_ftab.lookup (7, 293) = some (5, 0, 1, 650) := by decide +kernel
theorem fl_5_9 : hm_ftab.lookup (5, 9) = some (5, 1, 0, 651) := by decide +kernel
theorem fl_7_270 : hm_ftab.lookup (7, 270) = some (5, 1, 1, 652) := by decide +kernel
theorem fl_5_15 : hm_ftab.lookup (5, 15) = some (5, 2, 0, 653) := by decide +kernel
theorem fl_7_277 : hm_ftab.lookup (7, 277) = some (5, 2, 1, 654) := by decide +kernel
theorem fl_5_18 : hm_ftab.lookup (5, 18) = some (5, 3, 0, 655) := by decide +kernel
theorem fl_7_283 : hm_ftab.lookup (7, 283) = some (5, 3, 1, 656) := by decide +kernel
theorem fl_5_22 : hm_ftab.lookup (5, 22) = some (5, 4, 0, 657) := by decide +kernel
theorem fl_7_296 : hm_ftab.lookup (7, 296) = some (5, 4, 1, 658) := by decide +kernel
theorem fl_8_7 : hm_ftab.lookup (8, 7) = some (8, 0, 0, 719) := by decide +kernel
theorem fl_8_13 : hm_ftab.lookup (8, 13) = some (8, 1, 0, 720) := by decide +kernel
theorem fl_8_124 : hm_ftab.lookup (8, 124) = some (8, 2, 0, 721) := by decide +kernel
theorem fl_8_16 : hm_ftab.lookup (8, 16) = some (8, 3, 0, 722) := by decide +kernel
theorem fl_8_19 : hm_ftab.lookup (8, 19) = some (8, 4, 0, 723) := by decide +kernel
theorem fl_8_22 : hm_ftab.lookup (8, 22) = some (8, 5, 0, 724) := by decide +kernel
theorem fl_8_25 : hm_ftab.lookup (8, 25) = some (8, 6, 0, 725) := by decide +kernel
theorem fl_8_127 : hm_ftab.lookup (8, 127) = some (8, 7, 0, 726) := by decide +kernel
theorem fl_8_28 : hm_ftab.lookup (8, 28) = some (8, 8, 0, 727) := by decide +kernel
theorem fl_8_81 : hm_ftab.lookup (8, 81) = some (8, 9, 0, 728) := by decide +kernel
theorem fl_8_32 : hm_ftab.lookup (8, 32) = some (8, 10, 0, 729) := by decide +kernel
theorem fl_8_35 : hm_ftab.lookup (8, 35) = some (8, 11, 0, 730) := by decide +kernel
theorem fl_8_38 : hm_ftab.lookup (8, 38) = some (8, 12, 0, 731) := by decide +kernel
theorem fl_8_41 : hm_ftab.lookup (8, 41) = some (8, 13, 0, 732) := by decide +kernel
theorem fl_8_44 : hm_ftab.lookup (8, 44) = some (8, 14, 0, 733) := by decide +kernel
theorem fl_8_47 : hm_ftab.lookup (8, 47) = some (8, 15, 0, 734) := by decide +kernel
theorem fl_8_50 : hm_ftab.lookup (8, 50) = some (8, 16, 0, 735) := by decide +kernel
theorem fl_8_210 : hm_ftab.lookup (8, 210) = some (8, 17, 0, 736) := by decide +kernel
theorem fl_8_232 : hm_ftab.lookup (8, 232) = some (8, 18, 0, 737) := by decide +kernel
theorem fl_8_54 : hm_ftab.lookup (8, 54) = some (8, 19, 0, 738) := by decide +kernel
theorem fl_8_57 : hm_ftab.lookup (8, 57) = some (8, 20, 0, 739) := by decide +kernel
theorem fl_8_60 : hm_ftab.lookup (8, 60) = some (8, 21, 0, 740) := by decide +kernel
theorem fl_8_63 : hm_ftab.lookup (8, 63) = some (8, 22, 0, 741) := by decide +kernel
theorem fl_8_246 : hm_ftab.lookup (8, 246) = some (8, 23, 0, 742) := by decide +kernel
theorem fl_8_132 : hm_ftab.lookup (8, 132) = some (8, 24, 0, 743) := by decide +kernel
theorem fl_8_199 : hm_ftab.lookup (8, 199) = some (8, 25, 0, 744) := by decide +kernel
theorem fl_8_66 : hm_ftab.lookup (8, 66) = some (8, 26, 0, 745) := by decide +kernel
theorem fl_8_69 : hm_ftab.lookup (8, 69) = some (8, 27, 0, 746) := by decide +kernel
theorem fl_8_72 : hm_ftab.lookup (8, 72) = some (8, 28, 0, 747) := by decide +kernel
theorem fl_8_75 : hm_ftab.lookup (8, 75) = some (8, 29, 0, 748) := by decide +kernel
theorem fl_8_78 : hm_ftab.lookup (8, 78) = some (8, 30, 0, 749) := by decide +kernel
theorem nl_19_7 : hm_ntab.lookup (19, 7) = some (7, 20) := by decide +kernel
theorem nl_7_16 : hm_ntab.lookup (7, 16) = some (0, 28) := by decide +kernel
theorem nl_0_31 : hm_ntab.lookup (0, 31) = some (21, 34) := by decide +kernel
theorem nl_7_23 : hm_ntab.lookup (7, 23) = some (4, 62) := by decide +kernel
theorem nl_4_9 : hm_ntab.lookup (4, 9) = some (20, 68) := by decide +kernel
theorem nl_7_30 : hm_ntab.lookup (7, 30) = some (6, 74) := by decide +kernel
theorem nl_7_37 : hm_ntab.lookup (7, 37) = some (3, 89) := by decide +kernel
theorem nl_7_44 : hm_ntab.lookup (7, 44) = some (2, 118) := by decide +kernel
theorem nl_2_9 : hm_ntab.lookup (2, 9) = some (20, 125) := by decide +kernel
theorem nl_7_55 : hm_ntab.lookup (7, 55) = some (9, 137) := by decide +kernel
theorem nl_7_132 : hm_ntab.lookup (7, 132) = some (1, 340) := by decide +kernel
theorem nl_11_110 : hm_ntab.lookup (11, 110) = some (23, 500) := by decide +kernel
theorem nl_11_2 : hm_ntab.lookup (11, 2) = some (22, 502) := by decide +kernel
theorem nl_9_7 : hm_ntab.lookup (9, 7) = some (22, 508) := by decide +kernel
theorem nl_7_261 : hm_ntab.lookup (7, 261) = some (5, 638) := by decide +kernel
theorem nl_19_10 : hm_ntab.lookup (19, 10) = some (8, 713) := by decide +kernel
theorem ll_5_28 : hm_ltab.lookup (5, 28) = some (10000, 691) := by decide +kernel
theorem ll_5_30 : hm_ltab.lookup (5, 30) = some (100000000, 692) := by decide +kernel
theorem ll_8_103 : hm_ltab.lookup (8, 103) = some (2, 818) := by decide +kernel
theorem ll_8_105 : hm_ltab.lookup (8, 105) = some (4, 822) := by decide +kernel
theorem ll_8_90 : hm_ltab.lookup (8, 90) = some (3, 823) := by decide +kernel
theorem ll_8_107 : hm_ltab.lookup (8, 107) = some (8, 824) := by decide +kernel
theorem ll_8_115 : hm_ltab.lookup (8, 115) = some (1023, 849) := by decide +kernel
theorem ll_8_120 : hm_ltab.lookup (8, 120) = some (140, 858) := by decide +kernel
theorem ll_8_122 : hm_ltab.lookup (8, 122) = some (210, 859) := by decide +kernel
theorem ll_8_130 : hm_ltab.lookup (8, 130) = some (255, 864) := by decide +kernel
theorem ll_8_149 : hm_ltab.lookup (8, 149) = some (65, 888) := by decide +kernel
theorem ll_8_151 : hm_ltab.lookup (8, 151) = some (70, 889) := by decide +kernel
theorem ll_8_139 : hm_ltab.lookup (8, 139) = some (48, 894) := by decide +kernel
theorem ll_8_141 : hm_ltab.lookup (8, 141) = some (57, 895) := by decide +kernel
theorem ll_8_88 : hm_ltab.lookup (8, 88) = some (399, 938) := by decide +kernel
theorem ll_8_208 : hm_ltab.lookup (8, 208) = some (6, 939) := by decide +kernel
theorem ll_8_216 : hm_ltab.lookup (8, 216) = some (5, 948) := by decide +kernel
theorem ll_8_218 : hm_ltab.lookup (8, 218) = some (-1, 949) := by decide +kernel
theorem ll_8_238 : hm_ltab.lookup (8, 238) = some (1000000, 1019) := by decide +kernel
theorem ll_8_244 : hm_ltab.lookup (8, 244) = some (100, 1033) := by decide +kernel
theorem ll_8_249 : hm_ltab.lookup (8, 249) = some (400, 1038) := by decide +kernel
theorem ll_8_251 : hm_ltab.lookup (8, 251) = some (10000, 1039) := by decide +kernel
theorem ll_8_253 : hm_ltab.lookup (8, 253) = some (100000000, 1040) := by decide +kernel
theorem ll_19_27 : hm_ltab.lookup (19, 27) = some (4294967295, 1057) := by decide +kernel
theorem il_17_200 : hm_itab.lookup (17, 200) = some (2147483639, 476) := by decide +kernel
theorem il_18_265 : hm_itab.lookup (18, 265) = some (1431655765, 583) := by decide +kernel
theorem il_18_266 : hm_itab.lookup (18, 266) = some (858993459, 584) := by decide +kernel
theorem il_18_267 : hm_itab.lookup (18, 267) = some (252645135, 585) := by decide +kernel
theorem il_7_260 : hm_itab.lookup (7, 260) = some (1000000, 643) := by decide +kernel
theorem il_7_273 : hm_itab.lookup (7, 273) = some (100000000, 678) := by decide +kernel
theorem il_8_243 : hm_itab.lookup (8, 243) = some (100000000, 1028) := by decide +kernel
theorem cl_19_9 : hm_ctab.lookup (19, 9) = some (0, 0, 22) := by decide +kernel
theorem cl_7_1 : hm_ctab.lookup (7, 1) = some (1, 0, 25) := by decide +kernel
theorem cl_7_18 : hm_ctab.lookup (7, 18) = some (2, 1, 30) := by decide +kernel
theorem cl_0_5 : hm_ctab.lookup (0, 5) = some (1, 0, 33) := by decide +kernel
theorem cl_7_25 : hm_ctab.lookup (7, 25) = some (3, 1, 64) := by decide +kernel
theorem cl_4_3 : hm_ctab.lookup (4, 3) = some (1, 0, 67) := by decide +kernel
theorem cl_7_32 : hm_ctab.lookup (7, 32) = some (4, 1, 76) := by decide +kernel
theorem cl_6_3 : hm_ctab.lookup (6, 3) = some (1, 0, 79) := by decide +kernel
theorem cl_7_39 : hm_ctab.lookup (7, 39) = some (5, 1, 91) := by decide +kernel
theorem cl_3_3 : hm_ctab.lookup (3, 3) = some (1, 0, 94) := by decide +kernel
theorem cl_7_50 : hm_ctab.lookup (7, 50) = some (6, 0, 121) := by decide +kernel
theorem cl_2_3 : hm_ctab.lookup (2, 3) = some (1, 0, 124) := by decide +kernel
theorem cl_2_16 : hm_ctab.lookup (2, 16) = some (7, 0, 126) := by decide +kernel
theorem cl_2_19 : hm_ctab.lookup (2, 19) = some (8, 0, 130) := by decide +kernel
theorem cl_7_57 : hm_ctab.lookup (7, 57) = some (9, 0, 139) := by decide +kernel
theorem cl_9_1 : hm_ctab.lookup (9, 1) = some (10, 0, 142) := by decide +kernel
theorem cl_12_1 : hm_ctab.lookup (12, 1) = some (11, 0, 145) := by decide +kernel
theorem cl_13_1 : hm_ctab.lookup (13, 1) = some (1, 0, 148) := by decide +kernel
theorem cl_19_13 : hm_ctab.lookup (19, 13) = some (12, 0, 206) := by decide +kernel
theorem cl_7_78 : hm_ctab.lookup (7, 78) = some (13, 0, 210) := by decide +kernel
theorem cl_7_88 : hm_ctab.lookup (7, 88) = some (14, 0, 217) := by decide +kernel
theorem cl_4_16 : hm_ctab.lookup (4, 16) = some (15, 0, 221) := by decide +kernel
theorem cl_19_18 : hm_ctab.lookup (19, 18) = some (16, 0, 224) := by decide +kernel
theorem cl_7_92 : hm_ctab.lookup (7, 92) = some (17, 0, 228) := by decide +kernel
theorem cl_7_99 : hm_ctab.lookup (7, 99) = some (18, 0, 232) := by decide +kernel
theorem cl_7_103 : hm_ctab.lookup (7, 103) = some (19, 0, 236) := by decide +kernel
theorem cl_7_106 : hm_ctab.lookup (7, 106) = some (20, 0, 240) := by decide +kernel
theorem cl_7_110 : hm_ctab.lookup (7, 110) = some (21, 0, 244) := by decide +kernel
theorem cl_19_22 : hm_ctab.lookup (19, 22) = some (22, 0, 247) := by decide +kernel
theorem cl_7_96 : hm_ctab.lookup (7, 96) = some (23, 0, 251) := by decide +kernel
theorem cl_19_29 : hm_ctab.lookup (19, 29) = some (24, 0, 255) := by decide +kernel
theorem cl_7_113 : hm_ctab.lookup (7, 113) = some (25, 0, 259) := by decide +kernel
theorem cl_19_34 : hm_ctab.lookup (19, 34) = some (26, 0, 263) := by decide +kernel
theorem cl_7_117 : hm_ctab.lookup (7, 117) = some (27, 0, 267) := by decide +kernel
theorem cl_3_15 : hm_ctab.lookup (3, 15) = some (7, 0, 271) := by decide +kernel
theorem cl_3_34 : hm_ctab.lookup (3, 34) = some (28, 0, 272) := by decide +kernel
theorem cl_3_38 : hm_ctab.lookup (3, 38) = some (29, 0, 276) := by decide +kernel
theorem cl_3_42 : hm_ctab.lookup (3, 42) = some (30, 0, 280) := by decide +kernel
theorem cl_3_46 : hm_ctab.lookup (3, 46) = some (31, 0, 284) := by decide +kernel
theorem cl_3_49 : hm_ctab.lookup (3, 49) = some (32, 0, 287) := by decide +kernel
theorem cl_3_65 : hm_ctab.lookup (3, 65) = some (21, 1, 291) := by decide +kernel
theorem cl_3_52 : hm_ctab.lookup (3, 52) = some (33, 0, 292) := by decide +kernel
theorem cl_3_55 : hm_ctab.lookup (3, 55) = some (34, 0, 296) := by decide +kernel
theorem cl_3_58 : hm_ctab.lookup (3, 58) = some (35, 0, 299) := by decide +kernel
theorem cl_3_78 : hm_ctab.lookup (3, 78) = some (36, 0, 303) := by decide +kernel
theorem cl_3_82 : hm_ctab.lookup (3, 82) = some (37, 0, 307) := by decide +kernel
theorem cl_3_62 : hm_ctab.lookup (3, 62) = some (38, 0, 311) := by decide +kernel
theorem cl_3_85 : hm_ctab.lookup (3, 85) = some (39, 0, 315) := by decide +kernel
theorem cl_7_121 : hm_ctab.lookup (7, 121) = some (40, 0, 318) := by decide +kernel
theorem cl_7_124 : hm_ctab.lookup (7, 124) = some (41, 0, 322) := by decide +kernel
theorem cl_7_128 : hm_ctab.lookup (7, 128) = some (42, 0, 326) := by decide +kernel
theorem cl_9_118 : hm_ctab.lookup (9, 118) = some (43, 0, 330) := by decide +kernel
theorem cl_15_105 : hm_ctab.lookup (15, 105) = some (44, 0, 333) := by decide +kernel
theorem cl_9_123 : hm_ctab.lookup (9, 123) = some (45, 0, 336) := by decide +kernel
theorem cl_7_137 : hm_ctab.lookup (7, 137) = some (46, 0, 341) := by decide +kernel
theorem cl_7_256 : hm_ctab.lookup (7, 256) = some (47, 0, 345) := by decide +kernel
theorem cl_1_44 : hm_ctab.lookup (1, 44) = some (48, 0, 349) := by decide +kernel
theorem cl_1_54 : hm_ctab.lookup (1, 54) = some (49, 0, 353) := by decide +kernel
theorem cl_1_58 : hm_ctab.lookup (1, 58) = some (50, 0, 357) := by decide +kernel
theorem cl_1_63 : hm_ctab.lookup (1, 63) = some (51, 0, 361) := by decide +kernel
theorem cl_1_80 : hm_ctab.lookup (1, 80) = some (21, 1, 366) := by decide +kernel
theorem cl_1_67 : hm_ctab.lookup (1, 67) = some (52, 0, 367) := by decide +kernel
theorem cl_1_70 : hm_ctab.lookup (1, 70) = some (53, 0, 371) := by decide +kernel
theorem cl_7_179 : hm_ctab.lookup (7, 179) = some (54, 0, 375) := by decide +kernel
theorem cl_7_250 : hm_ctab.lookup (7, 250) = some (55, 0, 379) := by decide +kernel
theorem cl_4_36 : hm_ctab.lookup (4, 36) = some (48, 0, 383) := by decide +kernel
theorem cl_4_39 : hm_ctab.lookup (4, 39) = some (56, 0, 384) := by decide +kernel
theorem cl_1_48 : hm_ctab.lookup (1, 48) = some (57, 0, 388) := by decide +kernel
theorem cl_7_253 : hm_ctab.lookup (7, 253) = some (58, 0, 391) := by decide +kernel
theorem cl_4_28 : hm_ctab.lookup (4, 28) = some (59, 1, 395) := by decide +kernel
theorem cl_19_38 : hm_ctab.lookup (19, 38) = some (60, 0, 398) := by decide +kernel
theorem cl_19_43 : hm_ctab.lookup (19, 43) = some (61, 0, 402) := by decide +kernel
theorem cl_7_144 : hm_ctab.lookup (7, 144) = some (62, 0, 406) := by decide +kernel
theorem cl_7_148 : hm_ctab.lookup (7, 148) = some (50, 0, 409) := by decide +kernel
theorem cl_19_48 : hm_ctab.lookup (19, 48) = some (63, 0, 410) := by decide +kernel
theorem cl_7_151 : hm_ctab.lookup (7, 151) = some (64, 0, 414) := by decide +kernel
theorem cl_7_154 : hm_ctab.lookup (7, 154) = some (65, 0, 417) := by decide +kernel
theorem cl_1_3 : hm_ctab.lookup (1, 3) = some (1, 0, 420) := by decide +kernel
theorem cl_1_38 : hm_ctab.lookup (1, 38) = some (8, 0, 421) := by decide +kernel
theorem cl_7_157 : hm_ctab.lookup (7, 157) = some (66, 0, 456) := by decide +kernel
theorem cl_9_131 : hm_ctab.lookup (9, 131) = some (67, 0, 460) := by decide +kernel
theorem cl_9_129 : hm_ctab.lookup (9, 129) = some (68, 0, 464) := by decide +kernel
theorem cl_9_69 : hm_ctab.lookup (9, 69) = some (69, 0, 468) := by decide +kernel
theorem cl_9_73 : hm_ctab.lookup (9, 73) = some (70, 0, 472) := by decide +kernel
theorem cl_17_194 : hm_ctab.lookup (17, 194) = some (15, 0, 475) := by decide +kernel
theorem cl_17_201 : hm_ctab.lookup (17, 201) = some (71, 0, 477) := by decide +kernel
theorem cl_9_66 : hm_ctab.lookup (9, 66) = some (72, 0, 480) := by decide +kernel
theorem cl_11_300 : hm_ctab.lookup (11, 300) = some (73, 0, 497) := by decide +kernel
theorem cl_11_304 : hm_ctab.lookup (11, 304) = some (57, 0, 503) := by decide +kernel
theorem cl_9_79 : hm_ctab.lookup (9, 79) = some (15, 0, 507) := by decide +kernel
theorem cl_19_53 : hm_ctab.lookup (19, 53) = some (74, 0, 509) := by decide +kernel
theorem cl_7_161 : hm_ctab.lookup (7, 161) = some (75, 0, 513) := by decide +kernel
theorem cl_19_57 : hm_ctab.lookup (19, 57) = some (76, 0, 517) := by decide +kernel
theorem cl_7_168 : hm_ctab.lookup (7, 168) = some (77, 0, 521) := by decide +kernel
theorem cl_7_176 : hm_ctab.lookup (7, 176) = some (48, 0, 525) := by decide +kernel
theorem cl_7_204 : hm_ctab.lookup (7, 204) = some (49, 0, 526) := by decide +kernel
theorem cl_7_208 : hm_ctab.lookup (7, 208) = some (78, 0, 527) := by decide +kernel
theorem cl_1_73 : hm_ctab.lookup (1, 73) = some (79, 0, 531) := by decide +kernel
theorem cl_1_77 : hm_ctab.lookup (1, 77) = some (80, 0, 535) := by decide +kernel
theorem cl_7_211 : hm_ctab.lookup (7, 211) = some (81, 0, 539) := by decide +kernel
theorem cl_7_219 : hm_ctab.lookup (7, 219) = some (56, 0, 543) := by decide +kernel
theorem cl_7_222 : hm_ctab.lookup (7, 222) = some (82, 0, 544) := by decide +kernel
theorem cl_7_189 : hm_ctab.lookup (7, 189) = some (59, 0, 548) := by decide +kernel
theorem cl_7_215 : hm_ctab.lookup (7, 215) = some (83, 0, 549) := by decide +kernel
theorem cl_7_225 : hm_ctab.lookup (7, 225) = some (84, 0, 553) := by decide +kernel
theorem cl_7_228 : hm_ctab.lookup (7, 228) = some (85, 0, 557) := by decide +kernel
theorem cl_7_237 : hm_ctab.lookup (7, 237) = some (86, 0, 561) := by decide +kernel
theorem cl_7_241 : hm_ctab.lookup (7, 241) = some (87, 0, 565) := by decide +kernel
theorem cl_0_36 : hm_ctab.lookup (0, 36) = some (88, 0, 569) := by decide +kernel
theorem cl_0_42 : hm_ctab.lookup (0, 42) = some (89, 0, 572) := by decide +kernel
theorem cl_0_46 : hm_ctab.lookup (0, 46) = some (90, 0, 576) := by decide +kernel
theorem cl_0_50 : hm_ctab.lookup (0, 50) = some (91, 0, 580) := by decide +kernel
theorem cl_0_56 : hm_ctab.lookup (0, 56) = some (21, 1, 586) := by decide +kernel
theorem cl_0_59 : hm_ctab.lookup (0, 59) = some (92, 0, 587) := by decide +kernel
theorem cl_0_63 : hm_ctab.lookup (0, 63) = some (93, 0, 591) := by decide +kernel
theorem cl_19_61 : hm_ctab.lookup (19, 61) = some (94, 0, 594) := by decide +kernel
theorem cl_7_172 : hm_ctab.lookup (7, 172) = some (95, 0, 598) := by decide +kernel
theorem cl_19_65 : hm_ctab.lookup (19, 65) = some (96, 0, 602) := by decide +kernel
theorem cl_19_69 : hm_ctab.lookup (19, 69) = some (97, 0, 606) := by decide +kernel
theorem cl_19_73 : hm_ctab.lookup (19, 73) = some (98, 0, 610) := by decide +kernel
theorem cl_7_186 : hm_ctab.lookup (7, 186) = some (99, 0, 614) := by decide +kernel
theorem cl_7_192 : hm_ctab.lookup (7, 192) = some (100, 0, 618) := by decide +kernel
theorem cl_7_247 : hm_ctab.lookup (7, 247) = some (101, 0, 622) := by decide +kernel
theorem cl_19_77 : hm_ctab.lookup (19, 77) = some (102, 0, 626) := by decide +kernel
theorem cl_19_81 : hm_ctab.lookup (19, 81) = some (103, 0, 630) := by decide +kernel
theorem cl_7_201 : hm_ctab.lookup (7, 201) = some (104, 0, 634) := by decide +kernel
theorem cl_19_85 : hm_ctab.lookup (19, 85) = some (105, 0, 639) := by decide +kernel
theorem cl_7_263 : hm_ctab.lookup (7, 263) = some (106, 0, 645) := by decide +kernel
theorem cl_5_3 : hm_ctab.lookup (5, 3) = some (1, 0, 648) := by decide +kernel
theorem cl_19_89 : hm_ctab.lookup (19, 89) = some (107, 0, 670) := by decide +kernel
theorem cl_7_266 : hm_ctab.lookup (7, 266) = some (108, 0, 674) := by decide +kernel
theorem cl_19_93 : hm_ctab.lookup (19, 93) = some (109, 0, 679) := by decide +kernel
theorem cl_19_97 : hm_ctab.lookup (19, 97) = some (110, 0, 683) := by decide +kernel
theorem cl_7_274 : hm_ctab.lookup (7, 274) = some (111, 0, 687) := by decide +kernel
theorem cl_5_32 : hm_ctab.lookup (5, 32) = some (112, 0, 693) := by decide +kernel
theorem cl_19_101 : hm_ctab.lookup (19, 101) = some (113, 0, 696) := by decide +kernel
theorem cl_19_105 : hm_ctab.lookup (19, 105) = some (114, 0, 700) := by decide +kernel
theorem cl_7_290 : hm_ctab.lookup (7, 290) = some (115, 0, 704) := by decide +kernel
theorem cl_5_38 : hm_ctab.lookup (5, 38) = some (57, 0, 708) := by decide +kernel
theorem cl_19_109 : hm_ctab.lookup (19, 109) = some (116, 0, 709) := by decide +kernel
theorem cl_19_12 : hm_ctab.lookup (19, 12) = some (117, 0, 715) := by decide +kernel
theorem cl_8_1 : hm_ctab.lookup (8, 1) = some (1, 0, 718) := by decide +kernel
theorem cl_19_17 : hm_ctab.lookup (19, 17) = some (118, 0, 814) := by decide +kernel
theorem cl_8_84 : hm_ctab.lookup (8, 84) = some (119, 0, 819) := by decide +kernel
theorem cl_8_109 : hm_ctab.lookup (8, 109) = some (120, 0, 825) := by decide +kernel
theorem cl_8_96 : hm_ctab.lookup (8, 96) = some (121, 0, 829) := by decide +kernel
theorem cl_8_92 : hm_ctab.lookup (8, 92) = some (122, 0, 833) := by decide +kernel
theorem cl_8_112 : hm_ctab.lookup (8, 112) = some (123, 0, 837) := by decide +kernel
theorem cl_8_99 : hm_ctab.lookup (8, 99) = some (124, 0, 841) := by decide +kernel
theorem cl_19_21 : hm_ctab.lookup (19, 21) = some (125, 0, 845) := by decide +kernel
theorem cl_8_117 : hm_ctab.lookup (8, 117) = some (126, 0, 850) := by decide +kernel
theorem cl_19_26 : hm_ctab.lookup (19, 26) = some (127, 0, 854) := by decide +kernel
theorem cl_19_33 : hm_ctab.lookup (19, 33) = some (128, 0, 860) := by decide +kernel
theorem cl_19_37 : hm_ctab.lookup (19, 37) = some (129, 0, 865) := by decide +kernel
theorem cl_8_159 : hm_ctab.lookup (8, 159) = some (130, 0, 869) := by decide +kernel
theorem cl_8_135 : hm_ctab.lookup (8, 135) = some (131, 0, 873) := by decide +kernel
theorem cl_8_146 : hm_ctab.lookup (8, 146) = some (132, 0, 877) := by decide +kernel
theorem cl_8_143 : hm_ctab.lookup (8, 143) = some (133, 0, 880) := by decide +kernel
theorem cl_8_156 : hm_ctab.lookup (8, 156) = some (134, 0, 884) := by decide +kernel
theorem cl_8_153 : hm_ctab.lookup (8, 153) = some (135, 0, 890) := by decide +kernel
theorem cl_8_162 : hm_ctab.lookup (8, 162) = some (136, 0, 896) := by decide +kernel
theorem cl_8_183 : hm_ctab.lookup (8, 183) = some (137, 0, 900) := by decide +kernel
theorem cl_8_169 : hm_ctab.lookup (8, 169) = some (138, 0, 904) := by decide +kernel
theorem cl_8_173 : hm_ctab.lookup (8, 173) = some (139, 0, 908) := by decide +kernel
theorem cl_8_177 : hm_ctab.lookup (8, 177) = some (140, 0, 912) := by decide +kernel
theorem cl_8_180 : hm_ctab.lookup (8, 180) = some (141, 0, 916) := by decide +kernel
theorem cl_19_42 : hm_ctab.lookup (19, 42) = some (142, 0, 920) := by decide +kernel
theorem cl_19_47 : hm_ctab.lookup (19, 47) = some (143, 0, 924) := by decide +kernel
theorem cl_8_165 : hm_ctab.lookup (8, 165) = some (144, 0, 928) := by decide +kernel
theorem cl_19_52 : hm_ctab.lookup (19, 52) = some (145, 0, 931) := by decide +kernel
theorem cl_8_205 : hm_ctab.lookup (8, 205) = some (146, 0, 935) := by decide +kernel
theorem cl_19_56 : hm_ctab.lookup (19, 56) = some (147, 0, 940) := by decide +kernel
theorem cl_8_213 : hm_ctab.lookup (8, 213) = some (148, 0, 944) := by decide +kernel
theorem cl_19_60 : hm_ctab.lookup (19, 60) = some (149, 0, 950) := by decide +kernel
theorem cl_8_220 : hm_ctab.lookup (8, 220) = some (150, 0, 954) := by decide +kernel
theorem cl_8_186 : hm_ctab.lookup (8, 186) = some (151, 0, 958) := by decide +kernel
theorem cl_8_189 : hm_ctab.lookup (8, 189) = some (152, 0, 962) := by decide +kernel
theorem cl_8_193 : hm_ctab.lookup (8, 193) = some (153, 0, 966) := by decide +kernel
theorem cl_8_196 : hm_ctab.lookup (8, 196) = some (154, 0, 970) := by decide +kernel
theorem cl_8_202 : hm_ctab.lookup (8, 202) = some (155, 0, 974) := by decide +kernel
theorem cl_19_64 : hm_ctab.lookup (19, 64) = some (156, 0, 978) := by decide +kernel
theorem cl_8_223 : hm_ctab.lookup (8, 223) = some (149, 0, 982) := by decide +kernel
theorem cl_19_68 : hm_ctab.lookup (19, 68) = some (157, 0, 983) := by decide +kernel
theorem cl_19_72 : hm_ctab.lookup (19, 72) = some (158, 0, 987) := by decide +kernel
theorem cl_19_76 : hm_ctab.lookup (19, 76) = some (159, 0, 991) := by decide +kernel
theorem cl_8_226 : hm_ctab.lookup (8, 226) = some (160, 0, 995) := by decide +kernel
theorem cl_8_229 : hm_ctab.lookup (8, 229) = some (161, 0, 999) := by decide +kernel
theorem cl_19_80 : hm_ctab.lookup (19, 80) = some (162, 0, 1003) := by decide +kernel
theorem cl_19_84 : hm_ctab.lookup (19, 84) = some (163, 0, 1007) := by decide +kernel
theorem cl_8_235 : hm_ctab.lookup (8, 235) = some (164, 0, 1011) := by decide +kernel
theorem cl_19_88 : hm_ctab.lookup (19, 88) = some (165, 0, 1015) := by decide +kernel
theorem cl_19_92 : hm_ctab.lookup (19, 92) = some (166, 0, 1020) := by decide +kernel
theorem cl_8_240 : hm_ctab.lookup (8, 240) = some (167, 0, 1024) := by decide +kernel
theorem cl_19_96 : hm_ctab.lookup (19, 96) = some (168, 0, 1029) := by decide +kernel
theorem cl_19_100 : hm_ctab.lookup (19, 100) = some (169, 0, 1034) := by decide +kernel
theorem cl_19_104 : hm_ctab.lookup (19, 104) = some (170, 0, 1041) := by decide +kernel
theorem cl_8_255 : hm_ctab.lookup (8, 255) = some (171, 0, 1045) := by decide +kernel
theorem cl_19_108 : hm_ctab.lookup (19, 108) = some (172, 0, 1049) := by decide +kernel
theorem cl_19_112 : hm_ctab.lookup (19, 112) = some (173, 0, 1053) := by decide +kernel
theorem sl_9_39 : hm_stab.lookup (9, 39) = some (3, 149) := by decide +kernel
theorem sl_7_82 : hm_stab.lookup (7, 82) = some (1, 213) := by decide +kernel
theorem sl_7_85 : hm_stab.lookup (7, 85) = some (2, 215) := by decide +kernel
/-! indices that are small numbers -/
section HI
variable {d M pc : Nat} {ls st r ls2 st2 : List Value} {hp hp2 : hm_H} {Q : Option Value → hm_H → Prop} {q : hm_Q}
theorem r_ialdn {t n a k : Nat} {j : Int32} {f : Nat → Int32} (hI : hm_code M pc = some .iaload) (ha : hp.1 a = some (.inl (t, n, .inl f))) (ht : t = 0 ∨ t = 100) (hj : j = nI k) (hk : k < n) (hn : n < 2 ^ 31) (h : hm_T d M (pc + 1) ls (.int (f k) :: r) hp Q) : hm_T d M pc ls (.int j :: .ref a :: r) hp Q := by
  subst hj
  have hc : (nI k).toNatClampNeg = k := nI_clamp (by omega)
  refine r_iald hI ha ht (nI_in hk hn) ?_
  rw [hc]
  exact h
theorem r_baldn {t n a k : Nat} {j : Int32} {f : Nat → Int32} (hI : hm_code M pc = some .baload) (ha : hp.1 a = some (.inl (t, n, .inl f))) (ht : t = 2) (hj : j = nI k) (hk : k < n) (hn : n < 2 ^ 31) (h : hm_T d M (pc + 1) ls (.int (f k) :: r) hp Q) : hm_T d M pc ls (.int j :: .ref a :: r) hp Q := by
  subst hj
  have hc : (nI k).toNatClampNeg = k := nI_clamp (by omega)
  refine r_bald hI ha ht (nI_in hk hn) ?_
  rw [hc]
  exact h
theorem r_iastn {t n a k : Nat} {j x : Int32} {f : Nat → Int32} (hI : hm_code M pc = some .iastore) (ha : hp.1 a = some (.inl (t, n, .inl f))) (ht : t = 0) (hj : j = nI k) (hk : k < n) (hn : n < 2 ^ 31) (he : hm_set hp a (.inl (t, n, .inl (upd f k x))) = hp2) (h : hm_T d M (pc + 1) ls r hp2 Q) : hm_T d M pc ls (.int x :: .int j :: .ref a :: r) hp Q := by
  subst hj
  have hc : (nI k).toNatClampNeg = k := nI_clamp (by omega)
  exact r_iast hI ha ht (nI_in hk hn) (by rw [hc]; exact he) h
theorem r_bastn {t n a k : Nat} {j x : Int32} {f : Nat → Int32} (hI : hm_code M pc = some .bastore) (ha : hp.1 a = some (.inl (t, n, .inl f))) (ht : t = 2 ∧ (x = 0 ∨ x = 1)) (hj : j = nI k) (hk : k < n) (hn : n < 2 ^ 31) (he : hm_set hp a (.inl (t, n, .inl (upd f k x))) = hp2) (h : hm_T d M (pc + 1) ls r hp2 Q) : hm_T d M pc ls (.int x :: .int j :: .ref a :: r) hp Q := by
  subst hj
  have hc : (nI k).toNatClampNeg = k := nI_clamp (by omega)
  exact r_bast hI ha ht (nI_in hk hn) (by rw [hc]; exact he) h
theorem r_aaldn {t n a k : Nat} {j : Int32} {f : Nat → Option Nat} {v : Value} (hI : hm_code M pc = some .aaload) (ha : hp.1 a = some (.inl (t, n, .inr (.inr (.inr (.inr f)))))) (ht : t = 3 ∨ t = 4 ∨ t = 5 ∨ t = 6) (hj : j = nI k) (hk : k < n) (hn : n < 2 ^ 31) (hv : va_rf (f k) = v) (h : hm_T d M (pc + 1) ls (v :: r) hp Q) : hm_T d M pc ls (.int j :: .ref a :: r) hp Q := by
  subst hj
  subst hv
  have hc : (nI k).toNatClampNeg = k := nI_clamp (by omega)
  refine r_aald hI ha ht (nI_in hk hn) ?_
  rw [hc]
  exact h
theorem r_laldn {t n a k : Nat} {j : Int32} {f : Nat → Int64} (hI : hm_code M pc = some .laload) (ha : hp.1 a = some (.inl (t, n, .inr (.inl f)))) (ht : t = 1) (hj : j = nI k) (hk : k < n) (hn : n < 2 ^ 31) (h : hm_T d M (pc + 1) ls (.long (f k) :: r) hp Q) : hm_T d M pc ls (.int j :: .ref a :: r) hp Q := by
  subst hj
  have hc : (nI k).toNatClampNeg = k := nI_clamp (by omega)
  refine r_lald hI ha ht (nI_in hk hn) ?_
  rw [hc]
  exact h
theorem r_lastn {t n a k : Nat} {j : Int32} {x : Int64} {f : Nat → Int64} (hI : hm_code M pc = some .lastore) (ha : hp.1 a = some (.inl (t, n, .inr (.inl f)))) (ht : t = 1) (hj : j = nI k) (hk : k < n) (hn : n < 2 ^ 31) (he : hm_set hp a (.inl (t, n, .inr (.inl (vp_updL f k x)))) = hp2) (h : hm_T d M (pc + 1) ls r hp2 Q) : hm_T d M pc ls (.long x :: .int j :: .ref a :: r) hp Q := by
  subst hj
  have hc : (nI k).toNatClampNeg = k := nI_clamp (by omega)
  exact r_last hI ha ht (nI_in hk hn) (by rw [hc]; exact he) h
/-- a call with its answer's place on the stack made plain -/
theorem r_callN {as rest l0 : List Value} {cc : Nat} {i : Instr} (hq : hm_mtab[M]? = some q) (hI : hm_code M pc = some i) (hr : ∀ ret, hm_ret i ret st = none) (hs : hm_step q i pc ls st hp = none) (hc : hm_cal q i st hp = some (cc, as, rest)) (he : hm_ent cc as = some l0) (h : hm_T d cc 0 l0 [] hp (fun v hp2 => ∀ st2, v.toList ++ rest = st2 → hm_T (d + 1) M (pc + 3) ls st2 hp2 Q)) : hm_T (d + 1) M pc ls st hp Q :=
  hm_T.call hq hI hr hs hc he (h.mono fun v hp2 h2 => h2 _ rfl)
end HI
end
section
/-- behind a call -/
def hm_kont (d M pc : Nat) (ls rest : List Value) (Q : Option Value → hm_H → Prop) (v : Option Value) (hp2 : hm_H) : Prop := match v with
  | some x => hm_T (d + 1) M (pc + 3) ls (x :: rest) hp2 Q
  | none => hm_T (d + 1) M (pc + 3) ls rest hp2 Q
theorem hm_kont_ok {d M pc cc : Nat} {ls rest l0 : List Value} {hp : hm_H} {Q : Option Value → hm_H → Prop} (h : hm_T d cc 0 l0 [] hp (hm_kont d M pc ls rest Q)) : hm_T d cc 0 l0 [] hp (fun v hp2 => hm_T (d + 1) M (pc + 3) ls (v.toList ++ rest) hp2 Q) := h.mono fun v hp2 h2 => by cases v <;> exact h2
theorem r_iincn {d M pc k : Nat} {ls ls2 st : List Value} {hp : hm_H} {Q : Option Value → hm_H → Prop} {n : Int} {x v : Int32} (hI : hm_code M pc = some (.iinc k n)) (hk : ls[k]? = some (.int x)) (hv : x + Int32.ofInt n = v) (hl : hm_st1 ls k (.int v) = some ls2) (h : hm_T d M (pc + 3) ls2 st hp Q) : hm_T d M pc ls st hp Q := r_iinc hI hk (by rw [hv]; exact hl) h
theorem nI_inc (c : Nat) : nI c + Int32.ofInt 1 = nI (c + 1) := by
  rw [show Int32.ofInt 1 = 1 by decide +kernel]
  exact (nI_succ c).symm
theorem hm_s8_none {cid ix cc nst w pc : Nat} {ls st : List Value} {hp : hm_H} (hf : hm_ctab.lookup (cid, ix) = some (cc, nst, w)) (hne : cc ≠ 1) : hm_s8 cid (.invokespecial ix) pc ls st hp = none := by
  unfold hm_s8
  split
  next ix2 a r he =>
    cases he
    rw [hf]
    exact if_neg (fun z => hne z.1.1)
  next => rfl
section HCALL
variable {d M pc : Nat} {ls rest : List Value} {hp : hm_H} {Q : Option Value → hm_H → Prop} {q rq : hm_Q} {ix cc nst w : Nat}
theorem r_calls0 (hq : hm_mtab[M]? = some q) (hI : hm_code M pc = some (.invokestatic ix)) (hf : hm_ctab.lookup (q.2.2.2.2.1, ix) = some (cc, nst, w)) (hm : hm_mtab[cc]? = some rq) (hok : cc < 174 ∧ cc ≠ 1 ∧ cc ≠ 72) (hk : rq.2.2.2.2.2.2 = 0) (hna : rq.2.2.2.2.2.1 = 0) (hml : (hm_al []).length ≤ rq.2.2.1) (hrl : rest.length ≤ 4) (h : hm_T d cc 0 (hm_al [] ++ List.replicate (rq.2.2.1 - (hm_al []).length) (.retAddr 0)) [] hp (hm_kont d M pc ls rest Q)) : hm_T (d + 1) M pc ls (rest) hp Q := by
  refine hm_T.call (as := []) (rest := rest) (cc := cc) hq hI (fun _ => rfl) (by unfold hm_step hm_s1 hm_s2 hm_s3 hm_s4 hm_s5 hm_s6 hm_s7; unfold hm_s8; rfl) ?_ ?_ (hm_kont_ok h)
  · unfold hm_cal hm_tgt
    dsimp only
    rw [hf]
    dsimp only [Option.map_some]
    rw [hm]
    dsimp only
    rw [hna, hk]
    exact if_pos ⟨hok, ⟨rfl, by simp⟩, hrl, rfl⟩
  · unfold hm_ent
    rw [hm]
    exact if_pos hml
theorem r_calls1 {v0 : Value} (hq : hm_mtab[M]? = some q) (hI : hm_code M pc = some (.invokestatic ix)) (hf : hm_ctab.lookup (q.2.2.2.2.1, ix) = some (cc, nst, w)) (hm : hm_mtab[cc]? = some rq) (hok : cc < 174 ∧ cc ≠ 1 ∧ cc ≠ 72) (hk : rq.2.2.2.2.2.2 = 0) (hna : rq.2.2.2.2.2.1 = 1) (hml : (hm_al [v0]).length ≤ rq.2.2.1) (hrl : rest.length ≤ 4) (h : hm_T d cc 0 (hm_al [v0] ++ List.replicate (rq.2.2.1 - (hm_al [v0]).length) (.retAddr 0)) [] hp (hm_kont d M pc ls rest Q)) : hm_T (d + 1) M pc ls (v0 :: rest) hp Q := by
  refine hm_T.call (as := [v0]) (rest := rest) (cc := cc) hq hI (fun _ => rfl) (by unfold hm_step hm_s1 hm_s2 hm_s3 hm_s4 hm_s5 hm_s6 hm_s7; unfold hm_s8; rfl) ?_ ?_ (hm_kont_ok h)
  · unfold hm_cal hm_tgt
    dsimp only
    rw [hf]
    dsimp only [Option.map_some]
    rw [hm]
    dsimp only
    rw [hna, hk]
    exact if_pos ⟨hok, ⟨rfl, by simp⟩, hrl, rfl⟩
  · unfold hm_ent
    rw [hm]
    exact if_pos hml
theorem r_calls2 {v0 v1 : Value} (hq : hm_mtab[M]? = some q) (hI : hm_code M pc = some (.invokestatic ix)) (hf : hm_ctab.lookup (q.2.2.2.2.1, ix) = some (cc, nst, w)) (hm : hm_mtab[cc]? = some rq) (hok : cc < 174 ∧ cc ≠ 1 ∧ cc ≠ 72) (hk : rq.2.2.2.2.2.2 = 0) (hna : rq.2.2.2.2.2.1 = 2) (hml : (hm_al [v0, v1]).length ≤ rq.2.2.1) (hrl : rest.length ≤ 4) (h : hm_T d cc 0 (hm_al [v0, v1] ++ List.replicate (rq.2.2.1 - (hm_al [v0, v1]).length) (.retAddr 0)) [] hp (hm_kont d M pc ls rest Q)) : hm_T (d + 1) M pc ls (v1 :: v0 :: rest) hp Q := by
  refine hm_T.call (as := [v0, v1]) (rest := rest) (cc := cc) hq hI (fun _ => rfl) (by unfold hm_step hm_s1 hm_s2 hm_s3 hm_s4 hm_s5 hm_s6 hm_s7; unfold hm_s8; rfl) ?_ ?_ (hm_kont_ok h)
  · unfold hm_cal hm_tgt
    dsimp only
    rw [hf]
    dsimp only [Option.map_some]
    rw [hm]
    dsimp only
    rw [hna, hk]
    exact if_pos ⟨hok, ⟨rfl, by simp⟩, hrl, rfl⟩
  · unfold hm_ent
    rw [hm]
    exact if_pos hml
theorem r_calls3 {v0 v1 v2 : Value} (hq : hm_mtab[M]? = some q) (hI : hm_code M pc = some (.invokestatic ix)) (hf : hm_ctab.lookup (q.2.2.2.2.1, ix) = some (cc, nst, w)) (hm : hm_mtab[cc]? = some rq) (hok : cc < 174 ∧ cc ≠ 1 ∧ cc ≠ 72) (hk : rq.2.2.2.2.2.2 = 0) (hna : rq.2.2.2.2.2.1 = 3) (hml : (hm_al [v0, v1, v2]).length ≤ rq.2.2.1) (hrl : rest.length ≤ 4) (h : hm_T d cc 0 (hm_al [v0, v1, v2] ++ List.replicate (rq.2.2.1 - (hm_al [v0, v1, v2]).length) (.retAddr 0)) [] hp (hm_kont d M pc ls rest Q)) : hm_T (d + 1) M pc ls (v2 :: v1 :: v0 :: rest) hp Q := by
  refine hm_T.call (as := [v0, v1, v2]) (rest := rest) (cc := cc) hq hI (fun _ => rfl) (by unfold hm_step hm_s1 hm_s2 hm_s3 hm_s4 hm_s5 hm_s6 hm_s7; unfold hm_s8; rfl) ?_ ?_ (hm_kont_ok h)
  · unfold hm_cal hm_tgt
    dsimp only
    rw [hf]
    dsimp only [Option.map_some]
    rw [hm]
    dsimp only
    rw [hna, hk]
    exact if_pos ⟨hok, ⟨rfl, by simp⟩, hrl, rfl⟩
  · unfold hm_ent
    rw [hm]
    exact if_pos hml
theorem r_calls4 {v0 v1 v2 v3 : Value} (hq : hm_mtab[M]? = some q) (hI : hm_code M pc = some (.invokestatic ix)) (hf : hm_ctab.lookup (q.2.2.2.2.1, ix) = some (cc, nst, w)) (hm : hm_mtab[cc]? = some rq) (hok : cc < 174 ∧ cc ≠ 1 ∧ cc ≠ 72) (hk : rq.2.2.2.2.2.2 = 0) (hna : rq.2.2.2.2.2.1 = 4) (hml : (hm_al [v0, v1, v2, v3]).length ≤ rq.2.2.1) (hrl : rest.length ≤ 4) (h : hm_T d cc 0 (hm_al [v0, v1, v2, v3] ++ List.replicate (rq.2.2.1 - (hm_al [v0, v1, v2, v3]).length) (.retAddr 0)) [] hp (hm_kont d M pc ls rest Q)) : hm_T (d + 1) M pc ls (v3 :: v2 :: v1 :: v0 :: rest) hp Q := by
  refine hm_T.call (as := [v0, v1, v2, v3]) (rest := rest) (cc := cc) hq hI (fun _ => rfl) (by unfold hm_step hm_s1 hm_s2 hm_s3 hm_s4 hm_s5 hm_s6 hm_s7; unfold hm_s8; rfl) ?_ ?_ (hm_kont_ok h)
  · unfold hm_cal hm_tgt
    dsimp only
    rw [hf]
    dsimp only [Option.map_some]
    rw [hm]
    dsimp only
    rw [hna, hk]
    exact if_pos ⟨hok, ⟨rfl, by simp⟩, hrl, rfl⟩
  · unfold hm_ent
    rw [hm]
    exact if_pos hml
theorem r_calls5 {v0 v1 v2 v3 v4 : Value} (hq : hm_mtab[M]? = some q) (hI : hm_code M pc = some (.invokestatic ix)) (hf : hm_ctab.lookup (q.2.2.2.2.1, ix) = some (cc, nst, w)) (hm : hm_mtab[cc]? = some rq) (hok : cc < 174 ∧ cc ≠ 1 ∧ cc ≠ 72) (hk : rq.2.2.2.2.2.2 = 0) (hna : rq.2.2.2.2.2.1 = 5) (hml : (hm_al [v0, v1, v2, v3, v4]).length ≤ rq.2.2.1) (hrl : rest.length ≤ 4) (h : hm_T d cc 0 (hm_al [v0, v1, v2, v3, v4] ++ List.replicate (rq.2.2.1 - (hm_al [v0, v1, v2, v3, v4]).length) (.retAddr 0)) [] hp (hm_kont d M pc ls rest Q)) : hm_T (d + 1) M pc ls (v4 :: v3 :: v2 :: v1 :: v0 :: rest) hp Q := by
  refine hm_T.call (as := [v0, v1, v2, v3, v4]) (rest := rest) (cc := cc) hq hI (fun _ => rfl) (by unfold hm_step hm_s1 hm_s2 hm_s3 hm_s4 hm_s5 hm_s6 hm_s7; unfold hm_s8; rfl) ?_ ?_ (hm_kont_ok h)
  · unfold hm_cal hm_tgt
    dsimp only
    rw [hf]
    dsimp only [Option.map_some]
    rw [hm]
    dsimp only
    rw [hna, hk]
    exact if_pos ⟨hok, ⟨rfl, by simp⟩, hrl, rfl⟩
  · unfold hm_ent
    rw [hm]
    exact if_pos hml
theorem r_calls6 {v0 v1 v2 v3 v4 v5 : Value} (hq : hm_mtab[M]? = some q) (hI : hm_code M pc = some (.invokestatic ix)) (hf : hm_ctab.lookup (q.2.2.2.2.1, ix) = some (cc, nst, w)) (hm : hm_mtab[cc]? = some rq) (hok : cc < 174 ∧ cc ≠ 1 ∧ cc ≠ 72) (hk : rq.2.2.2.2.2.2 = 0) (hna : rq.2.2.2.2.2.1 = 6) (hml : (hm_al [v0, v1, v2, v3, v4, v5]).length ≤ rq.2.2.1) (hrl : rest.length ≤ 4) (h : hm_T d cc 0 (hm_al [v0, v1, v2, v3, v4, v5] ++ List.replicate (rq.2.2.1 - (hm_al [v0, v1, v2, v3, v4, v5]).length) (.retAddr 0)) [] hp (hm_kont d M pc ls rest Q)) : hm_T (d + 1) M pc ls (v5 :: v4 :: v3 :: v2 :: v1 :: v0 :: rest) hp Q := by
  refine hm_T.call (as := [v0, v1, v2, v3, v4, v5]) (rest := rest) (cc := cc) hq hI (fun _ => rfl) (by unfold hm_step hm_s1 hm_s2 hm_s3 hm_s4 hm_s5 hm_s6 hm_s7; unfold hm_s8; rfl) ?_ ?_ (hm_kont_ok h)
  · unfold hm_cal hm_tgt
    dsimp only
    rw [hf]
    dsimp only [Option.map_some]
    rw [hm]
    dsimp only
    rw [hna, hk]
    exact if_pos ⟨hok, ⟨rfl, by simp⟩, hrl, rfl⟩
  · unfold hm_ent
    rw [hm]
    exact if_pos hml
theorem r_callv1 {a : Nat} (hq : hm_mtab[M]? = some q) (hI : hm_code M pc = some (.invokevirtual ix)) (hf : hm_ctab.lookup (q.2.2.2.2.1, ix) = some (cc, nst, w)) (hm : hm_mtab[cc]? = some rq) (hok : cc < 174 ∧ cc ≠ 1 ∧ cc ≠ 72) (hk : rq.2.2.2.2.2.2 = 1) (hna : rq.2.2.2.2.2.1 = 1) (hml : (hm_al [.ref a]).length ≤ rq.2.2.1) (hrl : rest.length ≤ 4) {cj : Nat} {fs : List Value} (ha : hp.1 a = some (.inr (cj, fs))) (hcj : cj = rq.2.2.2.2.1) (h : hm_T d cc 0 (hm_al [.ref a] ++ List.replicate (rq.2.2.1 - (hm_al [.ref a]).length) (.retAddr 0)) [] hp (hm_kont d M pc ls rest Q)) : hm_T (d + 1) M pc ls (.ref a :: rest) hp Q := by
  refine hm_T.call (as := [.ref a]) (rest := rest) (cc := cc) hq hI (fun _ => rfl) (by unfold hm_step hm_s1 hm_s2 hm_s3 hm_s4 hm_s5 hm_s6 hm_s7; unfold hm_s8; rfl) ?_ ?_ (hm_kont_ok h)
  · unfold hm_cal hm_tgt
    dsimp only
    rw [hf]
    dsimp only [Option.map_some]
    rw [hm]
    dsimp only
    rw [hna, hk]
    exact if_pos ⟨hok, ⟨rfl, by simp⟩, hrl, by show (match hp.1 a with | some (.inr (cj, _)) => decide (cj = rq.2.2.2.2.1) | _ => false) = true; rw [ha]; exact decide_eq_true hcj⟩
  · unfold hm_ent
    rw [hm]
    exact if_pos hml
theorem r_callv2 {v1 : Value} {a : Nat} (hq : hm_mtab[M]? = some q) (hI : hm_code M pc = some (.invokevirtual ix)) (hf : hm_ctab.lookup (q.2.2.2.2.1, ix) = some (cc, nst, w)) (hm : hm_mtab[cc]? = some rq) (hok : cc < 174 ∧ cc ≠ 1 ∧ cc ≠ 72) (hk : rq.2.2.2.2.2.2 = 1) (hna : rq.2.2.2.2.2.1 = 2) (hml : (hm_al [.ref a, v1]).length ≤ rq.2.2.1) (hrl : rest.length ≤ 4) {cj : Nat} {fs : List Value} (ha : hp.1 a = some (.inr (cj, fs))) (hcj : cj = rq.2.2.2.2.1) (h : hm_T d cc 0 (hm_al [.ref a, v1] ++ List.replicate (rq.2.2.1 - (hm_al [.ref a, v1]).length) (.retAddr 0)) [] hp (hm_kont d M pc ls rest Q)) : hm_T (d + 1) M pc ls (v1 :: .ref a :: rest) hp Q := by
  refine hm_T.call (as := [.ref a, v1]) (rest := rest) (cc := cc) hq hI (fun _ => rfl) (by unfold hm_step hm_s1 hm_s2 hm_s3 hm_s4 hm_s5 hm_s6 hm_s7; unfold hm_s8; rfl) ?_ ?_ (hm_kont_ok h)
  · unfold hm_cal hm_tgt
    dsimp only
    rw [hf]
    dsimp only [Option.map_some]
    rw [hm]
    dsimp only
    rw [hna, hk]
    exact if_pos ⟨hok, ⟨rfl, by simp⟩, hrl, by show (match hp.1 a with | some (.inr (cj, _)) => decide (cj = rq.2.2.2.2.1) | _ => false) = true; rw [ha]; exact decide_eq_true hcj⟩
  · unfold hm_ent
    rw [hm]
    exact if_pos hml
theorem r_callv3 {v1 v2 : Value} {a : Nat} (hq : hm_mtab[M]? = some q) (hI : hm_code M pc = some (.invokevirtual ix)) (hf : hm_ctab.lookup (q.2.2.2.2.1, ix) = some (cc, nst, w)) (hm : hm_mtab[cc]? = some rq) (hok : cc < 174 ∧ cc ≠ 1 ∧ cc ≠ 72) (hk : rq.2.2.2.2.2.2 = 1) (hna : rq.2.2.2.2.2.1 = 3) (hml : (hm_al [.ref a, v1, v2]).length ≤ rq.2.2.1) (hrl : rest.length ≤ 4) {cj : Nat} {fs : List Value} (ha : hp.1 a = some (.inr (cj, fs))) (hcj : cj = rq.2.2.2.2.1) (h : hm_T d cc 0 (hm_al [.ref a, v1, v2] ++ List.replicate (rq.2.2.1 - (hm_al [.ref a, v1, v2]).length) (.retAddr 0)) [] hp (hm_kont d M pc ls rest Q)) : hm_T (d + 1) M pc ls (v2 :: v1 :: .ref a :: rest) hp Q := by
  refine hm_T.call (as := [.ref a, v1, v2]) (rest := rest) (cc := cc) hq hI (fun _ => rfl) (by unfold hm_step hm_s1 hm_s2 hm_s3 hm_s4 hm_s5 hm_s6 hm_s7; unfold hm_s8; rfl) ?_ ?_ (hm_kont_ok h)
  · unfold hm_cal hm_tgt
    dsimp only
    rw [hf]
    dsimp only [Option.map_some]
    rw [hm]
    dsimp only
    rw [hna, hk]
    exact if_pos ⟨hok, ⟨rfl, by simp⟩, hrl, by show (match hp.1 a with | some (.inr (cj, _)) => decide (cj = rq.2.2.2.2.1) | _ => false) = true; rw [ha]; exact decide_eq_true hcj⟩
  · unfold hm_ent
    rw [hm]
    exact if_pos hml
theorem r_callv4 {v1 v2 v3 : Value} {a : Nat} (hq : hm_mtab[M]? = some q) (hI : hm_code M pc = some (.invokevirtual ix)) (hf : hm_ctab.lookup (q.2.2.2.2.1, ix) = some (cc, nst, w)) (hm : hm_mtab[cc]? = some rq) (hok : cc < 174 ∧ cc ≠ 1 ∧ cc ≠ 72) (hk : rq.2.2.2.2.2.2 = 1) (hna : rq.2.2.2.2.2.1 = 4) (hml : (hm_al [.ref a, v1, v2, v3]).length ≤ rq.2.2.1) (hrl : rest.length ≤ 4) {cj : Nat} {fs : List Value} (ha : hp.1 a = some (.inr (cj, fs))) (hcj : cj = rq.2.2.2.2.1) (h : hm_T d cc 0 (hm_al [.ref a, v1, v2, v3] ++ List.replicate (rq.2.2.1 - (hm_al [.ref a, v1, v2, v3]).length) (.retAddr 0)) [] hp (hm_kont d M pc ls rest Q)) : hm_T (d + 1) M pc ls (v3 :: v2 :: v1 :: .ref a :: rest) hp Q := by
  refine hm_T.call (as := [.ref a, v1, v2, v3]) (rest := rest) (cc := cc) hq hI (fun _ => rfl) (by unfold hm_step hm_s1 hm_s2 hm_s3 hm_s4 hm_s5 hm_s6 hm_s7; unfold hm_s8; rfl) ?_ ?_ (hm_kont_ok h)
  · unfold hm_cal hm_tgt
    dsimp only
    rw [hf]
    dsimp only [Option.map_some]
    rw [hm]
    dsimp only
    rw [hna, hk]
    exact if_pos ⟨hok, ⟨rfl, by simp⟩, hrl, by show (match hp.1 a with | some (.inr (cj, _)) => decide (cj = rq.2.2.2.2.1) | _ => false) = true; rw [ha]; exact decide_eq_true hcj⟩
  · unfold hm_ent
    rw [hm]
    exact if_pos hml
theorem r_callv5 {v1 v2 v3 v4 : Value} {a : Nat} (hq : hm_mtab[M]? = some q) (hI : hm_code M pc = some (.invokevirtual ix)) (hf : hm_ctab.lookup (q.2.2.2.2.1, ix) = some (cc, nst, w)) (hm : hm_mtab[cc]? = some rq) (hok : cc < 174 ∧ cc ≠ 1 ∧ cc ≠ 72) (hk : rq.2.2.2.2.2.2 = 1) (hna : rq.2.2.2.2.2.1 = 5) (hml : (hm_al [.ref a, v1, v2, v3, v4]).length ≤ rq.2.2.1) (hrl : rest.length ≤ 4) {cj : Nat} {fs : List Value} (ha : hp.1 a = some (.inr (cj, fs))) (hcj : cj = rq.2.2.2.2.1) (h : hm_T d cc 0 (hm_al [.ref a, v1, v2, v3, v4] ++ List.replicate (rq.2.2.1 - (hm_al [.ref a, v1, v2, v3, v4]).length) (.retAddr 0)) [] hp (hm_kont d M pc ls rest Q)) : hm_T (d + 1) M pc ls (v4 :: v3 :: v2 :: v1 :: .ref a :: rest) hp Q := by
  refine hm_T.call (as := [.ref a, v1, v2, v3, v4]) (rest := rest) (cc := cc) hq hI (fun _ => rfl) (by unfold hm_step hm_s1 hm_s2 hm_s3 hm_s4 hm_s5 hm_s6 hm_s7; unfold hm_s8; rfl) ?_ ?_ (hm_kont_ok h)
  · unfold hm_cal hm_tgt
    dsimp only
    rw [hf]
    dsimp only [Option.map_some]
    rw [hm]
    dsimp only
    rw [hna, hk]
    exact if_pos ⟨hok, ⟨rfl, by simp⟩, hrl, by show (match hp.1 a with | some (.inr (cj, _)) => decide (cj = rq.2.2.2.2.1) | _ => false) = true; rw [ha]; exact decide_eq_true hcj⟩
  · unfold hm_ent
    rw [hm]
    exact if_pos hml
theorem r_callv6 {v1 v2 v3 v4 v5 : Value} {a : Nat} (hq : hm_mtab[M]? = some q) (hI : hm_code M pc = some (.invokevirtual ix)) (hf : hm_ctab.lookup (q.2.2.2.2.1, ix) = some (cc, nst, w)) (hm : hm_mtab[cc]? = some rq) (hok : cc < 174 ∧ cc ≠ 1 ∧ cc ≠ 72) (hk : rq.2.2.2.2.2.2 = 1) (hna : rq.2.2.2.2.2.1 = 6) (hml : (hm_al [.ref a, v1, v2, v3, v4, v5]).length ≤ rq.2.2.1) (hrl : rest.length ≤ 4) {cj : Nat} {fs : List Value} (ha : hp.1 a = some (.inr (cj, fs))) (hcj : cj = rq.2.2.2.2.1) (h : hm_T d cc 0 (hm_al [.ref a, v1, v2, v3, v4, v5] ++ List.replicate (rq.2.2.1 - (hm_al [.ref a, v1, v2, v3, v4, v5]).length) (.retAddr 0)) [] hp (hm_kont d M pc ls rest Q)) : hm_T (d + 1) M pc ls (v5 :: v4 :: v3 :: v2 :: v1 :: .ref a :: rest) hp Q := by
  refine hm_T.call (as := [.ref a, v1, v2, v3, v4, v5]) (rest := rest) (cc := cc) hq hI (fun _ => rfl) (by unfold hm_step hm_s1 hm_s2 hm_s3 hm_s4 hm_s5 hm_s6 hm_s7; unfold hm_s8; rfl) ?_ ?_ (hm_kont_ok h)
  · unfold hm_cal hm_tgt
    dsimp only
    rw [hf]
    dsimp only [Option.map_some]
    rw [hm]
    dsimp only
    rw [hna, hk]
    exact if_pos ⟨hok, ⟨rfl, by simp⟩, hrl, by show (match hp.1 a with | some (.inr (cj, _)) => decide (cj = rq.2.2.2.2.1) | _ => false) = true; rw [ha]; exact decide_eq_true hcj⟩
  · unfold hm_ent
    rw [hm]
    exact if_pos hml
theorem r_calli1 {a : Nat} (hq : hm_mtab[M]? = some q) (hI : hm_code M pc = some (.invokespecial ix)) (hf : hm_ctab.lookup (q.2.2.2.2.1, ix) = some (cc, nst, w)) (hm : hm_mtab[cc]? = some rq) (hok : cc < 174 ∧ cc ≠ 1 ∧ cc ≠ 72) (hk : rq.2.2.2.2.2.2 = 2) (hna : rq.2.2.2.2.2.1 = 1) (hml : (hm_al [.ref a]).length ≤ rq.2.2.1) (hrl : rest.length ≤ 4) (h : hm_T d cc 0 (hm_al [.ref a] ++ List.replicate (rq.2.2.1 - (hm_al [.ref a]).length) (.retAddr 0)) [] hp (hm_kont d M pc ls rest Q)) : hm_T (d + 1) M pc ls (.ref a :: rest) hp Q := by
  refine hm_T.call (as := [.ref a]) (rest := rest) (cc := cc) hq hI (fun _ => rfl) (by unfold hm_step hm_s1 hm_s2 hm_s3 hm_s4 hm_s5 hm_s6 hm_s7; rw [hm_s8_none hf hok.2.1]; rfl) ?_ ?_ (hm_kont_ok h)
  · unfold hm_cal hm_tgt
    dsimp only
    rw [hf]
    dsimp only [Option.map_some]
    rw [hm]
    dsimp only
    rw [hna, hk]
    exact if_pos ⟨hok, ⟨rfl, by simp⟩, hrl, rfl⟩
  · unfold hm_ent
    rw [hm]
    exact if_pos hml
theorem r_calli2 {v1 : Value} {a : Nat} (hq : hm_mtab[M]? = some q) (hI : hm_code M pc = some (.invokespecial ix)) (hf : hm_ctab.lookup (q.2.2.2.2.1, ix) = some (cc, nst, w)) (hm : hm_mtab[cc]? = some rq) (hok : cc < 174 ∧ cc ≠ 1 ∧ cc ≠ 72) (hk : rq.2.2.2.2.2.2 = 2) (hna : rq.2.2.2.2.2.1 = 2) (hml : (hm_al [.ref a, v1]).length ≤ rq.2.2.1) (hrl : rest.length ≤ 4) (h : hm_T d cc 0 (hm_al [.ref a, v1] ++ List.replicate (rq.2.2.1 - (hm_al [.ref a, v1]).length) (.retAddr 0)) [] hp (hm_kont d M pc ls rest Q)) : hm_T (d + 1) M pc ls (v1 :: .ref a :: rest) hp Q := by
  refine hm_T.call (as := [.ref a, v1]) (rest := rest) (cc := cc) hq hI (fun _ => rfl) (by unfold hm_step hm_s1 hm_s2 hm_s3 hm_s4 hm_s5 hm_s6 hm_s7; rw [hm_s8_none hf hok.2.1]; rfl) ?_ ?_ (hm_kont_ok h)
  · unfold hm_cal hm_tgt
    dsimp only
    rw [hf]
    dsimp only [Option.map_some]
    rw [hm]
    dsimp only
    rw [hna, hk]
    exact if_pos ⟨hok, ⟨rfl, by simp⟩, hrl, rfl⟩
  · unfold hm_ent
    rw [hm]
    exact if_pos hml
theorem r_calli3 {v1 v2 : Value} {a : Nat} (hq : hm_mtab[M]? = some q) (hI : hm_code M pc = some (.invokespecial ix)) (hf : hm_ctab.lookup (q.2.2.2.2.1, ix) = some (cc, nst, w)) (hm : hm_mtab[cc]? = some rq) (hok : cc < 174 ∧ cc ≠ 1 ∧ cc ≠ 72) (hk : rq.2.2.2.2.2.2 = 2) (hna : rq.2.2.2.2.2.1 = 3) (hml : (hm_al [.ref a, v1, v2]).length ≤ rq.2.2.1) (hrl : rest.length ≤ 4) (h : hm_T d cc 0 (hm_al [.ref a, v1, v2] ++ List.replicate (rq.2.2.1 - (hm_al [.ref a, v1, v2]).length) (.retAddr 0)) [] hp (hm_kont d M pc ls rest Q)) : hm_T (d + 1) M pc ls (v2 :: v1 :: .ref a :: rest) hp Q := by
  refine hm_T.call (as := [.ref a, v1, v2]) (rest := rest) (cc := cc) hq hI (fun _ => rfl) (by unfold hm_step hm_s1 hm_s2 hm_s3 hm_s4 hm_s5 hm_s6 hm_s7; rw [hm_s8_none hf hok.2.1]; rfl) ?_ ?_ (hm_kont_ok h)
  · unfold hm_cal hm_tgt
    dsimp only
    rw [hf]
    dsimp only [Option.map_some]
    rw [hm]
    dsimp only
    rw [hna, hk]
    exact if_pos ⟨hok, ⟨rfl, by simp⟩, hrl, rfl⟩
  · unfold hm_ent
    rw [hm]
    exact if_pos hml
theorem r_calli4 {v1 v2 v3 : Value} {a : Nat} (hq : hm_mtab[M]? = some q) (hI : hm_code M pc = some (.invokespecial ix)) (hf : hm_ctab.lookup (q.2.2.2.2.1, ix) = some (cc, nst, w)) (hm : hm_mtab[cc]? = some rq) (hok : cc < 174 ∧ cc ≠ 1 ∧ cc ≠ 72) (hk : rq.2.2.2.2.2.2 = 2) (hna : rq.2.2.2.2.2.1 = 4) (hml : (hm_al [.ref a, v1, v2, v3]).length ≤ rq.2.2.1) (hrl : rest.length ≤ 4) (h : hm_T d cc 0 (hm_al [.ref a, v1, v2, v3] ++ List.replicate (rq.2.2.1 - (hm_al [.ref a, v1, v2, v3]).length) (.retAddr 0)) [] hp (hm_kont d M pc ls rest Q)) : hm_T (d + 1) M pc ls (v3 :: v2 :: v1 :: .ref a :: rest) hp Q := by
  refine hm_T.call (as := [.ref a, v1, v2, v3]) (rest := rest) (cc := cc) hq hI (fun _ => rfl) (by unfold hm_step hm_s1 hm_s2 hm_s3 hm_s4 hm_s5 hm_s6 hm_s7; rw [hm_s8_none hf hok.2.1]; rfl) ?_ ?_ (hm_kont_ok h)
  · unfold hm_cal hm_tgt
    dsimp only
    rw [hf]
    dsimp only [Option.map_some]
    rw [hm]
    dsimp only
    rw [hna, hk]
    exact if_pos ⟨hok, ⟨rfl, by simp⟩, hrl, rfl⟩
  · unfold hm_ent
    rw [hm]
    exact if_pos hml
theorem r_calli5 {v1 v2 v3 v4 : Value} {a : Nat} (hq : hm_mtab[M]? = some q) (hI : hm_code M pc = some (.invokespecial ix)) (hf : hm_ctab.lookup (q.2.2.2.2.1, ix) = some (cc, nst, w)) (hm : hm_mtab[cc]? = some rq) (hok : cc < 174 ∧ cc ≠ 1 ∧ cc ≠ 72) (hk : rq.2.2.2.2.2.2 = 2) (hna : rq.2.2.2.2.2.1 = 5) (hml : (hm_al [.ref a, v1, v2, v3, v4]).length ≤ rq.2.2.1) (hrl : rest.length ≤ 4) (h : hm_T d cc 0 (hm_al [.ref a, v1, v2, v3, v4] ++ List.replicate (rq.2.2.1 - (hm_al [.ref a, v1, v2, v3, v4]).length) (.retAddr 0)) [] hp (hm_kont d M pc ls rest Q)) : hm_T (d + 1) M pc ls (v4 :: v3 :: v2 :: v1 :: .ref a :: rest) hp Q := by
  refine hm_T.call (as := [.ref a, v1, v2, v3, v4]) (rest := rest) (cc := cc) hq hI (fun _ => rfl) (by unfold hm_step hm_s1 hm_s2 hm_s3 hm_s4 hm_s5 hm_s6 hm_s7; rw [hm_s8_none hf hok.2.1]; rfl) ?_ ?_ (hm_kont_ok h)
  · unfold hm_cal hm_tgt
    dsimp only
    rw [hf]
    dsimp only [Option.map_some]
    rw [hm]
    dsimp only
    rw [hna, hk]
    exact if_pos ⟨hok, ⟨rfl, by simp⟩, hrl, rfl⟩
  · unfold hm_ent
    rw [hm]
    exact if_pos hml
theorem r_calli6 {v1 v2 v3 v4 v5 : Value} {a : Nat} (hq : hm_mtab[M]? = some q) (hI : hm_code M pc = some (.invokespecial ix)) (hf : hm_ctab.lookup (q.2.2.2.2.1, ix) = some (cc, nst, w)) (hm : hm_mtab[cc]? = some rq) (hok : cc < 174 ∧ cc ≠ 1 ∧ cc ≠ 72) (hk : rq.2.2.2.2.2.2 = 2) (hna : rq.2.2.2.2.2.1 = 6) (hml : (hm_al [.ref a, v1, v2, v3, v4, v5]).length ≤ rq.2.2.1) (hrl : rest.length ≤ 4) (h : hm_T d cc 0 (hm_al [.ref a, v1, v2, v3, v4, v5] ++ List.replicate (rq.2.2.1 - (hm_al [.ref a, v1, v2, v3, v4, v5]).length) (.retAddr 0)) [] hp (hm_kont d M pc ls rest Q)) : hm_T (d + 1) M pc ls (v5 :: v4 :: v3 :: v2 :: v1 :: .ref a :: rest) hp Q := by
  refine hm_T.call (as := [.ref a, v1, v2, v3, v4, v5]) (rest := rest) (cc := cc) hq hI (fun _ => rfl) (by unfold hm_step hm_s1 hm_s2 hm_s3 hm_s4 hm_s5 hm_s6 hm_s7; rw [hm_s8_none hf hok.2.1]; rfl) ?_ ?_ (hm_kont_ok h)
  · unfold hm_cal hm_tgt
    dsimp only
    rw [hf]
    dsimp only [Option.map_some]
    rw [hm]
    dsimp only
    rw [hna, hk]
    exact if_pos ⟨hok, ⟨rfl, by simp⟩, hrl, rfl⟩
  · unfold hm_ent
    rw [hm]
    exact if_pos hml
end HCALL
end
section
theorem cb_m10 : (Int8.ofInt (-10)).toInt32 = (-10) := by decide +kernel
theorem cb_6 : (Int8.ofInt 6).toInt32 = nI 6 := by decide +kernel
theorem cb_7 : (Int8.ofInt 7).toInt32 = nI 7 := by decide +kernel
theorem cb_8 : (Int8.ofInt 8).toInt32 = nI 8 := by decide +kernel
theorem cb_9 : (Int8.ofInt 9).toInt32 = nI 9 := by decide +kernel
theorem cb_10 : (Int8.ofInt 10).toInt32 = nI 10 := by decide +kernel
theorem cb_11 : (Int8.ofInt 11).toInt32 = nI 11 := by decide +kernel
theorem cb_12 : (Int8.ofInt 12).toInt32 = nI 12 := by decide +kernel
theorem cb_16 : (Int8.ofInt 16).toInt32 = nI 16 := by decide +kernel
theorem cb_20 : (Int8.ofInt 20).toInt32 = nI 20 := by decide +kernel
theorem cb_31 : (Int8.ofInt 31).toInt32 = nI 31 := by decide +kernel
theorem cb_32 : (Int8.ofInt 32).toInt32 = nI 32 := by decide +kernel
theorem cb_33 : (Int8.ofInt 33).toInt32 = nI 33 := by decide +kernel
theorem cb_48 : (Int8.ofInt 48).toInt32 = nI 48 := by decide +kernel
theorem cb_57 : (Int8.ofInt 57).toInt32 = nI 57 := by decide +kernel
theorem cb_58 : (Int8.ofInt 58).toInt32 = nI 58 := by decide +kernel
theorem cb_59 : (Int8.ofInt 59).toInt32 = nI 59 := by decide +kernel
theorem cb_60 : (Int8.ofInt 60).toInt32 = nI 60 := by decide +kernel
theorem cb_62 : (Int8.ofInt 62).toInt32 = nI 62 := by decide +kernel
theorem cb_63 : (Int8.ofInt 63).toInt32 = nI 63 := by decide +kernel
theorem cb_64 : (Int8.ofInt 64).toInt32 = nI 64 := by decide +kernel
theorem cb_65 : (Int8.ofInt 65).toInt32 = nI 65 := by decide +kernel
theorem cb_70 : (Int8.ofInt 70).toInt32 = nI 70 := by decide +kernel
theorem cb_71 : (Int8.ofInt 71).toInt32 = nI 71 := by decide +kernel
theorem cb_80 : (Int8.ofInt 80).toInt32 = nI 80 := by decide +kernel
theorem cb_96 : (Int8.ofInt 96).toInt32 = nI 96 := by decide +kernel
theorem cb_98 : (Int8.ofInt 98).toInt32 = nI 98 := by decide +kernel
theorem cb_100 : (Int8.ofInt 100).toInt32 = nI 100 := by decide +kernel
theorem cb_102 : (Int8.ofInt 102).toInt32 = nI 102 := by decide +kernel
theorem cb_103 : (Int8.ofInt 103).toInt32 = nI 103 := by decide +kernel
theorem cb_115 : (Int8.ofInt 115).toInt32 = nI 115 := by decide +kernel
theorem ci_m1 : Int32.ofInt (-1) = (-1) := by decide +kernel
theorem ci_0 : Int32.ofInt 0 = nI 0 := by decide +kernel
theorem ci_1 : Int32.ofInt 1 = nI 1 := by decide +kernel
theorem ci_2 : Int32.ofInt 2 = nI 2 := by decide +kernel
theorem ci_3 : Int32.ofInt 3 = nI 3 := by decide +kernel
theorem ci_4 : Int32.ofInt 4 = nI 4 := by decide +kernel
theorem ci_5 : Int32.ofInt 5 = nI 5 := by decide +kernel
theorem cl_0 : Int64.ofNat ((0 : Fin 2) : Nat) = 0 := by decide +kernel
theorem cl_1 : Int64.ofNat ((1 : Fin 2) : Nat) = 1 := by decide +kernel
theorem cs_m1004 : (Int16.ofInt (-1004)).toInt32 = (-1004) := by decide +kernel
theorem cs_m1003 : (Int16.ofInt (-1003)).toInt32 = (-1003) := by decide +kernel
theorem cs_m1002 : (Int16.ofInt (-1002)).toInt32 = (-1002) := by decide +kernel
theorem cs_m1001 : (Int16.ofInt (-1001)).toInt32 = (-1001) := by decide +kernel
theorem cs_140 : (Int16.ofInt 140).toInt32 = nI 140 := by decide +kernel
theorem cs_210 : (Int16.ofInt 210).toInt32 = nI 210 := by decide +kernel
theorem cs_255 : (Int16.ofInt 255).toInt32 = nI 255 := by decide +kernel
theorem cs_399 : (Int16.ofInt 399).toInt32 = nI 399 := by decide +kernel
theorem cs_400 : (Int16.ofInt 400).toInt32 = nI 400 := by decide +kernel
theorem cs_924 : (Int16.ofInt 924).toInt32 = nI 924 := by decide +kernel
theorem cs_999 : (Int16.ofInt 999).toInt32 = nI 999 := by decide +kernel
theorem cs_1023 : (Int16.ofInt 1023).toInt32 = nI 1023 := by decide +kernel
theorem cs_7392 : (Int16.ofInt 7392).toInt32 = nI 7392 := by decide +kernel
end
section
theorem r_retz {d M pc : Nat} {ls : List Value} {hp : hm_H} {Q : Option Value → hm_H → Prop} {q : hm_Q} {x : Int32} (hq : hm_mtab[M]? = some q) (hI : hm_code M pc = some .ireturn) (hr : q.2.2.2.1 = some .boolean) (hx : x = 0 ∨ x = 1) (h : Q (some (.int x)) hp) : hm_T d M pc ls [.int x] hp Q := by
  refine hm_T.ret hq hI ?_ h
  rw [hr]
  exact if_pos hx
theorem hm_b01 {P : Prop} [Decidable P] : (if P then (1 : Int32) else 0) = 0 ∨ (if P then (1 : Int32) else 0) = 1 := by
  by_cases h : P
  · exact Or.inr (if_pos h)
  · exact Or.inl (if_neg h)
theorem hm_ifc {P P2 : Prop} [Decidable P] [Decidable P2] (h : P ↔ P2) : (if P then (1 : Int32) else 0) = (if P2 then 1 else 0) := by
  by_cases hp : P
  · rw [if_pos hp, if_pos (h.mp hp)]
  · rw [if_neg hp, if_neg (fun z => hp (h.mpr z))]
theorem nI_mul (a b : Nat) : nI a * nI b = nI (a * b) := (Int32.ofNat_mul a b).symm
theorem hm_rngE (x : Int32) {b : Int64} {hi : Int} (hb : b.toInt = hi) : ((0 : Int64).toInt ≤ x.toInt64.toInt ∧ x.toInt64.toInt ≤ b.toInt) ↔ (0 ≤ x.toInt ∧ x.toInt ≤ hi) := by
  rw [Int32.toInt_toInt64, hb]
  exact Iff.rfl
theorem nI_sub1 (c : Nat) (h : c < 2 ^ 31) : (nI c - nI 1).toInt = (c : Int) - 1 := by
  cases c with
  | zero => decide +kernel
  | succ c =>
    rw [show nI 1 = 1 from rfl, nI_pred, nI_toInt (by omega)]
    omega
theorem hm_caseE (c : Int32) {nc : Nat} (h : nc ≤ 16) : ((0 : Int64).toInt ≤ c.toInt64.toInt ∧ c.toInt64.toInt ≤ (nI nc - nI 1).toInt64.toInt) ↔ (0 ≤ c.toInt ∧ c.toInt < nc) := by
  rw [Int32.toInt_toInt64, Int32.toInt_toInt64, nI_sub1 nc (by omega)]
  constructor
  · rintro ⟨h1, h2⟩
    exact ⟨h1, by omega⟩
  · rintro ⟨h1, h2⟩
    exact ⟨h1, by omega⟩
/-- a number in its range is a small number -/
theorem hm_nIof {x : Int32} {N : Nat} (h0 : 0 ≤ x.toInt) (h1 : x.toInt < N) : ∃ k : Nat, k < N ∧ x = nI k ∧ x.toInt = k := by
  refine ⟨x.toInt.toNat, by omega, ?_, by omega⟩
  apply Int32.toInt_inj.mp
  have h2 : x.toInt < 2 ^ 31 := Int32.toInt_lt x
  rw [nI_toInt (by omega)]
  omega
set_option maxRecDepth 20000 in
theorem s_119 {d : Nat} {hp : hm_H} {Q : Option Value → hm_H → Prop} {v a b : Int64} (hQ : Q (some (.int (if a.toInt ≤ v.toInt ∧ v.toInt ≤ b.toInt then 1 else 0))) hp) : hm_T d 119 0 [.long v, .retAddr 0, .long a, .retAddr 0, .long b, .retAddr 0] [] hp Q := by
  refine r_lload_n k_119_0 rfl ?_
  refine r_lload_n k_119_1 rfl ?_
  refine r_lcmp k_119_2 ?_
  refine r_if_lt k_119_3 rfl (fun c_3 => ?_) (fun c_3 => ?_)
  · refine r_iconst k_119_17 ci_0 ?_
    exact hm_T.ret m_119 k_119_18 rfl (by rw [lg_cmp_lt, Int64.lt_iff_toInt_lt] at c_3; rw [if_neg (by omega)] at hQ; exact hQ)
  · refine r_lload_n k_119_6 rfl ?_
    refine r_lload k_119_7 rfl ?_
    refine r_lcmp k_119_9 ?_
    refine r_if_gt k_119_10 rfl (fun c_10 => ?_) (fun c_10 => ?_)
    · refine r_iconst k_119_17 ci_0 ?_
      exact hm_T.ret m_119 k_119_18 rfl (by rw [lg_cmp_gt, Int64.lt_iff_toInt_lt] at c_10; rw [if_neg (by omega)] at hQ; exact hQ)
    · refine r_iconst k_119_13 ci_1 ?_
      refine r_goto k_119_14 rfl ?_
      exact hm_T.ret m_119 k_119_18 rfl (by rw [lg_cmp_lt, Int64.lt_iff_toInt_lt] at c_3; rw [lg_cmp_gt, Int64.lt_iff_toInt_lt] at c_10; rw [if_pos (by omega)] at hQ; exact hQ)
set_option maxRecDepth 20000 in
theorem s_148 {d n s : Nat} {m : hm_M} {h : Nat → Option va_E} {Q : Option Value → hm_H → Prop} {c : Int32} {nc : Nat} (hn : m 9 0 = nI nc) (hnc : nc ≤ 16) (hQ : Q (some (.int (if 0 ≤ c.toInt ∧ c.toInt < nc then 1 else 0))) (hm_hM m h n s)) : hm_T (d + 1) 148 0 [.ref 61, .int c] [] (hm_hM m h n s) Q := by
  refine r_iload_n k_148_0 rfl ?_
  refine r_i2l k_148_1 ?_
  refine r_lconst k_148_2 cl_0 ?_
  refine r_aload_n k_148_3 rfl ?_
  refine r_get m_148 k_148_4 fl_8_81 rfl rfl ?_
  rw [hn]
  refine r_iconst k_148_7 ci_1 ?_
  refine r_isub k_148_8 ?_
  refine r_i2l k_148_9 ?_
  refine r_calls3 m_148 k_148_10 cl_8_84 m_119 (by decide) rfl rfl (Nat.le_of_ble_eq_true rfl) (Nat.le_of_ble_eq_true rfl) ?_
  refine s_119 ?_
  exact r_retz m_148 k_148_13 rfl hm_b01 (by rw [hm_ifc (hm_caseE c hnc)]; exact hQ)
set_option maxRecDepth 20000 in
theorem s_167 {d n s : Nat} {m : hm_M} {h : Nat → Option va_E} {Q : Option Value → hm_H → Prop} {c : Int32} {np : Nat} (hn : m 18 0 = nI np) (hnc : np ≤ 16) (hQ : Q (some (.int (if 0 ≤ c.toInt ∧ c.toInt < np then 1 else 0))) (hm_hM m h n s)) : hm_T (d + 1) 167 0 [.ref 61, .int c] [] (hm_hM m h n s) Q := by
  refine r_iload_n k_167_0 rfl ?_
  refine r_i2l k_167_1 ?_
  refine r_lconst k_167_2 cl_0 ?_
  refine r_aload_n k_167_3 rfl ?_
  refine r_get m_167 k_167_4 fl_8_232 rfl rfl ?_
  rw [hn]
  refine r_iconst k_167_7 ci_1 ?_
  refine r_isub k_167_8 ?_
  refine r_i2l k_167_9 ?_
  refine r_calls3 m_167 k_167_10 cl_8_84 m_119 (by decide) rfl rfl (Nat.le_of_ble_eq_true rfl) (Nat.le_of_ble_eq_true rfl) ?_
  refine s_119 ?_
  exact r_retz m_167 k_167_13 rfl hm_b01 (by rw [hm_ifc (hm_caseE c hnc)]; exact hQ)
set_option maxRecDepth 20000 in
theorem s_146 {d : Nat} {hp : hm_H} {Q : Option Value → hm_H → Prop} {x : Int32} (hQ : Q (some (.int (if 0 ≤ x.toInt ∧ x.toInt ≤ 399 then 1 else 0))) hp) : hm_T (d + 1) 146 0 [.int x] [] hp Q := by
  refine r_iload_n k_146_0 rfl ?_
  refine r_i2l k_146_1 ?_
  refine r_lconst k_146_2 cl_0 ?_
  refine r_ldc2_w m_146 k_146_3 ll_8_88 ?_
  refine r_calls3 m_146 k_146_6 cl_8_84 m_119 (by decide) rfl rfl (Nat.le_of_ble_eq_true rfl) (Nat.le_of_ble_eq_true rfl) ?_
  refine s_119 ?_
  exact r_retz m_146 k_146_9 rfl hm_b01 (by rw [hm_ifc (hm_rngE x (b := 399) (hi := 399) (by decide +kernel))]; exact hQ)
set_option maxRecDepth 20000 in
theorem s_144 {d : Nat} {hp : hm_H} {Q : Option Value → hm_H → Prop} {x : Int32} (hQ : Q (some (.int (if 0 ≤ x.toInt ∧ x.toInt ≤ 3 then 1 else 0))) hp) : hm_T (d + 1) 144 0 [.int x] [] hp Q := by
  refine r_iload_n k_144_0 rfl ?_
  refine r_i2l k_144_1 ?_
  refine r_lconst k_144_2 cl_0 ?_
  refine r_ldc2_w m_144 k_144_3 ll_8_90 ?_
  refine r_calls3 m_144 k_144_6 cl_8_84 m_119 (by decide) rfl rfl (Nat.le_of_ble_eq_true rfl) (Nat.le_of_ble_eq_true rfl) ?_
  refine s_119 ?_
  exact r_retz m_144 k_144_9 rfl hm_b01 (by rw [hm_ifc (hm_rngE x (b := 3) (hi := 3) (by decide +kernel))]; exact hQ)
set_option maxRecDepth 20000 in
theorem s_122 {d n s : Nat} {m : hm_M} {h : Nat → Option va_E} {Q : Option Value → hm_H → Prop} {c t : Nat} (hc : c < 16) (ht : t < 4) (hQ : Q (some (.int (m 15 (4 * c + t)))) (hm_hM m h n s)) : hm_T d 122 0 [.ref 61, .int (nI c), .int (nI t)] [] (hm_hM m h n s) Q := by
  refine r_aload_n k_122_0 rfl ?_
  refine r_get m_122 k_122_1 fl_8_47 rfl rfl ?_
  refine r_iconst k_122_4 ci_4 ?_
  refine r_iload_n k_122_5 rfl ?_
  refine r_imul k_122_6 ?_
  refine r_iload_n k_122_7 rfl ?_
  refine r_iadd k_122_8 ?_
  refine r_ialdn (k := 4 * c + t) k_122_9 rfl (Or.inl rfl) (by rw [nI_mul, nI_add]) (by omega) (by decide) ?_
  exact hm_T.ret m_122 k_122_10 rfl hQ
set_option maxRecDepth 20000 in
theorem s_138 {d n s : Nat} {m : hm_M} {h : Nat → Option va_E} {Q : Option Value → hm_H → Prop} {c t w f : Nat} (hc : c < 16) (ht : t < 4) (hw : w < 5) (hf : m 10 c = nI f) (hf4 : f < 4) (hQ : Q (some (.int (m 4 (20 * f + 5 * t + w)))) (hm_hM m h n s)) : hm_T d 138 0 [.ref 61, .int (nI c), .int (nI t), .int (nI w)] [] (hm_hM m h n s) Q := by
  refine r_aload_n k_138_0 rfl ?_
  refine r_get m_138 k_138_1 fl_8_19 rfl rfl ?_
  refine r_bipush k_138_4 cb_20 ?_
  refine r_aload_n k_138_6 rfl ?_
  refine r_get m_138 k_138_7 fl_8_32 rfl rfl ?_
  refine r_iload_n k_138_10 rfl ?_
  refine r_ialdn (k := c) k_138_11 rfl (Or.inl rfl) rfl (by omega) (by decide) ?_
  refine r_imul k_138_12 ?_
  refine r_iconst k_138_13 ci_5 ?_
  refine r_iload_n k_138_14 rfl ?_
  refine r_imul k_138_15 ?_
  refine r_iadd k_138_16 ?_
  refine r_iload_n k_138_17 rfl ?_
  refine r_iadd k_138_18 ?_
  refine r_ialdn (k := 20 * f + 5 * t + w) k_138_19 rfl (Or.inl rfl) (by rw [hf, nI_mul, nI_mul, nI_add, nI_add]) (by omega) (by decide) ?_
  exact hm_T.ret m_138 k_138_20 rfl hQ
end
section
def hm_cnt (P : Nat → Bool) : Nat → Nat
  | 0 => 0
  | n + 1 => hm_cnt P n + (if P n = true then 1 else 0)
theorem hm_cnt_y {P : Nat → Bool} {c : Nat} (h : P c = true) : nI (hm_cnt P (c + 1)) = nI (hm_cnt P c) + nI 1 := by
  rw [nI_add]
  show nI (hm_cnt P c + (if P c = true then 1 else 0)) = _
  rw [if_pos h]
theorem hm_cnt_n {P : Nat → Bool} {c : Nat} (h : P c = false) : nI (hm_cnt P (c + 1)) = nI (hm_cnt P c) + nI 0 := by
  rw [nI_add]
  show nI (hm_cnt P c + (if P c = true then 1 else 0)) = _
  rw [if_neg (by rw [h]; decide)]
def hm_sg (f : Nat → Int32) : Nat → Int32
  | 0 => nI 0
  | n + 1 => hm_sg f n + f n
def hm_re0 (f g : Int32) : Int32 := if 0 ≤ f then (if 0 ≤ g then (if g ≤ f then g else f) else f) else g
/-- the last hour of a room -/
def hm_re (f g : Int32) : Int32 := if 0 ≤ hm_re0 f g then hm_re0 f g - nI 1 else nI 399
theorem hm_if0 {P : Prop} [Decidable P] (h : (if P then (1 : Int32) else 0) = 0) : ¬ P := by
  intro hp
  rw [if_pos hp] at h
  exact absurd h (by decide)
theorem hm_if1 {P : Prop} [Decidable P] (h : ¬ (if P then (1 : Int32) else 0) = 0) : P := by
  by_cases hp : P
  · exact hp
  · exact absurd (if_neg hp) h
set_option maxRecDepth 20000 in
theorem l_121 {d n s : Nat} {m : hm_M} {h : Nat → Option va_E} {Q : Option Value → hm_H → Prop} {nc : Nat} (hn : m 9 0 = nI nc) (hnc : nc ≤ 16) {t : Nat} (ht : t < 4) {hour : Int32} (hQ : Q (some (.int (nI (hm_cnt (fun c => decide (m 15 (4 * c + t) = hour)) nc)))) (hm_hM m h n s)) : ∀ (k c : Nat), c + k = nc → hm_T (d + 1) 121 5 [.ref 61, .int hour, .int (nI t), .int (nI (hm_cnt (fun c => decide (m 15 (4 * c + t) = hour)) c)), .int (nI c)] [] (hm_hM m h n s) Q := by
  intro k
  induction k with
  | zero =>
    intro c hc
    refine r_iload k_121_5 rfl ?_
    refine r_aload_n k_121_7 rfl ?_
    refine r_get m_121 k_121_8 fl_8_81 rfl rfl ?_
    rw [hn]
    refine r_icmp_ge k_121_11 rfl (fun c_11 => ?_) (fun z => absurd (nI_le (show nc ≤ c by omega) (by omega)) z)
    refine r_iload_n k_121_39 rfl ?_
    exact hm_T.ret m_121 k_121_40 rfl (by rw [show nc = c by omega] at hQ; exact hQ)
  | succ k ih =>
    intro c hc
    refine r_iload k_121_5 rfl ?_
    refine r_aload_n k_121_7 rfl ?_
    refine r_get m_121 k_121_8 fl_8_81 rfl rfl ?_
    rw [hn]
    refine r_icmp_ge k_121_11 rfl (fun z => absurd z (nI_ge (show c < nc by omega) (by omega))) (fun c_11 => ?_)
    refine r_iload_n k_121_14 rfl ?_
    refine r_aload_n k_121_15 rfl ?_
    refine r_iload k_121_16 rfl ?_
    refine r_iload_n k_121_18 rfl ?_
    refine r_callv3 m_121 k_121_19 cl_8_92 m_122 (by decide) rfl rfl (Nat.le_of_ble_eq_true rfl) (Nat.le_of_ble_eq_true rfl) rfl rfl ?_
    refine s_122 (c := c) (t := t) (by omega) ht ?_
    refine r_iload_n k_121_22 rfl ?_
    refine r_icmp_ne k_121_23 rfl (fun c_23 => ?_) (fun c_23 => ?_)
    · refine r_iconst k_121_30 ci_0 ?_
      refine r_iadd k_121_31 ?_
      refine r_istore_n k_121_32 rfl ?_
      refine r_iincn k_121_33 rfl (nI_inc c) rfl ?_
      refine r_goto k_121_36 rfl ?_
      have e := ih (c + 1) (by omega)
      rw [hm_cnt_n (P := (fun c => decide (m 15 (4 * c + t) = hour))) (decide_eq_false c_23)] at e
      exact e
    · have c_23 := Decidable.of_not_not c_23
      refine r_iconst k_121_26 ci_1 ?_
      refine r_goto k_121_27 rfl ?_
      refine r_iadd k_121_31 ?_
      refine r_istore_n k_121_32 rfl ?_
      refine r_iincn k_121_33 rfl (nI_inc c) rfl ?_
      refine r_goto k_121_36 rfl ?_
      have e := ih (c + 1) (by omega)
      rw [hm_cnt_y (P := (fun c => decide (m 15 (4 * c + t) = hour))) (decide_eq_true c_23)] at e
      exact e
set_option maxRecDepth 20000 in
theorem s_121 {d n s : Nat} {m : hm_M} {h : Nat → Option va_E} {Q : Option Value → hm_H → Prop} {nc : Nat} (hn : m 9 0 = nI nc) (hnc : nc ≤ 16) {t : Nat} (ht : t < 4) {hour : Int32} (hQ : Q (some (.int (nI (hm_cnt (fun c => decide (m 15 (4 * c + t) = hour)) nc)))) (hm_hM m h n s)) : hm_T (d + 1) 121 0 [.ref 61, .int hour, .int (nI t), .retAddr 0, .retAddr 0] [] (hm_hM m h n s) Q := by
  refine r_iconst k_121_0 ci_0 ?_
  refine r_istore_n k_121_1 rfl ?_
  refine r_iconst k_121_2 ci_0 ?_
  refine r_istore k_121_3 rfl ?_
  exact l_121 hn hnc ht hQ nc 0 (by omega)
set_option maxRecDepth 20000 in
theorem s_120 {d n s : Nat} {m : hm_M} {h : Nat → Option va_E} {Q : Option Value → hm_H → Prop} {nc : Nat} (hn : m 9 0 = nI nc) (hnc : nc ≤ 16) {hour : Int32} (hQ : Q (some (.int (nI (hm_cnt (fun c => decide (m 15 (4 * c + 0) = hour)) nc + hm_cnt (fun c => decide (m 15 (4 * c + 1) = hour)) nc + hm_cnt (fun c => decide (m 15 (4 * c + 2) = hour)) nc + hm_cnt (fun c => decide (m 15 (4 * c + 3) = hour)) nc)))) (hm_hM m h n s)) : hm_T (d + 2) 120 0 [.ref 61, .int hour] [] (hm_hM m h n s) Q := by
  refine r_aload_n k_120_0 rfl ?_
  refine r_iload_n k_120_1 rfl ?_
  refine r_iconst k_120_2 ci_0 ?_
  refine r_callv3 m_120 k_120_3 cl_8_96 m_121 (by decide) rfl rfl (Nat.le_of_ble_eq_true rfl) (Nat.le_of_ble_eq_true rfl) rfl rfl ?_
  refine s_121 (t := 0) hn hnc (by decide) ?_
  refine r_aload_n k_120_6 rfl ?_
  refine r_iload_n k_120_7 rfl ?_
  refine r_iconst k_120_8 ci_1 ?_
  refine r_callv3 m_120 k_120_9 cl_8_96 m_121 (by decide) rfl rfl (Nat.le_of_ble_eq_true rfl) (Nat.le_of_ble_eq_true rfl) rfl rfl ?_
  refine s_121 (t := 1) hn hnc (by decide) ?_
  refine r_iadd k_120_12 ?_
  refine r_aload_n k_120_13 rfl ?_
  refine r_iload_n k_120_14 rfl ?_
  refine r_iconst k_120_15 ci_2 ?_
  refine r_callv3 m_120 k_120_16 cl_8_96 m_121 (by decide) rfl rfl (Nat.le_of_ble_eq_true rfl) (Nat.le_of_ble_eq_true rfl) rfl rfl ?_
  refine s_121 (t := 2) hn hnc (by decide) ?_
  refine r_iadd k_120_19 ?_
  refine r_aload_n k_120_20 rfl ?_
  refine r_iload_n k_120_21 rfl ?_
  refine r_iconst k_120_22 ci_3 ?_
  refine r_callv3 m_120 k_120_23 cl_8_96 m_121 (by decide) rfl rfl (Nat.le_of_ble_eq_true rfl) (Nat.le_of_ble_eq_true rfl) rfl rfl ?_
  refine s_121 (t := 3) hn hnc (by decide) ?_
  refine r_iadd k_120_26 ?_
  exact hm_T.ret m_120 k_120_27 rfl (by rw [nI_add, nI_add, nI_add]; exact hQ)
set_option maxRecDepth 20000 in
theorem s_124 {d n s : Nat} {m : hm_M} {h : Nat → Option va_E} {Q : Option Value → hm_H → Prop} {c : Nat} (hc : c < 16) (hQ : Q (some (.int (hm_re (m 15 (4 * c + 2)) (m 15 (4 * c + 3))))) (hm_hM m h n s)) : hm_T (d + 1) 124 0 [.ref 61, .int (nI c), .retAddr 0, .retAddr 0, .retAddr 0] [] (hm_hM m h n s) Q := by
  refine r_aload_n k_124_0 rfl ?_
  refine r_iload_n k_124_1 rfl ?_
  refine r_iconst k_124_2 ci_2 ?_
  refine r_callv3 m_124 k_124_3 cl_8_92 m_122 (by decide) rfl rfl (Nat.le_of_ble_eq_true rfl) (Nat.le_of_ble_eq_true rfl) rfl rfl ?_
  refine s_122 (c := c) (t := 2) hc (by decide) ?_
  refine r_istore_n k_124_6 rfl ?_
  refine r_aload_n k_124_7 rfl ?_
  refine r_iload_n k_124_8 rfl ?_
  refine r_iconst k_124_9 ci_3 ?_
  refine r_callv3 m_124 k_124_10 cl_8_92 m_122 (by decide) rfl rfl (Nat.le_of_ble_eq_true rfl) (Nat.le_of_ble_eq_true rfl) rfl rfl ?_
  refine s_122 (c := c) (t := 3) hc (by decide) ?_
  refine r_istore_n k_124_13 rfl ?_
  refine r_iload_n k_124_14 rfl ?_
  refine r_if_ge k_124_15 rfl (fun c_15 => ?_) (fun c_15 => ?_)
  · refine r_iload_n k_124_22 rfl ?_
    refine r_if_ge k_124_23 rfl (fun c_23 => ?_) (fun c_23 => ?_)
    · refine r_iload_n k_124_30 rfl ?_
      refine r_iload_n k_124_31 rfl ?_
      refine r_icmp_ge k_124_32 rfl (fun c_32 => ?_) (fun c_32 => ?_)
      · refine r_iload_n k_124_39 rfl ?_
        refine r_istore k_124_40 rfl ?_
        refine r_iload k_124_42 rfl ?_
        refine r_if_ge k_124_44 rfl (fun c_44 => ?_) (fun c_44 => ?_)
        · refine r_iload k_124_53 rfl ?_
          refine r_iconst k_124_55 ci_1 ?_
          refine r_isub k_124_56 ?_
          exact hm_T.ret m_124 k_124_57 rfl (by first | (simp only [hm_re, hm_re0, c_15, c_23, c_32, c_44, and_self, not_true_eq_false, not_false_eq_true, ↓reduceIte] at hQ; exact hQ) | contradiction)
        · refine r_sipush k_124_47 cs_399 ?_
          refine r_goto k_124_50 rfl ?_
          exact hm_T.ret m_124 k_124_57 rfl (by first | (simp only [hm_re, hm_re0, c_15, c_23, c_32, c_44, and_self, not_true_eq_false, not_false_eq_true, ↓reduceIte] at hQ; exact hQ) | contradiction)
      · refine r_iload_n k_124_35 rfl ?_
        refine r_goto k_124_36 rfl ?_
        refine r_istore k_124_40 rfl ?_
        refine r_iload k_124_42 rfl ?_
        refine r_if_ge k_124_44 rfl (fun c_44 => ?_) (fun c_44 => ?_)
        · refine r_iload k_124_53 rfl ?_
          refine r_iconst k_124_55 ci_1 ?_
          refine r_isub k_124_56 ?_
          exact hm_T.ret m_124 k_124_57 rfl (by first | (simp only [hm_re, hm_re0, c_15, c_23, c_32, c_44, and_self, not_true_eq_false, not_false_eq_true, ↓reduceIte] at hQ; exact hQ) | contradiction)
        · refine r_sipush k_124_47 cs_399 ?_
          refine r_goto k_124_50 rfl ?_
          exact hm_T.ret m_124 k_124_57 rfl (by first | (simp only [hm_re, hm_re0, c_15, c_23, c_32, c_44, and_self, not_true_eq_false, not_false_eq_true, ↓reduceIte] at hQ; exact hQ) | contradiction)
    · refine r_iload_n k_124_26 rfl ?_
      refine r_goto k_124_27 rfl ?_
      refine r_istore k_124_40 rfl ?_
      refine r_iload k_124_42 rfl ?_
      refine r_if_ge k_124_44 rfl (fun c_44 => ?_) (fun c_44 => ?_)
      · refine r_iload k_124_53 rfl ?_
        refine r_iconst k_124_55 ci_1 ?_
        refine r_isub k_124_56 ?_
        exact hm_T.ret m_124 k_124_57 rfl (by first | (simp only [hm_re, hm_re0, c_15, c_23, c_44, and_self, not_true_eq_false, not_false_eq_true, ↓reduceIte] at hQ; exact hQ) | contradiction)
      · refine r_sipush k_124_47 cs_399 ?_
        refine r_goto k_124_50 rfl ?_
        exact hm_T.ret m_124 k_124_57 rfl (by first | (simp only [hm_re, hm_re0, c_15, c_23, c_44, and_self, not_true_eq_false, not_false_eq_true, ↓reduceIte] at hQ; exact hQ) | contradiction)
  · refine r_iload_n k_124_18 rfl ?_
    refine r_goto k_124_19 rfl ?_
    refine r_istore k_124_40 rfl ?_
    refine r_iload k_124_42 rfl ?_
    refine r_if_ge k_124_44 rfl (fun c_44 => ?_) (fun c_44 => ?_)
    · refine r_iload k_124_53 rfl ?_
      refine r_iconst k_124_55 ci_1 ?_
      refine r_isub k_124_56 ?_
      exact hm_T.ret m_124 k_124_57 rfl (by first | (simp only [hm_re, hm_re0, c_15, c_44, and_self, not_true_eq_false, not_false_eq_true, ↓reduceIte] at hQ; exact hQ) | contradiction)
    · refine r_sipush k_124_47 cs_399 ?_
      refine r_goto k_124_50 rfl ?_
      exact hm_T.ret m_124 k_124_57 rfl (by first | (simp only [hm_re, hm_re0, c_15, c_44, and_self, not_true_eq_false, not_false_eq_true, ↓reduceIte] at hQ; exact hQ) | contradiction)
set_option maxRecDepth 20000 in
theorem l_123 {d n s : Nat} {m : hm_M} {h : Nat → Option va_E} {Q : Option Value → hm_H → Prop} {nc : Nat} (hn : m 9 0 = nI nc) (hnc : nc ≤ 16) {hour : Int32} (hQ : Q (some (.int (nI (hm_cnt (fun c => decide (¬ m 15 (4 * c + 0) < 0) && decide ((m 15 (4 * c + 0)).toInt ≤ hour.toInt ∧ hour.toInt ≤ (hm_re (m 15 (4 * c + 2)) (m 15 (4 * c + 3))).toInt)) nc)))) (hm_hM m h n s)) : ∀ (k c : Nat), c + k = nc → hm_T (d + 2) 123 4 [.ref 61, .int hour, .int (nI (hm_cnt (fun c => decide (¬ m 15 (4 * c + 0) < 0) && decide ((m 15 (4 * c + 0)).toInt ≤ hour.toInt ∧ hour.toInt ≤ (hm_re (m 15 (4 * c + 2)) (m 15 (4 * c + 3))).toInt)) c)), .int (nI c)] [] (hm_hM m h n s) Q := by
  intro k
  induction k with
  | zero =>
    intro c hc
    refine r_iload_n k_123_4 rfl ?_
    refine r_aload_n k_123_5 rfl ?_
    refine r_get m_123 k_123_6 fl_8_81 rfl rfl ?_
    rw [hn]
    refine r_icmp_ge k_123_9 rfl (fun c_9 => ?_) (fun z => absurd (nI_le (show nc ≤ c by omega) (by omega)) z)
    refine r_iload_n k_123_56 rfl ?_
    exact hm_T.ret m_123 k_123_57 rfl (by rw [show nc = c by omega] at hQ; exact hQ)
  | succ k ih =>
    intro c hc
    refine r_iload_n k_123_4 rfl ?_
    refine r_aload_n k_123_5 rfl ?_
    refine r_get m_123 k_123_6 fl_8_81 rfl rfl ?_
    rw [hn]
    refine r_icmp_ge k_123_9 rfl (fun z => absurd z (nI_ge (show c < nc by omega) (by omega))) (fun c_9 => ?_)
    refine r_iload_n k_123_12 rfl ?_
    refine r_aload_n k_123_13 rfl ?_
    refine r_iload_n k_123_14 rfl ?_
    refine r_iconst k_123_15 ci_0 ?_
    refine r_callv3 m_123 k_123_16 cl_8_92 m_122 (by decide) rfl rfl (Nat.le_of_ble_eq_true rfl) (Nat.le_of_ble_eq_true rfl) rfl rfl ?_
    refine s_122 (c := c) (t := 0) (by omega) (by decide) ?_
    refine r_if_lt k_123_19 rfl (fun c_19 => ?_) (fun c_19 => ?_)
    · refine r_iconst k_123_47 ci_0 ?_
      refine r_iadd k_123_48 ?_
      refine r_istore_n k_123_49 rfl ?_
      refine r_iincn k_123_50 rfl (nI_inc c) rfl ?_
      refine r_goto k_123_53 rfl ?_
      have e := ih (c + 1) (by omega)
      rw [hm_cnt_n (P := (fun c => decide (¬ m 15 (4 * c + 0) < 0) && decide ((m 15 (4 * c + 0)).toInt ≤ hour.toInt ∧ hour.toInt ≤ (hm_re (m 15 (4 * c + 2)) (m 15 (4 * c + 3))).toInt))) (by rw [decide_eq_false (fun z => z c_19), Bool.false_and])] at e
      exact e
    · refine r_iload_n k_123_22 rfl ?_
      refine r_i2l k_123_23 ?_
      refine r_aload_n k_123_24 rfl ?_
      refine r_iload_n k_123_25 rfl ?_
      refine r_iconst k_123_26 ci_0 ?_
      refine r_callv3 m_123 k_123_27 cl_8_92 m_122 (by decide) rfl rfl (Nat.le_of_ble_eq_true rfl) (Nat.le_of_ble_eq_true rfl) rfl rfl ?_
      refine s_122 (c := c) (t := 0) (by omega) (by decide) ?_
      refine r_i2l k_123_30 ?_
      refine r_aload_n k_123_31 rfl ?_
      refine r_iload_n k_123_32 rfl ?_
      refine r_callv2 m_123 k_123_33 cl_8_99 m_124 (by decide) rfl rfl (Nat.le_of_ble_eq_true rfl) (Nat.le_of_ble_eq_true rfl) rfl rfl ?_
      refine s_124 (c := c) (by omega) ?_
      refine r_i2l k_123_36 ?_
      refine r_calls3 m_123 k_123_37 cl_8_84 m_119 (by decide) rfl rfl (Nat.le_of_ble_eq_true rfl) (Nat.le_of_ble_eq_true rfl) ?_
      refine s_119 ?_
      rw [Int32.toInt_toInt64, Int32.toInt_toInt64, Int32.toInt_toInt64]
      refine r_if_eq k_123_40 rfl (fun c_40 => ?_) (fun c_40 => ?_)
      · refine r_iconst k_123_47 ci_0 ?_
        refine r_iadd k_123_48 ?_
        refine r_istore_n k_123_49 rfl ?_
        refine r_iincn k_123_50 rfl (nI_inc c) rfl ?_
        refine r_goto k_123_53 rfl ?_
        have e := ih (c + 1) (by omega)
        rw [hm_cnt_n (P := (fun c => decide (¬ m 15 (4 * c + 0) < 0) && decide ((m 15 (4 * c + 0)).toInt ≤ hour.toInt ∧ hour.toInt ≤ (hm_re (m 15 (4 * c + 2)) (m 15 (4 * c + 3))).toInt))) (by rw [decide_eq_false (hm_if0 c_40), Bool.and_false])] at e
        exact e
      · refine r_iconst k_123_43 ci_1 ?_
        refine r_goto k_123_44 rfl ?_
        refine r_iadd k_123_48 ?_
        refine r_istore_n k_123_49 rfl ?_
        refine r_iincn k_123_50 rfl (nI_inc c) rfl ?_
        refine r_goto k_123_53 rfl ?_
        have e := ih (c + 1) (by omega)
        rw [hm_cnt_y (P := (fun c => decide (¬ m 15 (4 * c + 0) < 0) && decide ((m 15 (4 * c + 0)).toInt ≤ hour.toInt ∧ hour.toInt ≤ (hm_re (m 15 (4 * c + 2)) (m 15 (4 * c + 3))).toInt))) (by rw [decide_eq_true c_19, decide_eq_true (hm_if1 c_40)]; rfl)] at e
        exact e
set_option maxRecDepth 20000 in
theorem s_123 {d n s : Nat} {m : hm_M} {h : Nat → Option va_E} {Q : Option Value → hm_H → Prop} {nc : Nat} (hn : m 9 0 = nI nc) (hnc : nc ≤ 16) {hour : Int32} (hQ : Q (some (.int (nI (hm_cnt (fun c => decide (¬ m 15 (4 * c + 0) < 0) && decide ((m 15 (4 * c + 0)).toInt ≤ hour.toInt ∧ hour.toInt ≤ (hm_re (m 15 (4 * c + 2)) (m 15 (4 * c + 3))).toInt)) nc)))) (hm_hM m h n s)) : hm_T (d + 2) 123 0 [.ref 61, .int hour, .retAddr 0, .retAddr 0] [] (hm_hM m h n s) Q := by
  refine r_iconst k_123_0 ci_0 ?_
  refine r_istore_n k_123_1 rfl ?_
  refine r_iconst k_123_2 ci_0 ?_
  refine r_istore_n k_123_3 rfl ?_
  exact l_123 hn hnc hQ nc 0 (by omega)
set_option maxRecDepth 20000 in
theorem l_126 {d n s : Nat} {m : hm_M} {h : Nat → Option va_E} {Q : Option Value → hm_H → Prop} {hour : Int32} (hQ : Q (some (.int (hm_sg (fun k => m 1 k >>> ((hour - hour / nI 10 * nI 10) &&& 31) &&& nI 1) 3))) (hm_hM m h n s)) : ∀ (k c : Nat), c + k = 3 → hm_T d 126 4 [.ref 61, .int hour, .int (hm_sg (fun k => m 1 k >>> ((hour - hour / nI 10 * nI 10) &&& 31) &&& nI 1) c), .int (nI c)] [] (hm_hM m h n s) Q := by
  intro k
  induction k with
  | zero =>
    intro c hc
    refine r_iload_n k_126_4 rfl ?_
    refine r_iconst k_126_5 ci_3 ?_
    refine r_icmp_ge k_126_6 rfl (fun c_6 => ?_) (fun z => absurd (nI_le (show 3 ≤ c by omega) (by omega)) z)
    refine r_iload_n k_126_31 rfl ?_
    exact hm_T.ret m_126 k_126_32 rfl (by rw [show 3 = c by omega] at hQ; exact hQ)
  | succ k ih =>
    intro c hc
    refine r_iload_n k_126_4 rfl ?_
    refine r_iconst k_126_5 ci_3 ?_
    refine r_icmp_ge k_126_6 rfl (fun z => absurd z (nI_ge (show c < 3 by omega) (by omega))) (fun c_6 => ?_)
    refine r_iload_n k_126_9 rfl ?_
    refine r_aload_n k_126_10 rfl ?_
    refine r_get m_126 k_126_11 fl_8_13 rfl rfl ?_
    refine r_iload_n k_126_14 rfl ?_
    refine r_ialdn (k := c) k_126_15 rfl (Or.inl rfl) rfl (by omega) (by decide) ?_
    refine r_iload_n k_126_16 rfl ?_
    refine r_bipush k_126_17 cb_10 ?_
    refine r_irem k_126_19 (by decide) ?_
    refine r_ishr k_126_20 ?_
    refine r_iconst k_126_21 ci_1 ?_
    refine r_iand k_126_22 ?_
    refine r_iadd k_126_23 ?_
    refine r_istore_n k_126_24 rfl ?_
    refine r_iincn k_126_25 rfl (nI_inc c) rfl ?_
    refine r_goto k_126_28 rfl ?_
    exact ih (c + 1) (by omega)
set_option maxRecDepth 20000 in
theorem s_126 {d n s : Nat} {m : hm_M} {h : Nat → Option va_E} {Q : Option Value → hm_H → Prop} {hour : Int32} (hQ : Q (some (.int (hm_sg (fun k => m 1 k >>> ((hour - hour / nI 10 * nI 10) &&& 31) &&& nI 1) 3))) (hm_hM m h n s)) : hm_T d 126 0 [.ref 61, .int hour, .retAddr 0, .retAddr 0] [] (hm_hM m h n s) Q := by
  refine r_iconst k_126_0 ci_0 ?_
  refine r_istore_n k_126_1 rfl ?_
  refine r_iconst k_126_2 ci_0 ?_
  refine r_istore_n k_126_3 rfl ?_
  exact l_126 hQ 3 0 (by omega)
end
section
theorem hm_rngE2 (x : Int32) {a b : Int64} {lo hi : Int} (ha : a.toInt = lo) (hb : b.toInt = hi) : (a.toInt ≤ x.toInt64.toInt ∧ x.toInt64.toInt ≤ b.toInt) ↔ (lo ≤ x.toInt ∧ x.toInt ≤ hi) := by
  rw [Int32.toInt_toInt64, ha, hb]
theorem hm_nIof2 {x : Int32} {N : Nat} (h0 : 0 ≤ x.toInt) (h1 : x.toInt < N) : ∃ k : Nat, k < N ∧ x = nI k ∧ x.toInt = k ∧ x.toNatClampNeg = k := by
  obtain ⟨k, h2, h3, h4⟩ := hm_nIof h0 h1
  refine ⟨k, h2, h3, h4, ?_⟩
  have := Int32.toInt_lt x
  rw [h3]
  exact nI_clamp (by omega)
theorem hm_ltn {a N : Nat} (h : ¬ nI a = nI N) (hN : a ≤ N) : a < N := by
  rcases Nat.lt_or_ge a N with h1 | h1
  · exact h1
  · exact absurd (by rw [show a = N by omega]) h
theorem hm_addsub (x : Int32) : x + nI 1 - nI 1 = x := by
  rw [Int32.add_sub_cancel]
theorem hm_upd_self (f : Nat → Int32) (k : Nat) (x : Int32) : upd f k x k = x := if_pos rfl
set_option maxRecDepth 20000 in
theorem s_142 {d n s : Nat} {m : hm_M} {h : Nat → Option va_E} {Q : Option Value → hm_H → Prop} (hQ : Q (some (.int (m 8 0))) (hm_hM m h n s)) : hm_T d 142 0 [.ref 61] [] (hm_hM m h n s) Q := by
  refine r_aload_n k_142_0 rfl ?_
  refine r_get m_142 k_142_1 fl_8_28 rfl rfl ?_
  exact hm_T.ret m_142 k_142_4 rfl hQ
set_option maxRecDepth 20000 in
theorem s_133 {d n s : Nat} {m : hm_M} {h : Nat → Option va_E} {Q : Option Value → hm_H → Prop} {x y : Int32} (hQ : Q (some (.int x)) (hm_hM (hm_uM m 8 (fun _ => y)) h n s)) : hm_T d 133 0 [.ref 61, .int x, .int y] [] (hm_hM m h n s) Q := by
  refine r_aload_n k_133_0 rfl ?_
  refine r_iload_n k_133_1 rfl ?_
  refine r_put m_133 k_133_2 fl_8_28 rfl (Nat.le_of_ble_eq_true rfl) rfl rfl (wM_8 _) ?_
  refine r_iload_n k_133_5 rfl ?_
  exact hm_T.ret m_133 k_133_6 rfl hQ
def op_says (m : hm_M) (f t w : Int32) : Int32 := if (0 ≤ f.toInt ∧ f.toInt ≤ 3) then (if (0 ≤ t.toInt ∧ t.toInt ≤ 3) then (if (0 ≤ w.toInt ∧ w.toInt ≤ 4) then m 4 (20 * f.toNatClampNeg + 5 * t.toNatClampNeg + w.toNatClampNeg) else -1002) else -1002) else -1001
set_option maxRecDepth 20000 in
theorem s_143 {d n s : Nat} {m : hm_M} {h : Nat → Option va_E} {Q : Option Value → hm_H → Prop} {f t w : Int32} (hQ : Q (some (.int (op_says m f t w))) (hm_hM m h n s)) : hm_T (d + 2) 143 0 [.ref 61, .int f, .int t, .int w] [] (hm_hM m h n s) Q := by
  refine r_iload_n k_143_0 rfl ?_
  refine r_i2l k_143_1 ?_
  refine r_lconst k_143_2 cl_0 ?_
  refine r_ldc2_w m_143 k_143_3 ll_8_90 ?_
  refine r_calls3 m_143 k_143_6 cl_8_84 m_119 (by decide) rfl rfl (Nat.le_of_ble_eq_true rfl) (Nat.le_of_ble_eq_true rfl) ?_
  refine s_119 ?_
  rw [hm_ifc (hm_rngE2 f (a := 0) (b := 3) (lo := 0) (hi := 3) (by decide +kernel) (by decide +kernel))]
  refine r_if_ne k_143_9 rfl (fun c_9 => ?_) (fun c_9 => ?_)
  · have c_9 := hm_if1 c_9
    obtain ⟨fk, fkb, rfl, -, fkc⟩ := hm_nIof2 c_9.1 (N := 4) (by omega)
    refine r_iload_n k_143_16 rfl ?_
    refine r_calls1 m_143 k_143_17 cl_8_165 m_144 (by decide) rfl rfl (Nat.le_of_ble_eq_true rfl) (Nat.le_of_ble_eq_true rfl) ?_
    refine s_144 ?_
    refine r_if_eq k_143_20 rfl (fun c_20 => ?_) (fun c_20 => ?_)
    · have c_20 := hm_if0 c_20
      refine r_sipush k_143_53 cs_m1002 ?_
      exact hm_T.ret m_143 k_143_56 rfl (by first | (simp only [op_says, c_9, c_20, and_self, not_true_eq_false, not_false_eq_true, ↓reduceIte] at hQ; exact hQ) | contradiction)
    · have c_20 := hm_if1 c_20
      obtain ⟨tk, tkb, rfl, -, tkc⟩ := hm_nIof2 c_20.1 (N := 4) (by omega)
      refine r_iload_n k_143_23 rfl ?_
      refine r_i2l k_143_24 ?_
      refine r_lconst k_143_25 cl_0 ?_
      refine r_ldc2_w m_143 k_143_26 ll_8_105 ?_
      refine r_calls3 m_143 k_143_29 cl_8_84 m_119 (by decide) rfl rfl (Nat.le_of_ble_eq_true rfl) (Nat.le_of_ble_eq_true rfl) ?_
      refine s_119 ?_
      rw [hm_ifc (hm_rngE2 w (a := 0) (b := 4) (lo := 0) (hi := 4) (by decide +kernel) (by decide +kernel))]
      refine r_if_eq k_143_32 rfl (fun c_32 => ?_) (fun c_32 => ?_)
      · have c_32 := hm_if0 c_32
        refine r_sipush k_143_53 cs_m1002 ?_
        exact hm_T.ret m_143 k_143_56 rfl (by first | (simp only [op_says, c_9, c_20, c_32, and_self, not_true_eq_false, not_false_eq_true, ↓reduceIte] at hQ; exact hQ) | contradiction)
      · have c_32 := hm_if1 c_32
        obtain ⟨wk, wkb, rfl, -, wkc⟩ := hm_nIof2 c_32.1 (N := 5) (by omega)
        refine r_aload_n k_143_35 rfl ?_
        refine r_get m_143 k_143_36 fl_8_19 rfl rfl ?_
        refine r_bipush k_143_39 cb_20 ?_
        refine r_iload_n k_143_41 rfl ?_
        refine r_imul k_143_42 ?_
        refine r_iconst k_143_43 ci_5 ?_
        refine r_iload_n k_143_44 rfl ?_
        refine r_imul k_143_45 ?_
        refine r_iadd k_143_46 ?_
        refine r_iload_n k_143_47 rfl ?_
        refine r_iadd k_143_48 ?_
        refine r_ialdn (k := 20 * fk + 5 * tk + wk) k_143_49 rfl (Or.inl rfl) (by rw [nI_mul, nI_mul, nI_add, nI_add]) (by omega) (by decide) ?_
        refine r_goto k_143_50 rfl ?_
        exact hm_T.ret m_143 k_143_56 rfl (by simp only [op_says, c_9, c_20, c_32, fkc, tkc, wkc, and_self, ↓reduceIte] at hQ; exact hQ)
  · have c_9 := hm_if0 (Decidable.of_not_not c_9)
    refine r_sipush k_143_12 cs_m1001 ?_
    exact hm_T.ret m_143 k_143_15 rfl (by first | (simp only [op_says, c_9, and_self, not_true_eq_false, not_false_eq_true, ↓reduceIte] at hQ; exact hQ) | contradiction)
def op_rate (m : hm_M) (v : Int32) : Int32 × hm_M := if (0 ≤ v.toInt ∧ v.toInt ≤ 100) then (m 23 0, hm_uM m 23 (fun _ => v)) else (-1002, m)
set_option maxRecDepth 20000 in
theorem s_168 {d n s : Nat} {m : hm_M} {h : Nat → Option va_E} {Q : Option Value → hm_H → Prop} {v : Int32} (hQ : Q (some (.int (op_rate m v).1)) (hm_hM (op_rate m v).2 h n s)) : hm_T (d + 1) 168 0 [.ref 61, .int v, .retAddr 0] [] (hm_hM m h n s) Q := by
  refine r_iload_n k_168_0 rfl ?_
  refine r_i2l k_168_1 ?_
  refine r_lconst k_168_2 cl_0 ?_
  refine r_ldc2_w m_168 k_168_3 ll_8_244 ?_
  refine r_calls3 m_168 k_168_6 cl_8_84 m_119 (by decide) rfl rfl (Nat.le_of_ble_eq_true rfl) (Nat.le_of_ble_eq_true rfl) ?_
  refine s_119 ?_
  rw [hm_ifc (hm_rngE2 v (a := 0) (b := 100) (lo := 0) (hi := 100) (by decide +kernel) (by decide +kernel))]
  refine r_if_ne k_168_9 rfl (fun c_9 => ?_) (fun c_9 => ?_)
  · have c_9 := hm_if1 c_9
    refine r_aload_n k_168_16 rfl ?_
    refine r_get m_168 k_168_17 fl_8_246 rfl rfl ?_
    refine r_istore_n k_168_20 rfl ?_
    refine r_aload_n k_168_21 rfl ?_
    refine r_iload_n k_168_22 rfl ?_
    refine r_put m_168 k_168_23 fl_8_246 rfl (Nat.le_of_ble_eq_true rfl) rfl rfl (wM_23 _) ?_
    refine r_iload_n k_168_26 rfl ?_
    exact hm_T.ret m_168 k_168_27 rfl (by first | (simp only [op_rate, c_9, and_self, not_true_eq_false, not_false_eq_true, ↓reduceIte] at hQ; exact hQ) | contradiction)
  · have c_9 := hm_if0 (Decidable.of_not_not c_9)
    refine r_sipush k_168_12 cs_m1002 ?_
    exact hm_T.ret m_168 k_168_15 rfl (by first | (simp only [op_rate, c_9, and_self, not_true_eq_false, not_false_eq_true, ↓reduceIte] at hQ; exact hQ) | contradiction)
def op_bearer (m : hm_M) (v : Int32) : Int32 × hm_M := if (140 ≤ v.toInt ∧ v.toInt ≤ 210) then (if m 2 0 = nI 12 then (-1004, m) else (m 2 0, hm_uM (hm_uM m 3 (upd (m 3) (m 2 0).toNatClampNeg v)) 2 (fun _ => m 2 0 + nI 1))) else (-1002, m)
set_option maxRecDepth 20000 in
theorem s_127 {d n s : Nat} {m : hm_M} {h : Nat → Option va_E} {Q : Option Value → hm_H → Prop} {v : Int32} {nb : Nat} (hb : m 2 0 = nI nb) (hb12 : nb ≤ 12) (hQ : Q (some (.int (op_bearer m v).1)) (hm_hM (op_bearer m v).2 h n s)) : hm_T (d + 1) 127 0 [.ref 61, .int v] [] (hm_hM m h n s) Q := by
  refine r_iload_n k_127_0 rfl ?_
  refine r_i2l k_127_1 ?_
  refine r_ldc2_w m_127 k_127_2 ll_8_120 ?_
  refine r_ldc2_w m_127 k_127_5 ll_8_122 ?_
  refine r_calls3 m_127 k_127_8 cl_8_84 m_119 (by decide) rfl rfl (Nat.le_of_ble_eq_true rfl) (Nat.le_of_ble_eq_true rfl) ?_
  refine s_119 ?_
  rw [hm_ifc (hm_rngE2 v (a := 140) (b := 210) (lo := 140) (hi := 210) (by decide +kernel) (by decide +kernel))]
  refine r_if_ne k_127_11 rfl (fun c_11 => ?_) (fun c_11 => ?_)
  · have c_11 := hm_if1 c_11
    refine r_aload_n k_127_18 rfl ?_
    refine r_get m_127 k_127_19 fl_8_124 rfl rfl ?_
    refine r_bipush k_127_22 cb_12 ?_
    refine r_icmp_ne k_127_24 rfl (fun c_24 => ?_) (fun c_24 => ?_)
    · refine r_aload_n k_127_31 rfl ?_
      refine r_get m_127 k_127_32 fl_8_16 rfl rfl ?_
      refine r_aload_n k_127_35 rfl ?_
      refine r_get m_127 k_127_36 fl_8_124 rfl rfl ?_
      refine r_iload_n k_127_39 rfl ?_
      refine r_iastn (k := nb) k_127_40 rfl rfl hb (hm_ltn (hb ▸ c_24) hb12) (by decide) (wM_3 _) ?_
      refine r_aload_n k_127_41 rfl ?_
      refine r_dup k_127_42 rfl ?_
      refine r_get m_127 k_127_43 fl_8_124 rfl rfl ?_
      refine r_iconst k_127_46 ci_1 ?_
      refine r_iadd k_127_47 ?_
      refine r_put m_127 k_127_48 fl_8_124 rfl (Nat.le_of_ble_eq_true rfl) rfl rfl (wM_2 _) ?_
      refine r_aload_n k_127_51 rfl ?_
      refine r_get m_127 k_127_52 fl_8_124 rfl rfl ?_
      refine r_iconst k_127_55 ci_1 ?_
      refine r_isub k_127_56 ?_
      exact hm_T.ret m_127 k_127_57 rfl (by simp only [op_bearer, c_11, c_24, and_self, ↓reduceIte] at hQ; rw [show (m 2 0).toNatClampNeg = nb by rw [hb]; exact nI_clamp (by omega)] at hQ; show Q (some (.int (m 2 0 + nI 1 - nI 1))) (hm_hM (hm_uM (hm_uM m 3 (upd (m 3) nb v)) 2 (fun _ => m 2 0 + nI 1)) h n s); rw [hm_addsub]; exact hQ)
    · have c_24 := Decidable.of_not_not c_24
      refine r_sipush k_127_27 cs_m1004 ?_
      exact hm_T.ret m_127 k_127_30 rfl (by first | (simp only [op_bearer, c_11, c_24, and_self, not_true_eq_false, not_false_eq_true, ↓reduceIte] at hQ; exact hQ) | contradiction)
  · have c_11 := hm_if0 (Decidable.of_not_not c_11)
    refine r_sipush k_127_14 cs_m1002 ?_
    exact hm_T.ret m_127 k_127_17 rfl (by first | (simp only [op_bearer, c_11, and_self, not_true_eq_false, not_false_eq_true, ↓reduceIte] at hQ; exact hQ) | contradiction)
set_option maxRecDepth 20000 in
theorem l_164 {d n s : Nat} {m : hm_M} {h : Nat → Option va_E} {Q : Option Value → hm_H → Prop} {np : Nat} (hp : m 18 0 = nI np) (hp16 : np ≤ 16) (hQ : Q (some (.int (hm_sg (m 20) np))) (hm_hM m h n s)) : ∀ (k c : Nat), c + k = np → hm_T d 164 4 [.ref 61, .int (hm_sg (m 20) c), .int (nI c)] [] (hm_hM m h n s) Q := by
  intro k
  induction k with
  | zero =>
    intro c hc
    refine r_iload_n k_164_4 rfl ?_
    refine r_aload_n k_164_5 rfl ?_
    refine r_get m_164 k_164_6 fl_8_232 rfl rfl ?_
    rw [hp]
    refine r_icmp_ge k_164_9 rfl (fun c_9 => ?_) (fun z => absurd (nI_le (show np ≤ c by omega) (by omega)) z)
    refine r_iload_n k_164_27 rfl ?_
    exact hm_T.ret m_164 k_164_28 rfl (by rw [show np = c by omega] at hQ; exact hQ)
  | succ k ih =>
    intro c hc
    refine r_iload_n k_164_4 rfl ?_
    refine r_aload_n k_164_5 rfl ?_
    refine r_get m_164 k_164_6 fl_8_232 rfl rfl ?_
    rw [hp]
    refine r_icmp_ge k_164_9 rfl (fun z => absurd z (nI_ge (show c < np by omega) (by omega))) (fun c_9 => ?_)
    refine r_iload_n k_164_12 rfl ?_
    refine r_aload_n k_164_13 rfl ?_
    refine r_get m_164 k_164_14 fl_8_57 rfl rfl ?_
    refine r_iload_n k_164_17 rfl ?_
    refine r_ialdn (k := c) k_164_18 rfl (Or.inl rfl) rfl (by omega) (by decide) ?_
    refine r_iadd k_164_19 ?_
    refine r_istore_n k_164_20 rfl ?_
    refine r_iincn k_164_21 rfl (nI_inc c) rfl ?_
    refine r_goto k_164_24 rfl ?_
    exact ih (c + 1) (by omega)
set_option maxRecDepth 20000 in
theorem s_164 {d n s : Nat} {m : hm_M} {h : Nat → Option va_E} {Q : Option Value → hm_H → Prop} {np : Nat} (hp : m 18 0 = nI np) (hp16 : np ≤ 16) (hQ : Q (some (.int (hm_sg (m 20) np))) (hm_hM m h n s)) : hm_T d 164 0 [.ref 61, .retAddr 0, .retAddr 0] [] (hm_hM m h n s) Q := by
  refine r_iconst k_164_0 ci_0 ?_
  refine r_istore_n k_164_1 rfl ?_
  refine r_iconst k_164_2 ci_0 ?_
  refine r_istore_n k_164_3 rfl ?_
  exact l_164 hp hp16 hQ np 0 (by omega)
def op_plan (m : hm_M) (v : Int32) : Int32 × hm_M := if (0 ≤ v.toInt ∧ v.toInt ≤ 1000000) then (if m 18 0 = nI 16 then (-1004, m) else (m 18 0, hm_uM (hm_uM (hm_uM (hm_uM (hm_uM m 19 (upd (m 19) (m 18 0).toNatClampNeg v)) 20 (upd (m 20) (m 18 0).toNatClampNeg (nI 0))) 21 (upd (m 21) (m 18 0).toNatClampNeg (-1))) 22 (upd (m 22) (m 18 0).toNatClampNeg (nI 0))) 18 (fun _ => m 18 0 + nI 1))) else (-1002, m)
set_option maxRecDepth 20000 in
theorem s_165 {d n s : Nat} {m : hm_M} {h : Nat → Option va_E} {Q : Option Value → hm_H → Prop} {np : Nat} (hp : m 18 0 = nI np) (hp16 : np ≤ 16) {v : Int32} (hQ : Q (some (.int (op_plan m v).1)) (hm_hM (op_plan m v).2 h n s)) : hm_T (d + 1) 165 0 [.ref 61, .int v] [] (hm_hM m h n s) Q := by
  refine r_iload_n k_165_0 rfl ?_
  refine r_i2l k_165_1 ?_
  refine r_lconst k_165_2 cl_0 ?_
  refine r_ldc2_w m_165 k_165_3 ll_8_238 ?_
  refine r_calls3 m_165 k_165_6 cl_8_84 m_119 (by decide) rfl rfl (Nat.le_of_ble_eq_true rfl) (Nat.le_of_ble_eq_true rfl) ?_
  refine s_119 ?_
  rw [hm_ifc (hm_rngE2 v (a := 0) (b := 1000000) (lo := 0) (hi := 1000000) (by decide +kernel) (by decide +kernel))]
  refine r_if_ne k_165_9 rfl (fun c_9 => ?_) (fun c_9 => ?_)
  · have c_9 := hm_if1 c_9
    refine r_aload_n k_165_16 rfl ?_
    refine r_get m_165 k_165_17 fl_8_232 rfl rfl ?_
    refine r_bipush k_165_20 cb_16 ?_
    refine r_icmp_ne k_165_22 rfl (fun c_22 => ?_) (fun c_22 => ?_)
    · refine r_aload_n k_165_29 rfl ?_
      refine r_get m_165 k_165_30 fl_8_54 rfl rfl ?_
      refine r_aload_n k_165_33 rfl ?_
      refine r_get m_165 k_165_34 fl_8_232 rfl rfl ?_
      refine r_iload_n k_165_37 rfl ?_
      refine r_iastn (k := np) k_165_38 rfl rfl hp (hm_ltn (hp ▸ c_22) hp16) (by decide) (wM_19 _) ?_
      refine r_aload_n k_165_39 rfl ?_
      refine r_get m_165 k_165_40 fl_8_57 rfl rfl ?_
      refine r_aload_n k_165_43 rfl ?_
      refine r_get m_165 k_165_44 fl_8_232 rfl rfl ?_
      refine r_iconst k_165_47 ci_0 ?_
      refine r_iastn (k := np) k_165_48 rfl rfl hp (hm_ltn (hp ▸ c_22) hp16) (by decide) (wM_20 _) ?_
      refine r_aload_n k_165_49 rfl ?_
      refine r_get m_165 k_165_50 fl_8_60 rfl rfl ?_
      refine r_aload_n k_165_53 rfl ?_
      refine r_get m_165 k_165_54 fl_8_232 rfl rfl ?_
      refine r_iconst k_165_57 ci_m1 ?_
      refine r_iastn (k := np) k_165_58 rfl rfl hp (hm_ltn (hp ▸ c_22) hp16) (by decide) (wM_21 _) ?_
      refine r_aload_n k_165_59 rfl ?_
      refine r_get m_165 k_165_60 fl_8_63 rfl rfl ?_
      refine r_aload_n k_165_63 rfl ?_
      refine r_get m_165 k_165_64 fl_8_232 rfl rfl ?_
      refine r_iconst k_165_67 ci_0 ?_
      refine r_iastn (k := np) k_165_68 rfl rfl hp (hm_ltn (hp ▸ c_22) hp16) (by decide) (wM_22 _) ?_
      refine r_aload_n k_165_69 rfl ?_
      refine r_dup k_165_70 rfl ?_
      refine r_get m_165 k_165_71 fl_8_232 rfl rfl ?_
      refine r_iconst k_165_74 ci_1 ?_
      refine r_iadd k_165_75 ?_
      refine r_put m_165 k_165_76 fl_8_232 rfl (Nat.le_of_ble_eq_true rfl) rfl rfl (wM_18 _) ?_
      refine r_aload_n k_165_79 rfl ?_
      refine r_get m_165 k_165_80 fl_8_232 rfl rfl ?_
      refine r_iconst k_165_83 ci_1 ?_
      refine r_isub k_165_84 ?_
      exact hm_T.ret m_165 k_165_85 rfl (by simp only [op_plan, c_9, c_22, and_self, ↓reduceIte] at hQ; rw [show (m 18 0).toNatClampNeg = np by rw [hp]; exact nI_clamp (by omega)] at hQ; show Q (some (.int (m 18 0 + nI 1 - nI 1))) (hm_hM (hm_uM (hm_uM (hm_uM (hm_uM (hm_uM m 19 (upd (m 19) np v)) 20 (upd (m 20) np (nI 0))) 21 (upd (m 21) np (-1))) 22 (upd (m 22) np (nI 0))) 18 (fun _ => m 18 0 + nI 1)) h n s); rw [hm_addsub]; exact hQ)
    · have c_22 := Decidable.of_not_not c_22
      refine r_sipush k_165_25 cs_m1004 ?_
      exact hm_T.ret m_165 k_165_28 rfl (by first | (simp only [op_plan, c_9, c_22, and_self, not_true_eq_false, not_false_eq_true, ↓reduceIte] at hQ; exact hQ) | contradiction)
  · have c_9 := hm_if0 (Decidable.of_not_not c_9)
    refine r_sipush k_165_12 cs_m1002 ?_
    exact hm_T.ret m_165 k_165_15 rfl (by first | (simp only [op_plan, c_9, and_self, not_true_eq_false, not_false_eq_true, ↓reduceIte] at hQ; exact hQ) | contradiction)
def op_planned (m : hm_M) (pl w : Int32) : Int32 := if (0 ≤ pl.toInt ∧ pl.toInt < (m 18 0).toNatClampNeg) then (if w.toInt = 0 then m 19 pl.toNatClampNeg else if w.toInt = 1 then m 20 pl.toNatClampNeg else if w.toInt = 2 then m 21 pl.toNatClampNeg else if w.toInt = 3 then m 22 pl.toNatClampNeg else -1002) else -1001
set_option maxRecDepth 20000 in
theorem s_173 {d n s : Nat} {m : hm_M} {h : Nat → Option va_E} {Q : Option Value → hm_H → Prop} {np : Nat} (hp : m 18 0 = nI np) (hp16 : np ≤ 16) {pl w : Int32} (hQ : Q (some (.int (op_planned m pl w))) (hm_hM m h n s)) : hm_T (d + 2) 173 0 [.ref 61, .int pl, .int w] [] (hm_hM m h n s) Q := by
  refine r_aload_n k_173_0 rfl ?_
  refine r_iload_n k_173_1 rfl ?_
  refine r_callv2 m_173 k_173_2 cl_8_240 m_167 (by decide) rfl rfl (Nat.le_of_ble_eq_true rfl) (Nat.le_of_ble_eq_true rfl) rfl rfl ?_
  refine s_167 hp hp16 ?_
  refine r_if_ne k_173_5 rfl (fun c_5 => ?_) (fun c_5 => ?_)
  · have c_5 := hm_if1 c_5
    obtain ⟨pk, pkb, rfl, -, pkc⟩ := hm_nIof2 c_5.1 (N := np) (by omega)
    refine r_iload_n k_173_12 rfl ?_
    by_cases c_13 : w.toInt < 0 ∨ 3 < w.toInt
    · refine r_tableOut k_173_13 c_13 rfl ?_
      refine r_sipush k_173_72 cs_m1002 ?_
      exact hm_T.ret m_173 k_173_75 rfl (by unfold op_planned at hQ; rw [hp, nI_clamp (show np < 2 ^ 31 by omega)] at hQ; rw [if_pos c_5, if_neg (by omega), if_neg (by omega), if_neg (by omega), if_neg (by omega)] at hQ; exact hQ)
    · have hs_13 : w.toInt = 0 ∨ w.toInt = 1 ∨ w.toInt = 2 ∨ w.toInt = 3 := by omega
      rcases hs_13 with hs_13 | hs_13 | hs_13 | hs_13
      · refine r_tableIn k_173_13 c_13 (by rw [hs_13]; rfl) rfl ?_
        refine r_aload_n k_173_44 rfl ?_
        refine r_get m_173 k_173_45 fl_8_54 rfl rfl ?_
        refine r_iload_n k_173_48 rfl ?_
        refine r_ialdn (k := pk) k_173_49 rfl (Or.inl rfl) rfl (by omega) (by decide) ?_
        exact hm_T.ret m_173 k_173_50 rfl (by unfold op_planned at hQ; rw [hp, nI_clamp (show np < 2 ^ 31 by omega)] at hQ; rw [if_pos c_5, if_pos hs_13, pkc] at hQ; exact hQ)
      · refine r_tableIn k_173_13 c_13 (by rw [hs_13]; rfl) rfl ?_
        refine r_aload_n k_173_51 rfl ?_
        refine r_get m_173 k_173_52 fl_8_57 rfl rfl ?_
        refine r_iload_n k_173_55 rfl ?_
        refine r_ialdn (k := pk) k_173_56 rfl (Or.inl rfl) rfl (by omega) (by decide) ?_
        exact hm_T.ret m_173 k_173_57 rfl (by unfold op_planned at hQ; rw [hp, nI_clamp (show np < 2 ^ 31 by omega)] at hQ; rw [if_pos c_5, if_neg (by omega), if_pos hs_13, pkc] at hQ; exact hQ)
      · refine r_tableIn k_173_13 c_13 (by rw [hs_13]; rfl) rfl ?_
        refine r_aload_n k_173_58 rfl ?_
        refine r_get m_173 k_173_59 fl_8_60 rfl rfl ?_
        refine r_iload_n k_173_62 rfl ?_
        refine r_ialdn (k := pk) k_173_63 rfl (Or.inl rfl) rfl (by omega) (by decide) ?_
        exact hm_T.ret m_173 k_173_64 rfl (by unfold op_planned at hQ; rw [hp, nI_clamp (show np < 2 ^ 31 by omega)] at hQ; rw [if_pos c_5, if_neg (by omega), if_neg (by omega), if_pos hs_13, pkc] at hQ; exact hQ)
      · refine r_tableIn k_173_13 c_13 (by rw [hs_13]; rfl) rfl ?_
        refine r_aload_n k_173_65 rfl ?_
        refine r_get m_173 k_173_66 fl_8_63 rfl rfl ?_
        refine r_iload_n k_173_69 rfl ?_
        refine r_ialdn (k := pk) k_173_70 rfl (Or.inl rfl) rfl (by omega) (by decide) ?_
        exact hm_T.ret m_173 k_173_71 rfl (by unfold op_planned at hQ; rw [hp, nI_clamp (show np < 2 ^ 31 by omega)] at hQ; rw [if_pos c_5, if_neg (by omega), if_neg (by omega), if_neg (by omega), if_pos hs_13, pkc] at hQ; exact hQ)
  · have c_5 := hm_if0 (Decidable.of_not_not c_5)
    refine r_sipush k_173_8 cs_m1001 ?_
    exact hm_T.ret m_173 k_173_11 rfl (by unfold op_planned at hQ; rw [hp, nI_clamp (show np < 2 ^ 31 by omega)] at hQ; rw [if_neg c_5] at hQ; exact hQ)
def op_pay (m : hm_M) (pl v : Int32) : Int32 × hm_M := if (0 ≤ pl.toInt ∧ pl.toInt < (m 18 0).toNatClampNeg) then (if (1 ≤ v.toInt ∧ v.toInt ≤ 1000000) then (if m 20 pl.toNatClampNeg + v ≤ 100000000 then (m 20 pl.toNatClampNeg + v, hm_uM m 20 (upd (m 20) pl.toNatClampNeg (m 20 pl.toNatClampNeg + v))) else (-1003, m)) else (-1002, m)) else (-1001, m)
set_option maxRecDepth 20000 in
theorem s_166 {d n s : Nat} {m : hm_M} {h : Nat → Option va_E} {Q : Option Value → hm_H → Prop} {np : Nat} (hp : m 18 0 = nI np) (hp16 : np ≤ 16) {pl v : Int32} (hQ : Q (some (.int (op_pay m pl v).1)) (hm_hM (op_pay m pl v).2 h n s)) : hm_T (d + 2) 166 0 [.ref 61, .int pl, .int v] [] (hm_hM m h n s) Q := by
  refine r_aload_n k_166_0 rfl ?_
  refine r_iload_n k_166_1 rfl ?_
  refine r_callv2 m_166 k_166_2 cl_8_240 m_167 (by decide) rfl rfl (Nat.le_of_ble_eq_true rfl) (Nat.le_of_ble_eq_true rfl) rfl rfl ?_
  refine s_167 hp hp16 ?_
  refine r_if_ne k_166_5 rfl (fun c_5 => ?_) (fun c_5 => ?_)
  · have c_5 := hm_if1 c_5
    obtain ⟨pk, pkb, rfl, -, pkc⟩ := hm_nIof2 c_5.1 (N := np) (by omega)
    refine r_iload_n k_166_12 rfl ?_
    refine r_i2l k_166_13 ?_
    refine r_lconst k_166_14 cl_1 ?_
    refine r_ldc2_w m_166 k_166_15 ll_8_238 ?_
    refine r_calls3 m_166 k_166_18 cl_8_84 m_119 (by decide) rfl rfl (Nat.le_of_ble_eq_true rfl) (Nat.le_of_ble_eq_true rfl) ?_
    refine s_119 ?_
    rw [hm_ifc (hm_rngE2 v (a := 1) (b := 1000000) (lo := 1) (hi := 1000000) (by decide +kernel) (by decide +kernel))]
    refine r_if_ne k_166_21 rfl (fun c_21 => ?_) (fun c_21 => ?_)
    · have c_21 := hm_if1 c_21
      refine r_aload_n k_166_28 rfl ?_
      refine r_get m_166 k_166_29 fl_8_57 rfl rfl ?_
      refine r_iload_n k_166_32 rfl ?_
      refine r_ialdn (k := pk) k_166_33 rfl (Or.inl rfl) rfl (by omega) (by decide) ?_
      refine r_iload_n k_166_34 rfl ?_
      refine r_iadd k_166_35 ?_
      refine r_ldc m_166 k_166_36 il_8_243 ?_
      refine r_icmp_le k_166_38 rfl (fun c_38 => ?_) (fun c_38 => ?_)
      · refine r_aload_n k_166_45 rfl ?_
        refine r_get m_166 k_166_46 fl_8_57 rfl rfl ?_
        refine r_iload_n k_166_49 rfl ?_
        refine r_dup2 k_166_50 rfl rfl ?_
        refine r_ialdn (k := pk) k_166_51 rfl (Or.inl rfl) rfl (by omega) (by decide) ?_
        refine r_iload_n k_166_52 rfl ?_
        refine r_iadd k_166_53 ?_
        refine r_iastn (k := pk) k_166_54 rfl rfl rfl (by omega) (by decide) (wM_20 _) ?_
        refine r_aload_n k_166_55 rfl ?_
        refine r_get m_166 k_166_56 fl_8_57 rfl rfl ?_
        refine r_iload_n k_166_59 rfl ?_
        refine r_ialdn (k := pk) k_166_60 rfl (Or.inl rfl) rfl (by omega) (by decide) ?_
        exact hm_T.ret m_166 k_166_61 rfl (by unfold op_pay at hQ; rw [hp, nI_clamp (show np < 2 ^ 31 by omega)] at hQ; rw [if_pos c_5, if_pos c_21, pkc, if_pos c_38] at hQ; rw [show (hm_uM m 20 (upd (m 20) pk (m 20 pk + v))) 20 pk = m 20 pk + v from hm_upd_self _ _ _]; exact hQ)
      · refine r_sipush k_166_41 cs_m1003 ?_
        exact hm_T.ret m_166 k_166_44 rfl (by unfold op_pay at hQ; rw [hp, nI_clamp (show np < 2 ^ 31 by omega)] at hQ; rw [if_pos c_5, if_pos c_21, pkc, if_neg c_38] at hQ; exact hQ)
    · have c_21 := hm_if0 (Decidable.of_not_not c_21)
      refine r_sipush k_166_24 cs_m1002 ?_
      exact hm_T.ret m_166 k_166_27 rfl (by unfold op_pay at hQ; rw [hp, nI_clamp (show np < 2 ^ 31 by omega)] at hQ; rw [if_pos c_5, if_neg c_21] at hQ; exact hQ)
  · have c_5 := hm_if0 (Decidable.of_not_not c_5)
    refine r_sipush k_166_8 cs_m1001 ?_
    exact hm_T.ret m_166 k_166_11 rfl (by unfold op_pay at hQ; rw [hp, nI_clamp (show np < 2 ^ 31 by omega)] at hQ; rw [if_neg c_5] at hQ; exact hQ)
def hm_so (c : Int32) : Int32 := if ¬ c = nI 102 then (if ¬ c = nI 115 then (if ¬ c = nI 98 then (if ¬ c = nI 103 then -1 else nI 3) else nI 2) else nI 1) else nI 0
set_option maxRecDepth 20000 in
theorem s_132 {d : Nat} {hp : hm_H} {Q : Option Value → hm_H → Prop} {c : Int32} (hQ : Q (some (.int (hm_so c))) hp) : hm_T d 132 0 [.int c] [] hp Q := by
  refine r_iload_n k_132_0 rfl ?_
  refine r_bipush k_132_1 cb_102 ?_
  refine r_icmp_ne k_132_3 rfl (fun c_3 => ?_) (fun c_3 => ?_)
  · refine r_iload_n k_132_10 rfl ?_
    refine r_bipush k_132_11 cb_115 ?_
    refine r_icmp_ne k_132_13 rfl (fun c_13 => ?_) (fun c_13 => ?_)
    · refine r_iload_n k_132_20 rfl ?_
      refine r_bipush k_132_21 cb_98 ?_
      refine r_icmp_ne k_132_23 rfl (fun c_23 => ?_) (fun c_23 => ?_)
      · refine r_iload_n k_132_30 rfl ?_
        refine r_bipush k_132_31 cb_103 ?_
        refine r_icmp_ne k_132_33 rfl (fun c_33 => ?_) (fun c_33 => ?_)
        · refine r_iconst k_132_40 ci_m1 ?_
          exact hm_T.ret m_132 k_132_41 rfl (by first | (simp only [hm_so, c_3, c_13, c_23, c_33, and_self, not_true_eq_false, not_false_eq_true, ↓reduceIte] at hQ; exact hQ) | contradiction)
        · have c_33 := Decidable.of_not_not c_33
          refine r_iconst k_132_36 ci_3 ?_
          refine r_goto k_132_37 rfl ?_
          exact hm_T.ret m_132 k_132_41 rfl (by first | (simp only [hm_so, c_3, c_13, c_23, c_33, and_self, not_true_eq_false, not_false_eq_true, ↓reduceIte] at hQ; exact hQ) | contradiction)
      · have c_23 := Decidable.of_not_not c_23
        refine r_iconst k_132_26 ci_2 ?_
        refine r_goto k_132_27 rfl ?_
        exact hm_T.ret m_132 k_132_41 rfl (by first | (simp only [hm_so, c_3, c_13, c_23, and_self, not_true_eq_false, not_false_eq_true, ↓reduceIte] at hQ; exact hQ) | contradiction)
    · have c_13 := Decidable.of_not_not c_13
      refine r_iconst k_132_16 ci_1 ?_
      refine r_goto k_132_17 rfl ?_
      exact hm_T.ret m_132 k_132_41 rfl (by first | (simp only [hm_so, c_3, c_13, and_self, not_true_eq_false, not_false_eq_true, ↓reduceIte] at hQ; exact hQ) | contradiction)
  · have c_3 := Decidable.of_not_not c_3
    refine r_iconst k_132_6 ci_0 ?_
    refine r_goto k_132_7 rfl ?_
    exact hm_T.ret m_132 k_132_41 rfl (by first | (simp only [hm_so, c_3, and_self, not_true_eq_false, not_false_eq_true, ↓reduceIte] at hQ; exact hQ) | contradiction)
def hm_out (b x y : Int32) : Int32 := if x < 0 then (if y ≤ b then nI 0 else nI 1) else (if x < b then nI 1 else (if y ≤ b then nI 0 else nI 1))
set_option maxRecDepth 20000 in
theorem s_140 {d n s : Nat} {m : hm_M} {h : Nat → Option va_E} {Q : Option Value → hm_H → Prop} {c t : Nat} {hour : Int32} (hc : c < 16) (ht : t < 4) {f : Nat} (hf : m 10 c = nI f) (hf4 : f < 4) (hQ : Q (some (.int (hm_out (hour - m 11 c) (m 4 (20 * f + 5 * t + 1)) (m 4 (20 * f + 5 * t + 2))))) (hm_hM m h n s)) : hm_T (d + 1) 140 0 [.ref 61, .int (nI c), .int (nI t), .int hour, .retAddr 0] [] (hm_hM m h n s) Q := by
  refine r_iload_n k_140_0 rfl ?_
  refine r_aload_n k_140_1 rfl ?_
  refine r_get m_140 k_140_2 fl_8_35 rfl rfl ?_
  refine r_iload_n k_140_5 rfl ?_
  refine r_ialdn (k := c) k_140_6 rfl (Or.inl rfl) rfl (by omega) (by decide) ?_
  refine r_isub k_140_7 ?_
  refine r_istore k_140_8 rfl ?_
  refine r_aload_n k_140_10 rfl ?_
  refine r_iload_n k_140_11 rfl ?_
  refine r_iload_n k_140_12 rfl ?_
  refine r_iconst k_140_13 ci_1 ?_
  refine r_callv4 m_140 k_140_14 cl_8_169 m_138 (by decide) rfl rfl (Nat.le_of_ble_eq_true rfl) (Nat.le_of_ble_eq_true rfl) rfl rfl ?_
  refine s_138 (c := c) (t := t) (w := 1) hc ht (by decide) hf hf4 ?_
  refine r_if_lt k_140_17 rfl (fun c_17 => ?_) (fun c_17 => ?_)
  · refine r_iload k_140_32 rfl ?_
    refine r_aload_n k_140_34 rfl ?_
    refine r_iload_n k_140_35 rfl ?_
    refine r_iload_n k_140_36 rfl ?_
    refine r_iconst k_140_37 ci_2 ?_
    refine r_callv4 m_140 k_140_38 cl_8_169 m_138 (by decide) rfl rfl (Nat.le_of_ble_eq_true rfl) (Nat.le_of_ble_eq_true rfl) rfl rfl ?_
    refine s_138 (c := c) (t := t) (w := 2) hc ht (by decide) hf hf4 ?_
    refine r_icmp_ge k_140_41 rfl (fun c_41 => ?_) (fun c_41 => ?_)
    · refine r_iconst k_140_48 ci_0 ?_
      exact hm_T.ret m_140 k_140_49 rfl (by first | (simp only [hm_out, c_17, c_41, and_self, not_true_eq_false, not_false_eq_true, ↓reduceIte] at hQ; exact hQ) | contradiction)
    · refine r_iconst k_140_44 ci_1 ?_
      refine r_goto k_140_45 rfl ?_
      exact hm_T.ret m_140 k_140_49 rfl (by first | (simp only [hm_out, c_17, c_41, and_self, not_true_eq_false, not_false_eq_true, ↓reduceIte] at hQ; exact hQ) | contradiction)
  · refine r_iload k_140_20 rfl ?_
    refine r_aload_n k_140_22 rfl ?_
    refine r_iload_n k_140_23 rfl ?_
    refine r_iload_n k_140_24 rfl ?_
    refine r_iconst k_140_25 ci_1 ?_
    refine r_callv4 m_140 k_140_26 cl_8_169 m_138 (by decide) rfl rfl (Nat.le_of_ble_eq_true rfl) (Nat.le_of_ble_eq_true rfl) rfl rfl ?_
    refine s_138 (c := c) (t := t) (w := 1) hc ht (by decide) hf hf4 ?_
    refine r_icmp_gt k_140_29 rfl (fun c_29 => ?_) (fun c_29 => ?_)
    · refine r_iconst k_140_44 ci_1 ?_
      refine r_goto k_140_45 rfl ?_
      exact hm_T.ret m_140 k_140_49 rfl (by first | (simp only [hm_out, c_17, c_29, and_self, not_true_eq_false, not_false_eq_true, ↓reduceIte] at hQ; exact hQ) | contradiction)
    · refine r_iload k_140_32 rfl ?_
      refine r_aload_n k_140_34 rfl ?_
      refine r_iload_n k_140_35 rfl ?_
      refine r_iload_n k_140_36 rfl ?_
      refine r_iconst k_140_37 ci_2 ?_
      refine r_callv4 m_140 k_140_38 cl_8_169 m_138 (by decide) rfl rfl (Nat.le_of_ble_eq_true rfl) (Nat.le_of_ble_eq_true rfl) rfl rfl ?_
      refine s_138 (c := c) (t := t) (w := 2) hc ht (by decide) hf hf4 ?_
      refine r_icmp_ge k_140_41 rfl (fun c_41 => ?_) (fun c_41 => ?_)
      · refine r_iconst k_140_48 ci_0 ?_
        exact hm_T.ret m_140 k_140_49 rfl (by first | (simp only [hm_out, c_17, c_29, c_41, and_self, not_true_eq_false, not_false_eq_true, ↓reduceIte] at hQ; exact hQ) | contradiction)
      · refine r_iconst k_140_44 ci_1 ?_
        refine r_goto k_140_45 rfl ?_
        exact hm_T.ret m_140 k_140_49 rfl (by first | (simp only [hm_out, c_17, c_29, c_41, and_self, not_true_eq_false, not_false_eq_true, ↓reduceIte] at hQ; exact hQ) | contradiction)
/-- the last plan below n that is tied to c -/
def hm_po (t : Nat → Int32) (c : Int32) : Nat → Int32
  | 0 => -1
  | n + 1 => if ¬ t n = c then hm_po t c n else nI n
set_option maxRecDepth 20000 in
theorem l_171 {d n s : Nat} {m : hm_M} {h : Nat → Option va_E} {Q : Option Value → hm_H → Prop} {np : Nat} (hp : m 18 0 = nI np) (hp16 : np ≤ 16) {x : Int32} (hQ : Q (some (.int (hm_po (m 21) x np))) (hm_hM m h n s)) : ∀ (k c : Nat), c + k = np → hm_T d 171 4 [.ref 61, .int x, .int (hm_po (m 21) x c), .int (nI c)] [] (hm_hM m h n s) Q := by
  intro k
  induction k with
  | zero =>
    intro c hc
    refine r_iload_n k_171_4 rfl ?_
    refine r_aload_n k_171_5 rfl ?_
    refine r_get m_171 k_171_6 fl_8_232 rfl rfl ?_
    rw [hp]
    refine r_icmp_ge k_171_9 rfl (fun c_9 => ?_) (fun z => absurd (nI_le (show np ≤ c by omega) (by omega)) z)
    refine r_iload_n k_171_34 rfl ?_
    exact hm_T.ret m_171 k_171_35 rfl (by rw [show np = c by omega] at hQ; exact hQ)
  | succ k ih =>
    intro c hc
    refine r_iload_n k_171_4 rfl ?_
    refine r_aload_n k_171_5 rfl ?_
    refine r_get m_171 k_171_6 fl_8_232 rfl rfl ?_
    rw [hp]
    refine r_icmp_ge k_171_9 rfl (fun z => absurd z (nI_ge (show c < np by omega) (by omega))) (fun c_9 => ?_)
    refine r_aload_n k_171_12 rfl ?_
    refine r_get m_171 k_171_13 fl_8_60 rfl rfl ?_
    refine r_iload_n k_171_16 rfl ?_
    refine r_ialdn (k := c) k_171_17 rfl (Or.inl rfl) rfl (by omega) (by decide) ?_
    refine r_iload_n k_171_18 rfl ?_
    refine r_icmp_ne k_171_19 rfl (fun c_19 => ?_) (fun c_19 => ?_)
    · refine r_iload_n k_171_26 rfl ?_
      refine r_istore_n k_171_27 rfl ?_
      refine r_iincn k_171_28 rfl (nI_inc c) rfl ?_
      refine r_goto k_171_31 rfl ?_
      have e := ih (c + 1) (by omega)
      rw [show hm_po (m 21) x (c + 1) = hm_po (m 21) x c from if_pos c_19] at e
      exact e
    · have c_19 := Decidable.of_not_not c_19
      refine r_iload_n k_171_22 rfl ?_
      refine r_goto k_171_23 rfl ?_
      refine r_istore_n k_171_27 rfl ?_
      refine r_iincn k_171_28 rfl (nI_inc c) rfl ?_
      refine r_goto k_171_31 rfl ?_
      have e := ih (c + 1) (by omega)
      rw [show hm_po (m 21) x (c + 1) = nI c from if_neg (fun z => z c_19)] at e
      exact e
set_option maxRecDepth 20000 in
theorem s_171 {d n s : Nat} {m : hm_M} {h : Nat → Option va_E} {Q : Option Value → hm_H → Prop} {np : Nat} (hp : m 18 0 = nI np) (hp16 : np ≤ 16) {x : Int32} (hQ : Q (some (.int (hm_po (m 21) x np))) (hm_hM m h n s)) : hm_T d 171 0 [.ref 61, .int x, .retAddr 0, .retAddr 0] [] (hm_hM m h n s) Q := by
  refine r_iconst k_171_0 ci_m1 ?_
  refine r_istore_n k_171_1 rfl ?_
  refine r_iconst k_171_2 ci_0 ?_
  refine r_istore_n k_171_3 rfl ?_
  exact l_171 hp hp16 hQ np 0 (by omega)
end
section
def hm_any (P : Nat → Bool) : Nat → Bool
  | 0 => false
  | n + 1 => hm_any P n || P n
def hm_bi (b : Bool) : Int32 := match b with
  | true => nI 1
  | false => nI 0
theorem hm_biT {b : Bool} (h : b = true) : hm_bi b = nI 1 := by rw [h]; rfl
theorem hm_biF {b : Bool} (h : b = false) : hm_bi b = nI 0 := by rw [h]; rfl
theorem hm_bi01 {b : Bool} : hm_bi b = 0 ∨ hm_bi b = 1 := by
  cases b
  · exact Or.inl rfl
  · exact Or.inr rfl
theorem hm_bi0 {b : Bool} (h : hm_bi b = 0) : b = false := by
  cases b
  · rfl
  · exact absurd h (by decide +kernel)
theorem hm_bi1 {b : Bool} (h : ¬ hm_bi b = 0) : b = true := by
  cases b
  · exact absurd (by decide +kernel) h
  · rfl
theorem hm_any_l {P : Nat → Bool} {c : Nat} (h : hm_any P c = true) : hm_any P (c + 1) = true := by
  show (hm_any P c || P c) = true
  rw [h]
  rfl
theorem hm_any_r {P : Nat → Bool} {c : Nat} (h : P c = true) : hm_any P (c + 1) = true := by
  show (hm_any P c || P c) = true
  rw [h, Bool.or_true]
theorem hm_any_n {P : Nat → Bool} {c : Nat} (h1 : hm_any P c = false) (h2 : P c = false) : hm_any P (c + 1) = false := by
  show (hm_any P c || P c) = false
  rw [h1, h2]
  rfl
theorem hm_any_lt {P : Nat → Bool} {c N : Nat} (h : P c = true) (hN : c < N) : hm_any P N = true := by
  induction N with
  | zero => omega
  | succ N ih =>
    rcases Nat.lt_or_ge c N with h1 | h1
    · exact hm_any_l (ih h1)
    · rw [show N = c by omega]
      exact hm_any_r h
set_option maxRecDepth 20000 in
theorem l_152 {d n s : Nat} {m : hm_M} {h : Nat → Option va_E} {Q : Option Value → hm_H → Prop} {c : Nat} {hour : Int32} (hc : c < 16) (hQ : Q (some (.int (hm_bi (hm_any (fun j => decide (m 15 (4 * c + j) = hour)) 4)))) (hm_hM m h n s)) : ∀ (k j : Nat), j + k = 4 → hm_T (d + 1) 152 5 [.ref 61, .int (nI c), .int hour, .int (hm_bi (hm_any (fun j => decide (m 15 (4 * c + j) = hour)) j)), .int (nI j)] [] (hm_hM m h n s) Q := by
  intro k
  induction k with
  | zero =>
    intro j hj
    refine r_iload k_152_5 rfl ?_
    refine r_iconst k_152_7 ci_4 ?_
    refine r_icmp_ge k_152_8 rfl (fun c_8 => ?_) (fun z => absurd (nI_le (show 4 ≤ j by omega) (by omega)) z)
    refine r_iload_n k_152_38 rfl ?_
    exact r_retz m_152 k_152_39 rfl hm_bi01 (by rw [show j = 4 by omega]; exact hQ)
  | succ k ih =>
    intro j hj
    refine r_iload k_152_5 rfl ?_
    refine r_iconst k_152_7 ci_4 ?_
    refine r_icmp_ge k_152_8 rfl (fun z => absurd z (nI_ge (show j < 4 by omega) (by omega))) (fun c_8 => ?_)
    refine r_iload_n k_152_11 rfl ?_
    refine r_if_ne k_152_12 rfl (fun c_12 => ?_) (fun c_12 => ?_)
    · refine r_iconst k_152_26 ci_1 ?_
      refine r_goto k_152_27 rfl ?_
      refine r_istore_n k_152_31 rfl ?_
      refine r_iincn k_152_32 rfl (nI_inc j) rfl ?_
      refine r_goto k_152_35 rfl ?_
      have e := ih (j + 1) (by omega)
      rw [hm_biT (hm_any_l (hm_bi1 c_12))] at e
      exact e
    · have c_12 := Decidable.of_not_not c_12
      refine r_aload_n k_152_15 rfl ?_
      refine r_iload_n k_152_16 rfl ?_
      refine r_iload k_152_17 rfl ?_
      refine r_callv3 m_152 k_152_19 cl_8_92 m_122 (by decide) rfl rfl (Nat.le_of_ble_eq_true rfl) (Nat.le_of_ble_eq_true rfl) rfl rfl ?_
      refine s_122 (c := c) (t := j) hc (by omega) ?_
      refine r_iload_n k_152_22 rfl ?_
      refine r_icmp_ne k_152_23 rfl (fun c_23 => ?_) (fun c_23 => ?_)
      · refine r_iconst k_152_30 ci_0 ?_
        refine r_istore_n k_152_31 rfl ?_
        refine r_iincn k_152_32 rfl (nI_inc j) rfl ?_
        refine r_goto k_152_35 rfl ?_
        have e := ih (j + 1) (by omega)
        rw [hm_biF (hm_any_n (P := (fun j => decide (m 15 (4 * c + j) = hour))) (hm_bi0 c_12) (decide_eq_false c_23))] at e
        exact e
      · have c_23 := Decidable.of_not_not c_23
        refine r_iconst k_152_26 ci_1 ?_
        refine r_goto k_152_27 rfl ?_
        refine r_istore_n k_152_31 rfl ?_
        refine r_iincn k_152_32 rfl (nI_inc j) rfl ?_
        refine r_goto k_152_35 rfl ?_
        have e := ih (j + 1) (by omega)
        rw [hm_biT (hm_any_r (P := (fun j => decide (m 15 (4 * c + j) = hour))) (decide_eq_true c_23))] at e
        exact e
set_option maxRecDepth 20000 in
theorem s_152 {d n s : Nat} {m : hm_M} {h : Nat → Option va_E} {Q : Option Value → hm_H → Prop} {c : Nat} {hour : Int32} (hc : c < 16) (hQ : Q (some (.int (hm_bi (hm_any (fun j => decide (m 15 (4 * c + j) = hour)) 4)))) (hm_hM m h n s)) : hm_T (d + 1) 152 0 [.ref 61, .int (nI c), .int hour, .retAddr 0, .retAddr 0] [] (hm_hM m h n s) Q := by
  refine r_iconst k_152_0 ci_0 ?_
  refine r_istore_n k_152_1 rfl ?_
  refine r_iconst k_152_2 ci_0 ?_
  refine r_istore k_152_3 rfl ?_
  exact l_152 hc hQ 4 0 (by omega)
set_option maxRecDepth 20000 in
theorem l_151 {d n s : Nat} {m : hm_M} {h : Nat → Option va_E} {Q : Option Value → hm_H → Prop} {c t : Nat} {hour : Int32} (hc : c < 16) (ht : t < 4) {f : Nat} (hf : m 10 c = nI f) (hf4 : f < 4) (hQ : Q (some (.int (hm_bi (hm_any (fun j => decide (¬ m 15 (4 * c + j) < 0) && (decide (¬ hour < m 15 (4 * c + j)) && decide (m 4 (20 * f + 5 * j + 4) >>> (nI t &&& 31) &&& nI 1 = nI 1))) 4)))) (hm_hM m h n s)) : ∀ (k j : Nat), j + k = 4 → hm_T (d + 1) 151 6 [.ref 61, .int (nI c), .int (nI t), .int hour, .int (hm_bi (hm_any (fun j => decide (¬ m 15 (4 * c + j) < 0) && (decide (¬ hour < m 15 (4 * c + j)) && decide (m 4 (20 * f + 5 * j + 4) >>> (nI t &&& 31) &&& nI 1 = nI 1))) j)), .int (nI j)] [] (hm_hM m h n s) Q := by
  intro k
  induction k with
  | zero =>
    intro j hj
    refine r_iload k_151_6 rfl ?_
    refine r_iconst k_151_8 ci_4 ?_
    refine r_icmp_ge k_151_9 rfl (fun c_9 => ?_) (fun z => absurd (nI_le (show 4 ≤ j by omega) (by omega)) z)
    refine r_iload k_151_67 rfl ?_
    exact r_retz m_151 k_151_69 rfl hm_bi01 (by rw [show j = 4 by omega]; exact hQ)
  | succ k ih =>
    intro j hj
    refine r_iload k_151_6 rfl ?_
    refine r_iconst k_151_8 ci_4 ?_
    refine r_icmp_ge k_151_9 rfl (fun z => absurd z (nI_ge (show j < 4 by omega) (by omega))) (fun c_9 => ?_)
    refine r_iload k_151_12 rfl ?_
    refine r_if_ne k_151_14 rfl (fun c_14 => ?_) (fun c_14 => ?_)
    · refine r_iconst k_151_54 ci_1 ?_
      refine r_goto k_151_55 rfl ?_
      refine r_istore k_151_59 rfl ?_
      refine r_iincn k_151_61 rfl (nI_inc j) rfl ?_
      refine r_goto k_151_64 rfl ?_
      have e := ih (j + 1) (by omega)
      rw [hm_biT (hm_any_l (hm_bi1 c_14))] at e
      exact e
    · have c_14 := Decidable.of_not_not c_14
      refine r_aload_n k_151_17 rfl ?_
      refine r_iload_n k_151_18 rfl ?_
      refine r_iload k_151_19 rfl ?_
      refine r_callv3 m_151 k_151_21 cl_8_92 m_122 (by decide) rfl rfl (Nat.le_of_ble_eq_true rfl) (Nat.le_of_ble_eq_true rfl) rfl rfl ?_
      refine s_122 (c := c) (t := j) hc (by omega) ?_
      refine r_if_lt k_151_24 rfl (fun c_24 => ?_) (fun c_24 => ?_)
      · refine r_iconst k_151_58 ci_0 ?_
        refine r_istore k_151_59 rfl ?_
        refine r_iincn k_151_61 rfl (nI_inc j) rfl ?_
        refine r_goto k_151_64 rfl ?_
        have e := ih (j + 1) (by omega)
        rw [hm_biF (hm_any_n (P := (fun j => decide (¬ m 15 (4 * c + j) < 0) && (decide (¬ hour < m 15 (4 * c + j)) && decide (m 4 (20 * f + 5 * j + 4) >>> (nI t &&& 31) &&& nI 1 = nI 1)))) (hm_bi0 c_14) (by rw [decide_eq_false (fun z => z c_24)]; rfl))] at e
        exact e
      · refine r_aload_n k_151_27 rfl ?_
        refine r_iload_n k_151_28 rfl ?_
        refine r_iload k_151_29 rfl ?_
        refine r_callv3 m_151 k_151_31 cl_8_92 m_122 (by decide) rfl rfl (Nat.le_of_ble_eq_true rfl) (Nat.le_of_ble_eq_true rfl) rfl rfl ?_
        refine s_122 (c := c) (t := j) hc (by omega) ?_
        refine r_iload_n k_151_34 rfl ?_
        refine r_icmp_gt k_151_35 rfl (fun c_35 => ?_) (fun c_35 => ?_)
        · refine r_iconst k_151_58 ci_0 ?_
          refine r_istore k_151_59 rfl ?_
          refine r_iincn k_151_61 rfl (nI_inc j) rfl ?_
          refine r_goto k_151_64 rfl ?_
          have e := ih (j + 1) (by omega)
          rw [hm_biF (hm_any_n (P := (fun j => decide (¬ m 15 (4 * c + j) < 0) && (decide (¬ hour < m 15 (4 * c + j)) && decide (m 4 (20 * f + 5 * j + 4) >>> (nI t &&& 31) &&& nI 1 = nI 1)))) (hm_bi0 c_14) (by rw [show decide (¬ hour < m 15 (4 * c + j)) = false from decide_eq_false (fun z => z c_35)]; exact Bool.and_false _))] at e
          exact e
        · refine r_aload_n k_151_38 rfl ?_
          refine r_iload_n k_151_39 rfl ?_
          refine r_iload k_151_40 rfl ?_
          refine r_iconst k_151_42 ci_4 ?_
          refine r_callv4 m_151 k_151_43 cl_8_169 m_138 (by decide) rfl rfl (Nat.le_of_ble_eq_true rfl) (Nat.le_of_ble_eq_true rfl) rfl rfl ?_
          refine s_138 (c := c) (t := j) (w := 4) hc (by omega) (by decide) hf hf4 ?_
          refine r_iload_n k_151_46 rfl ?_
          refine r_ishr k_151_47 ?_
          refine r_iconst k_151_48 ci_1 ?_
          refine r_iand k_151_49 ?_
          refine r_iconst k_151_50 ci_1 ?_
          refine r_icmp_ne k_151_51 rfl (fun c_51 => ?_) (fun c_51 => ?_)
          · refine r_iconst k_151_58 ci_0 ?_
            refine r_istore k_151_59 rfl ?_
            refine r_iincn k_151_61 rfl (nI_inc j) rfl ?_
            refine r_goto k_151_64 rfl ?_
            have e := ih (j + 1) (by omega)
            rw [hm_biF (hm_any_n (P := (fun j => decide (¬ m 15 (4 * c + j) < 0) && (decide (¬ hour < m 15 (4 * c + j)) && decide (m 4 (20 * f + 5 * j + 4) >>> (nI t &&& 31) &&& nI 1 = nI 1)))) (hm_bi0 c_14) (by rw [show decide (m 4 (20 * f + 5 * j + 4) >>> (nI t &&& 31) &&& nI 1 = nI 1) = false from decide_eq_false c_51, Bool.and_false, Bool.and_false]))] at e
            exact e
          · have c_51 := Decidable.of_not_not c_51
            refine r_iconst k_151_54 ci_1 ?_
            refine r_goto k_151_55 rfl ?_
            refine r_istore k_151_59 rfl ?_
            refine r_iincn k_151_61 rfl (nI_inc j) rfl ?_
            refine r_goto k_151_64 rfl ?_
            have e := ih (j + 1) (by omega)
            rw [hm_biT (hm_any_r (P := (fun j => decide (¬ m 15 (4 * c + j) < 0) && (decide (¬ hour < m 15 (4 * c + j)) && decide (m 4 (20 * f + 5 * j + 4) >>> (nI t &&& 31) &&& nI 1 = nI 1)))) (by rw [decide_eq_true c_24, decide_eq_true c_35, decide_eq_true c_51]; rfl))] at e
            exact e
set_option maxRecDepth 20000 in
theorem s_151 {d n s : Nat} {m : hm_M} {h : Nat → Option va_E} {Q : Option Value → hm_H → Prop} {c t : Nat} {hour : Int32} (hc : c < 16) (ht : t < 4) {f : Nat} (hf : m 10 c = nI f) (hf4 : f < 4) (hQ : Q (some (.int (hm_bi (hm_any (fun j => decide (¬ m 15 (4 * c + j) < 0) && (decide (¬ hour < m 15 (4 * c + j)) && decide (m 4 (20 * f + 5 * j + 4) >>> (nI t &&& 31) &&& nI 1 = nI 1))) 4)))) (hm_hM m h n s)) : hm_T (d + 1) 151 0 [.ref 61, .int (nI c), .int (nI t), .int hour, .retAddr 0, .retAddr 0] [] (hm_hM m h n s) Q := by
  refine r_iconst k_151_0 ci_0 ?_
  refine r_istore k_151_1 rfl ?_
  refine r_iconst k_151_3 ci_0 ?_
  refine r_istore k_151_4 rfl ?_
  exact l_151 hc ht hf hf4 hQ 4 0 (by omega)
set_option maxRecDepth 20000 in
theorem j_139 {d n s : Nat} {m : hm_M} {h : Nat → Option va_E} {Q : Option Value → hm_H → Prop} {c t : Nat} {hour : Int32} (hc : c < 16) (ht : t < 4) {f : Nat} (hf : m 10 c = nI f) (hf4 : f < 4) {j : Nat} {b hs : Bool} (K : hm_T (d + 1) 139 6 [.ref 61, .int (nI c), .int (nI t), .int hour, .int (hm_bi (b || (decide (m 4 (20 * f + 5 * t + 0) >>> (nI j &&& 31) &&& nI 1 = nI 1) && !hs))), .int (nI (j + 1)), .int (hm_bi hs)] [] (hm_hM m h n s) Q) : hm_T (d + 1) 139 51 [.ref 61, .int (nI c), .int (nI t), .int hour, .int (hm_bi b), .int (nI j), .int (hm_bi hs)] [] (hm_hM m h n s) Q := by
  refine r_iload k_139_51 rfl ?_
  refine r_if_ne k_139_53 rfl (fun c_53 => ?_) (fun c_53 => ?_)
  · refine r_iconst k_139_77 ci_1 ?_
    refine r_goto k_139_78 rfl ?_
    refine r_istore k_139_82 rfl ?_
    refine r_iincn k_139_84 rfl (nI_inc j) rfl ?_
    refine r_goto k_139_87 rfl ?_
    have hb := hm_bi1 c_53
    subst hb
    exact K
  · have c_53 := Decidable.of_not_not c_53
    refine r_aload_n k_139_56 rfl ?_
    refine r_iload_n k_139_57 rfl ?_
    refine r_iload_n k_139_58 rfl ?_
    refine r_iconst k_139_59 ci_0 ?_
    refine r_callv4 m_139 k_139_60 cl_8_169 m_138 (by decide) rfl rfl (Nat.le_of_ble_eq_true rfl) (Nat.le_of_ble_eq_true rfl) rfl rfl ?_
    refine s_138 (c := c) (t := t) (w := 0) hc ht (by decide) hf hf4 ?_
    refine r_iload k_139_63 rfl ?_
    refine r_ishr k_139_65 ?_
    refine r_iconst k_139_66 ci_1 ?_
    refine r_iand k_139_67 ?_
    refine r_iconst k_139_68 ci_1 ?_
    refine r_icmp_ne k_139_69 rfl (fun c_69 => ?_) (fun c_69 => ?_)
    · refine r_iconst k_139_81 ci_0 ?_
      refine r_istore k_139_82 rfl ?_
      refine r_iincn k_139_84 rfl (nI_inc j) rfl ?_
      refine r_goto k_139_87 rfl ?_
      have hb := hm_bi0 c_53
      subst hb
      rw [decide_eq_false c_69] at K
      exact K
    · have c_69 := Decidable.of_not_not c_69
      refine r_iload k_139_72 rfl ?_
      refine r_if_ne k_139_74 rfl (fun c_74 => ?_) (fun c_74 => ?_)
      · refine r_iconst k_139_81 ci_0 ?_
        refine r_istore k_139_82 rfl ?_
        refine r_iincn k_139_84 rfl (nI_inc j) rfl ?_
        refine r_goto k_139_87 rfl ?_
        have hb := hm_bi0 c_53
        have hh := hm_bi1 c_74
        subst hb
        subst hh
        rw [decide_eq_true c_69] at K
        exact K
      · have c_74 := Decidable.of_not_not c_74
        refine r_iconst k_139_77 ci_1 ?_
        refine r_goto k_139_78 rfl ?_
        refine r_istore k_139_82 rfl ?_
        refine r_iincn k_139_84 rfl (nI_inc j) rfl ?_
        refine r_goto k_139_87 rfl ?_
        have hb := hm_bi0 c_53
        have hh := hm_bi0 c_74
        subst hb
        subst hh
        rw [decide_eq_true c_69] at K
        exact K
set_option maxRecDepth 20000 in
theorem l_139 {d n s : Nat} {m : hm_M} {h : Nat → Option va_E} {Q : Option Value → hm_H → Prop} {c t : Nat} {hour : Int32} (hc : c < 16) (ht : t < 4) {f : Nat} (hf : m 10 c = nI f) (hf4 : f < 4) (hQ : ∀ hv : Value, Q (some (.int (hm_bi (hm_any (fun j => decide (m 4 (20 * f + 5 * t + 0) >>> (nI j &&& 31) &&& nI 1 = nI 1) && !(decide (¬ m 14 (6 * c + j) < 0) && decide (¬ hour < m 14 (6 * c + j)))) 6)))) (hm_hM m h n s)) : ∀ (k j : Nat) , j + k = 6 → ∀ hv : Value, hv.category = 1 → hm_T (d + 1) 139 6 [.ref 61, .int (nI c), .int (nI t), .int hour, .int (hm_bi (hm_any (fun j => decide (m 4 (20 * f + 5 * t + 0) >>> (nI j &&& 31) &&& nI 1 = nI 1) && !(decide (¬ m 14 (6 * c + j) < 0) && decide (¬ hour < m 14 (6 * c + j)))) j)), .int (nI j), hv] [] (hm_hM m h n s) Q := by
  intro k
  induction k with
  | zero =>
    intro j hj hv hcat
    refine r_iload k_139_6 rfl ?_
    refine r_bipush k_139_8 cb_6 ?_
    refine r_icmp_ge k_139_10 rfl (fun c_10 => ?_) (fun z => absurd (nI_le (show 6 ≤ j by omega) (by omega)) z)
    refine r_iload k_139_90 rfl ?_
    exact r_retz m_139 k_139_92 rfl hm_bi01 (by rw [show j = 6 by omega]; exact hQ (.int 0))
  | succ k ih =>
    intro j hj hv hcat
    refine r_iload k_139_6 rfl ?_
    refine r_bipush k_139_8 cb_6 ?_
    refine r_icmp_ge k_139_10 rfl (fun z => absurd z (nI_ge (show j < 6 by omega) (by omega))) (fun c_10 => ?_)
    refine r_aload_n k_139_13 rfl ?_
    refine r_get m_139 k_139_14 fl_8_44 rfl rfl ?_
    refine r_bipush k_139_17 cb_6 ?_
    refine r_iload_n k_139_19 rfl ?_
    refine r_imul k_139_20 ?_
    refine r_iload k_139_21 rfl ?_
    refine r_iadd k_139_23 ?_
    refine r_ialdn (k := 6 * c + j) k_139_24 rfl (Or.inl rfl) (by rw [nI_mul, nI_add]) (by omega) (by decide) ?_
    refine r_if_lt k_139_25 rfl (fun c_25 => ?_) (fun c_25 => ?_)
    · refine r_iconst k_139_48 ci_0 ?_
      refine r_istore k_139_49 rfl ?_
      refine j_139 (b := hm_any (fun j => decide (m 4 (20 * f + 5 * t + 0) >>> (nI j &&& 31) &&& nI 1 = nI 1) && !(decide (¬ m 14 (6 * c + j) < 0) && decide (¬ hour < m 14 (6 * c + j)))) j) (hs := false) hc ht hf hf4 ?_
      have e := ih (j + 1) (by omega) (.int (hm_bi false)) rfl
      rw [show hm_any (fun j => decide (m 4 (20 * f + 5 * t + 0) >>> (nI j &&& 31) &&& nI 1 = nI 1) && !(decide (¬ m 14 (6 * c + j) < 0) && decide (¬ hour < m 14 (6 * c + j)))) (j + 1) = (hm_any (fun j => decide (m 4 (20 * f + 5 * t + 0) >>> (nI j &&& 31) &&& nI 1 = nI 1) && !(decide (¬ m 14 (6 * c + j) < 0) && decide (¬ hour < m 14 (6 * c + j)))) j || (decide (m 4 (20 * f + 5 * t + 0) >>> (nI j &&& 31) &&& nI 1 = nI 1) && !(decide (¬ m 14 (6 * c + j) < 0) && decide (¬ hour < m 14 (6 * c + j))))) from rfl, show (decide (¬ m 14 (6 * c + j) < 0) && decide (¬ hour < m 14 (6 * c + j))) = false by rw [decide_eq_false (fun z => z c_25)]; rfl] at e
      exact e
    · refine r_aload_n k_139_28 rfl ?_
      refine r_get m_139 k_139_29 fl_8_44 rfl rfl ?_
      refine r_bipush k_139_32 cb_6 ?_
      refine r_iload_n k_139_34 rfl ?_
      refine r_imul k_139_35 ?_
      refine r_iload k_139_36 rfl ?_
      refine r_iadd k_139_38 ?_
      refine r_ialdn (k := 6 * c + j) k_139_39 rfl (Or.inl rfl) (by rw [nI_mul, nI_add]) (by omega) (by decide) ?_
      refine r_iload_n k_139_40 rfl ?_
      refine r_icmp_gt k_139_41 rfl (fun c_41 => ?_) (fun c_41 => ?_)
      · refine r_iconst k_139_48 ci_0 ?_
        refine r_istore k_139_49 rfl ?_
        refine j_139 (b := hm_any (fun j => decide (m 4 (20 * f + 5 * t + 0) >>> (nI j &&& 31) &&& nI 1 = nI 1) && !(decide (¬ m 14 (6 * c + j) < 0) && decide (¬ hour < m 14 (6 * c + j)))) j) (hs := false) hc ht hf hf4 ?_
        have e := ih (j + 1) (by omega) (.int (hm_bi false)) rfl
        rw [show hm_any (fun j => decide (m 4 (20 * f + 5 * t + 0) >>> (nI j &&& 31) &&& nI 1 = nI 1) && !(decide (¬ m 14 (6 * c + j) < 0) && decide (¬ hour < m 14 (6 * c + j)))) (j + 1) = (hm_any (fun j => decide (m 4 (20 * f + 5 * t + 0) >>> (nI j &&& 31) &&& nI 1 = nI 1) && !(decide (¬ m 14 (6 * c + j) < 0) && decide (¬ hour < m 14 (6 * c + j)))) j || (decide (m 4 (20 * f + 5 * t + 0) >>> (nI j &&& 31) &&& nI 1 = nI 1) && !(decide (¬ m 14 (6 * c + j) < 0) && decide (¬ hour < m 14 (6 * c + j))))) from rfl, show (decide (¬ m 14 (6 * c + j) < 0) && decide (¬ hour < m 14 (6 * c + j))) = false by rw [show decide (¬ hour < m 14 (6 * c + j)) = false from decide_eq_false (fun z => z c_41), Bool.and_false]] at e
        exact e
      · refine r_iconst k_139_44 ci_1 ?_
        refine r_goto k_139_45 rfl ?_
        refine r_istore k_139_49 rfl ?_
        refine j_139 (b := hm_any (fun j => decide (m 4 (20 * f + 5 * t + 0) >>> (nI j &&& 31) &&& nI 1 = nI 1) && !(decide (¬ m 14 (6 * c + j) < 0) && decide (¬ hour < m 14 (6 * c + j)))) j) (hs := true) hc ht hf hf4 ?_
        have e := ih (j + 1) (by omega) (.int (hm_bi true)) rfl
        rw [show hm_any (fun j => decide (m 4 (20 * f + 5 * t + 0) >>> (nI j &&& 31) &&& nI 1 = nI 1) && !(decide (¬ m 14 (6 * c + j) < 0) && decide (¬ hour < m 14 (6 * c + j)))) (j + 1) = (hm_any (fun j => decide (m 4 (20 * f + 5 * t + 0) >>> (nI j &&& 31) &&& nI 1 = nI 1) && !(decide (¬ m 14 (6 * c + j) < 0) && decide (¬ hour < m 14 (6 * c + j)))) j || (decide (m 4 (20 * f + 5 * t + 0) >>> (nI j &&& 31) &&& nI 1 = nI 1) && !(decide (¬ m 14 (6 * c + j) < 0) && decide (¬ hour < m 14 (6 * c + j))))) from rfl, show (decide (¬ m 14 (6 * c + j) < 0) && decide (¬ hour < m 14 (6 * c + j))) = true by rw [decide_eq_true c_25, decide_eq_true c_41]; rfl] at e
        exact e
set_option maxRecDepth 20000 in
theorem s_139 {d n s : Nat} {m : hm_M} {h : Nat → Option va_E} {Q : Option Value → hm_H → Prop} {c t : Nat} {hour : Int32} (hc : c < 16) (ht : t < 4) {f : Nat} (hf : m 10 c = nI f) (hf4 : f < 4) (hQ : Q (some (.int (hm_bi (hm_any (fun j => decide (m 4 (20 * f + 5 * t + 0) >>> (nI j &&& 31) &&& nI 1 = nI 1) && !(decide (¬ m 14 (6 * c + j) < 0) && decide (¬ hour < m 14 (6 * c + j)))) 6)))) (hm_hM m h n s)) : hm_T (d + 1) 139 0 [.ref 61, .int (nI c), .int (nI t), .int hour, .retAddr 0, .retAddr 0, .retAddr 0] [] (hm_hM m h n s) Q := by
  refine r_iconst k_139_0 ci_0 ?_
  refine r_istore k_139_1 rfl ?_
  refine r_iconst k_139_3 ci_0 ?_
  refine r_istore k_139_4 rfl ?_
  exact l_139 hc ht hf hf4 (fun _ => hQ) 6 0 (by omega) (.retAddr 0) rfl
set_option maxRecDepth 20000 in
theorem j_141 {d n s : Nat} {m : hm_M} {h : Nat → Option va_E} {Q : Option Value → hm_H → Prop} {c t : Nat} {hour : Int32} (hc : c < 16) (ht : t < 4) {f : Nat} (hf : m 10 c = nI f) (hf4 : f < 4) {j : Nat} {b hs : Bool} (K : hm_T (d + 1) 141 6 [.ref 61, .int (nI c), .int (nI t), .int hour, .int (hm_bi (b || (decide (m 4 (20 * f + 5 * t + 4) >>> (nI j &&& 31) &&& nI 1 = nI 1) && !hs))), .int (nI (j + 1)), .int (hm_bi hs)] [] (hm_hM m h n s) Q) : hm_T (d + 1) 141 40 [.ref 61, .int (nI c), .int (nI t), .int hour, .int (hm_bi b), .int (nI j), .int (hm_bi hs)] [] (hm_hM m h n s) Q := by
  refine r_iload k_141_40 rfl ?_
  refine r_if_ne k_141_42 rfl (fun c_42 => ?_) (fun c_42 => ?_)
  · refine r_iconst k_141_66 ci_1 ?_
    refine r_goto k_141_67 rfl ?_
    refine r_istore k_141_71 rfl ?_
    refine r_iincn k_141_73 rfl (nI_inc j) rfl ?_
    refine r_goto k_141_76 rfl ?_
    have hb := hm_bi1 c_42
    subst hb
    exact K
  · have c_42 := Decidable.of_not_not c_42
    refine r_aload_n k_141_45 rfl ?_
    refine r_iload_n k_141_46 rfl ?_
    refine r_iload_n k_141_47 rfl ?_
    refine r_iconst k_141_48 ci_4 ?_
    refine r_callv4 m_141 k_141_49 cl_8_169 m_138 (by decide) rfl rfl (Nat.le_of_ble_eq_true rfl) (Nat.le_of_ble_eq_true rfl) rfl rfl ?_
    refine s_138 (c := c) (t := t) (w := 4) hc ht (by decide) hf hf4 ?_
    refine r_iload k_141_52 rfl ?_
    refine r_ishr k_141_54 ?_
    refine r_iconst k_141_55 ci_1 ?_
    refine r_iand k_141_56 ?_
    refine r_iconst k_141_57 ci_1 ?_
    refine r_icmp_ne k_141_58 rfl (fun c_58 => ?_) (fun c_58 => ?_)
    · refine r_iconst k_141_70 ci_0 ?_
      refine r_istore k_141_71 rfl ?_
      refine r_iincn k_141_73 rfl (nI_inc j) rfl ?_
      refine r_goto k_141_76 rfl ?_
      have hb := hm_bi0 c_42
      subst hb
      rw [decide_eq_false c_58] at K
      exact K
    · have c_58 := Decidable.of_not_not c_58
      refine r_iload k_141_61 rfl ?_
      refine r_if_ne k_141_63 rfl (fun c_63 => ?_) (fun c_63 => ?_)
      · refine r_iconst k_141_70 ci_0 ?_
        refine r_istore k_141_71 rfl ?_
        refine r_iincn k_141_73 rfl (nI_inc j) rfl ?_
        refine r_goto k_141_76 rfl ?_
        have hb := hm_bi0 c_42
        have hh := hm_bi1 c_63
        subst hb
        subst hh
        rw [decide_eq_true c_58] at K
        exact K
      · have c_63 := Decidable.of_not_not c_63
        refine r_iconst k_141_66 ci_1 ?_
        refine r_goto k_141_67 rfl ?_
        refine r_istore k_141_71 rfl ?_
        refine r_iincn k_141_73 rfl (nI_inc j) rfl ?_
        refine r_goto k_141_76 rfl ?_
        have hb := hm_bi0 c_42
        have hh := hm_bi0 c_63
        subst hb
        subst hh
        rw [decide_eq_true c_58] at K
        exact K
set_option maxRecDepth 20000 in
theorem l_141 {d n s : Nat} {m : hm_M} {h : Nat → Option va_E} {Q : Option Value → hm_H → Prop} {c t : Nat} {hour : Int32} (hc : c < 16) (ht : t < 4) {f : Nat} (hf : m 10 c = nI f) (hf4 : f < 4) (hQ : Q (some (.int (hm_bi (hm_any (fun j => decide (m 4 (20 * f + 5 * t + 4) >>> (nI j &&& 31) &&& nI 1 = nI 1) && !(decide (¬ m 15 (4 * c + j) < 0) && decide (¬ hour ≤ m 15 (4 * c + j)))) 4)))) (hm_hM m h n s)) : ∀ (k j : Nat) , j + k = 4 → ∀ hv : Value, hv.category = 1 → hm_T (d + 1) 141 6 [.ref 61, .int (nI c), .int (nI t), .int hour, .int (hm_bi (hm_any (fun j => decide (m 4 (20 * f + 5 * t + 4) >>> (nI j &&& 31) &&& nI 1 = nI 1) && !(decide (¬ m 15 (4 * c + j) < 0) && decide (¬ hour ≤ m 15 (4 * c + j)))) j)), .int (nI j), hv] [] (hm_hM m h n s) Q := by
  intro k
  induction k with
  | zero =>
    intro j hj hv hcat
    refine r_iload k_141_6 rfl ?_
    refine r_iconst k_141_8 ci_4 ?_
    refine r_icmp_ge k_141_9 rfl (fun c_9 => ?_) (fun z => absurd (nI_le (show 4 ≤ j by omega) (by omega)) z)
    refine r_iload k_141_79 rfl ?_
    exact r_retz m_141 k_141_81 rfl hm_bi01 (by rw [show j = 4 by omega]; exact hQ)
  | succ k ih =>
    intro j hj hv hcat
    refine r_iload k_141_6 rfl ?_
    refine r_iconst k_141_8 ci_4 ?_
    refine r_icmp_ge k_141_9 rfl (fun z => absurd z (nI_ge (show j < 4 by omega) (by omega))) (fun c_9 => ?_)
    refine r_aload_n k_141_12 rfl ?_
    refine r_iload_n k_141_13 rfl ?_
    refine r_iload k_141_14 rfl ?_
    refine r_callv3 m_141 k_141_16 cl_8_92 m_122 (by decide) rfl rfl (Nat.le_of_ble_eq_true rfl) (Nat.le_of_ble_eq_true rfl) rfl rfl ?_
    refine s_122 (c := c) (t := j) hc (by omega) ?_
    refine r_if_lt k_141_19 rfl (fun c_19 => ?_) (fun c_19 => ?_)
    · refine r_iconst k_141_37 ci_0 ?_
      refine r_istore k_141_38 rfl ?_
      refine j_141 (b := hm_any (fun j => decide (m 4 (20 * f + 5 * t + 4) >>> (nI j &&& 31) &&& nI 1 = nI 1) && !(decide (¬ m 15 (4 * c + j) < 0) && decide (¬ hour ≤ m 15 (4 * c + j)))) j) (hs := false) hc ht hf hf4 ?_
      have e := ih (j + 1) (by omega) (.int (hm_bi false)) rfl
      rw [show hm_any (fun j => decide (m 4 (20 * f + 5 * t + 4) >>> (nI j &&& 31) &&& nI 1 = nI 1) && !(decide (¬ m 15 (4 * c + j) < 0) && decide (¬ hour ≤ m 15 (4 * c + j)))) (j + 1) = (hm_any (fun j => decide (m 4 (20 * f + 5 * t + 4) >>> (nI j &&& 31) &&& nI 1 = nI 1) && !(decide (¬ m 15 (4 * c + j) < 0) && decide (¬ hour ≤ m 15 (4 * c + j)))) j || (decide (m 4 (20 * f + 5 * t + 4) >>> (nI j &&& 31) &&& nI 1 = nI 1) && !(decide (¬ m 15 (4 * c + j) < 0) && decide (¬ hour ≤ m 15 (4 * c + j))))) from rfl, show (decide (¬ m 15 (4 * c + j) < 0) && decide (¬ hour ≤ m 15 (4 * c + j))) = false by rw [decide_eq_false (fun z => z c_19)]; rfl] at e
      exact e
    · refine r_aload_n k_141_22 rfl ?_
      refine r_iload_n k_141_23 rfl ?_
      refine r_iload k_141_24 rfl ?_
      refine r_callv3 m_141 k_141_26 cl_8_92 m_122 (by decide) rfl rfl (Nat.le_of_ble_eq_true rfl) (Nat.le_of_ble_eq_true rfl) rfl rfl ?_
      refine s_122 (c := c) (t := j) hc (by omega) ?_
      refine r_iload_n k_141_29 rfl ?_
      refine r_icmp_ge k_141_30 rfl (fun c_30 => ?_) (fun c_30 => ?_)
      · refine r_iconst k_141_37 ci_0 ?_
        refine r_istore k_141_38 rfl ?_
        refine j_141 (b := hm_any (fun j => decide (m 4 (20 * f + 5 * t + 4) >>> (nI j &&& 31) &&& nI 1 = nI 1) && !(decide (¬ m 15 (4 * c + j) < 0) && decide (¬ hour ≤ m 15 (4 * c + j)))) j) (hs := false) hc ht hf hf4 ?_
        have e := ih (j + 1) (by omega) (.int (hm_bi false)) rfl
        rw [show hm_any (fun j => decide (m 4 (20 * f + 5 * t + 4) >>> (nI j &&& 31) &&& nI 1 = nI 1) && !(decide (¬ m 15 (4 * c + j) < 0) && decide (¬ hour ≤ m 15 (4 * c + j)))) (j + 1) = (hm_any (fun j => decide (m 4 (20 * f + 5 * t + 4) >>> (nI j &&& 31) &&& nI 1 = nI 1) && !(decide (¬ m 15 (4 * c + j) < 0) && decide (¬ hour ≤ m 15 (4 * c + j)))) j || (decide (m 4 (20 * f + 5 * t + 4) >>> (nI j &&& 31) &&& nI 1 = nI 1) && !(decide (¬ m 15 (4 * c + j) < 0) && decide (¬ hour ≤ m 15 (4 * c + j))))) from rfl, show (decide (¬ m 15 (4 * c + j) < 0) && decide (¬ hour ≤ m 15 (4 * c + j))) = false by rw [show decide (¬ hour ≤ m 15 (4 * c + j)) = false from decide_eq_false (fun z => z c_30), Bool.and_false]] at e
        exact e
      · refine r_iconst k_141_33 ci_1 ?_
        refine r_goto k_141_34 rfl ?_
        refine r_istore k_141_38 rfl ?_
        refine j_141 (b := hm_any (fun j => decide (m 4 (20 * f + 5 * t + 4) >>> (nI j &&& 31) &&& nI 1 = nI 1) && !(decide (¬ m 15 (4 * c + j) < 0) && decide (¬ hour ≤ m 15 (4 * c + j)))) j) (hs := true) hc ht hf hf4 ?_
        have e := ih (j + 1) (by omega) (.int (hm_bi true)) rfl
        rw [show hm_any (fun j => decide (m 4 (20 * f + 5 * t + 4) >>> (nI j &&& 31) &&& nI 1 = nI 1) && !(decide (¬ m 15 (4 * c + j) < 0) && decide (¬ hour ≤ m 15 (4 * c + j)))) (j + 1) = (hm_any (fun j => decide (m 4 (20 * f + 5 * t + 4) >>> (nI j &&& 31) &&& nI 1 = nI 1) && !(decide (¬ m 15 (4 * c + j) < 0) && decide (¬ hour ≤ m 15 (4 * c + j)))) j || (decide (m 4 (20 * f + 5 * t + 4) >>> (nI j &&& 31) &&& nI 1 = nI 1) && !(decide (¬ m 15 (4 * c + j) < 0) && decide (¬ hour ≤ m 15 (4 * c + j))))) from rfl, show (decide (¬ m 15 (4 * c + j) < 0) && decide (¬ hour ≤ m 15 (4 * c + j))) = true by rw [decide_eq_true c_19, decide_eq_true c_30]; rfl] at e
        exact e
set_option maxRecDepth 20000 in
theorem s_141 {d n s : Nat} {m : hm_M} {h : Nat → Option va_E} {Q : Option Value → hm_H → Prop} {c t : Nat} {hour : Int32} (hc : c < 16) (ht : t < 4) {f : Nat} (hf : m 10 c = nI f) (hf4 : f < 4) (hQ : Q (some (.int (hm_bi (hm_any (fun j => decide (m 4 (20 * f + 5 * t + 4) >>> (nI j &&& 31) &&& nI 1 = nI 1) && !(decide (¬ m 15 (4 * c + j) < 0) && decide (¬ hour ≤ m 15 (4 * c + j)))) 4)))) (hm_hM m h n s)) : hm_T (d + 1) 141 0 [.ref 61, .int (nI c), .int (nI t), .int hour, .retAddr 0, .retAddr 0, .retAddr 0] [] (hm_hM m h n s) Q := by
  refine r_iconst k_141_0 ci_0 ?_
  refine r_istore k_141_1 rfl ?_
  refine r_iconst k_141_3 ci_0 ?_
  refine r_istore k_141_4 rfl ?_
  exact l_141 hc ht hf hf4 hQ 4 0 (by omega) (.retAddr 0) rfl
def hm_hin (m : hm_M) (f c t : Nat) (hour : Int32) : Int32 := if m 11 c < hour then (if ¬ m 4 (20 * f + 5 * t + 3) = nI 1 then (if hm_bi (hm_any (fun j => decide (m 4 (20 * f + 5 * t + 0) >>> (nI j &&& 31) &&& nI 1 = nI 1) && !(decide (¬ m 14 (6 * c + j) < 0) && decide (¬ hour < m 14 (6 * c + j)))) 6) = 0 then (if hm_out (hour - m 11 c) (m 4 (20 * f + 5 * t + 1)) (m 4 (20 * f + 5 * t + 2)) = 0 then (if hm_bi (hm_any (fun j => decide (m 4 (20 * f + 5 * t + 4) >>> (nI j &&& 31) &&& nI 1 = nI 1) && !(decide (¬ m 15 (4 * c + j) < 0) && decide (¬ hour ≤ m 15 (4 * c + j)))) 4) = 0 then nI 0 else nI 6) else nI 5) else nI 4) else nI 3) else nI 2
set_option maxRecDepth 20000 in
theorem s_137 {d n s : Nat} {m : hm_M} {h : Nat → Option va_E} {Q : Option Value → hm_H → Prop} {c t : Nat} {hour : Int32} (hc : c < 16) (ht : t < 4) {f : Nat} (hf : m 10 c = nI f) (hf4 : f < 4) (hQ : Q (some (.int (hm_hin m f c t hour))) (hm_hM m h n s)) : hm_T (d + 2) 137 0 [.ref 61, .int (nI c), .int (nI t), .int hour] [] (hm_hM m h n s) Q := by
  refine r_iload_n k_137_0 rfl ?_
  refine r_aload_n k_137_1 rfl ?_
  refine r_get m_137 k_137_2 fl_8_35 rfl rfl ?_
  refine r_iload_n k_137_5 rfl ?_
  refine r_ialdn (k := c) k_137_6 rfl (Or.inl rfl) rfl (by omega) (by decide) ?_
  refine r_icmp_gt k_137_7 rfl (fun c_7 => ?_) (fun c_7 => ?_)
  · refine r_aload_n k_137_14 rfl ?_
    refine r_iload_n k_137_15 rfl ?_
    refine r_iload_n k_137_16 rfl ?_
    refine r_iconst k_137_17 ci_3 ?_
    refine r_callv4 m_137 k_137_18 cl_8_169 m_138 (by decide) rfl rfl (Nat.le_of_ble_eq_true rfl) (Nat.le_of_ble_eq_true rfl) rfl rfl ?_
    refine s_138 (c := c) (t := t) (w := 3) hc ht (by decide) hf hf4 ?_
    refine r_iconst k_137_21 ci_1 ?_
    refine r_icmp_ne k_137_22 rfl (fun c_22 => ?_) (fun c_22 => ?_)
    · refine r_aload_n k_137_29 rfl ?_
      refine r_iload_n k_137_30 rfl ?_
      refine r_iload_n k_137_31 rfl ?_
      refine r_iload_n k_137_32 rfl ?_
      refine r_callv4 m_137 k_137_33 cl_8_173 m_139 (by decide) rfl rfl (Nat.le_of_ble_eq_true rfl) (Nat.le_of_ble_eq_true rfl) rfl rfl ?_
      refine s_139 hc ht hf hf4 ?_
      refine r_if_eq k_137_36 rfl (fun c_36 => ?_) (fun c_36 => ?_)
      · refine r_aload_n k_137_43 rfl ?_
        refine r_iload_n k_137_44 rfl ?_
        refine r_iload_n k_137_45 rfl ?_
        refine r_iload_n k_137_46 rfl ?_
        refine r_callv4 m_137 k_137_47 cl_8_177 m_140 (by decide) rfl rfl (Nat.le_of_ble_eq_true rfl) (Nat.le_of_ble_eq_true rfl) rfl rfl ?_
        refine s_140 hc ht hf hf4 ?_
        refine r_if_eq k_137_50 rfl (fun c_50 => ?_) (fun c_50 => ?_)
        · refine r_aload_n k_137_57 rfl ?_
          refine r_iload_n k_137_58 rfl ?_
          refine r_iload_n k_137_59 rfl ?_
          refine r_iload_n k_137_60 rfl ?_
          refine r_callv4 m_137 k_137_61 cl_8_180 m_141 (by decide) rfl rfl (Nat.le_of_ble_eq_true rfl) (Nat.le_of_ble_eq_true rfl) rfl rfl ?_
          refine s_141 hc ht hf hf4 ?_
          refine r_if_eq k_137_64 rfl (fun c_64 => ?_) (fun c_64 => ?_)
          · refine r_iconst k_137_72 ci_0 ?_
            exact hm_T.ret m_137 k_137_73 rfl (by first | (simp only [hm_hin, c_7, c_22, c_36, c_50, c_64, and_self, not_true_eq_false, not_false_eq_true, ↓reduceIte] at hQ; exact hQ) | contradiction)
          · refine r_bipush k_137_67 cb_6 ?_
            refine r_goto k_137_69 rfl ?_
            exact hm_T.ret m_137 k_137_73 rfl (by first | (simp only [hm_hin, c_7, c_22, c_36, c_50, c_64, and_self, not_true_eq_false, not_false_eq_true, ↓reduceIte] at hQ; exact hQ) | contradiction)
        · refine r_iconst k_137_53 ci_5 ?_
          refine r_goto k_137_54 rfl ?_
          exact hm_T.ret m_137 k_137_73 rfl (by first | (simp only [hm_hin, c_7, c_22, c_36, c_50, and_self, not_true_eq_false, not_false_eq_true, ↓reduceIte] at hQ; exact hQ) | contradiction)
      · refine r_iconst k_137_39 ci_4 ?_
        refine r_goto k_137_40 rfl ?_
        exact hm_T.ret m_137 k_137_73 rfl (by first | (simp only [hm_hin, c_7, c_22, c_36, and_self, not_true_eq_false, not_false_eq_true, ↓reduceIte] at hQ; exact hQ) | contradiction)
    · have c_22 := Decidable.of_not_not c_22
      refine r_iconst k_137_25 ci_3 ?_
      refine r_goto k_137_26 rfl ?_
      exact hm_T.ret m_137 k_137_73 rfl (by first | (simp only [hm_hin, c_7, c_22, and_self, not_true_eq_false, not_false_eq_true, ↓reduceIte] at hQ; exact hQ) | contradiction)
  · refine r_iconst k_137_10 ci_2 ?_
    refine r_goto k_137_11 rfl ?_
    exact hm_T.ret m_137 k_137_73 rfl (by first | (simp only [hm_hin, c_7, and_self, not_true_eq_false, not_false_eq_true, ↓reduceIte] at hQ; exact hQ) | contradiction)
end
