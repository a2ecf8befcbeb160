set_option maxRecDepth 20000 in
theorem hm_cw0 : Cond.code ⟨"HourPromised", "<init>", "()V"⟩ prog_1_method_1_code 2 none ∈ tables_1 := (List.mem_append_left _ (List.mem_of_getElem? (i := 24) rfl))
set_option maxRecDepth 20000 in
theorem hm_cw1 : Cond.code ⟨"java/lang/Object", "<init>", "()V"⟩ object_method_1_code 1 none ∈ tables_1 := (List.mem_append_left _ (List.mem_of_getElem? (i := 27) rfl))
set_option maxRecDepth 20000 in
theorem hm_cw2 : Cond.code ⟨"HourPromised$Bearers", "<init>", "()V"⟩ prog_2_method_1_code 1 none ∈ tables_1 := (List.mem_append_left _ (List.mem_of_getElem? (i := 32) rfl))
set_option maxRecDepth 20000 in
theorem hm_cw3 : Cond.code ⟨"HourPromised$Ledger", "<init>", "()V"⟩ prog_6_method_1_code 1 none ∈ tables_1 := (List.mem_append_left _ (List.mem_of_getElem? (i := 66) rfl))
set_option maxRecDepth 20000 in
theorem hm_cw4 : Cond.code ⟨"HourPromised$Text", "<init>", "()V"⟩ prog_8_method_1_code 1 none ∈ tables_1 := (List.mem_append_left _ (List.mem_of_getElem? (i := 78) rfl))
set_option maxRecDepth 20000 in
theorem hm_cw5 : Cond.code ⟨"HourPromised$LawReader", "<init>", "()V"⟩ prog_5_method_1_code 1 none ∈ tables_1 := (List.mem_append_left _ (List.mem_of_getElem? (i := 93) rfl))
set_option maxRecDepth 20000 in
theorem hm_cw6 : Cond.code ⟨"HourPromised$Law", "<init>", "()V"⟩ prog_4_method_1_code 1 none ∈ tables_1 := (List.mem_append_left _ (List.mem_of_getElem? (i := 123) rfl))
set_option maxRecDepth 20000 in
theorem hm_cw7 : Cond.code ⟨"HourPromised$Law", "clear", "()V"⟩ prog_4_method_2_code 2 none ∈ tables_1 := (List.mem_append_left _ (List.mem_of_getElem? (i := 129) rfl))
set_option maxRecDepth 20000 in
theorem hm_cw8 : Cond.code ⟨"java/util/Arrays", "fill", "([II)V"⟩ prog_20_method_103_code 4 none ∈ tables_1 := (List.mem_append_left _ (List.mem_of_getElem? (i := 132) rfl))
set_option maxRecDepth 20000 in
theorem hm_cw9 : Cond.code ⟨"java/util/ArrayList", "<init>", "()V"⟩ prog_19_method_2_code 1 none ∈ tables_1 := (List.mem_append_left _ (List.mem_of_getElem? (i := 141) rfl))
set_option maxRecDepth 20000 in
theorem hm_cw10 : Cond.code ⟨"java/util/AbstractList", "<init>", "()V"⟩ prog_18_method_1_code 1 none ∈ tables_1 := (List.mem_append_left _ (List.mem_of_getElem? (i := 144) rfl))
set_option maxRecDepth 20000 in
theorem hm_cw11 : Cond.code ⟨"java/util/AbstractCollection", "<init>", "()V"⟩ prog_17_method_1_code 1 none ∈ tables_1 := (List.mem_append_left _ (List.mem_of_getElem? (i := 147) rfl))
set_option maxRecDepth 20000 in
theorem hm_cw12 : Cond.code ⟨"HourPromised", "house", "(II)I"⟩ prog_1_method_2_code 4 (some .int) ∈ tables_1 := (List.mem_append_left _ (List.mem_of_getElem? (i := 209) rfl))
set_option maxRecDepth 20000 in
theorem hm_cw13 : Cond.code ⟨"HourPromised", "within", "(III)Z"⟩ prog_1_method_39_code 3 (some .boolean) ∈ tables_1 := (List.mem_append_left _ (List.mem_of_getElem? (i := 212) rfl))
set_option maxRecDepth 20000 in
theorem hm_cw14 : Cond.code ⟨"HourPromised$Ledger", "mostOfAnyHour", "(I)I"⟩ prog_6_method_3_code 4 (some .int) ∈ tables_1 := (List.mem_append_left _ (List.mem_of_getElem? (i := 220) rfl))
set_option maxRecDepth 20000 in
theorem hm_cw15 : Cond.code ⟨"java/lang/Math", "max", "(II)I"⟩ prog_15_method_65_code 2 (some .int) ∈ tables_1 := (List.mem_append_left _ (List.mem_of_getElem? (i := 223) rfl))
set_option maxRecDepth 20000 in
theorem hm_cw16 : Cond.code ⟨"HourPromised", "open", "(II)I"⟩ prog_1_method_3_code 4 (some .int) ∈ tables_1 := (List.mem_append_left _ (List.mem_of_getElem? (i := 227) rfl))
set_option maxRecDepth 20000 in
theorem hm_cw17 : Cond.code ⟨"HourPromised", "everyServiceHasChapel", "()Z"⟩ prog_1_method_5_code 2 (some .boolean) ∈ tables_1 := (List.mem_append_left _ (List.mem_of_getElem? (i := 231) rfl))
set_option maxRecDepth 20000 in
theorem hm_cw18 : Cond.code ⟨"HourPromised$Ledger", "takenIn", "(II)I"⟩ prog_6_method_2_code 3 (some .int) ∈ tables_1 := (List.mem_append_left _ (List.mem_of_getElem? (i := 235) rfl))
set_option maxRecDepth 20000 in
theorem hm_cw19 : Cond.code ⟨"HourPromised", "openChapels", "(I)I"⟩ prog_1_method_6_code 4 (some .int) ∈ tables_1 := (List.mem_append_left _ (List.mem_of_getElem? (i := 239) rfl))
set_option maxRecDepth 20000 in
theorem hm_cw20 : Cond.code ⟨"HourPromised", "isOpen", "(II)Z"⟩ prog_1_method_7_code 3 (some .boolean) ∈ tables_1 := (List.mem_append_right _ (List.mem_append_left _ (List.mem_of_getElem? (i := 3) rfl)))
set_option maxRecDepth 20000 in
theorem hm_cw21 : Cond.code ⟨"HourPromised", "has", "(II)Z"⟩ prog_1_method_42_code 2 (some .boolean) ∈ tables_1 := (List.mem_append_right _ (List.mem_append_left _ (List.mem_of_getElem? (i := 6) rfl)))
set_option maxRecDepth 20000 in
theorem hm_cw22 : Cond.code ⟨"HourPromised", "bearer", "(I)I"⟩ prog_1_method_4_code 2 (some .int) ∈ tables_1 := (List.mem_append_right _ (List.mem_append_left _ (List.mem_of_getElem? (i := 10) rfl)))
set_option maxRecDepth 20000 in
theorem hm_cw23 : Cond.code ⟨"HourPromised$Bearers", "hire", "(I)I"⟩ prog_2_method_2_code 2 (some .int) ∈ tables_1 := (List.mem_append_right _ (List.mem_append_left _ (List.mem_of_getElem? (i := 14) rfl)))
set_option maxRecDepth 20000 in
theorem hm_cw24 : Cond.code ⟨"HourPromised", "feed", "(IJ)I"⟩ prog_1_method_8_code 4 (some .int) ∈ tables_1 := (List.mem_append_right _ (List.mem_append_left _ (List.mem_of_getElem? (i := 18) rfl)))
set_option maxRecDepth 20000 in
theorem hm_cw25 : Cond.code ⟨"HourPromised$Text", "append", "(IJ)I"⟩ prog_8_method_2_code 5 (some .int) ∈ tables_1 := (List.mem_append_right _ (List.mem_append_left _ (List.mem_of_getElem? (i := 22) rfl)))
set_option maxRecDepth 20000 in
theorem hm_cw26 : Cond.code ⟨"HourPromised", "law", "(I)I"⟩ prog_1_method_9_code 7 (some .int) ∈ tables_1 := (List.mem_append_right _ (List.mem_append_left _ (List.mem_of_getElem? (i := 26) rfl)))
set_option maxRecDepth 20000 in
theorem hm_cw27 : Cond.code ⟨"HourPromised$LawReader", "read", "(LHourPromised$Text;LHourPromised$Law;)I"⟩ prog_5_method_2_code 5 (some .int) ∈ tables_1 := (List.mem_append_right _ (List.mem_append_left _ (List.mem_of_getElem? (i := 30) rfl)))
set_option maxRecDepth 20000 in
theorem hm_cw28 : Cond.code ⟨"HourPromised$Text", "byteAt", "(I)I"⟩ prog_8_method_3_code 2 (some .int) ∈ tables_1 := (List.mem_append_right _ (List.mem_append_left _ (List.mem_of_getElem? (i := 35) rfl)))
set_option maxRecDepth 20000 in
theorem hm_cw29 : Cond.code ⟨"HourPromised$LawReader", "skip", "()I"⟩ prog_5_method_3_code 1 (some .int) ∈ tables_1 := (List.mem_append_right _ (List.mem_append_left _ (List.mem_of_getElem? (i := 39) rfl)))
set_option maxRecDepth 20000 in
theorem hm_cw30 : Cond.code ⟨"HourPromised$LawReader", "readPart", "(LHourPromised$Text;LHourPromised$Law;)I"⟩ prog_5_method_4_code 3 (some .int) ∈ tables_1 := (List.mem_append_right _ (List.mem_append_left _ (List.mem_of_getElem? (i := 43) rfl)))
set_option maxRecDepth 20000 in
theorem hm_cw31 : Cond.code ⟨"HourPromised$LawReader", "stepOf", "(I)I"⟩ prog_5_method_10_code 1 (some .int) ∈ tables_1 := (List.mem_append_right _ (List.mem_append_left _ (List.mem_of_getElem? (i := 46) rfl)))
set_option maxRecDepth 20000 in
theorem hm_cw32 : Cond.code ⟨"HourPromised$LawReader", "readClause", "(I)I"⟩ prog_5_method_6_code 2 (some .int) ∈ tables_1 := (List.mem_append_right _ (List.mem_append_left _ (List.mem_of_getElem? (i := 50) rfl)))
set_option maxRecDepth 20000 in
theorem hm_cw33 : Cond.code ⟨"HourPromised$LawReader", "goOn", "(I)I"⟩ prog_5_method_5_code 2 (some .int) ∈ tables_1 := (List.mem_append_right _ (List.mem_append_left _ (List.mem_of_getElem? (i := 55) rfl)))
set_option maxRecDepth 20000 in
theorem hm_cw34 : Cond.code ⟨"HourPromised$LawReader", "itemOf", "(I)I"⟩ prog_5_method_11_code 2 (some .int) ∈ tables_1 := (List.mem_append_right _ (List.mem_append_left _ (List.mem_of_getElem? (i := 58) rfl)))
set_option maxRecDepth 20000 in
theorem hm_cw35 : Cond.code ⟨"HourPromised$LawReader", "readItem", "(ILHourPromised$Law;)I"⟩ prog_5_method_7_code 3 (some .int) ∈ tables_1 := (List.mem_append_right _ (List.mem_append_left _ (List.mem_of_getElem? (i := 62) rfl)))
set_option maxRecDepth 20000 in
theorem hm_cw36 : Cond.code ⟨"HourPromised$Law", "put", "(III)V"⟩ prog_4_method_4_code 4 none ∈ tables_1 := (List.mem_append_right _ (List.mem_append_left _ (List.mem_of_getElem? (i := 66) rfl)))
set_option maxRecDepth 20000 in
theorem hm_cw37 : Cond.code ⟨"HourPromised$Law", "addTo", "(III)V"⟩ prog_4_method_5_code 4 none ∈ tables_1 := (List.mem_append_right _ (List.mem_append_left _ (List.mem_of_getElem? (i := 70) rfl)))
set_option maxRecDepth 20000 in
theorem hm_cw38 : Cond.code ⟨"HourPromised$LawReader", "readNumber", "(LHourPromised$Text;LHourPromised$Law;)I"⟩ prog_5_method_8_code 5 (some .int) ∈ tables_1 := (List.mem_append_right _ (List.mem_append_left _ (List.mem_of_getElem? (i := 74) rfl)))
set_option maxRecDepth 20000 in
theorem hm_cw39 : Cond.code ⟨"HourPromised$LawReader", "isFigure", "(I)Z"⟩ prog_5_method_9_code 1 (some .boolean) ∈ tables_1 := (List.mem_append_right _ (List.mem_append_left _ (List.mem_of_getElem? (i := 77) rfl)))
set_option maxRecDepth 20000 in
theorem hm_cw40 : Cond.code ⟨"HourPromised$Text", "empty", "()V"⟩ prog_8_method_4_code 1 none ∈ tables_1 := (List.mem_append_right _ (List.mem_append_left _ (List.mem_of_getElem? (i := 81) rfl)))
set_option maxRecDepth 20000 in
theorem hm_cw41 : Cond.code ⟨"java/util/ArrayList", "size", "()I"⟩ prog_19_method_8_code 1 (some .int) ∈ tables_1 := (List.mem_append_right _ (List.mem_append_left _ (List.mem_of_getElem? (i := 85) rfl)))
set_option maxRecDepth 20000 in
theorem hm_cw42 : Cond.code ⟨"java/util/ArrayList", "get", "(I)Ljava/lang/Object;"⟩ prog_19_method_20_code 2 (some (.object "java/lang/Object")) ∈ tables_1 := (List.mem_append_right _ (List.mem_append_left _ (List.mem_of_getElem? (i := 89) rfl)))
set_option maxRecDepth 20000 in
theorem hm_cw43 : Cond.code ⟨"java/util/Objects", "checkIndex", "(II)I"⟩ prog_23_method_17_code 2 (some .int) ∈ tables_1 := (List.mem_append_right _ (List.mem_append_left _ (List.mem_of_getElem? (i := 92) rfl)))
set_option maxRecDepth 20000 in
theorem hm_cw44 : Cond.code ⟨"jdk/internal/util/Preconditions", "checkIndex", "(IILjava/util/function/BiFunction;)I"⟩ prog_27_method_11_code 3 (some .int) ∈ tables_1 := (List.mem_append_right _ (List.mem_append_left _ (List.mem_of_getElem? (i := 95) rfl)))
set_option maxRecDepth 20000 in
theorem hm_cw45 : Cond.code ⟨"java/util/ArrayList", "elementData", "(I)Ljava/lang/Object;"⟩ prog_19_method_18_code 2 (some (.object "java/lang/Object")) ∈ tables_1 := (List.mem_append_right _ (List.mem_append_left _ (List.mem_of_getElem? (i := 99) rfl)))
set_option maxRecDepth 20000 in
theorem hm_cw46 : Cond.code ⟨"HourPromised", "undoBroken", "(LHourPromised$CaseFile;)I"⟩ prog_1_method_29_code 6 (some .int) ∈ tables_1 := (List.mem_append_right _ (List.mem_append_left _ (List.mem_of_getElem? (i := 104) rfl)))
set_option maxRecDepth 20000 in
theorem hm_cw47 : Cond.code ⟨"HourPromised$CaseFile", "firstBroken", "(LHourPromised$Law;)I"⟩ prog_3_method_5_code 3 (some .int) ∈ tables_1 := (List.mem_append_right _ (List.mem_append_left _ (List.mem_of_getElem? (i := 108) rfl)))
set_option maxRecDepth 20000 in
theorem hm_cw48 : Cond.code ⟨"HourPromised$CaseFile", "hasPromised", "(I)Z"⟩ prog_3_method_2_code 2 (some .boolean) ∈ tables_1 := (List.mem_append_right _ (List.mem_append_left _ (List.mem_of_getElem? (i := 112) rfl)))
set_option maxRecDepth 20000 in
theorem hm_cw49 : Cond.code ⟨"HourPromised$CaseFile", "hinderedByLaw", "(LHourPromised$Law;II)I"⟩ prog_3_method_6_code 4 (some .int) ∈ tables_1 := (List.mem_append_right _ (List.mem_append_left _ (List.mem_of_getElem? (i := 116) rfl)))
set_option maxRecDepth 20000 in
theorem hm_cw50 : Cond.code ⟨"HourPromised$Law", "of", "(II)I"⟩ prog_4_method_3_code 3 (some .int) ∈ tables_1 := (List.mem_append_right _ (List.mem_append_left _ (List.mem_of_getElem? (i := 120) rfl)))
set_option maxRecDepth 20000 in
theorem hm_cw51 : Cond.code ⟨"HourPromised$CaseFile", "hasPapers", "(II)Z"⟩ prog_3_method_8_code 4 (some .boolean) ∈ tables_1 := (List.mem_append_right _ (List.mem_append_left _ (List.mem_of_getElem? (i := 125) rfl)))
set_option maxRecDepth 20000 in
theorem hm_cw52 : Cond.code ⟨"HourPromised$Law", "isWithinBounds", "(II)Z"⟩ prog_4_method_6_code 5 (some .boolean) ∈ tables_1 := (List.mem_append_right _ (List.mem_append_left _ (List.mem_of_getElem? (i := 130) rfl)))
set_option maxRecDepth 20000 in
theorem hm_cw53 : Cond.code ⟨"HourPromised$CaseFile", "hasStepsAhead", "(II)Z"⟩ prog_3_method_9_code 4 (some .boolean) ∈ tables_1 := (List.mem_append_right _ (List.mem_append_left _ (List.mem_of_getElem? (i := 134) rfl)))
set_option maxRecDepth 20000 in
theorem hm_cw54 : Cond.code ⟨"HourPromised", "takeBack", "(LHourPromised$CaseFile;I)V"⟩ prog_1_method_28_code 3 none ∈ tables_1 := (List.mem_append_right _ (List.mem_append_left _ (List.mem_of_getElem? (i := 138) rfl)))
set_option maxRecDepth 20000 in
theorem hm_cw55 : Cond.code ⟨"HourPromised$Ledger", "enterRoom", "(LHourPromised$CaseFile;I)V"⟩ prog_6_method_6_code 5 none ∈ tables_1 := (List.mem_append_right _ (List.mem_append_left _ (List.mem_of_getElem? (i := 142) rfl)))
set_option maxRecDepth 20000 in
theorem hm_cw56 : Cond.code ⟨"HourPromised$CaseFile", "roomEnd", "()I"⟩ prog_3_method_4_code 2 (some .int) ∈ tables_1 := (List.mem_append_right _ (List.mem_append_left _ (List.mem_of_getElem? (i := 147) rfl)))
set_option maxRecDepth 20000 in
theorem hm_cw57 : Cond.code ⟨"java/lang/Math", "min", "(II)I"⟩ prog_15_method_69_code 2 (some .int) ∈ tables_1 := (List.mem_append_right _ (List.mem_append_left _ (List.mem_of_getElem? (i := 150) rfl)))
set_option maxRecDepth 20000 in
theorem hm_cw58 : Cond.code ⟨"HourPromised$Ledger", "enterStep", "(LHourPromised$CaseFile;II)V"⟩ prog_6_method_5_code 5 none ∈ tables_1 := (List.mem_append_right _ (List.mem_append_left _ (List.mem_of_getElem? (i := 154) rfl)))
set_option maxRecDepth 20000 in
theorem hm_cw59 : Cond.code ⟨"HourPromised", "takesBearers", "(I)Z"⟩ prog_1_method_43_code 1 (some .boolean) ∈ tables_1 := (List.mem_append_right _ (List.mem_append_left _ (List.mem_of_getElem? (i := 157) rfl)))
set_option maxRecDepth 20000 in
theorem hm_cw60 : Cond.code ⟨"HourPromised", "place", "()I"⟩ prog_1_method_10_code 1 (some .int) ∈ tables_1 := (List.mem_append_right _ (List.mem_append_left _ (List.mem_of_getElem? (i := 161) rfl)))
set_option maxRecDepth 20000 in
theorem hm_cw61 : Cond.code ⟨"HourPromised", "says", "(III)I"⟩ prog_1_method_11_code 4 (some .int) ∈ tables_1 := (List.mem_append_right _ (List.mem_append_left _ (List.mem_of_getElem? (i := 165) rfl)))
set_option maxRecDepth 20000 in
theorem hm_cw62 : Cond.code ⟨"HourPromised", "isStep", "(I)Z"⟩ prog_1_method_41_code 1 (some .boolean) ∈ tables_1 := (List.mem_append_right _ (List.mem_append_left _ (List.mem_of_getElem? (i := 168) rfl)))
set_option maxRecDepth 20000 in
theorem hm_cw63 : Cond.code ⟨"HourPromised", "casus", "(IIII)I"⟩ prog_1_method_12_code 5 (some .int) ∈ tables_1 := (List.mem_append_right _ (List.mem_append_left _ (List.mem_of_getElem? (i := 173) rfl)))
set_option maxRecDepth 20000 in
theorem hm_cw64 : Cond.code ⟨"HourPromised", "isHour", "(I)Z"⟩ prog_1_method_40_code 1 (some .boolean) ∈ tables_1 := (List.mem_append_right _ (List.mem_append_left _ (List.mem_of_getElem? (i := 176) rfl)))
set_option maxRecDepth 20000 in
theorem hm_cw65 : Cond.code ⟨"HourPromised$CaseFile", "<init>", "(IIII)V"⟩ prog_3_method_1_code 5 none ∈ tables_1 := (List.mem_append_right _ (List.mem_append_left _ (List.mem_of_getElem? (i := 179) rfl)))
set_option maxRecDepth 20000 in
theorem hm_cw66 : Cond.code ⟨"java/util/ArrayList", "add", "(Ljava/lang/Object;)Z"⟩ prog_19_method_25_code 2 (some .boolean) ∈ tables_1 := (List.mem_append_right _ (List.mem_append_left _ (List.mem_of_getElem? (i := 219) rfl)))
set_option maxRecDepth 20000 in
theorem hm_cw67 : Cond.code ⟨"java/util/ArrayList", "add", "(Ljava/lang/Object;[Ljava/lang/Object;I)V"⟩ prog_19_method_24_code 4 none ∈ tables_1 := (List.mem_append_right _ (List.mem_append_left _ (List.mem_of_getElem? (i := 223) rfl)))
set_option maxRecDepth 20000 in
theorem hm_cw68 : Cond.code ⟨"java/util/ArrayList", "grow", "()[Ljava/lang/Object;"⟩ prog_19_method_7_code 1 (some (.array (.object "java/lang/Object"))) ∈ tables_1 := (List.mem_append_right _ (List.mem_append_left _ (List.mem_of_getElem? (i := 227) rfl)))
set_option maxRecDepth 20000 in
theorem hm_cw69 : Cond.code ⟨"java/util/ArrayList", "grow", "(I)[Ljava/lang/Object;"⟩ prog_19_method_6_code 4 (some (.array (.object "java/lang/Object"))) ∈ tables_1 := (List.mem_append_right _ (List.mem_append_left _ (List.mem_of_getElem? (i := 231) rfl)))
set_option maxRecDepth 20000 in
theorem hm_cw70 : Cond.code ⟨"jdk/internal/util/ArraysSupport", "newLength", "(III)I"⟩ prog_26_method_27_code 4 (some .int) ∈ tables_1 := (List.mem_append_right _ (List.mem_append_left _ (List.mem_of_getElem? (i := 234) rfl)))
set_option maxRecDepth 20000 in
theorem hm_cw71 : Cond.code ⟨"jdk/internal/util/ArraysSupport", "hugeLength", "(II)I"⟩ prog_26_method_28_code 3 (some .int) ∈ tables_1 := (List.mem_append_right _ (List.mem_append_left _ (List.mem_of_getElem? (i := 239) rfl)))
set_option maxRecDepth 20000 in
theorem hm_cw72 : Cond.code ⟨"java/util/Arrays", "copyOf", "([Ljava/lang/Object;I)[Ljava/lang/Object;"⟩ prog_20_method_119_code 2 (some (.array (.object "java/lang/Object"))) ∈ tables_1 := (List.mem_append_right _ (List.mem_append_right _ (List.mem_append_left _ (List.mem_of_getElem? (i := 2) rfl))))
set_option maxRecDepth 20000 in
theorem hm_cw73 : Cond.code ⟨"java/util/Arrays", "copyOf", "([Ljava/lang/Object;ILjava/lang/Class;)[Ljava/lang/Object;"⟩ prog_20_method_120_code 4 (some (.array (.object "java/lang/Object"))) ∈ tables_1 := (List.mem_append_right _ (List.mem_append_right _ (List.mem_append_left _ (List.mem_of_getElem? (i := 19) rfl))))
set_option maxRecDepth 20000 in
theorem hm_cw74 : Cond.code ⟨"HourPromised", "paper", "(III)I"⟩ prog_1_method_13_code 5 (some .int) ∈ tables_1 := (List.mem_append_right _ (List.mem_append_right _ (List.mem_append_left _ (List.mem_of_getElem? (i := 32) rfl))))
set_option maxRecDepth 20000 in
theorem hm_cw75 : Cond.code ⟨"HourPromised", "fileOf", "(I)LHourPromised$CaseFile;"⟩ prog_1_method_21_code 2 (some (.object "HourPromised$CaseFile")) ∈ tables_1 := (List.mem_append_right _ (List.mem_append_right _ (List.mem_append_left _ (List.mem_of_getElem? (i := 36) rfl))))
set_option maxRecDepth 20000 in
theorem hm_cw76 : Cond.code ⟨"HourPromised", "may", "(III)I"⟩ prog_1_method_14_code 5 (some .int) ∈ tables_1 := (List.mem_append_right _ (List.mem_append_right _ (List.mem_append_left _ (List.mem_of_getElem? (i := 40) rfl))))
set_option maxRecDepth 20000 in
theorem hm_cw77 : Cond.code ⟨"HourPromised", "hindrance", "(LHourPromised$CaseFile;II)I"⟩ prog_1_method_22_code 6 (some .int) ∈ tables_1 := (List.mem_append_right _ (List.mem_append_right _ (List.mem_append_left _ (List.mem_of_getElem? (i := 44) rfl))))
set_option maxRecDepth 20000 in
theorem hm_cw78 : Cond.code ⟨"HourPromised$CaseFile", "hinderedByOtherSteps", "(LHourPromised$Law;II)I"⟩ prog_3_method_7_code 4 (some .int) ∈ tables_1 := (List.mem_append_right _ (List.mem_append_right _ (List.mem_append_left _ (List.mem_of_getElem? (i := 50) rfl))))
set_option maxRecDepth 20000 in
theorem hm_cw79 : Cond.code ⟨"HourPromised$CaseFile", "comesTooLate", "(LHourPromised$Law;II)Z"⟩ prog_3_method_10_code 5 (some .boolean) ∈ tables_1 := (List.mem_append_right _ (List.mem_append_right _ (List.mem_append_left _ (List.mem_of_getElem? (i := 54) rfl))))
set_option maxRecDepth 20000 in
theorem hm_cw80 : Cond.code ⟨"HourPromised$CaseFile", "hasOtherStepAt", "(II)Z"⟩ prog_3_method_11_code 4 (some .boolean) ∈ tables_1 := (List.mem_append_right _ (List.mem_append_right _ (List.mem_append_left _ (List.mem_of_getElem? (i := 58) rfl))))
set_option maxRecDepth 20000 in
theorem hm_cw81 : Cond.code ⟨"HourPromised", "hasPlaceFor", "(LHourPromised$CaseFile;II)Z"⟩ prog_1_method_23_code 4 (some .boolean) ∈ tables_1 := (List.mem_append_right _ (List.mem_append_right _ (List.mem_append_left _ (List.mem_of_getElem? (i := 62) rfl))))
set_option maxRecDepth 20000 in
theorem hm_cw82 : Cond.code ⟨"HourPromised$Ledger", "hasRooms", "(III)Z"⟩ prog_6_method_4_code 5 (some .boolean) ∈ tables_1 := (List.mem_append_right _ (List.mem_append_right _ (List.mem_append_left _ (List.mem_of_getElem? (i := 67) rfl))))
set_option maxRecDepth 20000 in
theorem hm_cw83 : Cond.code ⟨"HourPromised", "hasBearersFor", "(LHourPromised$CaseFile;I)Z"⟩ prog_1_method_24_code 5 (some .boolean) ∈ tables_1 := (List.mem_append_right _ (List.mem_append_right _ (List.mem_append_left _ (List.mem_of_getElem? (i := 72) rfl))))
set_option maxRecDepth 20000 in
theorem hm_cw84 : Cond.code ⟨"HourPromised$Bearers", "wantNothing", "()V"⟩ prog_2_method_3_code 1 none ∈ tables_1 := (List.mem_append_right _ (List.mem_append_right _ (List.mem_append_left _ (List.mem_of_getElem? (i := 76) rfl))))
set_option maxRecDepth 20000 in
theorem hm_cw85 : Cond.code ⟨"HourPromised$CaseFile", "isCarriedAt", "(I)Z"⟩ prog_3_method_3_code 2 (some .boolean) ∈ tables_1 := (List.mem_append_right _ (List.mem_append_right _ (List.mem_append_left _ (List.mem_of_getElem? (i := 80) rfl))))
set_option maxRecDepth 20000 in
theorem hm_cw86 : Cond.code ⟨"HourPromised$Bearers", "want", "(II)V"⟩ prog_2_method_4_code 3 none ∈ tables_1 := (List.mem_append_right _ (List.mem_append_right _ (List.mem_append_left _ (List.mem_of_getElem? (i := 84) rfl))))
set_option maxRecDepth 20000 in
theorem hm_cw87 : Cond.code ⟨"HourPromised$Bearers", "findSets", "()Z"⟩ prog_2_method_6_code 3 (some .boolean) ∈ tables_1 := (List.mem_append_right _ (List.mem_append_right _ (List.mem_append_left _ (List.mem_of_getElem? (i := 88) rfl))))
set_option maxRecDepth 20000 in
theorem hm_cw88 : Cond.code ⟨"java/util/Arrays", "fill", "([JJ)V"⟩ prog_20_method_101_code 5 none ∈ tables_1 := (List.mem_append_right _ (List.mem_append_right _ (List.mem_append_left _ (List.mem_of_getElem? (i := 91) rfl))))
set_option maxRecDepth 20000 in
theorem hm_cw89 : Cond.code ⟨"HourPromised$Bearers", "findFrom", "(II)Z"⟩ prog_2_method_7_code 7 (some .boolean) ∈ tables_1 := (List.mem_append_right _ (List.mem_append_right _ (List.mem_append_left _ (List.mem_of_getElem? (i := 95) rfl))))
set_option maxRecDepth 20000 in
theorem hm_cw90 : Cond.code ⟨"HourPromised$Bearers", "fillSet", "(IIII)Z"⟩ prog_2_method_8_code 8 (some .boolean) ∈ tables_1 := (List.mem_append_right _ (List.mem_append_right _ (List.mem_append_left _ (List.mem_of_getElem? (i := 99) rfl))))
set_option maxRecDepth 20000 in
theorem hm_cw91 : Cond.code ⟨"java/lang/Integer", "bitCount", "(I)I"⟩ prog_13_method_49_code 1 (some .int) ∈ tables_1 := (List.mem_append_right _ (List.mem_append_right _ (List.mem_append_left _ (List.mem_of_getElem? (i := 102) rfl))))
set_option maxRecDepth 20000 in
theorem hm_cw92 : Cond.code ⟨"HourPromised$Bearers", "likeInHeight", "(II)I"⟩ prog_2_method_9_code 5 (some .int) ∈ tables_1 := (List.mem_append_right _ (List.mem_append_right _ (List.mem_append_left _ (List.mem_of_getElem? (i := 110) rfl))))
set_option maxRecDepth 20000 in
theorem hm_cw93 : Cond.code ⟨"java/lang/Math", "abs", "(I)I"⟩ prog_15_method_59_code 1 (some .int) ∈ tables_1 := (List.mem_append_right _ (List.mem_append_right _ (List.mem_append_left _ (List.mem_of_getElem? (i := 113) rfl))))
set_option maxRecDepth 20000 in
theorem hm_cw94 : Cond.code ⟨"HourPromised", "promise", "(III)I"⟩ prog_1_method_15_code 5 (some .int) ∈ tables_1 := (List.mem_append_right _ (List.mem_append_right _ (List.mem_append_left _ (List.mem_of_getElem? (i := 117) rfl))))
set_option maxRecDepth 20000 in
theorem hm_cw95 : Cond.code ⟨"HourPromised", "book", "(LHourPromised$CaseFile;II)V"⟩ prog_1_method_27_code 4 none ∈ tables_1 := (List.mem_append_right _ (List.mem_append_right _ (List.mem_append_left _ (List.mem_of_getElem? (i := 121) rfl))))
set_option maxRecDepth 20000 in
theorem hm_cw96 : Cond.code ⟨"HourPromised", "earliest", "(III)I"⟩ prog_1_method_16_code 6 (some .int) ∈ tables_1 := (List.mem_append_right _ (List.mem_append_right _ (List.mem_append_left _ (List.mem_of_getElem? (i := 125) rfl))))
set_option maxRecDepth 20000 in
theorem hm_cw97 : Cond.code ⟨"HourPromised", "undo", "(II)I"⟩ prog_1_method_17_code 4 (some .int) ∈ tables_1 := (List.mem_append_right _ (List.mem_append_right _ (List.mem_append_left _ (List.mem_of_getElem? (i := 129) rfl))))
set_option maxRecDepth 20000 in
theorem hm_cw98 : Cond.code ⟨"HourPromised", "promised", "(III)I"⟩ prog_1_method_18_code 5 (some .int) ∈ tables_1 := (List.mem_append_right _ (List.mem_append_right _ (List.mem_append_left _ (List.mem_of_getElem? (i := 133) rfl))))
set_option maxRecDepth 20000 in
theorem hm_cw99 : Cond.code ⟨"HourPromised", "chapelOf", "(II)I"⟩ prog_1_method_26_code 5 (some .int) ∈ tables_1 := (List.mem_append_right _ (List.mem_append_right _ (List.mem_append_left _ (List.mem_of_getElem? (i := 137) rfl))))
set_option maxRecDepth 20000 in
theorem hm_cw100 : Cond.code ⟨"HourPromised", "bearersOf", "(II)I"⟩ prog_1_method_25_code 6 (some .int) ∈ tables_1 := (List.mem_append_right _ (List.mem_append_right _ (List.mem_append_left _ (List.mem_of_getElem? (i := 141) rfl))))
set_option maxRecDepth 20000 in
theorem hm_cw101 : Cond.code ⟨"HourPromised$Bearers", "setOf", "(I)I"⟩ prog_2_method_5_code 2 (some .int) ∈ tables_1 := (List.mem_append_right _ (List.mem_append_right _ (List.mem_append_left _ (List.mem_of_getElem? (i := 145) rfl))))
set_option maxRecDepth 20000 in
theorem hm_cw102 : Cond.code ⟨"HourPromised", "taken", "(II)I"⟩ prog_1_method_19_code 3 (some .int) ∈ tables_1 := (List.mem_append_right _ (List.mem_append_right _ (List.mem_append_left _ (List.mem_of_getElem? (i := 149) rfl))))
set_option maxRecDepth 20000 in
theorem hm_cw103 : Cond.code ⟨"HourPromised", "count", "(I)I"⟩ prog_1_method_20_code 2 (some .int) ∈ tables_1 := (List.mem_append_right _ (List.mem_append_right _ (List.mem_append_left _ (List.mem_of_getElem? (i := 153) rfl))))
set_option maxRecDepth 20000 in
theorem hm_cw104 : Cond.code ⟨"HourPromised", "trustOfAll", "()I"⟩ prog_1_method_38_code 3 (some .int) ∈ tables_1 := (List.mem_append_right _ (List.mem_append_right _ (List.mem_append_left _ (List.mem_of_getElem? (i := 157) rfl))))
set_option maxRecDepth 20000 in
theorem hm_cw105 : Cond.code ⟨"HourPromised", "plan", "(I)I"⟩ prog_1_method_30_code 2 (some .int) ∈ tables_1 := (List.mem_append_right _ (List.mem_append_right _ (List.mem_append_left _ (List.mem_of_getElem? (i := 162) rfl))))
set_option maxRecDepth 20000 in
theorem hm_cw106 : Cond.code ⟨"HourPromised$Plan", "<init>", "(I)V"⟩ prog_7_method_1_code 2 none ∈ tables_1 := (List.mem_append_right _ (List.mem_append_right _ (List.mem_append_left _ (List.mem_of_getElem? (i := 167) rfl))))
set_option maxRecDepth 20000 in
theorem hm_cw107 : Cond.code ⟨"HourPromised", "pay", "(II)I"⟩ prog_1_method_31_code 4 (some .int) ∈ tables_1 := (List.mem_append_right _ (List.mem_append_right _ (List.mem_append_left _ (List.mem_of_getElem? (i := 193) rfl))))
set_option maxRecDepth 20000 in
theorem hm_cw108 : Cond.code ⟨"HourPromised", "planOf", "(I)LHourPromised$Plan;"⟩ prog_1_method_37_code 2 (some (.object "HourPromised$Plan")) ∈ tables_1 := (List.mem_append_right _ (List.mem_append_right _ (List.mem_append_left _ (List.mem_of_getElem? (i := 197) rfl))))
set_option maxRecDepth 20000 in
theorem hm_cw109 : Cond.code ⟨"HourPromised", "rate", "(I)I"⟩ prog_1_method_32_code 3 (some .int) ∈ tables_1 := (List.mem_append_right _ (List.mem_append_right _ (List.mem_append_left _ (List.mem_of_getElem? (i := 202) rfl))))
set_option maxRecDepth 20000 in
theorem hm_cw110 : Cond.code ⟨"HourPromised", "days", "(I)I"⟩ prog_1_method_33_code 3 (some .int) ∈ tables_1 := (List.mem_append_right _ (List.mem_append_right _ (List.mem_append_left _ (List.mem_of_getElem? (i := 206) rfl))))
set_option maxRecDepth 20000 in
theorem hm_cw111 : Cond.code ⟨"HourPromised$Plan", "grow", "(II)V"⟩ prog_7_method_2_code 6 none ∈ tables_1 := (List.mem_append_right _ (List.mem_append_right _ (List.mem_append_left _ (List.mem_of_getElem? (i := 210) rfl))))
set_option maxRecDepth 20000 in
theorem hm_cw112 : Cond.code ⟨"java/lang/Math", "min", "(JJ)J"⟩ prog_15_method_70_code 4 (some .long) ∈ tables_1 := (List.mem_append_right _ (List.mem_append_right _ (List.mem_append_left _ (List.mem_of_getElem? (i := 215) rfl))))
set_option maxRecDepth 20000 in
theorem hm_cw113 : Cond.code ⟨"HourPromised", "tie", "(II)I"⟩ prog_1_method_34_code 5 (some .int) ∈ tables_1 := (List.mem_append_right _ (List.mem_append_right _ (List.mem_append_left _ (List.mem_of_getElem? (i := 219) rfl))))
set_option maxRecDepth 20000 in
theorem hm_cw114 : Cond.code ⟨"HourPromised", "settle", "(I)I"⟩ prog_1_method_35_code 5 (some .int) ∈ tables_1 := (List.mem_append_right _ (List.mem_append_right _ (List.mem_append_left _ (List.mem_of_getElem? (i := 223) rfl))))
set_option maxRecDepth 20000 in
theorem hm_cw115 : Cond.code ⟨"HourPromised$Plan", "payOut", "()I"⟩ prog_7_method_3_code 2 (some .int) ∈ tables_1 := (List.mem_append_right _ (List.mem_append_right _ (List.mem_append_left _ (List.mem_of_getElem? (i := 227) rfl))))
set_option maxRecDepth 20000 in
theorem hm_cw116 : Cond.code ⟨"HourPromised", "planned", "(II)I"⟩ prog_1_method_36_code 4 (some .int) ∈ tables_1 := (List.mem_append_right _ (List.mem_append_right _ (List.mem_append_left _ (List.mem_of_getElem? (i := 232) rfl))))
set_option maxRecDepth 20000 in
theorem hm_cw117 : Cond.code ⟨"HourPromisedModel", "<init>", "()V"⟩ prog_10_method_1_code 2 none ∈ tables_1 := (List.mem_append_right _ (List.mem_append_right _ (List.mem_append_left _ (List.mem_of_getElem? (i := 237) rfl))))
set_option maxRecDepth 20000 in
theorem hm_cw118 : Cond.code ⟨"HourPromisedModel", "house", "(II)I"⟩ prog_10_method_14_code 5 (some .int) ∈ tables_1 := (List.mem_append_right _ (List.mem_append_right _ (List.mem_append_right _ (List.mem_append_left _ (List.mem_of_getElem? (i := 97) rfl)))))
set_option maxRecDepth 20000 in
theorem hm_cw119 : Cond.code ⟨"HourPromisedModel", "in", "(JJJ)Z"⟩ prog_10_method_3_code 6 (some .boolean) ∈ tables_1 := (List.mem_append_right _ (List.mem_append_right _ (List.mem_append_right _ (List.mem_append_left _ (List.mem_of_getElem? (i := 101) rfl)))))
set_option maxRecDepth 20000 in
theorem hm_cw120 : Cond.code ⟨"HourPromisedModel", "carsAt", "(I)I"⟩ prog_10_method_10_code 2 (some .int) ∈ tables_1 := (List.mem_append_right _ (List.mem_append_right _ (List.mem_append_right _ (List.mem_append_left _ (List.mem_of_getElem? (i := 108) rfl)))))
set_option maxRecDepth 20000 in
theorem hm_cw121 : Cond.code ⟨"HourPromisedModel", "stepsAt", "(II)I"⟩ prog_10_method_9_code 5 (some .int) ∈ tables_1 := (List.mem_append_right _ (List.mem_append_right _ (List.mem_append_right _ (List.mem_append_left _ (List.mem_of_getElem? (i := 112) rfl)))))
set_option maxRecDepth 20000 in
theorem hm_cw122 : Cond.code ⟨"HourPromisedModel", "hourOf", "(II)I"⟩ prog_10_method_7_code 3 (some .int) ∈ tables_1 := (List.mem_append_right _ (List.mem_append_right _ (List.mem_append_right _ (List.mem_append_left _ (List.mem_of_getElem? (i := 116) rfl)))))
set_option maxRecDepth 20000 in
theorem hm_cw123 : Cond.code ⟨"HourPromisedModel", "roomsAt", "(I)I"⟩ prog_10_method_12_code 4 (some .int) ∈ tables_1 := (List.mem_append_right _ (List.mem_append_right _ (List.mem_append_right _ (List.mem_append_left _ (List.mem_of_getElem? (i := 120) rfl)))))
set_option maxRecDepth 20000 in
theorem hm_cw124 : Cond.code ⟨"HourPromisedModel", "roomEnd", "(I)I"⟩ prog_10_method_11_code 5 (some .int) ∈ tables_1 := (List.mem_append_right _ (List.mem_append_right _ (List.mem_append_right _ (List.mem_append_left _ (List.mem_of_getElem? (i := 124) rfl)))))
set_option maxRecDepth 20000 in
theorem hm_cw125 : Cond.code ⟨"HourPromisedModel", "open", "(II)I"⟩ prog_10_method_15_code 5 (some .int) ∈ tables_1 := (List.mem_append_right _ (List.mem_append_right _ (List.mem_append_right _ (List.mem_append_left _ (List.mem_of_getElem? (i := 128) rfl)))))
set_option maxRecDepth 20000 in
theorem hm_cw126 : Cond.code ⟨"HourPromisedModel", "chapelsAt", "(I)I"⟩ prog_10_method_13_code 4 (some .int) ∈ tables_1 := (List.mem_append_right _ (List.mem_append_right _ (List.mem_append_right _ (List.mem_append_left _ (List.mem_of_getElem? (i := 133) rfl)))))
set_option maxRecDepth 20000 in
theorem hm_cw127 : Cond.code ⟨"HourPromisedModel", "bearer", "(I)I"⟩ prog_10_method_16_code 2 (some .int) ∈ tables_1 := (List.mem_append_right _ (List.mem_append_right _ (List.mem_append_right _ (List.mem_append_left _ (List.mem_of_getElem? (i := 137) rfl)))))
set_option maxRecDepth 20000 in
theorem hm_cw128 : Cond.code ⟨"HourPromisedModel", "feed", "(IJ)I"⟩ prog_10_method_17_code 5 (some .int) ∈ tables_1 := (List.mem_append_right _ (List.mem_append_right _ (List.mem_append_right _ (List.mem_append_left _ (List.mem_of_getElem? (i := 143) rfl)))))
set_option maxRecDepth 20000 in
theorem hm_cw129 : Cond.code ⟨"HourPromisedModel", "law", "(I)I"⟩ prog_10_method_24_code 4 (some .int) ∈ tables_1 := (List.mem_append_right _ (List.mem_append_right _ (List.mem_append_right _ (List.mem_append_left _ (List.mem_of_getElem? (i := 148) rfl)))))
set_option maxRecDepth 20000 in
theorem hm_cw130 : Cond.code ⟨"HourPromisedModel", "readLaw", "()I"⟩ prog_10_method_23_code 4 (some .int) ∈ tables_1 := (List.mem_append_right _ (List.mem_append_right _ (List.mem_append_right _ (List.mem_append_left _ (List.mem_of_getElem? (i := 152) rfl)))))
set_option maxRecDepth 20000 in
theorem hm_cw131 : Cond.code ⟨"HourPromisedModel", "here", "()I"⟩ prog_10_method_18_code 1 (some .int) ∈ tables_1 := (List.mem_append_right _ (List.mem_append_right _ (List.mem_append_right _ (List.mem_append_left _ (List.mem_of_getElem? (i := 156) rfl)))))
set_option maxRecDepth 20000 in
theorem hm_cw132 : Cond.code ⟨"HourPromisedModel", "stepOf", "(I)I"⟩ prog_10_method_19_code 1 (some .int) ∈ tables_1 := (List.mem_append_right _ (List.mem_append_right _ (List.mem_append_right _ (List.mem_append_left _ (List.mem_of_getElem? (i := 159) rfl)))))
set_option maxRecDepth 20000 in
theorem hm_cw133 : Cond.code ⟨"HourPromisedModel", "fails", "(II)I"⟩ prog_10_method_20_code 3 (some .int) ∈ tables_1 := (List.mem_append_right _ (List.mem_append_right _ (List.mem_append_right _ (List.mem_append_left _ (List.mem_of_getElem? (i := 163) rfl)))))
set_option maxRecDepth 20000 in
theorem hm_cw134 : Cond.code ⟨"HourPromisedModel", "readItem", "(II)I"⟩ prog_10_method_22_code 6 (some .int) ∈ tables_1 := (List.mem_append_right _ (List.mem_append_right _ (List.mem_append_right _ (List.mem_append_left _ (List.mem_of_getElem? (i := 167) rfl)))))
set_option maxRecDepth 20000 in
theorem hm_cw135 : Cond.code ⟨"HourPromisedModel", "readNumber", "(I)I"⟩ prog_10_method_21_code 5 (some .int) ∈ tables_1 := (List.mem_append_right _ (List.mem_append_right _ (List.mem_append_right _ (List.mem_append_left _ (List.mem_of_getElem? (i := 173) rfl)))))
set_option maxRecDepth 20000 in
theorem hm_cw136 : Cond.code ⟨"HourPromisedModel", "putRight", "(II)I"⟩ prog_10_method_38_code 7 (some .int) ∈ tables_1 := (List.mem_append_right _ (List.mem_append_right _ (List.mem_append_right _ (List.mem_append_left _ (List.mem_of_getElem? (i := 179) rfl)))))
set_option maxRecDepth 20000 in
theorem hm_cw137 : Cond.code ⟨"HourPromisedModel", "hinders", "(III)I"⟩ prog_10_method_30_code 4 (some .int) ∈ tables_1 := (List.mem_append_right _ (List.mem_append_right _ (List.mem_append_right _ (List.mem_append_left _ (List.mem_of_getElem? (i := 183) rfl)))))
set_option maxRecDepth 20000 in
theorem hm_cw138 : Cond.code ⟨"HourPromisedModel", "lawOf", "(III)I"⟩ prog_10_method_8_code 4 (some .int) ∈ tables_1 := (List.mem_append_right _ (List.mem_append_right _ (List.mem_append_right _ (List.mem_append_left _ (List.mem_of_getElem? (i := 187) rfl)))))
set_option maxRecDepth 20000 in
theorem hm_cw139 : Cond.code ⟨"HourPromisedModel", "papersMiss", "(III)Z"⟩ prog_10_method_27_code 7 (some .boolean) ∈ tables_1 := (List.mem_append_right _ (List.mem_append_right _ (List.mem_append_right _ (List.mem_append_left _ (List.mem_of_getElem? (i := 191) rfl)))))
set_option maxRecDepth 20000 in
theorem hm_cw140 : Cond.code ⟨"HourPromisedModel", "isOut", "(III)Z"⟩ prog_10_method_28_code 5 (some .boolean) ∈ tables_1 := (List.mem_append_right _ (List.mem_append_right _ (List.mem_append_right _ (List.mem_append_left _ (List.mem_of_getElem? (i := 195) rfl)))))
set_option maxRecDepth 20000 in
theorem hm_cw141 : Cond.code ⟨"HourPromisedModel", "aheadMiss", "(III)Z"⟩ prog_10_method_29_code 7 (some .boolean) ∈ tables_1 := (List.mem_append_right _ (List.mem_append_right _ (List.mem_append_right _ (List.mem_append_left _ (List.mem_of_getElem? (i := 199) rfl)))))
set_option maxRecDepth 20000 in
theorem hm_cw142 : Cond.code ⟨"HourPromisedModel", "place", "()I"⟩ prog_10_method_25_code 1 (some .int) ∈ tables_1 := (List.mem_append_right _ (List.mem_append_right _ (List.mem_append_right _ (List.mem_append_left _ (List.mem_of_getElem? (i := 203) rfl)))))
set_option maxRecDepth 20000 in
theorem hm_cw143 : Cond.code ⟨"HourPromisedModel", "says", "(III)I"⟩ prog_10_method_26_code 4 (some .int) ∈ tables_1 := (List.mem_append_right _ (List.mem_append_right _ (List.mem_append_right _ (List.mem_append_left _ (List.mem_of_getElem? (i := 207) rfl)))))
set_option maxRecDepth 20000 in
theorem hm_cw144 : Cond.code ⟨"HourPromisedModel", "isStep", "(I)Z"⟩ prog_10_method_6_code 1 (some .boolean) ∈ tables_1 := (List.mem_append_right _ (List.mem_append_right _ (List.mem_append_right _ (List.mem_append_left _ (List.mem_of_getElem? (i := 210) rfl)))))
set_option maxRecDepth 20000 in
theorem hm_cw145 : Cond.code ⟨"HourPromisedModel", "casus", "(IIII)I"⟩ prog_10_method_37_code 7 (some .int) ∈ tables_1 := (List.mem_append_right _ (List.mem_append_right _ (List.mem_append_right _ (List.mem_append_left _ (List.mem_of_getElem? (i := 214) rfl)))))
set_option maxRecDepth 20000 in
theorem hm_cw146 : Cond.code ⟨"HourPromisedModel", "isHour", "(I)Z"⟩ prog_10_method_5_code 1 (some .boolean) ∈ tables_1 := (List.mem_append_right _ (List.mem_append_right _ (List.mem_append_right _ (List.mem_append_left _ (List.mem_of_getElem? (i := 217) rfl)))))
set_option maxRecDepth 20000 in
theorem hm_cw147 : Cond.code ⟨"HourPromisedModel", "paper", "(III)I"⟩ prog_10_method_39_code 4 (some .int) ∈ tables_1 := (List.mem_append_right _ (List.mem_append_right _ (List.mem_append_right _ (List.mem_append_left _ (List.mem_of_getElem? (i := 223) rfl)))))
set_option maxRecDepth 20000 in
theorem hm_cw148 : Cond.code ⟨"HourPromisedModel", "isCase", "(I)Z"⟩ prog_10_method_4_code 2 (some .boolean) ∈ tables_1 := (List.mem_append_right _ (List.mem_append_right _ (List.mem_append_right _ (List.mem_append_left _ (List.mem_of_getElem? (i := 227) rfl)))))
set_option maxRecDepth 20000 in
theorem hm_cw149 : Cond.code ⟨"HourPromisedModel", "may", "(III)I"⟩ prog_10_method_40_code 4 (some .int) ∈ tables_1 := (List.mem_append_right _ (List.mem_append_right _ (List.mem_append_right _ (List.mem_append_left _ (List.mem_of_getElem? (i := 233) rfl)))))
set_option maxRecDepth 20000 in
theorem hm_cw150 : Cond.code ⟨"HourPromisedModel", "mayBe", "(III)I"⟩ prog_10_method_34_code 6 (some .int) ∈ tables_1 := (List.mem_append_right _ (List.mem_append_right _ (List.mem_append_right _ (List.mem_append_left _ (List.mem_of_getElem? (i := 237) rfl)))))
set_option maxRecDepth 20000 in
theorem hm_cw151 : Cond.code ⟨"HourPromisedModel", "isWantedLater", "(III)Z"⟩ prog_10_method_31_code 6 (some .boolean) ∈ tables_1 := (List.mem_append_right _ (List.mem_append_right _ (List.mem_append_right _ (List.mem_append_right _ (List.mem_of_getElem? (i := 1) rfl)))))
set_option maxRecDepth 20000 in
theorem hm_cw152 : Cond.code ⟨"HourPromisedModel", "isBusy", "(II)Z"⟩ prog_10_method_32_code 5 (some .boolean) ∈ tables_1 := (List.mem_append_right _ (List.mem_append_right _ (List.mem_append_right _ (List.mem_append_right _ (List.mem_of_getElem? (i := 5) rfl)))))
set_option maxRecDepth 20000 in
theorem hm_cw153 : Cond.code ⟨"HourPromisedModel", "placeMiss", "(III)Z"⟩ prog_10_method_33_code 6 (some .boolean) ∈ tables_1 := (List.mem_append_right _ (List.mem_append_right _ (List.mem_append_right _ (List.mem_append_right _ (List.mem_of_getElem? (i := 9) rfl)))))
set_option maxRecDepth 20000 in
theorem hm_cw154 : Cond.code ⟨"HourPromisedModel", "findSets", "(I)Z"⟩ prog_10_method_36_code 4 (some .boolean) ∈ tables_1 := (List.mem_append_right _ (List.mem_append_right _ (List.mem_append_right _ (List.mem_append_right _ (List.mem_of_getElem? (i := 13) rfl)))))
set_option maxRecDepth 20000 in
theorem hm_cw155 : Cond.code ⟨"HourPromisedModel", "listSets", "(II)I"⟩ prog_10_method_35_code 11 (some .int) ∈ tables_1 := (List.mem_append_right _ (List.mem_append_right _ (List.mem_append_right _ (List.mem_append_right _ (List.mem_of_getElem? (i := 17) rfl)))))
set_option maxRecDepth 20000 in
theorem hm_cw156 : Cond.code ⟨"HourPromisedModel", "promise", "(III)I"⟩ prog_10_method_41_code 5 (some .int) ∈ tables_1 := (List.mem_append_right _ (List.mem_append_right _ (List.mem_append_right _ (List.mem_append_right _ (List.mem_of_getElem? (i := 21) rfl)))))
set_option maxRecDepth 20000 in
theorem hm_cw157 : Cond.code ⟨"HourPromisedModel", "earliest", "(III)I"⟩ prog_10_method_42_code 5 (some .int) ∈ tables_1 := (List.mem_append_right _ (List.mem_append_right _ (List.mem_append_right _ (List.mem_append_right _ (List.mem_of_getElem? (i := 26) rfl)))))
set_option maxRecDepth 20000 in
theorem hm_cw158 : Cond.code ⟨"HourPromisedModel", "undo", "(II)I"⟩ prog_10_method_43_code 3 (some .int) ∈ tables_1 := (List.mem_append_right _ (List.mem_append_right _ (List.mem_append_right _ (List.mem_append_right _ (List.mem_of_getElem? (i := 30) rfl)))))
set_option maxRecDepth 20000 in
theorem hm_cw159 : Cond.code ⟨"HourPromisedModel", "promised", "(III)I"⟩ prog_10_method_46_code 5 (some .int) ∈ tables_1 := (List.mem_append_right _ (List.mem_append_right _ (List.mem_append_right _ (List.mem_append_right _ (List.mem_of_getElem? (i := 34) rfl)))))
set_option maxRecDepth 20000 in
theorem hm_cw160 : Cond.code ⟨"HourPromisedModel", "chapelOf", "(I)I"⟩ prog_10_method_44_code 5 (some .int) ∈ tables_1 := (List.mem_append_right _ (List.mem_append_right _ (List.mem_append_right _ (List.mem_append_right _ (List.mem_of_getElem? (i := 38) rfl)))))
set_option maxRecDepth 20000 in
theorem hm_cw161 : Cond.code ⟨"HourPromisedModel", "setOf", "(II)I"⟩ prog_10_method_45_code 6 (some .int) ∈ tables_1 := (List.mem_append_right _ (List.mem_append_right _ (List.mem_append_right _ (List.mem_append_right _ (List.mem_of_getElem? (i := 42) rfl)))))
set_option maxRecDepth 20000 in
theorem hm_cw162 : Cond.code ⟨"HourPromisedModel", "taken", "(II)I"⟩ prog_10_method_47_code 5 (some .int) ∈ tables_1 := (List.mem_append_right _ (List.mem_append_right _ (List.mem_append_right _ (List.mem_append_right _ (List.mem_of_getElem? (i := 46) rfl)))))
set_option maxRecDepth 20000 in
theorem hm_cw163 : Cond.code ⟨"HourPromisedModel", "count", "(I)I"⟩ prog_10_method_48_code 5 (some .int) ∈ tables_1 := (List.mem_append_right _ (List.mem_append_right _ (List.mem_append_right _ (List.mem_append_right _ (List.mem_of_getElem? (i := 50) rfl)))))
set_option maxRecDepth 20000 in
theorem hm_cw164 : Cond.code ⟨"HourPromisedModel", "allTrust", "()I"⟩ prog_10_method_49_code 3 (some .int) ∈ tables_1 := (List.mem_append_right _ (List.mem_append_right _ (List.mem_append_right _ (List.mem_append_right _ (List.mem_of_getElem? (i := 54) rfl)))))
set_option maxRecDepth 20000 in
theorem hm_cw165 : Cond.code ⟨"HourPromisedModel", "plan", "(I)I"⟩ prog_10_method_50_code 2 (some .int) ∈ tables_1 := (List.mem_append_right _ (List.mem_append_right _ (List.mem_append_right _ (List.mem_append_right _ (List.mem_of_getElem? (i := 58) rfl)))))
set_option maxRecDepth 20000 in
theorem hm_cw166 : Cond.code ⟨"HourPromisedModel", "pay", "(II)I"⟩ prog_10_method_52_code 3 (some .int) ∈ tables_1 := (List.mem_append_right _ (List.mem_append_right _ (List.mem_append_right _ (List.mem_append_right _ (List.mem_of_getElem? (i := 63) rfl)))))
set_option maxRecDepth 20000 in
theorem hm_cw167 : Cond.code ⟨"HourPromisedModel", "isPlan", "(I)Z"⟩ prog_10_method_51_code 2 (some .boolean) ∈ tables_1 := (List.mem_append_right _ (List.mem_append_right _ (List.mem_append_right _ (List.mem_append_right _ (List.mem_of_getElem? (i := 67) rfl)))))
set_option maxRecDepth 20000 in
theorem hm_cw168 : Cond.code ⟨"HourPromisedModel", "rate", "(I)I"⟩ prog_10_method_53_code 3 (some .int) ∈ tables_1 := (List.mem_append_right _ (List.mem_append_right _ (List.mem_append_right _ (List.mem_append_right _ (List.mem_of_getElem? (i := 72) rfl)))))
set_option maxRecDepth 20000 in
theorem hm_cw169 : Cond.code ⟨"HourPromisedModel", "days", "(I)I"⟩ prog_10_method_54_code 6 (some .int) ∈ tables_1 := (List.mem_append_right _ (List.mem_append_right _ (List.mem_append_right _ (List.mem_append_right _ (List.mem_of_getElem? (i := 77) rfl)))))
set_option maxRecDepth 20000 in
theorem hm_cw170 : Cond.code ⟨"HourPromisedModel", "tie", "(II)I"⟩ prog_10_method_56_code 3 (some .int) ∈ tables_1 := (List.mem_append_right _ (List.mem_append_right _ (List.mem_append_right _ (List.mem_append_right _ (List.mem_of_getElem? (i := 84) rfl)))))
set_option maxRecDepth 20000 in
theorem hm_cw171 : Cond.code ⟨"HourPromisedModel", "planOf", "(I)I"⟩ prog_10_method_55_code 4 (some .int) ∈ tables_1 := (List.mem_append_right _ (List.mem_append_right _ (List.mem_append_right _ (List.mem_append_right _ (List.mem_of_getElem? (i := 88) rfl)))))
set_option maxRecDepth 20000 in
theorem hm_cw172 : Cond.code ⟨"HourPromisedModel", "settle", "(I)I"⟩ prog_10_method_57_code 4 (some .int) ∈ tables_1 := (List.mem_append_right _ (List.mem_append_right _ (List.mem_append_right _ (List.mem_append_right _ (List.mem_of_getElem? (i := 92) rfl)))))
set_option maxRecDepth 20000 in
theorem hm_cw173 : Cond.code ⟨"HourPromisedModel", "planned", "(II)I"⟩ prog_10_method_58_code 3 (some .int) ∈ tables_1 := (List.mem_append_right _ (List.mem_append_right _ (List.mem_append_right _ (List.mem_append_right _ (List.mem_of_getElem? (i := 96) rfl)))))
set_option maxRecDepth 20000 in
theorem hm_cwl0 : ∀ q ∈ hm_mt0, Cond.code q.1 q.2.1 q.2.2.1 q.2.2.2.1 ∈ tables_1 := List.forall_mem_cons.mpr ⟨hm_cw0, List.forall_mem_cons.mpr ⟨hm_cw1, List.forall_mem_cons.mpr ⟨hm_cw2, List.forall_mem_cons.mpr ⟨hm_cw3, List.forall_mem_cons.mpr ⟨hm_cw4, List.forall_mem_cons.mpr ⟨hm_cw5, List.forall_mem_cons.mpr ⟨hm_cw6, List.forall_mem_cons.mpr ⟨hm_cw7, List.forall_mem_cons.mpr ⟨hm_cw8, List.forall_mem_cons.mpr ⟨hm_cw9, List.forall_mem_cons.mpr ⟨hm_cw10, List.forall_mem_cons.mpr ⟨hm_cw11, List.forall_mem_cons.mpr ⟨hm_cw12, List.forall_mem_cons.mpr ⟨hm_cw13, List.forall_mem_cons.mpr ⟨hm_cw14, List.forall_mem_cons.mpr ⟨hm_cw15, List.forall_mem_cons.mpr ⟨hm_cw16, List.forall_mem_cons.mpr ⟨hm_cw17, List.forall_mem_cons.mpr ⟨hm_cw18, List.forall_mem_cons.mpr ⟨hm_cw19, List.forall_mem_cons.mpr ⟨hm_cw20, List.forall_mem_cons.mpr ⟨hm_cw21, List.forall_mem_cons.mpr ⟨hm_cw22, List.forall_mem_cons.mpr ⟨hm_cw23, List.forall_mem_cons.mpr ⟨hm_cw24, List.forall_mem_cons.mpr ⟨hm_cw25, List.forall_mem_cons.mpr ⟨hm_cw26, List.forall_mem_cons.mpr ⟨hm_cw27, List.forall_mem_cons.mpr ⟨hm_cw28, List.forall_mem_cons.mpr ⟨hm_cw29, fun _ h => absurd h List.not_mem_nil⟩⟩⟩⟩⟩⟩⟩⟩⟩⟩⟩⟩⟩⟩⟩⟩⟩⟩⟩⟩⟩⟩⟩⟩⟩⟩⟩⟩⟩⟩
set_option maxRecDepth 20000 in
theorem hm_cwl1 : ∀ q ∈ hm_mt1, Cond.code q.1 q.2.1 q.2.2.1 q.2.2.2.1 ∈ tables_1 := List.forall_mem_cons.mpr ⟨hm_cw30, List.forall_mem_cons.mpr ⟨hm_cw31, List.forall_mem_cons.mpr ⟨hm_cw32, List.forall_mem_cons.mpr ⟨hm_cw33, List.forall_mem_cons.mpr ⟨hm_cw34, List.forall_mem_cons.mpr ⟨hm_cw35, List.forall_mem_cons.mpr ⟨hm_cw36, List.forall_mem_cons.mpr ⟨hm_cw37, List.forall_mem_cons.mpr ⟨hm_cw38, List.forall_mem_cons.mpr ⟨hm_cw39, List.forall_mem_cons.mpr ⟨hm_cw40, List.forall_mem_cons.mpr ⟨hm_cw41, List.forall_mem_cons.mpr ⟨hm_cw42, List.forall_mem_cons.mpr ⟨hm_cw43, List.forall_mem_cons.mpr ⟨hm_cw44, List.forall_mem_cons.mpr ⟨hm_cw45, List.forall_mem_cons.mpr ⟨hm_cw46, List.forall_mem_cons.mpr ⟨hm_cw47, List.forall_mem_cons.mpr ⟨hm_cw48, List.forall_mem_cons.mpr ⟨hm_cw49, List.forall_mem_cons.mpr ⟨hm_cw50, List.forall_mem_cons.mpr ⟨hm_cw51, List.forall_mem_cons.mpr ⟨hm_cw52, List.forall_mem_cons.mpr ⟨hm_cw53, List.forall_mem_cons.mpr ⟨hm_cw54, List.forall_mem_cons.mpr ⟨hm_cw55, List.forall_mem_cons.mpr ⟨hm_cw56, List.forall_mem_cons.mpr ⟨hm_cw57, List.forall_mem_cons.mpr ⟨hm_cw58, List.forall_mem_cons.mpr ⟨hm_cw59, fun _ h => absurd h List.not_mem_nil⟩⟩⟩⟩⟩⟩⟩⟩⟩⟩⟩⟩⟩⟩⟩⟩⟩⟩⟩⟩⟩⟩⟩⟩⟩⟩⟩⟩⟩⟩
set_option maxRecDepth 20000 in
theorem hm_cwl2 : ∀ q ∈ hm_mt2, Cond.code q.1 q.2.1 q.2.2.1 q.2.2.2.1 ∈ tables_1 := List.forall_mem_cons.mpr ⟨hm_cw60, List.forall_mem_cons.mpr ⟨hm_cw61, List.forall_mem_cons.mpr ⟨hm_cw62, List.forall_mem_cons.mpr ⟨hm_cw63, List.forall_mem_cons.mpr ⟨hm_cw64, List.forall_mem_cons.mpr ⟨hm_cw65, List.forall_mem_cons.mpr ⟨hm_cw66, List.forall_mem_cons.mpr ⟨hm_cw67, List.forall_mem_cons.mpr ⟨hm_cw68, List.forall_mem_cons.mpr ⟨hm_cw69, List.forall_mem_cons.mpr ⟨hm_cw70, List.forall_mem_cons.mpr ⟨hm_cw71, List.forall_mem_cons.mpr ⟨hm_cw72, List.forall_mem_cons.mpr ⟨hm_cw73, List.forall_mem_cons.mpr ⟨hm_cw74, List.forall_mem_cons.mpr ⟨hm_cw75, List.forall_mem_cons.mpr ⟨hm_cw76, List.forall_mem_cons.mpr ⟨hm_cw77, List.forall_mem_cons.mpr ⟨hm_cw78, List.forall_mem_cons.mpr ⟨hm_cw79, List.forall_mem_cons.mpr ⟨hm_cw80, List.forall_mem_cons.mpr ⟨hm_cw81, List.forall_mem_cons.mpr ⟨hm_cw82, List.forall_mem_cons.mpr ⟨hm_cw83, List.forall_mem_cons.mpr ⟨hm_cw84, List.forall_mem_cons.mpr ⟨hm_cw85, List.forall_mem_cons.mpr ⟨hm_cw86, List.forall_mem_cons.mpr ⟨hm_cw87, List.forall_mem_cons.mpr ⟨hm_cw88, List.forall_mem_cons.mpr ⟨hm_cw89, fun _ h => absurd h List.not_mem_nil⟩⟩⟩⟩⟩⟩⟩⟩⟩⟩⟩⟩⟩⟩⟩⟩⟩⟩⟩⟩⟩⟩⟩⟩⟩⟩⟩⟩⟩⟩
set_option maxRecDepth 20000 in
theorem hm_cwl3 : ∀ q ∈ hm_mt3, Cond.code q.1 q.2.1 q.2.2.1 q.2.2.2.1 ∈ tables_1 := List.forall_mem_cons.mpr ⟨hm_cw90, List.forall_mem_cons.mpr ⟨hm_cw91, List.forall_mem_cons.mpr ⟨hm_cw92, List.forall_mem_cons.mpr ⟨hm_cw93, List.forall_mem_cons.mpr ⟨hm_cw94, List.forall_mem_cons.mpr ⟨hm_cw95, List.forall_mem_cons.mpr ⟨hm_cw96, List.forall_mem_cons.mpr ⟨hm_cw97, List.forall_mem_cons.mpr ⟨hm_cw98, List.forall_mem_cons.mpr ⟨hm_cw99, List.forall_mem_cons.mpr ⟨hm_cw100, List.forall_mem_cons.mpr ⟨hm_cw101, List.forall_mem_cons.mpr ⟨hm_cw102, List.forall_mem_cons.mpr ⟨hm_cw103, List.forall_mem_cons.mpr ⟨hm_cw104, List.forall_mem_cons.mpr ⟨hm_cw105, List.forall_mem_cons.mpr ⟨hm_cw106, List.forall_mem_cons.mpr ⟨hm_cw107, List.forall_mem_cons.mpr ⟨hm_cw108, List.forall_mem_cons.mpr ⟨hm_cw109, List.forall_mem_cons.mpr ⟨hm_cw110, List.forall_mem_cons.mpr ⟨hm_cw111, List.forall_mem_cons.mpr ⟨hm_cw112, List.forall_mem_cons.mpr ⟨hm_cw113, List.forall_mem_cons.mpr ⟨hm_cw114, List.forall_mem_cons.mpr ⟨hm_cw115, List.forall_mem_cons.mpr ⟨hm_cw116, List.forall_mem_cons.mpr ⟨hm_cw117, List.forall_mem_cons.mpr ⟨hm_cw118, List.forall_mem_cons.mpr ⟨hm_cw119, fun _ h => absurd h List.not_mem_nil⟩⟩⟩⟩⟩⟩⟩⟩⟩⟩⟩⟩⟩⟩⟩⟩⟩⟩⟩⟩⟩⟩⟩⟩⟩⟩⟩⟩⟩⟩
set_option maxRecDepth 20000 in
theorem hm_cwl4 : ∀ q ∈ hm_mt4, Cond.code q.1 q.2.1 q.2.2.1 q.2.2.2.1 ∈ tables_1 := List.forall_mem_cons.mpr ⟨hm_cw120, List.forall_mem_cons.mpr ⟨hm_cw121, List.forall_mem_cons.mpr ⟨hm_cw122, List.forall_mem_cons.mpr ⟨hm_cw123, List.forall_mem_cons.mpr ⟨hm_cw124, List.forall_mem_cons.mpr ⟨hm_cw125, List.forall_mem_cons.mpr ⟨hm_cw126, List.forall_mem_cons.mpr ⟨hm_cw127, List.forall_mem_cons.mpr ⟨hm_cw128, List.forall_mem_cons.mpr ⟨hm_cw129, List.forall_mem_cons.mpr ⟨hm_cw130, List.forall_mem_cons.mpr ⟨hm_cw131, List.forall_mem_cons.mpr ⟨hm_cw132, List.forall_mem_cons.mpr ⟨hm_cw133, List.forall_mem_cons.mpr ⟨hm_cw134, List.forall_mem_cons.mpr ⟨hm_cw135, List.forall_mem_cons.mpr ⟨hm_cw136, List.forall_mem_cons.mpr ⟨hm_cw137, List.forall_mem_cons.mpr ⟨hm_cw138, List.forall_mem_cons.mpr ⟨hm_cw139, List.forall_mem_cons.mpr ⟨hm_cw140, List.forall_mem_cons.mpr ⟨hm_cw141, List.forall_mem_cons.mpr ⟨hm_cw142, List.forall_mem_cons.mpr ⟨hm_cw143, List.forall_mem_cons.mpr ⟨hm_cw144, List.forall_mem_cons.mpr ⟨hm_cw145, List.forall_mem_cons.mpr ⟨hm_cw146, List.forall_mem_cons.mpr ⟨hm_cw147, List.forall_mem_cons.mpr ⟨hm_cw148, List.forall_mem_cons.mpr ⟨hm_cw149, fun _ h => absurd h List.not_mem_nil⟩⟩⟩⟩⟩⟩⟩⟩⟩⟩⟩⟩⟩⟩⟩⟩⟩⟩⟩⟩⟩⟩⟩⟩⟩⟩⟩⟩⟩⟩
set_option maxRecDepth 20000 in
theorem hm_cwl5 : ∀ q ∈ hm_mt5, Cond.code q.1 q.2.1 q.2.2.1 q.2.2.2.1 ∈ tables_1 := List.forall_mem_cons.mpr ⟨hm_cw150, List.forall_mem_cons.mpr ⟨hm_cw151, List.forall_mem_cons.mpr ⟨hm_cw152, List.forall_mem_cons.mpr ⟨hm_cw153, List.forall_mem_cons.mpr ⟨hm_cw154, List.forall_mem_cons.mpr ⟨hm_cw155, List.forall_mem_cons.mpr ⟨hm_cw156, List.forall_mem_cons.mpr ⟨hm_cw157, List.forall_mem_cons.mpr ⟨hm_cw158, List.forall_mem_cons.mpr ⟨hm_cw159, List.forall_mem_cons.mpr ⟨hm_cw160, List.forall_mem_cons.mpr ⟨hm_cw161, List.forall_mem_cons.mpr ⟨hm_cw162, List.forall_mem_cons.mpr ⟨hm_cw163, List.forall_mem_cons.mpr ⟨hm_cw164, List.forall_mem_cons.mpr ⟨hm_cw165, List.forall_mem_cons.mpr ⟨hm_cw166, List.forall_mem_cons.mpr ⟨hm_cw167, List.forall_mem_cons.mpr ⟨hm_cw168, List.forall_mem_cons.mpr ⟨hm_cw169, List.forall_mem_cons.mpr ⟨hm_cw170, List.forall_mem_cons.mpr ⟨hm_cw171, List.forall_mem_cons.mpr ⟨hm_cw172, List.forall_mem_cons.mpr ⟨hm_cw173, fun _ h => absurd h List.not_mem_nil⟩⟩⟩⟩⟩⟩⟩⟩⟩⟩⟩⟩⟩⟩⟩⟩⟩⟩⟩⟩⟩⟩⟩⟩
