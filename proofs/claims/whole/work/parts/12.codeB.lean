theorem m_60 : hm_mtab[60]? = some (⟨"HourPromised", "place", "()I"⟩, prog_1_method_10_code, 1, (some .int), 7, 1, 1) := rfl
theorem k_60_0 : hm_code 60 0 = some (.aload_n 0) := by decide +kernel
theorem k_60_1 : hm_code 60 1 = some (.getfield 40) := by decide +kernel
theorem k_60_4 : hm_code 60 4 = some (.getfield 141) := by decide +kernel
theorem k_60_7 : hm_code 60 7 = some (.ireturn) := by decide +kernel
theorem m_61 : hm_mtab[61]? = some (⟨"HourPromised", "says", "(III)I"⟩, prog_1_method_11_code, 4, (some .int), 7, 4, 1) := rfl
theorem k_61_0 : hm_code 61 0 = some (.iload_n 1) := by decide +kernel
theorem k_61_1 : hm_code 61 1 = some (.iconst 0) := by decide +kernel
theorem k_61_2 : hm_code 61 2 = some (.iconst 3) := by decide +kernel
theorem k_61_3 : hm_code 61 3 = some (.invokestatic 78) := by decide +kernel
theorem k_61_6 : hm_code 61 6 = some (.ifCond .ne 7) := by decide +kernel
theorem k_61_9 : hm_code 61 9 = some (.sipush (-1001)) := by decide +kernel
theorem k_61_12 : hm_code 61 12 = some (.ireturn) := by decide +kernel
theorem k_61_13 : hm_code 61 13 = some (.iload_n 2) := by decide +kernel
theorem k_61_14 : hm_code 61 14 = some (.invokestatic 144) := by decide +kernel
theorem k_61_17 : hm_code 61 17 = some (.ifCond .eq 12) := by decide +kernel
theorem k_61_20 : hm_code 61 20 = some (.iload_n 3) := by decide +kernel
theorem k_61_21 : hm_code 61 21 = some (.iconst 0) := by decide +kernel
theorem k_61_22 : hm_code 61 22 = some (.iconst 4) := by decide +kernel
theorem k_61_23 : hm_code 61 23 = some (.invokestatic 78) := by decide +kernel
theorem k_61_26 : hm_code 61 26 = some (.ifCond .ne 7) := by decide +kernel
theorem k_61_29 : hm_code 61 29 = some (.sipush (-1002)) := by decide +kernel
theorem k_61_32 : hm_code 61 32 = some (.ireturn) := by decide +kernel
theorem k_61_33 : hm_code 61 33 = some (.aload_n 0) := by decide +kernel
theorem k_61_34 : hm_code 61 34 = some (.getfield 46) := by decide +kernel
theorem k_61_37 : hm_code 61 37 = some (.iload_n 1) := by decide +kernel
theorem k_61_38 : hm_code 61 38 = some (.aaload) := by decide +kernel
theorem k_61_39 : hm_code 61 39 = some (.iload_n 2) := by decide +kernel
theorem k_61_40 : hm_code 61 40 = some (.iload_n 3) := by decide +kernel
theorem k_61_41 : hm_code 61 41 = some (.invokevirtual 148) := by decide +kernel
theorem k_61_44 : hm_code 61 44 = some (.ireturn) := by decide +kernel
theorem m_62 : hm_mtab[62]? = some (⟨"HourPromised", "isStep", "(I)Z"⟩, prog_1_method_41_code, 1, (some .boolean), 7, 1, 0) := rfl
theorem k_62_0 : hm_code 62 0 = some (.iload_n 0) := by decide +kernel
theorem k_62_1 : hm_code 62 1 = some (.iconst 0) := by decide +kernel
theorem k_62_2 : hm_code 62 2 = some (.iconst 3) := by decide +kernel
theorem k_62_3 : hm_code 62 3 = some (.invokestatic 78) := by decide +kernel
theorem k_62_6 : hm_code 62 6 = some (.ireturn) := by decide +kernel
theorem m_63 : hm_mtab[63]? = some (⟨"HourPromised", "casus", "(IIII)I"⟩, prog_1_method_12_code, 5, (some .int), 7, 5, 1) := rfl
theorem k_63_0 : hm_code 63 0 = some (.iload_n 1) := by decide +kernel
theorem k_63_1 : hm_code 63 1 = some (.iconst 0) := by decide +kernel
theorem k_63_2 : hm_code 63 2 = some (.iconst 3) := by decide +kernel
theorem k_63_3 : hm_code 63 3 = some (.invokestatic 78) := by decide +kernel
theorem k_63_6 : hm_code 63 6 = some (.ifCond .ne 7) := by decide +kernel
theorem k_63_9 : hm_code 63 9 = some (.sipush (-1001)) := by decide +kernel
theorem k_63_12 : hm_code 63 12 = some (.ireturn) := by decide +kernel
theorem k_63_13 : hm_code 63 13 = some (.iload_n 2) := by decide +kernel
theorem k_63_14 : hm_code 63 14 = some (.invokestatic 151) := by decide +kernel
theorem k_63_17 : hm_code 63 17 = some (.ifCond .eq 24) := by decide +kernel
theorem k_63_20 : hm_code 63 20 = some (.iload_n 3) := by decide +kernel
theorem k_63_21 : hm_code 63 21 = some (.iconst 0) := by decide +kernel
theorem k_63_22 : hm_code 63 22 = some (.bipush 6) := by decide +kernel
theorem k_63_24 : hm_code 63 24 = some (.invokestatic 78) := by decide +kernel
theorem k_63_27 : hm_code 63 27 = some (.ifCond .eq 14) := by decide +kernel
theorem k_63_30 : hm_code 63 30 = some (.iload 4) := by decide +kernel
theorem k_63_32 : hm_code 63 32 = some (.iconst 0) := by decide +kernel
theorem k_63_33 : hm_code 63 33 = some (.bipush 70) := by decide +kernel
theorem k_63_35 : hm_code 63 35 = some (.invokestatic 78) := by decide +kernel
theorem k_63_38 : hm_code 63 38 = some (.ifCond .ne 7) := by decide +kernel
theorem k_63_41 : hm_code 63 41 = some (.sipush (-1002)) := by decide +kernel
theorem k_63_44 : hm_code 63 44 = some (.ireturn) := by decide +kernel
theorem k_63_45 : hm_code 63 45 = some (.aload_n 0) := by decide +kernel
theorem k_63_46 : hm_code 63 46 = some (.getfield 58) := by decide +kernel
theorem k_63_49 : hm_code 63 49 = some (.invokevirtual 124) := by decide +kernel
theorem k_63_52 : hm_code 63 52 = some (.bipush 16) := by decide +kernel
theorem k_63_54 : hm_code 63 54 = some (.if_icmp .lt 7) := by decide +kernel
theorem k_63_57 : hm_code 63 57 = some (.sipush (-1004)) := by decide +kernel
theorem k_63_60 : hm_code 63 60 = some (.ireturn) := by decide +kernel
theorem k_63_61 : hm_code 63 61 = some (.aload_n 0) := by decide +kernel
theorem k_63_62 : hm_code 63 62 = some (.getfield 58) := by decide +kernel
theorem k_63_65 : hm_code 63 65 = some (.new 132) := by decide +kernel
theorem k_63_68 : hm_code 63 68 = some (.dup) := by decide +kernel
theorem k_63_69 : hm_code 63 69 = some (.iload_n 1) := by decide +kernel
theorem k_63_70 : hm_code 63 70 = some (.iload_n 2) := by decide +kernel
theorem k_63_71 : hm_code 63 71 = some (.iload_n 3) := by decide +kernel
theorem k_63_72 : hm_code 63 72 = some (.iload 4) := by decide +kernel
theorem k_63_74 : hm_code 63 74 = some (.invokespecial 154) := by decide +kernel
theorem k_63_77 : hm_code 63 77 = some (.invokevirtual 157) := by decide +kernel
theorem k_63_80 : hm_code 63 80 = some (.pop) := by decide +kernel
theorem k_63_81 : hm_code 63 81 = some (.aload_n 0) := by decide +kernel
theorem k_63_82 : hm_code 63 82 = some (.getfield 58) := by decide +kernel
theorem k_63_85 : hm_code 63 85 = some (.invokevirtual 124) := by decide +kernel
theorem k_63_88 : hm_code 63 88 = some (.iconst 1) := by decide +kernel
theorem k_63_89 : hm_code 63 89 = some (.isub) := by decide +kernel
theorem k_63_90 : hm_code 63 90 = some (.ireturn) := by decide +kernel
theorem m_64 : hm_mtab[64]? = some (⟨"HourPromised", "isHour", "(I)Z"⟩, prog_1_method_40_code, 1, (some .boolean), 7, 1, 0) := rfl
theorem k_64_0 : hm_code 64 0 = some (.iload_n 0) := by decide +kernel
theorem k_64_1 : hm_code 64 1 = some (.iconst 0) := by decide +kernel
theorem k_64_2 : hm_code 64 2 = some (.sipush 399) := by decide +kernel
theorem k_64_5 : hm_code 64 5 = some (.invokestatic 78) := by decide +kernel
theorem k_64_8 : hm_code 64 8 = some (.ireturn) := by decide +kernel
theorem m_65 : hm_mtab[65]? = some (⟨"HourPromised$CaseFile", "<init>", "(IIII)V"⟩, prog_3_method_1_code, 5, none, 1, 5, 2) := rfl
theorem k_65_0 : hm_code 65 0 = some (.aload_n 0) := by decide +kernel
theorem k_65_1 : hm_code 65 1 = some (.invokespecial 3) := by decide +kernel
theorem k_65_4 : hm_code 65 4 = some (.aload_n 0) := by decide +kernel
theorem k_65_5 : hm_code 65 5 = some (.bipush 6) := by decide +kernel
theorem k_65_7 : hm_code 65 7 = some (.newarray .int) := by decide +kernel
theorem k_65_9 : hm_code 65 9 = some (.putfield 9) := by decide +kernel
theorem k_65_12 : hm_code 65 12 = some (.aload_n 0) := by decide +kernel
theorem k_65_13 : hm_code 65 13 = some (.iconst 4) := by decide +kernel
theorem k_65_14 : hm_code 65 14 = some (.newarray .int) := by decide +kernel
theorem k_65_16 : hm_code 65 16 = some (.putfield 15) := by decide +kernel
theorem k_65_19 : hm_code 65 19 = some (.aload_n 0) := by decide +kernel
theorem k_65_20 : hm_code 65 20 = some (.iconst (-1)) := by decide +kernel
theorem k_65_21 : hm_code 65 21 = some (.putfield 18) := by decide +kernel
theorem k_65_24 : hm_code 65 24 = some (.aload_n 0) := by decide +kernel
theorem k_65_25 : hm_code 65 25 = some (.iconst 0) := by decide +kernel
theorem k_65_26 : hm_code 65 26 = some (.putfield 22) := by decide +kernel
theorem k_65_29 : hm_code 65 29 = some (.aload_n 0) := by decide +kernel
theorem k_65_30 : hm_code 65 30 = some (.iload_n 1) := by decide +kernel
theorem k_65_31 : hm_code 65 31 = some (.putfield 26) := by decide +kernel
theorem k_65_34 : hm_code 65 34 = some (.aload_n 0) := by decide +kernel
theorem k_65_35 : hm_code 65 35 = some (.iload_n 2) := by decide +kernel
theorem k_65_36 : hm_code 65 36 = some (.putfield 29) := by decide +kernel
theorem k_65_39 : hm_code 65 39 = some (.aload_n 0) := by decide +kernel
theorem k_65_40 : hm_code 65 40 = some (.iload_n 3) := by decide +kernel
theorem k_65_41 : hm_code 65 41 = some (.putfield 32) := by decide +kernel
theorem k_65_44 : hm_code 65 44 = some (.aload_n 0) := by decide +kernel
theorem k_65_45 : hm_code 65 45 = some (.iload 4) := by decide +kernel
theorem k_65_47 : hm_code 65 47 = some (.putfield 35) := by decide +kernel
theorem k_65_50 : hm_code 65 50 = some (.aload_n 0) := by decide +kernel
theorem k_65_51 : hm_code 65 51 = some (.getfield 9) := by decide +kernel
theorem k_65_54 : hm_code 65 54 = some (.iconst (-1)) := by decide +kernel
theorem k_65_55 : hm_code 65 55 = some (.invokestatic 38) := by decide +kernel
theorem k_65_58 : hm_code 65 58 = some (.aload_n 0) := by decide +kernel
theorem k_65_59 : hm_code 65 59 = some (.getfield 15) := by decide +kernel
theorem k_65_62 : hm_code 65 62 = some (.iconst (-1)) := by decide +kernel
theorem k_65_63 : hm_code 65 63 = some (.invokestatic 38) := by decide +kernel
theorem k_65_66 : hm_code 65 66 = some (.return_) := by decide +kernel
theorem m_66 : hm_mtab[66]? = some (⟨"java/util/ArrayList", "add", "(Ljava/lang/Object;)Z"⟩, prog_19_method_25_code, 2, (some .boolean), 9, 2, 1) := rfl
theorem k_66_0 : hm_code 66 0 = some (.aload_n 0) := by decide +kernel
theorem k_66_1 : hm_code 66 1 = some (.dup) := by decide +kernel
theorem k_66_2 : hm_code 66 2 = some (.getfield 63) := by decide +kernel
theorem k_66_5 : hm_code 66 5 = some (.iconst 1) := by decide +kernel
theorem k_66_6 : hm_code 66 6 = some (.iadd) := by decide +kernel
theorem k_66_7 : hm_code 66 7 = some (.putfield 63) := by decide +kernel
theorem k_66_10 : hm_code 66 10 = some (.aload_n 0) := by decide +kernel
theorem k_66_11 : hm_code 66 11 = some (.aload_n 1) := by decide +kernel
theorem k_66_12 : hm_code 66 12 = some (.aload_n 0) := by decide +kernel
theorem k_66_13 : hm_code 66 13 = some (.getfield 9) := by decide +kernel
theorem k_66_16 : hm_code 66 16 = some (.aload_n 0) := by decide +kernel
theorem k_66_17 : hm_code 66 17 = some (.getfield 48) := by decide +kernel
theorem k_66_20 : hm_code 66 20 = some (.invokevirtual 131) := by decide +kernel
theorem k_66_23 : hm_code 66 23 = some (.iconst 1) := by decide +kernel
theorem k_66_24 : hm_code 66 24 = some (.ireturn) := by decide +kernel
theorem m_67 : hm_mtab[67]? = some (⟨"java/util/ArrayList", "add", "(Ljava/lang/Object;[Ljava/lang/Object;I)V"⟩, prog_19_method_24_code, 4, none, 9, 4, 1) := rfl
theorem k_67_0 : hm_code 67 0 = some (.iload_n 3) := by decide +kernel
theorem k_67_1 : hm_code 67 1 = some (.aload_n 2) := by decide +kernel
theorem k_67_2 : hm_code 67 2 = some (.arraylength) := by decide +kernel
theorem k_67_3 : hm_code 67 3 = some (.if_icmp .ne 8) := by decide +kernel
theorem k_67_6 : hm_code 67 6 = some (.aload_n 0) := by decide +kernel
theorem k_67_7 : hm_code 67 7 = some (.invokevirtual 129) := by decide +kernel
theorem k_67_10 : hm_code 67 10 = some (.astore_n 2) := by decide +kernel
theorem k_67_11 : hm_code 67 11 = some (.aload_n 2) := by decide +kernel
theorem k_67_12 : hm_code 67 12 = some (.iload_n 3) := by decide +kernel
theorem k_67_13 : hm_code 67 13 = some (.aload_n 1) := by decide +kernel
theorem k_67_14 : hm_code 67 14 = some (.aastore) := by decide +kernel
theorem k_67_15 : hm_code 67 15 = some (.aload_n 0) := by decide +kernel
theorem k_67_16 : hm_code 67 16 = some (.iload_n 3) := by decide +kernel
theorem k_67_17 : hm_code 67 17 = some (.iconst 1) := by decide +kernel
theorem k_67_18 : hm_code 67 18 = some (.iadd) := by decide +kernel
theorem k_67_19 : hm_code 67 19 = some (.putfield 48) := by decide +kernel
theorem k_67_22 : hm_code 67 22 = some (.return_) := by decide +kernel
theorem m_68 : hm_mtab[68]? = some (⟨"java/util/ArrayList", "grow", "()[Ljava/lang/Object;"⟩, prog_19_method_7_code, 1, (some (.array (.object "java/lang/Object"))), 9, 1, 1) := rfl
theorem k_68_0 : hm_code 68 0 = some (.aload_n 0) := by decide +kernel
theorem k_68_1 : hm_code 68 1 = some (.aload_n 0) := by decide +kernel
theorem k_68_2 : hm_code 68 2 = some (.getfield 48) := by decide +kernel
theorem k_68_5 : hm_code 68 5 = some (.iconst 1) := by decide +kernel
theorem k_68_6 : hm_code 68 6 = some (.iadd) := by decide +kernel
theorem k_68_7 : hm_code 68 7 = some (.invokevirtual 69) := by decide +kernel
theorem k_68_10 : hm_code 68 10 = some (.areturn) := by decide +kernel
theorem m_69 : hm_mtab[69]? = some (⟨"java/util/ArrayList", "grow", "(I)[Ljava/lang/Object;"⟩, prog_19_method_6_code, 4, (some (.array (.object "java/lang/Object"))), 9, 2, 1) := rfl
theorem k_69_0 : hm_code 69 0 = some (.aload_n 0) := by decide +kernel
theorem k_69_1 : hm_code 69 1 = some (.getfield 9) := by decide +kernel
theorem k_69_4 : hm_code 69 4 = some (.arraylength) := by decide +kernel
theorem k_69_5 : hm_code 69 5 = some (.istore_n 2) := by decide +kernel
theorem k_69_6 : hm_code 69 6 = some (.iload_n 2) := by decide +kernel
theorem k_69_7 : hm_code 69 7 = some (.ifCond .gt 13) := by decide +kernel
theorem k_69_10 : hm_code 69 10 = some (.aload_n 0) := by decide +kernel
theorem k_69_11 : hm_code 69 11 = some (.getfield 9) := by decide +kernel
theorem k_69_14 : hm_code 69 14 = some (.getstatic 39) := by decide +kernel
theorem k_69_17 : hm_code 69 17 = some (.if_acmp .eq 28) := by decide +kernel
theorem k_69_20 : hm_code 69 20 = some (.iload_n 2) := by decide +kernel
theorem k_69_21 : hm_code 69 21 = some (.iload_n 1) := by decide +kernel
theorem k_69_22 : hm_code 69 22 = some (.iload_n 2) := by decide +kernel
theorem k_69_23 : hm_code 69 23 = some (.isub) := by decide +kernel
theorem k_69_24 : hm_code 69 24 = some (.iload_n 2) := by decide +kernel
theorem k_69_25 : hm_code 69 25 = some (.iconst 1) := by decide +kernel
theorem k_69_26 : hm_code 69 26 = some (.ishr) := by decide +kernel
theorem k_69_27 : hm_code 69 27 = some (.invokestatic 73) := by decide +kernel
theorem k_69_30 : hm_code 69 30 = some (.istore_n 3) := by decide +kernel
theorem k_69_31 : hm_code 69 31 = some (.aload_n 0) := by decide +kernel
theorem k_69_32 : hm_code 69 32 = some (.aload_n 0) := by decide +kernel
theorem k_69_33 : hm_code 69 33 = some (.getfield 9) := by decide +kernel
theorem k_69_36 : hm_code 69 36 = some (.iload_n 3) := by decide +kernel
theorem k_69_37 : hm_code 69 37 = some (.invokestatic 66) := by decide +kernel
theorem k_69_40 : hm_code 69 40 = some (.dup_x1) := by decide +kernel
theorem k_69_41 : hm_code 69 41 = some (.putfield 9) := by decide +kernel
theorem k_69_44 : hm_code 69 44 = some (.areturn) := by decide +kernel
theorem k_69_45 : hm_code 69 45 = some (.aload_n 0) := by decide +kernel
theorem k_69_46 : hm_code 69 46 = some (.bipush 10) := by decide +kernel
theorem k_69_48 : hm_code 69 48 = some (.iload_n 1) := by decide +kernel
theorem k_69_49 : hm_code 69 49 = some (.invokestatic 79) := by decide +kernel
theorem k_69_52 : hm_code 69 52 = some (.anewarray 7) := by decide +kernel
theorem k_69_55 : hm_code 69 55 = some (.dup_x1) := by decide +kernel
theorem k_69_56 : hm_code 69 56 = some (.putfield 9) := by decide +kernel
theorem k_69_59 : hm_code 69 59 = some (.areturn) := by decide +kernel
theorem m_70 : hm_mtab[70]? = some (⟨"jdk/internal/util/ArraysSupport", "newLength", "(III)I"⟩, prog_26_method_27_code, 4, (some .int), 17, 3, 0) := rfl
theorem k_70_0 : hm_code 70 0 = some (.iload_n 0) := by decide +kernel
theorem k_70_1 : hm_code 70 1 = some (.iload_n 1) := by decide +kernel
theorem k_70_2 : hm_code 70 2 = some (.iload_n 2) := by decide +kernel
theorem k_70_3 : hm_code 70 3 = some (.invokestatic 194) := by decide +kernel
theorem k_70_6 : hm_code 70 6 = some (.iadd) := by decide +kernel
theorem k_70_7 : hm_code 70 7 = some (.istore_n 3) := by decide +kernel
theorem k_70_8 : hm_code 70 8 = some (.iconst 0) := by decide +kernel
theorem k_70_9 : hm_code 70 9 = some (.iload_n 3) := by decide +kernel
theorem k_70_10 : hm_code 70 10 = some (.if_icmp .ge 11) := by decide +kernel
theorem k_70_13 : hm_code 70 13 = some (.iload_n 3) := by decide +kernel
theorem k_70_14 : hm_code 70 14 = some (.ldc 200) := by decide +kernel
theorem k_70_16 : hm_code 70 16 = some (.if_icmp .gt 5) := by decide +kernel
theorem k_70_19 : hm_code 70 19 = some (.iload_n 3) := by decide +kernel
theorem k_70_20 : hm_code 70 20 = some (.ireturn) := by decide +kernel
theorem k_70_21 : hm_code 70 21 = some (.iload_n 0) := by decide +kernel
theorem k_70_22 : hm_code 70 22 = some (.iload_n 1) := by decide +kernel
theorem k_70_23 : hm_code 70 23 = some (.invokestatic 201) := by decide +kernel
theorem k_70_26 : hm_code 70 26 = some (.ireturn) := by decide +kernel
theorem m_72 : hm_mtab[72]? = some (⟨"java/util/Arrays", "copyOf", "([Ljava/lang/Object;I)[Ljava/lang/Object;"⟩, prog_20_method_119_code, 2, (some (.array (.object "java/lang/Object"))), 11, 2, 0) := rfl
theorem k_72_0 : hm_code 72 0 = some (.aload_n 0) := by decide +kernel
theorem k_72_1 : hm_code 72 1 = some (.iload_n 1) := by decide +kernel
theorem k_72_2 : hm_code 72 2 = some (.aload_n 0) := by decide +kernel
theorem k_72_3 : hm_code 72 3 = some (.invokevirtual 86) := by decide +kernel
theorem k_72_6 : hm_code 72 6 = some (.invokestatic 300) := by decide +kernel
theorem k_72_9 : hm_code 72 9 = some (.areturn) := by decide +kernel
theorem m_73 : hm_mtab[73]? = some (⟨"java/util/Arrays", "copyOf", "([Ljava/lang/Object;ILjava/lang/Class;)[Ljava/lang/Object;"⟩, prog_20_method_120_code, 4, (some (.array (.object "java/lang/Object"))), 11, 3, 0) := rfl
theorem k_73_0 : hm_code 73 0 = some (.aload_n 2) := by decide +kernel
theorem k_73_1 : hm_code 73 1 = some (.ldc 110) := by decide +kernel
theorem k_73_3 : hm_code 73 3 = some (.if_acmp .ne 10) := by decide +kernel
theorem k_73_6 : hm_code 73 6 = some (.iload_n 1) := by decide +kernel
theorem k_73_7 : hm_code 73 7 = some (.anewarray 2) := by decide +kernel
theorem k_73_10 : hm_code 73 10 = some (.goto 14) := by decide +kernel
theorem k_73_13 : hm_code 73 13 = some (.aload_n 2) := by decide +kernel
theorem k_73_14 : hm_code 73 14 = some (.invokevirtual 90) := by decide +kernel
theorem k_73_17 : hm_code 73 17 = some (.iload_n 1) := by decide +kernel
theorem k_73_18 : hm_code 73 18 = some (.invokestatic 95) := by decide +kernel
theorem k_73_21 : hm_code 73 21 = some (.checkcast 110) := by decide +kernel
theorem k_73_24 : hm_code 73 24 = some (.astore_n 3) := by decide +kernel
theorem k_73_25 : hm_code 73 25 = some (.aload_n 0) := by decide +kernel
theorem k_73_26 : hm_code 73 26 = some (.iconst 0) := by decide +kernel
theorem k_73_27 : hm_code 73 27 = some (.aload_n 3) := by decide +kernel
theorem k_73_28 : hm_code 73 28 = some (.iconst 0) := by decide +kernel
theorem k_73_29 : hm_code 73 29 = some (.aload_n 0) := by decide +kernel
theorem k_73_30 : hm_code 73 30 = some (.arraylength) := by decide +kernel
theorem k_73_31 : hm_code 73 31 = some (.iload_n 1) := by decide +kernel
theorem k_73_32 : hm_code 73 32 = some (.invokestatic 304) := by decide +kernel
theorem k_73_35 : hm_code 73 35 = some (.invokestatic 150) := by decide +kernel
theorem k_73_38 : hm_code 73 38 = some (.aload_n 3) := by decide +kernel
theorem k_73_39 : hm_code 73 39 = some (.areturn) := by decide +kernel
theorem m_74 : hm_mtab[74]? = some (⟨"HourPromised", "paper", "(III)I"⟩, prog_1_method_13_code, 5, (some .int), 7, 4, 1) := rfl
theorem k_74_0 : hm_code 74 0 = some (.aload_n 0) := by decide +kernel
theorem k_74_1 : hm_code 74 1 = some (.iload_n 1) := by decide +kernel
theorem k_74_2 : hm_code 74 2 = some (.invokevirtual 161) := by decide +kernel
theorem k_74_5 : hm_code 74 5 = some (.astore 4) := by decide +kernel
theorem k_74_7 : hm_code 74 7 = some (.aload 4) := by decide +kernel
theorem k_74_9 : hm_code 74 9 = some (.ifnonnull 7) := by decide +kernel
theorem k_74_12 : hm_code 74 12 = some (.sipush (-1001)) := by decide +kernel
theorem k_74_15 : hm_code 74 15 = some (.ireturn) := by decide +kernel
theorem k_74_16 : hm_code 74 16 = some (.iload_n 2) := by decide +kernel
theorem k_74_17 : hm_code 74 17 = some (.iconst 0) := by decide +kernel
theorem k_74_18 : hm_code 74 18 = some (.iconst 5) := by decide +kernel
theorem k_74_19 : hm_code 74 19 = some (.invokestatic 78) := by decide +kernel
theorem k_74_22 : hm_code 74 22 = some (.ifCond .eq 15) := by decide +kernel
theorem k_74_25 : hm_code 74 25 = some (.iload_n 3) := by decide +kernel
theorem k_74_26 : hm_code 74 26 = some (.iconst (-1)) := by decide +kernel
theorem k_74_27 : hm_code 74 27 = some (.if_icmp .eq 14) := by decide +kernel
theorem k_74_30 : hm_code 74 30 = some (.iload_n 3) := by decide +kernel
theorem k_74_31 : hm_code 74 31 = some (.invokestatic 151) := by decide +kernel
theorem k_74_34 : hm_code 74 34 = some (.ifCond .ne 7) := by decide +kernel
theorem k_74_37 : hm_code 74 37 = some (.sipush (-1002)) := by decide +kernel
theorem k_74_40 : hm_code 74 40 = some (.ireturn) := by decide +kernel
theorem k_74_41 : hm_code 74 41 = some (.aload 4) := by decide +kernel
theorem k_74_43 : hm_code 74 43 = some (.getfield 165) := by decide +kernel
theorem k_74_46 : hm_code 74 46 = some (.iload_n 2) := by decide +kernel
theorem k_74_47 : hm_code 74 47 = some (.iload_n 3) := by decide +kernel
theorem k_74_48 : hm_code 74 48 = some (.iastore) := by decide +kernel
theorem k_74_49 : hm_code 74 49 = some (.aload_n 0) := by decide +kernel
theorem k_74_50 : hm_code 74 50 = some (.aload 4) := by decide +kernel
theorem k_74_52 : hm_code 74 52 = some (.invokevirtual 137) := by decide +kernel
theorem k_74_55 : hm_code 74 55 = some (.ireturn) := by decide +kernel
theorem m_75 : hm_mtab[75]? = some (⟨"HourPromised", "fileOf", "(I)LHourPromised$CaseFile;"⟩, prog_1_method_21_code, 2, (some (.object "HourPromised$CaseFile")), 7, 2, 1) := rfl
theorem k_75_0 : hm_code 75 0 = some (.iload_n 1) := by decide +kernel
theorem k_75_1 : hm_code 75 1 = some (.iconst 0) := by decide +kernel
theorem k_75_2 : hm_code 75 2 = some (.aload_n 0) := by decide +kernel
theorem k_75_3 : hm_code 75 3 = some (.getfield 58) := by decide +kernel
theorem k_75_6 : hm_code 75 6 = some (.invokevirtual 124) := by decide +kernel
theorem k_75_9 : hm_code 75 9 = some (.iconst 1) := by decide +kernel
theorem k_75_10 : hm_code 75 10 = some (.isub) := by decide +kernel
theorem k_75_11 : hm_code 75 11 = some (.invokestatic 78) := by decide +kernel
theorem k_75_14 : hm_code 75 14 = some (.ifCond .eq 17) := by decide +kernel
theorem k_75_17 : hm_code 75 17 = some (.aload_n 0) := by decide +kernel
theorem k_75_18 : hm_code 75 18 = some (.getfield 58) := by decide +kernel
theorem k_75_21 : hm_code 75 21 = some (.iload_n 1) := by decide +kernel
theorem k_75_22 : hm_code 75 22 = some (.invokevirtual 128) := by decide +kernel
theorem k_75_25 : hm_code 75 25 = some (.checkcast 132) := by decide +kernel
theorem k_75_28 : hm_code 75 28 = some (.goto 4) := by decide +kernel
theorem k_75_31 : hm_code 75 31 = some (.aconst_null) := by decide +kernel
theorem k_75_32 : hm_code 75 32 = some (.areturn) := by decide +kernel
theorem m_76 : hm_mtab[76]? = some (⟨"HourPromised", "may", "(III)I"⟩, prog_1_method_14_code, 5, (some .int), 7, 4, 1) := rfl
theorem k_76_0 : hm_code 76 0 = some (.aload_n 0) := by decide +kernel
theorem k_76_1 : hm_code 76 1 = some (.iload_n 1) := by decide +kernel
theorem k_76_2 : hm_code 76 2 = some (.invokevirtual 161) := by decide +kernel
theorem k_76_5 : hm_code 76 5 = some (.astore 4) := by decide +kernel
theorem k_76_7 : hm_code 76 7 = some (.aload 4) := by decide +kernel
theorem k_76_9 : hm_code 76 9 = some (.ifnonnull 7) := by decide +kernel
theorem k_76_12 : hm_code 76 12 = some (.sipush (-1001)) := by decide +kernel
theorem k_76_15 : hm_code 76 15 = some (.ireturn) := by decide +kernel
theorem k_76_16 : hm_code 76 16 = some (.iload_n 2) := by decide +kernel
theorem k_76_17 : hm_code 76 17 = some (.invokestatic 144) := by decide +kernel
theorem k_76_20 : hm_code 76 20 = some (.ifCond .eq 10) := by decide +kernel
theorem k_76_23 : hm_code 76 23 = some (.iload_n 3) := by decide +kernel
theorem k_76_24 : hm_code 76 24 = some (.invokestatic 151) := by decide +kernel
theorem k_76_27 : hm_code 76 27 = some (.ifCond .ne 7) := by decide +kernel
theorem k_76_30 : hm_code 76 30 = some (.sipush (-1002)) := by decide +kernel
theorem k_76_33 : hm_code 76 33 = some (.ireturn) := by decide +kernel
theorem k_76_34 : hm_code 76 34 = some (.aload_n 0) := by decide +kernel
theorem k_76_35 : hm_code 76 35 = some (.aload 4) := by decide +kernel
theorem k_76_37 : hm_code 76 37 = some (.iload_n 2) := by decide +kernel
theorem k_76_38 : hm_code 76 38 = some (.iload_n 3) := by decide +kernel
theorem k_76_39 : hm_code 76 39 = some (.invokevirtual 168) := by decide +kernel
theorem k_76_42 : hm_code 76 42 = some (.ireturn) := by decide +kernel
theorem m_77 : hm_mtab[77]? = some (⟨"HourPromised", "hindrance", "(LHourPromised$CaseFile;II)I"⟩, prog_1_method_22_code, 6, (some .int), 7, 4, 1) := rfl
theorem k_77_0 : hm_code 77 0 = some (.aload_n 1) := by decide +kernel
theorem k_77_1 : hm_code 77 1 = some (.iload_n 2) := by decide +kernel
theorem k_77_2 : hm_code 77 2 = some (.invokevirtual 176) := by decide +kernel
theorem k_77_5 : hm_code 77 5 = some (.ifCond .eq 5) := by decide +kernel
theorem k_77_8 : hm_code 77 8 = some (.iconst 1) := by decide +kernel
theorem k_77_9 : hm_code 77 9 = some (.ireturn) := by decide +kernel
theorem k_77_10 : hm_code 77 10 = some (.aload_n 0) := by decide +kernel
theorem k_77_11 : hm_code 77 11 = some (.getfield 46) := by decide +kernel
theorem k_77_14 : hm_code 77 14 = some (.aload_n 1) := by decide +kernel
theorem k_77_15 : hm_code 77 15 = some (.getfield 134) := by decide +kernel
theorem k_77_18 : hm_code 77 18 = some (.aaload) := by decide +kernel
theorem k_77_19 : hm_code 77 19 = some (.astore 4) := by decide +kernel
theorem k_77_21 : hm_code 77 21 = some (.aload_n 1) := by decide +kernel
theorem k_77_22 : hm_code 77 22 = some (.aload 4) := by decide +kernel
theorem k_77_24 : hm_code 77 24 = some (.iload_n 2) := by decide +kernel
theorem k_77_25 : hm_code 77 25 = some (.iload_n 3) := by decide +kernel
theorem k_77_26 : hm_code 77 26 = some (.invokevirtual 204) := by decide +kernel
theorem k_77_29 : hm_code 77 29 = some (.istore 5) := by decide +kernel
theorem k_77_31 : hm_code 77 31 = some (.iload 5) := by decide +kernel
theorem k_77_33 : hm_code 77 33 = some (.ifCond .ne 13) := by decide +kernel
theorem k_77_36 : hm_code 77 36 = some (.aload_n 1) := by decide +kernel
theorem k_77_37 : hm_code 77 37 = some (.aload 4) := by decide +kernel
theorem k_77_39 : hm_code 77 39 = some (.iload_n 2) := by decide +kernel
theorem k_77_40 : hm_code 77 40 = some (.iload_n 3) := by decide +kernel
theorem k_77_41 : hm_code 77 41 = some (.invokevirtual 208) := by decide +kernel
theorem k_77_44 : hm_code 77 44 = some (.istore 5) := by decide +kernel
theorem k_77_46 : hm_code 77 46 = some (.iload 5) := by decide +kernel
theorem k_77_48 : hm_code 77 48 = some (.ifCond .eq 6) := by decide +kernel
theorem k_77_51 : hm_code 77 51 = some (.iload 5) := by decide +kernel
theorem k_77_53 : hm_code 77 53 = some (.ireturn) := by decide +kernel
theorem k_77_54 : hm_code 77 54 = some (.aload_n 0) := by decide +kernel
theorem k_77_55 : hm_code 77 55 = some (.getfield 26) := by decide +kernel
theorem k_77_58 : hm_code 77 58 = some (.iload_n 3) := by decide +kernel
theorem k_77_59 : hm_code 77 59 = some (.iconst 0) := by decide +kernel
theorem k_77_60 : hm_code 77 60 = some (.invokevirtual 99) := by decide +kernel
theorem k_77_63 : hm_code 77 63 = some (.aload_n 0) := by decide +kernel
theorem k_77_64 : hm_code 77 64 = some (.getfield 7) := by decide +kernel
theorem k_77_67 : hm_code 77 67 = some (.iconst 0) := by decide +kernel
theorem k_77_68 : hm_code 77 68 = some (.iaload) := by decide +kernel
theorem k_77_69 : hm_code 77 69 = some (.if_icmp .lt 6) := by decide +kernel
theorem k_77_72 : hm_code 77 72 = some (.bipush 10) := by decide +kernel
theorem k_77_74 : hm_code 77 74 = some (.ireturn) := by decide +kernel
theorem k_77_75 : hm_code 77 75 = some (.aload_n 0) := by decide +kernel
theorem k_77_76 : hm_code 77 76 = some (.aload_n 1) := by decide +kernel
theorem k_77_77 : hm_code 77 77 = some (.iload_n 2) := by decide +kernel
theorem k_77_78 : hm_code 77 78 = some (.iload_n 3) := by decide +kernel
theorem k_77_79 : hm_code 77 79 = some (.invokevirtual 211) := by decide +kernel
theorem k_77_82 : hm_code 77 82 = some (.ifCond .ne 6) := by decide +kernel
theorem k_77_85 : hm_code 77 85 = some (.bipush 11) := by decide +kernel
theorem k_77_87 : hm_code 77 87 = some (.ireturn) := by decide +kernel
theorem k_77_88 : hm_code 77 88 = some (.iload_n 2) := by decide +kernel
theorem k_77_89 : hm_code 77 89 = some (.invokestatic 189) := by decide +kernel
theorem k_77_92 : hm_code 77 92 = some (.ifCond .eq 17) := by decide +kernel
theorem k_77_95 : hm_code 77 95 = some (.aload_n 0) := by decide +kernel
theorem k_77_96 : hm_code 77 96 = some (.aload_n 1) := by decide +kernel
theorem k_77_97 : hm_code 77 97 = some (.iload_n 3) := by decide +kernel
theorem k_77_98 : hm_code 77 98 = some (.invokevirtual 215) := by decide +kernel
theorem k_77_101 : hm_code 77 101 = some (.ifCond .ne 8) := by decide +kernel
theorem k_77_104 : hm_code 77 104 = some (.bipush 12) := by decide +kernel
theorem k_77_106 : hm_code 77 106 = some (.goto 4) := by decide +kernel
theorem k_77_109 : hm_code 77 109 = some (.iconst 0) := by decide +kernel
theorem k_77_110 : hm_code 77 110 = some (.ireturn) := by decide +kernel
theorem m_78 : hm_mtab[78]? = some (⟨"HourPromised$CaseFile", "hinderedByOtherSteps", "(LHourPromised$Law;II)I"⟩, prog_3_method_7_code, 4, (some .int), 1, 4, 1) := rfl
theorem k_78_0 : hm_code 78 0 = some (.aload_n 0) := by decide +kernel
theorem k_78_1 : hm_code 78 1 = some (.aload_n 1) := by decide +kernel
theorem k_78_2 : hm_code 78 2 = some (.iload_n 2) := by decide +kernel
theorem k_78_3 : hm_code 78 3 = some (.iload_n 3) := by decide +kernel
theorem k_78_4 : hm_code 78 4 = some (.invokevirtual 73) := by decide +kernel
theorem k_78_7 : hm_code 78 7 = some (.ifCond .eq 6) := by decide +kernel
theorem k_78_10 : hm_code 78 10 = some (.bipush 7) := by decide +kernel
theorem k_78_12 : hm_code 78 12 = some (.ireturn) := by decide +kernel
theorem k_78_13 : hm_code 78 13 = some (.iload_n 2) := by decide +kernel
theorem k_78_14 : hm_code 78 14 = some (.iconst 2) := by decide +kernel
theorem k_78_15 : hm_code 78 15 = some (.if_icmp .ne 11) := by decide +kernel
theorem k_78_18 : hm_code 78 18 = some (.aload_n 0) := by decide +kernel
theorem k_78_19 : hm_code 78 19 = some (.iconst 3) := by decide +kernel
theorem k_78_20 : hm_code 78 20 = some (.invokevirtual 44) := by decide +kernel
theorem k_78_23 : hm_code 78 23 = some (.ifCond .ne 16) := by decide +kernel
theorem k_78_26 : hm_code 78 26 = some (.iload_n 2) := by decide +kernel
theorem k_78_27 : hm_code 78 27 = some (.iconst 3) := by decide +kernel
theorem k_78_28 : hm_code 78 28 = some (.if_icmp .ne 14) := by decide +kernel
theorem k_78_31 : hm_code 78 31 = some (.aload_n 0) := by decide +kernel
theorem k_78_32 : hm_code 78 32 = some (.iconst 2) := by decide +kernel
theorem k_78_33 : hm_code 78 33 = some (.invokevirtual 44) := by decide +kernel
theorem k_78_36 : hm_code 78 36 = some (.ifCond .eq 6) := by decide +kernel
theorem k_78_39 : hm_code 78 39 = some (.bipush 8) := by decide +kernel
theorem k_78_41 : hm_code 78 41 = some (.ireturn) := by decide +kernel
theorem k_78_42 : hm_code 78 42 = some (.aload_n 0) := by decide +kernel
theorem k_78_43 : hm_code 78 43 = some (.iload_n 2) := by decide +kernel
theorem k_78_44 : hm_code 78 44 = some (.iload_n 3) := by decide +kernel
theorem k_78_45 : hm_code 78 45 = some (.invokevirtual 77) := by decide +kernel
theorem k_78_48 : hm_code 78 48 = some (.ifCond .eq 8) := by decide +kernel
theorem k_78_51 : hm_code 78 51 = some (.bipush 9) := by decide +kernel
theorem k_78_53 : hm_code 78 53 = some (.goto 4) := by decide +kernel
theorem k_78_56 : hm_code 78 56 = some (.iconst 0) := by decide +kernel
theorem k_78_57 : hm_code 78 57 = some (.ireturn) := by decide +kernel
theorem m_79 : hm_mtab[79]? = some (⟨"HourPromised$CaseFile", "comesTooLate", "(LHourPromised$Law;II)Z"⟩, prog_3_method_10_code, 5, (some .boolean), 1, 4, 1) := rfl
theorem k_79_0 : hm_code 79 0 = some (.iconst 0) := by decide +kernel
theorem k_79_1 : hm_code 79 1 = some (.istore 4) := by decide +kernel
theorem k_79_3 : hm_code 79 3 = some (.iload 4) := by decide +kernel
theorem k_79_5 : hm_code 79 5 = some (.iconst 4) := by decide +kernel
theorem k_79_6 : hm_code 79 6 = some (.if_icmp .ge 45) := by decide +kernel
theorem k_79_9 : hm_code 79 9 = some (.aload_n 0) := by decide +kernel
theorem k_79_10 : hm_code 79 10 = some (.iload 4) := by decide +kernel
theorem k_79_12 : hm_code 79 12 = some (.invokevirtual 44) := by decide +kernel
theorem k_79_15 : hm_code 79 15 = some (.ifCond .eq 30) := by decide +kernel
theorem k_79_18 : hm_code 79 18 = some (.aload_n 1) := by decide +kernel
theorem k_79_19 : hm_code 79 19 = some (.iload 4) := by decide +kernel
theorem k_79_21 : hm_code 79 21 = some (.iconst 4) := by decide +kernel
theorem k_79_22 : hm_code 79 22 = some (.invokevirtual 58) := by decide +kernel
theorem k_79_25 : hm_code 79 25 = some (.iload_n 2) := by decide +kernel
theorem k_79_26 : hm_code 79 26 = some (.invokestatic 80) := by decide +kernel
theorem k_79_29 : hm_code 79 29 = some (.ifCond .eq 16) := by decide +kernel
theorem k_79_32 : hm_code 79 32 = some (.aload_n 0) := by decide +kernel
theorem k_79_33 : hm_code 79 33 = some (.getfield 15) := by decide +kernel
theorem k_79_36 : hm_code 79 36 = some (.iload 4) := by decide +kernel
theorem k_79_38 : hm_code 79 38 = some (.iaload) := by decide +kernel
theorem k_79_39 : hm_code 79 39 = some (.iload_n 3) := by decide +kernel
theorem k_79_40 : hm_code 79 40 = some (.if_icmp .gt 5) := by decide +kernel
theorem k_79_43 : hm_code 79 43 = some (.iconst 1) := by decide +kernel
theorem k_79_44 : hm_code 79 44 = some (.ireturn) := by decide +kernel
theorem k_79_45 : hm_code 79 45 = some (.iinc 4 1) := by decide +kernel
theorem k_79_48 : hm_code 79 48 = some (.goto (-45)) := by decide +kernel
theorem k_79_51 : hm_code 79 51 = some (.iconst 0) := by decide +kernel
theorem k_79_52 : hm_code 79 52 = some (.ireturn) := by decide +kernel
theorem m_80 : hm_mtab[80]? = some (⟨"HourPromised$CaseFile", "hasOtherStepAt", "(II)Z"⟩, prog_3_method_11_code, 4, (some .boolean), 1, 3, 1) := rfl
theorem k_80_0 : hm_code 80 0 = some (.iconst 0) := by decide +kernel
theorem k_80_1 : hm_code 80 1 = some (.istore_n 3) := by decide +kernel
theorem k_80_2 : hm_code 80 2 = some (.iload_n 3) := by decide +kernel
theorem k_80_3 : hm_code 80 3 = some (.iconst 4) := by decide +kernel
theorem k_80_4 : hm_code 80 4 = some (.if_icmp .ge 26) := by decide +kernel
theorem k_80_7 : hm_code 80 7 = some (.iload_n 3) := by decide +kernel
theorem k_80_8 : hm_code 80 8 = some (.iload_n 1) := by decide +kernel
theorem k_80_9 : hm_code 80 9 = some (.if_icmp .eq 15) := by decide +kernel
theorem k_80_12 : hm_code 80 12 = some (.aload_n 0) := by decide +kernel
theorem k_80_13 : hm_code 80 13 = some (.getfield 15) := by decide +kernel
theorem k_80_16 : hm_code 80 16 = some (.iload_n 3) := by decide +kernel
theorem k_80_17 : hm_code 80 17 = some (.iaload) := by decide +kernel
theorem k_80_18 : hm_code 80 18 = some (.iload_n 2) := by decide +kernel
theorem k_80_19 : hm_code 80 19 = some (.if_icmp .ne 5) := by decide +kernel
theorem k_80_22 : hm_code 80 22 = some (.iconst 1) := by decide +kernel
theorem k_80_23 : hm_code 80 23 = some (.ireturn) := by decide +kernel
theorem k_80_24 : hm_code 80 24 = some (.iinc 3 1) := by decide +kernel
theorem k_80_27 : hm_code 80 27 = some (.goto (-25)) := by decide +kernel
theorem k_80_30 : hm_code 80 30 = some (.iconst 0) := by decide +kernel
theorem k_80_31 : hm_code 80 31 = some (.ireturn) := by decide +kernel
theorem m_81 : hm_mtab[81]? = some (⟨"HourPromised", "hasPlaceFor", "(LHourPromised$CaseFile;II)Z"⟩, prog_1_method_23_code, 4, (some .boolean), 7, 4, 1) := rfl
theorem k_81_0 : hm_code 81 0 = some (.iload_n 2) := by decide +kernel
theorem k_81_1 : hm_code 81 1 = some (.tableswitch 93 0 2 #[27, 46, 69]) := by decide +kernel
theorem k_81_28 : hm_code 81 28 = some (.aload_n 0) := by decide +kernel
theorem k_81_29 : hm_code 81 29 = some (.getfield 26) := by decide +kernel
theorem k_81_32 : hm_code 81 32 = some (.iload_n 3) := by decide +kernel
theorem k_81_33 : hm_code 81 33 = some (.aload_n 1) := by decide +kernel
theorem k_81_34 : hm_code 81 34 = some (.invokevirtual 219) := by decide +kernel
theorem k_81_37 : hm_code 81 37 = some (.aload_n 0) := by decide +kernel
theorem k_81_38 : hm_code 81 38 = some (.getfield 7) := by decide +kernel
theorem k_81_41 : hm_code 81 41 = some (.iconst 2) := by decide +kernel
theorem k_81_42 : hm_code 81 42 = some (.iaload) := by decide +kernel
theorem k_81_43 : hm_code 81 43 = some (.invokevirtual 222) := by decide +kernel
theorem k_81_46 : hm_code 81 46 = some (.ireturn) := by decide +kernel
theorem k_81_47 : hm_code 81 47 = some (.aload_n 0) := by decide +kernel
theorem k_81_48 : hm_code 81 48 = some (.getfield 26) := by decide +kernel
theorem k_81_51 : hm_code 81 51 = some (.iload_n 3) := by decide +kernel
theorem k_81_52 : hm_code 81 52 = some (.iconst 1) := by decide +kernel
theorem k_81_53 : hm_code 81 53 = some (.invokevirtual 99) := by decide +kernel
theorem k_81_56 : hm_code 81 56 = some (.aload_n 0) := by decide +kernel
theorem k_81_57 : hm_code 81 57 = some (.iload_n 3) := by decide +kernel
theorem k_81_58 : hm_code 81 58 = some (.invokevirtual 103) := by decide +kernel
theorem k_81_61 : hm_code 81 61 = some (.if_icmp .ge 7) := by decide +kernel
theorem k_81_64 : hm_code 81 64 = some (.iconst 1) := by decide +kernel
theorem k_81_65 : hm_code 81 65 = some (.goto 4) := by decide +kernel
theorem k_81_68 : hm_code 81 68 = some (.iconst 0) := by decide +kernel
theorem k_81_69 : hm_code 81 69 = some (.ireturn) := by decide +kernel
theorem k_81_70 : hm_code 81 70 = some (.aload_n 0) := by decide +kernel
theorem k_81_71 : hm_code 81 71 = some (.getfield 26) := by decide +kernel
theorem k_81_74 : hm_code 81 74 = some (.iload_n 3) := by decide +kernel
theorem k_81_75 : hm_code 81 75 = some (.iconst 2) := by decide +kernel
theorem k_81_76 : hm_code 81 76 = some (.invokevirtual 99) := by decide +kernel
theorem k_81_79 : hm_code 81 79 = some (.aload_n 0) := by decide +kernel
theorem k_81_80 : hm_code 81 80 = some (.getfield 7) := by decide +kernel
theorem k_81_83 : hm_code 81 83 = some (.iconst 1) := by decide +kernel
theorem k_81_84 : hm_code 81 84 = some (.iaload) := by decide +kernel
theorem k_81_85 : hm_code 81 85 = some (.if_icmp .ge 7) := by decide +kernel
theorem k_81_88 : hm_code 81 88 = some (.iconst 1) := by decide +kernel
theorem k_81_89 : hm_code 81 89 = some (.goto 4) := by decide +kernel
theorem k_81_92 : hm_code 81 92 = some (.iconst 0) := by decide +kernel
theorem k_81_93 : hm_code 81 93 = some (.ireturn) := by decide +kernel
theorem k_81_94 : hm_code 81 94 = some (.iconst 1) := by decide +kernel
theorem k_81_95 : hm_code 81 95 = some (.ireturn) := by decide +kernel
theorem m_82 : hm_mtab[82]? = some (⟨"HourPromised$Ledger", "hasRooms", "(III)Z"⟩, prog_6_method_4_code, 5, (some .boolean), 4, 4, 1) := rfl
theorem k_82_0 : hm_code 82 0 = some (.iload_n 1) := by decide +kernel
theorem k_82_1 : hm_code 82 1 = some (.istore 4) := by decide +kernel
theorem k_82_3 : hm_code 82 3 = some (.iload 4) := by decide +kernel
theorem k_82_5 : hm_code 82 5 = some (.iload_n 2) := by decide +kernel
theorem k_82_6 : hm_code 82 6 = some (.if_icmp .ge 24) := by decide +kernel
theorem k_82_9 : hm_code 82 9 = some (.aload_n 0) := by decide +kernel
theorem k_82_10 : hm_code 82 10 = some (.getfield 11) := by decide +kernel
theorem k_82_13 : hm_code 82 13 = some (.iconst 3) := by decide +kernel
theorem k_82_14 : hm_code 82 14 = some (.aaload) := by decide +kernel
theorem k_82_15 : hm_code 82 15 = some (.iload 4) := by decide +kernel
theorem k_82_17 : hm_code 82 17 = some (.iaload) := by decide +kernel
theorem k_82_18 : hm_code 82 18 = some (.iload_n 3) := by decide +kernel
theorem k_82_19 : hm_code 82 19 = some (.if_icmp .lt 5) := by decide +kernel
theorem k_82_22 : hm_code 82 22 = some (.iconst 0) := by decide +kernel
theorem k_82_23 : hm_code 82 23 = some (.ireturn) := by decide +kernel
theorem k_82_24 : hm_code 82 24 = some (.iinc 4 1) := by decide +kernel
theorem k_82_27 : hm_code 82 27 = some (.goto (-24)) := by decide +kernel
theorem k_82_30 : hm_code 82 30 = some (.iconst 1) := by decide +kernel
theorem k_82_31 : hm_code 82 31 = some (.ireturn) := by decide +kernel
theorem m_83 : hm_mtab[83]? = some (⟨"HourPromised", "hasBearersFor", "(LHourPromised$CaseFile;I)Z"⟩, prog_1_method_24_code, 5, (some .boolean), 7, 3, 1) := rfl
theorem k_83_0 : hm_code 83 0 = some (.aload_n 0) := by decide +kernel
theorem k_83_1 : hm_code 83 1 = some (.getfield 19) := by decide +kernel
theorem k_83_4 : hm_code 83 4 = some (.invokevirtual 225) := by decide +kernel
theorem k_83_7 : hm_code 83 7 = some (.iconst 0) := by decide +kernel
theorem k_83_8 : hm_code 83 8 = some (.istore_n 3) := by decide +kernel
theorem k_83_9 : hm_code 83 9 = some (.iload_n 3) := by decide +kernel
theorem k_83_10 : hm_code 83 10 = some (.aload_n 0) := by decide +kernel
theorem k_83_11 : hm_code 83 11 = some (.getfield 58) := by decide +kernel
theorem k_83_14 : hm_code 83 14 = some (.invokevirtual 124) := by decide +kernel
theorem k_83_17 : hm_code 83 17 = some (.if_icmp .ge 48) := by decide +kernel
theorem k_83_20 : hm_code 83 20 = some (.aload_n 0) := by decide +kernel
theorem k_83_21 : hm_code 83 21 = some (.getfield 58) := by decide +kernel
theorem k_83_24 : hm_code 83 24 = some (.iload_n 3) := by decide +kernel
theorem k_83_25 : hm_code 83 25 = some (.invokevirtual 128) := by decide +kernel
theorem k_83_28 : hm_code 83 28 = some (.checkcast 132) := by decide +kernel
theorem k_83_31 : hm_code 83 31 = some (.astore 4) := by decide +kernel
theorem k_83_33 : hm_code 83 33 = some (.aload 4) := by decide +kernel
theorem k_83_35 : hm_code 83 35 = some (.iload_n 2) := by decide +kernel
theorem k_83_36 : hm_code 83 36 = some (.invokevirtual 228) := by decide +kernel
theorem k_83_39 : hm_code 83 39 = some (.ifCond .eq 20) := by decide +kernel
theorem k_83_42 : hm_code 83 42 = some (.aload_n 0) := by decide +kernel
theorem k_83_43 : hm_code 83 43 = some (.getfield 19) := by decide +kernel
theorem k_83_46 : hm_code 83 46 = some (.aload 4) := by decide +kernel
theorem k_83_48 : hm_code 83 48 = some (.getfield 231) := by decide +kernel
theorem k_83_51 : hm_code 83 51 = some (.aload 4) := by decide +kernel
theorem k_83_53 : hm_code 83 53 = some (.getfield 234) := by decide +kernel
theorem k_83_56 : hm_code 83 56 = some (.invokevirtual 237) := by decide +kernel
theorem k_83_59 : hm_code 83 59 = some (.iinc 3 1) := by decide +kernel
theorem k_83_62 : hm_code 83 62 = some (.goto (-53)) := by decide +kernel
theorem k_83_65 : hm_code 83 65 = some (.aload_n 0) := by decide +kernel
theorem k_83_66 : hm_code 83 66 = some (.getfield 19) := by decide +kernel
theorem k_83_69 : hm_code 83 69 = some (.aload_n 1) := by decide +kernel
theorem k_83_70 : hm_code 83 70 = some (.getfield 231) := by decide +kernel
theorem k_83_73 : hm_code 83 73 = some (.aload_n 1) := by decide +kernel
theorem k_83_74 : hm_code 83 74 = some (.getfield 234) := by decide +kernel
theorem k_83_77 : hm_code 83 77 = some (.invokevirtual 237) := by decide +kernel
theorem k_83_80 : hm_code 83 80 = some (.aload_n 0) := by decide +kernel
theorem k_83_81 : hm_code 83 81 = some (.getfield 19) := by decide +kernel
theorem k_83_84 : hm_code 83 84 = some (.invokevirtual 241) := by decide +kernel
theorem k_83_87 : hm_code 83 87 = some (.ireturn) := by decide +kernel
theorem m_84 : hm_mtab[84]? = some (⟨"HourPromised$Bearers", "wantNothing", "()V"⟩, prog_2_method_3_code, 1, none, 0, 1, 1) := rfl
theorem k_84_0 : hm_code 84 0 = some (.aload_n 0) := by decide +kernel
theorem k_84_1 : hm_code 84 1 = some (.iconst 0) := by decide +kernel
theorem k_84_2 : hm_code 84 2 = some (.putfield 28) := by decide +kernel
theorem k_84_5 : hm_code 84 5 = some (.return_) := by decide +kernel
theorem m_85 : hm_mtab[85]? = some (⟨"HourPromised$CaseFile", "isCarriedAt", "(I)Z"⟩, prog_3_method_3_code, 2, (some .boolean), 1, 2, 1) := rfl
theorem k_85_0 : hm_code 85 0 = some (.aload_n 0) := by decide +kernel
theorem k_85_1 : hm_code 85 1 = some (.getfield 15) := by decide +kernel
theorem k_85_4 : hm_code 85 4 = some (.iconst 1) := by decide +kernel
theorem k_85_5 : hm_code 85 5 = some (.iaload) := by decide +kernel
theorem k_85_6 : hm_code 85 6 = some (.iload_n 1) := by decide +kernel
theorem k_85_7 : hm_code 85 7 = some (.if_icmp .eq 13) := by decide +kernel
theorem k_85_10 : hm_code 85 10 = some (.aload_n 0) := by decide +kernel
theorem k_85_11 : hm_code 85 11 = some (.getfield 15) := by decide +kernel
theorem k_85_14 : hm_code 85 14 = some (.iconst 3) := by decide +kernel
theorem k_85_15 : hm_code 85 15 = some (.iaload) := by decide +kernel
theorem k_85_16 : hm_code 85 16 = some (.iload_n 1) := by decide +kernel
theorem k_85_17 : hm_code 85 17 = some (.if_icmp .ne 7) := by decide +kernel
theorem k_85_20 : hm_code 85 20 = some (.iconst 1) := by decide +kernel
theorem k_85_21 : hm_code 85 21 = some (.goto 4) := by decide +kernel
theorem k_85_24 : hm_code 85 24 = some (.iconst 0) := by decide +kernel
theorem k_85_25 : hm_code 85 25 = some (.ireturn) := by decide +kernel
theorem m_86 : hm_mtab[86]? = some (⟨"HourPromised$Bearers", "want", "(II)V"⟩, prog_2_method_4_code, 3, none, 0, 3, 1) := rfl
theorem k_86_0 : hm_code 86 0 = some (.aload_n 0) := by decide +kernel
theorem k_86_1 : hm_code 86 1 = some (.getfield 28) := by decide +kernel
theorem k_86_4 : hm_code 86 4 = some (.iconst 4) := by decide +kernel
theorem k_86_5 : hm_code 86 5 = some (.if_icmp .ge 33) := by decide +kernel
theorem k_86_8 : hm_code 86 8 = some (.aload_n 0) := by decide +kernel
theorem k_86_9 : hm_code 86 9 = some (.getfield 19) := by decide +kernel
theorem k_86_12 : hm_code 86 12 = some (.aload_n 0) := by decide +kernel
theorem k_86_13 : hm_code 86 13 = some (.getfield 28) := by decide +kernel
theorem k_86_16 : hm_code 86 16 = some (.iload_n 1) := by decide +kernel
theorem k_86_17 : hm_code 86 17 = some (.iastore) := by decide +kernel
theorem k_86_18 : hm_code 86 18 = some (.aload_n 0) := by decide +kernel
theorem k_86_19 : hm_code 86 19 = some (.getfield 22) := by decide +kernel
theorem k_86_22 : hm_code 86 22 = some (.aload_n 0) := by decide +kernel
theorem k_86_23 : hm_code 86 23 = some (.getfield 28) := by decide +kernel
theorem k_86_26 : hm_code 86 26 = some (.iload_n 2) := by decide +kernel
theorem k_86_27 : hm_code 86 27 = some (.iastore) := by decide +kernel
theorem k_86_28 : hm_code 86 28 = some (.aload_n 0) := by decide +kernel
theorem k_86_29 : hm_code 86 29 = some (.dup) := by decide +kernel
theorem k_86_30 : hm_code 86 30 = some (.getfield 28) := by decide +kernel
theorem k_86_33 : hm_code 86 33 = some (.iconst 1) := by decide +kernel
theorem k_86_34 : hm_code 86 34 = some (.iadd) := by decide +kernel
theorem k_86_35 : hm_code 86 35 = some (.putfield 28) := by decide +kernel
theorem k_86_38 : hm_code 86 38 = some (.return_) := by decide +kernel
theorem m_87 : hm_mtab[87]? = some (⟨"HourPromised$Bearers", "findSets", "()Z"⟩, prog_2_method_6_code, 3, (some .boolean), 0, 1, 1) := rfl
theorem k_87_0 : hm_code 87 0 = some (.iconst 0) := by decide +kernel
theorem k_87_1 : hm_code 87 1 = some (.istore_n 1) := by decide +kernel
theorem k_87_2 : hm_code 87 2 = some (.iconst 0) := by decide +kernel
theorem k_87_3 : hm_code 87 3 = some (.istore_n 2) := by decide +kernel
theorem k_87_4 : hm_code 87 4 = some (.iload_n 2) := by decide +kernel
theorem k_87_5 : hm_code 87 5 = some (.aload_n 0) := by decide +kernel
theorem k_87_6 : hm_code 87 6 = some (.getfield 28) := by decide +kernel
theorem k_87_9 : hm_code 87 9 = some (.if_icmp .ge 18) := by decide +kernel
theorem k_87_12 : hm_code 87 12 = some (.iload_n 1) := by decide +kernel
theorem k_87_13 : hm_code 87 13 = some (.aload_n 0) := by decide +kernel
theorem k_87_14 : hm_code 87 14 = some (.getfield 19) := by decide +kernel
theorem k_87_17 : hm_code 87 17 = some (.iload_n 2) := by decide +kernel
theorem k_87_18 : hm_code 87 18 = some (.iaload) := by decide +kernel
theorem k_87_19 : hm_code 87 19 = some (.iadd) := by decide +kernel
theorem k_87_20 : hm_code 87 20 = some (.istore_n 1) := by decide +kernel
theorem k_87_21 : hm_code 87 21 = some (.iinc 2 1) := by decide +kernel
theorem k_87_24 : hm_code 87 24 = some (.goto (-20)) := by decide +kernel
theorem k_87_27 : hm_code 87 27 = some (.iload_n 1) := by decide +kernel
theorem k_87_28 : hm_code 87 28 = some (.aload_n 0) := by decide +kernel
theorem k_87_29 : hm_code 87 29 = some (.getfield 15) := by decide +kernel
theorem k_87_32 : hm_code 87 32 = some (.if_icmp .le 5) := by decide +kernel
theorem k_87_35 : hm_code 87 35 = some (.iconst 0) := by decide +kernel
theorem k_87_36 : hm_code 87 36 = some (.ireturn) := by decide +kernel
theorem k_87_37 : hm_code 87 37 = some (.iconst 1) := by decide +kernel
theorem k_87_38 : hm_code 87 38 = some (.istore_n 2) := by decide +kernel
theorem k_87_39 : hm_code 87 39 = some (.iload_n 2) := by decide +kernel
theorem k_87_40 : hm_code 87 40 = some (.aload_n 0) := by decide +kernel
theorem k_87_41 : hm_code 87 41 = some (.getfield 28) := by decide +kernel
theorem k_87_44 : hm_code 87 44 = some (.if_icmp .ge 19) := by decide +kernel
theorem k_87_47 : hm_code 87 47 = some (.aload_n 0) := by decide +kernel
theorem k_87_48 : hm_code 87 48 = some (.getfield 33) := by decide +kernel
theorem k_87_51 : hm_code 87 51 = some (.iload_n 2) := by decide +kernel
theorem k_87_52 : hm_code 87 52 = some (.aaload) := by decide +kernel
theorem k_87_53 : hm_code 87 53 = some (.lconst 0) := by decide +kernel
theorem k_87_54 : hm_code 87 54 = some (.invokestatic 36) := by decide +kernel
theorem k_87_57 : hm_code 87 57 = some (.iinc 2 1) := by decide +kernel
theorem k_87_60 : hm_code 87 60 = some (.goto (-21)) := by decide +kernel
theorem k_87_63 : hm_code 87 63 = some (.aload_n 0) := by decide +kernel
theorem k_87_64 : hm_code 87 64 = some (.iconst 0) := by decide +kernel
theorem k_87_65 : hm_code 87 65 = some (.iconst 0) := by decide +kernel
theorem k_87_66 : hm_code 87 66 = some (.invokevirtual 42) := by decide +kernel
theorem k_87_69 : hm_code 87 69 = some (.ireturn) := by decide +kernel
theorem m_88 : hm_mtab[88]? = some (⟨"java/util/Arrays", "fill", "([JJ)V"⟩, prog_20_method_101_code, 5, none, 11, 2, 0) := rfl
theorem k_88_0 : hm_code 88 0 = some (.iconst 0) := by decide +kernel
theorem k_88_1 : hm_code 88 1 = some (.istore_n 3) := by decide +kernel
theorem k_88_2 : hm_code 88 2 = some (.aload_n 0) := by decide +kernel
theorem k_88_3 : hm_code 88 3 = some (.arraylength) := by decide +kernel
theorem k_88_4 : hm_code 88 4 = some (.istore 4) := by decide +kernel
theorem k_88_6 : hm_code 88 6 = some (.iload_n 3) := by decide +kernel
theorem k_88_7 : hm_code 88 7 = some (.iload 4) := by decide +kernel
theorem k_88_9 : hm_code 88 9 = some (.if_icmp .ge 13) := by decide +kernel
theorem k_88_12 : hm_code 88 12 = some (.aload_n 0) := by decide +kernel
theorem k_88_13 : hm_code 88 13 = some (.iload_n 3) := by decide +kernel
theorem k_88_14 : hm_code 88 14 = some (.lload_n 1) := by decide +kernel
theorem k_88_15 : hm_code 88 15 = some (.lastore) := by decide +kernel
theorem k_88_16 : hm_code 88 16 = some (.iinc 3 1) := by decide +kernel
theorem k_88_19 : hm_code 88 19 = some (.goto (-13)) := by decide +kernel
theorem k_88_22 : hm_code 88 22 = some (.return_) := by decide +kernel
theorem m_89 : hm_mtab[89]? = some (⟨"HourPromised$Bearers", "findFrom", "(II)Z"⟩, prog_2_method_7_code, 7, (some .boolean), 0, 3, 1) := rfl
theorem k_89_0 : hm_code 89 0 = some (.iload_n 1) := by decide +kernel
theorem k_89_1 : hm_code 89 1 = some (.aload_n 0) := by decide +kernel
theorem k_89_2 : hm_code 89 2 = some (.getfield 28) := by decide +kernel
theorem k_89_5 : hm_code 89 5 = some (.if_icmp .lt 5) := by decide +kernel
theorem k_89_8 : hm_code 89 8 = some (.iconst 1) := by decide +kernel
theorem k_89_9 : hm_code 89 9 = some (.ireturn) := by decide +kernel
theorem k_89_10 : hm_code 89 10 = some (.iload_n 2) := by decide +kernel
theorem k_89_11 : hm_code 89 11 = some (.bipush 64) := by decide +kernel
theorem k_89_13 : hm_code 89 13 = some (.idiv) := by decide +kernel
theorem k_89_14 : hm_code 89 14 = some (.istore_n 3) := by decide +kernel
theorem k_89_15 : hm_code 89 15 = some (.lconst 1) := by decide +kernel
theorem k_89_16 : hm_code 89 16 = some (.iload_n 2) := by decide +kernel
theorem k_89_17 : hm_code 89 17 = some (.bipush 64) := by decide +kernel
theorem k_89_19 : hm_code 89 19 = some (.irem) := by decide +kernel
theorem k_89_20 : hm_code 89 20 = some (.lshl) := by decide +kernel
theorem k_89_21 : hm_code 89 21 = some (.lstore 4) := by decide +kernel
theorem k_89_23 : hm_code 89 23 = some (.iload_n 1) := by decide +kernel
theorem k_89_24 : hm_code 89 24 = some (.ifCond .le 21) := by decide +kernel
theorem k_89_27 : hm_code 89 27 = some (.aload_n 0) := by decide +kernel
theorem k_89_28 : hm_code 89 28 = some (.getfield 33) := by decide +kernel
theorem k_89_31 : hm_code 89 31 = some (.iload_n 1) := by decide +kernel
theorem k_89_32 : hm_code 89 32 = some (.aaload) := by decide +kernel
theorem k_89_33 : hm_code 89 33 = some (.iload_n 3) := by decide +kernel
theorem k_89_34 : hm_code 89 34 = some (.laload) := by decide +kernel
theorem k_89_35 : hm_code 89 35 = some (.lload 4) := by decide +kernel
theorem k_89_37 : hm_code 89 37 = some (.land) := by decide +kernel
theorem k_89_38 : hm_code 89 38 = some (.lconst 0) := by decide +kernel
theorem k_89_39 : hm_code 89 39 = some (.lcmp) := by decide +kernel
theorem k_89_40 : hm_code 89 40 = some (.ifCond .eq 5) := by decide +kernel
theorem k_89_43 : hm_code 89 43 = some (.iconst 0) := by decide +kernel
theorem k_89_44 : hm_code 89 44 = some (.ireturn) := by decide +kernel
theorem k_89_45 : hm_code 89 45 = some (.iconst 1) := by decide +kernel
theorem k_89_46 : hm_code 89 46 = some (.aload_n 0) := by decide +kernel
theorem k_89_47 : hm_code 89 47 = some (.getfield 15) := by decide +kernel
theorem k_89_50 : hm_code 89 50 = some (.ishl) := by decide +kernel
theorem k_89_51 : hm_code 89 51 = some (.iconst 1) := by decide +kernel
theorem k_89_52 : hm_code 89 52 = some (.isub) := by decide +kernel
theorem k_89_53 : hm_code 89 53 = some (.iload_n 2) := by decide +kernel
theorem k_89_54 : hm_code 89 54 = some (.iconst (-1)) := by decide +kernel
theorem k_89_55 : hm_code 89 55 = some (.ixor) := by decide +kernel
theorem k_89_56 : hm_code 89 56 = some (.iand) := by decide +kernel
theorem k_89_57 : hm_code 89 57 = some (.istore 6) := by decide +kernel
theorem k_89_59 : hm_code 89 59 = some (.aload_n 0) := by decide +kernel
theorem k_89_60 : hm_code 89 60 = some (.iload_n 1) := by decide +kernel
theorem k_89_61 : hm_code 89 61 = some (.iload_n 2) := by decide +kernel
theorem k_89_62 : hm_code 89 62 = some (.iconst 0) := by decide +kernel
theorem k_89_63 : hm_code 89 63 = some (.iload 6) := by decide +kernel
theorem k_89_65 : hm_code 89 65 = some (.invokevirtual 46) := by decide +kernel
theorem k_89_68 : hm_code 89 68 = some (.ifCond .eq 5) := by decide +kernel
theorem k_89_71 : hm_code 89 71 = some (.iconst 1) := by decide +kernel
theorem k_89_72 : hm_code 89 72 = some (.ireturn) := by decide +kernel
theorem k_89_73 : hm_code 89 73 = some (.aload_n 0) := by decide +kernel
theorem k_89_74 : hm_code 89 74 = some (.getfield 33) := by decide +kernel
theorem k_89_77 : hm_code 89 77 = some (.iload_n 1) := by decide +kernel
theorem k_89_78 : hm_code 89 78 = some (.aaload) := by decide +kernel
theorem k_89_79 : hm_code 89 79 = some (.iload_n 3) := by decide +kernel
theorem k_89_80 : hm_code 89 80 = some (.dup2) := by decide +kernel
theorem k_89_81 : hm_code 89 81 = some (.laload) := by decide +kernel
theorem k_89_82 : hm_code 89 82 = some (.lload 4) := by decide +kernel
theorem k_89_84 : hm_code 89 84 = some (.lor) := by decide +kernel
theorem k_89_85 : hm_code 89 85 = some (.lastore) := by decide +kernel
theorem k_89_86 : hm_code 89 86 = some (.iconst 0) := by decide +kernel
theorem k_89_87 : hm_code 89 87 = some (.ireturn) := by decide +kernel
theorem m_90 : hm_mtab[90]? = some (⟨"HourPromised$Bearers", "fillSet", "(IIII)Z"⟩, prog_2_method_8_code, 8, (some .boolean), 0, 5, 1) := rfl
theorem k_90_0 : hm_code 90 0 = some (.aload_n 0) := by decide +kernel
theorem k_90_1 : hm_code 90 1 = some (.getfield 19) := by decide +kernel
theorem k_90_4 : hm_code 90 4 = some (.iload_n 1) := by decide +kernel
theorem k_90_5 : hm_code 90 5 = some (.iaload) := by decide +kernel
theorem k_90_6 : hm_code 90 6 = some (.iload_n 3) := by decide +kernel
theorem k_90_7 : hm_code 90 7 = some (.invokestatic 50) := by decide +kernel
theorem k_90_10 : hm_code 90 10 = some (.isub) := by decide +kernel
theorem k_90_11 : hm_code 90 11 = some (.istore 5) := by decide +kernel
theorem k_90_13 : hm_code 90 13 = some (.iload 5) := by decide +kernel
theorem k_90_15 : hm_code 90 15 = some (.ifCond .gt 21) := by decide +kernel
theorem k_90_18 : hm_code 90 18 = some (.aload_n 0) := by decide +kernel
theorem k_90_19 : hm_code 90 19 = some (.getfield 25) := by decide +kernel
theorem k_90_22 : hm_code 90 22 = some (.iload_n 1) := by decide +kernel
theorem k_90_23 : hm_code 90 23 = some (.iload_n 3) := by decide +kernel
theorem k_90_24 : hm_code 90 24 = some (.iastore) := by decide +kernel
theorem k_90_25 : hm_code 90 25 = some (.aload_n 0) := by decide +kernel
theorem k_90_26 : hm_code 90 26 = some (.iload_n 1) := by decide +kernel
theorem k_90_27 : hm_code 90 27 = some (.iconst 1) := by decide +kernel
theorem k_90_28 : hm_code 90 28 = some (.iadd) := by decide +kernel
theorem k_90_29 : hm_code 90 29 = some (.iload_n 2) := by decide +kernel
theorem k_90_30 : hm_code 90 30 = some (.iload_n 3) := by decide +kernel
theorem k_90_31 : hm_code 90 31 = some (.ior) := by decide +kernel
theorem k_90_32 : hm_code 90 32 = some (.invokevirtual 42) := by decide +kernel
theorem k_90_35 : hm_code 90 35 = some (.ireturn) := by decide +kernel
theorem k_90_36 : hm_code 90 36 = some (.iload 4) := by decide +kernel
theorem k_90_38 : hm_code 90 38 = some (.istore 6) := by decide +kernel
theorem k_90_40 : hm_code 90 40 = some (.iconst 0) := by decide +kernel
theorem k_90_41 : hm_code 90 41 = some (.istore 7) := by decide +kernel
theorem k_90_43 : hm_code 90 43 = some (.iload 7) := by decide +kernel
theorem k_90_45 : hm_code 90 45 = some (.aload_n 0) := by decide +kernel
theorem k_90_46 : hm_code 90 46 = some (.getfield 15) := by decide +kernel
theorem k_90_49 : hm_code 90 49 = some (.if_icmp .ge 72) := by decide +kernel
theorem k_90_52 : hm_code 90 52 = some (.iload 6) := by decide +kernel
theorem k_90_54 : hm_code 90 54 = some (.invokestatic 50) := by decide +kernel
theorem k_90_57 : hm_code 90 57 = some (.iload 5) := by decide +kernel
theorem k_90_59 : hm_code 90 59 = some (.if_icmp .lt 62) := by decide +kernel
theorem k_90_62 : hm_code 90 62 = some (.iload 6) := by decide +kernel
theorem k_90_64 : hm_code 90 64 = some (.iload 7) := by decide +kernel
theorem k_90_66 : hm_code 90 66 = some (.invokestatic 56) := by decide +kernel
theorem k_90_69 : hm_code 90 69 = some (.ifCond .eq 46) := by decide +kernel
theorem k_90_72 : hm_code 90 72 = some (.iload 6) := by decide +kernel
theorem k_90_74 : hm_code 90 74 = some (.iconst 1) := by decide +kernel
theorem k_90_75 : hm_code 90 75 = some (.iload 7) := by decide +kernel
theorem k_90_77 : hm_code 90 77 = some (.ishl) := by decide +kernel
theorem k_90_78 : hm_code 90 78 = some (.iconst (-1)) := by decide +kernel
theorem k_90_79 : hm_code 90 79 = some (.ixor) := by decide +kernel
theorem k_90_80 : hm_code 90 80 = some (.iand) := by decide +kernel
theorem k_90_81 : hm_code 90 81 = some (.istore 6) := by decide +kernel
theorem k_90_83 : hm_code 90 83 = some (.aload_n 0) := by decide +kernel
theorem k_90_84 : hm_code 90 84 = some (.iload_n 1) := by decide +kernel
theorem k_90_85 : hm_code 90 85 = some (.iload_n 2) := by decide +kernel
theorem k_90_86 : hm_code 90 86 = some (.iload_n 3) := by decide +kernel
theorem k_90_87 : hm_code 90 87 = some (.iconst 1) := by decide +kernel
theorem k_90_88 : hm_code 90 88 = some (.iload 7) := by decide +kernel
theorem k_90_90 : hm_code 90 90 = some (.ishl) := by decide +kernel
theorem k_90_91 : hm_code 90 91 = some (.ior) := by decide +kernel
theorem k_90_92 : hm_code 90 92 = some (.iload 6) := by decide +kernel
theorem k_90_94 : hm_code 90 94 = some (.aload_n 0) := by decide +kernel
theorem k_90_95 : hm_code 90 95 = some (.iload 7) := by decide +kernel
theorem k_90_97 : hm_code 90 97 = some (.aload_n 0) := by decide +kernel
theorem k_90_98 : hm_code 90 98 = some (.getfield 22) := by decide +kernel
theorem k_90_101 : hm_code 90 101 = some (.iload_n 1) := by decide +kernel
theorem k_90_102 : hm_code 90 102 = some (.iaload) := by decide +kernel
theorem k_90_103 : hm_code 90 103 = some (.invokevirtual 59) := by decide +kernel
theorem k_90_106 : hm_code 90 106 = some (.iand) := by decide +kernel
theorem k_90_107 : hm_code 90 107 = some (.invokevirtual 46) := by decide +kernel
theorem k_90_110 : hm_code 90 110 = some (.ifCond .eq 5) := by decide +kernel
theorem k_90_113 : hm_code 90 113 = some (.iconst 1) := by decide +kernel
theorem k_90_114 : hm_code 90 114 = some (.ireturn) := by decide +kernel
theorem k_90_115 : hm_code 90 115 = some (.iinc 7 1) := by decide +kernel
theorem k_90_118 : hm_code 90 118 = some (.goto (-75)) := by decide +kernel
theorem k_90_121 : hm_code 90 121 = some (.iconst 0) := by decide +kernel
theorem k_90_122 : hm_code 90 122 = some (.ireturn) := by decide +kernel
theorem m_91 : hm_mtab[91]? = some (⟨"java/lang/Integer", "bitCount", "(I)I"⟩, prog_13_method_49_code, 1, (some .int), 18, 1, 0) := rfl
theorem k_91_0 : hm_code 91 0 = some (.iload_n 0) := by decide +kernel
theorem k_91_1 : hm_code 91 1 = some (.iload_n 0) := by decide +kernel
theorem k_91_2 : hm_code 91 2 = some (.iconst 1) := by decide +kernel
theorem k_91_3 : hm_code 91 3 = some (.iushr) := by decide +kernel
theorem k_91_4 : hm_code 91 4 = some (.ldc_w 265) := by decide +kernel
theorem k_91_7 : hm_code 91 7 = some (.iand) := by decide +kernel
theorem k_91_8 : hm_code 91 8 = some (.isub) := by decide +kernel
theorem k_91_9 : hm_code 91 9 = some (.istore_n 0) := by decide +kernel
theorem k_91_10 : hm_code 91 10 = some (.iload_n 0) := by decide +kernel
theorem k_91_11 : hm_code 91 11 = some (.ldc_w 266) := by decide +kernel
theorem k_91_14 : hm_code 91 14 = some (.iand) := by decide +kernel
theorem k_91_15 : hm_code 91 15 = some (.iload_n 0) := by decide +kernel
theorem k_91_16 : hm_code 91 16 = some (.iconst 2) := by decide +kernel
theorem k_91_17 : hm_code 91 17 = some (.iushr) := by decide +kernel
theorem k_91_18 : hm_code 91 18 = some (.ldc_w 266) := by decide +kernel
theorem k_91_21 : hm_code 91 21 = some (.iand) := by decide +kernel
theorem k_91_22 : hm_code 91 22 = some (.iadd) := by decide +kernel
theorem k_91_23 : hm_code 91 23 = some (.istore_n 0) := by decide +kernel
theorem k_91_24 : hm_code 91 24 = some (.iload_n 0) := by decide +kernel
theorem k_91_25 : hm_code 91 25 = some (.iload_n 0) := by decide +kernel
theorem k_91_26 : hm_code 91 26 = some (.iconst 4) := by decide +kernel
theorem k_91_27 : hm_code 91 27 = some (.iushr) := by decide +kernel
theorem k_91_28 : hm_code 91 28 = some (.iadd) := by decide +kernel
theorem k_91_29 : hm_code 91 29 = some (.ldc_w 267) := by decide +kernel
theorem k_91_32 : hm_code 91 32 = some (.iand) := by decide +kernel
theorem k_91_33 : hm_code 91 33 = some (.istore_n 0) := by decide +kernel
theorem k_91_34 : hm_code 91 34 = some (.iload_n 0) := by decide +kernel
theorem k_91_35 : hm_code 91 35 = some (.iload_n 0) := by decide +kernel
theorem k_91_36 : hm_code 91 36 = some (.bipush 8) := by decide +kernel
theorem k_91_38 : hm_code 91 38 = some (.iushr) := by decide +kernel
theorem k_91_39 : hm_code 91 39 = some (.iadd) := by decide +kernel
theorem k_91_40 : hm_code 91 40 = some (.istore_n 0) := by decide +kernel
theorem k_91_41 : hm_code 91 41 = some (.iload_n 0) := by decide +kernel
theorem k_91_42 : hm_code 91 42 = some (.iload_n 0) := by decide +kernel
theorem k_91_43 : hm_code 91 43 = some (.bipush 16) := by decide +kernel
theorem k_91_45 : hm_code 91 45 = some (.iushr) := by decide +kernel
theorem k_91_46 : hm_code 91 46 = some (.iadd) := by decide +kernel
theorem k_91_47 : hm_code 91 47 = some (.istore_n 0) := by decide +kernel
theorem k_91_48 : hm_code 91 48 = some (.iload_n 0) := by decide +kernel
theorem k_91_49 : hm_code 91 49 = some (.bipush 63) := by decide +kernel
theorem k_91_51 : hm_code 91 51 = some (.iand) := by decide +kernel
theorem k_91_52 : hm_code 91 52 = some (.ireturn) := by decide +kernel
theorem m_92 : hm_mtab[92]? = some (⟨"HourPromised$Bearers", "likeInHeight", "(II)I"⟩, prog_2_method_9_code, 5, (some .int), 0, 3, 1) := rfl
theorem k_92_0 : hm_code 92 0 = some (.iconst 0) := by decide +kernel
theorem k_92_1 : hm_code 92 1 = some (.istore_n 3) := by decide +kernel
theorem k_92_2 : hm_code 92 2 = some (.iconst 0) := by decide +kernel
theorem k_92_3 : hm_code 92 3 = some (.istore 4) := by decide +kernel
theorem k_92_5 : hm_code 92 5 = some (.iload 4) := by decide +kernel
theorem k_92_7 : hm_code 92 7 = some (.aload_n 0) := by decide +kernel
theorem k_92_8 : hm_code 92 8 = some (.getfield 15) := by decide +kernel
theorem k_92_11 : hm_code 92 11 = some (.if_icmp .ge 41) := by decide +kernel
theorem k_92_14 : hm_code 92 14 = some (.iload_n 3) := by decide +kernel
theorem k_92_15 : hm_code 92 15 = some (.aload_n 0) := by decide +kernel
theorem k_92_16 : hm_code 92 16 = some (.getfield 11) := by decide +kernel
theorem k_92_19 : hm_code 92 19 = some (.iload 4) := by decide +kernel
theorem k_92_21 : hm_code 92 21 = some (.iaload) := by decide +kernel
theorem k_92_22 : hm_code 92 22 = some (.aload_n 0) := by decide +kernel
theorem k_92_23 : hm_code 92 23 = some (.getfield 11) := by decide +kernel
theorem k_92_26 : hm_code 92 26 = some (.iload_n 1) := by decide +kernel
theorem k_92_27 : hm_code 92 27 = some (.iaload) := by decide +kernel
theorem k_92_28 : hm_code 92 28 = some (.isub) := by decide +kernel
theorem k_92_29 : hm_code 92 29 = some (.invokestatic 63) := by decide +kernel
theorem k_92_32 : hm_code 92 32 = some (.iload_n 2) := by decide +kernel
theorem k_92_33 : hm_code 92 33 = some (.if_icmp .gt 10) := by decide +kernel
theorem k_92_36 : hm_code 92 36 = some (.iconst 1) := by decide +kernel
theorem k_92_37 : hm_code 92 37 = some (.iload 4) := by decide +kernel
theorem k_92_39 : hm_code 92 39 = some (.ishl) := by decide +kernel
theorem k_92_40 : hm_code 92 40 = some (.goto 4) := by decide +kernel
theorem k_92_43 : hm_code 92 43 = some (.iconst 0) := by decide +kernel
theorem k_92_44 : hm_code 92 44 = some (.ior) := by decide +kernel
theorem k_92_45 : hm_code 92 45 = some (.istore_n 3) := by decide +kernel
theorem k_92_46 : hm_code 92 46 = some (.iinc 4 1) := by decide +kernel
theorem k_92_49 : hm_code 92 49 = some (.goto (-44)) := by decide +kernel
theorem k_92_52 : hm_code 92 52 = some (.iload_n 3) := by decide +kernel
theorem k_92_53 : hm_code 92 53 = some (.ireturn) := by decide +kernel
theorem m_93 : hm_mtab[93]? = some (⟨"java/lang/Math", "abs", "(I)I"⟩, prog_15_method_59_code, 1, (some .int), 14, 1, 0) := rfl
theorem k_93_0 : hm_code 93 0 = some (.iload_n 0) := by decide +kernel
theorem k_93_1 : hm_code 93 1 = some (.ifCond .ge 8) := by decide +kernel
theorem k_93_4 : hm_code 93 4 = some (.iload_n 0) := by decide +kernel
theorem k_93_5 : hm_code 93 5 = some (.ineg) := by decide +kernel
theorem k_93_6 : hm_code 93 6 = some (.goto 4) := by decide +kernel
theorem k_93_9 : hm_code 93 9 = some (.iload_n 0) := by decide +kernel
theorem k_93_10 : hm_code 93 10 = some (.ireturn) := by decide +kernel
theorem m_94 : hm_mtab[94]? = some (⟨"HourPromised", "promise", "(III)I"⟩, prog_1_method_15_code, 5, (some .int), 7, 4, 1) := rfl
theorem k_94_0 : hm_code 94 0 = some (.aload_n 0) := by decide +kernel
theorem k_94_1 : hm_code 94 1 = some (.iload_n 1) := by decide +kernel
theorem k_94_2 : hm_code 94 2 = some (.invokevirtual 161) := by decide +kernel
theorem k_94_5 : hm_code 94 5 = some (.astore 4) := by decide +kernel
theorem k_94_7 : hm_code 94 7 = some (.aload 4) := by decide +kernel
theorem k_94_9 : hm_code 94 9 = some (.ifnonnull 7) := by decide +kernel
theorem k_94_12 : hm_code 94 12 = some (.sipush (-1001)) := by decide +kernel
theorem k_94_15 : hm_code 94 15 = some (.ireturn) := by decide +kernel
theorem k_94_16 : hm_code 94 16 = some (.iload_n 2) := by decide +kernel
theorem k_94_17 : hm_code 94 17 = some (.invokestatic 144) := by decide +kernel
theorem k_94_20 : hm_code 94 20 = some (.ifCond .eq 10) := by decide +kernel
theorem k_94_23 : hm_code 94 23 = some (.iload_n 3) := by decide +kernel
theorem k_94_24 : hm_code 94 24 = some (.invokestatic 151) := by decide +kernel
theorem k_94_27 : hm_code 94 27 = some (.ifCond .ne 7) := by decide +kernel
theorem k_94_30 : hm_code 94 30 = some (.sipush (-1002)) := by decide +kernel
theorem k_94_33 : hm_code 94 33 = some (.ireturn) := by decide +kernel
theorem k_94_34 : hm_code 94 34 = some (.aload_n 0) := by decide +kernel
theorem k_94_35 : hm_code 94 35 = some (.aload 4) := by decide +kernel
theorem k_94_37 : hm_code 94 37 = some (.iload_n 2) := by decide +kernel
theorem k_94_38 : hm_code 94 38 = some (.iload_n 3) := by decide +kernel
theorem k_94_39 : hm_code 94 39 = some (.invokevirtual 168) := by decide +kernel
theorem k_94_42 : hm_code 94 42 = some (.ifCond .eq 7) := by decide +kernel
theorem k_94_45 : hm_code 94 45 = some (.sipush (-1003)) := by decide +kernel
theorem k_94_48 : hm_code 94 48 = some (.ireturn) := by decide +kernel
theorem k_94_49 : hm_code 94 49 = some (.aload_n 0) := by decide +kernel
theorem k_94_50 : hm_code 94 50 = some (.aload 4) := by decide +kernel
theorem k_94_52 : hm_code 94 52 = some (.iload_n 2) := by decide +kernel
theorem k_94_53 : hm_code 94 53 = some (.iload_n 3) := by decide +kernel
theorem k_94_54 : hm_code 94 54 = some (.invokevirtual 172) := by decide +kernel
theorem k_94_57 : hm_code 94 57 = some (.iconst 1) := by decide +kernel
theorem k_94_58 : hm_code 94 58 = some (.ireturn) := by decide +kernel
theorem m_95 : hm_mtab[95]? = some (⟨"HourPromised", "book", "(LHourPromised$CaseFile;II)V"⟩, prog_1_method_27_code, 4, none, 7, 4, 1) := rfl
theorem k_95_0 : hm_code 95 0 = some (.aload_n 0) := by decide +kernel
theorem k_95_1 : hm_code 95 1 = some (.getfield 26) := by decide +kernel
theorem k_95_4 : hm_code 95 4 = some (.aload_n 1) := by decide +kernel
theorem k_95_5 : hm_code 95 5 = some (.iconst (-1)) := by decide +kernel
theorem k_95_6 : hm_code 95 6 = some (.invokevirtual 250) := by decide +kernel
theorem k_95_9 : hm_code 95 9 = some (.aload_n 1) := by decide +kernel
theorem k_95_10 : hm_code 95 10 = some (.getfield 183) := by decide +kernel
theorem k_95_13 : hm_code 95 13 = some (.iload_n 2) := by decide +kernel
theorem k_95_14 : hm_code 95 14 = some (.iload_n 3) := by decide +kernel
theorem k_95_15 : hm_code 95 15 = some (.iastore) := by decide +kernel
theorem k_95_16 : hm_code 95 16 = some (.aload_n 0) := by decide +kernel
theorem k_95_17 : hm_code 95 17 = some (.getfield 26) := by decide +kernel
theorem k_95_20 : hm_code 95 20 = some (.aload_n 1) := by decide +kernel
theorem k_95_21 : hm_code 95 21 = some (.iload_n 2) := by decide +kernel
theorem k_95_22 : hm_code 95 22 = some (.iconst 1) := by decide +kernel
theorem k_95_23 : hm_code 95 23 = some (.invokevirtual 253) := by decide +kernel
theorem k_95_26 : hm_code 95 26 = some (.aload_n 0) := by decide +kernel
theorem k_95_27 : hm_code 95 27 = some (.getfield 26) := by decide +kernel
theorem k_95_30 : hm_code 95 30 = some (.aload_n 1) := by decide +kernel
theorem k_95_31 : hm_code 95 31 = some (.iconst 1) := by decide +kernel
theorem k_95_32 : hm_code 95 32 = some (.invokevirtual 250) := by decide +kernel
theorem k_95_35 : hm_code 95 35 = some (.aload_n 0) := by decide +kernel
theorem k_95_36 : hm_code 95 36 = some (.dup) := by decide +kernel
theorem k_95_37 : hm_code 95 37 = some (.getfield 62) := by decide +kernel
theorem k_95_40 : hm_code 95 40 = some (.iconst 1) := by decide +kernel
theorem k_95_41 : hm_code 95 41 = some (.iadd) := by decide +kernel
theorem k_95_42 : hm_code 95 42 = some (.putfield 62) := by decide +kernel
theorem k_95_45 : hm_code 95 45 = some (.return_) := by decide +kernel
theorem m_96 : hm_mtab[96]? = some (⟨"HourPromised", "earliest", "(III)I"⟩, prog_1_method_16_code, 6, (some .int), 7, 4, 1) := rfl
theorem k_96_0 : hm_code 96 0 = some (.aload_n 0) := by decide +kernel
theorem k_96_1 : hm_code 96 1 = some (.iload_n 1) := by decide +kernel
theorem k_96_2 : hm_code 96 2 = some (.invokevirtual 161) := by decide +kernel
theorem k_96_5 : hm_code 96 5 = some (.astore 4) := by decide +kernel
theorem k_96_7 : hm_code 96 7 = some (.aload 4) := by decide +kernel
theorem k_96_9 : hm_code 96 9 = some (.ifnonnull 7) := by decide +kernel
theorem k_96_12 : hm_code 96 12 = some (.sipush (-1001)) := by decide +kernel
theorem k_96_15 : hm_code 96 15 = some (.ireturn) := by decide +kernel
theorem k_96_16 : hm_code 96 16 = some (.iload_n 2) := by decide +kernel
theorem k_96_17 : hm_code 96 17 = some (.invokestatic 144) := by decide +kernel
theorem k_96_20 : hm_code 96 20 = some (.ifCond .eq 10) := by decide +kernel
theorem k_96_23 : hm_code 96 23 = some (.iload_n 3) := by decide +kernel
theorem k_96_24 : hm_code 96 24 = some (.invokestatic 151) := by decide +kernel
theorem k_96_27 : hm_code 96 27 = some (.ifCond .ne 7) := by decide +kernel
theorem k_96_30 : hm_code 96 30 = some (.sipush (-1002)) := by decide +kernel
theorem k_96_33 : hm_code 96 33 = some (.ireturn) := by decide +kernel
theorem k_96_34 : hm_code 96 34 = some (.iload_n 3) := by decide +kernel
theorem k_96_35 : hm_code 96 35 = some (.istore 5) := by decide +kernel
theorem k_96_37 : hm_code 96 37 = some (.iload 5) := by decide +kernel
theorem k_96_39 : hm_code 96 39 = some (.sipush 400) := by decide +kernel
theorem k_96_42 : hm_code 96 42 = some (.if_icmp .ge 24) := by decide +kernel
theorem k_96_45 : hm_code 96 45 = some (.aload_n 0) := by decide +kernel
theorem k_96_46 : hm_code 96 46 = some (.aload 4) := by decide +kernel
theorem k_96_48 : hm_code 96 48 = some (.iload_n 2) := by decide +kernel
theorem k_96_49 : hm_code 96 49 = some (.iload 5) := by decide +kernel
theorem k_96_51 : hm_code 96 51 = some (.invokevirtual 168) := by decide +kernel
theorem k_96_54 : hm_code 96 54 = some (.ifCond .ne 6) := by decide +kernel
theorem k_96_57 : hm_code 96 57 = some (.iload 5) := by decide +kernel
theorem k_96_59 : hm_code 96 59 = some (.ireturn) := by decide +kernel
theorem k_96_60 : hm_code 96 60 = some (.iinc 5 1) := by decide +kernel
theorem k_96_63 : hm_code 96 63 = some (.goto (-26)) := by decide +kernel
theorem k_96_66 : hm_code 96 66 = some (.iconst (-1)) := by decide +kernel
theorem k_96_67 : hm_code 96 67 = some (.ireturn) := by decide +kernel
theorem m_97 : hm_mtab[97]? = some (⟨"HourPromised", "undo", "(II)I"⟩, prog_1_method_17_code, 4, (some .int), 7, 3, 1) := rfl
theorem k_97_0 : hm_code 97 0 = some (.aload_n 0) := by decide +kernel
theorem k_97_1 : hm_code 97 1 = some (.iload_n 1) := by decide +kernel
theorem k_97_2 : hm_code 97 2 = some (.invokevirtual 161) := by decide +kernel
theorem k_97_5 : hm_code 97 5 = some (.astore_n 3) := by decide +kernel
theorem k_97_6 : hm_code 97 6 = some (.aload_n 3) := by decide +kernel
theorem k_97_7 : hm_code 97 7 = some (.ifnonnull 7) := by decide +kernel
theorem k_97_10 : hm_code 97 10 = some (.sipush (-1001)) := by decide +kernel
theorem k_97_13 : hm_code 97 13 = some (.ireturn) := by decide +kernel
theorem k_97_14 : hm_code 97 14 = some (.iload_n 2) := by decide +kernel
theorem k_97_15 : hm_code 97 15 = some (.invokestatic 144) := by decide +kernel
theorem k_97_18 : hm_code 97 18 = some (.ifCond .ne 7) := by decide +kernel
theorem k_97_21 : hm_code 97 21 = some (.sipush (-1002)) := by decide +kernel
theorem k_97_24 : hm_code 97 24 = some (.ireturn) := by decide +kernel
theorem k_97_25 : hm_code 97 25 = some (.aload_n 3) := by decide +kernel
theorem k_97_26 : hm_code 97 26 = some (.iload_n 2) := by decide +kernel
theorem k_97_27 : hm_code 97 27 = some (.invokevirtual 176) := by decide +kernel
theorem k_97_30 : hm_code 97 30 = some (.ifCond .ne 7) := by decide +kernel
theorem k_97_33 : hm_code 97 33 = some (.sipush (-1003)) := by decide +kernel
theorem k_97_36 : hm_code 97 36 = some (.ireturn) := by decide +kernel
theorem k_97_37 : hm_code 97 37 = some (.aload_n 0) := by decide +kernel
theorem k_97_38 : hm_code 97 38 = some (.aload_n 3) := by decide +kernel
theorem k_97_39 : hm_code 97 39 = some (.iload_n 2) := by decide +kernel
theorem k_97_40 : hm_code 97 40 = some (.invokevirtual 179) := by decide +kernel
theorem k_97_43 : hm_code 97 43 = some (.iconst 1) := by decide +kernel
theorem k_97_44 : hm_code 97 44 = some (.aload_n 0) := by decide +kernel
theorem k_97_45 : hm_code 97 45 = some (.aload_n 3) := by decide +kernel
theorem k_97_46 : hm_code 97 46 = some (.invokevirtual 137) := by decide +kernel
theorem k_97_49 : hm_code 97 49 = some (.iadd) := by decide +kernel
theorem k_97_50 : hm_code 97 50 = some (.ireturn) := by decide +kernel
theorem m_98 : hm_mtab[98]? = some (⟨"HourPromised", "promised", "(III)I"⟩, prog_1_method_18_code, 5, (some .int), 7, 4, 1) := rfl
theorem k_98_0 : hm_code 98 0 = some (.aload_n 0) := by decide +kernel
theorem k_98_1 : hm_code 98 1 = some (.iload_n 1) := by decide +kernel
theorem k_98_2 : hm_code 98 2 = some (.invokevirtual 161) := by decide +kernel
theorem k_98_5 : hm_code 98 5 = some (.astore 4) := by decide +kernel
theorem k_98_7 : hm_code 98 7 = some (.aload 4) := by decide +kernel
theorem k_98_9 : hm_code 98 9 = some (.ifnonnull 7) := by decide +kernel
theorem k_98_12 : hm_code 98 12 = some (.sipush (-1001)) := by decide +kernel
theorem k_98_15 : hm_code 98 15 = some (.ireturn) := by decide +kernel
theorem k_98_16 : hm_code 98 16 = some (.iload_n 2) := by decide +kernel
theorem k_98_17 : hm_code 98 17 = some (.invokestatic 144) := by decide +kernel
theorem k_98_20 : hm_code 98 20 = some (.ifCond .ne 7) := by decide +kernel
theorem k_98_23 : hm_code 98 23 = some (.sipush (-1002)) := by decide +kernel
theorem k_98_26 : hm_code 98 26 = some (.ireturn) := by decide +kernel
theorem k_98_27 : hm_code 98 27 = some (.iload_n 3) := by decide +kernel
theorem k_98_28 : hm_code 98 28 = some (.tableswitch 82 0 2 #[28, 36, 58]) := by decide +kernel
theorem k_98_56 : hm_code 98 56 = some (.aload 4) := by decide +kernel
theorem k_98_58 : hm_code 98 58 = some (.getfield 183) := by decide +kernel
theorem k_98_61 : hm_code 98 61 = some (.iload_n 2) := by decide +kernel
theorem k_98_62 : hm_code 98 62 = some (.iaload) := by decide +kernel
theorem k_98_63 : hm_code 98 63 = some (.ireturn) := by decide +kernel
theorem k_98_64 : hm_code 98 64 = some (.iload_n 2) := by decide +kernel
theorem k_98_65 : hm_code 98 65 = some (.iconst 1) := by decide +kernel
theorem k_98_66 : hm_code 98 66 = some (.if_icmp .ne 18) := by decide +kernel
theorem k_98_69 : hm_code 98 69 = some (.aload_n 0) := by decide +kernel
theorem k_98_70 : hm_code 98 70 = some (.iload_n 1) := by decide +kernel
theorem k_98_71 : hm_code 98 71 = some (.aload 4) := by decide +kernel
theorem k_98_73 : hm_code 98 73 = some (.getfield 183) := by decide +kernel
theorem k_98_76 : hm_code 98 76 = some (.iconst 1) := by decide +kernel
theorem k_98_77 : hm_code 98 77 = some (.iaload) := by decide +kernel
theorem k_98_78 : hm_code 98 78 = some (.invokevirtual 186) := by decide +kernel
theorem k_98_81 : hm_code 98 81 = some (.goto 4) := by decide +kernel
theorem k_98_84 : hm_code 98 84 = some (.iconst (-1)) := by decide +kernel
theorem k_98_85 : hm_code 98 85 = some (.ireturn) := by decide +kernel
theorem k_98_86 : hm_code 98 86 = some (.iload_n 2) := by decide +kernel
theorem k_98_87 : hm_code 98 87 = some (.invokestatic 189) := by decide +kernel
theorem k_98_90 : hm_code 98 90 = some (.ifCond .eq 18) := by decide +kernel
theorem k_98_93 : hm_code 98 93 = some (.aload_n 0) := by decide +kernel
theorem k_98_94 : hm_code 98 94 = some (.iload_n 1) := by decide +kernel
theorem k_98_95 : hm_code 98 95 = some (.aload 4) := by decide +kernel
theorem k_98_97 : hm_code 98 97 = some (.getfield 183) := by decide +kernel
theorem k_98_100 : hm_code 98 100 = some (.iload_n 2) := by decide +kernel
theorem k_98_101 : hm_code 98 101 = some (.iaload) := by decide +kernel
theorem k_98_102 : hm_code 98 102 = some (.invokevirtual 192) := by decide +kernel
theorem k_98_105 : hm_code 98 105 = some (.goto 4) := by decide +kernel
theorem k_98_108 : hm_code 98 108 = some (.iconst 0) := by decide +kernel
theorem k_98_109 : hm_code 98 109 = some (.ireturn) := by decide +kernel
theorem k_98_110 : hm_code 98 110 = some (.sipush (-1002)) := by decide +kernel
theorem k_98_113 : hm_code 98 113 = some (.ireturn) := by decide +kernel
theorem m_99 : hm_mtab[99]? = some (⟨"HourPromised", "chapelOf", "(II)I"⟩, prog_1_method_26_code, 5, (some .int), 7, 3, 1) := rfl
theorem k_99_0 : hm_code 99 0 = some (.iload_n 2) := by decide +kernel
theorem k_99_1 : hm_code 99 1 = some (.iconst (-1)) := by decide +kernel
theorem k_99_2 : hm_code 99 2 = some (.if_icmp .ne 5) := by decide +kernel
theorem k_99_5 : hm_code 99 5 = some (.iconst (-1)) := by decide +kernel
theorem k_99_6 : hm_code 99 6 = some (.ireturn) := by decide +kernel
theorem k_99_7 : hm_code 99 7 = some (.iconst 0) := by decide +kernel
theorem k_99_8 : hm_code 99 8 = some (.istore_n 3) := by decide +kernel
theorem k_99_9 : hm_code 99 9 = some (.iconst 0) := by decide +kernel
theorem k_99_10 : hm_code 99 10 = some (.istore 4) := by decide +kernel
theorem k_99_12 : hm_code 99 12 = some (.iload 4) := by decide +kernel
theorem k_99_14 : hm_code 99 14 = some (.iload_n 1) := by decide +kernel
theorem k_99_15 : hm_code 99 15 = some (.if_icmp .ge 50) := by decide +kernel
theorem k_99_18 : hm_code 99 18 = some (.iload 4) := by decide +kernel
theorem k_99_20 : hm_code 99 20 = some (.aload_n 0) := by decide +kernel
theorem k_99_21 : hm_code 99 21 = some (.getfield 58) := by decide +kernel
theorem k_99_24 : hm_code 99 24 = some (.invokevirtual 124) := by decide +kernel
theorem k_99_27 : hm_code 99 27 = some (.if_icmp .ge 38) := by decide +kernel
theorem k_99_30 : hm_code 99 30 = some (.iload_n 3) := by decide +kernel
theorem k_99_31 : hm_code 99 31 = some (.aload_n 0) := by decide +kernel
theorem k_99_32 : hm_code 99 32 = some (.getfield 58) := by decide +kernel
theorem k_99_35 : hm_code 99 35 = some (.iload 4) := by decide +kernel
theorem k_99_37 : hm_code 99 37 = some (.invokevirtual 128) := by decide +kernel
theorem k_99_40 : hm_code 99 40 = some (.checkcast 132) := by decide +kernel
theorem k_99_43 : hm_code 99 43 = some (.getfield 183) := by decide +kernel
theorem k_99_46 : hm_code 99 46 = some (.iconst 1) := by decide +kernel
theorem k_99_47 : hm_code 99 47 = some (.iaload) := by decide +kernel
theorem k_99_48 : hm_code 99 48 = some (.iload_n 2) := by decide +kernel
theorem k_99_49 : hm_code 99 49 = some (.if_icmp .ne 7) := by decide +kernel
theorem k_99_52 : hm_code 99 52 = some (.iconst 1) := by decide +kernel
theorem k_99_53 : hm_code 99 53 = some (.goto 4) := by decide +kernel
theorem k_99_56 : hm_code 99 56 = some (.iconst 0) := by decide +kernel
theorem k_99_57 : hm_code 99 57 = some (.iadd) := by decide +kernel
theorem k_99_58 : hm_code 99 58 = some (.istore_n 3) := by decide +kernel
theorem k_99_59 : hm_code 99 59 = some (.iinc 4 1) := by decide +kernel
theorem k_99_62 : hm_code 99 62 = some (.goto (-50)) := by decide +kernel
theorem k_99_65 : hm_code 99 65 = some (.iconst 0) := by decide +kernel
theorem k_99_66 : hm_code 99 66 = some (.istore 4) := by decide +kernel
theorem k_99_68 : hm_code 99 68 = some (.iload 4) := by decide +kernel
theorem k_99_70 : hm_code 99 70 = some (.iconst 3) := by decide +kernel
theorem k_99_71 : hm_code 99 71 = some (.if_icmp .ge 29) := by decide +kernel
theorem k_99_74 : hm_code 99 74 = some (.aload_n 0) := by decide +kernel
theorem k_99_75 : hm_code 99 75 = some (.iload 4) := by decide +kernel
theorem k_99_77 : hm_code 99 77 = some (.iload_n 2) := by decide +kernel
theorem k_99_78 : hm_code 99 78 = some (.invokevirtual 106) := by decide +kernel
theorem k_99_81 : hm_code 99 81 = some (.ifCond .eq 13) := by decide +kernel
theorem k_99_84 : hm_code 99 84 = some (.iload_n 3) := by decide +kernel
theorem k_99_85 : hm_code 99 85 = some (.ifCond .ne 6) := by decide +kernel
theorem k_99_88 : hm_code 99 88 = some (.iload 4) := by decide +kernel
theorem k_99_90 : hm_code 99 90 = some (.ireturn) := by decide +kernel
theorem k_99_91 : hm_code 99 91 = some (.iinc 3 (-1)) := by decide +kernel
theorem k_99_94 : hm_code 99 94 = some (.iinc 4 1) := by decide +kernel
theorem k_99_97 : hm_code 99 97 = some (.goto (-29)) := by decide +kernel
theorem k_99_100 : hm_code 99 100 = some (.iconst (-1)) := by decide +kernel
theorem k_99_101 : hm_code 99 101 = some (.ireturn) := by decide +kernel
theorem m_100 : hm_mtab[100]? = some (⟨"HourPromised", "bearersOf", "(II)I"⟩, prog_1_method_25_code, 6, (some .int), 7, 3, 1) := rfl
theorem k_100_0 : hm_code 100 0 = some (.iload_n 2) := by decide +kernel
theorem k_100_1 : hm_code 100 1 = some (.iconst (-1)) := by decide +kernel
theorem k_100_2 : hm_code 100 2 = some (.if_icmp .ne 5) := by decide +kernel
theorem k_100_5 : hm_code 100 5 = some (.iconst 0) := by decide +kernel
theorem k_100_6 : hm_code 100 6 = some (.ireturn) := by decide +kernel
theorem k_100_7 : hm_code 100 7 = some (.iconst (-1)) := by decide +kernel
theorem k_100_8 : hm_code 100 8 = some (.istore_n 3) := by decide +kernel
theorem k_100_9 : hm_code 100 9 = some (.aload_n 0) := by decide +kernel
theorem k_100_10 : hm_code 100 10 = some (.getfield 19) := by decide +kernel
theorem k_100_13 : hm_code 100 13 = some (.invokevirtual 225) := by decide +kernel
theorem k_100_16 : hm_code 100 16 = some (.iconst 0) := by decide +kernel
theorem k_100_17 : hm_code 100 17 = some (.istore 4) := by decide +kernel
theorem k_100_19 : hm_code 100 19 = some (.iload 4) := by decide +kernel
theorem k_100_21 : hm_code 100 21 = some (.aload_n 0) := by decide +kernel
theorem k_100_22 : hm_code 100 22 = some (.getfield 58) := by decide +kernel
theorem k_100_25 : hm_code 100 25 = some (.invokevirtual 124) := by decide +kernel
theorem k_100_28 : hm_code 100 28 = some (.if_icmp .ge 67) := by decide +kernel
theorem k_100_31 : hm_code 100 31 = some (.aload_n 0) := by decide +kernel
theorem k_100_32 : hm_code 100 32 = some (.getfield 58) := by decide +kernel
theorem k_100_35 : hm_code 100 35 = some (.iload 4) := by decide +kernel
theorem k_100_37 : hm_code 100 37 = some (.invokevirtual 128) := by decide +kernel
theorem k_100_40 : hm_code 100 40 = some (.checkcast 132) := by decide +kernel
theorem k_100_43 : hm_code 100 43 = some (.astore 5) := by decide +kernel
theorem k_100_45 : hm_code 100 45 = some (.aload 5) := by decide +kernel
theorem k_100_47 : hm_code 100 47 = some (.iload_n 2) := by decide +kernel
theorem k_100_48 : hm_code 100 48 = some (.invokevirtual 228) := by decide +kernel
theorem k_100_51 : hm_code 100 51 = some (.ifCond .eq 38) := by decide +kernel
theorem k_100_54 : hm_code 100 54 = some (.iload 4) := by decide +kernel
theorem k_100_56 : hm_code 100 56 = some (.iload_n 1) := by decide +kernel
theorem k_100_57 : hm_code 100 57 = some (.if_icmp .ne 13) := by decide +kernel
theorem k_100_60 : hm_code 100 60 = some (.aload_n 0) := by decide +kernel
theorem k_100_61 : hm_code 100 61 = some (.getfield 19) := by decide +kernel
theorem k_100_64 : hm_code 100 64 = some (.getfield 244) := by decide +kernel
theorem k_100_67 : hm_code 100 67 = some (.goto 4) := by decide +kernel
theorem k_100_70 : hm_code 100 70 = some (.iload_n 3) := by decide +kernel
theorem k_100_71 : hm_code 100 71 = some (.istore_n 3) := by decide +kernel
theorem k_100_72 : hm_code 100 72 = some (.aload_n 0) := by decide +kernel
theorem k_100_73 : hm_code 100 73 = some (.getfield 19) := by decide +kernel
theorem k_100_76 : hm_code 100 76 = some (.aload 5) := by decide +kernel
theorem k_100_78 : hm_code 100 78 = some (.getfield 231) := by decide +kernel
theorem k_100_81 : hm_code 100 81 = some (.aload 5) := by decide +kernel
theorem k_100_83 : hm_code 100 83 = some (.getfield 234) := by decide +kernel
theorem k_100_86 : hm_code 100 86 = some (.invokevirtual 237) := by decide +kernel
theorem k_100_89 : hm_code 100 89 = some (.iinc 4 1) := by decide +kernel
theorem k_100_92 : hm_code 100 92 = some (.goto (-73)) := by decide +kernel
theorem k_100_95 : hm_code 100 95 = some (.aload_n 0) := by decide +kernel
theorem k_100_96 : hm_code 100 96 = some (.getfield 19) := by decide +kernel
theorem k_100_99 : hm_code 100 99 = some (.invokevirtual 241) := by decide +kernel
theorem k_100_102 : hm_code 100 102 = some (.ifCond .eq 14) := by decide +kernel
theorem k_100_105 : hm_code 100 105 = some (.aload_n 0) := by decide +kernel
theorem k_100_106 : hm_code 100 106 = some (.getfield 19) := by decide +kernel
theorem k_100_109 : hm_code 100 109 = some (.iload_n 3) := by decide +kernel
theorem k_100_110 : hm_code 100 110 = some (.invokevirtual 247) := by decide +kernel
theorem k_100_113 : hm_code 100 113 = some (.goto 4) := by decide +kernel
theorem k_100_116 : hm_code 100 116 = some (.iconst 0) := by decide +kernel
theorem k_100_117 : hm_code 100 117 = some (.ireturn) := by decide +kernel
theorem m_101 : hm_mtab[101]? = some (⟨"HourPromised$Bearers", "setOf", "(I)I"⟩, prog_2_method_5_code, 2, (some .int), 0, 2, 1) := rfl
theorem k_101_0 : hm_code 101 0 = some (.iload_n 1) := by decide +kernel
theorem k_101_1 : hm_code 101 1 = some (.ifCond .lt 20) := by decide +kernel
theorem k_101_4 : hm_code 101 4 = some (.iload_n 1) := by decide +kernel
theorem k_101_5 : hm_code 101 5 = some (.aload_n 0) := by decide +kernel
theorem k_101_6 : hm_code 101 6 = some (.getfield 28) := by decide +kernel
theorem k_101_9 : hm_code 101 9 = some (.if_icmp .ge 12) := by decide +kernel
theorem k_101_12 : hm_code 101 12 = some (.aload_n 0) := by decide +kernel
theorem k_101_13 : hm_code 101 13 = some (.getfield 25) := by decide +kernel
theorem k_101_16 : hm_code 101 16 = some (.iload_n 1) := by decide +kernel
theorem k_101_17 : hm_code 101 17 = some (.iaload) := by decide +kernel
theorem k_101_18 : hm_code 101 18 = some (.goto 4) := by decide +kernel
theorem k_101_21 : hm_code 101 21 = some (.iconst 0) := by decide +kernel
theorem k_101_22 : hm_code 101 22 = some (.ireturn) := by decide +kernel
theorem m_102 : hm_mtab[102]? = some (⟨"HourPromised", "taken", "(II)I"⟩, prog_1_method_19_code, 3, (some .int), 7, 3, 1) := rfl
theorem k_102_0 : hm_code 102 0 = some (.iload_n 1) := by decide +kernel
theorem k_102_1 : hm_code 102 1 = some (.invokestatic 151) := by decide +kernel
theorem k_102_4 : hm_code 102 4 = some (.ifCond .eq 12) := by decide +kernel
theorem k_102_7 : hm_code 102 7 = some (.iload_n 2) := by decide +kernel
theorem k_102_8 : hm_code 102 8 = some (.iconst 0) := by decide +kernel
theorem k_102_9 : hm_code 102 9 = some (.iconst 5) := by decide +kernel
theorem k_102_10 : hm_code 102 10 = some (.invokestatic 78) := by decide +kernel
theorem k_102_13 : hm_code 102 13 = some (.ifCond .ne 7) := by decide +kernel
theorem k_102_16 : hm_code 102 16 = some (.sipush (-1002)) := by decide +kernel
theorem k_102_19 : hm_code 102 19 = some (.ireturn) := by decide +kernel
theorem k_102_20 : hm_code 102 20 = some (.aload_n 0) := by decide +kernel
theorem k_102_21 : hm_code 102 21 = some (.getfield 26) := by decide +kernel
theorem k_102_24 : hm_code 102 24 = some (.iload_n 1) := by decide +kernel
theorem k_102_25 : hm_code 102 25 = some (.iload_n 2) := by decide +kernel
theorem k_102_26 : hm_code 102 26 = some (.invokevirtual 99) := by decide +kernel
theorem k_102_29 : hm_code 102 29 = some (.ireturn) := by decide +kernel
theorem m_103 : hm_mtab[103]? = some (⟨"HourPromised", "count", "(I)I"⟩, prog_1_method_20_code, 2, (some .int), 7, 2, 1) := rfl
theorem k_103_0 : hm_code 103 0 = some (.iload_n 1) := by decide +kernel
theorem k_103_1 : hm_code 103 1 = some (.tableswitch 132 0 10 #[59, 67, 75, 80, 85, 93, 101, 106, 111, 118, 125]) := by decide +kernel
theorem k_103_60 : hm_code 103 60 = some (.aload_n 0) := by decide +kernel
theorem k_103_61 : hm_code 103 61 = some (.getfield 58) := by decide +kernel
theorem k_103_64 : hm_code 103 64 = some (.invokevirtual 124) := by decide +kernel
theorem k_103_67 : hm_code 103 67 = some (.ireturn) := by decide +kernel
theorem k_103_68 : hm_code 103 68 = some (.aload_n 0) := by decide +kernel
theorem k_103_69 : hm_code 103 69 = some (.getfield 19) := by decide +kernel
theorem k_103_72 : hm_code 103 72 = some (.getfield 195) := by decide +kernel
theorem k_103_75 : hm_code 103 75 = some (.ireturn) := by decide +kernel
theorem k_103_76 : hm_code 103 76 = some (.aload_n 0) := by decide +kernel
theorem k_103_77 : hm_code 103 77 = some (.getfield 62) := by decide +kernel
theorem k_103_80 : hm_code 103 80 = some (.ireturn) := by decide +kernel
theorem k_103_81 : hm_code 103 81 = some (.aload_n 0) := by decide +kernel
theorem k_103_82 : hm_code 103 82 = some (.getfield 66) := by decide +kernel
theorem k_103_85 : hm_code 103 85 = some (.ireturn) := by decide +kernel
theorem k_103_86 : hm_code 103 86 = some (.aload_n 0) := by decide +kernel
theorem k_103_87 : hm_code 103 87 = some (.getfield 33) := by decide +kernel
theorem k_103_90 : hm_code 103 90 = some (.getfield 198) := by decide +kernel
theorem k_103_93 : hm_code 103 93 = some (.ireturn) := by decide +kernel
theorem k_103_94 : hm_code 103 94 = some (.aload_n 0) := by decide +kernel
theorem k_103_95 : hm_code 103 95 = some (.getfield 69) := by decide +kernel
theorem k_103_98 : hm_code 103 98 = some (.invokevirtual 124) := by decide +kernel
theorem k_103_101 : hm_code 103 101 = some (.ireturn) := by decide +kernel
theorem k_103_102 : hm_code 103 102 = some (.aload_n 0) := by decide +kernel
theorem k_103_103 : hm_code 103 103 = some (.invokevirtual 201) := by decide +kernel
theorem k_103_106 : hm_code 103 106 = some (.ireturn) := by decide +kernel
theorem k_103_107 : hm_code 103 107 = some (.aload_n 0) := by decide +kernel
theorem k_103_108 : hm_code 103 108 = some (.getfield 75) := by decide +kernel
theorem k_103_111 : hm_code 103 111 = some (.ireturn) := by decide +kernel
theorem k_103_112 : hm_code 103 112 = some (.aload_n 0) := by decide +kernel
theorem k_103_113 : hm_code 103 113 = some (.getfield 7) := by decide +kernel
theorem k_103_116 : hm_code 103 116 = some (.iconst 0) := by decide +kernel
theorem k_103_117 : hm_code 103 117 = some (.iaload) := by decide +kernel
theorem k_103_118 : hm_code 103 118 = some (.ireturn) := by decide +kernel
theorem k_103_119 : hm_code 103 119 = some (.aload_n 0) := by decide +kernel
theorem k_103_120 : hm_code 103 120 = some (.getfield 7) := by decide +kernel
theorem k_103_123 : hm_code 103 123 = some (.iconst 1) := by decide +kernel
theorem k_103_124 : hm_code 103 124 = some (.iaload) := by decide +kernel
theorem k_103_125 : hm_code 103 125 = some (.ireturn) := by decide +kernel
theorem k_103_126 : hm_code 103 126 = some (.aload_n 0) := by decide +kernel
theorem k_103_127 : hm_code 103 127 = some (.getfield 7) := by decide +kernel
theorem k_103_130 : hm_code 103 130 = some (.iconst 2) := by decide +kernel
theorem k_103_131 : hm_code 103 131 = some (.iaload) := by decide +kernel
theorem k_103_132 : hm_code 103 132 = some (.ireturn) := by decide +kernel
theorem k_103_133 : hm_code 103 133 = some (.sipush (-1002)) := by decide +kernel
theorem k_103_136 : hm_code 103 136 = some (.ireturn) := by decide +kernel
theorem m_104 : hm_mtab[104]? = some (⟨"HourPromised", "trustOfAll", "()I"⟩, prog_1_method_38_code, 3, (some .int), 7, 1, 1) := rfl
theorem k_104_0 : hm_code 104 0 = some (.iconst 0) := by decide +kernel
theorem k_104_1 : hm_code 104 1 = some (.istore_n 1) := by decide +kernel
theorem k_104_2 : hm_code 104 2 = some (.iconst 0) := by decide +kernel
theorem k_104_3 : hm_code 104 3 = some (.istore_n 2) := by decide +kernel
theorem k_104_4 : hm_code 104 4 = some (.iload_n 2) := by decide +kernel
theorem k_104_5 : hm_code 104 5 = some (.aload_n 0) := by decide +kernel
theorem k_104_6 : hm_code 104 6 = some (.getfield 69) := by decide +kernel
theorem k_104_9 : hm_code 104 9 = some (.invokevirtual 124) := by decide +kernel
theorem k_104_12 : hm_code 104 12 = some (.if_icmp .ge 26) := by decide +kernel
theorem k_104_15 : hm_code 104 15 = some (.iload_n 1) := by decide +kernel
theorem k_104_16 : hm_code 104 16 = some (.aload_n 0) := by decide +kernel
theorem k_104_17 : hm_code 104 17 = some (.getfield 69) := by decide +kernel
theorem k_104_20 : hm_code 104 20 = some (.iload_n 2) := by decide +kernel
theorem k_104_21 : hm_code 104 21 = some (.invokevirtual 128) := by decide +kernel
theorem k_104_24 : hm_code 104 24 = some (.checkcast 261) := by decide +kernel
theorem k_104_27 : hm_code 104 27 = some (.getfield 270) := by decide +kernel
theorem k_104_30 : hm_code 104 30 = some (.iadd) := by decide +kernel
theorem k_104_31 : hm_code 104 31 = some (.istore_n 1) := by decide +kernel
theorem k_104_32 : hm_code 104 32 = some (.iinc 2 1) := by decide +kernel
theorem k_104_35 : hm_code 104 35 = some (.goto (-31)) := by decide +kernel
theorem k_104_38 : hm_code 104 38 = some (.iload_n 1) := by decide +kernel
theorem k_104_39 : hm_code 104 39 = some (.ireturn) := by decide +kernel
theorem m_105 : hm_mtab[105]? = some (⟨"HourPromised", "plan", "(I)I"⟩, prog_1_method_30_code, 2, (some .int), 7, 2, 1) := rfl
theorem k_105_0 : hm_code 105 0 = some (.iload_n 1) := by decide +kernel
theorem k_105_1 : hm_code 105 1 = some (.iconst 0) := by decide +kernel
theorem k_105_2 : hm_code 105 2 = some (.ldc_w 260) := by decide +kernel
theorem k_105_5 : hm_code 105 5 = some (.invokestatic 78) := by decide +kernel
theorem k_105_8 : hm_code 105 8 = some (.ifCond .ne 7) := by decide +kernel
theorem k_105_11 : hm_code 105 11 = some (.sipush (-1002)) := by decide +kernel
theorem k_105_14 : hm_code 105 14 = some (.ireturn) := by decide +kernel
theorem k_105_15 : hm_code 105 15 = some (.aload_n 0) := by decide +kernel
theorem k_105_16 : hm_code 105 16 = some (.getfield 69) := by decide +kernel
theorem k_105_19 : hm_code 105 19 = some (.invokevirtual 124) := by decide +kernel
theorem k_105_22 : hm_code 105 22 = some (.bipush 16) := by decide +kernel
theorem k_105_24 : hm_code 105 24 = some (.if_icmp .lt 7) := by decide +kernel
theorem k_105_27 : hm_code 105 27 = some (.sipush (-1004)) := by decide +kernel
theorem k_105_30 : hm_code 105 30 = some (.ireturn) := by decide +kernel
theorem k_105_31 : hm_code 105 31 = some (.aload_n 0) := by decide +kernel
theorem k_105_32 : hm_code 105 32 = some (.getfield 69) := by decide +kernel
theorem k_105_35 : hm_code 105 35 = some (.new 261) := by decide +kernel
theorem k_105_38 : hm_code 105 38 = some (.dup) := by decide +kernel
theorem k_105_39 : hm_code 105 39 = some (.iload_n 1) := by decide +kernel
theorem k_105_40 : hm_code 105 40 = some (.invokespecial 263) := by decide +kernel
theorem k_105_43 : hm_code 105 43 = some (.invokevirtual 157) := by decide +kernel
theorem k_105_46 : hm_code 105 46 = some (.pop) := by decide +kernel
theorem k_105_47 : hm_code 105 47 = some (.aload_n 0) := by decide +kernel
theorem k_105_48 : hm_code 105 48 = some (.getfield 69) := by decide +kernel
theorem k_105_51 : hm_code 105 51 = some (.invokevirtual 124) := by decide +kernel
theorem k_105_54 : hm_code 105 54 = some (.iconst 1) := by decide +kernel
theorem k_105_55 : hm_code 105 55 = some (.isub) := by decide +kernel
theorem k_105_56 : hm_code 105 56 = some (.ireturn) := by decide +kernel
theorem m_106 : hm_mtab[106]? = some (⟨"HourPromised$Plan", "<init>", "(I)V"⟩, prog_7_method_1_code, 2, none, 5, 2, 2) := rfl
theorem k_106_0 : hm_code 106 0 = some (.aload_n 0) := by decide +kernel
theorem k_106_1 : hm_code 106 1 = some (.invokespecial 3) := by decide +kernel
theorem k_106_4 : hm_code 106 4 = some (.aload_n 0) := by decide +kernel
theorem k_106_5 : hm_code 106 5 = some (.iconst 0) := by decide +kernel
theorem k_106_6 : hm_code 106 6 = some (.putfield 9) := by decide +kernel
theorem k_106_9 : hm_code 106 9 = some (.aload_n 0) := by decide +kernel
theorem k_106_10 : hm_code 106 10 = some (.iconst (-1)) := by decide +kernel
theorem k_106_11 : hm_code 106 11 = some (.putfield 15) := by decide +kernel
theorem k_106_14 : hm_code 106 14 = some (.aload_n 0) := by decide +kernel
theorem k_106_15 : hm_code 106 15 = some (.iconst 0) := by decide +kernel
theorem k_106_16 : hm_code 106 16 = some (.putfield 18) := by decide +kernel
theorem k_106_19 : hm_code 106 19 = some (.aload_n 0) := by decide +kernel
theorem k_106_20 : hm_code 106 20 = some (.iconst 0) := by decide +kernel
theorem k_106_21 : hm_code 106 21 = some (.putfield 22) := by decide +kernel
theorem k_106_24 : hm_code 106 24 = some (.aload_n 0) := by decide +kernel
theorem k_106_25 : hm_code 106 25 = some (.iload_n 1) := by decide +kernel
theorem k_106_26 : hm_code 106 26 = some (.putfield 25) := by decide +kernel
theorem k_106_29 : hm_code 106 29 = some (.return_) := by decide +kernel
theorem m_107 : hm_mtab[107]? = some (⟨"HourPromised", "pay", "(II)I"⟩, prog_1_method_31_code, 4, (some .int), 7, 3, 1) := rfl
theorem k_107_0 : hm_code 107 0 = some (.aload_n 0) := by decide +kernel
theorem k_107_1 : hm_code 107 1 = some (.iload_n 1) := by decide +kernel
theorem k_107_2 : hm_code 107 2 = some (.invokevirtual 266) := by decide +kernel
theorem k_107_5 : hm_code 107 5 = some (.astore_n 3) := by decide +kernel
theorem k_107_6 : hm_code 107 6 = some (.aload_n 3) := by decide +kernel
theorem k_107_7 : hm_code 107 7 = some (.ifnonnull 7) := by decide +kernel
theorem k_107_10 : hm_code 107 10 = some (.sipush (-1001)) := by decide +kernel
theorem k_107_13 : hm_code 107 13 = some (.ireturn) := by decide +kernel
theorem k_107_14 : hm_code 107 14 = some (.iload_n 2) := by decide +kernel
theorem k_107_15 : hm_code 107 15 = some (.iconst 1) := by decide +kernel
theorem k_107_16 : hm_code 107 16 = some (.ldc_w 260) := by decide +kernel
theorem k_107_19 : hm_code 107 19 = some (.invokestatic 78) := by decide +kernel
theorem k_107_22 : hm_code 107 22 = some (.ifCond .ne 7) := by decide +kernel
theorem k_107_25 : hm_code 107 25 = some (.sipush (-1002)) := by decide +kernel
theorem k_107_28 : hm_code 107 28 = some (.ireturn) := by decide +kernel
theorem k_107_29 : hm_code 107 29 = some (.aload_n 3) := by decide +kernel
theorem k_107_30 : hm_code 107 30 = some (.getfield 270) := by decide +kernel
theorem k_107_33 : hm_code 107 33 = some (.iload_n 2) := by decide +kernel
theorem k_107_34 : hm_code 107 34 = some (.iadd) := by decide +kernel
theorem k_107_35 : hm_code 107 35 = some (.ldc_w 273) := by decide +kernel
theorem k_107_38 : hm_code 107 38 = some (.if_icmp .le 7) := by decide +kernel
theorem k_107_41 : hm_code 107 41 = some (.sipush (-1003)) := by decide +kernel
theorem k_107_44 : hm_code 107 44 = some (.ireturn) := by decide +kernel
theorem k_107_45 : hm_code 107 45 = some (.aload_n 3) := by decide +kernel
theorem k_107_46 : hm_code 107 46 = some (.dup) := by decide +kernel
theorem k_107_47 : hm_code 107 47 = some (.getfield 270) := by decide +kernel
theorem k_107_50 : hm_code 107 50 = some (.iload_n 2) := by decide +kernel
theorem k_107_51 : hm_code 107 51 = some (.iadd) := by decide +kernel
theorem k_107_52 : hm_code 107 52 = some (.putfield 270) := by decide +kernel
theorem k_107_55 : hm_code 107 55 = some (.aload_n 3) := by decide +kernel
theorem k_107_56 : hm_code 107 56 = some (.getfield 270) := by decide +kernel
theorem k_107_59 : hm_code 107 59 = some (.ireturn) := by decide +kernel
theorem m_108 : hm_mtab[108]? = some (⟨"HourPromised", "planOf", "(I)LHourPromised$Plan;"⟩, prog_1_method_37_code, 2, (some (.object "HourPromised$Plan")), 7, 2, 1) := rfl
theorem k_108_0 : hm_code 108 0 = some (.iload_n 1) := by decide +kernel
theorem k_108_1 : hm_code 108 1 = some (.iconst 0) := by decide +kernel
theorem k_108_2 : hm_code 108 2 = some (.aload_n 0) := by decide +kernel
theorem k_108_3 : hm_code 108 3 = some (.getfield 69) := by decide +kernel
theorem k_108_6 : hm_code 108 6 = some (.invokevirtual 124) := by decide +kernel
theorem k_108_9 : hm_code 108 9 = some (.iconst 1) := by decide +kernel
theorem k_108_10 : hm_code 108 10 = some (.isub) := by decide +kernel
theorem k_108_11 : hm_code 108 11 = some (.invokestatic 78) := by decide +kernel
theorem k_108_14 : hm_code 108 14 = some (.ifCond .eq 17) := by decide +kernel
theorem k_108_17 : hm_code 108 17 = some (.aload_n 0) := by decide +kernel
theorem k_108_18 : hm_code 108 18 = some (.getfield 69) := by decide +kernel
theorem k_108_21 : hm_code 108 21 = some (.iload_n 1) := by decide +kernel
theorem k_108_22 : hm_code 108 22 = some (.invokevirtual 128) := by decide +kernel
theorem k_108_25 : hm_code 108 25 = some (.checkcast 261) := by decide +kernel
theorem k_108_28 : hm_code 108 28 = some (.goto 4) := by decide +kernel
theorem k_108_31 : hm_code 108 31 = some (.aconst_null) := by decide +kernel
theorem k_108_32 : hm_code 108 32 = some (.areturn) := by decide +kernel
theorem m_109 : hm_mtab[109]? = some (⟨"HourPromised", "rate", "(I)I"⟩, prog_1_method_32_code, 3, (some .int), 7, 2, 1) := rfl
theorem k_109_0 : hm_code 109 0 = some (.iload_n 1) := by decide +kernel
theorem k_109_1 : hm_code 109 1 = some (.iconst 0) := by decide +kernel
theorem k_109_2 : hm_code 109 2 = some (.bipush 100) := by decide +kernel
theorem k_109_4 : hm_code 109 4 = some (.invokestatic 78) := by decide +kernel
theorem k_109_7 : hm_code 109 7 = some (.ifCond .ne 7) := by decide +kernel
theorem k_109_10 : hm_code 109 10 = some (.sipush (-1002)) := by decide +kernel
theorem k_109_13 : hm_code 109 13 = some (.ireturn) := by decide +kernel
theorem k_109_14 : hm_code 109 14 = some (.aload_n 0) := by decide +kernel
theorem k_109_15 : hm_code 109 15 = some (.getfield 72) := by decide +kernel
theorem k_109_18 : hm_code 109 18 = some (.istore_n 2) := by decide +kernel
theorem k_109_19 : hm_code 109 19 = some (.aload_n 0) := by decide +kernel
theorem k_109_20 : hm_code 109 20 = some (.iload_n 1) := by decide +kernel
theorem k_109_21 : hm_code 109 21 = some (.putfield 72) := by decide +kernel
theorem k_109_24 : hm_code 109 24 = some (.iload_n 2) := by decide +kernel
theorem k_109_25 : hm_code 109 25 = some (.ireturn) := by decide +kernel
theorem m_110 : hm_mtab[110]? = some (⟨"HourPromised", "days", "(I)I"⟩, prog_1_method_33_code, 3, (some .int), 7, 2, 1) := rfl
theorem k_110_0 : hm_code 110 0 = some (.iload_n 1) := by decide +kernel
theorem k_110_1 : hm_code 110 1 = some (.iconst 0) := by decide +kernel
theorem k_110_2 : hm_code 110 2 = some (.sipush 400) := by decide +kernel
theorem k_110_5 : hm_code 110 5 = some (.invokestatic 78) := by decide +kernel
theorem k_110_8 : hm_code 110 8 = some (.ifCond .ne 7) := by decide +kernel
theorem k_110_11 : hm_code 110 11 = some (.sipush (-1002)) := by decide +kernel
theorem k_110_14 : hm_code 110 14 = some (.ireturn) := by decide +kernel
theorem k_110_15 : hm_code 110 15 = some (.iconst 0) := by decide +kernel
theorem k_110_16 : hm_code 110 16 = some (.istore_n 2) := by decide +kernel
theorem k_110_17 : hm_code 110 17 = some (.iload_n 2) := by decide +kernel
theorem k_110_18 : hm_code 110 18 = some (.aload_n 0) := by decide +kernel
theorem k_110_19 : hm_code 110 19 = some (.getfield 69) := by decide +kernel
theorem k_110_22 : hm_code 110 22 = some (.invokevirtual 124) := by decide +kernel
theorem k_110_25 : hm_code 110 25 = some (.if_icmp .ge 28) := by decide +kernel
theorem k_110_28 : hm_code 110 28 = some (.aload_n 0) := by decide +kernel
theorem k_110_29 : hm_code 110 29 = some (.getfield 69) := by decide +kernel
theorem k_110_32 : hm_code 110 32 = some (.iload_n 2) := by decide +kernel
theorem k_110_33 : hm_code 110 33 = some (.invokevirtual 128) := by decide +kernel
theorem k_110_36 : hm_code 110 36 = some (.checkcast 261) := by decide +kernel
theorem k_110_39 : hm_code 110 39 = some (.iload_n 1) := by decide +kernel
theorem k_110_40 : hm_code 110 40 = some (.aload_n 0) := by decide +kernel
theorem k_110_41 : hm_code 110 41 = some (.getfield 72) := by decide +kernel
theorem k_110_44 : hm_code 110 44 = some (.invokevirtual 274) := by decide +kernel
theorem k_110_47 : hm_code 110 47 = some (.iinc 2 1) := by decide +kernel
theorem k_110_50 : hm_code 110 50 = some (.goto (-33)) := by decide +kernel
theorem k_110_53 : hm_code 110 53 = some (.aload_n 0) := by decide +kernel
theorem k_110_54 : hm_code 110 54 = some (.invokevirtual 201) := by decide +kernel
theorem k_110_57 : hm_code 110 57 = some (.ireturn) := by decide +kernel
theorem m_111 : hm_mtab[111]? = some (⟨"HourPromised$Plan", "grow", "(II)V"⟩, prog_7_method_2_code, 6, none, 5, 3, 1) := rfl
theorem k_111_0 : hm_code 111 0 = some (.iconst 0) := by decide +kernel
theorem k_111_1 : hm_code 111 1 = some (.istore_n 3) := by decide +kernel
theorem k_111_2 : hm_code 111 2 = some (.iload_n 3) := by decide +kernel
theorem k_111_3 : hm_code 111 3 = some (.iload_n 1) := by decide +kernel
theorem k_111_4 : hm_code 111 4 = some (.if_icmp .ge 42) := by decide +kernel
theorem k_111_7 : hm_code 111 7 = some (.aload_n 0) := by decide +kernel
theorem k_111_8 : hm_code 111 8 = some (.getfield 9) := by decide +kernel
theorem k_111_11 : hm_code 111 11 = some (.i2l) := by decide +kernel
theorem k_111_12 : hm_code 111 12 = some (.aload_n 0) := by decide +kernel
theorem k_111_13 : hm_code 111 13 = some (.getfield 9) := by decide +kernel
theorem k_111_16 : hm_code 111 16 = some (.i2l) := by decide +kernel
theorem k_111_17 : hm_code 111 17 = some (.iload_n 2) := by decide +kernel
theorem k_111_18 : hm_code 111 18 = some (.i2l) := by decide +kernel
theorem k_111_19 : hm_code 111 19 = some (.lmul) := by decide +kernel
theorem k_111_20 : hm_code 111 20 = some (.ldc2_w 28) := by decide +kernel
theorem k_111_23 : hm_code 111 23 = some (.ldiv) := by decide +kernel
theorem k_111_24 : hm_code 111 24 = some (.ladd) := by decide +kernel
theorem k_111_25 : hm_code 111 25 = some (.lstore 4) := by decide +kernel
theorem k_111_27 : hm_code 111 27 = some (.aload_n 0) := by decide +kernel
theorem k_111_28 : hm_code 111 28 = some (.lload 4) := by decide +kernel
theorem k_111_30 : hm_code 111 30 = some (.ldc2_w 30) := by decide +kernel
theorem k_111_33 : hm_code 111 33 = some (.invokestatic 32) := by decide +kernel
theorem k_111_36 : hm_code 111 36 = some (.l2i) := by decide +kernel
theorem k_111_37 : hm_code 111 37 = some (.putfield 9) := by decide +kernel
theorem k_111_40 : hm_code 111 40 = some (.iinc 3 1) := by decide +kernel
theorem k_111_43 : hm_code 111 43 = some (.goto (-41)) := by decide +kernel
theorem k_111_46 : hm_code 111 46 = some (.return_) := by decide +kernel
theorem m_112 : hm_mtab[112]? = some (⟨"java/lang/Math", "min", "(JJ)J"⟩, prog_15_method_70_code, 4, (some .long), 14, 2, 0) := rfl
theorem k_112_0 : hm_code 112 0 = some (.lload_n 0) := by decide +kernel
theorem k_112_1 : hm_code 112 1 = some (.lload_n 2) := by decide +kernel
theorem k_112_2 : hm_code 112 2 = some (.lcmp) := by decide +kernel
theorem k_112_3 : hm_code 112 3 = some (.ifCond .gt 7) := by decide +kernel
theorem k_112_6 : hm_code 112 6 = some (.lload_n 0) := by decide +kernel
theorem k_112_7 : hm_code 112 7 = some (.goto 4) := by decide +kernel
theorem k_112_10 : hm_code 112 10 = some (.lload_n 2) := by decide +kernel
theorem k_112_11 : hm_code 112 11 = some (.lreturn) := by decide +kernel
theorem m_113 : hm_mtab[113]? = some (⟨"HourPromised", "tie", "(II)I"⟩, prog_1_method_34_code, 5, (some .int), 7, 3, 1) := rfl
theorem k_113_0 : hm_code 113 0 = some (.aload_n 0) := by decide +kernel
theorem k_113_1 : hm_code 113 1 = some (.iload_n 1) := by decide +kernel
theorem k_113_2 : hm_code 113 2 = some (.invokevirtual 266) := by decide +kernel
theorem k_113_5 : hm_code 113 5 = some (.astore_n 3) := by decide +kernel
theorem k_113_6 : hm_code 113 6 = some (.aload_n 0) := by decide +kernel
theorem k_113_7 : hm_code 113 7 = some (.iload_n 2) := by decide +kernel
theorem k_113_8 : hm_code 113 8 = some (.invokevirtual 161) := by decide +kernel
theorem k_113_11 : hm_code 113 11 = some (.astore 4) := by decide +kernel
theorem k_113_13 : hm_code 113 13 = some (.aload_n 3) := by decide +kernel
theorem k_113_14 : hm_code 113 14 = some (.ifnull 8) := by decide +kernel
theorem k_113_17 : hm_code 113 17 = some (.aload 4) := by decide +kernel
theorem k_113_19 : hm_code 113 19 = some (.ifnonnull 7) := by decide +kernel
theorem k_113_22 : hm_code 113 22 = some (.sipush (-1001)) := by decide +kernel
theorem k_113_25 : hm_code 113 25 = some (.ireturn) := by decide +kernel
theorem k_113_26 : hm_code 113 26 = some (.aload_n 3) := by decide +kernel
theorem k_113_27 : hm_code 113 27 = some (.getfield 277) := by decide +kernel
theorem k_113_30 : hm_code 113 30 = some (.iconst (-1)) := by decide +kernel
theorem k_113_31 : hm_code 113 31 = some (.if_icmp .ne 19) := by decide +kernel
theorem k_113_34 : hm_code 113 34 = some (.aload 4) := by decide +kernel
theorem k_113_36 : hm_code 113 36 = some (.getfield 280) := by decide +kernel
theorem k_113_39 : hm_code 113 39 = some (.iconst (-1)) := by decide +kernel
theorem k_113_40 : hm_code 113 40 = some (.if_icmp .ne 10) := by decide +kernel
theorem k_113_43 : hm_code 113 43 = some (.aload_n 3) := by decide +kernel
theorem k_113_44 : hm_code 113 44 = some (.getfield 283) := by decide +kernel
theorem k_113_47 : hm_code 113 47 = some (.ifCond .eq 7) := by decide +kernel
theorem k_113_50 : hm_code 113 50 = some (.sipush (-1003)) := by decide +kernel
theorem k_113_53 : hm_code 113 53 = some (.ireturn) := by decide +kernel
theorem k_113_54 : hm_code 113 54 = some (.aload_n 3) := by decide +kernel
theorem k_113_55 : hm_code 113 55 = some (.iload_n 2) := by decide +kernel
theorem k_113_56 : hm_code 113 56 = some (.putfield 277) := by decide +kernel
theorem k_113_59 : hm_code 113 59 = some (.aload 4) := by decide +kernel
theorem k_113_61 : hm_code 113 61 = some (.iload_n 1) := by decide +kernel
theorem k_113_62 : hm_code 113 62 = some (.putfield 280) := by decide +kernel
theorem k_113_65 : hm_code 113 65 = some (.iconst 1) := by decide +kernel
theorem k_113_66 : hm_code 113 66 = some (.ireturn) := by decide +kernel
theorem m_114 : hm_mtab[114]? = some (⟨"HourPromised", "settle", "(I)I"⟩, prog_1_method_35_code, 5, (some .int), 7, 2, 1) := rfl
theorem k_114_0 : hm_code 114 0 = some (.aload_n 0) := by decide +kernel
theorem k_114_1 : hm_code 114 1 = some (.iload_n 1) := by decide +kernel
theorem k_114_2 : hm_code 114 2 = some (.invokevirtual 161) := by decide +kernel
theorem k_114_5 : hm_code 114 5 = some (.astore_n 2) := by decide +kernel
theorem k_114_6 : hm_code 114 6 = some (.aload_n 2) := by decide +kernel
theorem k_114_7 : hm_code 114 7 = some (.ifnonnull 7) := by decide +kernel
theorem k_114_10 : hm_code 114 10 = some (.sipush (-1001)) := by decide +kernel
theorem k_114_13 : hm_code 114 13 = some (.ireturn) := by decide +kernel
theorem k_114_14 : hm_code 114 14 = some (.aload_n 2) := by decide +kernel
theorem k_114_15 : hm_code 114 15 = some (.getfield 287) := by decide +kernel
theorem k_114_18 : hm_code 114 18 = some (.ifCond .ne 19) := by decide +kernel
theorem k_114_21 : hm_code 114 21 = some (.aload_n 2) := by decide +kernel
theorem k_114_22 : hm_code 114 22 = some (.iconst 2) := by decide +kernel
theorem k_114_23 : hm_code 114 23 = some (.invokevirtual 176) := by decide +kernel
theorem k_114_26 : hm_code 114 26 = some (.ifCond .ne 15) := by decide +kernel
theorem k_114_29 : hm_code 114 29 = some (.aload_n 2) := by decide +kernel
theorem k_114_30 : hm_code 114 30 = some (.iconst 3) := by decide +kernel
theorem k_114_31 : hm_code 114 31 = some (.invokevirtual 176) := by decide +kernel
theorem k_114_34 : hm_code 114 34 = some (.ifCond .ne 7) := by decide +kernel
theorem k_114_37 : hm_code 114 37 = some (.sipush (-1003)) := by decide +kernel
theorem k_114_40 : hm_code 114 40 = some (.ireturn) := by decide +kernel
theorem k_114_41 : hm_code 114 41 = some (.aload_n 2) := by decide +kernel
theorem k_114_42 : hm_code 114 42 = some (.iconst 1) := by decide +kernel
theorem k_114_43 : hm_code 114 43 = some (.putfield 287) := by decide +kernel
theorem k_114_46 : hm_code 114 46 = some (.aload_n 0) := by decide +kernel
theorem k_114_47 : hm_code 114 47 = some (.aload_n 2) := by decide +kernel
theorem k_114_48 : hm_code 114 48 = some (.getfield 280) := by decide +kernel
theorem k_114_51 : hm_code 114 51 = some (.invokevirtual 266) := by decide +kernel
theorem k_114_54 : hm_code 114 54 = some (.astore_n 3) := by decide +kernel
theorem k_114_55 : hm_code 114 55 = some (.aload_n 3) := by decide +kernel
theorem k_114_56 : hm_code 114 56 = some (.ifnonnull 5) := by decide +kernel
theorem k_114_59 : hm_code 114 59 = some (.iconst 0) := by decide +kernel
theorem k_114_60 : hm_code 114 60 = some (.ireturn) := by decide +kernel
theorem k_114_61 : hm_code 114 61 = some (.aload_n 3) := by decide +kernel
theorem k_114_62 : hm_code 114 62 = some (.invokevirtual 290) := by decide +kernel
theorem k_114_65 : hm_code 114 65 = some (.istore 4) := by decide +kernel
theorem k_114_67 : hm_code 114 67 = some (.aload_n 0) := by decide +kernel
theorem k_114_68 : hm_code 114 68 = some (.dup) := by decide +kernel
theorem k_114_69 : hm_code 114 69 = some (.getfield 75) := by decide +kernel
theorem k_114_72 : hm_code 114 72 = some (.iload 4) := by decide +kernel
theorem k_114_74 : hm_code 114 74 = some (.iadd) := by decide +kernel
theorem k_114_75 : hm_code 114 75 = some (.putfield 75) := by decide +kernel
theorem k_114_78 : hm_code 114 78 = some (.iload 4) := by decide +kernel
theorem k_114_80 : hm_code 114 80 = some (.ireturn) := by decide +kernel
theorem m_115 : hm_mtab[115]? = some (⟨"HourPromised$Plan", "payOut", "()I"⟩, prog_7_method_3_code, 2, (some .int), 5, 1, 1) := rfl
theorem k_115_0 : hm_code 115 0 = some (.aload_n 0) := by decide +kernel
theorem k_115_1 : hm_code 115 1 = some (.getfield 25) := by decide +kernel
theorem k_115_4 : hm_code 115 4 = some (.aload_n 0) := by decide +kernel
theorem k_115_5 : hm_code 115 5 = some (.getfield 9) := by decide +kernel
theorem k_115_8 : hm_code 115 8 = some (.invokestatic 38) := by decide +kernel
theorem k_115_11 : hm_code 115 11 = some (.istore_n 1) := by decide +kernel
theorem k_115_12 : hm_code 115 12 = some (.aload_n 0) := by decide +kernel
theorem k_115_13 : hm_code 115 13 = some (.dup) := by decide +kernel
theorem k_115_14 : hm_code 115 14 = some (.getfield 9) := by decide +kernel
theorem k_115_17 : hm_code 115 17 = some (.iload_n 1) := by decide +kernel
theorem k_115_18 : hm_code 115 18 = some (.isub) := by decide +kernel
theorem k_115_19 : hm_code 115 19 = some (.putfield 9) := by decide +kernel
theorem k_115_22 : hm_code 115 22 = some (.aload_n 0) := by decide +kernel
theorem k_115_23 : hm_code 115 23 = some (.iload_n 1) := by decide +kernel
theorem k_115_24 : hm_code 115 24 = some (.putfield 22) := by decide +kernel
theorem k_115_27 : hm_code 115 27 = some (.aload_n 0) := by decide +kernel
theorem k_115_28 : hm_code 115 28 = some (.iconst 1) := by decide +kernel
theorem k_115_29 : hm_code 115 29 = some (.putfield 18) := by decide +kernel
theorem k_115_32 : hm_code 115 32 = some (.iload_n 1) := by decide +kernel
theorem k_115_33 : hm_code 115 33 = some (.ireturn) := by decide +kernel
theorem m_116 : hm_mtab[116]? = some (⟨"HourPromised", "planned", "(II)I"⟩, prog_1_method_36_code, 4, (some .int), 7, 3, 1) := rfl
theorem k_116_0 : hm_code 116 0 = some (.aload_n 0) := by decide +kernel
theorem k_116_1 : hm_code 116 1 = some (.iload_n 1) := by decide +kernel
theorem k_116_2 : hm_code 116 2 = some (.invokevirtual 266) := by decide +kernel
theorem k_116_5 : hm_code 116 5 = some (.astore_n 3) := by decide +kernel
theorem k_116_6 : hm_code 116 6 = some (.aload_n 3) := by decide +kernel
theorem k_116_7 : hm_code 116 7 = some (.ifnonnull 7) := by decide +kernel
theorem k_116_10 : hm_code 116 10 = some (.sipush (-1001)) := by decide +kernel
theorem k_116_13 : hm_code 116 13 = some (.ireturn) := by decide +kernel
theorem k_116_14 : hm_code 116 14 = some (.iload_n 2) := by decide +kernel
theorem k_116_15 : hm_code 116 15 = some (.tableswitch 49 0 3 #[29, 34, 39, 44]) := by decide +kernel
theorem k_116_44 : hm_code 116 44 = some (.aload_n 3) := by decide +kernel
theorem k_116_45 : hm_code 116 45 = some (.getfield 293) := by decide +kernel
theorem k_116_48 : hm_code 116 48 = some (.ireturn) := by decide +kernel
theorem k_116_49 : hm_code 116 49 = some (.aload_n 3) := by decide +kernel
theorem k_116_50 : hm_code 116 50 = some (.getfield 270) := by decide +kernel
theorem k_116_53 : hm_code 116 53 = some (.ireturn) := by decide +kernel
theorem k_116_54 : hm_code 116 54 = some (.aload_n 3) := by decide +kernel
theorem k_116_55 : hm_code 116 55 = some (.getfield 277) := by decide +kernel
theorem k_116_58 : hm_code 116 58 = some (.ireturn) := by decide +kernel
theorem k_116_59 : hm_code 116 59 = some (.aload_n 3) := by decide +kernel
theorem k_116_60 : hm_code 116 60 = some (.getfield 296) := by decide +kernel
theorem k_116_63 : hm_code 116 63 = some (.ireturn) := by decide +kernel
theorem k_116_64 : hm_code 116 64 = some (.sipush (-1002)) := by decide +kernel
theorem k_116_67 : hm_code 116 67 = some (.ireturn) := by decide +kernel
