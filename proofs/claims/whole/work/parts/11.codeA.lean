theorem m_0 : hm_mtab[0]? = some (⟨"HourPromised", "<init>", "()V"⟩, prog_1_method_1_code, 2, none, 7, 1, 2) := rfl
theorem k_0_0 : hm_code 0 0 = some (.aload_n 0) := by decide +kernel
theorem k_0_1 : hm_code 0 1 = some (.invokespecial 1) := by decide +kernel
theorem k_0_4 : hm_code 0 4 = some (.aload_n 0) := by decide +kernel
theorem k_0_5 : hm_code 0 5 = some (.iconst 3) := by decide +kernel
theorem k_0_6 : hm_code 0 6 = some (.newarray .int) := by decide +kernel
theorem k_0_8 : hm_code 0 8 = some (.dup) := by decide +kernel
theorem k_0_9 : hm_code 0 9 = some (.iconst 0) := by decide +kernel
theorem k_0_10 : hm_code 0 10 = some (.iconst 3) := by decide +kernel
theorem k_0_11 : hm_code 0 11 = some (.iastore) := by decide +kernel
theorem k_0_12 : hm_code 0 12 = some (.dup) := by decide +kernel
theorem k_0_13 : hm_code 0 13 = some (.iconst 1) := by decide +kernel
theorem k_0_14 : hm_code 0 14 = some (.iconst 1) := by decide +kernel
theorem k_0_15 : hm_code 0 15 = some (.iastore) := by decide +kernel
theorem k_0_16 : hm_code 0 16 = some (.dup) := by decide +kernel
theorem k_0_17 : hm_code 0 17 = some (.iconst 2) := by decide +kernel
theorem k_0_18 : hm_code 0 18 = some (.iconst 4) := by decide +kernel
theorem k_0_19 : hm_code 0 19 = some (.iastore) := by decide +kernel
theorem k_0_20 : hm_code 0 20 = some (.putfield 7) := by decide +kernel
theorem k_0_23 : hm_code 0 23 = some (.aload_n 0) := by decide +kernel
theorem k_0_24 : hm_code 0 24 = some (.iconst 3) := by decide +kernel
theorem k_0_25 : hm_code 0 25 = some (.newarray .int) := by decide +kernel
theorem k_0_27 : hm_code 0 27 = some (.dup) := by decide +kernel
theorem k_0_28 : hm_code 0 28 = some (.iconst 0) := by decide +kernel
theorem k_0_29 : hm_code 0 29 = some (.sipush 1023) := by decide +kernel
theorem k_0_32 : hm_code 0 32 = some (.iastore) := by decide +kernel
theorem k_0_33 : hm_code 0 33 = some (.dup) := by decide +kernel
theorem k_0_34 : hm_code 0 34 = some (.iconst 1) := by decide +kernel
theorem k_0_35 : hm_code 0 35 = some (.sipush 1023) := by decide +kernel
theorem k_0_38 : hm_code 0 38 = some (.iastore) := by decide +kernel
theorem k_0_39 : hm_code 0 39 = some (.dup) := by decide +kernel
theorem k_0_40 : hm_code 0 40 = some (.iconst 2) := by decide +kernel
theorem k_0_41 : hm_code 0 41 = some (.sipush 1023) := by decide +kernel
theorem k_0_44 : hm_code 0 44 = some (.iastore) := by decide +kernel
theorem k_0_45 : hm_code 0 45 = some (.putfield 13) := by decide +kernel
theorem k_0_48 : hm_code 0 48 = some (.aload_n 0) := by decide +kernel
theorem k_0_49 : hm_code 0 49 = some (.new 16) := by decide +kernel
theorem k_0_52 : hm_code 0 52 = some (.dup) := by decide +kernel
theorem k_0_53 : hm_code 0 53 = some (.invokespecial 18) := by decide +kernel
theorem k_0_56 : hm_code 0 56 = some (.putfield 19) := by decide +kernel
theorem k_0_59 : hm_code 0 59 = some (.aload_n 0) := by decide +kernel
theorem k_0_60 : hm_code 0 60 = some (.new 23) := by decide +kernel
theorem k_0_63 : hm_code 0 63 = some (.dup) := by decide +kernel
theorem k_0_64 : hm_code 0 64 = some (.invokespecial 25) := by decide +kernel
theorem k_0_67 : hm_code 0 67 = some (.putfield 26) := by decide +kernel
theorem k_0_70 : hm_code 0 70 = some (.aload_n 0) := by decide +kernel
theorem k_0_71 : hm_code 0 71 = some (.new 30) := by decide +kernel
theorem k_0_74 : hm_code 0 74 = some (.dup) := by decide +kernel
theorem k_0_75 : hm_code 0 75 = some (.invokespecial 32) := by decide +kernel
theorem k_0_78 : hm_code 0 78 = some (.putfield 33) := by decide +kernel
theorem k_0_81 : hm_code 0 81 = some (.aload_n 0) := by decide +kernel
theorem k_0_82 : hm_code 0 82 = some (.new 37) := by decide +kernel
theorem k_0_85 : hm_code 0 85 = some (.dup) := by decide +kernel
theorem k_0_86 : hm_code 0 86 = some (.invokespecial 39) := by decide +kernel
theorem k_0_89 : hm_code 0 89 = some (.putfield 40) := by decide +kernel
theorem k_0_92 : hm_code 0 92 = some (.aload_n 0) := by decide +kernel
theorem k_0_93 : hm_code 0 93 = some (.iconst 4) := by decide +kernel
theorem k_0_94 : hm_code 0 94 = some (.anewarray 44) := by decide +kernel
theorem k_0_97 : hm_code 0 97 = some (.putfield 46) := by decide +kernel
theorem k_0_100 : hm_code 0 100 = some (.aload_n 0) := by decide +kernel
theorem k_0_101 : hm_code 0 101 = some (.new 44) := by decide +kernel
theorem k_0_104 : hm_code 0 104 = some (.dup) := by decide +kernel
theorem k_0_105 : hm_code 0 105 = some (.invokespecial 50) := by decide +kernel
theorem k_0_108 : hm_code 0 108 = some (.putfield 51) := by decide +kernel
theorem k_0_111 : hm_code 0 111 = some (.aload_n 0) := by decide +kernel
theorem k_0_112 : hm_code 0 112 = some (.new 55) := by decide +kernel
theorem k_0_115 : hm_code 0 115 = some (.dup) := by decide +kernel
theorem k_0_116 : hm_code 0 116 = some (.invokespecial 57) := by decide +kernel
theorem k_0_119 : hm_code 0 119 = some (.putfield 58) := by decide +kernel
theorem k_0_122 : hm_code 0 122 = some (.aload_n 0) := by decide +kernel
theorem k_0_123 : hm_code 0 123 = some (.iconst 0) := by decide +kernel
theorem k_0_124 : hm_code 0 124 = some (.putfield 62) := by decide +kernel
theorem k_0_127 : hm_code 0 127 = some (.aload_n 0) := by decide +kernel
theorem k_0_128 : hm_code 0 128 = some (.iconst 0) := by decide +kernel
theorem k_0_129 : hm_code 0 129 = some (.putfield 66) := by decide +kernel
theorem k_0_132 : hm_code 0 132 = some (.aload_n 0) := by decide +kernel
theorem k_0_133 : hm_code 0 133 = some (.new 55) := by decide +kernel
theorem k_0_136 : hm_code 0 136 = some (.dup) := by decide +kernel
theorem k_0_137 : hm_code 0 137 = some (.invokespecial 57) := by decide +kernel
theorem k_0_140 : hm_code 0 140 = some (.putfield 69) := by decide +kernel
theorem k_0_143 : hm_code 0 143 = some (.aload_n 0) := by decide +kernel
theorem k_0_144 : hm_code 0 144 = some (.iconst 0) := by decide +kernel
theorem k_0_145 : hm_code 0 145 = some (.putfield 72) := by decide +kernel
theorem k_0_148 : hm_code 0 148 = some (.aload_n 0) := by decide +kernel
theorem k_0_149 : hm_code 0 149 = some (.iconst 0) := by decide +kernel
theorem k_0_150 : hm_code 0 150 = some (.putfield 75) := by decide +kernel
theorem k_0_153 : hm_code 0 153 = some (.iconst 0) := by decide +kernel
theorem k_0_154 : hm_code 0 154 = some (.istore_n 1) := by decide +kernel
theorem k_0_155 : hm_code 0 155 = some (.iload_n 1) := by decide +kernel
theorem k_0_156 : hm_code 0 156 = some (.iconst 4) := by decide +kernel
theorem k_0_157 : hm_code 0 157 = some (.if_icmp .ge 22) := by decide +kernel
theorem k_0_160 : hm_code 0 160 = some (.aload_n 0) := by decide +kernel
theorem k_0_161 : hm_code 0 161 = some (.getfield 46) := by decide +kernel
theorem k_0_164 : hm_code 0 164 = some (.iload_n 1) := by decide +kernel
theorem k_0_165 : hm_code 0 165 = some (.new 44) := by decide +kernel
theorem k_0_168 : hm_code 0 168 = some (.dup) := by decide +kernel
theorem k_0_169 : hm_code 0 169 = some (.invokespecial 50) := by decide +kernel
theorem k_0_172 : hm_code 0 172 = some (.aastore) := by decide +kernel
theorem k_0_173 : hm_code 0 173 = some (.iinc 1 1) := by decide +kernel
theorem k_0_176 : hm_code 0 176 = some (.goto (-21)) := by decide +kernel
theorem k_0_179 : hm_code 0 179 = some (.return_) := by decide +kernel
theorem m_1 : hm_mtab[1]? = some (⟨"java/lang/Object", "<init>", "()V"⟩, object_method_1_code, 1, none, 10, 1, 2) := rfl
theorem k_1_0 : hm_code 1 0 = some (.return_) := by decide +kernel
theorem m_2 : hm_mtab[2]? = some (⟨"HourPromised$Bearers", "<init>", "()V"⟩, prog_2_method_1_code, 1, none, 0, 1, 2) := rfl
theorem k_2_0 : hm_code 2 0 = some (.aload_n 0) := by decide +kernel
theorem k_2_1 : hm_code 2 1 = some (.invokespecial 5) := by decide +kernel
theorem k_2_4 : hm_code 2 4 = some (.aload_n 0) := by decide +kernel
theorem k_2_5 : hm_code 2 5 = some (.bipush 12) := by decide +kernel
theorem k_2_7 : hm_code 2 7 = some (.newarray .int) := by decide +kernel
theorem k_2_9 : hm_code 2 9 = some (.putfield 11) := by decide +kernel
theorem k_2_12 : hm_code 2 12 = some (.aload_n 0) := by decide +kernel
theorem k_2_13 : hm_code 2 13 = some (.iconst 0) := by decide +kernel
theorem k_2_14 : hm_code 2 14 = some (.putfield 15) := by decide +kernel
theorem k_2_17 : hm_code 2 17 = some (.aload_n 0) := by decide +kernel
theorem k_2_18 : hm_code 2 18 = some (.iconst 4) := by decide +kernel
theorem k_2_19 : hm_code 2 19 = some (.newarray .int) := by decide +kernel
theorem k_2_21 : hm_code 2 21 = some (.putfield 19) := by decide +kernel
theorem k_2_24 : hm_code 2 24 = some (.aload_n 0) := by decide +kernel
theorem k_2_25 : hm_code 2 25 = some (.iconst 4) := by decide +kernel
theorem k_2_26 : hm_code 2 26 = some (.newarray .int) := by decide +kernel
theorem k_2_28 : hm_code 2 28 = some (.putfield 22) := by decide +kernel
theorem k_2_31 : hm_code 2 31 = some (.aload_n 0) := by decide +kernel
theorem k_2_32 : hm_code 2 32 = some (.iconst 4) := by decide +kernel
theorem k_2_33 : hm_code 2 33 = some (.newarray .int) := by decide +kernel
theorem k_2_35 : hm_code 2 35 = some (.putfield 25) := by decide +kernel
theorem k_2_38 : hm_code 2 38 = some (.aload_n 0) := by decide +kernel
theorem k_2_39 : hm_code 2 39 = some (.iconst 0) := by decide +kernel
theorem k_2_40 : hm_code 2 40 = some (.putfield 28) := by decide +kernel
theorem k_2_43 : hm_code 2 43 = some (.aload_n 0) := by decide +kernel
theorem k_2_44 : hm_code 2 44 = some (.iconst 4) := by decide +kernel
theorem k_2_45 : hm_code 2 45 = some (.bipush 64) := by decide +kernel
theorem k_2_47 : hm_code 2 47 = some (.multianewarray 31 2) := by decide +kernel
theorem k_2_51 : hm_code 2 51 = some (.putfield 33) := by decide +kernel
theorem k_2_54 : hm_code 2 54 = some (.return_) := by decide +kernel
theorem m_3 : hm_mtab[3]? = some (⟨"HourPromised$Ledger", "<init>", "()V"⟩, prog_6_method_1_code, 1, none, 4, 1, 2) := rfl
theorem k_3_0 : hm_code 3 0 = some (.aload_n 0) := by decide +kernel
theorem k_3_1 : hm_code 3 1 = some (.invokespecial 3) := by decide +kernel
theorem k_3_4 : hm_code 3 4 = some (.aload_n 0) := by decide +kernel
theorem k_3_5 : hm_code 3 5 = some (.bipush 6) := by decide +kernel
theorem k_3_7 : hm_code 3 7 = some (.sipush 400) := by decide +kernel
theorem k_3_10 : hm_code 3 10 = some (.multianewarray 9 2) := by decide +kernel
theorem k_3_14 : hm_code 3 14 = some (.putfield 11) := by decide +kernel
theorem k_3_17 : hm_code 3 17 = some (.return_) := by decide +kernel
theorem m_4 : hm_mtab[4]? = some (⟨"HourPromised$Text", "<init>", "()V"⟩, prog_8_method_1_code, 1, none, 6, 1, 2) := rfl
theorem k_4_0 : hm_code 4 0 = some (.aload_n 0) := by decide +kernel
theorem k_4_1 : hm_code 4 1 = some (.invokespecial 3) := by decide +kernel
theorem k_4_4 : hm_code 4 4 = some (.aload_n 0) := by decide +kernel
theorem k_4_5 : hm_code 4 5 = some (.bipush 100) := by decide +kernel
theorem k_4_7 : hm_code 4 7 = some (.newarray .int) := by decide +kernel
theorem k_4_9 : hm_code 4 9 = some (.putfield 9) := by decide +kernel
theorem k_4_12 : hm_code 4 12 = some (.aload_n 0) := by decide +kernel
theorem k_4_13 : hm_code 4 13 = some (.iconst 0) := by decide +kernel
theorem k_4_14 : hm_code 4 14 = some (.putfield 15) := by decide +kernel
theorem k_4_17 : hm_code 4 17 = some (.return_) := by decide +kernel
theorem m_5 : hm_mtab[5]? = some (⟨"HourPromised$LawReader", "<init>", "()V"⟩, prog_5_method_1_code, 1, none, 3, 1, 2) := rfl
theorem k_5_0 : hm_code 5 0 = some (.aload_n 0) := by decide +kernel
theorem k_5_1 : hm_code 5 1 = some (.invokespecial 3) := by decide +kernel
theorem k_5_4 : hm_code 5 4 = some (.aload_n 0) := by decide +kernel
theorem k_5_5 : hm_code 5 5 = some (.iconst (-1)) := by decide +kernel
theorem k_5_6 : hm_code 5 6 = some (.putfield 9) := by decide +kernel
theorem k_5_9 : hm_code 5 9 = some (.return_) := by decide +kernel
theorem m_6 : hm_mtab[6]? = some (⟨"HourPromised$Law", "<init>", "()V"⟩, prog_4_method_1_code, 1, none, 2, 1, 2) := rfl
theorem k_6_0 : hm_code 6 0 = some (.aload_n 0) := by decide +kernel
theorem k_6_1 : hm_code 6 1 = some (.invokespecial 3) := by decide +kernel
theorem k_6_4 : hm_code 6 4 = some (.aload_n 0) := by decide +kernel
theorem k_6_5 : hm_code 6 5 = some (.iconst 4) := by decide +kernel
theorem k_6_6 : hm_code 6 6 = some (.iconst 5) := by decide +kernel
theorem k_6_7 : hm_code 6 7 = some (.multianewarray 9 2) := by decide +kernel
theorem k_6_11 : hm_code 6 11 = some (.putfield 11) := by decide +kernel
theorem k_6_14 : hm_code 6 14 = some (.aload_n 0) := by decide +kernel
theorem k_6_15 : hm_code 6 15 = some (.invokevirtual 16) := by decide +kernel
theorem k_6_18 : hm_code 6 18 = some (.return_) := by decide +kernel
theorem m_7 : hm_mtab[7]? = some (⟨"HourPromised$Law", "clear", "()V"⟩, prog_4_method_2_code, 2, none, 2, 1, 1) := rfl
theorem k_7_0 : hm_code 7 0 = some (.iconst 0) := by decide +kernel
theorem k_7_1 : hm_code 7 1 = some (.istore_n 1) := by decide +kernel
theorem k_7_2 : hm_code 7 2 = some (.iload_n 1) := by decide +kernel
theorem k_7_3 : hm_code 7 3 = some (.iconst 4) := by decide +kernel
theorem k_7_4 : hm_code 7 4 = some (.if_icmp .ge 37) := by decide +kernel
theorem k_7_7 : hm_code 7 7 = some (.aload_n 0) := by decide +kernel
theorem k_7_8 : hm_code 7 8 = some (.getfield 11) := by decide +kernel
theorem k_7_11 : hm_code 7 11 = some (.iload_n 1) := by decide +kernel
theorem k_7_12 : hm_code 7 12 = some (.aaload) := by decide +kernel
theorem k_7_13 : hm_code 7 13 = some (.iconst 0) := by decide +kernel
theorem k_7_14 : hm_code 7 14 = some (.invokestatic 19) := by decide +kernel
theorem k_7_17 : hm_code 7 17 = some (.aload_n 0) := by decide +kernel
theorem k_7_18 : hm_code 7 18 = some (.getfield 11) := by decide +kernel
theorem k_7_21 : hm_code 7 21 = some (.iload_n 1) := by decide +kernel
theorem k_7_22 : hm_code 7 22 = some (.aaload) := by decide +kernel
theorem k_7_23 : hm_code 7 23 = some (.iconst 1) := by decide +kernel
theorem k_7_24 : hm_code 7 24 = some (.iconst (-1)) := by decide +kernel
theorem k_7_25 : hm_code 7 25 = some (.iastore) := by decide +kernel
theorem k_7_26 : hm_code 7 26 = some (.aload_n 0) := by decide +kernel
theorem k_7_27 : hm_code 7 27 = some (.getfield 11) := by decide +kernel
theorem k_7_30 : hm_code 7 30 = some (.iload_n 1) := by decide +kernel
theorem k_7_31 : hm_code 7 31 = some (.aaload) := by decide +kernel
theorem k_7_32 : hm_code 7 32 = some (.iconst 2) := by decide +kernel
theorem k_7_33 : hm_code 7 33 = some (.iconst (-1)) := by decide +kernel
theorem k_7_34 : hm_code 7 34 = some (.iastore) := by decide +kernel
theorem k_7_35 : hm_code 7 35 = some (.iinc 1 1) := by decide +kernel
theorem k_7_38 : hm_code 7 38 = some (.goto (-36)) := by decide +kernel
theorem k_7_41 : hm_code 7 41 = some (.return_) := by decide +kernel
theorem m_8 : hm_mtab[8]? = some (⟨"java/util/Arrays", "fill", "([II)V"⟩, prog_20_method_103_code, 4, none, 11, 2, 0) := rfl
theorem k_8_0 : hm_code 8 0 = some (.iconst 0) := by decide +kernel
theorem k_8_1 : hm_code 8 1 = some (.istore_n 2) := by decide +kernel
theorem k_8_2 : hm_code 8 2 = some (.aload_n 0) := by decide +kernel
theorem k_8_3 : hm_code 8 3 = some (.arraylength) := by decide +kernel
theorem k_8_4 : hm_code 8 4 = some (.istore_n 3) := by decide +kernel
theorem k_8_5 : hm_code 8 5 = some (.iload_n 2) := by decide +kernel
theorem k_8_6 : hm_code 8 6 = some (.iload_n 3) := by decide +kernel
theorem k_8_7 : hm_code 8 7 = some (.if_icmp .ge 13) := by decide +kernel
theorem k_8_10 : hm_code 8 10 = some (.aload_n 0) := by decide +kernel
theorem k_8_11 : hm_code 8 11 = some (.iload_n 2) := by decide +kernel
theorem k_8_12 : hm_code 8 12 = some (.iload_n 1) := by decide +kernel
theorem k_8_13 : hm_code 8 13 = some (.iastore) := by decide +kernel
theorem k_8_14 : hm_code 8 14 = some (.iinc 2 1) := by decide +kernel
theorem k_8_17 : hm_code 8 17 = some (.goto (-12)) := by decide +kernel
theorem k_8_20 : hm_code 8 20 = some (.return_) := by decide +kernel
theorem m_9 : hm_mtab[9]? = some (⟨"java/util/ArrayList", "<init>", "()V"⟩, prog_19_method_2_code, 1, none, 9, 1, 2) := rfl
theorem k_9_0 : hm_code 9 0 = some (.aload_n 0) := by decide +kernel
theorem k_9_1 : hm_code 9 1 = some (.invokespecial 1) := by decide +kernel
theorem k_9_4 : hm_code 9 4 = some (.aload_n 0) := by decide +kernel
theorem k_9_5 : hm_code 9 5 = some (.getstatic 39) := by decide +kernel
theorem k_9_8 : hm_code 9 8 = some (.putfield 9) := by decide +kernel
theorem k_9_11 : hm_code 9 11 = some (.return_) := by decide +kernel
theorem m_10 : hm_mtab[10]? = some (⟨"java/util/AbstractList", "<init>", "()V"⟩, prog_18_method_1_code, 1, none, 12, 1, 2) := rfl
theorem k_10_0 : hm_code 10 0 = some (.aload_n 0) := by decide +kernel
theorem k_10_1 : hm_code 10 1 = some (.invokespecial 1) := by decide +kernel
theorem k_10_4 : hm_code 10 4 = some (.aload_n 0) := by decide +kernel
theorem k_10_5 : hm_code 10 5 = some (.iconst 0) := by decide +kernel
theorem k_10_6 : hm_code 10 6 = some (.putfield 7) := by decide +kernel
theorem k_10_9 : hm_code 10 9 = some (.return_) := by decide +kernel
theorem m_11 : hm_mtab[11]? = some (⟨"java/util/AbstractCollection", "<init>", "()V"⟩, prog_17_method_1_code, 1, none, 13, 1, 2) := rfl
theorem k_11_0 : hm_code 11 0 = some (.aload_n 0) := by decide +kernel
theorem k_11_1 : hm_code 11 1 = some (.invokespecial 1) := by decide +kernel
theorem k_11_4 : hm_code 11 4 = some (.return_) := by decide +kernel
theorem m_12 : hm_mtab[12]? = some (⟨"HourPromised", "house", "(II)I"⟩, prog_1_method_2_code, 4, (some .int), 7, 3, 1) := rfl
theorem k_12_0 : hm_code 12 0 = some (.iload_n 1) := by decide +kernel
theorem k_12_1 : hm_code 12 1 = some (.iconst 0) := by decide +kernel
theorem k_12_2 : hm_code 12 2 = some (.iconst 2) := by decide +kernel
theorem k_12_3 : hm_code 12 3 = some (.invokestatic 78) := by decide +kernel
theorem k_12_6 : hm_code 12 6 = some (.ifCond .eq 16) := by decide +kernel
theorem k_12_9 : hm_code 12 9 = some (.iload_n 2) := by decide +kernel
theorem k_12_10 : hm_code 12 10 = some (.iconst 0) := by decide +kernel
theorem k_12_11 : hm_code 12 11 = some (.getstatic 82) := by decide +kernel
theorem k_12_14 : hm_code 12 14 = some (.iload_n 1) := by decide +kernel
theorem k_12_15 : hm_code 12 15 = some (.iaload) := by decide +kernel
theorem k_12_16 : hm_code 12 16 = some (.invokestatic 78) := by decide +kernel
theorem k_12_19 : hm_code 12 19 = some (.ifCond .ne 7) := by decide +kernel
theorem k_12_22 : hm_code 12 22 = some (.sipush (-1002)) := by decide +kernel
theorem k_12_25 : hm_code 12 25 = some (.ireturn) := by decide +kernel
theorem k_12_26 : hm_code 12 26 = some (.aload_n 0) := by decide +kernel
theorem k_12_27 : hm_code 12 27 = some (.getfield 26) := by decide +kernel
theorem k_12_30 : hm_code 12 30 = some (.getstatic 85) := by decide +kernel
theorem k_12_33 : hm_code 12 33 = some (.iload_n 1) := by decide +kernel
theorem k_12_34 : hm_code 12 34 = some (.iaload) := by decide +kernel
theorem k_12_35 : hm_code 12 35 = some (.invokevirtual 88) := by decide +kernel
theorem k_12_38 : hm_code 12 38 = some (.iload_n 2) := by decide +kernel
theorem k_12_39 : hm_code 12 39 = some (.if_icmp .le 7) := by decide +kernel
theorem k_12_42 : hm_code 12 42 = some (.sipush (-1003)) := by decide +kernel
theorem k_12_45 : hm_code 12 45 = some (.ireturn) := by decide +kernel
theorem k_12_46 : hm_code 12 46 = some (.aload_n 0) := by decide +kernel
theorem k_12_47 : hm_code 12 47 = some (.getfield 7) := by decide +kernel
theorem k_12_50 : hm_code 12 50 = some (.iload_n 1) := by decide +kernel
theorem k_12_51 : hm_code 12 51 = some (.iaload) := by decide +kernel
theorem k_12_52 : hm_code 12 52 = some (.istore_n 3) := by decide +kernel
theorem k_12_53 : hm_code 12 53 = some (.aload_n 0) := by decide +kernel
theorem k_12_54 : hm_code 12 54 = some (.getfield 7) := by decide +kernel
theorem k_12_57 : hm_code 12 57 = some (.iload_n 1) := by decide +kernel
theorem k_12_58 : hm_code 12 58 = some (.iload_n 2) := by decide +kernel
theorem k_12_59 : hm_code 12 59 = some (.iastore) := by decide +kernel
theorem k_12_60 : hm_code 12 60 = some (.iload_n 3) := by decide +kernel
theorem k_12_61 : hm_code 12 61 = some (.ireturn) := by decide +kernel
theorem m_13 : hm_mtab[13]? = some (⟨"HourPromised", "within", "(III)Z"⟩, prog_1_method_39_code, 3, (some .boolean), 7, 3, 0) := rfl
theorem k_13_0 : hm_code 13 0 = some (.iload_n 0) := by decide +kernel
theorem k_13_1 : hm_code 13 1 = some (.iload_n 1) := by decide +kernel
theorem k_13_2 : hm_code 13 2 = some (.if_icmp .lt 12) := by decide +kernel
theorem k_13_5 : hm_code 13 5 = some (.iload_n 0) := by decide +kernel
theorem k_13_6 : hm_code 13 6 = some (.iload_n 2) := by decide +kernel
theorem k_13_7 : hm_code 13 7 = some (.if_icmp .gt 7) := by decide +kernel
theorem k_13_10 : hm_code 13 10 = some (.iconst 1) := by decide +kernel
theorem k_13_11 : hm_code 13 11 = some (.goto 4) := by decide +kernel
theorem k_13_14 : hm_code 13 14 = some (.iconst 0) := by decide +kernel
theorem k_13_15 : hm_code 13 15 = some (.ireturn) := by decide +kernel
theorem m_14 : hm_mtab[14]? = some (⟨"HourPromised$Ledger", "mostOfAnyHour", "(I)I"⟩, prog_6_method_3_code, 4, (some .int), 4, 2, 1) := rfl
theorem k_14_0 : hm_code 14 0 = some (.iconst 0) := by decide +kernel
theorem k_14_1 : hm_code 14 1 = some (.istore_n 2) := by decide +kernel
theorem k_14_2 : hm_code 14 2 = some (.iconst 0) := by decide +kernel
theorem k_14_3 : hm_code 14 3 = some (.istore_n 3) := by decide +kernel
theorem k_14_4 : hm_code 14 4 = some (.iload_n 3) := by decide +kernel
theorem k_14_5 : hm_code 14 5 = some (.sipush 400) := by decide +kernel
theorem k_14_8 : hm_code 14 8 = some (.if_icmp .ge 22) := by decide +kernel
theorem k_14_11 : hm_code 14 11 = some (.iload_n 2) := by decide +kernel
theorem k_14_12 : hm_code 14 12 = some (.aload_n 0) := by decide +kernel
theorem k_14_13 : hm_code 14 13 = some (.getfield 11) := by decide +kernel
theorem k_14_16 : hm_code 14 16 = some (.iload_n 1) := by decide +kernel
theorem k_14_17 : hm_code 14 17 = some (.aaload) := by decide +kernel
theorem k_14_18 : hm_code 14 18 = some (.iload_n 3) := by decide +kernel
theorem k_14_19 : hm_code 14 19 = some (.iaload) := by decide +kernel
theorem k_14_20 : hm_code 14 20 = some (.invokestatic 16) := by decide +kernel
theorem k_14_23 : hm_code 14 23 = some (.istore_n 2) := by decide +kernel
theorem k_14_24 : hm_code 14 24 = some (.iinc 3 1) := by decide +kernel
theorem k_14_27 : hm_code 14 27 = some (.goto (-23)) := by decide +kernel
theorem k_14_30 : hm_code 14 30 = some (.iload_n 2) := by decide +kernel
theorem k_14_31 : hm_code 14 31 = some (.ireturn) := by decide +kernel
theorem m_15 : hm_mtab[15]? = some (⟨"java/lang/Math", "max", "(II)I"⟩, prog_15_method_65_code, 2, (some .int), 14, 2, 0) := rfl
theorem k_15_0 : hm_code 15 0 = some (.iload_n 0) := by decide +kernel
theorem k_15_1 : hm_code 15 1 = some (.iload_n 1) := by decide +kernel
theorem k_15_2 : hm_code 15 2 = some (.if_icmp .lt 7) := by decide +kernel
theorem k_15_5 : hm_code 15 5 = some (.iload_n 0) := by decide +kernel
theorem k_15_6 : hm_code 15 6 = some (.goto 4) := by decide +kernel
theorem k_15_9 : hm_code 15 9 = some (.iload_n 1) := by decide +kernel
theorem k_15_10 : hm_code 15 10 = some (.ireturn) := by decide +kernel
theorem m_16 : hm_mtab[16]? = some (⟨"HourPromised", "open", "(II)I"⟩, prog_1_method_3_code, 4, (some .int), 7, 3, 1) := rfl
theorem k_16_0 : hm_code 16 0 = some (.iload_n 1) := by decide +kernel
theorem k_16_1 : hm_code 16 1 = some (.iconst 0) := by decide +kernel
theorem k_16_2 : hm_code 16 2 = some (.iconst 2) := by decide +kernel
theorem k_16_3 : hm_code 16 3 = some (.invokestatic 78) := by decide +kernel
theorem k_16_6 : hm_code 16 6 = some (.ifCond .ne 7) := by decide +kernel
theorem k_16_9 : hm_code 16 9 = some (.sipush (-1001)) := by decide +kernel
theorem k_16_12 : hm_code 16 12 = some (.ireturn) := by decide +kernel
theorem k_16_13 : hm_code 16 13 = some (.iload_n 2) := by decide +kernel
theorem k_16_14 : hm_code 16 14 = some (.iconst 0) := by decide +kernel
theorem k_16_15 : hm_code 16 15 = some (.sipush 1023) := by decide +kernel
theorem k_16_18 : hm_code 16 18 = some (.invokestatic 78) := by decide +kernel
theorem k_16_21 : hm_code 16 21 = some (.ifCond .ne 7) := by decide +kernel
theorem k_16_24 : hm_code 16 24 = some (.sipush (-1002)) := by decide +kernel
theorem k_16_27 : hm_code 16 27 = some (.ireturn) := by decide +kernel
theorem k_16_28 : hm_code 16 28 = some (.aload_n 0) := by decide +kernel
theorem k_16_29 : hm_code 16 29 = some (.getfield 13) := by decide +kernel
theorem k_16_32 : hm_code 16 32 = some (.iload_n 1) := by decide +kernel
theorem k_16_33 : hm_code 16 33 = some (.iaload) := by decide +kernel
theorem k_16_34 : hm_code 16 34 = some (.istore_n 3) := by decide +kernel
theorem k_16_35 : hm_code 16 35 = some (.aload_n 0) := by decide +kernel
theorem k_16_36 : hm_code 16 36 = some (.getfield 13) := by decide +kernel
theorem k_16_39 : hm_code 16 39 = some (.iload_n 1) := by decide +kernel
theorem k_16_40 : hm_code 16 40 = some (.iload_n 2) := by decide +kernel
theorem k_16_41 : hm_code 16 41 = some (.iastore) := by decide +kernel
theorem k_16_42 : hm_code 16 42 = some (.aload_n 0) := by decide +kernel
theorem k_16_43 : hm_code 16 43 = some (.invokevirtual 92) := by decide +kernel
theorem k_16_46 : hm_code 16 46 = some (.ifCond .ne 14) := by decide +kernel
theorem k_16_49 : hm_code 16 49 = some (.aload_n 0) := by decide +kernel
theorem k_16_50 : hm_code 16 50 = some (.getfield 13) := by decide +kernel
theorem k_16_53 : hm_code 16 53 = some (.iload_n 1) := by decide +kernel
theorem k_16_54 : hm_code 16 54 = some (.iload_n 3) := by decide +kernel
theorem k_16_55 : hm_code 16 55 = some (.iastore) := by decide +kernel
theorem k_16_56 : hm_code 16 56 = some (.sipush (-1003)) := by decide +kernel
theorem k_16_59 : hm_code 16 59 = some (.ireturn) := by decide +kernel
theorem k_16_60 : hm_code 16 60 = some (.iload_n 3) := by decide +kernel
theorem k_16_61 : hm_code 16 61 = some (.ireturn) := by decide +kernel
theorem m_17 : hm_mtab[17]? = some (⟨"HourPromised", "everyServiceHasChapel", "()Z"⟩, prog_1_method_5_code, 2, (some .boolean), 7, 1, 1) := rfl
theorem k_17_0 : hm_code 17 0 = some (.iconst 0) := by decide +kernel
theorem k_17_1 : hm_code 17 1 = some (.istore_n 1) := by decide +kernel
theorem k_17_2 : hm_code 17 2 = some (.iload_n 1) := by decide +kernel
theorem k_17_3 : hm_code 17 3 = some (.sipush 400) := by decide +kernel
theorem k_17_6 : hm_code 17 6 = some (.if_icmp .ge 28) := by decide +kernel
theorem k_17_9 : hm_code 17 9 = some (.aload_n 0) := by decide +kernel
theorem k_17_10 : hm_code 17 10 = some (.getfield 26) := by decide +kernel
theorem k_17_13 : hm_code 17 13 = some (.iload_n 1) := by decide +kernel
theorem k_17_14 : hm_code 17 14 = some (.iconst 1) := by decide +kernel
theorem k_17_15 : hm_code 17 15 = some (.invokevirtual 99) := by decide +kernel
theorem k_17_18 : hm_code 17 18 = some (.aload_n 0) := by decide +kernel
theorem k_17_19 : hm_code 17 19 = some (.iload_n 1) := by decide +kernel
theorem k_17_20 : hm_code 17 20 = some (.invokevirtual 103) := by decide +kernel
theorem k_17_23 : hm_code 17 23 = some (.if_icmp .le 5) := by decide +kernel
theorem k_17_26 : hm_code 17 26 = some (.iconst 0) := by decide +kernel
theorem k_17_27 : hm_code 17 27 = some (.ireturn) := by decide +kernel
theorem k_17_28 : hm_code 17 28 = some (.iinc 1 1) := by decide +kernel
theorem k_17_31 : hm_code 17 31 = some (.goto (-29)) := by decide +kernel
theorem k_17_34 : hm_code 17 34 = some (.iconst 1) := by decide +kernel
theorem k_17_35 : hm_code 17 35 = some (.ireturn) := by decide +kernel
theorem m_18 : hm_mtab[18]? = some (⟨"HourPromised$Ledger", "takenIn", "(II)I"⟩, prog_6_method_2_code, 3, (some .int), 4, 3, 1) := rfl
theorem k_18_0 : hm_code 18 0 = some (.aload_n 0) := by decide +kernel
theorem k_18_1 : hm_code 18 1 = some (.getfield 11) := by decide +kernel
theorem k_18_4 : hm_code 18 4 = some (.iload_n 2) := by decide +kernel
theorem k_18_5 : hm_code 18 5 = some (.aaload) := by decide +kernel
theorem k_18_6 : hm_code 18 6 = some (.iload_n 1) := by decide +kernel
theorem k_18_7 : hm_code 18 7 = some (.iaload) := by decide +kernel
theorem k_18_8 : hm_code 18 8 = some (.ireturn) := by decide +kernel
theorem m_19 : hm_mtab[19]? = some (⟨"HourPromised", "openChapels", "(I)I"⟩, prog_1_method_6_code, 4, (some .int), 7, 2, 1) := rfl
theorem k_19_0 : hm_code 19 0 = some (.iconst 0) := by decide +kernel
theorem k_19_1 : hm_code 19 1 = some (.istore_n 2) := by decide +kernel
theorem k_19_2 : hm_code 19 2 = some (.iconst 0) := by decide +kernel
theorem k_19_3 : hm_code 19 3 = some (.istore_n 3) := by decide +kernel
theorem k_19_4 : hm_code 19 4 = some (.iload_n 3) := by decide +kernel
theorem k_19_5 : hm_code 19 5 = some (.iconst 3) := by decide +kernel
theorem k_19_6 : hm_code 19 6 = some (.if_icmp .ge 26) := by decide +kernel
theorem k_19_9 : hm_code 19 9 = some (.iload_n 2) := by decide +kernel
theorem k_19_10 : hm_code 19 10 = some (.aload_n 0) := by decide +kernel
theorem k_19_11 : hm_code 19 11 = some (.iload_n 3) := by decide +kernel
theorem k_19_12 : hm_code 19 12 = some (.iload_n 1) := by decide +kernel
theorem k_19_13 : hm_code 19 13 = some (.invokevirtual 106) := by decide +kernel
theorem k_19_16 : hm_code 19 16 = some (.ifCond .eq 7) := by decide +kernel
theorem k_19_19 : hm_code 19 19 = some (.iconst 1) := by decide +kernel
theorem k_19_20 : hm_code 19 20 = some (.goto 4) := by decide +kernel
theorem k_19_23 : hm_code 19 23 = some (.iconst 0) := by decide +kernel
theorem k_19_24 : hm_code 19 24 = some (.iadd) := by decide +kernel
theorem k_19_25 : hm_code 19 25 = some (.istore_n 2) := by decide +kernel
theorem k_19_26 : hm_code 19 26 = some (.iinc 3 1) := by decide +kernel
theorem k_19_29 : hm_code 19 29 = some (.goto (-25)) := by decide +kernel
theorem k_19_32 : hm_code 19 32 = some (.iload_n 2) := by decide +kernel
theorem k_19_33 : hm_code 19 33 = some (.ireturn) := by decide +kernel
theorem m_20 : hm_mtab[20]? = some (⟨"HourPromised", "isOpen", "(II)Z"⟩, prog_1_method_7_code, 3, (some .boolean), 7, 3, 1) := rfl
theorem k_20_0 : hm_code 20 0 = some (.aload_n 0) := by decide +kernel
theorem k_20_1 : hm_code 20 1 = some (.getfield 13) := by decide +kernel
theorem k_20_4 : hm_code 20 4 = some (.iload_n 1) := by decide +kernel
theorem k_20_5 : hm_code 20 5 = some (.iaload) := by decide +kernel
theorem k_20_6 : hm_code 20 6 = some (.iload_n 2) := by decide +kernel
theorem k_20_7 : hm_code 20 7 = some (.bipush 10) := by decide +kernel
theorem k_20_9 : hm_code 20 9 = some (.irem) := by decide +kernel
theorem k_20_10 : hm_code 20 10 = some (.invokestatic 110) := by decide +kernel
theorem k_20_13 : hm_code 20 13 = some (.ireturn) := by decide +kernel
theorem m_21 : hm_mtab[21]? = some (⟨"HourPromised", "has", "(II)Z"⟩, prog_1_method_42_code, 2, (some .boolean), 7, 2, 0) := rfl
theorem k_21_0 : hm_code 21 0 = some (.iload_n 0) := by decide +kernel
theorem k_21_1 : hm_code 21 1 = some (.iload_n 1) := by decide +kernel
theorem k_21_2 : hm_code 21 2 = some (.ishr) := by decide +kernel
theorem k_21_3 : hm_code 21 3 = some (.iconst 1) := by decide +kernel
theorem k_21_4 : hm_code 21 4 = some (.iand) := by decide +kernel
theorem k_21_5 : hm_code 21 5 = some (.iconst 1) := by decide +kernel
theorem k_21_6 : hm_code 21 6 = some (.if_icmp .ne 7) := by decide +kernel
theorem k_21_9 : hm_code 21 9 = some (.iconst 1) := by decide +kernel
theorem k_21_10 : hm_code 21 10 = some (.goto 4) := by decide +kernel
theorem k_21_13 : hm_code 21 13 = some (.iconst 0) := by decide +kernel
theorem k_21_14 : hm_code 21 14 = some (.ireturn) := by decide +kernel
theorem m_22 : hm_mtab[22]? = some (⟨"HourPromised", "bearer", "(I)I"⟩, prog_1_method_4_code, 2, (some .int), 7, 2, 1) := rfl
theorem k_22_0 : hm_code 22 0 = some (.iload_n 1) := by decide +kernel
theorem k_22_1 : hm_code 22 1 = some (.sipush 140) := by decide +kernel
theorem k_22_4 : hm_code 22 4 = some (.sipush 210) := by decide +kernel
theorem k_22_7 : hm_code 22 7 = some (.invokestatic 78) := by decide +kernel
theorem k_22_10 : hm_code 22 10 = some (.ifCond .ne 7) := by decide +kernel
theorem k_22_13 : hm_code 22 13 = some (.sipush (-1002)) := by decide +kernel
theorem k_22_16 : hm_code 22 16 = some (.ireturn) := by decide +kernel
theorem k_22_17 : hm_code 22 17 = some (.aload_n 0) := by decide +kernel
theorem k_22_18 : hm_code 22 18 = some (.getfield 19) := by decide +kernel
theorem k_22_21 : hm_code 22 21 = some (.iload_n 1) := by decide +kernel
theorem k_22_22 : hm_code 22 22 = some (.invokevirtual 96) := by decide +kernel
theorem k_22_25 : hm_code 22 25 = some (.ireturn) := by decide +kernel
theorem m_23 : hm_mtab[23]? = some (⟨"HourPromised$Bearers", "hire", "(I)I"⟩, prog_2_method_2_code, 2, (some .int), 0, 2, 1) := rfl
theorem k_23_0 : hm_code 23 0 = some (.aload_n 0) := by decide +kernel
theorem k_23_1 : hm_code 23 1 = some (.getfield 15) := by decide +kernel
theorem k_23_4 : hm_code 23 4 = some (.bipush 12) := by decide +kernel
theorem k_23_6 : hm_code 23 6 = some (.if_icmp .lt 7) := by decide +kernel
theorem k_23_9 : hm_code 23 9 = some (.sipush (-1004)) := by decide +kernel
theorem k_23_12 : hm_code 23 12 = some (.ireturn) := by decide +kernel
theorem k_23_13 : hm_code 23 13 = some (.aload_n 0) := by decide +kernel
theorem k_23_14 : hm_code 23 14 = some (.getfield 11) := by decide +kernel
theorem k_23_17 : hm_code 23 17 = some (.aload_n 0) := by decide +kernel
theorem k_23_18 : hm_code 23 18 = some (.getfield 15) := by decide +kernel
theorem k_23_21 : hm_code 23 21 = some (.iload_n 1) := by decide +kernel
theorem k_23_22 : hm_code 23 22 = some (.iastore) := by decide +kernel
theorem k_23_23 : hm_code 23 23 = some (.aload_n 0) := by decide +kernel
theorem k_23_24 : hm_code 23 24 = some (.dup) := by decide +kernel
theorem k_23_25 : hm_code 23 25 = some (.getfield 15) := by decide +kernel
theorem k_23_28 : hm_code 23 28 = some (.iconst 1) := by decide +kernel
theorem k_23_29 : hm_code 23 29 = some (.iadd) := by decide +kernel
theorem k_23_30 : hm_code 23 30 = some (.putfield 15) := by decide +kernel
theorem k_23_33 : hm_code 23 33 = some (.aload_n 0) := by decide +kernel
theorem k_23_34 : hm_code 23 34 = some (.getfield 15) := by decide +kernel
theorem k_23_37 : hm_code 23 37 = some (.iconst 1) := by decide +kernel
theorem k_23_38 : hm_code 23 38 = some (.isub) := by decide +kernel
theorem k_23_39 : hm_code 23 39 = some (.ireturn) := by decide +kernel
theorem m_24 : hm_mtab[24]? = some (⟨"HourPromised", "feed", "(IJ)I"⟩, prog_1_method_8_code, 4, (some .int), 7, 3, 1) := rfl
theorem k_24_0 : hm_code 24 0 = some (.iload_n 1) := by decide +kernel
theorem k_24_1 : hm_code 24 1 = some (.iconst 1) := by decide +kernel
theorem k_24_2 : hm_code 24 2 = some (.bipush 8) := by decide +kernel
theorem k_24_4 : hm_code 24 4 = some (.invokestatic 78) := by decide +kernel
theorem k_24_7 : hm_code 24 7 = some (.ifCond .ne 7) := by decide +kernel
theorem k_24_10 : hm_code 24 10 = some (.sipush (-1002)) := by decide +kernel
theorem k_24_13 : hm_code 24 13 = some (.ireturn) := by decide +kernel
theorem k_24_14 : hm_code 24 14 = some (.aload_n 0) := by decide +kernel
theorem k_24_15 : hm_code 24 15 = some (.getfield 33) := by decide +kernel
theorem k_24_18 : hm_code 24 18 = some (.iload_n 1) := by decide +kernel
theorem k_24_19 : hm_code 24 19 = some (.lload_n 2) := by decide +kernel
theorem k_24_20 : hm_code 24 20 = some (.invokevirtual 113) := by decide +kernel
theorem k_24_23 : hm_code 24 23 = some (.ireturn) := by decide +kernel
theorem m_25 : hm_mtab[25]? = some (⟨"HourPromised$Text", "append", "(IJ)I"⟩, prog_8_method_2_code, 5, (some .int), 6, 3, 1) := rfl
theorem k_25_0 : hm_code 25 0 = some (.aload_n 0) := by decide +kernel
theorem k_25_1 : hm_code 25 1 = some (.getfield 15) := by decide +kernel
theorem k_25_4 : hm_code 25 4 = some (.iload_n 1) := by decide +kernel
theorem k_25_5 : hm_code 25 5 = some (.iadd) := by decide +kernel
theorem k_25_6 : hm_code 25 6 = some (.bipush 100) := by decide +kernel
theorem k_25_8 : hm_code 25 8 = some (.if_icmp .le 7) := by decide +kernel
theorem k_25_11 : hm_code 25 11 = some (.sipush (-1004)) := by decide +kernel
theorem k_25_14 : hm_code 25 14 = some (.ireturn) := by decide +kernel
theorem k_25_15 : hm_code 25 15 = some (.iload_n 1) := by decide +kernel
theorem k_25_16 : hm_code 25 16 = some (.iconst 1) := by decide +kernel
theorem k_25_17 : hm_code 25 17 = some (.isub) := by decide +kernel
theorem k_25_18 : hm_code 25 18 = some (.istore 4) := by decide +kernel
theorem k_25_20 : hm_code 25 20 = some (.iload 4) := by decide +kernel
theorem k_25_22 : hm_code 25 22 = some (.ifCond .lt 40) := by decide +kernel
theorem k_25_25 : hm_code 25 25 = some (.aload_n 0) := by decide +kernel
theorem k_25_26 : hm_code 25 26 = some (.getfield 9) := by decide +kernel
theorem k_25_29 : hm_code 25 29 = some (.aload_n 0) := by decide +kernel
theorem k_25_30 : hm_code 25 30 = some (.getfield 15) := by decide +kernel
theorem k_25_33 : hm_code 25 33 = some (.lload_n 2) := by decide +kernel
theorem k_25_34 : hm_code 25 34 = some (.bipush 8) := by decide +kernel
theorem k_25_36 : hm_code 25 36 = some (.iload 4) := by decide +kernel
theorem k_25_38 : hm_code 25 38 = some (.imul) := by decide +kernel
theorem k_25_39 : hm_code 25 39 = some (.lushr) := by decide +kernel
theorem k_25_40 : hm_code 25 40 = some (.l2i) := by decide +kernel
theorem k_25_41 : hm_code 25 41 = some (.sipush 255) := by decide +kernel
theorem k_25_44 : hm_code 25 44 = some (.iand) := by decide +kernel
theorem k_25_45 : hm_code 25 45 = some (.iastore) := by decide +kernel
theorem k_25_46 : hm_code 25 46 = some (.aload_n 0) := by decide +kernel
theorem k_25_47 : hm_code 25 47 = some (.dup) := by decide +kernel
theorem k_25_48 : hm_code 25 48 = some (.getfield 15) := by decide +kernel
theorem k_25_51 : hm_code 25 51 = some (.iconst 1) := by decide +kernel
theorem k_25_52 : hm_code 25 52 = some (.iadd) := by decide +kernel
theorem k_25_53 : hm_code 25 53 = some (.putfield 15) := by decide +kernel
theorem k_25_56 : hm_code 25 56 = some (.iinc 4 (-1)) := by decide +kernel
theorem k_25_59 : hm_code 25 59 = some (.goto (-39)) := by decide +kernel
theorem k_25_62 : hm_code 25 62 = some (.aload_n 0) := by decide +kernel
theorem k_25_63 : hm_code 25 63 = some (.getfield 15) := by decide +kernel
theorem k_25_66 : hm_code 25 66 = some (.ireturn) := by decide +kernel
theorem m_26 : hm_mtab[26]? = some (⟨"HourPromised", "law", "(I)I"⟩, prog_1_method_9_code, 7, (some .int), 7, 2, 1) := rfl
theorem k_26_0 : hm_code 26 0 = some (.iload_n 1) := by decide +kernel
theorem k_26_1 : hm_code 26 1 = some (.iconst 0) := by decide +kernel
theorem k_26_2 : hm_code 26 2 = some (.iconst 3) := by decide +kernel
theorem k_26_3 : hm_code 26 3 = some (.invokestatic 78) := by decide +kernel
theorem k_26_6 : hm_code 26 6 = some (.ifCond .ne 7) := by decide +kernel
theorem k_26_9 : hm_code 26 9 = some (.sipush (-1001)) := by decide +kernel
theorem k_26_12 : hm_code 26 12 = some (.ireturn) := by decide +kernel
theorem k_26_13 : hm_code 26 13 = some (.aload_n 0) := by decide +kernel
theorem k_26_14 : hm_code 26 14 = some (.getfield 40) := by decide +kernel
theorem k_26_17 : hm_code 26 17 = some (.aload_n 0) := by decide +kernel
theorem k_26_18 : hm_code 26 18 = some (.getfield 33) := by decide +kernel
theorem k_26_21 : hm_code 26 21 = some (.aload_n 0) := by decide +kernel
theorem k_26_22 : hm_code 26 22 = some (.getfield 51) := by decide +kernel
theorem k_26_25 : hm_code 26 25 = some (.invokevirtual 117) := by decide +kernel
theorem k_26_28 : hm_code 26 28 = some (.istore_n 2) := by decide +kernel
theorem k_26_29 : hm_code 26 29 = some (.aload_n 0) := by decide +kernel
theorem k_26_30 : hm_code 26 30 = some (.getfield 33) := by decide +kernel
theorem k_26_33 : hm_code 26 33 = some (.invokevirtual 121) := by decide +kernel
theorem k_26_36 : hm_code 26 36 = some (.iload_n 2) := by decide +kernel
theorem k_26_37 : hm_code 26 37 = some (.ifCond .eq 8) := by decide +kernel
theorem k_26_40 : hm_code 26 40 = some (.bipush (-10)) := by decide +kernel
theorem k_26_42 : hm_code 26 42 = some (.iload_n 2) := by decide +kernel
theorem k_26_43 : hm_code 26 43 = some (.isub) := by decide +kernel
theorem k_26_44 : hm_code 26 44 = some (.ireturn) := by decide +kernel
theorem k_26_45 : hm_code 26 45 = some (.aload_n 0) := by decide +kernel
theorem k_26_46 : hm_code 26 46 = some (.getfield 46) := by decide +kernel
theorem k_26_49 : hm_code 26 49 = some (.iload_n 1) := by decide +kernel
theorem k_26_50 : hm_code 26 50 = some (.aaload) := by decide +kernel
theorem k_26_51 : hm_code 26 51 = some (.astore_n 3) := by decide +kernel
theorem k_26_52 : hm_code 26 52 = some (.aload_n 0) := by decide +kernel
theorem k_26_53 : hm_code 26 53 = some (.getfield 46) := by decide +kernel
theorem k_26_56 : hm_code 26 56 = some (.iload_n 1) := by decide +kernel
theorem k_26_57 : hm_code 26 57 = some (.aload_n 0) := by decide +kernel
theorem k_26_58 : hm_code 26 58 = some (.getfield 51) := by decide +kernel
theorem k_26_61 : hm_code 26 61 = some (.aastore) := by decide +kernel
theorem k_26_62 : hm_code 26 62 = some (.aload_n 0) := by decide +kernel
theorem k_26_63 : hm_code 26 63 = some (.aload_n 3) := by decide +kernel
theorem k_26_64 : hm_code 26 64 = some (.putfield 51) := by decide +kernel
theorem k_26_67 : hm_code 26 67 = some (.iconst 0) := by decide +kernel
theorem k_26_68 : hm_code 26 68 = some (.istore 4) := by decide +kernel
theorem k_26_70 : hm_code 26 70 = some (.iconst 0) := by decide +kernel
theorem k_26_71 : hm_code 26 71 = some (.istore 5) := by decide +kernel
theorem k_26_73 : hm_code 26 73 = some (.iload 5) := by decide +kernel
theorem k_26_75 : hm_code 26 75 = some (.aload_n 0) := by decide +kernel
theorem k_26_76 : hm_code 26 76 = some (.getfield 58) := by decide +kernel
theorem k_26_79 : hm_code 26 79 = some (.invokevirtual 124) := by decide +kernel
theorem k_26_82 : hm_code 26 82 = some (.if_icmp .ge 47) := by decide +kernel
theorem k_26_85 : hm_code 26 85 = some (.aload_n 0) := by decide +kernel
theorem k_26_86 : hm_code 26 86 = some (.getfield 58) := by decide +kernel
theorem k_26_89 : hm_code 26 89 = some (.iload 5) := by decide +kernel
theorem k_26_91 : hm_code 26 91 = some (.invokevirtual 128) := by decide +kernel
theorem k_26_94 : hm_code 26 94 = some (.checkcast 132) := by decide +kernel
theorem k_26_97 : hm_code 26 97 = some (.astore 6) := by decide +kernel
theorem k_26_99 : hm_code 26 99 = some (.iload 4) := by decide +kernel
theorem k_26_101 : hm_code 26 101 = some (.aload 6) := by decide +kernel
theorem k_26_103 : hm_code 26 103 = some (.getfield 134) := by decide +kernel
theorem k_26_106 : hm_code 26 106 = some (.iload_n 1) := by decide +kernel
theorem k_26_107 : hm_code 26 107 = some (.if_icmp .ne 12) := by decide +kernel
theorem k_26_110 : hm_code 26 110 = some (.aload_n 0) := by decide +kernel
theorem k_26_111 : hm_code 26 111 = some (.aload 6) := by decide +kernel
theorem k_26_113 : hm_code 26 113 = some (.invokevirtual 137) := by decide +kernel
theorem k_26_116 : hm_code 26 116 = some (.goto 4) := by decide +kernel
theorem k_26_119 : hm_code 26 119 = some (.iconst 0) := by decide +kernel
theorem k_26_120 : hm_code 26 120 = some (.iadd) := by decide +kernel
theorem k_26_121 : hm_code 26 121 = some (.istore 4) := by decide +kernel
theorem k_26_123 : hm_code 26 123 = some (.iinc 5 1) := by decide +kernel
theorem k_26_126 : hm_code 26 126 = some (.goto (-53)) := by decide +kernel
theorem k_26_129 : hm_code 26 129 = some (.iload 4) := by decide +kernel
theorem k_26_131 : hm_code 26 131 = some (.ireturn) := by decide +kernel
theorem m_27 : hm_mtab[27]? = some (⟨"HourPromised$LawReader", "read", "(LHourPromised$Text;LHourPromised$Law;)I"⟩, prog_5_method_2_code, 5, (some .int), 3, 3, 1) := rfl
theorem k_27_0 : hm_code 27 0 = some (.aload_n 2) := by decide +kernel
theorem k_27_1 : hm_code 27 1 = some (.invokevirtual 15) := by decide +kernel
theorem k_27_4 : hm_code 27 4 = some (.aload_n 0) := by decide +kernel
theorem k_27_5 : hm_code 27 5 = some (.iconst 0) := by decide +kernel
theorem k_27_6 : hm_code 27 6 = some (.putfield 20) := by decide +kernel
theorem k_27_9 : hm_code 27 9 = some (.aload_n 0) := by decide +kernel
theorem k_27_10 : hm_code 27 10 = some (.iconst 0) := by decide +kernel
theorem k_27_11 : hm_code 27 11 = some (.putfield 23) := by decide +kernel
theorem k_27_14 : hm_code 27 14 = some (.aload_n 0) := by decide +kernel
theorem k_27_15 : hm_code 27 15 = some (.iconst 0) := by decide +kernel
theorem k_27_16 : hm_code 27 16 = some (.putfield 26) := by decide +kernel
theorem k_27_19 : hm_code 27 19 = some (.aload_n 0) := by decide +kernel
theorem k_27_20 : hm_code 27 20 = some (.iconst (-1)) := by decide +kernel
theorem k_27_21 : hm_code 27 21 = some (.putfield 9) := by decide +kernel
theorem k_27_24 : hm_code 27 24 = some (.iconst 0) := by decide +kernel
theorem k_27_25 : hm_code 27 25 = some (.istore_n 3) := by decide +kernel
theorem k_27_26 : hm_code 27 26 = some (.iload_n 3) := by decide +kernel
theorem k_27_27 : hm_code 27 27 = some (.bipush 100) := by decide +kernel
theorem k_27_29 : hm_code 27 29 = some (.if_icmp .ge 64) := by decide +kernel
theorem k_27_32 : hm_code 27 32 = some (.aload_n 0) := by decide +kernel
theorem k_27_33 : hm_code 27 33 = some (.getfield 26) := by decide +kernel
theorem k_27_36 : hm_code 27 36 = some (.aload_n 1) := by decide +kernel
theorem k_27_37 : hm_code 27 37 = some (.getfield 29) := by decide +kernel
theorem k_27_40 : hm_code 27 40 = some (.if_icmp .ge 53) := by decide +kernel
theorem k_27_43 : hm_code 27 43 = some (.aload_n 1) := by decide +kernel
theorem k_27_44 : hm_code 27 44 = some (.aload_n 0) := by decide +kernel
theorem k_27_45 : hm_code 27 45 = some (.getfield 26) := by decide +kernel
theorem k_27_48 : hm_code 27 48 = some (.invokevirtual 34) := by decide +kernel
theorem k_27_51 : hm_code 27 51 = some (.bipush 32) := by decide +kernel
theorem k_27_53 : hm_code 27 53 = some (.if_icmp .ne 10) := by decide +kernel
theorem k_27_56 : hm_code 27 56 = some (.aload_n 0) := by decide +kernel
theorem k_27_57 : hm_code 27 57 = some (.invokevirtual 38) := by decide +kernel
theorem k_27_60 : hm_code 27 60 = some (.goto 9) := by decide +kernel
theorem k_27_63 : hm_code 27 63 = some (.aload_n 0) := by decide +kernel
theorem k_27_64 : hm_code 27 64 = some (.aload_n 1) := by decide +kernel
theorem k_27_65 : hm_code 27 65 = some (.aload_n 2) := by decide +kernel
theorem k_27_66 : hm_code 27 66 = some (.invokevirtual 42) := by decide +kernel
theorem k_27_69 : hm_code 27 69 = some (.istore 4) := by decide +kernel
theorem k_27_71 : hm_code 27 71 = some (.iload 4) := by decide +kernel
theorem k_27_73 : hm_code 27 73 = some (.ifCond .eq 14) := by decide +kernel
theorem k_27_76 : hm_code 27 76 = some (.aload_n 0) := by decide +kernel
theorem k_27_77 : hm_code 27 77 = some (.aload_n 0) := by decide +kernel
theorem k_27_78 : hm_code 27 78 = some (.getfield 26) := by decide +kernel
theorem k_27_81 : hm_code 27 81 = some (.putfield 9) := by decide +kernel
theorem k_27_84 : hm_code 27 84 = some (.iload 4) := by decide +kernel
theorem k_27_86 : hm_code 27 86 = some (.ireturn) := by decide +kernel
theorem k_27_87 : hm_code 27 87 = some (.iinc 3 1) := by decide +kernel
theorem k_27_90 : hm_code 27 90 = some (.goto (-64)) := by decide +kernel
theorem k_27_93 : hm_code 27 93 = some (.aload_n 0) := by decide +kernel
theorem k_27_94 : hm_code 27 94 = some (.getfield 20) := by decide +kernel
theorem k_27_97 : hm_code 27 97 = some (.ifCond .eq 13) := by decide +kernel
theorem k_27_100 : hm_code 27 100 = some (.aload_n 0) := by decide +kernel
theorem k_27_101 : hm_code 27 101 = some (.aload_n 1) := by decide +kernel
theorem k_27_102 : hm_code 27 102 = some (.getfield 29) := by decide +kernel
theorem k_27_105 : hm_code 27 105 = some (.putfield 9) := by decide +kernel
theorem k_27_108 : hm_code 27 108 = some (.iconst 1) := by decide +kernel
theorem k_27_109 : hm_code 27 109 = some (.ireturn) := by decide +kernel
theorem k_27_110 : hm_code 27 110 = some (.iconst 0) := by decide +kernel
theorem k_27_111 : hm_code 27 111 = some (.ireturn) := by decide +kernel
theorem m_28 : hm_mtab[28]? = some (⟨"HourPromised$Text", "byteAt", "(I)I"⟩, prog_8_method_3_code, 2, (some .int), 6, 2, 1) := rfl
theorem k_28_0 : hm_code 28 0 = some (.iload_n 1) := by decide +kernel
theorem k_28_1 : hm_code 28 1 = some (.ifCond .lt 20) := by decide +kernel
theorem k_28_4 : hm_code 28 4 = some (.iload_n 1) := by decide +kernel
theorem k_28_5 : hm_code 28 5 = some (.aload_n 0) := by decide +kernel
theorem k_28_6 : hm_code 28 6 = some (.getfield 15) := by decide +kernel
theorem k_28_9 : hm_code 28 9 = some (.if_icmp .ge 12) := by decide +kernel
theorem k_28_12 : hm_code 28 12 = some (.aload_n 0) := by decide +kernel
theorem k_28_13 : hm_code 28 13 = some (.getfield 9) := by decide +kernel
theorem k_28_16 : hm_code 28 16 = some (.iload_n 1) := by decide +kernel
theorem k_28_17 : hm_code 28 17 = some (.iaload) := by decide +kernel
theorem k_28_18 : hm_code 28 18 = some (.goto 4) := by decide +kernel
theorem k_28_21 : hm_code 28 21 = some (.iconst (-1)) := by decide +kernel
theorem k_28_22 : hm_code 28 22 = some (.ireturn) := by decide +kernel
theorem m_29 : hm_mtab[29]? = some (⟨"HourPromised$LawReader", "skip", "()I"⟩, prog_5_method_3_code, 1, (some .int), 3, 1, 1) := rfl
theorem k_29_0 : hm_code 29 0 = some (.aload_n 0) := by decide +kernel
theorem k_29_1 : hm_code 29 1 = some (.dup) := by decide +kernel
theorem k_29_2 : hm_code 29 2 = some (.getfield 26) := by decide +kernel
theorem k_29_5 : hm_code 29 5 = some (.iconst 1) := by decide +kernel
theorem k_29_6 : hm_code 29 6 = some (.iadd) := by decide +kernel
theorem k_29_7 : hm_code 29 7 = some (.putfield 26) := by decide +kernel
theorem k_29_10 : hm_code 29 10 = some (.iconst 0) := by decide +kernel
theorem k_29_11 : hm_code 29 11 = some (.ireturn) := by decide +kernel
theorem m_30 : hm_mtab[30]? = some (⟨"HourPromised$LawReader", "readPart", "(LHourPromised$Text;LHourPromised$Law;)I"⟩, prog_5_method_4_code, 3, (some .int), 3, 3, 1) := rfl
theorem k_30_0 : hm_code 30 0 = some (.aload_n 0) := by decide +kernel
theorem k_30_1 : hm_code 30 1 = some (.getfield 20) := by decide +kernel
theorem k_30_4 : hm_code 30 4 = some (.tableswitch 105 0 2 #[28, 44, 67]) := by decide +kernel
theorem k_30_32 : hm_code 30 32 = some (.aload_n 0) := by decide +kernel
theorem k_30_33 : hm_code 30 33 = some (.aload_n 1) := by decide +kernel
theorem k_30_34 : hm_code 30 34 = some (.aload_n 0) := by decide +kernel
theorem k_30_35 : hm_code 30 35 = some (.getfield 26) := by decide +kernel
theorem k_30_38 : hm_code 30 38 = some (.invokevirtual 34) := by decide +kernel
theorem k_30_41 : hm_code 30 41 = some (.invokestatic 46) := by decide +kernel
theorem k_30_44 : hm_code 30 44 = some (.invokevirtual 49) := by decide +kernel
theorem k_30_47 : hm_code 30 47 = some (.ireturn) := by decide +kernel
theorem k_30_48 : hm_code 30 48 = some (.aload_n 1) := by decide +kernel
theorem k_30_49 : hm_code 30 49 = some (.aload_n 0) := by decide +kernel
theorem k_30_50 : hm_code 30 50 = some (.getfield 26) := by decide +kernel
theorem k_30_53 : hm_code 30 53 = some (.invokevirtual 34) := by decide +kernel
theorem k_30_56 : hm_code 30 56 = some (.bipush 58) := by decide +kernel
theorem k_30_58 : hm_code 30 58 = some (.if_icmp .ne 11) := by decide +kernel
theorem k_30_61 : hm_code 30 61 = some (.aload_n 0) := by decide +kernel
theorem k_30_62 : hm_code 30 62 = some (.iconst 2) := by decide +kernel
theorem k_30_63 : hm_code 30 63 = some (.invokevirtual 52) := by decide +kernel
theorem k_30_66 : hm_code 30 66 = some (.goto 4) := by decide +kernel
theorem k_30_69 : hm_code 30 69 = some (.iconst 1) := by decide +kernel
theorem k_30_70 : hm_code 30 70 = some (.ireturn) := by decide +kernel
theorem k_30_71 : hm_code 30 71 = some (.aload_n 1) := by decide +kernel
theorem k_30_72 : hm_code 30 72 = some (.aload_n 0) := by decide +kernel
theorem k_30_73 : hm_code 30 73 = some (.getfield 26) := by decide +kernel
theorem k_30_76 : hm_code 30 76 = some (.invokevirtual 34) := by decide +kernel
theorem k_30_79 : hm_code 30 79 = some (.bipush 59) := by decide +kernel
theorem k_30_81 : hm_code 30 81 = some (.if_icmp .ne 11) := by decide +kernel
theorem k_30_84 : hm_code 30 84 = some (.aload_n 0) := by decide +kernel
theorem k_30_85 : hm_code 30 85 = some (.iconst 0) := by decide +kernel
theorem k_30_86 : hm_code 30 86 = some (.invokevirtual 52) := by decide +kernel
theorem k_30_89 : hm_code 30 89 = some (.goto 19) := by decide +kernel
theorem k_30_92 : hm_code 30 92 = some (.aload_n 0) := by decide +kernel
theorem k_30_93 : hm_code 30 93 = some (.aload_n 1) := by decide +kernel
theorem k_30_94 : hm_code 30 94 = some (.aload_n 0) := by decide +kernel
theorem k_30_95 : hm_code 30 95 = some (.getfield 26) := by decide +kernel
theorem k_30_98 : hm_code 30 98 = some (.invokevirtual 34) := by decide +kernel
theorem k_30_101 : hm_code 30 101 = some (.invokestatic 55) := by decide +kernel
theorem k_30_104 : hm_code 30 104 = some (.aload_n 2) := by decide +kernel
theorem k_30_105 : hm_code 30 105 = some (.invokevirtual 58) := by decide +kernel
theorem k_30_108 : hm_code 30 108 = some (.ireturn) := by decide +kernel
theorem k_30_109 : hm_code 30 109 = some (.aload_n 0) := by decide +kernel
theorem k_30_110 : hm_code 30 110 = some (.aload_n 1) := by decide +kernel
theorem k_30_111 : hm_code 30 111 = some (.aload_n 2) := by decide +kernel
theorem k_30_112 : hm_code 30 112 = some (.invokevirtual 62) := by decide +kernel
theorem k_30_115 : hm_code 30 115 = some (.ireturn) := by decide +kernel
theorem m_31 : hm_mtab[31]? = some (⟨"HourPromised$LawReader", "stepOf", "(I)I"⟩, prog_5_method_10_code, 1, (some .int), 3, 1, 0) := rfl
theorem k_31_0 : hm_code 31 0 = some (.iload_n 0) := by decide +kernel
theorem k_31_1 : hm_code 31 1 = some (.lookupswitch 51 #[(98, 47), (102, 43), (103, 49), (115, 45)]) := by decide +kernel
theorem k_31_44 : hm_code 31 44 = some (.iconst 0) := by decide +kernel
theorem k_31_45 : hm_code 31 45 = some (.ireturn) := by decide +kernel
theorem k_31_46 : hm_code 31 46 = some (.iconst 1) := by decide +kernel
theorem k_31_47 : hm_code 31 47 = some (.ireturn) := by decide +kernel
theorem k_31_48 : hm_code 31 48 = some (.iconst 2) := by decide +kernel
theorem k_31_49 : hm_code 31 49 = some (.ireturn) := by decide +kernel
theorem k_31_50 : hm_code 31 50 = some (.iconst 3) := by decide +kernel
theorem k_31_51 : hm_code 31 51 = some (.ireturn) := by decide +kernel
theorem k_31_52 : hm_code 31 52 = some (.iconst (-1)) := by decide +kernel
theorem k_31_53 : hm_code 31 53 = some (.ireturn) := by decide +kernel
theorem m_32 : hm_mtab[32]? = some (⟨"HourPromised$LawReader", "readClause", "(I)I"⟩, prog_5_method_6_code, 2, (some .int), 3, 2, 1) := rfl
theorem k_32_0 : hm_code 32 0 = some (.iload_n 1) := by decide +kernel
theorem k_32_1 : hm_code 32 1 = some (.iconst (-1)) := by decide +kernel
theorem k_32_2 : hm_code 32 2 = some (.if_icmp .ne 5) := by decide +kernel
theorem k_32_5 : hm_code 32 5 = some (.iconst 1) := by decide +kernel
theorem k_32_6 : hm_code 32 6 = some (.ireturn) := by decide +kernel
theorem k_32_7 : hm_code 32 7 = some (.aload_n 0) := by decide +kernel
theorem k_32_8 : hm_code 32 8 = some (.getfield 23) := by decide +kernel
theorem k_32_11 : hm_code 32 11 = some (.iload_n 1) := by decide +kernel
theorem k_32_12 : hm_code 32 12 = some (.invokestatic 65) := by decide +kernel
theorem k_32_15 : hm_code 32 15 = some (.ifCond .eq 5) := by decide +kernel
theorem k_32_18 : hm_code 32 18 = some (.iconst 3) := by decide +kernel
theorem k_32_19 : hm_code 32 19 = some (.ireturn) := by decide +kernel
theorem k_32_20 : hm_code 32 20 = some (.aload_n 0) := by decide +kernel
theorem k_32_21 : hm_code 32 21 = some (.dup) := by decide +kernel
theorem k_32_22 : hm_code 32 22 = some (.getfield 23) := by decide +kernel
theorem k_32_25 : hm_code 32 25 = some (.iconst 1) := by decide +kernel
theorem k_32_26 : hm_code 32 26 = some (.iload_n 1) := by decide +kernel
theorem k_32_27 : hm_code 32 27 = some (.ishl) := by decide +kernel
theorem k_32_28 : hm_code 32 28 = some (.ior) := by decide +kernel
theorem k_32_29 : hm_code 32 29 = some (.putfield 23) := by decide +kernel
theorem k_32_32 : hm_code 32 32 = some (.aload_n 0) := by decide +kernel
theorem k_32_33 : hm_code 32 33 = some (.iconst 0) := by decide +kernel
theorem k_32_34 : hm_code 32 34 = some (.putfield 69) := by decide +kernel
theorem k_32_37 : hm_code 32 37 = some (.aload_n 0) := by decide +kernel
theorem k_32_38 : hm_code 32 38 = some (.iload_n 1) := by decide +kernel
theorem k_32_39 : hm_code 32 39 = some (.putfield 72) := by decide +kernel
theorem k_32_42 : hm_code 32 42 = some (.aload_n 0) := by decide +kernel
theorem k_32_43 : hm_code 32 43 = some (.iconst 1) := by decide +kernel
theorem k_32_44 : hm_code 32 44 = some (.invokevirtual 52) := by decide +kernel
theorem k_32_47 : hm_code 32 47 = some (.ireturn) := by decide +kernel
theorem m_33 : hm_mtab[33]? = some (⟨"HourPromised$LawReader", "goOn", "(I)I"⟩, prog_5_method_5_code, 2, (some .int), 3, 2, 1) := rfl
theorem k_33_0 : hm_code 33 0 = some (.aload_n 0) := by decide +kernel
theorem k_33_1 : hm_code 33 1 = some (.dup) := by decide +kernel
theorem k_33_2 : hm_code 33 2 = some (.getfield 26) := by decide +kernel
theorem k_33_5 : hm_code 33 5 = some (.iconst 1) := by decide +kernel
theorem k_33_6 : hm_code 33 6 = some (.iadd) := by decide +kernel
theorem k_33_7 : hm_code 33 7 = some (.putfield 26) := by decide +kernel
theorem k_33_10 : hm_code 33 10 = some (.aload_n 0) := by decide +kernel
theorem k_33_11 : hm_code 33 11 = some (.iload_n 1) := by decide +kernel
theorem k_33_12 : hm_code 33 12 = some (.putfield 20) := by decide +kernel
theorem k_33_15 : hm_code 33 15 = some (.iconst 0) := by decide +kernel
theorem k_33_16 : hm_code 33 16 = some (.ireturn) := by decide +kernel
theorem m_34 : hm_mtab[34]? = some (⟨"HourPromised$LawReader", "itemOf", "(I)I"⟩, prog_5_method_11_code, 2, (some .int), 3, 1, 0) := rfl
theorem k_34_0 : hm_code 34 0 = some (.iload_n 0) := by decide +kernel
theorem k_34_1 : hm_code 34 1 = some (.bipush 65) := by decide +kernel
theorem k_34_3 : hm_code 34 3 = some (.if_icmp .lt 14) := by decide +kernel
theorem k_34_6 : hm_code 34 6 = some (.iload_n 0) := by decide +kernel
theorem k_34_7 : hm_code 34 7 = some (.bipush 71) := by decide +kernel
theorem k_34_9 : hm_code 34 9 = some (.if_icmp .ge 8) := by decide +kernel
theorem k_34_12 : hm_code 34 12 = some (.iload_n 0) := by decide +kernel
theorem k_34_13 : hm_code 34 13 = some (.bipush 65) := by decide +kernel
theorem k_34_15 : hm_code 34 15 = some (.isub) := by decide +kernel
theorem k_34_16 : hm_code 34 16 = some (.ireturn) := by decide +kernel
theorem k_34_17 : hm_code 34 17 = some (.iload_n 0) := by decide +kernel
theorem k_34_18 : hm_code 34 18 = some (.lookupswitch 43 #[(33, 40), (60, 34), (62, 37)]) := by decide +kernel
theorem k_34_52 : hm_code 34 52 = some (.bipush 6) := by decide +kernel
theorem k_34_54 : hm_code 34 54 = some (.ireturn) := by decide +kernel
theorem k_34_55 : hm_code 34 55 = some (.bipush 7) := by decide +kernel
theorem k_34_57 : hm_code 34 57 = some (.ireturn) := by decide +kernel
theorem k_34_58 : hm_code 34 58 = some (.bipush 8) := by decide +kernel
theorem k_34_60 : hm_code 34 60 = some (.ireturn) := by decide +kernel
theorem k_34_61 : hm_code 34 61 = some (.iload_n 0) := by decide +kernel
theorem k_34_62 : hm_code 34 62 = some (.invokestatic 46) := by decide +kernel
theorem k_34_65 : hm_code 34 65 = some (.istore_n 1) := by decide +kernel
theorem k_34_66 : hm_code 34 66 = some (.iload_n 1) := by decide +kernel
theorem k_34_67 : hm_code 34 67 = some (.iconst (-1)) := by decide +kernel
theorem k_34_68 : hm_code 34 68 = some (.if_icmp .ne 7) := by decide +kernel
theorem k_34_71 : hm_code 34 71 = some (.iconst (-1)) := by decide +kernel
theorem k_34_72 : hm_code 34 72 = some (.goto 7) := by decide +kernel
theorem k_34_75 : hm_code 34 75 = some (.bipush 9) := by decide +kernel
theorem k_34_77 : hm_code 34 77 = some (.iload_n 1) := by decide +kernel
theorem k_34_78 : hm_code 34 78 = some (.iadd) := by decide +kernel
theorem k_34_79 : hm_code 34 79 = some (.ireturn) := by decide +kernel
theorem m_35 : hm_mtab[35]? = some (⟨"HourPromised$LawReader", "readItem", "(ILHourPromised$Law;)I"⟩, prog_5_method_7_code, 3, (some .int), 3, 3, 1) := rfl
theorem k_35_0 : hm_code 35 0 = some (.iload_n 1) := by decide +kernel
theorem k_35_1 : hm_code 35 1 = some (.iconst (-1)) := by decide +kernel
theorem k_35_2 : hm_code 35 2 = some (.if_icmp .ne 5) := by decide +kernel
theorem k_35_5 : hm_code 35 5 = some (.iconst 1) := by decide +kernel
theorem k_35_6 : hm_code 35 6 = some (.ireturn) := by decide +kernel
theorem k_35_7 : hm_code 35 7 = some (.aload_n 0) := by decide +kernel
theorem k_35_8 : hm_code 35 8 = some (.getfield 69) := by decide +kernel
theorem k_35_11 : hm_code 35 11 = some (.iload_n 1) := by decide +kernel
theorem k_35_12 : hm_code 35 12 = some (.invokestatic 65) := by decide +kernel
theorem k_35_15 : hm_code 35 15 = some (.ifCond .eq 5) := by decide +kernel
theorem k_35_18 : hm_code 35 18 = some (.iconst 4) := by decide +kernel
theorem k_35_19 : hm_code 35 19 = some (.ireturn) := by decide +kernel
theorem k_35_20 : hm_code 35 20 = some (.iload_n 1) := by decide +kernel
theorem k_35_21 : hm_code 35 21 = some (.bipush 9) := by decide +kernel
theorem k_35_23 : hm_code 35 23 = some (.aload_n 0) := by decide +kernel
theorem k_35_24 : hm_code 35 24 = some (.getfield 72) := by decide +kernel
theorem k_35_27 : hm_code 35 27 = some (.iadd) := by decide +kernel
theorem k_35_28 : hm_code 35 28 = some (.if_icmp .ne 5) := by decide +kernel
theorem k_35_31 : hm_code 35 31 = some (.iconst 5) := by decide +kernel
theorem k_35_32 : hm_code 35 32 = some (.ireturn) := by decide +kernel
theorem k_35_33 : hm_code 35 33 = some (.aload_n 0) := by decide +kernel
theorem k_35_34 : hm_code 35 34 = some (.dup) := by decide +kernel
theorem k_35_35 : hm_code 35 35 = some (.getfield 69) := by decide +kernel
theorem k_35_38 : hm_code 35 38 = some (.iconst 1) := by decide +kernel
theorem k_35_39 : hm_code 35 39 = some (.iload_n 1) := by decide +kernel
theorem k_35_40 : hm_code 35 40 = some (.ishl) := by decide +kernel
theorem k_35_41 : hm_code 35 41 = some (.ior) := by decide +kernel
theorem k_35_42 : hm_code 35 42 = some (.putfield 69) := by decide +kernel
theorem k_35_45 : hm_code 35 45 = some (.iload_n 1) := by decide +kernel
theorem k_35_46 : hm_code 35 46 = some (.bipush 6) := by decide +kernel
theorem k_35_48 : hm_code 35 48 = some (.if_icmp .eq 9) := by decide +kernel
theorem k_35_51 : hm_code 35 51 = some (.iload_n 1) := by decide +kernel
theorem k_35_52 : hm_code 35 52 = some (.bipush 7) := by decide +kernel
theorem k_35_54 : hm_code 35 54 = some (.if_icmp .ne 24) := by decide +kernel
theorem k_35_57 : hm_code 35 57 = some (.aload_n 0) := by decide +kernel
theorem k_35_58 : hm_code 35 58 = some (.iload_n 1) := by decide +kernel
theorem k_35_59 : hm_code 35 59 = some (.bipush 6) := by decide +kernel
theorem k_35_61 : hm_code 35 61 = some (.if_icmp .ne 7) := by decide +kernel
theorem k_35_64 : hm_code 35 64 = some (.iconst 1) := by decide +kernel
theorem k_35_65 : hm_code 35 65 = some (.goto 4) := by decide +kernel
theorem k_35_68 : hm_code 35 68 = some (.iconst 2) := by decide +kernel
theorem k_35_69 : hm_code 35 69 = some (.putfield 75) := by decide +kernel
theorem k_35_72 : hm_code 35 72 = some (.aload_n 0) := by decide +kernel
theorem k_35_73 : hm_code 35 73 = some (.iconst 3) := by decide +kernel
theorem k_35_74 : hm_code 35 74 = some (.invokevirtual 52) := by decide +kernel
theorem k_35_77 : hm_code 35 77 = some (.ireturn) := by decide +kernel
theorem k_35_78 : hm_code 35 78 = some (.iload_n 1) := by decide +kernel
theorem k_35_79 : hm_code 35 79 = some (.bipush 8) := by decide +kernel
theorem k_35_81 : hm_code 35 81 = some (.if_icmp .ne 16) := by decide +kernel
theorem k_35_84 : hm_code 35 84 = some (.aload_n 2) := by decide +kernel
theorem k_35_85 : hm_code 35 85 = some (.aload_n 0) := by decide +kernel
theorem k_35_86 : hm_code 35 86 = some (.getfield 72) := by decide +kernel
theorem k_35_89 : hm_code 35 89 = some (.iconst 3) := by decide +kernel
theorem k_35_90 : hm_code 35 90 = some (.iconst 1) := by decide +kernel
theorem k_35_91 : hm_code 35 91 = some (.invokevirtual 78) := by decide +kernel
theorem k_35_94 : hm_code 35 94 = some (.goto 35) := by decide +kernel
theorem k_35_97 : hm_code 35 97 = some (.iload_n 1) := by decide +kernel
theorem k_35_98 : hm_code 35 98 = some (.bipush 6) := by decide +kernel
theorem k_35_100 : hm_code 35 100 = some (.if_icmp .ge 16) := by decide +kernel
theorem k_35_103 : hm_code 35 103 = some (.aload_n 2) := by decide +kernel
theorem k_35_104 : hm_code 35 104 = some (.aload_n 0) := by decide +kernel
theorem k_35_105 : hm_code 35 105 = some (.getfield 72) := by decide +kernel
theorem k_35_108 : hm_code 35 108 = some (.iconst 0) := by decide +kernel
theorem k_35_109 : hm_code 35 109 = some (.iload_n 1) := by decide +kernel
theorem k_35_110 : hm_code 35 110 = some (.invokevirtual 82) := by decide +kernel
theorem k_35_113 : hm_code 35 113 = some (.goto 16) := by decide +kernel
theorem k_35_116 : hm_code 35 116 = some (.aload_n 2) := by decide +kernel
theorem k_35_117 : hm_code 35 117 = some (.aload_n 0) := by decide +kernel
theorem k_35_118 : hm_code 35 118 = some (.getfield 72) := by decide +kernel
theorem k_35_121 : hm_code 35 121 = some (.iconst 4) := by decide +kernel
theorem k_35_122 : hm_code 35 122 = some (.iload_n 1) := by decide +kernel
theorem k_35_123 : hm_code 35 123 = some (.bipush 9) := by decide +kernel
theorem k_35_125 : hm_code 35 125 = some (.isub) := by decide +kernel
theorem k_35_126 : hm_code 35 126 = some (.invokevirtual 82) := by decide +kernel
theorem k_35_129 : hm_code 35 129 = some (.aload_n 0) := by decide +kernel
theorem k_35_130 : hm_code 35 130 = some (.iconst 2) := by decide +kernel
theorem k_35_131 : hm_code 35 131 = some (.invokevirtual 52) := by decide +kernel
theorem k_35_134 : hm_code 35 134 = some (.ireturn) := by decide +kernel
theorem m_36 : hm_mtab[36]? = some (⟨"HourPromised$Law", "put", "(III)V"⟩, prog_4_method_4_code, 4, none, 2, 4, 1) := rfl
theorem k_36_0 : hm_code 36 0 = some (.aload_n 0) := by decide +kernel
theorem k_36_1 : hm_code 36 1 = some (.getfield 11) := by decide +kernel
theorem k_36_4 : hm_code 36 4 = some (.iload_n 1) := by decide +kernel
theorem k_36_5 : hm_code 36 5 = some (.aaload) := by decide +kernel
theorem k_36_6 : hm_code 36 6 = some (.iload_n 2) := by decide +kernel
theorem k_36_7 : hm_code 36 7 = some (.iload_n 3) := by decide +kernel
theorem k_36_8 : hm_code 36 8 = some (.iastore) := by decide +kernel
theorem k_36_9 : hm_code 36 9 = some (.return_) := by decide +kernel
theorem m_37 : hm_mtab[37]? = some (⟨"HourPromised$Law", "addTo", "(III)V"⟩, prog_4_method_5_code, 4, none, 2, 4, 1) := rfl
theorem k_37_0 : hm_code 37 0 = some (.aload_n 0) := by decide +kernel
theorem k_37_1 : hm_code 37 1 = some (.getfield 11) := by decide +kernel
theorem k_37_4 : hm_code 37 4 = some (.iload_n 1) := by decide +kernel
theorem k_37_5 : hm_code 37 5 = some (.aaload) := by decide +kernel
theorem k_37_6 : hm_code 37 6 = some (.iload_n 2) := by decide +kernel
theorem k_37_7 : hm_code 37 7 = some (.dup2) := by decide +kernel
theorem k_37_8 : hm_code 37 8 = some (.iaload) := by decide +kernel
theorem k_37_9 : hm_code 37 9 = some (.iconst 1) := by decide +kernel
theorem k_37_10 : hm_code 37 10 = some (.iload_n 3) := by decide +kernel
theorem k_37_11 : hm_code 37 11 = some (.ishl) := by decide +kernel
theorem k_37_12 : hm_code 37 12 = some (.ior) := by decide +kernel
theorem k_37_13 : hm_code 37 13 = some (.iastore) := by decide +kernel
theorem k_37_14 : hm_code 37 14 = some (.return_) := by decide +kernel
theorem m_38 : hm_mtab[38]? = some (⟨"HourPromised$LawReader", "readNumber", "(LHourPromised$Text;LHourPromised$Law;)I"⟩, prog_5_method_8_code, 5, (some .int), 3, 3, 1) := rfl
theorem k_38_0 : hm_code 38 0 = some (.iconst 0) := by decide +kernel
theorem k_38_1 : hm_code 38 1 = some (.istore_n 3) := by decide +kernel
theorem k_38_2 : hm_code 38 2 = some (.iconst 0) := by decide +kernel
theorem k_38_3 : hm_code 38 3 = some (.istore 4) := by decide +kernel
theorem k_38_5 : hm_code 38 5 = some (.iload 4) := by decide +kernel
theorem k_38_7 : hm_code 38 7 = some (.iconst 3) := by decide +kernel
theorem k_38_8 : hm_code 38 8 = some (.if_icmp .gt 46) := by decide +kernel
theorem k_38_11 : hm_code 38 11 = some (.aload_n 1) := by decide +kernel
theorem k_38_12 : hm_code 38 12 = some (.aload_n 0) := by decide +kernel
theorem k_38_13 : hm_code 38 13 = some (.getfield 26) := by decide +kernel
theorem k_38_16 : hm_code 38 16 = some (.iload 4) := by decide +kernel
theorem k_38_18 : hm_code 38 18 = some (.iadd) := by decide +kernel
theorem k_38_19 : hm_code 38 19 = some (.invokevirtual 34) := by decide +kernel
theorem k_38_22 : hm_code 38 22 = some (.invokestatic 85) := by decide +kernel
theorem k_38_25 : hm_code 38 25 = some (.ifCond .eq 29) := by decide +kernel
theorem k_38_28 : hm_code 38 28 = some (.iload_n 3) := by decide +kernel
theorem k_38_29 : hm_code 38 29 = some (.bipush 10) := by decide +kernel
theorem k_38_31 : hm_code 38 31 = some (.imul) := by decide +kernel
theorem k_38_32 : hm_code 38 32 = some (.aload_n 1) := by decide +kernel
theorem k_38_33 : hm_code 38 33 = some (.aload_n 0) := by decide +kernel
theorem k_38_34 : hm_code 38 34 = some (.getfield 26) := by decide +kernel
theorem k_38_37 : hm_code 38 37 = some (.iload 4) := by decide +kernel
theorem k_38_39 : hm_code 38 39 = some (.iadd) := by decide +kernel
theorem k_38_40 : hm_code 38 40 = some (.invokevirtual 34) := by decide +kernel
theorem k_38_43 : hm_code 38 43 = some (.iadd) := by decide +kernel
theorem k_38_44 : hm_code 38 44 = some (.bipush 48) := by decide +kernel
theorem k_38_46 : hm_code 38 46 = some (.isub) := by decide +kernel
theorem k_38_47 : hm_code 38 47 = some (.istore_n 3) := by decide +kernel
theorem k_38_48 : hm_code 38 48 = some (.iinc 4 1) := by decide +kernel
theorem k_38_51 : hm_code 38 51 = some (.goto (-46)) := by decide +kernel
theorem k_38_54 : hm_code 38 54 = some (.iload 4) := by decide +kernel
theorem k_38_56 : hm_code 38 56 = some (.ifCond .ne 5) := by decide +kernel
theorem k_38_59 : hm_code 38 59 = some (.iconst 1) := by decide +kernel
theorem k_38_60 : hm_code 38 60 = some (.ireturn) := by decide +kernel
theorem k_38_61 : hm_code 38 61 = some (.iload 4) := by decide +kernel
theorem k_38_63 : hm_code 38 63 = some (.iconst 3) := by decide +kernel
theorem k_38_64 : hm_code 38 64 = some (.if_icmp .le 5) := by decide +kernel
theorem k_38_67 : hm_code 38 67 = some (.iconst 2) := by decide +kernel
theorem k_38_68 : hm_code 38 68 = some (.ireturn) := by decide +kernel
theorem k_38_69 : hm_code 38 69 = some (.aload_n 2) := by decide +kernel
theorem k_38_70 : hm_code 38 70 = some (.aload_n 0) := by decide +kernel
theorem k_38_71 : hm_code 38 71 = some (.getfield 72) := by decide +kernel
theorem k_38_74 : hm_code 38 74 = some (.aload_n 0) := by decide +kernel
theorem k_38_75 : hm_code 38 75 = some (.getfield 75) := by decide +kernel
theorem k_38_78 : hm_code 38 78 = some (.iload_n 3) := by decide +kernel
theorem k_38_79 : hm_code 38 79 = some (.invokevirtual 78) := by decide +kernel
theorem k_38_82 : hm_code 38 82 = some (.aload_n 0) := by decide +kernel
theorem k_38_83 : hm_code 38 83 = some (.dup) := by decide +kernel
theorem k_38_84 : hm_code 38 84 = some (.getfield 26) := by decide +kernel
theorem k_38_87 : hm_code 38 87 = some (.iload 4) := by decide +kernel
theorem k_38_89 : hm_code 38 89 = some (.iadd) := by decide +kernel
theorem k_38_90 : hm_code 38 90 = some (.putfield 26) := by decide +kernel
theorem k_38_93 : hm_code 38 93 = some (.aload_n 0) := by decide +kernel
theorem k_38_94 : hm_code 38 94 = some (.iconst 2) := by decide +kernel
theorem k_38_95 : hm_code 38 95 = some (.putfield 20) := by decide +kernel
theorem k_38_98 : hm_code 38 98 = some (.iconst 0) := by decide +kernel
theorem k_38_99 : hm_code 38 99 = some (.ireturn) := by decide +kernel
theorem m_39 : hm_mtab[39]? = some (⟨"HourPromised$LawReader", "isFigure", "(I)Z"⟩, prog_5_method_9_code, 1, (some .boolean), 3, 1, 0) := rfl
theorem k_39_0 : hm_code 39 0 = some (.iload_n 0) := by decide +kernel
theorem k_39_1 : hm_code 39 1 = some (.bipush 48) := by decide +kernel
theorem k_39_3 : hm_code 39 3 = some (.if_icmp .lt 13) := by decide +kernel
theorem k_39_6 : hm_code 39 6 = some (.iload_n 0) := by decide +kernel
theorem k_39_7 : hm_code 39 7 = some (.bipush 57) := by decide +kernel
theorem k_39_9 : hm_code 39 9 = some (.if_icmp .gt 7) := by decide +kernel
theorem k_39_12 : hm_code 39 12 = some (.iconst 1) := by decide +kernel
theorem k_39_13 : hm_code 39 13 = some (.goto 4) := by decide +kernel
theorem k_39_16 : hm_code 39 16 = some (.iconst 0) := by decide +kernel
theorem k_39_17 : hm_code 39 17 = some (.ireturn) := by decide +kernel
theorem m_40 : hm_mtab[40]? = some (⟨"HourPromised$Text", "empty", "()V"⟩, prog_8_method_4_code, 1, none, 6, 1, 1) := rfl
theorem k_40_0 : hm_code 40 0 = some (.aload_n 0) := by decide +kernel
theorem k_40_1 : hm_code 40 1 = some (.iconst 0) := by decide +kernel
theorem k_40_2 : hm_code 40 2 = some (.putfield 15) := by decide +kernel
theorem k_40_5 : hm_code 40 5 = some (.return_) := by decide +kernel
theorem m_41 : hm_mtab[41]? = some (⟨"java/util/ArrayList", "size", "()I"⟩, prog_19_method_8_code, 1, (some .int), 9, 1, 1) := rfl
theorem k_41_0 : hm_code 41 0 = some (.aload_n 0) := by decide +kernel
theorem k_41_1 : hm_code 41 1 = some (.getfield 48) := by decide +kernel
theorem k_41_4 : hm_code 41 4 = some (.ireturn) := by decide +kernel
theorem m_42 : hm_mtab[42]? = some (⟨"java/util/ArrayList", "get", "(I)Ljava/lang/Object;"⟩, prog_19_method_20_code, 2, (some (.object "java/lang/Object")), 9, 2, 1) := rfl
theorem k_42_0 : hm_code 42 0 = some (.iload_n 1) := by decide +kernel
theorem k_42_1 : hm_code 42 1 = some (.aload_n 0) := by decide +kernel
theorem k_42_2 : hm_code 42 2 = some (.getfield 48) := by decide +kernel
theorem k_42_5 : hm_code 42 5 = some (.invokestatic 118) := by decide +kernel
theorem k_42_8 : hm_code 42 8 = some (.pop) := by decide +kernel
theorem k_42_9 : hm_code 42 9 = some (.aload_n 0) := by decide +kernel
theorem k_42_10 : hm_code 42 10 = some (.iload_n 1) := by decide +kernel
theorem k_42_11 : hm_code 42 11 = some (.invokevirtual 123) := by decide +kernel
theorem k_42_14 : hm_code 42 14 = some (.areturn) := by decide +kernel
theorem m_43 : hm_mtab[43]? = some (⟨"java/util/Objects", "checkIndex", "(II)I"⟩, prog_23_method_17_code, 2, (some .int), 15, 2, 0) := rfl
theorem k_43_0 : hm_code 43 0 = some (.iload_n 0) := by decide +kernel
theorem k_43_1 : hm_code 43 1 = some (.iload_n 1) := by decide +kernel
theorem k_43_2 : hm_code 43 2 = some (.aconst_null) := by decide +kernel
theorem k_43_3 : hm_code 43 3 = some (.invokestatic 105) := by decide +kernel
theorem k_43_6 : hm_code 43 6 = some (.ireturn) := by decide +kernel
theorem m_44 : hm_mtab[44]? = some (⟨"jdk/internal/util/Preconditions", "checkIndex", "(IILjava/util/function/BiFunction;)I"⟩, prog_27_method_11_code, 3, (some .int), 16, 3, 0) := rfl
theorem k_44_0 : hm_code 44 0 = some (.iload_n 0) := by decide +kernel
theorem k_44_1 : hm_code 44 1 = some (.ifCond .lt 8) := by decide +kernel
theorem k_44_4 : hm_code 44 4 = some (.iload_n 0) := by decide +kernel
theorem k_44_5 : hm_code 44 5 = some (.iload_n 1) := by decide +kernel
theorem k_44_6 : hm_code 44 6 = some (.if_icmp .lt 10) := by decide +kernel
theorem k_44_9 : hm_code 44 9 = some (.aload_n 2) := by decide +kernel
theorem k_44_10 : hm_code 44 10 = some (.iload_n 0) := by decide +kernel
theorem k_44_11 : hm_code 44 11 = some (.iload_n 1) := by decide +kernel
theorem k_44_12 : hm_code 44 12 = some (.invokestatic 95) := by decide +kernel
theorem k_44_16 : hm_code 44 16 = some (.iload_n 0) := by decide +kernel
theorem k_44_17 : hm_code 44 17 = some (.ireturn) := by decide +kernel
theorem m_45 : hm_mtab[45]? = some (⟨"java/util/ArrayList", "elementData", "(I)Ljava/lang/Object;"⟩, prog_19_method_18_code, 2, (some (.object "java/lang/Object")), 9, 2, 1) := rfl
theorem k_45_0 : hm_code 45 0 = some (.aload_n 0) := by decide +kernel
theorem k_45_1 : hm_code 45 1 = some (.getfield 9) := by decide +kernel
theorem k_45_4 : hm_code 45 4 = some (.iload_n 1) := by decide +kernel
theorem k_45_5 : hm_code 45 5 = some (.aaload) := by decide +kernel
theorem k_45_6 : hm_code 45 6 = some (.areturn) := by decide +kernel
theorem m_46 : hm_mtab[46]? = some (⟨"HourPromised", "undoBroken", "(LHourPromised$CaseFile;)I"⟩, prog_1_method_29_code, 6, (some .int), 7, 2, 1) := rfl
theorem k_46_0 : hm_code 46 0 = some (.aload_n 0) := by decide +kernel
theorem k_46_1 : hm_code 46 1 = some (.getfield 46) := by decide +kernel
theorem k_46_4 : hm_code 46 4 = some (.aload_n 1) := by decide +kernel
theorem k_46_5 : hm_code 46 5 = some (.getfield 134) := by decide +kernel
theorem k_46_8 : hm_code 46 8 = some (.aaload) := by decide +kernel
theorem k_46_9 : hm_code 46 9 = some (.astore_n 2) := by decide +kernel
theorem k_46_10 : hm_code 46 10 = some (.iconst 0) := by decide +kernel
theorem k_46_11 : hm_code 46 11 = some (.istore_n 3) := by decide +kernel
theorem k_46_12 : hm_code 46 12 = some (.iconst 0) := by decide +kernel
theorem k_46_13 : hm_code 46 13 = some (.istore 4) := by decide +kernel
theorem k_46_15 : hm_code 46 15 = some (.iload 4) := by decide +kernel
theorem k_46_17 : hm_code 46 17 = some (.iconst 4) := by decide +kernel
theorem k_46_18 : hm_code 46 18 = some (.if_icmp .ge 35) := by decide +kernel
theorem k_46_21 : hm_code 46 21 = some (.aload_n 1) := by decide +kernel
theorem k_46_22 : hm_code 46 22 = some (.aload_n 2) := by decide +kernel
theorem k_46_23 : hm_code 46 23 = some (.invokevirtual 256) := by decide +kernel
theorem k_46_26 : hm_code 46 26 = some (.istore 5) := by decide +kernel
theorem k_46_28 : hm_code 46 28 = some (.iload 5) := by decide +kernel
theorem k_46_30 : hm_code 46 30 = some (.iconst (-1)) := by decide +kernel
theorem k_46_31 : hm_code 46 31 = some (.if_icmp .ne 6) := by decide +kernel
theorem k_46_34 : hm_code 46 34 = some (.goto 19) := by decide +kernel
theorem k_46_37 : hm_code 46 37 = some (.aload_n 0) := by decide +kernel
theorem k_46_38 : hm_code 46 38 = some (.aload_n 1) := by decide +kernel
theorem k_46_39 : hm_code 46 39 = some (.iload 5) := by decide +kernel
theorem k_46_41 : hm_code 46 41 = some (.invokevirtual 179) := by decide +kernel
theorem k_46_44 : hm_code 46 44 = some (.iinc 3 1) := by decide +kernel
theorem k_46_47 : hm_code 46 47 = some (.iinc 4 1) := by decide +kernel
theorem k_46_50 : hm_code 46 50 = some (.goto (-35)) := by decide +kernel
theorem k_46_53 : hm_code 46 53 = some (.iload_n 3) := by decide +kernel
theorem k_46_54 : hm_code 46 54 = some (.ireturn) := by decide +kernel
theorem m_47 : hm_mtab[47]? = some (⟨"HourPromised$CaseFile", "firstBroken", "(LHourPromised$Law;)I"⟩, prog_3_method_5_code, 3, (some .int), 1, 2, 1) := rfl
theorem k_47_0 : hm_code 47 0 = some (.iconst 0) := by decide +kernel
theorem k_47_1 : hm_code 47 1 = some (.istore_n 2) := by decide +kernel
theorem k_47_2 : hm_code 47 2 = some (.iload_n 2) := by decide +kernel
theorem k_47_3 : hm_code 47 3 = some (.iconst 4) := by decide +kernel
theorem k_47_4 : hm_code 47 4 = some (.if_icmp .ge 34) := by decide +kernel
theorem k_47_7 : hm_code 47 7 = some (.aload_n 0) := by decide +kernel
theorem k_47_8 : hm_code 47 8 = some (.iload_n 2) := by decide +kernel
theorem k_47_9 : hm_code 47 9 = some (.invokevirtual 44) := by decide +kernel
theorem k_47_12 : hm_code 47 12 = some (.ifCond .eq 20) := by decide +kernel
theorem k_47_15 : hm_code 47 15 = some (.aload_n 0) := by decide +kernel
theorem k_47_16 : hm_code 47 16 = some (.aload_n 1) := by decide +kernel
theorem k_47_17 : hm_code 47 17 = some (.iload_n 2) := by decide +kernel
theorem k_47_18 : hm_code 47 18 = some (.aload_n 0) := by decide +kernel
theorem k_47_19 : hm_code 47 19 = some (.getfield 15) := by decide +kernel
theorem k_47_22 : hm_code 47 22 = some (.iload_n 2) := by decide +kernel
theorem k_47_23 : hm_code 47 23 = some (.iaload) := by decide +kernel
theorem k_47_24 : hm_code 47 24 = some (.invokevirtual 54) := by decide +kernel
theorem k_47_27 : hm_code 47 27 = some (.ifCond .eq 5) := by decide +kernel
theorem k_47_30 : hm_code 47 30 = some (.iload_n 2) := by decide +kernel
theorem k_47_31 : hm_code 47 31 = some (.ireturn) := by decide +kernel
theorem k_47_32 : hm_code 47 32 = some (.iinc 2 1) := by decide +kernel
theorem k_47_35 : hm_code 47 35 = some (.goto (-33)) := by decide +kernel
theorem k_47_38 : hm_code 47 38 = some (.iconst (-1)) := by decide +kernel
theorem k_47_39 : hm_code 47 39 = some (.ireturn) := by decide +kernel
theorem m_48 : hm_mtab[48]? = some (⟨"HourPromised$CaseFile", "hasPromised", "(I)Z"⟩, prog_3_method_2_code, 2, (some .boolean), 1, 2, 1) := rfl
theorem k_48_0 : hm_code 48 0 = some (.aload_n 0) := by decide +kernel
theorem k_48_1 : hm_code 48 1 = some (.getfield 15) := by decide +kernel
theorem k_48_4 : hm_code 48 4 = some (.iload_n 1) := by decide +kernel
theorem k_48_5 : hm_code 48 5 = some (.iaload) := by decide +kernel
theorem k_48_6 : hm_code 48 6 = some (.iconst (-1)) := by decide +kernel
theorem k_48_7 : hm_code 48 7 = some (.if_icmp .eq 7) := by decide +kernel
theorem k_48_10 : hm_code 48 10 = some (.iconst 1) := by decide +kernel
theorem k_48_11 : hm_code 48 11 = some (.goto 4) := by decide +kernel
theorem k_48_14 : hm_code 48 14 = some (.iconst 0) := by decide +kernel
theorem k_48_15 : hm_code 48 15 = some (.ireturn) := by decide +kernel
theorem m_49 : hm_mtab[49]? = some (⟨"HourPromised$CaseFile", "hinderedByLaw", "(LHourPromised$Law;II)I"⟩, prog_3_method_6_code, 4, (some .int), 1, 4, 1) := rfl
theorem k_49_0 : hm_code 49 0 = some (.iload_n 3) := by decide +kernel
theorem k_49_1 : hm_code 49 1 = some (.aload_n 0) := by decide +kernel
theorem k_49_2 : hm_code 49 2 = some (.getfield 29) := by decide +kernel
theorem k_49_5 : hm_code 49 5 = some (.if_icmp .gt 5) := by decide +kernel
theorem k_49_8 : hm_code 49 8 = some (.iconst 2) := by decide +kernel
theorem k_49_9 : hm_code 49 9 = some (.ireturn) := by decide +kernel
theorem k_49_10 : hm_code 49 10 = some (.aload_n 1) := by decide +kernel
theorem k_49_11 : hm_code 49 11 = some (.iload_n 2) := by decide +kernel
theorem k_49_12 : hm_code 49 12 = some (.iconst 3) := by decide +kernel
theorem k_49_13 : hm_code 49 13 = some (.invokevirtual 58) := by decide +kernel
theorem k_49_16 : hm_code 49 16 = some (.iconst 1) := by decide +kernel
theorem k_49_17 : hm_code 49 17 = some (.if_icmp .ne 5) := by decide +kernel
theorem k_49_20 : hm_code 49 20 = some (.iconst 3) := by decide +kernel
theorem k_49_21 : hm_code 49 21 = some (.ireturn) := by decide +kernel
theorem k_49_22 : hm_code 49 22 = some (.aload_n 0) := by decide +kernel
theorem k_49_23 : hm_code 49 23 = some (.aload_n 1) := by decide +kernel
theorem k_49_24 : hm_code 49 24 = some (.iload_n 2) := by decide +kernel
theorem k_49_25 : hm_code 49 25 = some (.iconst 0) := by decide +kernel
theorem k_49_26 : hm_code 49 26 = some (.invokevirtual 58) := by decide +kernel
theorem k_49_29 : hm_code 49 29 = some (.iload_n 3) := by decide +kernel
theorem k_49_30 : hm_code 49 30 = some (.invokevirtual 63) := by decide +kernel
theorem k_49_33 : hm_code 49 33 = some (.ifCond .ne 5) := by decide +kernel
theorem k_49_36 : hm_code 49 36 = some (.iconst 4) := by decide +kernel
theorem k_49_37 : hm_code 49 37 = some (.ireturn) := by decide +kernel
theorem k_49_38 : hm_code 49 38 = some (.aload_n 1) := by decide +kernel
theorem k_49_39 : hm_code 49 39 = some (.iload_n 2) := by decide +kernel
theorem k_49_40 : hm_code 49 40 = some (.iload_n 3) := by decide +kernel
theorem k_49_41 : hm_code 49 41 = some (.aload_n 0) := by decide +kernel
theorem k_49_42 : hm_code 49 42 = some (.getfield 29) := by decide +kernel
theorem k_49_45 : hm_code 49 45 = some (.isub) := by decide +kernel
theorem k_49_46 : hm_code 49 46 = some (.invokevirtual 67) := by decide +kernel
theorem k_49_49 : hm_code 49 49 = some (.ifCond .ne 5) := by decide +kernel
theorem k_49_52 : hm_code 49 52 = some (.iconst 5) := by decide +kernel
theorem k_49_53 : hm_code 49 53 = some (.ireturn) := by decide +kernel
theorem k_49_54 : hm_code 49 54 = some (.aload_n 0) := by decide +kernel
theorem k_49_55 : hm_code 49 55 = some (.aload_n 1) := by decide +kernel
theorem k_49_56 : hm_code 49 56 = some (.iload_n 2) := by decide +kernel
theorem k_49_57 : hm_code 49 57 = some (.iconst 4) := by decide +kernel
theorem k_49_58 : hm_code 49 58 = some (.invokevirtual 58) := by decide +kernel
theorem k_49_61 : hm_code 49 61 = some (.iload_n 3) := by decide +kernel
theorem k_49_62 : hm_code 49 62 = some (.invokevirtual 70) := by decide +kernel
theorem k_49_65 : hm_code 49 65 = some (.ifCond .eq 7) := by decide +kernel
theorem k_49_68 : hm_code 49 68 = some (.iconst 0) := by decide +kernel
theorem k_49_69 : hm_code 49 69 = some (.goto 5) := by decide +kernel
theorem k_49_72 : hm_code 49 72 = some (.bipush 6) := by decide +kernel
theorem k_49_74 : hm_code 49 74 = some (.ireturn) := by decide +kernel
theorem m_50 : hm_mtab[50]? = some (⟨"HourPromised$Law", "of", "(II)I"⟩, prog_4_method_3_code, 3, (some .int), 2, 3, 1) := rfl
theorem k_50_0 : hm_code 50 0 = some (.aload_n 0) := by decide +kernel
theorem k_50_1 : hm_code 50 1 = some (.getfield 11) := by decide +kernel
theorem k_50_4 : hm_code 50 4 = some (.iload_n 1) := by decide +kernel
theorem k_50_5 : hm_code 50 5 = some (.aaload) := by decide +kernel
theorem k_50_6 : hm_code 50 6 = some (.iload_n 2) := by decide +kernel
theorem k_50_7 : hm_code 50 7 = some (.iaload) := by decide +kernel
theorem k_50_8 : hm_code 50 8 = some (.ireturn) := by decide +kernel
theorem m_51 : hm_mtab[51]? = some (⟨"HourPromised$CaseFile", "hasPapers", "(II)Z"⟩, prog_3_method_8_code, 4, (some .boolean), 1, 3, 1) := rfl
theorem k_51_0 : hm_code 51 0 = some (.iconst 0) := by decide +kernel
theorem k_51_1 : hm_code 51 1 = some (.istore_n 3) := by decide +kernel
theorem k_51_2 : hm_code 51 2 = some (.iload_n 3) := by decide +kernel
theorem k_51_3 : hm_code 51 3 = some (.bipush 6) := by decide +kernel
theorem k_51_5 : hm_code 51 5 = some (.if_icmp .ge 39) := by decide +kernel
theorem k_51_8 : hm_code 51 8 = some (.iload_n 1) := by decide +kernel
theorem k_51_9 : hm_code 51 9 = some (.iload_n 3) := by decide +kernel
theorem k_51_10 : hm_code 51 10 = some (.invokestatic 80) := by decide +kernel
theorem k_51_13 : hm_code 51 13 = some (.ifCond .eq 25) := by decide +kernel
theorem k_51_16 : hm_code 51 16 = some (.aload_n 0) := by decide +kernel
theorem k_51_17 : hm_code 51 17 = some (.getfield 9) := by decide +kernel
theorem k_51_20 : hm_code 51 20 = some (.iload_n 3) := by decide +kernel
theorem k_51_21 : hm_code 51 21 = some (.iaload) := by decide +kernel
theorem k_51_22 : hm_code 51 22 = some (.iconst (-1)) := by decide +kernel
theorem k_51_23 : hm_code 51 23 = some (.if_icmp .eq 13) := by decide +kernel
theorem k_51_26 : hm_code 51 26 = some (.aload_n 0) := by decide +kernel
theorem k_51_27 : hm_code 51 27 = some (.getfield 9) := by decide +kernel
theorem k_51_30 : hm_code 51 30 = some (.iload_n 3) := by decide +kernel
theorem k_51_31 : hm_code 51 31 = some (.iaload) := by decide +kernel
theorem k_51_32 : hm_code 51 32 = some (.iload_n 2) := by decide +kernel
theorem k_51_33 : hm_code 51 33 = some (.if_icmp .le 5) := by decide +kernel
theorem k_51_36 : hm_code 51 36 = some (.iconst 0) := by decide +kernel
theorem k_51_37 : hm_code 51 37 = some (.ireturn) := by decide +kernel
theorem k_51_38 : hm_code 51 38 = some (.iinc 3 1) := by decide +kernel
theorem k_51_41 : hm_code 51 41 = some (.goto (-39)) := by decide +kernel
theorem k_51_44 : hm_code 51 44 = some (.iconst 1) := by decide +kernel
theorem k_51_45 : hm_code 51 45 = some (.ireturn) := by decide +kernel
theorem m_52 : hm_mtab[52]? = some (⟨"HourPromised$Law", "isWithinBounds", "(II)Z"⟩, prog_4_method_6_code, 5, (some .boolean), 2, 3, 1) := rfl
theorem k_52_0 : hm_code 52 0 = some (.aload_n 0) := by decide +kernel
theorem k_52_1 : hm_code 52 1 = some (.getfield 11) := by decide +kernel
theorem k_52_4 : hm_code 52 4 = some (.iload_n 1) := by decide +kernel
theorem k_52_5 : hm_code 52 5 = some (.aaload) := by decide +kernel
theorem k_52_6 : hm_code 52 6 = some (.iconst 1) := by decide +kernel
theorem k_52_7 : hm_code 52 7 = some (.iaload) := by decide +kernel
theorem k_52_8 : hm_code 52 8 = some (.istore_n 3) := by decide +kernel
theorem k_52_9 : hm_code 52 9 = some (.aload_n 0) := by decide +kernel
theorem k_52_10 : hm_code 52 10 = some (.getfield 11) := by decide +kernel
theorem k_52_13 : hm_code 52 13 = some (.iload_n 1) := by decide +kernel
theorem k_52_14 : hm_code 52 14 = some (.aaload) := by decide +kernel
theorem k_52_15 : hm_code 52 15 = some (.iconst 2) := by decide +kernel
theorem k_52_16 : hm_code 52 16 = some (.iaload) := by decide +kernel
theorem k_52_17 : hm_code 52 17 = some (.istore 4) := by decide +kernel
theorem k_52_19 : hm_code 52 19 = some (.iload_n 3) := by decide +kernel
theorem k_52_20 : hm_code 52 20 = some (.iconst (-1)) := by decide +kernel
theorem k_52_21 : hm_code 52 21 = some (.if_icmp .eq 8) := by decide +kernel
theorem k_52_24 : hm_code 52 24 = some (.iload_n 2) := by decide +kernel
theorem k_52_25 : hm_code 52 25 = some (.iload_n 3) := by decide +kernel
theorem k_52_26 : hm_code 52 26 = some (.if_icmp .gt 19) := by decide +kernel
theorem k_52_29 : hm_code 52 29 = some (.iload 4) := by decide +kernel
theorem k_52_31 : hm_code 52 31 = some (.iconst (-1)) := by decide +kernel
theorem k_52_32 : hm_code 52 32 = some (.if_icmp .eq 9) := by decide +kernel
theorem k_52_35 : hm_code 52 35 = some (.iload_n 2) := by decide +kernel
theorem k_52_36 : hm_code 52 36 = some (.iload 4) := by decide +kernel
theorem k_52_38 : hm_code 52 38 = some (.if_icmp .lt 7) := by decide +kernel
theorem k_52_41 : hm_code 52 41 = some (.iconst 1) := by decide +kernel
theorem k_52_42 : hm_code 52 42 = some (.goto 4) := by decide +kernel
theorem k_52_45 : hm_code 52 45 = some (.iconst 0) := by decide +kernel
theorem k_52_46 : hm_code 52 46 = some (.ireturn) := by decide +kernel
theorem m_53 : hm_mtab[53]? = some (⟨"HourPromised$CaseFile", "hasStepsAhead", "(II)Z"⟩, prog_3_method_9_code, 4, (some .boolean), 1, 3, 1) := rfl
theorem k_53_0 : hm_code 53 0 = some (.iconst 0) := by decide +kernel
theorem k_53_1 : hm_code 53 1 = some (.istore_n 3) := by decide +kernel
theorem k_53_2 : hm_code 53 2 = some (.iload_n 3) := by decide +kernel
theorem k_53_3 : hm_code 53 3 = some (.iconst 4) := by decide +kernel
theorem k_53_4 : hm_code 53 4 = some (.if_icmp .ge 37) := by decide +kernel
theorem k_53_7 : hm_code 53 7 = some (.iload_n 1) := by decide +kernel
theorem k_53_8 : hm_code 53 8 = some (.iload_n 3) := by decide +kernel
theorem k_53_9 : hm_code 53 9 = some (.invokestatic 80) := by decide +kernel
theorem k_53_12 : hm_code 53 12 = some (.ifCond .eq 23) := by decide +kernel
theorem k_53_15 : hm_code 53 15 = some (.aload_n 0) := by decide +kernel
theorem k_53_16 : hm_code 53 16 = some (.iload_n 3) := by decide +kernel
theorem k_53_17 : hm_code 53 17 = some (.invokevirtual 44) := by decide +kernel
theorem k_53_20 : hm_code 53 20 = some (.ifCond .eq 13) := by decide +kernel
theorem k_53_23 : hm_code 53 23 = some (.aload_n 0) := by decide +kernel
theorem k_53_24 : hm_code 53 24 = some (.getfield 15) := by decide +kernel
theorem k_53_27 : hm_code 53 27 = some (.iload_n 3) := by decide +kernel
theorem k_53_28 : hm_code 53 28 = some (.iaload) := by decide +kernel
theorem k_53_29 : hm_code 53 29 = some (.iload_n 2) := by decide +kernel
theorem k_53_30 : hm_code 53 30 = some (.if_icmp .lt 5) := by decide +kernel
theorem k_53_33 : hm_code 53 33 = some (.iconst 0) := by decide +kernel
theorem k_53_34 : hm_code 53 34 = some (.ireturn) := by decide +kernel
theorem k_53_35 : hm_code 53 35 = some (.iinc 3 1) := by decide +kernel
theorem k_53_38 : hm_code 53 38 = some (.goto (-36)) := by decide +kernel
theorem k_53_41 : hm_code 53 41 = some (.iconst 1) := by decide +kernel
theorem k_53_42 : hm_code 53 42 = some (.ireturn) := by decide +kernel
theorem m_54 : hm_mtab[54]? = some (⟨"HourPromised", "takeBack", "(LHourPromised$CaseFile;I)V"⟩, prog_1_method_28_code, 3, none, 7, 3, 1) := rfl
theorem k_54_0 : hm_code 54 0 = some (.aload_n 0) := by decide +kernel
theorem k_54_1 : hm_code 54 1 = some (.getfield 26) := by decide +kernel
theorem k_54_4 : hm_code 54 4 = some (.aload_n 1) := by decide +kernel
theorem k_54_5 : hm_code 54 5 = some (.iconst (-1)) := by decide +kernel
theorem k_54_6 : hm_code 54 6 = some (.invokevirtual 250) := by decide +kernel
theorem k_54_9 : hm_code 54 9 = some (.aload_n 0) := by decide +kernel
theorem k_54_10 : hm_code 54 10 = some (.getfield 26) := by decide +kernel
theorem k_54_13 : hm_code 54 13 = some (.aload_n 1) := by decide +kernel
theorem k_54_14 : hm_code 54 14 = some (.iload_n 2) := by decide +kernel
theorem k_54_15 : hm_code 54 15 = some (.iconst (-1)) := by decide +kernel
theorem k_54_16 : hm_code 54 16 = some (.invokevirtual 253) := by decide +kernel
theorem k_54_19 : hm_code 54 19 = some (.aload_n 1) := by decide +kernel
theorem k_54_20 : hm_code 54 20 = some (.getfield 183) := by decide +kernel
theorem k_54_23 : hm_code 54 23 = some (.iload_n 2) := by decide +kernel
theorem k_54_24 : hm_code 54 24 = some (.iconst (-1)) := by decide +kernel
theorem k_54_25 : hm_code 54 25 = some (.iastore) := by decide +kernel
theorem k_54_26 : hm_code 54 26 = some (.aload_n 0) := by decide +kernel
theorem k_54_27 : hm_code 54 27 = some (.getfield 26) := by decide +kernel
theorem k_54_30 : hm_code 54 30 = some (.aload_n 1) := by decide +kernel
theorem k_54_31 : hm_code 54 31 = some (.iconst 1) := by decide +kernel
theorem k_54_32 : hm_code 54 32 = some (.invokevirtual 250) := by decide +kernel
theorem k_54_35 : hm_code 54 35 = some (.aload_n 0) := by decide +kernel
theorem k_54_36 : hm_code 54 36 = some (.dup) := by decide +kernel
theorem k_54_37 : hm_code 54 37 = some (.getfield 62) := by decide +kernel
theorem k_54_40 : hm_code 54 40 = some (.iconst 1) := by decide +kernel
theorem k_54_41 : hm_code 54 41 = some (.isub) := by decide +kernel
theorem k_54_42 : hm_code 54 42 = some (.putfield 62) := by decide +kernel
theorem k_54_45 : hm_code 54 45 = some (.aload_n 0) := by decide +kernel
theorem k_54_46 : hm_code 54 46 = some (.dup) := by decide +kernel
theorem k_54_47 : hm_code 54 47 = some (.getfield 66) := by decide +kernel
theorem k_54_50 : hm_code 54 50 = some (.iconst 1) := by decide +kernel
theorem k_54_51 : hm_code 54 51 = some (.iadd) := by decide +kernel
theorem k_54_52 : hm_code 54 52 = some (.putfield 66) := by decide +kernel
theorem k_54_55 : hm_code 54 55 = some (.return_) := by decide +kernel
theorem m_55 : hm_mtab[55]? = some (⟨"HourPromised$Ledger", "enterRoom", "(LHourPromised$CaseFile;I)V"⟩, prog_6_method_6_code, 5, none, 4, 3, 1) := rfl
theorem k_55_0 : hm_code 55 0 = some (.aload_n 1) := by decide +kernel
theorem k_55_1 : hm_code 55 1 = some (.iconst 0) := by decide +kernel
theorem k_55_2 : hm_code 55 2 = some (.invokevirtual 36) := by decide +kernel
theorem k_55_5 : hm_code 55 5 = some (.ifCond .ne 4) := by decide +kernel
theorem k_55_8 : hm_code 55 8 = some (.return_) := by decide +kernel
theorem k_55_9 : hm_code 55 9 = some (.aload_n 1) := by decide +kernel
theorem k_55_10 : hm_code 55 10 = some (.invokevirtual 39) := by decide +kernel
theorem k_55_13 : hm_code 55 13 = some (.istore_n 3) := by decide +kernel
theorem k_55_14 : hm_code 55 14 = some (.aload_n 1) := by decide +kernel
theorem k_55_15 : hm_code 55 15 = some (.getfield 22) := by decide +kernel
theorem k_55_18 : hm_code 55 18 = some (.iconst 0) := by decide +kernel
theorem k_55_19 : hm_code 55 19 = some (.iaload) := by decide +kernel
theorem k_55_20 : hm_code 55 20 = some (.istore 4) := by decide +kernel
theorem k_55_22 : hm_code 55 22 = some (.iload 4) := by decide +kernel
theorem k_55_24 : hm_code 55 24 = some (.iload_n 3) := by decide +kernel
theorem k_55_25 : hm_code 55 25 = some (.if_icmp .ge 22) := by decide +kernel
theorem k_55_28 : hm_code 55 28 = some (.aload_n 0) := by decide +kernel
theorem k_55_29 : hm_code 55 29 = some (.getfield 11) := by decide +kernel
theorem k_55_32 : hm_code 55 32 = some (.iconst 3) := by decide +kernel
theorem k_55_33 : hm_code 55 33 = some (.aaload) := by decide +kernel
theorem k_55_34 : hm_code 55 34 = some (.iload 4) := by decide +kernel
theorem k_55_36 : hm_code 55 36 = some (.dup2) := by decide +kernel
theorem k_55_37 : hm_code 55 37 = some (.iaload) := by decide +kernel
theorem k_55_38 : hm_code 55 38 = some (.iload_n 2) := by decide +kernel
theorem k_55_39 : hm_code 55 39 = some (.iadd) := by decide +kernel
theorem k_55_40 : hm_code 55 40 = some (.iastore) := by decide +kernel
theorem k_55_41 : hm_code 55 41 = some (.iinc 4 1) := by decide +kernel
theorem k_55_44 : hm_code 55 44 = some (.goto (-22)) := by decide +kernel
theorem k_55_47 : hm_code 55 47 = some (.return_) := by decide +kernel
theorem m_56 : hm_mtab[56]? = some (⟨"HourPromised$CaseFile", "roomEnd", "()I"⟩, prog_3_method_4_code, 2, (some .int), 1, 1, 1) := rfl
theorem k_56_0 : hm_code 56 0 = some (.sipush 400) := by decide +kernel
theorem k_56_3 : hm_code 56 3 = some (.istore_n 1) := by decide +kernel
theorem k_56_4 : hm_code 56 4 = some (.aload_n 0) := by decide +kernel
theorem k_56_5 : hm_code 56 5 = some (.iconst 2) := by decide +kernel
theorem k_56_6 : hm_code 56 6 = some (.invokevirtual 44) := by decide +kernel
theorem k_56_9 : hm_code 56 9 = some (.ifCond .eq 16) := by decide +kernel
theorem k_56_12 : hm_code 56 12 = some (.iload_n 1) := by decide +kernel
theorem k_56_13 : hm_code 56 13 = some (.aload_n 0) := by decide +kernel
theorem k_56_14 : hm_code 56 14 = some (.getfield 15) := by decide +kernel
theorem k_56_17 : hm_code 56 17 = some (.iconst 2) := by decide +kernel
theorem k_56_18 : hm_code 56 18 = some (.iaload) := by decide +kernel
theorem k_56_19 : hm_code 56 19 = some (.invokestatic 48) := by decide +kernel
theorem k_56_22 : hm_code 56 22 = some (.goto 4) := by decide +kernel
theorem k_56_25 : hm_code 56 25 = some (.iload_n 1) := by decide +kernel
theorem k_56_26 : hm_code 56 26 = some (.istore_n 1) := by decide +kernel
theorem k_56_27 : hm_code 56 27 = some (.aload_n 0) := by decide +kernel
theorem k_56_28 : hm_code 56 28 = some (.iconst 3) := by decide +kernel
theorem k_56_29 : hm_code 56 29 = some (.invokevirtual 44) := by decide +kernel
theorem k_56_32 : hm_code 56 32 = some (.ifCond .eq 16) := by decide +kernel
theorem k_56_35 : hm_code 56 35 = some (.iload_n 1) := by decide +kernel
theorem k_56_36 : hm_code 56 36 = some (.aload_n 0) := by decide +kernel
theorem k_56_37 : hm_code 56 37 = some (.getfield 15) := by decide +kernel
theorem k_56_40 : hm_code 56 40 = some (.iconst 3) := by decide +kernel
theorem k_56_41 : hm_code 56 41 = some (.iaload) := by decide +kernel
theorem k_56_42 : hm_code 56 42 = some (.invokestatic 48) := by decide +kernel
theorem k_56_45 : hm_code 56 45 = some (.goto 4) := by decide +kernel
theorem k_56_48 : hm_code 56 48 = some (.iload_n 1) := by decide +kernel
theorem k_56_49 : hm_code 56 49 = some (.istore_n 1) := by decide +kernel
theorem k_56_50 : hm_code 56 50 = some (.iload_n 1) := by decide +kernel
theorem k_56_51 : hm_code 56 51 = some (.ireturn) := by decide +kernel
theorem m_57 : hm_mtab[57]? = some (⟨"java/lang/Math", "min", "(II)I"⟩, prog_15_method_69_code, 2, (some .int), 14, 2, 0) := rfl
theorem k_57_0 : hm_code 57 0 = some (.iload_n 0) := by decide +kernel
theorem k_57_1 : hm_code 57 1 = some (.iload_n 1) := by decide +kernel
theorem k_57_2 : hm_code 57 2 = some (.if_icmp .gt 7) := by decide +kernel
theorem k_57_5 : hm_code 57 5 = some (.iload_n 0) := by decide +kernel
theorem k_57_6 : hm_code 57 6 = some (.goto 4) := by decide +kernel
theorem k_57_9 : hm_code 57 9 = some (.iload_n 1) := by decide +kernel
theorem k_57_10 : hm_code 57 10 = some (.ireturn) := by decide +kernel
theorem m_58 : hm_mtab[58]? = some (⟨"HourPromised$Ledger", "enterStep", "(LHourPromised$CaseFile;II)V"⟩, prog_6_method_5_code, 5, none, 4, 4, 1) := rfl
theorem k_58_0 : hm_code 58 0 = some (.aload_n 1) := by decide +kernel
theorem k_58_1 : hm_code 58 1 = some (.getfield 22) := by decide +kernel
theorem k_58_4 : hm_code 58 4 = some (.iload_n 2) := by decide +kernel
theorem k_58_5 : hm_code 58 5 = some (.iaload) := by decide +kernel
theorem k_58_6 : hm_code 58 6 = some (.istore 4) := by decide +kernel
theorem k_58_8 : hm_code 58 8 = some (.iload 4) := by decide +kernel
theorem k_58_10 : hm_code 58 10 = some (.iconst (-1)) := by decide +kernel
theorem k_58_11 : hm_code 58 11 = some (.if_icmp .ne 4) := by decide +kernel
theorem k_58_14 : hm_code 58 14 = some (.return_) := by decide +kernel
theorem k_58_15 : hm_code 58 15 = some (.aload_n 0) := by decide +kernel
theorem k_58_16 : hm_code 58 16 = some (.getfield 11) := by decide +kernel
theorem k_58_19 : hm_code 58 19 = some (.iconst 0) := by decide +kernel
theorem k_58_20 : hm_code 58 20 = some (.aaload) := by decide +kernel
theorem k_58_21 : hm_code 58 21 = some (.iload 4) := by decide +kernel
theorem k_58_23 : hm_code 58 23 = some (.dup2) := by decide +kernel
theorem k_58_24 : hm_code 58 24 = some (.iaload) := by decide +kernel
theorem k_58_25 : hm_code 58 25 = some (.iload_n 3) := by decide +kernel
theorem k_58_26 : hm_code 58 26 = some (.iadd) := by decide +kernel
theorem k_58_27 : hm_code 58 27 = some (.iastore) := by decide +kernel
theorem k_58_28 : hm_code 58 28 = some (.aload_n 0) := by decide +kernel
theorem k_58_29 : hm_code 58 29 = some (.getfield 11) := by decide +kernel
theorem k_58_32 : hm_code 58 32 = some (.iconst 5) := by decide +kernel
theorem k_58_33 : hm_code 58 33 = some (.aaload) := by decide +kernel
theorem k_58_34 : hm_code 58 34 = some (.iload 4) := by decide +kernel
theorem k_58_36 : hm_code 58 36 = some (.dup2) := by decide +kernel
theorem k_58_37 : hm_code 58 37 = some (.iaload) := by decide +kernel
theorem k_58_38 : hm_code 58 38 = some (.iload_n 3) := by decide +kernel
theorem k_58_39 : hm_code 58 39 = some (.iadd) := by decide +kernel
theorem k_58_40 : hm_code 58 40 = some (.iastore) := by decide +kernel
theorem k_58_41 : hm_code 58 41 = some (.iload_n 2) := by decide +kernel
theorem k_58_42 : hm_code 58 42 = some (.iconst 1) := by decide +kernel
theorem k_58_43 : hm_code 58 43 = some (.if_icmp .ne 16) := by decide +kernel
theorem k_58_46 : hm_code 58 46 = some (.aload_n 0) := by decide +kernel
theorem k_58_47 : hm_code 58 47 = some (.getfield 11) := by decide +kernel
theorem k_58_50 : hm_code 58 50 = some (.iconst 1) := by decide +kernel
theorem k_58_51 : hm_code 58 51 = some (.aaload) := by decide +kernel
theorem k_58_52 : hm_code 58 52 = some (.iload 4) := by decide +kernel
theorem k_58_54 : hm_code 58 54 = some (.dup2) := by decide +kernel
theorem k_58_55 : hm_code 58 55 = some (.iaload) := by decide +kernel
theorem k_58_56 : hm_code 58 56 = some (.iload_n 3) := by decide +kernel
theorem k_58_57 : hm_code 58 57 = some (.iadd) := by decide +kernel
theorem k_58_58 : hm_code 58 58 = some (.iastore) := by decide +kernel
theorem k_58_59 : hm_code 58 59 = some (.iload_n 2) := by decide +kernel
theorem k_58_60 : hm_code 58 60 = some (.iconst 2) := by decide +kernel
theorem k_58_61 : hm_code 58 61 = some (.if_icmp .ne 16) := by decide +kernel
theorem k_58_64 : hm_code 58 64 = some (.aload_n 0) := by decide +kernel
theorem k_58_65 : hm_code 58 65 = some (.getfield 11) := by decide +kernel
theorem k_58_68 : hm_code 58 68 = some (.iconst 2) := by decide +kernel
theorem k_58_69 : hm_code 58 69 = some (.aaload) := by decide +kernel
theorem k_58_70 : hm_code 58 70 = some (.iload 4) := by decide +kernel
theorem k_58_72 : hm_code 58 72 = some (.dup2) := by decide +kernel
theorem k_58_73 : hm_code 58 73 = some (.iaload) := by decide +kernel
theorem k_58_74 : hm_code 58 74 = some (.iload_n 3) := by decide +kernel
theorem k_58_75 : hm_code 58 75 = some (.iadd) := by decide +kernel
theorem k_58_76 : hm_code 58 76 = some (.iastore) := by decide +kernel
theorem k_58_77 : hm_code 58 77 = some (.iload_n 2) := by decide +kernel
theorem k_58_78 : hm_code 58 78 = some (.invokestatic 28) := by decide +kernel
theorem k_58_81 : hm_code 58 81 = some (.ifCond .eq 21) := by decide +kernel
theorem k_58_84 : hm_code 58 84 = some (.aload_n 0) := by decide +kernel
theorem k_58_85 : hm_code 58 85 = some (.getfield 11) := by decide +kernel
theorem k_58_88 : hm_code 58 88 = some (.iconst 4) := by decide +kernel
theorem k_58_89 : hm_code 58 89 = some (.aaload) := by decide +kernel
theorem k_58_90 : hm_code 58 90 = some (.iload 4) := by decide +kernel
theorem k_58_92 : hm_code 58 92 = some (.dup2) := by decide +kernel
theorem k_58_93 : hm_code 58 93 = some (.iaload) := by decide +kernel
theorem k_58_94 : hm_code 58 94 = some (.iload_n 3) := by decide +kernel
theorem k_58_95 : hm_code 58 95 = some (.aload_n 1) := by decide +kernel
theorem k_58_96 : hm_code 58 96 = some (.getfield 32) := by decide +kernel
theorem k_58_99 : hm_code 58 99 = some (.imul) := by decide +kernel
theorem k_58_100 : hm_code 58 100 = some (.iadd) := by decide +kernel
theorem k_58_101 : hm_code 58 101 = some (.iastore) := by decide +kernel
theorem k_58_102 : hm_code 58 102 = some (.return_) := by decide +kernel
theorem m_59 : hm_mtab[59]? = some (⟨"HourPromised", "takesBearers", "(I)Z"⟩, prog_1_method_43_code, 1, (some .boolean), 7, 1, 0) := rfl
theorem k_59_0 : hm_code 59 0 = some (.iload_n 0) := by decide +kernel
theorem k_59_1 : hm_code 59 1 = some (.iconst 1) := by decide +kernel
theorem k_59_2 : hm_code 59 2 = some (.if_icmp .eq 8) := by decide +kernel
theorem k_59_5 : hm_code 59 5 = some (.iload_n 0) := by decide +kernel
theorem k_59_6 : hm_code 59 6 = some (.iconst 3) := by decide +kernel
theorem k_59_7 : hm_code 59 7 = some (.if_icmp .ne 7) := by decide +kernel
theorem k_59_10 : hm_code 59 10 = some (.iconst 1) := by decide +kernel
theorem k_59_11 : hm_code 59 11 = some (.goto 4) := by decide +kernel
theorem k_59_14 : hm_code 59 14 = some (.iconst 0) := by decide +kernel
theorem k_59_15 : hm_code 59 15 = some (.ireturn) := by decide +kernel
