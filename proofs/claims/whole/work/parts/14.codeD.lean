theorem m_145 : hm_mtab[145]? = some (⟨"HourPromisedModel", "casus", "(IIII)I"⟩, prog_10_method_37_code, 7, (some .int), 8, 5, 1) := rfl
theorem k_145_0 : hm_code 145 0 = some (.iload_n 1) := by decide +kernel
theorem k_145_1 : hm_code 145 1 = some (.i2l) := by decide +kernel
theorem k_145_2 : hm_code 145 2 = some (.lconst 0) := by decide +kernel
theorem k_145_3 : hm_code 145 3 = some (.ldc2_w 90) := by decide +kernel
theorem k_145_6 : hm_code 145 6 = some (.invokestatic 84) := by decide +kernel
theorem k_145_9 : hm_code 145 9 = some (.ifCond .ne 7) := by decide +kernel
theorem k_145_12 : hm_code 145 12 = some (.sipush (-1001)) := by decide +kernel
theorem k_145_15 : hm_code 145 15 = some (.ireturn) := by decide +kernel
theorem k_145_16 : hm_code 145 16 = some (.iload_n 2) := by decide +kernel
theorem k_145_17 : hm_code 145 17 = some (.invokestatic 205) := by decide +kernel
theorem k_145_20 : hm_code 145 20 = some (.ifCond .eq 28) := by decide +kernel
theorem k_145_23 : hm_code 145 23 = some (.iload_n 3) := by decide +kernel
theorem k_145_24 : hm_code 145 24 = some (.i2l) := by decide +kernel
theorem k_145_25 : hm_code 145 25 = some (.lconst 0) := by decide +kernel
theorem k_145_26 : hm_code 145 26 = some (.ldc2_w 208) := by decide +kernel
theorem k_145_29 : hm_code 145 29 = some (.invokestatic 84) := by decide +kernel
theorem k_145_32 : hm_code 145 32 = some (.ifCond .eq 16) := by decide +kernel
theorem k_145_35 : hm_code 145 35 = some (.iload 4) := by decide +kernel
theorem k_145_37 : hm_code 145 37 = some (.i2l) := by decide +kernel
theorem k_145_38 : hm_code 145 38 = some (.lconst 0) := by decide +kernel
theorem k_145_39 : hm_code 145 39 = some (.ldc2_w 151) := by decide +kernel
theorem k_145_42 : hm_code 145 42 = some (.invokestatic 84) := by decide +kernel
theorem k_145_45 : hm_code 145 45 = some (.ifCond .ne 7) := by decide +kernel
theorem k_145_48 : hm_code 145 48 = some (.sipush (-1002)) := by decide +kernel
theorem k_145_51 : hm_code 145 51 = some (.ireturn) := by decide +kernel
theorem k_145_52 : hm_code 145 52 = some (.aload_n 0) := by decide +kernel
theorem k_145_53 : hm_code 145 53 = some (.getfield 81) := by decide +kernel
theorem k_145_56 : hm_code 145 56 = some (.bipush 16) := by decide +kernel
theorem k_145_58 : hm_code 145 58 = some (.if_icmp .ne 7) := by decide +kernel
theorem k_145_61 : hm_code 145 61 = some (.sipush (-1004)) := by decide +kernel
theorem k_145_64 : hm_code 145 64 = some (.ireturn) := by decide +kernel
theorem k_145_65 : hm_code 145 65 = some (.aload_n 0) := by decide +kernel
theorem k_145_66 : hm_code 145 66 = some (.getfield 81) := by decide +kernel
theorem k_145_69 : hm_code 145 69 = some (.istore 5) := by decide +kernel
theorem k_145_71 : hm_code 145 71 = some (.aload_n 0) := by decide +kernel
theorem k_145_72 : hm_code 145 72 = some (.getfield 32) := by decide +kernel
theorem k_145_75 : hm_code 145 75 = some (.iload 5) := by decide +kernel
theorem k_145_77 : hm_code 145 77 = some (.iload_n 1) := by decide +kernel
theorem k_145_78 : hm_code 145 78 = some (.iastore) := by decide +kernel
theorem k_145_79 : hm_code 145 79 = some (.aload_n 0) := by decide +kernel
theorem k_145_80 : hm_code 145 80 = some (.getfield 35) := by decide +kernel
theorem k_145_83 : hm_code 145 83 = some (.iload 5) := by decide +kernel
theorem k_145_85 : hm_code 145 85 = some (.iload_n 2) := by decide +kernel
theorem k_145_86 : hm_code 145 86 = some (.iastore) := by decide +kernel
theorem k_145_87 : hm_code 145 87 = some (.aload_n 0) := by decide +kernel
theorem k_145_88 : hm_code 145 88 = some (.getfield 38) := by decide +kernel
theorem k_145_91 : hm_code 145 91 = some (.iload 5) := by decide +kernel
theorem k_145_93 : hm_code 145 93 = some (.iload_n 3) := by decide +kernel
theorem k_145_94 : hm_code 145 94 = some (.iastore) := by decide +kernel
theorem k_145_95 : hm_code 145 95 = some (.aload_n 0) := by decide +kernel
theorem k_145_96 : hm_code 145 96 = some (.getfield 41) := by decide +kernel
theorem k_145_99 : hm_code 145 99 = some (.iload 5) := by decide +kernel
theorem k_145_101 : hm_code 145 101 = some (.iload 4) := by decide +kernel
theorem k_145_103 : hm_code 145 103 = some (.iastore) := by decide +kernel
theorem k_145_104 : hm_code 145 104 = some (.iconst 0) := by decide +kernel
theorem k_145_105 : hm_code 145 105 = some (.istore 6) := by decide +kernel
theorem k_145_107 : hm_code 145 107 = some (.iload 6) := by decide +kernel
theorem k_145_109 : hm_code 145 109 = some (.bipush 6) := by decide +kernel
theorem k_145_111 : hm_code 145 111 = some (.if_icmp .ge 23) := by decide +kernel
theorem k_145_114 : hm_code 145 114 = some (.aload_n 0) := by decide +kernel
theorem k_145_115 : hm_code 145 115 = some (.getfield 44) := by decide +kernel
theorem k_145_118 : hm_code 145 118 = some (.bipush 6) := by decide +kernel
theorem k_145_120 : hm_code 145 120 = some (.iload 5) := by decide +kernel
theorem k_145_122 : hm_code 145 122 = some (.imul) := by decide +kernel
theorem k_145_123 : hm_code 145 123 = some (.iload 6) := by decide +kernel
theorem k_145_125 : hm_code 145 125 = some (.iadd) := by decide +kernel
theorem k_145_126 : hm_code 145 126 = some (.iconst (-1)) := by decide +kernel
theorem k_145_127 : hm_code 145 127 = some (.iastore) := by decide +kernel
theorem k_145_128 : hm_code 145 128 = some (.iinc 6 1) := by decide +kernel
theorem k_145_131 : hm_code 145 131 = some (.goto (-24)) := by decide +kernel
theorem k_145_134 : hm_code 145 134 = some (.iconst 0) := by decide +kernel
theorem k_145_135 : hm_code 145 135 = some (.istore 6) := by decide +kernel
theorem k_145_137 : hm_code 145 137 = some (.iload 6) := by decide +kernel
theorem k_145_139 : hm_code 145 139 = some (.iconst 4) := by decide +kernel
theorem k_145_140 : hm_code 145 140 = some (.if_icmp .ge 22) := by decide +kernel
theorem k_145_143 : hm_code 145 143 = some (.aload_n 0) := by decide +kernel
theorem k_145_144 : hm_code 145 144 = some (.getfield 47) := by decide +kernel
theorem k_145_147 : hm_code 145 147 = some (.iconst 4) := by decide +kernel
theorem k_145_148 : hm_code 145 148 = some (.iload 5) := by decide +kernel
theorem k_145_150 : hm_code 145 150 = some (.imul) := by decide +kernel
theorem k_145_151 : hm_code 145 151 = some (.iload 6) := by decide +kernel
theorem k_145_153 : hm_code 145 153 = some (.iadd) := by decide +kernel
theorem k_145_154 : hm_code 145 154 = some (.iconst (-1)) := by decide +kernel
theorem k_145_155 : hm_code 145 155 = some (.iastore) := by decide +kernel
theorem k_145_156 : hm_code 145 156 = some (.iinc 6 1) := by decide +kernel
theorem k_145_159 : hm_code 145 159 = some (.goto (-22)) := by decide +kernel
theorem k_145_162 : hm_code 145 162 = some (.aload_n 0) := by decide +kernel
theorem k_145_163 : hm_code 145 163 = some (.dup) := by decide +kernel
theorem k_145_164 : hm_code 145 164 = some (.getfield 81) := by decide +kernel
theorem k_145_167 : hm_code 145 167 = some (.iconst 1) := by decide +kernel
theorem k_145_168 : hm_code 145 168 = some (.iadd) := by decide +kernel
theorem k_145_169 : hm_code 145 169 = some (.putfield 81) := by decide +kernel
theorem k_145_172 : hm_code 145 172 = some (.iload 5) := by decide +kernel
theorem k_145_174 : hm_code 145 174 = some (.ireturn) := by decide +kernel
theorem m_146 : hm_mtab[146]? = some (⟨"HourPromisedModel", "isHour", "(I)Z"⟩, prog_10_method_5_code, 1, (some .boolean), 8, 1, 0) := rfl
theorem k_146_0 : hm_code 146 0 = some (.iload_n 0) := by decide +kernel
theorem k_146_1 : hm_code 146 1 = some (.i2l) := by decide +kernel
theorem k_146_2 : hm_code 146 2 = some (.lconst 0) := by decide +kernel
theorem k_146_3 : hm_code 146 3 = some (.ldc2_w 88) := by decide +kernel
theorem k_146_6 : hm_code 146 6 = some (.invokestatic 84) := by decide +kernel
theorem k_146_9 : hm_code 146 9 = some (.ireturn) := by decide +kernel
theorem m_147 : hm_mtab[147]? = some (⟨"HourPromisedModel", "paper", "(III)I"⟩, prog_10_method_39_code, 4, (some .int), 8, 4, 1) := rfl
theorem k_147_0 : hm_code 147 0 = some (.aload_n 0) := by decide +kernel
theorem k_147_1 : hm_code 147 1 = some (.iload_n 1) := by decide +kernel
theorem k_147_2 : hm_code 147 2 = some (.invokevirtual 213) := by decide +kernel
theorem k_147_5 : hm_code 147 5 = some (.ifCond .ne 7) := by decide +kernel
theorem k_147_8 : hm_code 147 8 = some (.sipush (-1001)) := by decide +kernel
theorem k_147_11 : hm_code 147 11 = some (.ireturn) := by decide +kernel
theorem k_147_12 : hm_code 147 12 = some (.iload_n 2) := by decide +kernel
theorem k_147_13 : hm_code 147 13 = some (.i2l) := by decide +kernel
theorem k_147_14 : hm_code 147 14 = some (.lconst 0) := by decide +kernel
theorem k_147_15 : hm_code 147 15 = some (.ldc2_w 216) := by decide +kernel
theorem k_147_18 : hm_code 147 18 = some (.invokestatic 84) := by decide +kernel
theorem k_147_21 : hm_code 147 21 = some (.ifCond .eq 17) := by decide +kernel
theorem k_147_24 : hm_code 147 24 = some (.iload_n 3) := by decide +kernel
theorem k_147_25 : hm_code 147 25 = some (.i2l) := by decide +kernel
theorem k_147_26 : hm_code 147 26 = some (.ldc2_w 218) := by decide +kernel
theorem k_147_29 : hm_code 147 29 = some (.ldc2_w 88) := by decide +kernel
theorem k_147_32 : hm_code 147 32 = some (.invokestatic 84) := by decide +kernel
theorem k_147_35 : hm_code 147 35 = some (.ifCond .ne 7) := by decide +kernel
theorem k_147_38 : hm_code 147 38 = some (.sipush (-1002)) := by decide +kernel
theorem k_147_41 : hm_code 147 41 = some (.ireturn) := by decide +kernel
theorem k_147_42 : hm_code 147 42 = some (.aload_n 0) := by decide +kernel
theorem k_147_43 : hm_code 147 43 = some (.getfield 44) := by decide +kernel
theorem k_147_46 : hm_code 147 46 = some (.bipush 6) := by decide +kernel
theorem k_147_48 : hm_code 147 48 = some (.iload_n 1) := by decide +kernel
theorem k_147_49 : hm_code 147 49 = some (.imul) := by decide +kernel
theorem k_147_50 : hm_code 147 50 = some (.iload_n 2) := by decide +kernel
theorem k_147_51 : hm_code 147 51 = some (.iadd) := by decide +kernel
theorem k_147_52 : hm_code 147 52 = some (.iload_n 3) := by decide +kernel
theorem k_147_53 : hm_code 147 53 = some (.iastore) := by decide +kernel
theorem k_147_54 : hm_code 147 54 = some (.aload_n 0) := by decide +kernel
theorem k_147_55 : hm_code 147 55 = some (.iload_n 1) := by decide +kernel
theorem k_147_56 : hm_code 147 56 = some (.iconst (-1)) := by decide +kernel
theorem k_147_57 : hm_code 147 57 = some (.invokevirtual 162) := by decide +kernel
theorem k_147_60 : hm_code 147 60 = some (.ireturn) := by decide +kernel
theorem m_148 : hm_mtab[148]? = some (⟨"HourPromisedModel", "isCase", "(I)Z"⟩, prog_10_method_4_code, 2, (some .boolean), 8, 2, 1) := rfl
theorem k_148_0 : hm_code 148 0 = some (.iload_n 1) := by decide +kernel
theorem k_148_1 : hm_code 148 1 = some (.i2l) := by decide +kernel
theorem k_148_2 : hm_code 148 2 = some (.lconst 0) := by decide +kernel
theorem k_148_3 : hm_code 148 3 = some (.aload_n 0) := by decide +kernel
theorem k_148_4 : hm_code 148 4 = some (.getfield 81) := by decide +kernel
theorem k_148_7 : hm_code 148 7 = some (.iconst 1) := by decide +kernel
theorem k_148_8 : hm_code 148 8 = some (.isub) := by decide +kernel
theorem k_148_9 : hm_code 148 9 = some (.i2l) := by decide +kernel
theorem k_148_10 : hm_code 148 10 = some (.invokestatic 84) := by decide +kernel
theorem k_148_13 : hm_code 148 13 = some (.ireturn) := by decide +kernel
theorem m_149 : hm_mtab[149]? = some (⟨"HourPromisedModel", "may", "(III)I"⟩, prog_10_method_40_code, 4, (some .int), 8, 4, 1) := rfl
theorem k_149_0 : hm_code 149 0 = some (.aload_n 0) := by decide +kernel
theorem k_149_1 : hm_code 149 1 = some (.iload_n 1) := by decide +kernel
theorem k_149_2 : hm_code 149 2 = some (.invokevirtual 213) := by decide +kernel
theorem k_149_5 : hm_code 149 5 = some (.ifCond .ne 7) := by decide +kernel
theorem k_149_8 : hm_code 149 8 = some (.sipush (-1001)) := by decide +kernel
theorem k_149_11 : hm_code 149 11 = some (.ireturn) := by decide +kernel
theorem k_149_12 : hm_code 149 12 = some (.iload_n 2) := by decide +kernel
theorem k_149_13 : hm_code 149 13 = some (.invokestatic 165) := by decide +kernel
theorem k_149_16 : hm_code 149 16 = some (.ifCond .eq 20) := by decide +kernel
theorem k_149_19 : hm_code 149 19 = some (.iload_n 3) := by decide +kernel
theorem k_149_20 : hm_code 149 20 = some (.invokestatic 205) := by decide +kernel
theorem k_149_23 : hm_code 149 23 = some (.ifCond .eq 13) := by decide +kernel
theorem k_149_26 : hm_code 149 26 = some (.aload_n 0) := by decide +kernel
theorem k_149_27 : hm_code 149 27 = some (.iload_n 1) := by decide +kernel
theorem k_149_28 : hm_code 149 28 = some (.iload_n 2) := by decide +kernel
theorem k_149_29 : hm_code 149 29 = some (.iload_n 3) := by decide +kernel
theorem k_149_30 : hm_code 149 30 = some (.invokevirtual 220) := by decide +kernel
theorem k_149_33 : hm_code 149 33 = some (.goto 6) := by decide +kernel
theorem k_149_36 : hm_code 149 36 = some (.sipush (-1002)) := by decide +kernel
theorem k_149_39 : hm_code 149 39 = some (.ireturn) := by decide +kernel
theorem m_150 : hm_mtab[150]? = some (⟨"HourPromisedModel", "mayBe", "(III)I"⟩, prog_10_method_34_code, 6, (some .int), 8, 4, 1) := rfl
theorem k_150_0 : hm_code 150 0 = some (.aload_n 0) := by decide +kernel
theorem k_150_1 : hm_code 150 1 = some (.iload_n 1) := by decide +kernel
theorem k_150_2 : hm_code 150 2 = some (.iload_n 2) := by decide +kernel
theorem k_150_3 : hm_code 150 3 = some (.invokevirtual 92) := by decide +kernel
theorem k_150_6 : hm_code 150 6 = some (.ifCond .lt 5) := by decide +kernel
theorem k_150_9 : hm_code 150 9 = some (.iconst 1) := by decide +kernel
theorem k_150_10 : hm_code 150 10 = some (.ireturn) := by decide +kernel
theorem k_150_11 : hm_code 150 11 = some (.aload_n 0) := by decide +kernel
theorem k_150_12 : hm_code 150 12 = some (.iload_n 1) := by decide +kernel
theorem k_150_13 : hm_code 150 13 = some (.iload_n 2) := by decide +kernel
theorem k_150_14 : hm_code 150 14 = some (.iload_n 3) := by decide +kernel
theorem k_150_15 : hm_code 150 15 = some (.invokevirtual 183) := by decide +kernel
theorem k_150_18 : hm_code 150 18 = some (.istore 4) := by decide +kernel
theorem k_150_20 : hm_code 150 20 = some (.iload 4) := by decide +kernel
theorem k_150_22 : hm_code 150 22 = some (.ifCond .le 6) := by decide +kernel
theorem k_150_25 : hm_code 150 25 = some (.iload 4) := by decide +kernel
theorem k_150_27 : hm_code 150 27 = some (.ireturn) := by decide +kernel
theorem k_150_28 : hm_code 150 28 = some (.aload_n 0) := by decide +kernel
theorem k_150_29 : hm_code 150 29 = some (.iload_n 1) := by decide +kernel
theorem k_150_30 : hm_code 150 30 = some (.iload_n 2) := by decide +kernel
theorem k_150_31 : hm_code 150 31 = some (.iload_n 3) := by decide +kernel
theorem k_150_32 : hm_code 150 32 = some (.invokevirtual 186) := by decide +kernel
theorem k_150_35 : hm_code 150 35 = some (.ifCond .eq 6) := by decide +kernel
theorem k_150_38 : hm_code 150 38 = some (.bipush 7) := by decide +kernel
theorem k_150_40 : hm_code 150 40 = some (.ireturn) := by decide +kernel
theorem k_150_41 : hm_code 150 41 = some (.iload_n 2) := by decide +kernel
theorem k_150_42 : hm_code 150 42 = some (.iconst 2) := by decide +kernel
theorem k_150_43 : hm_code 150 43 = some (.if_icmp .ne 12) := by decide +kernel
theorem k_150_46 : hm_code 150 46 = some (.aload_n 0) := by decide +kernel
theorem k_150_47 : hm_code 150 47 = some (.iload_n 1) := by decide +kernel
theorem k_150_48 : hm_code 150 48 = some (.iconst 3) := by decide +kernel
theorem k_150_49 : hm_code 150 49 = some (.invokevirtual 92) := by decide +kernel
theorem k_150_52 : hm_code 150 52 = some (.ifCond .ge 17) := by decide +kernel
theorem k_150_55 : hm_code 150 55 = some (.iload_n 2) := by decide +kernel
theorem k_150_56 : hm_code 150 56 = some (.iconst 3) := by decide +kernel
theorem k_150_57 : hm_code 150 57 = some (.if_icmp .ne 15) := by decide +kernel
theorem k_150_60 : hm_code 150 60 = some (.aload_n 0) := by decide +kernel
theorem k_150_61 : hm_code 150 61 = some (.iload_n 1) := by decide +kernel
theorem k_150_62 : hm_code 150 62 = some (.iconst 2) := by decide +kernel
theorem k_150_63 : hm_code 150 63 = some (.invokevirtual 92) := by decide +kernel
theorem k_150_66 : hm_code 150 66 = some (.ifCond .lt 6) := by decide +kernel
theorem k_150_69 : hm_code 150 69 = some (.bipush 8) := by decide +kernel
theorem k_150_71 : hm_code 150 71 = some (.ireturn) := by decide +kernel
theorem k_150_72 : hm_code 150 72 = some (.aload_n 0) := by decide +kernel
theorem k_150_73 : hm_code 150 73 = some (.iload_n 1) := by decide +kernel
theorem k_150_74 : hm_code 150 74 = some (.iload_n 3) := by decide +kernel
theorem k_150_75 : hm_code 150 75 = some (.invokevirtual 189) := by decide +kernel
theorem k_150_78 : hm_code 150 78 = some (.ifCond .eq 6) := by decide +kernel
theorem k_150_81 : hm_code 150 81 = some (.bipush 9) := by decide +kernel
theorem k_150_83 : hm_code 150 83 = some (.ireturn) := by decide +kernel
theorem k_150_84 : hm_code 150 84 = some (.aload_n 0) := by decide +kernel
theorem k_150_85 : hm_code 150 85 = some (.iload_n 3) := by decide +kernel
theorem k_150_86 : hm_code 150 86 = some (.invokevirtual 109) := by decide +kernel
theorem k_150_89 : hm_code 150 89 = some (.aload_n 0) := by decide +kernel
theorem k_150_90 : hm_code 150 90 = some (.getfield 7) := by decide +kernel
theorem k_150_93 : hm_code 150 93 = some (.iconst 0) := by decide +kernel
theorem k_150_94 : hm_code 150 94 = some (.iaload) := by decide +kernel
theorem k_150_95 : hm_code 150 95 = some (.if_icmp .lt 6) := by decide +kernel
theorem k_150_98 : hm_code 150 98 = some (.bipush 10) := by decide +kernel
theorem k_150_100 : hm_code 150 100 = some (.ireturn) := by decide +kernel
theorem k_150_101 : hm_code 150 101 = some (.aload_n 0) := by decide +kernel
theorem k_150_102 : hm_code 150 102 = some (.iload_n 1) := by decide +kernel
theorem k_150_103 : hm_code 150 103 = some (.iload_n 2) := by decide +kernel
theorem k_150_104 : hm_code 150 104 = some (.iload_n 3) := by decide +kernel
theorem k_150_105 : hm_code 150 105 = some (.invokevirtual 193) := by decide +kernel
theorem k_150_108 : hm_code 150 108 = some (.ifCond .eq 6) := by decide +kernel
theorem k_150_111 : hm_code 150 111 = some (.bipush 11) := by decide +kernel
theorem k_150_113 : hm_code 150 113 = some (.ireturn) := by decide +kernel
theorem k_150_114 : hm_code 150 114 = some (.iload_n 2) := by decide +kernel
theorem k_150_115 : hm_code 150 115 = some (.iconst 1) := by decide +kernel
theorem k_150_116 : hm_code 150 116 = some (.if_icmp .eq 8) := by decide +kernel
theorem k_150_119 : hm_code 150 119 = some (.iload_n 2) := by decide +kernel
theorem k_150_120 : hm_code 150 120 = some (.iconst 3) := by decide +kernel
theorem k_150_121 : hm_code 150 121 = some (.if_icmp .ne 53) := by decide +kernel
theorem k_150_124 : hm_code 150 124 = some (.aload_n 0) := by decide +kernel
theorem k_150_125 : hm_code 150 125 = some (.getfield 38) := by decide +kernel
theorem k_150_128 : hm_code 150 128 = some (.iload_n 1) := by decide +kernel
theorem k_150_129 : hm_code 150 129 = some (.iaload) := by decide +kernel
theorem k_150_130 : hm_code 150 130 = some (.ifCond .le 44) := by decide +kernel
theorem k_150_133 : hm_code 150 133 = some (.aload_n 0) := by decide +kernel
theorem k_150_134 : hm_code 150 134 = some (.getfield 47) := by decide +kernel
theorem k_150_137 : hm_code 150 137 = some (.iconst 4) := by decide +kernel
theorem k_150_138 : hm_code 150 138 = some (.iload_n 1) := by decide +kernel
theorem k_150_139 : hm_code 150 139 = some (.imul) := by decide +kernel
theorem k_150_140 : hm_code 150 140 = some (.iload_n 2) := by decide +kernel
theorem k_150_141 : hm_code 150 141 = some (.iadd) := by decide +kernel
theorem k_150_142 : hm_code 150 142 = some (.iload_n 3) := by decide +kernel
theorem k_150_143 : hm_code 150 143 = some (.iastore) := by decide +kernel
theorem k_150_144 : hm_code 150 144 = some (.aload_n 0) := by decide +kernel
theorem k_150_145 : hm_code 150 145 = some (.iload_n 3) := by decide +kernel
theorem k_150_146 : hm_code 150 146 = some (.invokevirtual 196) := by decide +kernel
theorem k_150_149 : hm_code 150 149 = some (.istore 5) := by decide +kernel
theorem k_150_151 : hm_code 150 151 = some (.aload_n 0) := by decide +kernel
theorem k_150_152 : hm_code 150 152 = some (.getfield 47) := by decide +kernel
theorem k_150_155 : hm_code 150 155 = some (.iconst 4) := by decide +kernel
theorem k_150_156 : hm_code 150 156 = some (.iload_n 1) := by decide +kernel
theorem k_150_157 : hm_code 150 157 = some (.imul) := by decide +kernel
theorem k_150_158 : hm_code 150 158 = some (.iload_n 2) := by decide +kernel
theorem k_150_159 : hm_code 150 159 = some (.iadd) := by decide +kernel
theorem k_150_160 : hm_code 150 160 = some (.iconst (-1)) := by decide +kernel
theorem k_150_161 : hm_code 150 161 = some (.iastore) := by decide +kernel
theorem k_150_162 : hm_code 150 162 = some (.iload 5) := by decide +kernel
theorem k_150_164 : hm_code 150 164 = some (.ifCond .eq 7) := by decide +kernel
theorem k_150_167 : hm_code 150 167 = some (.iconst 0) := by decide +kernel
theorem k_150_168 : hm_code 150 168 = some (.goto 5) := by decide +kernel
theorem k_150_171 : hm_code 150 171 = some (.bipush 12) := by decide +kernel
theorem k_150_173 : hm_code 150 173 = some (.ireturn) := by decide +kernel
theorem k_150_174 : hm_code 150 174 = some (.iconst 0) := by decide +kernel
theorem k_150_175 : hm_code 150 175 = some (.ireturn) := by decide +kernel
theorem m_151 : hm_mtab[151]? = some (⟨"HourPromisedModel", "isWantedLater", "(III)Z"⟩, prog_10_method_31_code, 6, (some .boolean), 8, 4, 1) := rfl
theorem k_151_0 : hm_code 151 0 = some (.iconst 0) := by decide +kernel
theorem k_151_1 : hm_code 151 1 = some (.istore 4) := by decide +kernel
theorem k_151_3 : hm_code 151 3 = some (.iconst 0) := by decide +kernel
theorem k_151_4 : hm_code 151 4 = some (.istore 5) := by decide +kernel
theorem k_151_6 : hm_code 151 6 = some (.iload 5) := by decide +kernel
theorem k_151_8 : hm_code 151 8 = some (.iconst 4) := by decide +kernel
theorem k_151_9 : hm_code 151 9 = some (.if_icmp .ge 58) := by decide +kernel
theorem k_151_12 : hm_code 151 12 = some (.iload 4) := by decide +kernel
theorem k_151_14 : hm_code 151 14 = some (.ifCond .ne 40) := by decide +kernel
theorem k_151_17 : hm_code 151 17 = some (.aload_n 0) := by decide +kernel
theorem k_151_18 : hm_code 151 18 = some (.iload_n 1) := by decide +kernel
theorem k_151_19 : hm_code 151 19 = some (.iload 5) := by decide +kernel
theorem k_151_21 : hm_code 151 21 = some (.invokevirtual 92) := by decide +kernel
theorem k_151_24 : hm_code 151 24 = some (.ifCond .lt 34) := by decide +kernel
theorem k_151_27 : hm_code 151 27 = some (.aload_n 0) := by decide +kernel
theorem k_151_28 : hm_code 151 28 = some (.iload_n 1) := by decide +kernel
theorem k_151_29 : hm_code 151 29 = some (.iload 5) := by decide +kernel
theorem k_151_31 : hm_code 151 31 = some (.invokevirtual 92) := by decide +kernel
theorem k_151_34 : hm_code 151 34 = some (.iload_n 3) := by decide +kernel
theorem k_151_35 : hm_code 151 35 = some (.if_icmp .gt 23) := by decide +kernel
theorem k_151_38 : hm_code 151 38 = some (.aload_n 0) := by decide +kernel
theorem k_151_39 : hm_code 151 39 = some (.iload_n 1) := by decide +kernel
theorem k_151_40 : hm_code 151 40 = some (.iload 5) := by decide +kernel
theorem k_151_42 : hm_code 151 42 = some (.iconst 4) := by decide +kernel
theorem k_151_43 : hm_code 151 43 = some (.invokevirtual 169) := by decide +kernel
theorem k_151_46 : hm_code 151 46 = some (.iload_n 2) := by decide +kernel
theorem k_151_47 : hm_code 151 47 = some (.ishr) := by decide +kernel
theorem k_151_48 : hm_code 151 48 = some (.iconst 1) := by decide +kernel
theorem k_151_49 : hm_code 151 49 = some (.iand) := by decide +kernel
theorem k_151_50 : hm_code 151 50 = some (.iconst 1) := by decide +kernel
theorem k_151_51 : hm_code 151 51 = some (.if_icmp .ne 7) := by decide +kernel
theorem k_151_54 : hm_code 151 54 = some (.iconst 1) := by decide +kernel
theorem k_151_55 : hm_code 151 55 = some (.goto 4) := by decide +kernel
theorem k_151_58 : hm_code 151 58 = some (.iconst 0) := by decide +kernel
theorem k_151_59 : hm_code 151 59 = some (.istore 4) := by decide +kernel
theorem k_151_61 : hm_code 151 61 = some (.iinc 5 1) := by decide +kernel
theorem k_151_64 : hm_code 151 64 = some (.goto (-58)) := by decide +kernel
theorem k_151_67 : hm_code 151 67 = some (.iload 4) := by decide +kernel
theorem k_151_69 : hm_code 151 69 = some (.ireturn) := by decide +kernel
theorem m_152 : hm_mtab[152]? = some (⟨"HourPromisedModel", "isBusy", "(II)Z"⟩, prog_10_method_32_code, 5, (some .boolean), 8, 3, 1) := rfl
theorem k_152_0 : hm_code 152 0 = some (.iconst 0) := by decide +kernel
theorem k_152_1 : hm_code 152 1 = some (.istore_n 3) := by decide +kernel
theorem k_152_2 : hm_code 152 2 = some (.iconst 0) := by decide +kernel
theorem k_152_3 : hm_code 152 3 = some (.istore 4) := by decide +kernel
theorem k_152_5 : hm_code 152 5 = some (.iload 4) := by decide +kernel
theorem k_152_7 : hm_code 152 7 = some (.iconst 4) := by decide +kernel
theorem k_152_8 : hm_code 152 8 = some (.if_icmp .ge 30) := by decide +kernel
theorem k_152_11 : hm_code 152 11 = some (.iload_n 3) := by decide +kernel
theorem k_152_12 : hm_code 152 12 = some (.ifCond .ne 14) := by decide +kernel
theorem k_152_15 : hm_code 152 15 = some (.aload_n 0) := by decide +kernel
theorem k_152_16 : hm_code 152 16 = some (.iload_n 1) := by decide +kernel
theorem k_152_17 : hm_code 152 17 = some (.iload 4) := by decide +kernel
theorem k_152_19 : hm_code 152 19 = some (.invokevirtual 92) := by decide +kernel
theorem k_152_22 : hm_code 152 22 = some (.iload_n 2) := by decide +kernel
theorem k_152_23 : hm_code 152 23 = some (.if_icmp .ne 7) := by decide +kernel
theorem k_152_26 : hm_code 152 26 = some (.iconst 1) := by decide +kernel
theorem k_152_27 : hm_code 152 27 = some (.goto 4) := by decide +kernel
theorem k_152_30 : hm_code 152 30 = some (.iconst 0) := by decide +kernel
theorem k_152_31 : hm_code 152 31 = some (.istore_n 3) := by decide +kernel
theorem k_152_32 : hm_code 152 32 = some (.iinc 4 1) := by decide +kernel
theorem k_152_35 : hm_code 152 35 = some (.goto (-30)) := by decide +kernel
theorem k_152_38 : hm_code 152 38 = some (.iload_n 3) := by decide +kernel
theorem k_152_39 : hm_code 152 39 = some (.ireturn) := by decide +kernel
theorem m_153 : hm_mtab[153]? = some (⟨"HourPromisedModel", "placeMiss", "(III)Z"⟩, prog_10_method_33_code, 6, (some .boolean), 8, 4, 1) := rfl
theorem k_153_0 : hm_code 153 0 = some (.iload_n 2) := by decide +kernel
theorem k_153_1 : hm_code 153 1 = some (.iconst 1) := by decide +kernel
theorem k_153_2 : hm_code 153 2 = some (.if_icmp .ne 23) := by decide +kernel
theorem k_153_5 : hm_code 153 5 = some (.aload_n 0) := by decide +kernel
theorem k_153_6 : hm_code 153 6 = some (.iload_n 3) := by decide +kernel
theorem k_153_7 : hm_code 153 7 = some (.iconst 1) := by decide +kernel
theorem k_153_8 : hm_code 153 8 = some (.invokevirtual 96) := by decide +kernel
theorem k_153_11 : hm_code 153 11 = some (.aload_n 0) := by decide +kernel
theorem k_153_12 : hm_code 153 12 = some (.iload_n 3) := by decide +kernel
theorem k_153_13 : hm_code 153 13 = some (.invokevirtual 117) := by decide +kernel
theorem k_153_16 : hm_code 153 16 = some (.if_icmp .lt 7) := by decide +kernel
theorem k_153_19 : hm_code 153 19 = some (.iconst 1) := by decide +kernel
theorem k_153_20 : hm_code 153 20 = some (.goto 4) := by decide +kernel
theorem k_153_23 : hm_code 153 23 = some (.iconst 0) := by decide +kernel
theorem k_153_24 : hm_code 153 24 = some (.ireturn) := by decide +kernel
theorem k_153_25 : hm_code 153 25 = some (.iload_n 2) := by decide +kernel
theorem k_153_26 : hm_code 153 26 = some (.iconst 2) := by decide +kernel
theorem k_153_27 : hm_code 153 27 = some (.if_icmp .ne 24) := by decide +kernel
theorem k_153_30 : hm_code 153 30 = some (.aload_n 0) := by decide +kernel
theorem k_153_31 : hm_code 153 31 = some (.iload_n 3) := by decide +kernel
theorem k_153_32 : hm_code 153 32 = some (.iconst 2) := by decide +kernel
theorem k_153_33 : hm_code 153 33 = some (.invokevirtual 96) := by decide +kernel
theorem k_153_36 : hm_code 153 36 = some (.aload_n 0) := by decide +kernel
theorem k_153_37 : hm_code 153 37 = some (.getfield 7) := by decide +kernel
theorem k_153_40 : hm_code 153 40 = some (.iconst 1) := by decide +kernel
theorem k_153_41 : hm_code 153 41 = some (.iaload) := by decide +kernel
theorem k_153_42 : hm_code 153 42 = some (.if_icmp .lt 7) := by decide +kernel
theorem k_153_45 : hm_code 153 45 = some (.iconst 1) := by decide +kernel
theorem k_153_46 : hm_code 153 46 = some (.goto 4) := by decide +kernel
theorem k_153_49 : hm_code 153 49 = some (.iconst 0) := by decide +kernel
theorem k_153_50 : hm_code 153 50 = some (.ireturn) := by decide +kernel
theorem k_153_51 : hm_code 153 51 = some (.iconst 0) := by decide +kernel
theorem k_153_52 : hm_code 153 52 = some (.istore 4) := by decide +kernel
theorem k_153_54 : hm_code 153 54 = some (.iload_n 3) := by decide +kernel
theorem k_153_55 : hm_code 153 55 = some (.istore 5) := by decide +kernel
theorem k_153_57 : hm_code 153 57 = some (.iload 5) := by decide +kernel
theorem k_153_59 : hm_code 153 59 = some (.aload_n 0) := by decide +kernel
theorem k_153_60 : hm_code 153 60 = some (.iload_n 1) := by decide +kernel
theorem k_153_61 : hm_code 153 61 = some (.invokevirtual 99) := by decide +kernel
theorem k_153_64 : hm_code 153 64 = some (.if_icmp .gt 40) := by decide +kernel
theorem k_153_67 : hm_code 153 67 = some (.iload_n 2) := by decide +kernel
theorem k_153_68 : hm_code 153 68 = some (.ifCond .ne 36) := by decide +kernel
theorem k_153_71 : hm_code 153 71 = some (.iload 4) := by decide +kernel
theorem k_153_73 : hm_code 153 73 = some (.ifCond .ne 18) := by decide +kernel
theorem k_153_76 : hm_code 153 76 = some (.aload_n 0) := by decide +kernel
theorem k_153_77 : hm_code 153 77 = some (.iload 5) := by decide +kernel
theorem k_153_79 : hm_code 153 79 = some (.invokevirtual 112) := by decide +kernel
theorem k_153_82 : hm_code 153 82 = some (.aload_n 0) := by decide +kernel
theorem k_153_83 : hm_code 153 83 = some (.getfield 7) := by decide +kernel
theorem k_153_86 : hm_code 153 86 = some (.iconst 2) := by decide +kernel
theorem k_153_87 : hm_code 153 87 = some (.iaload) := by decide +kernel
theorem k_153_88 : hm_code 153 88 = some (.if_icmp .lt 7) := by decide +kernel
theorem k_153_91 : hm_code 153 91 = some (.iconst 1) := by decide +kernel
theorem k_153_92 : hm_code 153 92 = some (.goto 4) := by decide +kernel
theorem k_153_95 : hm_code 153 95 = some (.iconst 0) := by decide +kernel
theorem k_153_96 : hm_code 153 96 = some (.istore 4) := by decide +kernel
theorem k_153_98 : hm_code 153 98 = some (.iinc 5 1) := by decide +kernel
theorem k_153_101 : hm_code 153 101 = some (.goto (-44)) := by decide +kernel
theorem k_153_104 : hm_code 153 104 = some (.iload 4) := by decide +kernel
theorem k_153_106 : hm_code 153 106 = some (.ireturn) := by decide +kernel
theorem m_154 : hm_mtab[154]? = some (⟨"HourPromisedModel", "findSets", "(I)Z"⟩, prog_10_method_36_code, 4, (some .boolean), 8, 2, 1) := rfl
theorem k_154_0 : hm_code 154 0 = some (.aload_n 0) := by decide +kernel
theorem k_154_1 : hm_code 154 1 = some (.iconst 0) := by decide +kernel
theorem k_154_2 : hm_code 154 2 = some (.putfield 199) := by decide +kernel
theorem k_154_5 : hm_code 154 5 = some (.iconst 0) := by decide +kernel
theorem k_154_6 : hm_code 154 6 = some (.istore_n 2) := by decide +kernel
theorem k_154_7 : hm_code 154 7 = some (.iload_n 2) := by decide +kernel
theorem k_154_8 : hm_code 154 8 = some (.iconst 4) := by decide +kernel
theorem k_154_9 : hm_code 154 9 = some (.aload_n 0) := by decide +kernel
theorem k_154_10 : hm_code 154 10 = some (.getfield 81) := by decide +kernel
theorem k_154_13 : hm_code 154 13 = some (.imul) := by decide +kernel
theorem k_154_14 : hm_code 154 14 = some (.if_icmp .ge 99) := by decide +kernel
theorem k_154_17 : hm_code 154 17 = some (.iload_n 2) := by decide +kernel
theorem k_154_18 : hm_code 154 18 = some (.iconst 4) := by decide +kernel
theorem k_154_19 : hm_code 154 19 = some (.irem) := by decide +kernel
theorem k_154_20 : hm_code 154 20 = some (.iconst 1) := by decide +kernel
theorem k_154_21 : hm_code 154 21 = some (.if_icmp .eq 10) := by decide +kernel
theorem k_154_24 : hm_code 154 24 = some (.iload_n 2) := by decide +kernel
theorem k_154_25 : hm_code 154 25 = some (.iconst 4) := by decide +kernel
theorem k_154_26 : hm_code 154 26 = some (.irem) := by decide +kernel
theorem k_154_27 : hm_code 154 27 = some (.iconst 3) := by decide +kernel
theorem k_154_28 : hm_code 154 28 = some (.if_icmp .ne 79) := by decide +kernel
theorem k_154_31 : hm_code 154 31 = some (.aload_n 0) := by decide +kernel
theorem k_154_32 : hm_code 154 32 = some (.getfield 47) := by decide +kernel
theorem k_154_35 : hm_code 154 35 = some (.iload_n 2) := by decide +kernel
theorem k_154_36 : hm_code 154 36 = some (.iaload) := by decide +kernel
theorem k_154_37 : hm_code 154 37 = some (.iload_n 1) := by decide +kernel
theorem k_154_38 : hm_code 154 38 = some (.if_icmp .ne 69) := by decide +kernel
theorem k_154_41 : hm_code 154 41 = some (.aload_n 0) := by decide +kernel
theorem k_154_42 : hm_code 154 42 = some (.getfield 38) := by decide +kernel
theorem k_154_45 : hm_code 154 45 = some (.iload_n 2) := by decide +kernel
theorem k_154_46 : hm_code 154 46 = some (.iconst 4) := by decide +kernel
theorem k_154_47 : hm_code 154 47 = some (.idiv) := by decide +kernel
theorem k_154_48 : hm_code 154 48 = some (.iaload) := by decide +kernel
theorem k_154_49 : hm_code 154 49 = some (.ifCond .le 58) := by decide +kernel
theorem k_154_52 : hm_code 154 52 = some (.aload_n 0) := by decide +kernel
theorem k_154_53 : hm_code 154 53 = some (.getfield 199) := by decide +kernel
theorem k_154_56 : hm_code 154 56 = some (.bipush 8) := by decide +kernel
theorem k_154_58 : hm_code 154 58 = some (.if_icmp .ne 5) := by decide +kernel
theorem k_154_61 : hm_code 154 61 = some (.iconst 0) := by decide +kernel
theorem k_154_62 : hm_code 154 62 = some (.ireturn) := by decide +kernel
theorem k_154_63 : hm_code 154 63 = some (.aload_n 0) := by decide +kernel
theorem k_154_64 : hm_code 154 64 = some (.getfield 66) := by decide +kernel
theorem k_154_67 : hm_code 154 67 = some (.aload_n 0) := by decide +kernel
theorem k_154_68 : hm_code 154 68 = some (.getfield 199) := by decide +kernel
theorem k_154_71 : hm_code 154 71 = some (.iload_n 2) := by decide +kernel
theorem k_154_72 : hm_code 154 72 = some (.iastore) := by decide +kernel
theorem k_154_73 : hm_code 154 73 = some (.aload_n 0) := by decide +kernel
theorem k_154_74 : hm_code 154 74 = some (.getfield 69) := by decide +kernel
theorem k_154_77 : hm_code 154 77 = some (.aload_n 0) := by decide +kernel
theorem k_154_78 : hm_code 154 78 = some (.getfield 199) := by decide +kernel
theorem k_154_81 : hm_code 154 81 = some (.aload_n 0) := by decide +kernel
theorem k_154_82 : hm_code 154 82 = some (.iload_n 2) := by decide +kernel
theorem k_154_83 : hm_code 154 83 = some (.iconst 4) := by decide +kernel
theorem k_154_84 : hm_code 154 84 = some (.idiv) := by decide +kernel
theorem k_154_85 : hm_code 154 85 = some (.sipush 924) := by decide +kernel
theorem k_154_88 : hm_code 154 88 = some (.aload_n 0) := by decide +kernel
theorem k_154_89 : hm_code 154 89 = some (.getfield 199) := by decide +kernel
theorem k_154_92 : hm_code 154 92 = some (.imul) := by decide +kernel
theorem k_154_93 : hm_code 154 93 = some (.invokevirtual 202) := by decide +kernel
theorem k_154_96 : hm_code 154 96 = some (.iastore) := by decide +kernel
theorem k_154_97 : hm_code 154 97 = some (.aload_n 0) := by decide +kernel
theorem k_154_98 : hm_code 154 98 = some (.dup) := by decide +kernel
theorem k_154_99 : hm_code 154 99 = some (.getfield 199) := by decide +kernel
theorem k_154_102 : hm_code 154 102 = some (.iconst 1) := by decide +kernel
theorem k_154_103 : hm_code 154 103 = some (.iadd) := by decide +kernel
theorem k_154_104 : hm_code 154 104 = some (.putfield 199) := by decide +kernel
theorem k_154_107 : hm_code 154 107 = some (.iinc 2 1) := by decide +kernel
theorem k_154_110 : hm_code 154 110 = some (.goto (-103)) := by decide +kernel
theorem k_154_113 : hm_code 154 113 = some (.iconst 0) := by decide +kernel
theorem k_154_114 : hm_code 154 114 = some (.istore_n 2) := by decide +kernel
theorem k_154_115 : hm_code 154 115 = some (.iconst 0) := by decide +kernel
theorem k_154_116 : hm_code 154 116 = some (.istore_n 3) := by decide +kernel
theorem k_154_117 : hm_code 154 117 = some (.aload_n 0) := by decide +kernel
theorem k_154_118 : hm_code 154 118 = some (.getfield 75) := by decide +kernel
theorem k_154_121 : hm_code 154 121 = some (.iconst 0) := by decide +kernel
theorem k_154_122 : hm_code 154 122 = some (.iconst (-1)) := by decide +kernel
theorem k_154_123 : hm_code 154 123 = some (.iastore) := by decide +kernel
theorem k_154_124 : hm_code 154 124 = some (.iload_n 2) := by decide +kernel
theorem k_154_125 : hm_code 154 125 = some (.ifCond .lt 164) := by decide +kernel
theorem k_154_128 : hm_code 154 128 = some (.iload_n 2) := by decide +kernel
theorem k_154_129 : hm_code 154 129 = some (.aload_n 0) := by decide +kernel
theorem k_154_130 : hm_code 154 130 = some (.getfield 199) := by decide +kernel
theorem k_154_133 : hm_code 154 133 = some (.if_icmp .ge 156) := by decide +kernel
theorem k_154_136 : hm_code 154 136 = some (.aload_n 0) := by decide +kernel
theorem k_154_137 : hm_code 154 137 = some (.getfield 75) := by decide +kernel
theorem k_154_140 : hm_code 154 140 = some (.iload_n 2) := by decide +kernel
theorem k_154_141 : hm_code 154 141 = some (.iaload) := by decide +kernel
theorem k_154_142 : hm_code 154 142 = some (.ifCond .lt 25) := by decide +kernel
theorem k_154_145 : hm_code 154 145 = some (.iload_n 3) := by decide +kernel
theorem k_154_146 : hm_code 154 146 = some (.aload_n 0) := by decide +kernel
theorem k_154_147 : hm_code 154 147 = some (.getfield 72) := by decide +kernel
theorem k_154_150 : hm_code 154 150 = some (.sipush 924) := by decide +kernel
theorem k_154_153 : hm_code 154 153 = some (.iload_n 2) := by decide +kernel
theorem k_154_154 : hm_code 154 154 = some (.imul) := by decide +kernel
theorem k_154_155 : hm_code 154 155 = some (.aload_n 0) := by decide +kernel
theorem k_154_156 : hm_code 154 156 = some (.getfield 75) := by decide +kernel
theorem k_154_159 : hm_code 154 159 = some (.iload_n 2) := by decide +kernel
theorem k_154_160 : hm_code 154 160 = some (.iaload) := by decide +kernel
theorem k_154_161 : hm_code 154 161 = some (.iadd) := by decide +kernel
theorem k_154_162 : hm_code 154 162 = some (.iaload) := by decide +kernel
theorem k_154_163 : hm_code 154 163 = some (.iconst (-1)) := by decide +kernel
theorem k_154_164 : hm_code 154 164 = some (.ixor) := by decide +kernel
theorem k_154_165 : hm_code 154 165 = some (.iand) := by decide +kernel
theorem k_154_166 : hm_code 154 166 = some (.istore_n 3) := by decide +kernel
theorem k_154_167 : hm_code 154 167 = some (.aload_n 0) := by decide +kernel
theorem k_154_168 : hm_code 154 168 = some (.getfield 75) := by decide +kernel
theorem k_154_171 : hm_code 154 171 = some (.iload_n 2) := by decide +kernel
theorem k_154_172 : hm_code 154 172 = some (.dup2) := by decide +kernel
theorem k_154_173 : hm_code 154 173 = some (.iaload) := by decide +kernel
theorem k_154_174 : hm_code 154 174 = some (.iconst 1) := by decide +kernel
theorem k_154_175 : hm_code 154 175 = some (.iadd) := by decide +kernel
theorem k_154_176 : hm_code 154 176 = some (.iastore) := by decide +kernel
theorem k_154_177 : hm_code 154 177 = some (.aload_n 0) := by decide +kernel
theorem k_154_178 : hm_code 154 178 = some (.getfield 75) := by decide +kernel
theorem k_154_181 : hm_code 154 181 = some (.iload_n 2) := by decide +kernel
theorem k_154_182 : hm_code 154 182 = some (.iaload) := by decide +kernel
theorem k_154_183 : hm_code 154 183 = some (.aload_n 0) := by decide +kernel
theorem k_154_184 : hm_code 154 184 = some (.getfield 69) := by decide +kernel
theorem k_154_187 : hm_code 154 187 = some (.iload_n 2) := by decide +kernel
theorem k_154_188 : hm_code 154 188 = some (.iaload) := by decide +kernel
theorem k_154_189 : hm_code 154 189 = some (.if_icmp .ge 38) := by decide +kernel
theorem k_154_192 : hm_code 154 192 = some (.aload_n 0) := by decide +kernel
theorem k_154_193 : hm_code 154 193 = some (.getfield 72) := by decide +kernel
theorem k_154_196 : hm_code 154 196 = some (.sipush 924) := by decide +kernel
theorem k_154_199 : hm_code 154 199 = some (.iload_n 2) := by decide +kernel
theorem k_154_200 : hm_code 154 200 = some (.imul) := by decide +kernel
theorem k_154_201 : hm_code 154 201 = some (.aload_n 0) := by decide +kernel
theorem k_154_202 : hm_code 154 202 = some (.getfield 75) := by decide +kernel
theorem k_154_205 : hm_code 154 205 = some (.iload_n 2) := by decide +kernel
theorem k_154_206 : hm_code 154 206 = some (.iaload) := by decide +kernel
theorem k_154_207 : hm_code 154 207 = some (.iadd) := by decide +kernel
theorem k_154_208 : hm_code 154 208 = some (.iaload) := by decide +kernel
theorem k_154_209 : hm_code 154 209 = some (.iload_n 3) := by decide +kernel
theorem k_154_210 : hm_code 154 210 = some (.iand) := by decide +kernel
theorem k_154_211 : hm_code 154 211 = some (.ifCond .eq 16) := by decide +kernel
theorem k_154_214 : hm_code 154 214 = some (.aload_n 0) := by decide +kernel
theorem k_154_215 : hm_code 154 215 = some (.getfield 75) := by decide +kernel
theorem k_154_218 : hm_code 154 218 = some (.iload_n 2) := by decide +kernel
theorem k_154_219 : hm_code 154 219 = some (.dup2) := by decide +kernel
theorem k_154_220 : hm_code 154 220 = some (.iaload) := by decide +kernel
theorem k_154_221 : hm_code 154 221 = some (.iconst 1) := by decide +kernel
theorem k_154_222 : hm_code 154 222 = some (.iadd) := by decide +kernel
theorem k_154_223 : hm_code 154 223 = some (.iastore) := by decide +kernel
theorem k_154_224 : hm_code 154 224 = some (.goto (-47)) := by decide +kernel
theorem k_154_227 : hm_code 154 227 = some (.aload_n 0) := by decide +kernel
theorem k_154_228 : hm_code 154 228 = some (.getfield 75) := by decide +kernel
theorem k_154_231 : hm_code 154 231 = some (.iload_n 2) := by decide +kernel
theorem k_154_232 : hm_code 154 232 = some (.iaload) := by decide +kernel
theorem k_154_233 : hm_code 154 233 = some (.aload_n 0) := by decide +kernel
theorem k_154_234 : hm_code 154 234 = some (.getfield 69) := by decide +kernel
theorem k_154_237 : hm_code 154 237 = some (.iload_n 2) := by decide +kernel
theorem k_154_238 : hm_code 154 238 = some (.iaload) := by decide +kernel
theorem k_154_239 : hm_code 154 239 = some (.if_icmp .ne 9) := by decide +kernel
theorem k_154_242 : hm_code 154 242 = some (.iinc 2 (-1)) := by decide +kernel
theorem k_154_245 : hm_code 154 245 = some (.goto (-121)) := by decide +kernel
theorem k_154_248 : hm_code 154 248 = some (.iload_n 3) := by decide +kernel
theorem k_154_249 : hm_code 154 249 = some (.aload_n 0) := by decide +kernel
theorem k_154_250 : hm_code 154 250 = some (.getfield 72) := by decide +kernel
theorem k_154_253 : hm_code 154 253 = some (.sipush 924) := by decide +kernel
theorem k_154_256 : hm_code 154 256 = some (.iload_n 2) := by decide +kernel
theorem k_154_257 : hm_code 154 257 = some (.imul) := by decide +kernel
theorem k_154_258 : hm_code 154 258 = some (.aload_n 0) := by decide +kernel
theorem k_154_259 : hm_code 154 259 = some (.getfield 75) := by decide +kernel
theorem k_154_262 : hm_code 154 262 = some (.iload_n 2) := by decide +kernel
theorem k_154_263 : hm_code 154 263 = some (.iaload) := by decide +kernel
theorem k_154_264 : hm_code 154 264 = some (.iadd) := by decide +kernel
theorem k_154_265 : hm_code 154 265 = some (.iaload) := by decide +kernel
theorem k_154_266 : hm_code 154 266 = some (.ior) := by decide +kernel
theorem k_154_267 : hm_code 154 267 = some (.istore_n 3) := by decide +kernel
theorem k_154_268 : hm_code 154 268 = some (.iinc 2 1) := by decide +kernel
theorem k_154_271 : hm_code 154 271 = some (.iload_n 2) := by decide +kernel
theorem k_154_272 : hm_code 154 272 = some (.aload_n 0) := by decide +kernel
theorem k_154_273 : hm_code 154 273 = some (.getfield 199) := by decide +kernel
theorem k_154_276 : hm_code 154 276 = some (.if_icmp .ge (-152)) := by decide +kernel
theorem k_154_279 : hm_code 154 279 = some (.aload_n 0) := by decide +kernel
theorem k_154_280 : hm_code 154 280 = some (.getfield 75) := by decide +kernel
theorem k_154_283 : hm_code 154 283 = some (.iload_n 2) := by decide +kernel
theorem k_154_284 : hm_code 154 284 = some (.iconst (-1)) := by decide +kernel
theorem k_154_285 : hm_code 154 285 = some (.iastore) := by decide +kernel
theorem k_154_286 : hm_code 154 286 = some (.goto (-162)) := by decide +kernel
theorem k_154_289 : hm_code 154 289 = some (.iload_n 2) := by decide +kernel
theorem k_154_290 : hm_code 154 290 = some (.aload_n 0) := by decide +kernel
theorem k_154_291 : hm_code 154 291 = some (.getfield 199) := by decide +kernel
theorem k_154_294 : hm_code 154 294 = some (.if_icmp .ne 7) := by decide +kernel
theorem k_154_297 : hm_code 154 297 = some (.iconst 1) := by decide +kernel
theorem k_154_298 : hm_code 154 298 = some (.goto 4) := by decide +kernel
theorem k_154_301 : hm_code 154 301 = some (.iconst 0) := by decide +kernel
theorem k_154_302 : hm_code 154 302 = some (.ireturn) := by decide +kernel
theorem m_155 : hm_mtab[155]? = some (⟨"HourPromisedModel", "listSets", "(II)I"⟩, prog_10_method_35_code, 11, (some .int), 8, 3, 1) := rfl
theorem k_155_0 : hm_code 155 0 = some (.aload_n 0) := by decide +kernel
theorem k_155_1 : hm_code 155 1 = some (.getfield 38) := by decide +kernel
theorem k_155_4 : hm_code 155 4 = some (.iload_n 1) := by decide +kernel
theorem k_155_5 : hm_code 155 5 = some (.iaload) := by decide +kernel
theorem k_155_6 : hm_code 155 6 = some (.istore_n 3) := by decide +kernel
theorem k_155_7 : hm_code 155 7 = some (.iconst 0) := by decide +kernel
theorem k_155_8 : hm_code 155 8 = some (.istore 4) := by decide +kernel
theorem k_155_10 : hm_code 155 10 = some (.iload_n 3) := by decide +kernel
theorem k_155_11 : hm_code 155 11 = some (.aload_n 0) := by decide +kernel
theorem k_155_12 : hm_code 155 12 = some (.getfield 124) := by decide +kernel
theorem k_155_15 : hm_code 155 15 = some (.if_icmp .le 5) := by decide +kernel
theorem k_155_18 : hm_code 155 18 = some (.iconst 0) := by decide +kernel
theorem k_155_19 : hm_code 155 19 = some (.ireturn) := by decide +kernel
theorem k_155_20 : hm_code 155 20 = some (.iconst 0) := by decide +kernel
theorem k_155_21 : hm_code 155 21 = some (.istore 5) := by decide +kernel
theorem k_155_23 : hm_code 155 23 = some (.iload 5) := by decide +kernel
theorem k_155_25 : hm_code 155 25 = some (.iload_n 3) := by decide +kernel
theorem k_155_26 : hm_code 155 26 = some (.if_icmp .ge 18) := by decide +kernel
theorem k_155_29 : hm_code 155 29 = some (.aload_n 0) := by decide +kernel
theorem k_155_30 : hm_code 155 30 = some (.getfield 78) := by decide +kernel
theorem k_155_33 : hm_code 155 33 = some (.iload 5) := by decide +kernel
theorem k_155_35 : hm_code 155 35 = some (.iload 5) := by decide +kernel
theorem k_155_37 : hm_code 155 37 = some (.iastore) := by decide +kernel
theorem k_155_38 : hm_code 155 38 = some (.iinc 5 1) := by decide +kernel
theorem k_155_41 : hm_code 155 41 = some (.goto (-18)) := by decide +kernel
theorem k_155_44 : hm_code 155 44 = some (.iconst 1) := by decide +kernel
theorem k_155_45 : hm_code 155 45 = some (.istore 5) := by decide +kernel
theorem k_155_47 : hm_code 155 47 = some (.iload 5) := by decide +kernel
theorem k_155_49 : hm_code 155 49 = some (.ifCond .eq 219) := by decide +kernel
theorem k_155_52 : hm_code 155 52 = some (.sipush 999) := by decide +kernel
theorem k_155_55 : hm_code 155 55 = some (.istore 6) := by decide +kernel
theorem k_155_57 : hm_code 155 57 = some (.iconst 0) := by decide +kernel
theorem k_155_58 : hm_code 155 58 = some (.istore 7) := by decide +kernel
theorem k_155_60 : hm_code 155 60 = some (.iconst 0) := by decide +kernel
theorem k_155_61 : hm_code 155 61 = some (.istore 8) := by decide +kernel
theorem k_155_63 : hm_code 155 63 = some (.iconst 0) := by decide +kernel
theorem k_155_64 : hm_code 155 64 = some (.istore 9) := by decide +kernel
theorem k_155_66 : hm_code 155 66 = some (.iload 9) := by decide +kernel
theorem k_155_68 : hm_code 155 68 = some (.iload_n 3) := by decide +kernel
theorem k_155_69 : hm_code 155 69 = some (.if_icmp .ge 69) := by decide +kernel
theorem k_155_72 : hm_code 155 72 = some (.aload_n 0) := by decide +kernel
theorem k_155_73 : hm_code 155 73 = some (.getfield 16) := by decide +kernel
theorem k_155_76 : hm_code 155 76 = some (.aload_n 0) := by decide +kernel
theorem k_155_77 : hm_code 155 77 = some (.getfield 78) := by decide +kernel
theorem k_155_80 : hm_code 155 80 = some (.iload 9) := by decide +kernel
theorem k_155_82 : hm_code 155 82 = some (.iaload) := by decide +kernel
theorem k_155_83 : hm_code 155 83 = some (.iaload) := by decide +kernel
theorem k_155_84 : hm_code 155 84 = some (.istore 10) := by decide +kernel
theorem k_155_86 : hm_code 155 86 = some (.iload 10) := by decide +kernel
theorem k_155_88 : hm_code 155 88 = some (.iload 6) := by decide +kernel
theorem k_155_90 : hm_code 155 90 = some (.if_icmp .ge 8) := by decide +kernel
theorem k_155_93 : hm_code 155 93 = some (.iload 10) := by decide +kernel
theorem k_155_95 : hm_code 155 95 = some (.goto 5) := by decide +kernel
theorem k_155_98 : hm_code 155 98 = some (.iload 6) := by decide +kernel
theorem k_155_100 : hm_code 155 100 = some (.istore 6) := by decide +kernel
theorem k_155_102 : hm_code 155 102 = some (.iload 10) := by decide +kernel
theorem k_155_104 : hm_code 155 104 = some (.iload 7) := by decide +kernel
theorem k_155_106 : hm_code 155 106 = some (.if_icmp .le 8) := by decide +kernel
theorem k_155_109 : hm_code 155 109 = some (.iload 10) := by decide +kernel
theorem k_155_111 : hm_code 155 111 = some (.goto 5) := by decide +kernel
theorem k_155_114 : hm_code 155 114 = some (.iload 7) := by decide +kernel
theorem k_155_116 : hm_code 155 116 = some (.istore 7) := by decide +kernel
theorem k_155_118 : hm_code 155 118 = some (.iload 8) := by decide +kernel
theorem k_155_120 : hm_code 155 120 = some (.iconst 1) := by decide +kernel
theorem k_155_121 : hm_code 155 121 = some (.aload_n 0) := by decide +kernel
theorem k_155_122 : hm_code 155 122 = some (.getfield 78) := by decide +kernel
theorem k_155_125 : hm_code 155 125 = some (.iload 9) := by decide +kernel
theorem k_155_127 : hm_code 155 127 = some (.iaload) := by decide +kernel
theorem k_155_128 : hm_code 155 128 = some (.ishl) := by decide +kernel
theorem k_155_129 : hm_code 155 129 = some (.ior) := by decide +kernel
theorem k_155_130 : hm_code 155 130 = some (.istore 8) := by decide +kernel
theorem k_155_132 : hm_code 155 132 = some (.iinc 9 1) := by decide +kernel
theorem k_155_135 : hm_code 155 135 = some (.goto (-69)) := by decide +kernel
theorem k_155_138 : hm_code 155 138 = some (.iload 7) := by decide +kernel
theorem k_155_140 : hm_code 155 140 = some (.iload 6) := by decide +kernel
theorem k_155_142 : hm_code 155 142 = some (.isub) := by decide +kernel
theorem k_155_143 : hm_code 155 143 = some (.aload_n 0) := by decide +kernel
theorem k_155_144 : hm_code 155 144 = some (.getfield 41) := by decide +kernel
theorem k_155_147 : hm_code 155 147 = some (.iload_n 1) := by decide +kernel
theorem k_155_148 : hm_code 155 148 = some (.iaload) := by decide +kernel
theorem k_155_149 : hm_code 155 149 = some (.if_icmp .gt 17) := by decide +kernel
theorem k_155_152 : hm_code 155 152 = some (.aload_n 0) := by decide +kernel
theorem k_155_153 : hm_code 155 153 = some (.getfield 72) := by decide +kernel
theorem k_155_156 : hm_code 155 156 = some (.iload_n 2) := by decide +kernel
theorem k_155_157 : hm_code 155 157 = some (.iload 4) := by decide +kernel
theorem k_155_159 : hm_code 155 159 = some (.iadd) := by decide +kernel
theorem k_155_160 : hm_code 155 160 = some (.iload 8) := by decide +kernel
theorem k_155_162 : hm_code 155 162 = some (.iastore) := by decide +kernel
theorem k_155_163 : hm_code 155 163 = some (.iinc 4 1) := by decide +kernel
theorem k_155_166 : hm_code 155 166 = some (.iload_n 3) := by decide +kernel
theorem k_155_167 : hm_code 155 167 = some (.iconst 1) := by decide +kernel
theorem k_155_168 : hm_code 155 168 = some (.isub) := by decide +kernel
theorem k_155_169 : hm_code 155 169 = some (.istore 9) := by decide +kernel
theorem k_155_171 : hm_code 155 171 = some (.iload 9) := by decide +kernel
theorem k_155_173 : hm_code 155 173 = some (.ifCond .lt 28) := by decide +kernel
theorem k_155_176 : hm_code 155 176 = some (.aload_n 0) := by decide +kernel
theorem k_155_177 : hm_code 155 177 = some (.getfield 78) := by decide +kernel
theorem k_155_180 : hm_code 155 180 = some (.iload 9) := by decide +kernel
theorem k_155_182 : hm_code 155 182 = some (.iaload) := by decide +kernel
theorem k_155_183 : hm_code 155 183 = some (.aload_n 0) := by decide +kernel
theorem k_155_184 : hm_code 155 184 = some (.getfield 124) := by decide +kernel
theorem k_155_187 : hm_code 155 187 = some (.iload_n 3) := by decide +kernel
theorem k_155_188 : hm_code 155 188 = some (.isub) := by decide +kernel
theorem k_155_189 : hm_code 155 189 = some (.iload 9) := by decide +kernel
theorem k_155_191 : hm_code 155 191 = some (.iadd) := by decide +kernel
theorem k_155_192 : hm_code 155 192 = some (.if_icmp .ne 9) := by decide +kernel
theorem k_155_195 : hm_code 155 195 = some (.iinc 9 (-1)) := by decide +kernel
theorem k_155_198 : hm_code 155 198 = some (.goto (-27)) := by decide +kernel
theorem k_155_201 : hm_code 155 201 = some (.iload 9) := by decide +kernel
theorem k_155_203 : hm_code 155 203 = some (.ifCond .lt 7) := by decide +kernel
theorem k_155_206 : hm_code 155 206 = some (.iconst 1) := by decide +kernel
theorem k_155_207 : hm_code 155 207 = some (.goto 4) := by decide +kernel
theorem k_155_210 : hm_code 155 210 = some (.iconst 0) := by decide +kernel
theorem k_155_211 : hm_code 155 211 = some (.istore 5) := by decide +kernel
theorem k_155_213 : hm_code 155 213 = some (.iload 5) := by decide +kernel
theorem k_155_215 : hm_code 155 215 = some (.ifCond .eq 50) := by decide +kernel
theorem k_155_218 : hm_code 155 218 = some (.aload_n 0) := by decide +kernel
theorem k_155_219 : hm_code 155 219 = some (.getfield 78) := by decide +kernel
theorem k_155_222 : hm_code 155 222 = some (.iload 9) := by decide +kernel
theorem k_155_224 : hm_code 155 224 = some (.dup2) := by decide +kernel
theorem k_155_225 : hm_code 155 225 = some (.iaload) := by decide +kernel
theorem k_155_226 : hm_code 155 226 = some (.iconst 1) := by decide +kernel
theorem k_155_227 : hm_code 155 227 = some (.iadd) := by decide +kernel
theorem k_155_228 : hm_code 155 228 = some (.iastore) := by decide +kernel
theorem k_155_229 : hm_code 155 229 = some (.iload 9) := by decide +kernel
theorem k_155_231 : hm_code 155 231 = some (.iconst 1) := by decide +kernel
theorem k_155_232 : hm_code 155 232 = some (.iadd) := by decide +kernel
theorem k_155_233 : hm_code 155 233 = some (.istore 10) := by decide +kernel
theorem k_155_235 : hm_code 155 235 = some (.iload 10) := by decide +kernel
theorem k_155_237 : hm_code 155 237 = some (.iload_n 3) := by decide +kernel
theorem k_155_238 : hm_code 155 238 = some (.if_icmp .ge 27) := by decide +kernel
theorem k_155_241 : hm_code 155 241 = some (.aload_n 0) := by decide +kernel
theorem k_155_242 : hm_code 155 242 = some (.getfield 78) := by decide +kernel
theorem k_155_245 : hm_code 155 245 = some (.iload 10) := by decide +kernel
theorem k_155_247 : hm_code 155 247 = some (.aload_n 0) := by decide +kernel
theorem k_155_248 : hm_code 155 248 = some (.getfield 78) := by decide +kernel
theorem k_155_251 : hm_code 155 251 = some (.iload 10) := by decide +kernel
theorem k_155_253 : hm_code 155 253 = some (.iconst 1) := by decide +kernel
theorem k_155_254 : hm_code 155 254 = some (.isub) := by decide +kernel
theorem k_155_255 : hm_code 155 255 = some (.iaload) := by decide +kernel
theorem k_155_256 : hm_code 155 256 = some (.iconst 1) := by decide +kernel
theorem k_155_257 : hm_code 155 257 = some (.iadd) := by decide +kernel
theorem k_155_258 : hm_code 155 258 = some (.iastore) := by decide +kernel
theorem k_155_259 : hm_code 155 259 = some (.iinc 10 1) := by decide +kernel
theorem k_155_262 : hm_code 155 262 = some (.goto (-27)) := by decide +kernel
theorem k_155_265 : hm_code 155 265 = some (.goto (-218)) := by decide +kernel
theorem k_155_268 : hm_code 155 268 = some (.iload 4) := by decide +kernel
theorem k_155_270 : hm_code 155 270 = some (.ireturn) := by decide +kernel
theorem m_156 : hm_mtab[156]? = some (⟨"HourPromisedModel", "promise", "(III)I"⟩, prog_10_method_41_code, 5, (some .int), 8, 4, 1) := rfl
theorem k_156_0 : hm_code 156 0 = some (.aload_n 0) := by decide +kernel
theorem k_156_1 : hm_code 156 1 = some (.iload_n 1) := by decide +kernel
theorem k_156_2 : hm_code 156 2 = some (.iload_n 2) := by decide +kernel
theorem k_156_3 : hm_code 156 3 = some (.iload_n 3) := by decide +kernel
theorem k_156_4 : hm_code 156 4 = some (.invokevirtual 223) := by decide +kernel
theorem k_156_7 : hm_code 156 7 = some (.istore 4) := by decide +kernel
theorem k_156_9 : hm_code 156 9 = some (.iload 4) := by decide +kernel
theorem k_156_11 : hm_code 156 11 = some (.ifCond .ge 6) := by decide +kernel
theorem k_156_14 : hm_code 156 14 = some (.iload 4) := by decide +kernel
theorem k_156_16 : hm_code 156 16 = some (.ireturn) := by decide +kernel
theorem k_156_17 : hm_code 156 17 = some (.iload 4) := by decide +kernel
theorem k_156_19 : hm_code 156 19 = some (.ifCond .le 7) := by decide +kernel
theorem k_156_22 : hm_code 156 22 = some (.sipush (-1003)) := by decide +kernel
theorem k_156_25 : hm_code 156 25 = some (.ireturn) := by decide +kernel
theorem k_156_26 : hm_code 156 26 = some (.aload_n 0) := by decide +kernel
theorem k_156_27 : hm_code 156 27 = some (.getfield 47) := by decide +kernel
theorem k_156_30 : hm_code 156 30 = some (.iconst 4) := by decide +kernel
theorem k_156_31 : hm_code 156 31 = some (.iload_n 1) := by decide +kernel
theorem k_156_32 : hm_code 156 32 = some (.imul) := by decide +kernel
theorem k_156_33 : hm_code 156 33 = some (.iload_n 2) := by decide +kernel
theorem k_156_34 : hm_code 156 34 = some (.iadd) := by decide +kernel
theorem k_156_35 : hm_code 156 35 = some (.iload_n 3) := by decide +kernel
theorem k_156_36 : hm_code 156 36 = some (.iastore) := by decide +kernel
theorem k_156_37 : hm_code 156 37 = some (.iconst 1) := by decide +kernel
theorem k_156_38 : hm_code 156 38 = some (.ireturn) := by decide +kernel
theorem m_157 : hm_mtab[157]? = some (⟨"HourPromisedModel", "earliest", "(III)I"⟩, prog_10_method_42_code, 5, (some .int), 8, 4, 1) := rfl
theorem k_157_0 : hm_code 157 0 = some (.aload_n 0) := by decide +kernel
theorem k_157_1 : hm_code 157 1 = some (.iload_n 1) := by decide +kernel
theorem k_157_2 : hm_code 157 2 = some (.invokevirtual 213) := by decide +kernel
theorem k_157_5 : hm_code 157 5 = some (.ifCond .ne 7) := by decide +kernel
theorem k_157_8 : hm_code 157 8 = some (.sipush (-1001)) := by decide +kernel
theorem k_157_11 : hm_code 157 11 = some (.ireturn) := by decide +kernel
theorem k_157_12 : hm_code 157 12 = some (.iload_n 2) := by decide +kernel
theorem k_157_13 : hm_code 157 13 = some (.invokestatic 165) := by decide +kernel
theorem k_157_16 : hm_code 157 16 = some (.ifCond .eq 10) := by decide +kernel
theorem k_157_19 : hm_code 157 19 = some (.iload_n 3) := by decide +kernel
theorem k_157_20 : hm_code 157 20 = some (.invokestatic 205) := by decide +kernel
theorem k_157_23 : hm_code 157 23 = some (.ifCond .ne 7) := by decide +kernel
theorem k_157_26 : hm_code 157 26 = some (.sipush (-1002)) := by decide +kernel
theorem k_157_29 : hm_code 157 29 = some (.ireturn) := by decide +kernel
theorem k_157_30 : hm_code 157 30 = some (.iload_n 3) := by decide +kernel
theorem k_157_31 : hm_code 157 31 = some (.istore 4) := by decide +kernel
theorem k_157_33 : hm_code 157 33 = some (.iload 4) := by decide +kernel
theorem k_157_35 : hm_code 157 35 = some (.sipush 400) := by decide +kernel
theorem k_157_38 : hm_code 157 38 = some (.if_icmp .ge 23) := by decide +kernel
theorem k_157_41 : hm_code 157 41 = some (.aload_n 0) := by decide +kernel
theorem k_157_42 : hm_code 157 42 = some (.iload_n 1) := by decide +kernel
theorem k_157_43 : hm_code 157 43 = some (.iload_n 2) := by decide +kernel
theorem k_157_44 : hm_code 157 44 = some (.iload 4) := by decide +kernel
theorem k_157_46 : hm_code 157 46 = some (.invokevirtual 220) := by decide +kernel
theorem k_157_49 : hm_code 157 49 = some (.ifCond .ne 6) := by decide +kernel
theorem k_157_52 : hm_code 157 52 = some (.iload 4) := by decide +kernel
theorem k_157_54 : hm_code 157 54 = some (.ireturn) := by decide +kernel
theorem k_157_55 : hm_code 157 55 = some (.iinc 4 1) := by decide +kernel
theorem k_157_58 : hm_code 157 58 = some (.goto (-25)) := by decide +kernel
theorem k_157_61 : hm_code 157 61 = some (.iconst (-1)) := by decide +kernel
theorem k_157_62 : hm_code 157 62 = some (.ireturn) := by decide +kernel
theorem m_158 : hm_mtab[158]? = some (⟨"HourPromisedModel", "undo", "(II)I"⟩, prog_10_method_43_code, 3, (some .int), 8, 3, 1) := rfl
theorem k_158_0 : hm_code 158 0 = some (.aload_n 0) := by decide +kernel
theorem k_158_1 : hm_code 158 1 = some (.iload_n 1) := by decide +kernel
theorem k_158_2 : hm_code 158 2 = some (.invokevirtual 213) := by decide +kernel
theorem k_158_5 : hm_code 158 5 = some (.ifCond .ne 7) := by decide +kernel
theorem k_158_8 : hm_code 158 8 = some (.sipush (-1001)) := by decide +kernel
theorem k_158_11 : hm_code 158 11 = some (.ireturn) := by decide +kernel
theorem k_158_12 : hm_code 158 12 = some (.iload_n 2) := by decide +kernel
theorem k_158_13 : hm_code 158 13 = some (.invokestatic 165) := by decide +kernel
theorem k_158_16 : hm_code 158 16 = some (.ifCond .ne 7) := by decide +kernel
theorem k_158_19 : hm_code 158 19 = some (.sipush (-1002)) := by decide +kernel
theorem k_158_22 : hm_code 158 22 = some (.ireturn) := by decide +kernel
theorem k_158_23 : hm_code 158 23 = some (.aload_n 0) := by decide +kernel
theorem k_158_24 : hm_code 158 24 = some (.iload_n 1) := by decide +kernel
theorem k_158_25 : hm_code 158 25 = some (.iload_n 2) := by decide +kernel
theorem k_158_26 : hm_code 158 26 = some (.invokevirtual 92) := by decide +kernel
theorem k_158_29 : hm_code 158 29 = some (.ifCond .ge 7) := by decide +kernel
theorem k_158_32 : hm_code 158 32 = some (.sipush (-1003)) := by decide +kernel
theorem k_158_35 : hm_code 158 35 = some (.ireturn) := by decide +kernel
theorem k_158_36 : hm_code 158 36 = some (.aload_n 0) := by decide +kernel
theorem k_158_37 : hm_code 158 37 = some (.getfield 47) := by decide +kernel
theorem k_158_40 : hm_code 158 40 = some (.iconst 4) := by decide +kernel
theorem k_158_41 : hm_code 158 41 = some (.iload_n 1) := by decide +kernel
theorem k_158_42 : hm_code 158 42 = some (.imul) := by decide +kernel
theorem k_158_43 : hm_code 158 43 = some (.iload_n 2) := by decide +kernel
theorem k_158_44 : hm_code 158 44 = some (.iadd) := by decide +kernel
theorem k_158_45 : hm_code 158 45 = some (.iconst (-1)) := by decide +kernel
theorem k_158_46 : hm_code 158 46 = some (.iastore) := by decide +kernel
theorem k_158_47 : hm_code 158 47 = some (.aload_n 0) := by decide +kernel
theorem k_158_48 : hm_code 158 48 = some (.dup) := by decide +kernel
theorem k_158_49 : hm_code 158 49 = some (.getfield 210) := by decide +kernel
theorem k_158_52 : hm_code 158 52 = some (.iconst 1) := by decide +kernel
theorem k_158_53 : hm_code 158 53 = some (.iadd) := by decide +kernel
theorem k_158_54 : hm_code 158 54 = some (.putfield 210) := by decide +kernel
theorem k_158_57 : hm_code 158 57 = some (.iconst 1) := by decide +kernel
theorem k_158_58 : hm_code 158 58 = some (.aload_n 0) := by decide +kernel
theorem k_158_59 : hm_code 158 59 = some (.iload_n 1) := by decide +kernel
theorem k_158_60 : hm_code 158 60 = some (.iconst (-1)) := by decide +kernel
theorem k_158_61 : hm_code 158 61 = some (.invokevirtual 162) := by decide +kernel
theorem k_158_64 : hm_code 158 64 = some (.iadd) := by decide +kernel
theorem k_158_65 : hm_code 158 65 = some (.ireturn) := by decide +kernel
theorem m_159 : hm_mtab[159]? = some (⟨"HourPromisedModel", "promised", "(III)I"⟩, prog_10_method_46_code, 5, (some .int), 8, 4, 1) := rfl
theorem k_159_0 : hm_code 159 0 = some (.aload_n 0) := by decide +kernel
theorem k_159_1 : hm_code 159 1 = some (.iload_n 1) := by decide +kernel
theorem k_159_2 : hm_code 159 2 = some (.invokevirtual 213) := by decide +kernel
theorem k_159_5 : hm_code 159 5 = some (.ifCond .ne 7) := by decide +kernel
theorem k_159_8 : hm_code 159 8 = some (.sipush (-1001)) := by decide +kernel
theorem k_159_11 : hm_code 159 11 = some (.ireturn) := by decide +kernel
theorem k_159_12 : hm_code 159 12 = some (.iload_n 2) := by decide +kernel
theorem k_159_13 : hm_code 159 13 = some (.invokestatic 165) := by decide +kernel
theorem k_159_16 : hm_code 159 16 = some (.ifCond .eq 15) := by decide +kernel
theorem k_159_19 : hm_code 159 19 = some (.iload_n 3) := by decide +kernel
theorem k_159_20 : hm_code 159 20 = some (.i2l) := by decide +kernel
theorem k_159_21 : hm_code 159 21 = some (.lconst 0) := by decide +kernel
theorem k_159_22 : hm_code 159 22 = some (.ldc2_w 103) := by decide +kernel
theorem k_159_25 : hm_code 159 25 = some (.invokestatic 84) := by decide +kernel
theorem k_159_28 : hm_code 159 28 = some (.ifCond .ne 7) := by decide +kernel
theorem k_159_31 : hm_code 159 31 = some (.sipush (-1002)) := by decide +kernel
theorem k_159_34 : hm_code 159 34 = some (.ireturn) := by decide +kernel
theorem k_159_35 : hm_code 159 35 = some (.aload_n 0) := by decide +kernel
theorem k_159_36 : hm_code 159 36 = some (.iload_n 1) := by decide +kernel
theorem k_159_37 : hm_code 159 37 = some (.iload_n 2) := by decide +kernel
theorem k_159_38 : hm_code 159 38 = some (.invokevirtual 92) := by decide +kernel
theorem k_159_41 : hm_code 159 41 = some (.istore 4) := by decide +kernel
theorem k_159_43 : hm_code 159 43 = some (.iload_n 3) := by decide +kernel
theorem k_159_44 : hm_code 159 44 = some (.ifCond .eq 8) := by decide +kernel
theorem k_159_47 : hm_code 159 47 = some (.iload 4) := by decide +kernel
theorem k_159_49 : hm_code 159 49 = some (.ifCond .ge 15) := by decide +kernel
theorem k_159_52 : hm_code 159 52 = some (.iload_n 3) := by decide +kernel
theorem k_159_53 : hm_code 159 53 = some (.iconst 2) := by decide +kernel
theorem k_159_54 : hm_code 159 54 = some (.if_icmp .ne 7) := by decide +kernel
theorem k_159_57 : hm_code 159 57 = some (.iconst 0) := by decide +kernel
theorem k_159_58 : hm_code 159 58 = some (.goto 5) := by decide +kernel
theorem k_159_61 : hm_code 159 61 = some (.iload 4) := by decide +kernel
theorem k_159_63 : hm_code 159 63 = some (.ireturn) := by decide +kernel
theorem k_159_64 : hm_code 159 64 = some (.iload_n 3) := by decide +kernel
theorem k_159_65 : hm_code 159 65 = some (.iconst 1) := by decide +kernel
theorem k_159_66 : hm_code 159 66 = some (.if_icmp .ne 20) := by decide +kernel
theorem k_159_69 : hm_code 159 69 = some (.iload_n 2) := by decide +kernel
theorem k_159_70 : hm_code 159 70 = some (.iconst 1) := by decide +kernel
theorem k_159_71 : hm_code 159 71 = some (.if_icmp .ne 11) := by decide +kernel
theorem k_159_74 : hm_code 159 74 = some (.aload_n 0) := by decide +kernel
theorem k_159_75 : hm_code 159 75 = some (.iload_n 1) := by decide +kernel
theorem k_159_76 : hm_code 159 76 = some (.invokevirtual 226) := by decide +kernel
theorem k_159_79 : hm_code 159 79 = some (.goto 27) := by decide +kernel
theorem k_159_82 : hm_code 159 82 = some (.iconst (-1)) := by decide +kernel
theorem k_159_83 : hm_code 159 83 = some (.goto 23) := by decide +kernel
theorem k_159_86 : hm_code 159 86 = some (.iload_n 2) := by decide +kernel
theorem k_159_87 : hm_code 159 87 = some (.iconst 1) := by decide +kernel
theorem k_159_88 : hm_code 159 88 = some (.if_icmp .eq 8) := by decide +kernel
theorem k_159_91 : hm_code 159 91 = some (.iload_n 2) := by decide +kernel
theorem k_159_92 : hm_code 159 92 = some (.iconst 3) := by decide +kernel
theorem k_159_93 : hm_code 159 93 = some (.if_icmp .ne 12) := by decide +kernel
theorem k_159_96 : hm_code 159 96 = some (.aload_n 0) := by decide +kernel
theorem k_159_97 : hm_code 159 97 = some (.iload_n 1) := by decide +kernel
theorem k_159_98 : hm_code 159 98 = some (.iload_n 2) := by decide +kernel
theorem k_159_99 : hm_code 159 99 = some (.invokevirtual 229) := by decide +kernel
theorem k_159_102 : hm_code 159 102 = some (.goto 4) := by decide +kernel
theorem k_159_105 : hm_code 159 105 = some (.iconst 0) := by decide +kernel
theorem k_159_106 : hm_code 159 106 = some (.ireturn) := by decide +kernel
theorem m_160 : hm_mtab[160]? = some (⟨"HourPromisedModel", "chapelOf", "(I)I"⟩, prog_10_method_44_code, 5, (some .int), 8, 2, 1) := rfl
theorem k_160_0 : hm_code 160 0 = some (.aload_n 0) := by decide +kernel
theorem k_160_1 : hm_code 160 1 = some (.iload_n 1) := by decide +kernel
theorem k_160_2 : hm_code 160 2 = some (.iconst 1) := by decide +kernel
theorem k_160_3 : hm_code 160 3 = some (.invokevirtual 92) := by decide +kernel
theorem k_160_6 : hm_code 160 6 = some (.istore_n 2) := by decide +kernel
theorem k_160_7 : hm_code 160 7 = some (.iconst 0) := by decide +kernel
theorem k_160_8 : hm_code 160 8 = some (.istore_n 3) := by decide +kernel
theorem k_160_9 : hm_code 160 9 = some (.iconst 0) := by decide +kernel
theorem k_160_10 : hm_code 160 10 = some (.istore 4) := by decide +kernel
theorem k_160_12 : hm_code 160 12 = some (.iload 4) := by decide +kernel
theorem k_160_14 : hm_code 160 14 = some (.iload_n 1) := by decide +kernel
theorem k_160_15 : hm_code 160 15 = some (.if_icmp .ge 28) := by decide +kernel
theorem k_160_18 : hm_code 160 18 = some (.iload_n 3) := by decide +kernel
theorem k_160_19 : hm_code 160 19 = some (.aload_n 0) := by decide +kernel
theorem k_160_20 : hm_code 160 20 = some (.iload 4) := by decide +kernel
theorem k_160_22 : hm_code 160 22 = some (.iconst 1) := by decide +kernel
theorem k_160_23 : hm_code 160 23 = some (.invokevirtual 92) := by decide +kernel
theorem k_160_26 : hm_code 160 26 = some (.iload_n 2) := by decide +kernel
theorem k_160_27 : hm_code 160 27 = some (.if_icmp .ne 7) := by decide +kernel
theorem k_160_30 : hm_code 160 30 = some (.iconst 1) := by decide +kernel
theorem k_160_31 : hm_code 160 31 = some (.goto 4) := by decide +kernel
theorem k_160_34 : hm_code 160 34 = some (.iconst 0) := by decide +kernel
theorem k_160_35 : hm_code 160 35 = some (.iadd) := by decide +kernel
theorem k_160_36 : hm_code 160 36 = some (.istore_n 3) := by decide +kernel
theorem k_160_37 : hm_code 160 37 = some (.iinc 4 1) := by decide +kernel
theorem k_160_40 : hm_code 160 40 = some (.goto (-28)) := by decide +kernel
theorem k_160_43 : hm_code 160 43 = some (.iconst 0) := by decide +kernel
theorem k_160_44 : hm_code 160 44 = some (.istore 4) := by decide +kernel
theorem k_160_46 : hm_code 160 46 = some (.iload 4) := by decide +kernel
theorem k_160_48 : hm_code 160 48 = some (.iconst 3) := by decide +kernel
theorem k_160_49 : hm_code 160 49 = some (.if_icmp .ge 37) := by decide +kernel
theorem k_160_52 : hm_code 160 52 = some (.aload_n 0) := by decide +kernel
theorem k_160_53 : hm_code 160 53 = some (.getfield 13) := by decide +kernel
theorem k_160_56 : hm_code 160 56 = some (.iload 4) := by decide +kernel
theorem k_160_58 : hm_code 160 58 = some (.iaload) := by decide +kernel
theorem k_160_59 : hm_code 160 59 = some (.iload_n 2) := by decide +kernel
theorem k_160_60 : hm_code 160 60 = some (.bipush 10) := by decide +kernel
theorem k_160_62 : hm_code 160 62 = some (.irem) := by decide +kernel
theorem k_160_63 : hm_code 160 63 = some (.ishr) := by decide +kernel
theorem k_160_64 : hm_code 160 64 = some (.iconst 1) := by decide +kernel
theorem k_160_65 : hm_code 160 65 = some (.iand) := by decide +kernel
theorem k_160_66 : hm_code 160 66 = some (.iconst 1) := by decide +kernel
theorem k_160_67 : hm_code 160 67 = some (.if_icmp .ne 13) := by decide +kernel
theorem k_160_70 : hm_code 160 70 = some (.iload_n 3) := by decide +kernel
theorem k_160_71 : hm_code 160 71 = some (.ifCond .ne 6) := by decide +kernel
theorem k_160_74 : hm_code 160 74 = some (.iload 4) := by decide +kernel
theorem k_160_76 : hm_code 160 76 = some (.ireturn) := by decide +kernel
theorem k_160_77 : hm_code 160 77 = some (.iinc 3 (-1)) := by decide +kernel
theorem k_160_80 : hm_code 160 80 = some (.iinc 4 1) := by decide +kernel
theorem k_160_83 : hm_code 160 83 = some (.goto (-37)) := by decide +kernel
theorem k_160_86 : hm_code 160 86 = some (.iconst (-1)) := by decide +kernel
theorem k_160_87 : hm_code 160 87 = some (.ireturn) := by decide +kernel
theorem m_161 : hm_mtab[161]? = some (⟨"HourPromisedModel", "setOf", "(II)I"⟩, prog_10_method_45_code, 6, (some .int), 8, 3, 1) := rfl
theorem k_161_0 : hm_code 161 0 = some (.aload_n 0) := by decide +kernel
theorem k_161_1 : hm_code 161 1 = some (.aload_n 0) := by decide +kernel
theorem k_161_2 : hm_code 161 2 = some (.iload_n 1) := by decide +kernel
theorem k_161_3 : hm_code 161 3 = some (.iload_n 2) := by decide +kernel
theorem k_161_4 : hm_code 161 4 = some (.invokevirtual 92) := by decide +kernel
theorem k_161_7 : hm_code 161 7 = some (.invokevirtual 196) := by decide +kernel
theorem k_161_10 : hm_code 161 10 = some (.istore_n 3) := by decide +kernel
theorem k_161_11 : hm_code 161 11 = some (.iconst 0) := by decide +kernel
theorem k_161_12 : hm_code 161 12 = some (.istore 4) := by decide +kernel
theorem k_161_14 : hm_code 161 14 = some (.iconst 0) := by decide +kernel
theorem k_161_15 : hm_code 161 15 = some (.istore 5) := by decide +kernel
theorem k_161_17 : hm_code 161 17 = some (.iload 5) := by decide +kernel
theorem k_161_19 : hm_code 161 19 = some (.aload_n 0) := by decide +kernel
theorem k_161_20 : hm_code 161 20 = some (.getfield 199) := by decide +kernel
theorem k_161_23 : hm_code 161 23 = some (.if_icmp .ge 54) := by decide +kernel
theorem k_161_26 : hm_code 161 26 = some (.iload_n 3) := by decide +kernel
theorem k_161_27 : hm_code 161 27 = some (.ifCond .eq 50) := by decide +kernel
theorem k_161_30 : hm_code 161 30 = some (.aload_n 0) := by decide +kernel
theorem k_161_31 : hm_code 161 31 = some (.getfield 66) := by decide +kernel
theorem k_161_34 : hm_code 161 34 = some (.iload 5) := by decide +kernel
theorem k_161_36 : hm_code 161 36 = some (.iaload) := by decide +kernel
theorem k_161_37 : hm_code 161 37 = some (.iconst 4) := by decide +kernel
theorem k_161_38 : hm_code 161 38 = some (.iload_n 1) := by decide +kernel
theorem k_161_39 : hm_code 161 39 = some (.imul) := by decide +kernel
theorem k_161_40 : hm_code 161 40 = some (.iload_n 2) := by decide +kernel
theorem k_161_41 : hm_code 161 41 = some (.iadd) := by decide +kernel
theorem k_161_42 : hm_code 161 42 = some (.if_icmp .ne 25) := by decide +kernel
theorem k_161_45 : hm_code 161 45 = some (.aload_n 0) := by decide +kernel
theorem k_161_46 : hm_code 161 46 = some (.getfield 72) := by decide +kernel
theorem k_161_49 : hm_code 161 49 = some (.sipush 924) := by decide +kernel
theorem k_161_52 : hm_code 161 52 = some (.iload 5) := by decide +kernel
theorem k_161_54 : hm_code 161 54 = some (.imul) := by decide +kernel
theorem k_161_55 : hm_code 161 55 = some (.aload_n 0) := by decide +kernel
theorem k_161_56 : hm_code 161 56 = some (.getfield 75) := by decide +kernel
theorem k_161_59 : hm_code 161 59 = some (.iload 5) := by decide +kernel
theorem k_161_61 : hm_code 161 61 = some (.iaload) := by decide +kernel
theorem k_161_62 : hm_code 161 62 = some (.iadd) := by decide +kernel
theorem k_161_63 : hm_code 161 63 = some (.iaload) := by decide +kernel
theorem k_161_64 : hm_code 161 64 = some (.goto 5) := by decide +kernel
theorem k_161_67 : hm_code 161 67 = some (.iload 4) := by decide +kernel
theorem k_161_69 : hm_code 161 69 = some (.istore 4) := by decide +kernel
theorem k_161_71 : hm_code 161 71 = some (.iinc 5 1) := by decide +kernel
theorem k_161_74 : hm_code 161 74 = some (.goto (-57)) := by decide +kernel
theorem k_161_77 : hm_code 161 77 = some (.iload 4) := by decide +kernel
theorem k_161_79 : hm_code 161 79 = some (.ireturn) := by decide +kernel
theorem m_162 : hm_mtab[162]? = some (⟨"HourPromisedModel", "taken", "(II)I"⟩, prog_10_method_47_code, 5, (some .int), 8, 3, 1) := rfl
theorem k_162_0 : hm_code 162 0 = some (.iload_n 1) := by decide +kernel
theorem k_162_1 : hm_code 162 1 = some (.invokestatic 205) := by decide +kernel
theorem k_162_4 : hm_code 162 4 = some (.ifCond .ne 7) := by decide +kernel
theorem k_162_7 : hm_code 162 7 = some (.sipush (-1002)) := by decide +kernel
theorem k_162_10 : hm_code 162 10 = some (.ireturn) := by decide +kernel
theorem k_162_11 : hm_code 162 11 = some (.iconst 0) := by decide +kernel
theorem k_162_12 : hm_code 162 12 = some (.istore_n 3) := by decide +kernel
theorem k_162_13 : hm_code 162 13 = some (.iconst 0) := by decide +kernel
theorem k_162_14 : hm_code 162 14 = some (.istore 4) := by decide +kernel
theorem k_162_16 : hm_code 162 16 = some (.iload 4) := by decide +kernel
theorem k_162_18 : hm_code 162 18 = some (.aload_n 0) := by decide +kernel
theorem k_162_19 : hm_code 162 19 = some (.getfield 81) := by decide +kernel
theorem k_162_22 : hm_code 162 22 = some (.if_icmp .ge 45) := by decide +kernel
theorem k_162_25 : hm_code 162 25 = some (.iload_n 3) := by decide +kernel
theorem k_162_26 : hm_code 162 26 = some (.aload_n 0) := by decide +kernel
theorem k_162_27 : hm_code 162 27 = some (.iload 4) := by decide +kernel
theorem k_162_29 : hm_code 162 29 = some (.iconst 1) := by decide +kernel
theorem k_162_30 : hm_code 162 30 = some (.invokevirtual 92) := by decide +kernel
theorem k_162_33 : hm_code 162 33 = some (.iload_n 1) := by decide +kernel
theorem k_162_34 : hm_code 162 34 = some (.if_icmp .eq 14) := by decide +kernel
theorem k_162_37 : hm_code 162 37 = some (.aload_n 0) := by decide +kernel
theorem k_162_38 : hm_code 162 38 = some (.iload 4) := by decide +kernel
theorem k_162_40 : hm_code 162 40 = some (.iconst 3) := by decide +kernel
theorem k_162_41 : hm_code 162 41 = some (.invokevirtual 92) := by decide +kernel
theorem k_162_44 : hm_code 162 44 = some (.iload_n 1) := by decide +kernel
theorem k_162_45 : hm_code 162 45 = some (.if_icmp .ne 13) := by decide +kernel
theorem k_162_48 : hm_code 162 48 = some (.aload_n 0) := by decide +kernel
theorem k_162_49 : hm_code 162 49 = some (.getfield 38) := by decide +kernel
theorem k_162_52 : hm_code 162 52 = some (.iload 4) := by decide +kernel
theorem k_162_54 : hm_code 162 54 = some (.iaload) := by decide +kernel
theorem k_162_55 : hm_code 162 55 = some (.goto 4) := by decide +kernel
theorem k_162_58 : hm_code 162 58 = some (.iconst 0) := by decide +kernel
theorem k_162_59 : hm_code 162 59 = some (.iadd) := by decide +kernel
theorem k_162_60 : hm_code 162 60 = some (.istore_n 3) := by decide +kernel
theorem k_162_61 : hm_code 162 61 = some (.iinc 4 1) := by decide +kernel
theorem k_162_64 : hm_code 162 64 = some (.goto (-48)) := by decide +kernel
theorem k_162_67 : hm_code 162 67 = some (.iload_n 2) := by decide +kernel
theorem k_162_68 : hm_code 162 68 = some (.tableswitch 68 0 5 #[40, 46, 53, 60, 66, 40]) := by decide +kernel
theorem k_162_108 : hm_code 162 108 = some (.aload_n 0) := by decide +kernel
theorem k_162_109 : hm_code 162 109 = some (.iload_n 1) := by decide +kernel
theorem k_162_110 : hm_code 162 110 = some (.invokevirtual 109) := by decide +kernel
theorem k_162_113 : hm_code 162 113 = some (.ireturn) := by decide +kernel
theorem k_162_114 : hm_code 162 114 = some (.aload_n 0) := by decide +kernel
theorem k_162_115 : hm_code 162 115 = some (.iload_n 1) := by decide +kernel
theorem k_162_116 : hm_code 162 116 = some (.iconst 1) := by decide +kernel
theorem k_162_117 : hm_code 162 117 = some (.invokevirtual 96) := by decide +kernel
theorem k_162_120 : hm_code 162 120 = some (.ireturn) := by decide +kernel
theorem k_162_121 : hm_code 162 121 = some (.aload_n 0) := by decide +kernel
theorem k_162_122 : hm_code 162 122 = some (.iload_n 1) := by decide +kernel
theorem k_162_123 : hm_code 162 123 = some (.iconst 2) := by decide +kernel
theorem k_162_124 : hm_code 162 124 = some (.invokevirtual 96) := by decide +kernel
theorem k_162_127 : hm_code 162 127 = some (.ireturn) := by decide +kernel
theorem k_162_128 : hm_code 162 128 = some (.aload_n 0) := by decide +kernel
theorem k_162_129 : hm_code 162 129 = some (.iload_n 1) := by decide +kernel
theorem k_162_130 : hm_code 162 130 = some (.invokevirtual 112) := by decide +kernel
theorem k_162_133 : hm_code 162 133 = some (.ireturn) := by decide +kernel
theorem k_162_134 : hm_code 162 134 = some (.iload_n 3) := by decide +kernel
theorem k_162_135 : hm_code 162 135 = some (.ireturn) := by decide +kernel
theorem k_162_136 : hm_code 162 136 = some (.sipush (-1002)) := by decide +kernel
theorem k_162_139 : hm_code 162 139 = some (.ireturn) := by decide +kernel
theorem m_163 : hm_mtab[163]? = some (⟨"HourPromisedModel", "count", "(I)I"⟩, prog_10_method_48_code, 5, (some .int), 8, 2, 1) := rfl
theorem k_163_0 : hm_code 163 0 = some (.iconst 0) := by decide +kernel
theorem k_163_1 : hm_code 163 1 = some (.istore_n 2) := by decide +kernel
theorem k_163_2 : hm_code 163 2 = some (.iconst 0) := by decide +kernel
theorem k_163_3 : hm_code 163 3 = some (.istore_n 3) := by decide +kernel
theorem k_163_4 : hm_code 163 4 = some (.iload_n 3) := by decide +kernel
theorem k_163_5 : hm_code 163 5 = some (.iconst 4) := by decide +kernel
theorem k_163_6 : hm_code 163 6 = some (.aload_n 0) := by decide +kernel
theorem k_163_7 : hm_code 163 7 = some (.getfield 81) := by decide +kernel
theorem k_163_10 : hm_code 163 10 = some (.imul) := by decide +kernel
theorem k_163_11 : hm_code 163 11 = some (.if_icmp .ge 26) := by decide +kernel
theorem k_163_14 : hm_code 163 14 = some (.iload_n 2) := by decide +kernel
theorem k_163_15 : hm_code 163 15 = some (.aload_n 0) := by decide +kernel
theorem k_163_16 : hm_code 163 16 = some (.getfield 47) := by decide +kernel
theorem k_163_19 : hm_code 163 19 = some (.iload_n 3) := by decide +kernel
theorem k_163_20 : hm_code 163 20 = some (.iaload) := by decide +kernel
theorem k_163_21 : hm_code 163 21 = some (.ifCond .lt 7) := by decide +kernel
theorem k_163_24 : hm_code 163 24 = some (.iconst 1) := by decide +kernel
theorem k_163_25 : hm_code 163 25 = some (.goto 4) := by decide +kernel
theorem k_163_28 : hm_code 163 28 = some (.iconst 0) := by decide +kernel
theorem k_163_29 : hm_code 163 29 = some (.iadd) := by decide +kernel
theorem k_163_30 : hm_code 163 30 = some (.istore_n 2) := by decide +kernel
theorem k_163_31 : hm_code 163 31 = some (.iinc 3 1) := by decide +kernel
theorem k_163_34 : hm_code 163 34 = some (.goto (-30)) := by decide +kernel
theorem k_163_37 : hm_code 163 37 = some (.iconst 0) := by decide +kernel
theorem k_163_38 : hm_code 163 38 = some (.istore_n 3) := by decide +kernel
theorem k_163_39 : hm_code 163 39 = some (.iconst 0) := by decide +kernel
theorem k_163_40 : hm_code 163 40 = some (.istore 4) := by decide +kernel
theorem k_163_42 : hm_code 163 42 = some (.iload 4) := by decide +kernel
theorem k_163_44 : hm_code 163 44 = some (.aload_n 0) := by decide +kernel
theorem k_163_45 : hm_code 163 45 = some (.getfield 232) := by decide +kernel
theorem k_163_48 : hm_code 163 48 = some (.if_icmp .ge 19) := by decide +kernel
theorem k_163_51 : hm_code 163 51 = some (.iload_n 3) := by decide +kernel
theorem k_163_52 : hm_code 163 52 = some (.aload_n 0) := by decide +kernel
theorem k_163_53 : hm_code 163 53 = some (.getfield 63) := by decide +kernel
theorem k_163_56 : hm_code 163 56 = some (.iload 4) := by decide +kernel
theorem k_163_58 : hm_code 163 58 = some (.iaload) := by decide +kernel
theorem k_163_59 : hm_code 163 59 = some (.iadd) := by decide +kernel
theorem k_163_60 : hm_code 163 60 = some (.istore_n 3) := by decide +kernel
theorem k_163_61 : hm_code 163 61 = some (.iinc 4 1) := by decide +kernel
theorem k_163_64 : hm_code 163 64 = some (.goto (-22)) := by decide +kernel
theorem k_163_67 : hm_code 163 67 = some (.iload_n 1) := by decide +kernel
theorem k_163_68 : hm_code 163 68 = some (.tableswitch 115 0 10 #[60, 65, 70, 72, 77, 82, 87, 92, 94, 101, 108]) := by decide +kernel
theorem k_163_128 : hm_code 163 128 = some (.aload_n 0) := by decide +kernel
theorem k_163_129 : hm_code 163 129 = some (.getfield 81) := by decide +kernel
theorem k_163_132 : hm_code 163 132 = some (.ireturn) := by decide +kernel
theorem k_163_133 : hm_code 163 133 = some (.aload_n 0) := by decide +kernel
theorem k_163_134 : hm_code 163 134 = some (.getfield 124) := by decide +kernel
theorem k_163_137 : hm_code 163 137 = some (.ireturn) := by decide +kernel
theorem k_163_138 : hm_code 163 138 = some (.iload_n 2) := by decide +kernel
theorem k_163_139 : hm_code 163 139 = some (.ireturn) := by decide +kernel
theorem k_163_140 : hm_code 163 140 = some (.aload_n 0) := by decide +kernel
theorem k_163_141 : hm_code 163 141 = some (.getfield 210) := by decide +kernel
theorem k_163_144 : hm_code 163 144 = some (.ireturn) := by decide +kernel
theorem k_163_145 : hm_code 163 145 = some (.aload_n 0) := by decide +kernel
theorem k_163_146 : hm_code 163 146 = some (.getfield 127) := by decide +kernel
theorem k_163_149 : hm_code 163 149 = some (.ireturn) := by decide +kernel
theorem k_163_150 : hm_code 163 150 = some (.aload_n 0) := by decide +kernel
theorem k_163_151 : hm_code 163 151 = some (.getfield 232) := by decide +kernel
theorem k_163_154 : hm_code 163 154 = some (.ireturn) := by decide +kernel
theorem k_163_155 : hm_code 163 155 = some (.aload_n 0) := by decide +kernel
theorem k_163_156 : hm_code 163 156 = some (.invokevirtual 235) := by decide +kernel
theorem k_163_159 : hm_code 163 159 = some (.ireturn) := by decide +kernel
theorem k_163_160 : hm_code 163 160 = some (.iload_n 3) := by decide +kernel
theorem k_163_161 : hm_code 163 161 = some (.ireturn) := by decide +kernel
theorem k_163_162 : hm_code 163 162 = some (.aload_n 0) := by decide +kernel
theorem k_163_163 : hm_code 163 163 = some (.getfield 7) := by decide +kernel
theorem k_163_166 : hm_code 163 166 = some (.iconst 0) := by decide +kernel
theorem k_163_167 : hm_code 163 167 = some (.iaload) := by decide +kernel
theorem k_163_168 : hm_code 163 168 = some (.ireturn) := by decide +kernel
theorem k_163_169 : hm_code 163 169 = some (.aload_n 0) := by decide +kernel
theorem k_163_170 : hm_code 163 170 = some (.getfield 7) := by decide +kernel
theorem k_163_173 : hm_code 163 173 = some (.iconst 1) := by decide +kernel
theorem k_163_174 : hm_code 163 174 = some (.iaload) := by decide +kernel
theorem k_163_175 : hm_code 163 175 = some (.ireturn) := by decide +kernel
theorem k_163_176 : hm_code 163 176 = some (.aload_n 0) := by decide +kernel
theorem k_163_177 : hm_code 163 177 = some (.getfield 7) := by decide +kernel
theorem k_163_180 : hm_code 163 180 = some (.iconst 2) := by decide +kernel
theorem k_163_181 : hm_code 163 181 = some (.iaload) := by decide +kernel
theorem k_163_182 : hm_code 163 182 = some (.ireturn) := by decide +kernel
theorem k_163_183 : hm_code 163 183 = some (.sipush (-1002)) := by decide +kernel
theorem k_163_186 : hm_code 163 186 = some (.ireturn) := by decide +kernel
theorem m_164 : hm_mtab[164]? = some (⟨"HourPromisedModel", "allTrust", "()I"⟩, prog_10_method_49_code, 3, (some .int), 8, 1, 1) := rfl
theorem k_164_0 : hm_code 164 0 = some (.iconst 0) := by decide +kernel
theorem k_164_1 : hm_code 164 1 = some (.istore_n 1) := by decide +kernel
theorem k_164_2 : hm_code 164 2 = some (.iconst 0) := by decide +kernel
theorem k_164_3 : hm_code 164 3 = some (.istore_n 2) := by decide +kernel
theorem k_164_4 : hm_code 164 4 = some (.iload_n 2) := by decide +kernel
theorem k_164_5 : hm_code 164 5 = some (.aload_n 0) := by decide +kernel
theorem k_164_6 : hm_code 164 6 = some (.getfield 232) := by decide +kernel
theorem k_164_9 : hm_code 164 9 = some (.if_icmp .ge 18) := by decide +kernel
theorem k_164_12 : hm_code 164 12 = some (.iload_n 1) := by decide +kernel
theorem k_164_13 : hm_code 164 13 = some (.aload_n 0) := by decide +kernel
theorem k_164_14 : hm_code 164 14 = some (.getfield 57) := by decide +kernel
theorem k_164_17 : hm_code 164 17 = some (.iload_n 2) := by decide +kernel
theorem k_164_18 : hm_code 164 18 = some (.iaload) := by decide +kernel
theorem k_164_19 : hm_code 164 19 = some (.iadd) := by decide +kernel
theorem k_164_20 : hm_code 164 20 = some (.istore_n 1) := by decide +kernel
theorem k_164_21 : hm_code 164 21 = some (.iinc 2 1) := by decide +kernel
theorem k_164_24 : hm_code 164 24 = some (.goto (-20)) := by decide +kernel
theorem k_164_27 : hm_code 164 27 = some (.iload_n 1) := by decide +kernel
theorem k_164_28 : hm_code 164 28 = some (.ireturn) := by decide +kernel
theorem m_165 : hm_mtab[165]? = some (⟨"HourPromisedModel", "plan", "(I)I"⟩, prog_10_method_50_code, 2, (some .int), 8, 2, 1) := rfl
theorem k_165_0 : hm_code 165 0 = some (.iload_n 1) := by decide +kernel
theorem k_165_1 : hm_code 165 1 = some (.i2l) := by decide +kernel
theorem k_165_2 : hm_code 165 2 = some (.lconst 0) := by decide +kernel
theorem k_165_3 : hm_code 165 3 = some (.ldc2_w 238) := by decide +kernel
theorem k_165_6 : hm_code 165 6 = some (.invokestatic 84) := by decide +kernel
theorem k_165_9 : hm_code 165 9 = some (.ifCond .ne 7) := by decide +kernel
theorem k_165_12 : hm_code 165 12 = some (.sipush (-1002)) := by decide +kernel
theorem k_165_15 : hm_code 165 15 = some (.ireturn) := by decide +kernel
theorem k_165_16 : hm_code 165 16 = some (.aload_n 0) := by decide +kernel
theorem k_165_17 : hm_code 165 17 = some (.getfield 232) := by decide +kernel
theorem k_165_20 : hm_code 165 20 = some (.bipush 16) := by decide +kernel
theorem k_165_22 : hm_code 165 22 = some (.if_icmp .ne 7) := by decide +kernel
theorem k_165_25 : hm_code 165 25 = some (.sipush (-1004)) := by decide +kernel
theorem k_165_28 : hm_code 165 28 = some (.ireturn) := by decide +kernel
theorem k_165_29 : hm_code 165 29 = some (.aload_n 0) := by decide +kernel
theorem k_165_30 : hm_code 165 30 = some (.getfield 54) := by decide +kernel
theorem k_165_33 : hm_code 165 33 = some (.aload_n 0) := by decide +kernel
theorem k_165_34 : hm_code 165 34 = some (.getfield 232) := by decide +kernel
theorem k_165_37 : hm_code 165 37 = some (.iload_n 1) := by decide +kernel
theorem k_165_38 : hm_code 165 38 = some (.iastore) := by decide +kernel
theorem k_165_39 : hm_code 165 39 = some (.aload_n 0) := by decide +kernel
theorem k_165_40 : hm_code 165 40 = some (.getfield 57) := by decide +kernel
theorem k_165_43 : hm_code 165 43 = some (.aload_n 0) := by decide +kernel
theorem k_165_44 : hm_code 165 44 = some (.getfield 232) := by decide +kernel
theorem k_165_47 : hm_code 165 47 = some (.iconst 0) := by decide +kernel
theorem k_165_48 : hm_code 165 48 = some (.iastore) := by decide +kernel
theorem k_165_49 : hm_code 165 49 = some (.aload_n 0) := by decide +kernel
theorem k_165_50 : hm_code 165 50 = some (.getfield 60) := by decide +kernel
theorem k_165_53 : hm_code 165 53 = some (.aload_n 0) := by decide +kernel
theorem k_165_54 : hm_code 165 54 = some (.getfield 232) := by decide +kernel
theorem k_165_57 : hm_code 165 57 = some (.iconst (-1)) := by decide +kernel
theorem k_165_58 : hm_code 165 58 = some (.iastore) := by decide +kernel
theorem k_165_59 : hm_code 165 59 = some (.aload_n 0) := by decide +kernel
theorem k_165_60 : hm_code 165 60 = some (.getfield 63) := by decide +kernel
theorem k_165_63 : hm_code 165 63 = some (.aload_n 0) := by decide +kernel
theorem k_165_64 : hm_code 165 64 = some (.getfield 232) := by decide +kernel
theorem k_165_67 : hm_code 165 67 = some (.iconst 0) := by decide +kernel
theorem k_165_68 : hm_code 165 68 = some (.iastore) := by decide +kernel
theorem k_165_69 : hm_code 165 69 = some (.aload_n 0) := by decide +kernel
theorem k_165_70 : hm_code 165 70 = some (.dup) := by decide +kernel
theorem k_165_71 : hm_code 165 71 = some (.getfield 232) := by decide +kernel
theorem k_165_74 : hm_code 165 74 = some (.iconst 1) := by decide +kernel
theorem k_165_75 : hm_code 165 75 = some (.iadd) := by decide +kernel
theorem k_165_76 : hm_code 165 76 = some (.putfield 232) := by decide +kernel
theorem k_165_79 : hm_code 165 79 = some (.aload_n 0) := by decide +kernel
theorem k_165_80 : hm_code 165 80 = some (.getfield 232) := by decide +kernel
theorem k_165_83 : hm_code 165 83 = some (.iconst 1) := by decide +kernel
theorem k_165_84 : hm_code 165 84 = some (.isub) := by decide +kernel
theorem k_165_85 : hm_code 165 85 = some (.ireturn) := by decide +kernel
theorem m_166 : hm_mtab[166]? = some (⟨"HourPromisedModel", "pay", "(II)I"⟩, prog_10_method_52_code, 3, (some .int), 8, 3, 1) := rfl
theorem k_166_0 : hm_code 166 0 = some (.aload_n 0) := by decide +kernel
theorem k_166_1 : hm_code 166 1 = some (.iload_n 1) := by decide +kernel
theorem k_166_2 : hm_code 166 2 = some (.invokevirtual 240) := by decide +kernel
theorem k_166_5 : hm_code 166 5 = some (.ifCond .ne 7) := by decide +kernel
theorem k_166_8 : hm_code 166 8 = some (.sipush (-1001)) := by decide +kernel
theorem k_166_11 : hm_code 166 11 = some (.ireturn) := by decide +kernel
theorem k_166_12 : hm_code 166 12 = some (.iload_n 2) := by decide +kernel
theorem k_166_13 : hm_code 166 13 = some (.i2l) := by decide +kernel
theorem k_166_14 : hm_code 166 14 = some (.lconst 1) := by decide +kernel
theorem k_166_15 : hm_code 166 15 = some (.ldc2_w 238) := by decide +kernel
theorem k_166_18 : hm_code 166 18 = some (.invokestatic 84) := by decide +kernel
theorem k_166_21 : hm_code 166 21 = some (.ifCond .ne 7) := by decide +kernel
theorem k_166_24 : hm_code 166 24 = some (.sipush (-1002)) := by decide +kernel
theorem k_166_27 : hm_code 166 27 = some (.ireturn) := by decide +kernel
theorem k_166_28 : hm_code 166 28 = some (.aload_n 0) := by decide +kernel
theorem k_166_29 : hm_code 166 29 = some (.getfield 57) := by decide +kernel
theorem k_166_32 : hm_code 166 32 = some (.iload_n 1) := by decide +kernel
theorem k_166_33 : hm_code 166 33 = some (.iaload) := by decide +kernel
theorem k_166_34 : hm_code 166 34 = some (.iload_n 2) := by decide +kernel
theorem k_166_35 : hm_code 166 35 = some (.iadd) := by decide +kernel
theorem k_166_36 : hm_code 166 36 = some (.ldc 243) := by decide +kernel
theorem k_166_38 : hm_code 166 38 = some (.if_icmp .le 7) := by decide +kernel
theorem k_166_41 : hm_code 166 41 = some (.sipush (-1003)) := by decide +kernel
theorem k_166_44 : hm_code 166 44 = some (.ireturn) := by decide +kernel
theorem k_166_45 : hm_code 166 45 = some (.aload_n 0) := by decide +kernel
theorem k_166_46 : hm_code 166 46 = some (.getfield 57) := by decide +kernel
theorem k_166_49 : hm_code 166 49 = some (.iload_n 1) := by decide +kernel
theorem k_166_50 : hm_code 166 50 = some (.dup2) := by decide +kernel
theorem k_166_51 : hm_code 166 51 = some (.iaload) := by decide +kernel
theorem k_166_52 : hm_code 166 52 = some (.iload_n 2) := by decide +kernel
theorem k_166_53 : hm_code 166 53 = some (.iadd) := by decide +kernel
theorem k_166_54 : hm_code 166 54 = some (.iastore) := by decide +kernel
theorem k_166_55 : hm_code 166 55 = some (.aload_n 0) := by decide +kernel
theorem k_166_56 : hm_code 166 56 = some (.getfield 57) := by decide +kernel
theorem k_166_59 : hm_code 166 59 = some (.iload_n 1) := by decide +kernel
theorem k_166_60 : hm_code 166 60 = some (.iaload) := by decide +kernel
theorem k_166_61 : hm_code 166 61 = some (.ireturn) := by decide +kernel
theorem m_167 : hm_mtab[167]? = some (⟨"HourPromisedModel", "isPlan", "(I)Z"⟩, prog_10_method_51_code, 2, (some .boolean), 8, 2, 1) := rfl
theorem k_167_0 : hm_code 167 0 = some (.iload_n 1) := by decide +kernel
theorem k_167_1 : hm_code 167 1 = some (.i2l) := by decide +kernel
theorem k_167_2 : hm_code 167 2 = some (.lconst 0) := by decide +kernel
theorem k_167_3 : hm_code 167 3 = some (.aload_n 0) := by decide +kernel
theorem k_167_4 : hm_code 167 4 = some (.getfield 232) := by decide +kernel
theorem k_167_7 : hm_code 167 7 = some (.iconst 1) := by decide +kernel
theorem k_167_8 : hm_code 167 8 = some (.isub) := by decide +kernel
theorem k_167_9 : hm_code 167 9 = some (.i2l) := by decide +kernel
theorem k_167_10 : hm_code 167 10 = some (.invokestatic 84) := by decide +kernel
theorem k_167_13 : hm_code 167 13 = some (.ireturn) := by decide +kernel
theorem m_168 : hm_mtab[168]? = some (⟨"HourPromisedModel", "rate", "(I)I"⟩, prog_10_method_53_code, 3, (some .int), 8, 2, 1) := rfl
theorem k_168_0 : hm_code 168 0 = some (.iload_n 1) := by decide +kernel
theorem k_168_1 : hm_code 168 1 = some (.i2l) := by decide +kernel
theorem k_168_2 : hm_code 168 2 = some (.lconst 0) := by decide +kernel
theorem k_168_3 : hm_code 168 3 = some (.ldc2_w 244) := by decide +kernel
theorem k_168_6 : hm_code 168 6 = some (.invokestatic 84) := by decide +kernel
theorem k_168_9 : hm_code 168 9 = some (.ifCond .ne 7) := by decide +kernel
theorem k_168_12 : hm_code 168 12 = some (.sipush (-1002)) := by decide +kernel
theorem k_168_15 : hm_code 168 15 = some (.ireturn) := by decide +kernel
theorem k_168_16 : hm_code 168 16 = some (.aload_n 0) := by decide +kernel
theorem k_168_17 : hm_code 168 17 = some (.getfield 246) := by decide +kernel
theorem k_168_20 : hm_code 168 20 = some (.istore_n 2) := by decide +kernel
theorem k_168_21 : hm_code 168 21 = some (.aload_n 0) := by decide +kernel
theorem k_168_22 : hm_code 168 22 = some (.iload_n 1) := by decide +kernel
theorem k_168_23 : hm_code 168 23 = some (.putfield 246) := by decide +kernel
theorem k_168_26 : hm_code 168 26 = some (.iload_n 2) := by decide +kernel
theorem k_168_27 : hm_code 168 27 = some (.ireturn) := by decide +kernel
theorem m_169 : hm_mtab[169]? = some (⟨"HourPromisedModel", "days", "(I)I"⟩, prog_10_method_54_code, 6, (some .int), 8, 2, 1) := rfl
theorem k_169_0 : hm_code 169 0 = some (.iload_n 1) := by decide +kernel
theorem k_169_1 : hm_code 169 1 = some (.i2l) := by decide +kernel
theorem k_169_2 : hm_code 169 2 = some (.lconst 0) := by decide +kernel
theorem k_169_3 : hm_code 169 3 = some (.ldc2_w 249) := by decide +kernel
theorem k_169_6 : hm_code 169 6 = some (.invokestatic 84) := by decide +kernel
theorem k_169_9 : hm_code 169 9 = some (.ifCond .ne 7) := by decide +kernel
theorem k_169_12 : hm_code 169 12 = some (.sipush (-1002)) := by decide +kernel
theorem k_169_15 : hm_code 169 15 = some (.ireturn) := by decide +kernel
theorem k_169_16 : hm_code 169 16 = some (.iconst 0) := by decide +kernel
theorem k_169_17 : hm_code 169 17 = some (.istore_n 2) := by decide +kernel
theorem k_169_18 : hm_code 169 18 = some (.iload_n 2) := by decide +kernel
theorem k_169_19 : hm_code 169 19 = some (.iload_n 1) := by decide +kernel
theorem k_169_20 : hm_code 169 20 = some (.if_icmp .ge 76) := by decide +kernel
theorem k_169_23 : hm_code 169 23 = some (.iconst 0) := by decide +kernel
theorem k_169_24 : hm_code 169 24 = some (.istore_n 3) := by decide +kernel
theorem k_169_25 : hm_code 169 25 = some (.iload_n 3) := by decide +kernel
theorem k_169_26 : hm_code 169 26 = some (.aload_n 0) := by decide +kernel
theorem k_169_27 : hm_code 169 27 = some (.getfield 232) := by decide +kernel
theorem k_169_30 : hm_code 169 30 = some (.if_icmp .ge 60) := by decide +kernel
theorem k_169_33 : hm_code 169 33 = some (.aload_n 0) := by decide +kernel
theorem k_169_34 : hm_code 169 34 = some (.getfield 57) := by decide +kernel
theorem k_169_37 : hm_code 169 37 = some (.iload_n 3) := by decide +kernel
theorem k_169_38 : hm_code 169 38 = some (.iaload) := by decide +kernel
theorem k_169_39 : hm_code 169 39 = some (.i2l) := by decide +kernel
theorem k_169_40 : hm_code 169 40 = some (.aload_n 0) := by decide +kernel
theorem k_169_41 : hm_code 169 41 = some (.getfield 57) := by decide +kernel
theorem k_169_44 : hm_code 169 44 = some (.iload_n 3) := by decide +kernel
theorem k_169_45 : hm_code 169 45 = some (.iaload) := by decide +kernel
theorem k_169_46 : hm_code 169 46 = some (.i2l) := by decide +kernel
theorem k_169_47 : hm_code 169 47 = some (.aload_n 0) := by decide +kernel
theorem k_169_48 : hm_code 169 48 = some (.getfield 246) := by decide +kernel
theorem k_169_51 : hm_code 169 51 = some (.i2l) := by decide +kernel
theorem k_169_52 : hm_code 169 52 = some (.lmul) := by decide +kernel
theorem k_169_53 : hm_code 169 53 = some (.ldc2_w 251) := by decide +kernel
theorem k_169_56 : hm_code 169 56 = some (.ldiv) := by decide +kernel
theorem k_169_57 : hm_code 169 57 = some (.ladd) := by decide +kernel
theorem k_169_58 : hm_code 169 58 = some (.lstore 4) := by decide +kernel
theorem k_169_60 : hm_code 169 60 = some (.aload_n 0) := by decide +kernel
theorem k_169_61 : hm_code 169 61 = some (.getfield 57) := by decide +kernel
theorem k_169_64 : hm_code 169 64 = some (.iload_n 3) := by decide +kernel
theorem k_169_65 : hm_code 169 65 = some (.lload 4) := by decide +kernel
theorem k_169_67 : hm_code 169 67 = some (.ldc2_w 253) := by decide +kernel
theorem k_169_70 : hm_code 169 70 = some (.lcmp) := by decide +kernel
theorem k_169_71 : hm_code 169 71 = some (.ifCond .le 9) := by decide +kernel
theorem k_169_74 : hm_code 169 74 = some (.ldc2_w 253) := by decide +kernel
theorem k_169_77 : hm_code 169 77 = some (.goto 5) := by decide +kernel
theorem k_169_80 : hm_code 169 80 = some (.lload 4) := by decide +kernel
theorem k_169_82 : hm_code 169 82 = some (.l2i) := by decide +kernel
theorem k_169_83 : hm_code 169 83 = some (.iastore) := by decide +kernel
theorem k_169_84 : hm_code 169 84 = some (.iinc 3 1) := by decide +kernel
theorem k_169_87 : hm_code 169 87 = some (.goto (-62)) := by decide +kernel
theorem k_169_90 : hm_code 169 90 = some (.iinc 2 1) := by decide +kernel
theorem k_169_93 : hm_code 169 93 = some (.goto (-75)) := by decide +kernel
theorem k_169_96 : hm_code 169 96 = some (.aload_n 0) := by decide +kernel
theorem k_169_97 : hm_code 169 97 = some (.invokevirtual 235) := by decide +kernel
theorem k_169_100 : hm_code 169 100 = some (.ireturn) := by decide +kernel
theorem m_170 : hm_mtab[170]? = some (⟨"HourPromisedModel", "tie", "(II)I"⟩, prog_10_method_56_code, 3, (some .int), 8, 3, 1) := rfl
theorem k_170_0 : hm_code 170 0 = some (.aload_n 0) := by decide +kernel
theorem k_170_1 : hm_code 170 1 = some (.iload_n 1) := by decide +kernel
theorem k_170_2 : hm_code 170 2 = some (.invokevirtual 240) := by decide +kernel
theorem k_170_5 : hm_code 170 5 = some (.ifCond .eq 11) := by decide +kernel
theorem k_170_8 : hm_code 170 8 = some (.aload_n 0) := by decide +kernel
theorem k_170_9 : hm_code 170 9 = some (.iload_n 2) := by decide +kernel
theorem k_170_10 : hm_code 170 10 = some (.invokevirtual 213) := by decide +kernel
theorem k_170_13 : hm_code 170 13 = some (.ifCond .ne 7) := by decide +kernel
theorem k_170_16 : hm_code 170 16 = some (.sipush (-1001)) := by decide +kernel
theorem k_170_19 : hm_code 170 19 = some (.ireturn) := by decide +kernel
theorem k_170_20 : hm_code 170 20 = some (.aload_n 0) := by decide +kernel
theorem k_170_21 : hm_code 170 21 = some (.getfield 60) := by decide +kernel
theorem k_170_24 : hm_code 170 24 = some (.iload_n 1) := by decide +kernel
theorem k_170_25 : hm_code 170 25 = some (.iaload) := by decide +kernel
theorem k_170_26 : hm_code 170 26 = some (.ifCond .ge 11) := by decide +kernel
theorem k_170_29 : hm_code 170 29 = some (.aload_n 0) := by decide +kernel
theorem k_170_30 : hm_code 170 30 = some (.iload_n 2) := by decide +kernel
theorem k_170_31 : hm_code 170 31 = some (.invokevirtual 255) := by decide +kernel
theorem k_170_34 : hm_code 170 34 = some (.ifCond .lt 7) := by decide +kernel
theorem k_170_37 : hm_code 170 37 = some (.sipush (-1003)) := by decide +kernel
theorem k_170_40 : hm_code 170 40 = some (.ireturn) := by decide +kernel
theorem k_170_41 : hm_code 170 41 = some (.aload_n 0) := by decide +kernel
theorem k_170_42 : hm_code 170 42 = some (.getfield 60) := by decide +kernel
theorem k_170_45 : hm_code 170 45 = some (.iload_n 1) := by decide +kernel
theorem k_170_46 : hm_code 170 46 = some (.iload_n 2) := by decide +kernel
theorem k_170_47 : hm_code 170 47 = some (.iastore) := by decide +kernel
theorem k_170_48 : hm_code 170 48 = some (.iconst 1) := by decide +kernel
theorem k_170_49 : hm_code 170 49 = some (.ireturn) := by decide +kernel
theorem m_171 : hm_mtab[171]? = some (⟨"HourPromisedModel", "planOf", "(I)I"⟩, prog_10_method_55_code, 4, (some .int), 8, 2, 1) := rfl
theorem k_171_0 : hm_code 171 0 = some (.iconst (-1)) := by decide +kernel
theorem k_171_1 : hm_code 171 1 = some (.istore_n 2) := by decide +kernel
theorem k_171_2 : hm_code 171 2 = some (.iconst 0) := by decide +kernel
theorem k_171_3 : hm_code 171 3 = some (.istore_n 3) := by decide +kernel
theorem k_171_4 : hm_code 171 4 = some (.iload_n 3) := by decide +kernel
theorem k_171_5 : hm_code 171 5 = some (.aload_n 0) := by decide +kernel
theorem k_171_6 : hm_code 171 6 = some (.getfield 232) := by decide +kernel
theorem k_171_9 : hm_code 171 9 = some (.if_icmp .ge 25) := by decide +kernel
theorem k_171_12 : hm_code 171 12 = some (.aload_n 0) := by decide +kernel
theorem k_171_13 : hm_code 171 13 = some (.getfield 60) := by decide +kernel
theorem k_171_16 : hm_code 171 16 = some (.iload_n 3) := by decide +kernel
theorem k_171_17 : hm_code 171 17 = some (.iaload) := by decide +kernel
theorem k_171_18 : hm_code 171 18 = some (.iload_n 1) := by decide +kernel
theorem k_171_19 : hm_code 171 19 = some (.if_icmp .ne 7) := by decide +kernel
theorem k_171_22 : hm_code 171 22 = some (.iload_n 3) := by decide +kernel
theorem k_171_23 : hm_code 171 23 = some (.goto 4) := by decide +kernel
theorem k_171_26 : hm_code 171 26 = some (.iload_n 2) := by decide +kernel
theorem k_171_27 : hm_code 171 27 = some (.istore_n 2) := by decide +kernel
theorem k_171_28 : hm_code 171 28 = some (.iinc 3 1) := by decide +kernel
theorem k_171_31 : hm_code 171 31 = some (.goto (-27)) := by decide +kernel
theorem k_171_34 : hm_code 171 34 = some (.iload_n 2) := by decide +kernel
theorem k_171_35 : hm_code 171 35 = some (.ireturn) := by decide +kernel
theorem m_172 : hm_mtab[172]? = some (⟨"HourPromisedModel", "settle", "(I)I"⟩, prog_10_method_57_code, 4, (some .int), 8, 2, 1) := rfl
theorem k_172_0 : hm_code 172 0 = some (.aload_n 0) := by decide +kernel
theorem k_172_1 : hm_code 172 1 = some (.iload_n 1) := by decide +kernel
theorem k_172_2 : hm_code 172 2 = some (.invokevirtual 213) := by decide +kernel
theorem k_172_5 : hm_code 172 5 = some (.ifCond .ne 7) := by decide +kernel
theorem k_172_8 : hm_code 172 8 = some (.sipush (-1001)) := by decide +kernel
theorem k_172_11 : hm_code 172 11 = some (.ireturn) := by decide +kernel
theorem k_172_12 : hm_code 172 12 = some (.aload_n 0) := by decide +kernel
theorem k_172_13 : hm_code 172 13 = some (.getfield 50) := by decide +kernel
theorem k_172_16 : hm_code 172 16 = some (.iload_n 1) := by decide +kernel
theorem k_172_17 : hm_code 172 17 = some (.baload) := by decide +kernel
theorem k_172_18 : hm_code 172 18 = some (.ifCond .ne 21) := by decide +kernel
theorem k_172_21 : hm_code 172 21 = some (.aload_n 0) := by decide +kernel
theorem k_172_22 : hm_code 172 22 = some (.iload_n 1) := by decide +kernel
theorem k_172_23 : hm_code 172 23 = some (.iconst 2) := by decide +kernel
theorem k_172_24 : hm_code 172 24 = some (.invokevirtual 92) := by decide +kernel
theorem k_172_27 : hm_code 172 27 = some (.ifCond .ge 16) := by decide +kernel
theorem k_172_30 : hm_code 172 30 = some (.aload_n 0) := by decide +kernel
theorem k_172_31 : hm_code 172 31 = some (.iload_n 1) := by decide +kernel
theorem k_172_32 : hm_code 172 32 = some (.iconst 3) := by decide +kernel
theorem k_172_33 : hm_code 172 33 = some (.invokevirtual 92) := by decide +kernel
theorem k_172_36 : hm_code 172 36 = some (.ifCond .ge 7) := by decide +kernel
theorem k_172_39 : hm_code 172 39 = some (.sipush (-1003)) := by decide +kernel
theorem k_172_42 : hm_code 172 42 = some (.ireturn) := by decide +kernel
theorem k_172_43 : hm_code 172 43 = some (.aload_n 0) := by decide +kernel
theorem k_172_44 : hm_code 172 44 = some (.getfield 50) := by decide +kernel
theorem k_172_47 : hm_code 172 47 = some (.iload_n 1) := by decide +kernel
theorem k_172_48 : hm_code 172 48 = some (.iconst 1) := by decide +kernel
theorem k_172_49 : hm_code 172 49 = some (.bastore) := by decide +kernel
theorem k_172_50 : hm_code 172 50 = some (.aload_n 0) := by decide +kernel
theorem k_172_51 : hm_code 172 51 = some (.iload_n 1) := by decide +kernel
theorem k_172_52 : hm_code 172 52 = some (.invokevirtual 255) := by decide +kernel
theorem k_172_55 : hm_code 172 55 = some (.istore_n 2) := by decide +kernel
theorem k_172_56 : hm_code 172 56 = some (.iload_n 2) := by decide +kernel
theorem k_172_57 : hm_code 172 57 = some (.ifCond .ge 5) := by decide +kernel
theorem k_172_60 : hm_code 172 60 = some (.iconst 0) := by decide +kernel
theorem k_172_61 : hm_code 172 61 = some (.ireturn) := by decide +kernel
theorem k_172_62 : hm_code 172 62 = some (.aload_n 0) := by decide +kernel
theorem k_172_63 : hm_code 172 63 = some (.getfield 54) := by decide +kernel
theorem k_172_66 : hm_code 172 66 = some (.iload_n 2) := by decide +kernel
theorem k_172_67 : hm_code 172 67 = some (.iaload) := by decide +kernel
theorem k_172_68 : hm_code 172 68 = some (.aload_n 0) := by decide +kernel
theorem k_172_69 : hm_code 172 69 = some (.getfield 57) := by decide +kernel
theorem k_172_72 : hm_code 172 72 = some (.iload_n 2) := by decide +kernel
theorem k_172_73 : hm_code 172 73 = some (.iaload) := by decide +kernel
theorem k_172_74 : hm_code 172 74 = some (.if_icmp .ge 12) := by decide +kernel
theorem k_172_77 : hm_code 172 77 = some (.aload_n 0) := by decide +kernel
theorem k_172_78 : hm_code 172 78 = some (.getfield 54) := by decide +kernel
theorem k_172_81 : hm_code 172 81 = some (.iload_n 2) := by decide +kernel
theorem k_172_82 : hm_code 172 82 = some (.iaload) := by decide +kernel
theorem k_172_83 : hm_code 172 83 = some (.goto 9) := by decide +kernel
theorem k_172_86 : hm_code 172 86 = some (.aload_n 0) := by decide +kernel
theorem k_172_87 : hm_code 172 87 = some (.getfield 57) := by decide +kernel
theorem k_172_90 : hm_code 172 90 = some (.iload_n 2) := by decide +kernel
theorem k_172_91 : hm_code 172 91 = some (.iaload) := by decide +kernel
theorem k_172_92 : hm_code 172 92 = some (.istore_n 3) := by decide +kernel
theorem k_172_93 : hm_code 172 93 = some (.aload_n 0) := by decide +kernel
theorem k_172_94 : hm_code 172 94 = some (.getfield 57) := by decide +kernel
theorem k_172_97 : hm_code 172 97 = some (.iload_n 2) := by decide +kernel
theorem k_172_98 : hm_code 172 98 = some (.dup2) := by decide +kernel
theorem k_172_99 : hm_code 172 99 = some (.iaload) := by decide +kernel
theorem k_172_100 : hm_code 172 100 = some (.iload_n 3) := by decide +kernel
theorem k_172_101 : hm_code 172 101 = some (.isub) := by decide +kernel
theorem k_172_102 : hm_code 172 102 = some (.iastore) := by decide +kernel
theorem k_172_103 : hm_code 172 103 = some (.aload_n 0) := by decide +kernel
theorem k_172_104 : hm_code 172 104 = some (.getfield 63) := by decide +kernel
theorem k_172_107 : hm_code 172 107 = some (.iload_n 2) := by decide +kernel
theorem k_172_108 : hm_code 172 108 = some (.dup2) := by decide +kernel
theorem k_172_109 : hm_code 172 109 = some (.iaload) := by decide +kernel
theorem k_172_110 : hm_code 172 110 = some (.iload_n 3) := by decide +kernel
theorem k_172_111 : hm_code 172 111 = some (.iadd) := by decide +kernel
theorem k_172_112 : hm_code 172 112 = some (.iastore) := by decide +kernel
theorem k_172_113 : hm_code 172 113 = some (.iload_n 3) := by decide +kernel
theorem k_172_114 : hm_code 172 114 = some (.ireturn) := by decide +kernel
theorem m_173 : hm_mtab[173]? = some (⟨"HourPromisedModel", "planned", "(II)I"⟩, prog_10_method_58_code, 3, (some .int), 8, 3, 1) := rfl
theorem k_173_0 : hm_code 173 0 = some (.aload_n 0) := by decide +kernel
theorem k_173_1 : hm_code 173 1 = some (.iload_n 1) := by decide +kernel
theorem k_173_2 : hm_code 173 2 = some (.invokevirtual 240) := by decide +kernel
theorem k_173_5 : hm_code 173 5 = some (.ifCond .ne 7) := by decide +kernel
theorem k_173_8 : hm_code 173 8 = some (.sipush (-1001)) := by decide +kernel
theorem k_173_11 : hm_code 173 11 = some (.ireturn) := by decide +kernel
theorem k_173_12 : hm_code 173 12 = some (.iload_n 2) := by decide +kernel
theorem k_173_13 : hm_code 173 13 = some (.tableswitch 59 0 3 #[31, 38, 45, 52]) := by decide +kernel
theorem k_173_44 : hm_code 173 44 = some (.aload_n 0) := by decide +kernel
theorem k_173_45 : hm_code 173 45 = some (.getfield 54) := by decide +kernel
theorem k_173_48 : hm_code 173 48 = some (.iload_n 1) := by decide +kernel
theorem k_173_49 : hm_code 173 49 = some (.iaload) := by decide +kernel
theorem k_173_50 : hm_code 173 50 = some (.ireturn) := by decide +kernel
theorem k_173_51 : hm_code 173 51 = some (.aload_n 0) := by decide +kernel
theorem k_173_52 : hm_code 173 52 = some (.getfield 57) := by decide +kernel
theorem k_173_55 : hm_code 173 55 = some (.iload_n 1) := by decide +kernel
theorem k_173_56 : hm_code 173 56 = some (.iaload) := by decide +kernel
theorem k_173_57 : hm_code 173 57 = some (.ireturn) := by decide +kernel
theorem k_173_58 : hm_code 173 58 = some (.aload_n 0) := by decide +kernel
theorem k_173_59 : hm_code 173 59 = some (.getfield 60) := by decide +kernel
theorem k_173_62 : hm_code 173 62 = some (.iload_n 1) := by decide +kernel
theorem k_173_63 : hm_code 173 63 = some (.iaload) := by decide +kernel
theorem k_173_64 : hm_code 173 64 = some (.ireturn) := by decide +kernel
theorem k_173_65 : hm_code 173 65 = some (.aload_n 0) := by decide +kernel
theorem k_173_66 : hm_code 173 66 = some (.getfield 63) := by decide +kernel
theorem k_173_69 : hm_code 173 69 = some (.iload_n 1) := by decide +kernel
theorem k_173_70 : hm_code 173 70 = some (.iaload) := by decide +kernel
theorem k_173_71 : hm_code 173 71 = some (.ireturn) := by decide +kernel
theorem k_173_72 : hm_code 173 72 = some (.sipush (-1002)) := by decide +kernel
theorem k_173_75 : hm_code 173 75 = some (.ireturn) := by decide +kernel
