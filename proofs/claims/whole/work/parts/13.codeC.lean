theorem m_117 : hm_mtab[117]? = some (⟨"HourPromisedModel", "<init>", "()V"⟩, prog_10_method_1_code, 2, none, 8, 1, 2) := rfl
theorem k_117_0 : hm_code 117 0 = some (.aload_n 0) := by decide +kernel
theorem k_117_1 : hm_code 117 1 = some (.invokespecial 1) := by decide +kernel
theorem k_117_4 : hm_code 117 4 = some (.aload_n 0) := by decide +kernel
theorem k_117_5 : hm_code 117 5 = some (.iconst 3) := by decide +kernel
theorem k_117_6 : hm_code 117 6 = some (.newarray .int) := by decide +kernel
theorem k_117_8 : hm_code 117 8 = some (.putfield 7) := by decide +kernel
theorem k_117_11 : hm_code 117 11 = some (.aload_n 0) := by decide +kernel
theorem k_117_12 : hm_code 117 12 = some (.iconst 3) := by decide +kernel
theorem k_117_13 : hm_code 117 13 = some (.newarray .int) := by decide +kernel
theorem k_117_15 : hm_code 117 15 = some (.putfield 13) := by decide +kernel
theorem k_117_18 : hm_code 117 18 = some (.aload_n 0) := by decide +kernel
theorem k_117_19 : hm_code 117 19 = some (.bipush 12) := by decide +kernel
theorem k_117_21 : hm_code 117 21 = some (.newarray .int) := by decide +kernel
theorem k_117_23 : hm_code 117 23 = some (.putfield 16) := by decide +kernel
theorem k_117_26 : hm_code 117 26 = some (.aload_n 0) := by decide +kernel
theorem k_117_27 : hm_code 117 27 = some (.bipush 80) := by decide +kernel
theorem k_117_29 : hm_code 117 29 = some (.newarray .int) := by decide +kernel
theorem k_117_31 : hm_code 117 31 = some (.putfield 19) := by decide +kernel
theorem k_117_34 : hm_code 117 34 = some (.aload_n 0) := by decide +kernel
theorem k_117_35 : hm_code 117 35 = some (.bipush 20) := by decide +kernel
theorem k_117_37 : hm_code 117 37 = some (.newarray .int) := by decide +kernel
theorem k_117_39 : hm_code 117 39 = some (.putfield 22) := by decide +kernel
theorem k_117_42 : hm_code 117 42 = some (.aload_n 0) := by decide +kernel
theorem k_117_43 : hm_code 117 43 = some (.bipush 100) := by decide +kernel
theorem k_117_45 : hm_code 117 45 = some (.newarray .int) := by decide +kernel
theorem k_117_47 : hm_code 117 47 = some (.putfield 25) := by decide +kernel
theorem k_117_50 : hm_code 117 50 = some (.aload_n 0) := by decide +kernel
theorem k_117_51 : hm_code 117 51 = some (.iconst (-1)) := by decide +kernel
theorem k_117_52 : hm_code 117 52 = some (.putfield 28) := by decide +kernel
theorem k_117_55 : hm_code 117 55 = some (.aload_n 0) := by decide +kernel
theorem k_117_56 : hm_code 117 56 = some (.bipush 16) := by decide +kernel
theorem k_117_58 : hm_code 117 58 = some (.newarray .int) := by decide +kernel
theorem k_117_60 : hm_code 117 60 = some (.putfield 32) := by decide +kernel
theorem k_117_63 : hm_code 117 63 = some (.aload_n 0) := by decide +kernel
theorem k_117_64 : hm_code 117 64 = some (.bipush 16) := by decide +kernel
theorem k_117_66 : hm_code 117 66 = some (.newarray .int) := by decide +kernel
theorem k_117_68 : hm_code 117 68 = some (.putfield 35) := by decide +kernel
theorem k_117_71 : hm_code 117 71 = some (.aload_n 0) := by decide +kernel
theorem k_117_72 : hm_code 117 72 = some (.bipush 16) := by decide +kernel
theorem k_117_74 : hm_code 117 74 = some (.newarray .int) := by decide +kernel
theorem k_117_76 : hm_code 117 76 = some (.putfield 38) := by decide +kernel
theorem k_117_79 : hm_code 117 79 = some (.aload_n 0) := by decide +kernel
theorem k_117_80 : hm_code 117 80 = some (.bipush 16) := by decide +kernel
theorem k_117_82 : hm_code 117 82 = some (.newarray .int) := by decide +kernel
theorem k_117_84 : hm_code 117 84 = some (.putfield 41) := by decide +kernel
theorem k_117_87 : hm_code 117 87 = some (.aload_n 0) := by decide +kernel
theorem k_117_88 : hm_code 117 88 = some (.bipush 96) := by decide +kernel
theorem k_117_90 : hm_code 117 90 = some (.newarray .int) := by decide +kernel
theorem k_117_92 : hm_code 117 92 = some (.putfield 44) := by decide +kernel
theorem k_117_95 : hm_code 117 95 = some (.aload_n 0) := by decide +kernel
theorem k_117_96 : hm_code 117 96 = some (.bipush 64) := by decide +kernel
theorem k_117_98 : hm_code 117 98 = some (.newarray .int) := by decide +kernel
theorem k_117_100 : hm_code 117 100 = some (.putfield 47) := by decide +kernel
theorem k_117_103 : hm_code 117 103 = some (.aload_n 0) := by decide +kernel
theorem k_117_104 : hm_code 117 104 = some (.bipush 16) := by decide +kernel
theorem k_117_106 : hm_code 117 106 = some (.newarray .boolean) := by decide +kernel
theorem k_117_108 : hm_code 117 108 = some (.putfield 50) := by decide +kernel
theorem k_117_111 : hm_code 117 111 = some (.aload_n 0) := by decide +kernel
theorem k_117_112 : hm_code 117 112 = some (.bipush 16) := by decide +kernel
theorem k_117_114 : hm_code 117 114 = some (.newarray .int) := by decide +kernel
theorem k_117_116 : hm_code 117 116 = some (.putfield 54) := by decide +kernel
theorem k_117_119 : hm_code 117 119 = some (.aload_n 0) := by decide +kernel
theorem k_117_120 : hm_code 117 120 = some (.bipush 16) := by decide +kernel
theorem k_117_122 : hm_code 117 122 = some (.newarray .int) := by decide +kernel
theorem k_117_124 : hm_code 117 124 = some (.putfield 57) := by decide +kernel
theorem k_117_127 : hm_code 117 127 = some (.aload_n 0) := by decide +kernel
theorem k_117_128 : hm_code 117 128 = some (.bipush 16) := by decide +kernel
theorem k_117_130 : hm_code 117 130 = some (.newarray .int) := by decide +kernel
theorem k_117_132 : hm_code 117 132 = some (.putfield 60) := by decide +kernel
theorem k_117_135 : hm_code 117 135 = some (.aload_n 0) := by decide +kernel
theorem k_117_136 : hm_code 117 136 = some (.bipush 16) := by decide +kernel
theorem k_117_138 : hm_code 117 138 = some (.newarray .int) := by decide +kernel
theorem k_117_140 : hm_code 117 140 = some (.putfield 63) := by decide +kernel
theorem k_117_143 : hm_code 117 143 = some (.aload_n 0) := by decide +kernel
theorem k_117_144 : hm_code 117 144 = some (.bipush 8) := by decide +kernel
theorem k_117_146 : hm_code 117 146 = some (.newarray .int) := by decide +kernel
theorem k_117_148 : hm_code 117 148 = some (.putfield 66) := by decide +kernel
theorem k_117_151 : hm_code 117 151 = some (.aload_n 0) := by decide +kernel
theorem k_117_152 : hm_code 117 152 = some (.bipush 8) := by decide +kernel
theorem k_117_154 : hm_code 117 154 = some (.newarray .int) := by decide +kernel
theorem k_117_156 : hm_code 117 156 = some (.putfield 69) := by decide +kernel
theorem k_117_159 : hm_code 117 159 = some (.aload_n 0) := by decide +kernel
theorem k_117_160 : hm_code 117 160 = some (.sipush 7392) := by decide +kernel
theorem k_117_163 : hm_code 117 163 = some (.newarray .int) := by decide +kernel
theorem k_117_165 : hm_code 117 165 = some (.putfield 72) := by decide +kernel
theorem k_117_168 : hm_code 117 168 = some (.aload_n 0) := by decide +kernel
theorem k_117_169 : hm_code 117 169 = some (.bipush 8) := by decide +kernel
theorem k_117_171 : hm_code 117 171 = some (.newarray .int) := by decide +kernel
theorem k_117_173 : hm_code 117 173 = some (.putfield 75) := by decide +kernel
theorem k_117_176 : hm_code 117 176 = some (.aload_n 0) := by decide +kernel
theorem k_117_177 : hm_code 117 177 = some (.bipush 6) := by decide +kernel
theorem k_117_179 : hm_code 117 179 = some (.newarray .int) := by decide +kernel
theorem k_117_181 : hm_code 117 181 = some (.putfield 78) := by decide +kernel
theorem k_117_184 : hm_code 117 184 = some (.aload_n 0) := by decide +kernel
theorem k_117_185 : hm_code 117 185 = some (.getfield 7) := by decide +kernel
theorem k_117_188 : hm_code 117 188 = some (.iconst 0) := by decide +kernel
theorem k_117_189 : hm_code 117 189 = some (.iconst 3) := by decide +kernel
theorem k_117_190 : hm_code 117 190 = some (.iastore) := by decide +kernel
theorem k_117_191 : hm_code 117 191 = some (.aload_n 0) := by decide +kernel
theorem k_117_192 : hm_code 117 192 = some (.getfield 7) := by decide +kernel
theorem k_117_195 : hm_code 117 195 = some (.iconst 1) := by decide +kernel
theorem k_117_196 : hm_code 117 196 = some (.iconst 1) := by decide +kernel
theorem k_117_197 : hm_code 117 197 = some (.iastore) := by decide +kernel
theorem k_117_198 : hm_code 117 198 = some (.aload_n 0) := by decide +kernel
theorem k_117_199 : hm_code 117 199 = some (.getfield 7) := by decide +kernel
theorem k_117_202 : hm_code 117 202 = some (.iconst 2) := by decide +kernel
theorem k_117_203 : hm_code 117 203 = some (.iconst 4) := by decide +kernel
theorem k_117_204 : hm_code 117 204 = some (.iastore) := by decide +kernel
theorem k_117_205 : hm_code 117 205 = some (.iconst 0) := by decide +kernel
theorem k_117_206 : hm_code 117 206 = some (.istore_n 1) := by decide +kernel
theorem k_117_207 : hm_code 117 207 = some (.iload_n 1) := by decide +kernel
theorem k_117_208 : hm_code 117 208 = some (.iconst 3) := by decide +kernel
theorem k_117_209 : hm_code 117 209 = some (.if_icmp .ge 18) := by decide +kernel
theorem k_117_212 : hm_code 117 212 = some (.aload_n 0) := by decide +kernel
theorem k_117_213 : hm_code 117 213 = some (.getfield 13) := by decide +kernel
theorem k_117_216 : hm_code 117 216 = some (.iload_n 1) := by decide +kernel
theorem k_117_217 : hm_code 117 217 = some (.sipush 1023) := by decide +kernel
theorem k_117_220 : hm_code 117 220 = some (.iastore) := by decide +kernel
theorem k_117_221 : hm_code 117 221 = some (.iinc 1 1) := by decide +kernel
theorem k_117_224 : hm_code 117 224 = some (.goto (-17)) := by decide +kernel
theorem k_117_227 : hm_code 117 227 = some (.iconst 0) := by decide +kernel
theorem k_117_228 : hm_code 117 228 = some (.istore_n 1) := by decide +kernel
theorem k_117_229 : hm_code 117 229 = some (.iload_n 1) := by decide +kernel
theorem k_117_230 : hm_code 117 230 = some (.bipush 80) := by decide +kernel
theorem k_117_232 : hm_code 117 232 = some (.if_icmp .ge 34) := by decide +kernel
theorem k_117_235 : hm_code 117 235 = some (.aload_n 0) := by decide +kernel
theorem k_117_236 : hm_code 117 236 = some (.getfield 19) := by decide +kernel
theorem k_117_239 : hm_code 117 239 = some (.iload_n 1) := by decide +kernel
theorem k_117_240 : hm_code 117 240 = some (.iload_n 1) := by decide +kernel
theorem k_117_241 : hm_code 117 241 = some (.iconst 5) := by decide +kernel
theorem k_117_242 : hm_code 117 242 = some (.irem) := by decide +kernel
theorem k_117_243 : hm_code 117 243 = some (.iconst 1) := by decide +kernel
theorem k_117_244 : hm_code 117 244 = some (.if_icmp .eq 10) := by decide +kernel
theorem k_117_247 : hm_code 117 247 = some (.iload_n 1) := by decide +kernel
theorem k_117_248 : hm_code 117 248 = some (.iconst 5) := by decide +kernel
theorem k_117_249 : hm_code 117 249 = some (.irem) := by decide +kernel
theorem k_117_250 : hm_code 117 250 = some (.iconst 2) := by decide +kernel
theorem k_117_251 : hm_code 117 251 = some (.if_icmp .ne 7) := by decide +kernel
theorem k_117_254 : hm_code 117 254 = some (.iconst (-1)) := by decide +kernel
theorem k_117_255 : hm_code 117 255 = some (.goto 4) := by decide +kernel
theorem k_117_258 : hm_code 117 258 = some (.iconst 0) := by decide +kernel
theorem k_117_259 : hm_code 117 259 = some (.iastore) := by decide +kernel
theorem k_117_260 : hm_code 117 260 = some (.iinc 1 1) := by decide +kernel
theorem k_117_263 : hm_code 117 263 = some (.goto (-34)) := by decide +kernel
theorem k_117_266 : hm_code 117 266 = some (.return_) := by decide +kernel
theorem m_118 : hm_mtab[118]? = some (⟨"HourPromisedModel", "house", "(II)I"⟩, prog_10_method_14_code, 5, (some .int), 8, 3, 1) := rfl
theorem k_118_0 : hm_code 118 0 = some (.iload_n 1) := by decide +kernel
theorem k_118_1 : hm_code 118 1 = some (.i2l) := by decide +kernel
theorem k_118_2 : hm_code 118 2 = some (.lconst 0) := by decide +kernel
theorem k_118_3 : hm_code 118 3 = some (.ldc2_w 103) := by decide +kernel
theorem k_118_6 : hm_code 118 6 = some (.invokestatic 84) := by decide +kernel
theorem k_118_9 : hm_code 118 9 = some (.ifCond .eq 36) := by decide +kernel
theorem k_118_12 : hm_code 118 12 = some (.iload_n 2) := by decide +kernel
theorem k_118_13 : hm_code 118 13 = some (.i2l) := by decide +kernel
theorem k_118_14 : hm_code 118 14 = some (.lconst 0) := by decide +kernel
theorem k_118_15 : hm_code 118 15 = some (.iload_n 1) := by decide +kernel
theorem k_118_16 : hm_code 118 16 = some (.ifCond .ne 9) := by decide +kernel
theorem k_118_19 : hm_code 118 19 = some (.ldc2_w 105) := by decide +kernel
theorem k_118_22 : hm_code 118 22 = some (.goto 17) := by decide +kernel
theorem k_118_25 : hm_code 118 25 = some (.iload_n 1) := by decide +kernel
theorem k_118_26 : hm_code 118 26 = some (.iconst 1) := by decide +kernel
theorem k_118_27 : hm_code 118 27 = some (.if_icmp .ne 9) := by decide +kernel
theorem k_118_30 : hm_code 118 30 = some (.ldc2_w 90) := by decide +kernel
theorem k_118_33 : hm_code 118 33 = some (.goto 6) := by decide +kernel
theorem k_118_36 : hm_code 118 36 = some (.ldc2_w 107) := by decide +kernel
theorem k_118_39 : hm_code 118 39 = some (.invokestatic 84) := by decide +kernel
theorem k_118_42 : hm_code 118 42 = some (.ifCond .ne 7) := by decide +kernel
theorem k_118_45 : hm_code 118 45 = some (.sipush (-1002)) := by decide +kernel
theorem k_118_48 : hm_code 118 48 = some (.ireturn) := by decide +kernel
theorem k_118_49 : hm_code 118 49 = some (.iconst 0) := by decide +kernel
theorem k_118_50 : hm_code 118 50 = some (.istore_n 3) := by decide +kernel
theorem k_118_51 : hm_code 118 51 = some (.iload_n 3) := by decide +kernel
theorem k_118_52 : hm_code 118 52 = some (.sipush 400) := by decide +kernel
theorem k_118_55 : hm_code 118 55 = some (.if_icmp .ge 52) := by decide +kernel
theorem k_118_58 : hm_code 118 58 = some (.iload_n 1) := by decide +kernel
theorem k_118_59 : hm_code 118 59 = some (.ifCond .ne 11) := by decide +kernel
theorem k_118_62 : hm_code 118 62 = some (.aload_n 0) := by decide +kernel
theorem k_118_63 : hm_code 118 63 = some (.iload_n 3) := by decide +kernel
theorem k_118_64 : hm_code 118 64 = some (.invokevirtual 109) := by decide +kernel
theorem k_118_67 : hm_code 118 67 = some (.goto 22) := by decide +kernel
theorem k_118_70 : hm_code 118 70 = some (.iload_n 1) := by decide +kernel
theorem k_118_71 : hm_code 118 71 = some (.iconst 1) := by decide +kernel
theorem k_118_72 : hm_code 118 72 = some (.if_icmp .ne 12) := by decide +kernel
theorem k_118_75 : hm_code 118 75 = some (.aload_n 0) := by decide +kernel
theorem k_118_76 : hm_code 118 76 = some (.iload_n 3) := by decide +kernel
theorem k_118_77 : hm_code 118 77 = some (.iconst 2) := by decide +kernel
theorem k_118_78 : hm_code 118 78 = some (.invokevirtual 96) := by decide +kernel
theorem k_118_81 : hm_code 118 81 = some (.goto 8) := by decide +kernel
theorem k_118_84 : hm_code 118 84 = some (.aload_n 0) := by decide +kernel
theorem k_118_85 : hm_code 118 85 = some (.iload_n 3) := by decide +kernel
theorem k_118_86 : hm_code 118 86 = some (.invokevirtual 112) := by decide +kernel
theorem k_118_89 : hm_code 118 89 = some (.istore 4) := by decide +kernel
theorem k_118_91 : hm_code 118 91 = some (.iload 4) := by decide +kernel
theorem k_118_93 : hm_code 118 93 = some (.iload_n 2) := by decide +kernel
theorem k_118_94 : hm_code 118 94 = some (.if_icmp .le 7) := by decide +kernel
theorem k_118_97 : hm_code 118 97 = some (.sipush (-1003)) := by decide +kernel
theorem k_118_100 : hm_code 118 100 = some (.ireturn) := by decide +kernel
theorem k_118_101 : hm_code 118 101 = some (.iinc 3 1) := by decide +kernel
theorem k_118_104 : hm_code 118 104 = some (.goto (-53)) := by decide +kernel
theorem k_118_107 : hm_code 118 107 = some (.aload_n 0) := by decide +kernel
theorem k_118_108 : hm_code 118 108 = some (.getfield 7) := by decide +kernel
theorem k_118_111 : hm_code 118 111 = some (.iload_n 1) := by decide +kernel
theorem k_118_112 : hm_code 118 112 = some (.iaload) := by decide +kernel
theorem k_118_113 : hm_code 118 113 = some (.istore_n 3) := by decide +kernel
theorem k_118_114 : hm_code 118 114 = some (.aload_n 0) := by decide +kernel
theorem k_118_115 : hm_code 118 115 = some (.getfield 7) := by decide +kernel
theorem k_118_118 : hm_code 118 118 = some (.iload_n 1) := by decide +kernel
theorem k_118_119 : hm_code 118 119 = some (.iload_n 2) := by decide +kernel
theorem k_118_120 : hm_code 118 120 = some (.iastore) := by decide +kernel
theorem k_118_121 : hm_code 118 121 = some (.iload_n 3) := by decide +kernel
theorem k_118_122 : hm_code 118 122 = some (.ireturn) := by decide +kernel
theorem m_119 : hm_mtab[119]? = some (⟨"HourPromisedModel", "in", "(JJJ)Z"⟩, prog_10_method_3_code, 6, (some .boolean), 8, 3, 0) := rfl
theorem k_119_0 : hm_code 119 0 = some (.lload_n 0) := by decide +kernel
theorem k_119_1 : hm_code 119 1 = some (.lload_n 2) := by decide +kernel
theorem k_119_2 : hm_code 119 2 = some (.lcmp) := by decide +kernel
theorem k_119_3 : hm_code 119 3 = some (.ifCond .lt 14) := by decide +kernel
theorem k_119_6 : hm_code 119 6 = some (.lload_n 0) := by decide +kernel
theorem k_119_7 : hm_code 119 7 = some (.lload 4) := by decide +kernel
theorem k_119_9 : hm_code 119 9 = some (.lcmp) := by decide +kernel
theorem k_119_10 : hm_code 119 10 = some (.ifCond .gt 7) := by decide +kernel
theorem k_119_13 : hm_code 119 13 = some (.iconst 1) := by decide +kernel
theorem k_119_14 : hm_code 119 14 = some (.goto 4) := by decide +kernel
theorem k_119_17 : hm_code 119 17 = some (.iconst 0) := by decide +kernel
theorem k_119_18 : hm_code 119 18 = some (.ireturn) := by decide +kernel
theorem m_120 : hm_mtab[120]? = some (⟨"HourPromisedModel", "carsAt", "(I)I"⟩, prog_10_method_10_code, 2, (some .int), 8, 2, 1) := rfl
theorem k_120_0 : hm_code 120 0 = some (.aload_n 0) := by decide +kernel
theorem k_120_1 : hm_code 120 1 = some (.iload_n 1) := by decide +kernel
theorem k_120_2 : hm_code 120 2 = some (.iconst 0) := by decide +kernel
theorem k_120_3 : hm_code 120 3 = some (.invokevirtual 96) := by decide +kernel
theorem k_120_6 : hm_code 120 6 = some (.aload_n 0) := by decide +kernel
theorem k_120_7 : hm_code 120 7 = some (.iload_n 1) := by decide +kernel
theorem k_120_8 : hm_code 120 8 = some (.iconst 1) := by decide +kernel
theorem k_120_9 : hm_code 120 9 = some (.invokevirtual 96) := by decide +kernel
theorem k_120_12 : hm_code 120 12 = some (.iadd) := by decide +kernel
theorem k_120_13 : hm_code 120 13 = some (.aload_n 0) := by decide +kernel
theorem k_120_14 : hm_code 120 14 = some (.iload_n 1) := by decide +kernel
theorem k_120_15 : hm_code 120 15 = some (.iconst 2) := by decide +kernel
theorem k_120_16 : hm_code 120 16 = some (.invokevirtual 96) := by decide +kernel
theorem k_120_19 : hm_code 120 19 = some (.iadd) := by decide +kernel
theorem k_120_20 : hm_code 120 20 = some (.aload_n 0) := by decide +kernel
theorem k_120_21 : hm_code 120 21 = some (.iload_n 1) := by decide +kernel
theorem k_120_22 : hm_code 120 22 = some (.iconst 3) := by decide +kernel
theorem k_120_23 : hm_code 120 23 = some (.invokevirtual 96) := by decide +kernel
theorem k_120_26 : hm_code 120 26 = some (.iadd) := by decide +kernel
theorem k_120_27 : hm_code 120 27 = some (.ireturn) := by decide +kernel
theorem m_121 : hm_mtab[121]? = some (⟨"HourPromisedModel", "stepsAt", "(II)I"⟩, prog_10_method_9_code, 5, (some .int), 8, 3, 1) := rfl
theorem k_121_0 : hm_code 121 0 = some (.iconst 0) := by decide +kernel
theorem k_121_1 : hm_code 121 1 = some (.istore_n 3) := by decide +kernel
theorem k_121_2 : hm_code 121 2 = some (.iconst 0) := by decide +kernel
theorem k_121_3 : hm_code 121 3 = some (.istore 4) := by decide +kernel
theorem k_121_5 : hm_code 121 5 = some (.iload 4) := by decide +kernel
theorem k_121_7 : hm_code 121 7 = some (.aload_n 0) := by decide +kernel
theorem k_121_8 : hm_code 121 8 = some (.getfield 81) := by decide +kernel
theorem k_121_11 : hm_code 121 11 = some (.if_icmp .ge 28) := by decide +kernel
theorem k_121_14 : hm_code 121 14 = some (.iload_n 3) := by decide +kernel
theorem k_121_15 : hm_code 121 15 = some (.aload_n 0) := by decide +kernel
theorem k_121_16 : hm_code 121 16 = some (.iload 4) := by decide +kernel
theorem k_121_18 : hm_code 121 18 = some (.iload_n 2) := by decide +kernel
theorem k_121_19 : hm_code 121 19 = some (.invokevirtual 92) := by decide +kernel
theorem k_121_22 : hm_code 121 22 = some (.iload_n 1) := by decide +kernel
theorem k_121_23 : hm_code 121 23 = some (.if_icmp .ne 7) := by decide +kernel
theorem k_121_26 : hm_code 121 26 = some (.iconst 1) := by decide +kernel
theorem k_121_27 : hm_code 121 27 = some (.goto 4) := by decide +kernel
theorem k_121_30 : hm_code 121 30 = some (.iconst 0) := by decide +kernel
theorem k_121_31 : hm_code 121 31 = some (.iadd) := by decide +kernel
theorem k_121_32 : hm_code 121 32 = some (.istore_n 3) := by decide +kernel
theorem k_121_33 : hm_code 121 33 = some (.iinc 4 1) := by decide +kernel
theorem k_121_36 : hm_code 121 36 = some (.goto (-31)) := by decide +kernel
theorem k_121_39 : hm_code 121 39 = some (.iload_n 3) := by decide +kernel
theorem k_121_40 : hm_code 121 40 = some (.ireturn) := by decide +kernel
theorem m_122 : hm_mtab[122]? = some (⟨"HourPromisedModel", "hourOf", "(II)I"⟩, prog_10_method_7_code, 3, (some .int), 8, 3, 1) := rfl
theorem k_122_0 : hm_code 122 0 = some (.aload_n 0) := by decide +kernel
theorem k_122_1 : hm_code 122 1 = some (.getfield 47) := by decide +kernel
theorem k_122_4 : hm_code 122 4 = some (.iconst 4) := by decide +kernel
theorem k_122_5 : hm_code 122 5 = some (.iload_n 1) := by decide +kernel
theorem k_122_6 : hm_code 122 6 = some (.imul) := by decide +kernel
theorem k_122_7 : hm_code 122 7 = some (.iload_n 2) := by decide +kernel
theorem k_122_8 : hm_code 122 8 = some (.iadd) := by decide +kernel
theorem k_122_9 : hm_code 122 9 = some (.iaload) := by decide +kernel
theorem k_122_10 : hm_code 122 10 = some (.ireturn) := by decide +kernel
theorem m_123 : hm_mtab[123]? = some (⟨"HourPromisedModel", "roomsAt", "(I)I"⟩, prog_10_method_12_code, 4, (some .int), 8, 2, 1) := rfl
theorem k_123_0 : hm_code 123 0 = some (.iconst 0) := by decide +kernel
theorem k_123_1 : hm_code 123 1 = some (.istore_n 2) := by decide +kernel
theorem k_123_2 : hm_code 123 2 = some (.iconst 0) := by decide +kernel
theorem k_123_3 : hm_code 123 3 = some (.istore_n 3) := by decide +kernel
theorem k_123_4 : hm_code 123 4 = some (.iload_n 3) := by decide +kernel
theorem k_123_5 : hm_code 123 5 = some (.aload_n 0) := by decide +kernel
theorem k_123_6 : hm_code 123 6 = some (.getfield 81) := by decide +kernel
theorem k_123_9 : hm_code 123 9 = some (.if_icmp .ge 47) := by decide +kernel
theorem k_123_12 : hm_code 123 12 = some (.iload_n 2) := by decide +kernel
theorem k_123_13 : hm_code 123 13 = some (.aload_n 0) := by decide +kernel
theorem k_123_14 : hm_code 123 14 = some (.iload_n 3) := by decide +kernel
theorem k_123_15 : hm_code 123 15 = some (.iconst 0) := by decide +kernel
theorem k_123_16 : hm_code 123 16 = some (.invokevirtual 92) := by decide +kernel
theorem k_123_19 : hm_code 123 19 = some (.ifCond .lt 28) := by decide +kernel
theorem k_123_22 : hm_code 123 22 = some (.iload_n 1) := by decide +kernel
theorem k_123_23 : hm_code 123 23 = some (.i2l) := by decide +kernel
theorem k_123_24 : hm_code 123 24 = some (.aload_n 0) := by decide +kernel
theorem k_123_25 : hm_code 123 25 = some (.iload_n 3) := by decide +kernel
theorem k_123_26 : hm_code 123 26 = some (.iconst 0) := by decide +kernel
theorem k_123_27 : hm_code 123 27 = some (.invokevirtual 92) := by decide +kernel
theorem k_123_30 : hm_code 123 30 = some (.i2l) := by decide +kernel
theorem k_123_31 : hm_code 123 31 = some (.aload_n 0) := by decide +kernel
theorem k_123_32 : hm_code 123 32 = some (.iload_n 3) := by decide +kernel
theorem k_123_33 : hm_code 123 33 = some (.invokevirtual 99) := by decide +kernel
theorem k_123_36 : hm_code 123 36 = some (.i2l) := by decide +kernel
theorem k_123_37 : hm_code 123 37 = some (.invokestatic 84) := by decide +kernel
theorem k_123_40 : hm_code 123 40 = some (.ifCond .eq 7) := by decide +kernel
theorem k_123_43 : hm_code 123 43 = some (.iconst 1) := by decide +kernel
theorem k_123_44 : hm_code 123 44 = some (.goto 4) := by decide +kernel
theorem k_123_47 : hm_code 123 47 = some (.iconst 0) := by decide +kernel
theorem k_123_48 : hm_code 123 48 = some (.iadd) := by decide +kernel
theorem k_123_49 : hm_code 123 49 = some (.istore_n 2) := by decide +kernel
theorem k_123_50 : hm_code 123 50 = some (.iinc 3 1) := by decide +kernel
theorem k_123_53 : hm_code 123 53 = some (.goto (-49)) := by decide +kernel
theorem k_123_56 : hm_code 123 56 = some (.iload_n 2) := by decide +kernel
theorem k_123_57 : hm_code 123 57 = some (.ireturn) := by decide +kernel
theorem m_124 : hm_mtab[124]? = some (⟨"HourPromisedModel", "roomEnd", "(I)I"⟩, prog_10_method_11_code, 5, (some .int), 8, 2, 1) := rfl
theorem k_124_0 : hm_code 124 0 = some (.aload_n 0) := by decide +kernel
theorem k_124_1 : hm_code 124 1 = some (.iload_n 1) := by decide +kernel
theorem k_124_2 : hm_code 124 2 = some (.iconst 2) := by decide +kernel
theorem k_124_3 : hm_code 124 3 = some (.invokevirtual 92) := by decide +kernel
theorem k_124_6 : hm_code 124 6 = some (.istore_n 2) := by decide +kernel
theorem k_124_7 : hm_code 124 7 = some (.aload_n 0) := by decide +kernel
theorem k_124_8 : hm_code 124 8 = some (.iload_n 1) := by decide +kernel
theorem k_124_9 : hm_code 124 9 = some (.iconst 3) := by decide +kernel
theorem k_124_10 : hm_code 124 10 = some (.invokevirtual 92) := by decide +kernel
theorem k_124_13 : hm_code 124 13 = some (.istore_n 3) := by decide +kernel
theorem k_124_14 : hm_code 124 14 = some (.iload_n 2) := by decide +kernel
theorem k_124_15 : hm_code 124 15 = some (.ifCond .ge 7) := by decide +kernel
theorem k_124_18 : hm_code 124 18 = some (.iload_n 3) := by decide +kernel
theorem k_124_19 : hm_code 124 19 = some (.goto 21) := by decide +kernel
theorem k_124_22 : hm_code 124 22 = some (.iload_n 3) := by decide +kernel
theorem k_124_23 : hm_code 124 23 = some (.ifCond .ge 7) := by decide +kernel
theorem k_124_26 : hm_code 124 26 = some (.iload_n 2) := by decide +kernel
theorem k_124_27 : hm_code 124 27 = some (.goto 13) := by decide +kernel
theorem k_124_30 : hm_code 124 30 = some (.iload_n 2) := by decide +kernel
theorem k_124_31 : hm_code 124 31 = some (.iload_n 3) := by decide +kernel
theorem k_124_32 : hm_code 124 32 = some (.if_icmp .ge 7) := by decide +kernel
theorem k_124_35 : hm_code 124 35 = some (.iload_n 2) := by decide +kernel
theorem k_124_36 : hm_code 124 36 = some (.goto 4) := by decide +kernel
theorem k_124_39 : hm_code 124 39 = some (.iload_n 3) := by decide +kernel
theorem k_124_40 : hm_code 124 40 = some (.istore 4) := by decide +kernel
theorem k_124_42 : hm_code 124 42 = some (.iload 4) := by decide +kernel
theorem k_124_44 : hm_code 124 44 = some (.ifCond .ge 9) := by decide +kernel
theorem k_124_47 : hm_code 124 47 = some (.sipush 399) := by decide +kernel
theorem k_124_50 : hm_code 124 50 = some (.goto 7) := by decide +kernel
theorem k_124_53 : hm_code 124 53 = some (.iload 4) := by decide +kernel
theorem k_124_55 : hm_code 124 55 = some (.iconst 1) := by decide +kernel
theorem k_124_56 : hm_code 124 56 = some (.isub) := by decide +kernel
theorem k_124_57 : hm_code 124 57 = some (.ireturn) := by decide +kernel
theorem m_125 : hm_mtab[125]? = some (⟨"HourPromisedModel", "open", "(II)I"⟩, prog_10_method_15_code, 5, (some .int), 8, 3, 1) := rfl
theorem k_125_0 : hm_code 125 0 = some (.iload_n 1) := by decide +kernel
theorem k_125_1 : hm_code 125 1 = some (.i2l) := by decide +kernel
theorem k_125_2 : hm_code 125 2 = some (.lconst 0) := by decide +kernel
theorem k_125_3 : hm_code 125 3 = some (.ldc2_w 103) := by decide +kernel
theorem k_125_6 : hm_code 125 6 = some (.invokestatic 84) := by decide +kernel
theorem k_125_9 : hm_code 125 9 = some (.ifCond .ne 7) := by decide +kernel
theorem k_125_12 : hm_code 125 12 = some (.sipush (-1001)) := by decide +kernel
theorem k_125_15 : hm_code 125 15 = some (.ireturn) := by decide +kernel
theorem k_125_16 : hm_code 125 16 = some (.iload_n 2) := by decide +kernel
theorem k_125_17 : hm_code 125 17 = some (.i2l) := by decide +kernel
theorem k_125_18 : hm_code 125 18 = some (.lconst 0) := by decide +kernel
theorem k_125_19 : hm_code 125 19 = some (.ldc2_w 115) := by decide +kernel
theorem k_125_22 : hm_code 125 22 = some (.invokestatic 84) := by decide +kernel
theorem k_125_25 : hm_code 125 25 = some (.ifCond .ne 7) := by decide +kernel
theorem k_125_28 : hm_code 125 28 = some (.sipush (-1002)) := by decide +kernel
theorem k_125_31 : hm_code 125 31 = some (.ireturn) := by decide +kernel
theorem k_125_32 : hm_code 125 32 = some (.aload_n 0) := by decide +kernel
theorem k_125_33 : hm_code 125 33 = some (.getfield 13) := by decide +kernel
theorem k_125_36 : hm_code 125 36 = some (.iload_n 1) := by decide +kernel
theorem k_125_37 : hm_code 125 37 = some (.iaload) := by decide +kernel
theorem k_125_38 : hm_code 125 38 = some (.istore_n 3) := by decide +kernel
theorem k_125_39 : hm_code 125 39 = some (.aload_n 0) := by decide +kernel
theorem k_125_40 : hm_code 125 40 = some (.getfield 13) := by decide +kernel
theorem k_125_43 : hm_code 125 43 = some (.iload_n 1) := by decide +kernel
theorem k_125_44 : hm_code 125 44 = some (.iload_n 2) := by decide +kernel
theorem k_125_45 : hm_code 125 45 = some (.iastore) := by decide +kernel
theorem k_125_46 : hm_code 125 46 = some (.iconst 0) := by decide +kernel
theorem k_125_47 : hm_code 125 47 = some (.istore 4) := by decide +kernel
theorem k_125_49 : hm_code 125 49 = some (.iload 4) := by decide +kernel
theorem k_125_51 : hm_code 125 51 = some (.sipush 400) := by decide +kernel
theorem k_125_54 : hm_code 125 54 = some (.if_icmp .ge 36) := by decide +kernel
theorem k_125_57 : hm_code 125 57 = some (.aload_n 0) := by decide +kernel
theorem k_125_58 : hm_code 125 58 = some (.iload 4) := by decide +kernel
theorem k_125_60 : hm_code 125 60 = some (.iconst 1) := by decide +kernel
theorem k_125_61 : hm_code 125 61 = some (.invokevirtual 96) := by decide +kernel
theorem k_125_64 : hm_code 125 64 = some (.aload_n 0) := by decide +kernel
theorem k_125_65 : hm_code 125 65 = some (.iload 4) := by decide +kernel
theorem k_125_67 : hm_code 125 67 = some (.invokevirtual 117) := by decide +kernel
theorem k_125_70 : hm_code 125 70 = some (.if_icmp .le 14) := by decide +kernel
theorem k_125_73 : hm_code 125 73 = some (.aload_n 0) := by decide +kernel
theorem k_125_74 : hm_code 125 74 = some (.getfield 13) := by decide +kernel
theorem k_125_77 : hm_code 125 77 = some (.iload_n 1) := by decide +kernel
theorem k_125_78 : hm_code 125 78 = some (.iload_n 3) := by decide +kernel
theorem k_125_79 : hm_code 125 79 = some (.iastore) := by decide +kernel
theorem k_125_80 : hm_code 125 80 = some (.sipush (-1003)) := by decide +kernel
theorem k_125_83 : hm_code 125 83 = some (.ireturn) := by decide +kernel
theorem k_125_84 : hm_code 125 84 = some (.iinc 4 1) := by decide +kernel
theorem k_125_87 : hm_code 125 87 = some (.goto (-38)) := by decide +kernel
theorem k_125_90 : hm_code 125 90 = some (.iload_n 3) := by decide +kernel
theorem k_125_91 : hm_code 125 91 = some (.ireturn) := by decide +kernel
theorem m_126 : hm_mtab[126]? = some (⟨"HourPromisedModel", "chapelsAt", "(I)I"⟩, prog_10_method_13_code, 4, (some .int), 8, 2, 1) := rfl
theorem k_126_0 : hm_code 126 0 = some (.iconst 0) := by decide +kernel
theorem k_126_1 : hm_code 126 1 = some (.istore_n 2) := by decide +kernel
theorem k_126_2 : hm_code 126 2 = some (.iconst 0) := by decide +kernel
theorem k_126_3 : hm_code 126 3 = some (.istore_n 3) := by decide +kernel
theorem k_126_4 : hm_code 126 4 = some (.iload_n 3) := by decide +kernel
theorem k_126_5 : hm_code 126 5 = some (.iconst 3) := by decide +kernel
theorem k_126_6 : hm_code 126 6 = some (.if_icmp .ge 25) := by decide +kernel
theorem k_126_9 : hm_code 126 9 = some (.iload_n 2) := by decide +kernel
theorem k_126_10 : hm_code 126 10 = some (.aload_n 0) := by decide +kernel
theorem k_126_11 : hm_code 126 11 = some (.getfield 13) := by decide +kernel
theorem k_126_14 : hm_code 126 14 = some (.iload_n 3) := by decide +kernel
theorem k_126_15 : hm_code 126 15 = some (.iaload) := by decide +kernel
theorem k_126_16 : hm_code 126 16 = some (.iload_n 1) := by decide +kernel
theorem k_126_17 : hm_code 126 17 = some (.bipush 10) := by decide +kernel
theorem k_126_19 : hm_code 126 19 = some (.irem) := by decide +kernel
theorem k_126_20 : hm_code 126 20 = some (.ishr) := by decide +kernel
theorem k_126_21 : hm_code 126 21 = some (.iconst 1) := by decide +kernel
theorem k_126_22 : hm_code 126 22 = some (.iand) := by decide +kernel
theorem k_126_23 : hm_code 126 23 = some (.iadd) := by decide +kernel
theorem k_126_24 : hm_code 126 24 = some (.istore_n 2) := by decide +kernel
theorem k_126_25 : hm_code 126 25 = some (.iinc 3 1) := by decide +kernel
theorem k_126_28 : hm_code 126 28 = some (.goto (-24)) := by decide +kernel
theorem k_126_31 : hm_code 126 31 = some (.iload_n 2) := by decide +kernel
theorem k_126_32 : hm_code 126 32 = some (.ireturn) := by decide +kernel
theorem m_127 : hm_mtab[127]? = some (⟨"HourPromisedModel", "bearer", "(I)I"⟩, prog_10_method_16_code, 2, (some .int), 8, 2, 1) := rfl
theorem k_127_0 : hm_code 127 0 = some (.iload_n 1) := by decide +kernel
theorem k_127_1 : hm_code 127 1 = some (.i2l) := by decide +kernel
theorem k_127_2 : hm_code 127 2 = some (.ldc2_w 120) := by decide +kernel
theorem k_127_5 : hm_code 127 5 = some (.ldc2_w 122) := by decide +kernel
theorem k_127_8 : hm_code 127 8 = some (.invokestatic 84) := by decide +kernel
theorem k_127_11 : hm_code 127 11 = some (.ifCond .ne 7) := by decide +kernel
theorem k_127_14 : hm_code 127 14 = some (.sipush (-1002)) := by decide +kernel
theorem k_127_17 : hm_code 127 17 = some (.ireturn) := by decide +kernel
theorem k_127_18 : hm_code 127 18 = some (.aload_n 0) := by decide +kernel
theorem k_127_19 : hm_code 127 19 = some (.getfield 124) := by decide +kernel
theorem k_127_22 : hm_code 127 22 = some (.bipush 12) := by decide +kernel
theorem k_127_24 : hm_code 127 24 = some (.if_icmp .ne 7) := by decide +kernel
theorem k_127_27 : hm_code 127 27 = some (.sipush (-1004)) := by decide +kernel
theorem k_127_30 : hm_code 127 30 = some (.ireturn) := by decide +kernel
theorem k_127_31 : hm_code 127 31 = some (.aload_n 0) := by decide +kernel
theorem k_127_32 : hm_code 127 32 = some (.getfield 16) := by decide +kernel
theorem k_127_35 : hm_code 127 35 = some (.aload_n 0) := by decide +kernel
theorem k_127_36 : hm_code 127 36 = some (.getfield 124) := by decide +kernel
theorem k_127_39 : hm_code 127 39 = some (.iload_n 1) := by decide +kernel
theorem k_127_40 : hm_code 127 40 = some (.iastore) := by decide +kernel
theorem k_127_41 : hm_code 127 41 = some (.aload_n 0) := by decide +kernel
theorem k_127_42 : hm_code 127 42 = some (.dup) := by decide +kernel
theorem k_127_43 : hm_code 127 43 = some (.getfield 124) := by decide +kernel
theorem k_127_46 : hm_code 127 46 = some (.iconst 1) := by decide +kernel
theorem k_127_47 : hm_code 127 47 = some (.iadd) := by decide +kernel
theorem k_127_48 : hm_code 127 48 = some (.putfield 124) := by decide +kernel
theorem k_127_51 : hm_code 127 51 = some (.aload_n 0) := by decide +kernel
theorem k_127_52 : hm_code 127 52 = some (.getfield 124) := by decide +kernel
theorem k_127_55 : hm_code 127 55 = some (.iconst 1) := by decide +kernel
theorem k_127_56 : hm_code 127 56 = some (.isub) := by decide +kernel
theorem k_127_57 : hm_code 127 57 = some (.ireturn) := by decide +kernel
theorem m_128 : hm_mtab[128]? = some (⟨"HourPromisedModel", "feed", "(IJ)I"⟩, prog_10_method_17_code, 5, (some .int), 8, 3, 1) := rfl
theorem k_128_0 : hm_code 128 0 = some (.iload_n 1) := by decide +kernel
theorem k_128_1 : hm_code 128 1 = some (.i2l) := by decide +kernel
theorem k_128_2 : hm_code 128 2 = some (.lconst 1) := by decide +kernel
theorem k_128_3 : hm_code 128 3 = some (.ldc2_w 107) := by decide +kernel
theorem k_128_6 : hm_code 128 6 = some (.invokestatic 84) := by decide +kernel
theorem k_128_9 : hm_code 128 9 = some (.ifCond .ne 7) := by decide +kernel
theorem k_128_12 : hm_code 128 12 = some (.sipush (-1002)) := by decide +kernel
theorem k_128_15 : hm_code 128 15 = some (.ireturn) := by decide +kernel
theorem k_128_16 : hm_code 128 16 = some (.aload_n 0) := by decide +kernel
theorem k_128_17 : hm_code 128 17 = some (.getfield 127) := by decide +kernel
theorem k_128_20 : hm_code 128 20 = some (.iload_n 1) := by decide +kernel
theorem k_128_21 : hm_code 128 21 = some (.iadd) := by decide +kernel
theorem k_128_22 : hm_code 128 22 = some (.bipush 100) := by decide +kernel
theorem k_128_24 : hm_code 128 24 = some (.if_icmp .le 7) := by decide +kernel
theorem k_128_27 : hm_code 128 27 = some (.sipush (-1004)) := by decide +kernel
theorem k_128_30 : hm_code 128 30 = some (.ireturn) := by decide +kernel
theorem k_128_31 : hm_code 128 31 = some (.iload_n 1) := by decide +kernel
theorem k_128_32 : hm_code 128 32 = some (.iconst 1) := by decide +kernel
theorem k_128_33 : hm_code 128 33 = some (.isub) := by decide +kernel
theorem k_128_34 : hm_code 128 34 = some (.istore 4) := by decide +kernel
theorem k_128_36 : hm_code 128 36 = some (.iload 4) := by decide +kernel
theorem k_128_38 : hm_code 128 38 = some (.ifCond .lt 40) := by decide +kernel
theorem k_128_41 : hm_code 128 41 = some (.aload_n 0) := by decide +kernel
theorem k_128_42 : hm_code 128 42 = some (.getfield 25) := by decide +kernel
theorem k_128_45 : hm_code 128 45 = some (.aload_n 0) := by decide +kernel
theorem k_128_46 : hm_code 128 46 = some (.getfield 127) := by decide +kernel
theorem k_128_49 : hm_code 128 49 = some (.lload_n 2) := by decide +kernel
theorem k_128_50 : hm_code 128 50 = some (.bipush 8) := by decide +kernel
theorem k_128_52 : hm_code 128 52 = some (.iload 4) := by decide +kernel
theorem k_128_54 : hm_code 128 54 = some (.imul) := by decide +kernel
theorem k_128_55 : hm_code 128 55 = some (.lshr) := by decide +kernel
theorem k_128_56 : hm_code 128 56 = some (.ldc2_w 130) := by decide +kernel
theorem k_128_59 : hm_code 128 59 = some (.land) := by decide +kernel
theorem k_128_60 : hm_code 128 60 = some (.l2i) := by decide +kernel
theorem k_128_61 : hm_code 128 61 = some (.iastore) := by decide +kernel
theorem k_128_62 : hm_code 128 62 = some (.aload_n 0) := by decide +kernel
theorem k_128_63 : hm_code 128 63 = some (.dup) := by decide +kernel
theorem k_128_64 : hm_code 128 64 = some (.getfield 127) := by decide +kernel
theorem k_128_67 : hm_code 128 67 = some (.iconst 1) := by decide +kernel
theorem k_128_68 : hm_code 128 68 = some (.iadd) := by decide +kernel
theorem k_128_69 : hm_code 128 69 = some (.putfield 127) := by decide +kernel
theorem k_128_72 : hm_code 128 72 = some (.iinc 4 (-1)) := by decide +kernel
theorem k_128_75 : hm_code 128 75 = some (.goto (-39)) := by decide +kernel
theorem k_128_78 : hm_code 128 78 = some (.aload_n 0) := by decide +kernel
theorem k_128_79 : hm_code 128 79 = some (.getfield 127) := by decide +kernel
theorem k_128_82 : hm_code 128 82 = some (.ireturn) := by decide +kernel
theorem m_129 : hm_mtab[129]? = some (⟨"HourPromisedModel", "law", "(I)I"⟩, prog_10_method_24_code, 4, (some .int), 8, 2, 1) := rfl
theorem k_129_0 : hm_code 129 0 = some (.iload_n 1) := by decide +kernel
theorem k_129_1 : hm_code 129 1 = some (.i2l) := by decide +kernel
theorem k_129_2 : hm_code 129 2 = some (.lconst 0) := by decide +kernel
theorem k_129_3 : hm_code 129 3 = some (.ldc2_w 90) := by decide +kernel
theorem k_129_6 : hm_code 129 6 = some (.invokestatic 84) := by decide +kernel
theorem k_129_9 : hm_code 129 9 = some (.ifCond .ne 7) := by decide +kernel
theorem k_129_12 : hm_code 129 12 = some (.sipush (-1001)) := by decide +kernel
theorem k_129_15 : hm_code 129 15 = some (.ireturn) := by decide +kernel
theorem k_129_16 : hm_code 129 16 = some (.aload_n 0) := by decide +kernel
theorem k_129_17 : hm_code 129 17 = some (.iconst (-1)) := by decide +kernel
theorem k_129_18 : hm_code 129 18 = some (.putfield 28) := by decide +kernel
theorem k_129_21 : hm_code 129 21 = some (.aload_n 0) := by decide +kernel
theorem k_129_22 : hm_code 129 22 = some (.invokevirtual 159) := by decide +kernel
theorem k_129_25 : hm_code 129 25 = some (.istore_n 2) := by decide +kernel
theorem k_129_26 : hm_code 129 26 = some (.aload_n 0) := by decide +kernel
theorem k_129_27 : hm_code 129 27 = some (.iconst 0) := by decide +kernel
theorem k_129_28 : hm_code 129 28 = some (.putfield 127) := by decide +kernel
theorem k_129_31 : hm_code 129 31 = some (.iload_n 2) := by decide +kernel
theorem k_129_32 : hm_code 129 32 = some (.ifCond .le 8) := by decide +kernel
theorem k_129_35 : hm_code 129 35 = some (.bipush (-10)) := by decide +kernel
theorem k_129_37 : hm_code 129 37 = some (.iload_n 2) := by decide +kernel
theorem k_129_38 : hm_code 129 38 = some (.isub) := by decide +kernel
theorem k_129_39 : hm_code 129 39 = some (.ireturn) := by decide +kernel
theorem k_129_40 : hm_code 129 40 = some (.iconst 0) := by decide +kernel
theorem k_129_41 : hm_code 129 41 = some (.istore_n 3) := by decide +kernel
theorem k_129_42 : hm_code 129 42 = some (.iload_n 3) := by decide +kernel
theorem k_129_43 : hm_code 129 43 = some (.bipush 20) := by decide +kernel
theorem k_129_45 : hm_code 129 45 = some (.if_icmp .ge 26) := by decide +kernel
theorem k_129_48 : hm_code 129 48 = some (.aload_n 0) := by decide +kernel
theorem k_129_49 : hm_code 129 49 = some (.getfield 19) := by decide +kernel
theorem k_129_52 : hm_code 129 52 = some (.bipush 20) := by decide +kernel
theorem k_129_54 : hm_code 129 54 = some (.iload_n 1) := by decide +kernel
theorem k_129_55 : hm_code 129 55 = some (.imul) := by decide +kernel
theorem k_129_56 : hm_code 129 56 = some (.iload_n 3) := by decide +kernel
theorem k_129_57 : hm_code 129 57 = some (.iadd) := by decide +kernel
theorem k_129_58 : hm_code 129 58 = some (.aload_n 0) := by decide +kernel
theorem k_129_59 : hm_code 129 59 = some (.getfield 22) := by decide +kernel
theorem k_129_62 : hm_code 129 62 = some (.iload_n 3) := by decide +kernel
theorem k_129_63 : hm_code 129 63 = some (.iaload) := by decide +kernel
theorem k_129_64 : hm_code 129 64 = some (.iastore) := by decide +kernel
theorem k_129_65 : hm_code 129 65 = some (.iinc 3 1) := by decide +kernel
theorem k_129_68 : hm_code 129 68 = some (.goto (-26)) := by decide +kernel
theorem k_129_71 : hm_code 129 71 = some (.aload_n 0) := by decide +kernel
theorem k_129_72 : hm_code 129 72 = some (.iconst (-1)) := by decide +kernel
theorem k_129_73 : hm_code 129 73 = some (.iload_n 1) := by decide +kernel
theorem k_129_74 : hm_code 129 74 = some (.invokevirtual 162) := by decide +kernel
theorem k_129_77 : hm_code 129 77 = some (.ireturn) := by decide +kernel
theorem m_130 : hm_mtab[130]? = some (⟨"HourPromisedModel", "readLaw", "()I"⟩, prog_10_method_23_code, 4, (some .int), 8, 1, 1) := rfl
theorem k_130_0 : hm_code 130 0 = some (.iconst 0) := by decide +kernel
theorem k_130_1 : hm_code 130 1 = some (.istore_n 1) := by decide +kernel
theorem k_130_2 : hm_code 130 2 = some (.iload_n 1) := by decide +kernel
theorem k_130_3 : hm_code 130 3 = some (.bipush 20) := by decide +kernel
theorem k_130_5 : hm_code 130 5 = some (.if_icmp .ge 34) := by decide +kernel
theorem k_130_8 : hm_code 130 8 = some (.aload_n 0) := by decide +kernel
theorem k_130_9 : hm_code 130 9 = some (.getfield 22) := by decide +kernel
theorem k_130_12 : hm_code 130 12 = some (.iload_n 1) := by decide +kernel
theorem k_130_13 : hm_code 130 13 = some (.iload_n 1) := by decide +kernel
theorem k_130_14 : hm_code 130 14 = some (.iconst 5) := by decide +kernel
theorem k_130_15 : hm_code 130 15 = some (.irem) := by decide +kernel
theorem k_130_16 : hm_code 130 16 = some (.iconst 1) := by decide +kernel
theorem k_130_17 : hm_code 130 17 = some (.if_icmp .eq 10) := by decide +kernel
theorem k_130_20 : hm_code 130 20 = some (.iload_n 1) := by decide +kernel
theorem k_130_21 : hm_code 130 21 = some (.iconst 5) := by decide +kernel
theorem k_130_22 : hm_code 130 22 = some (.irem) := by decide +kernel
theorem k_130_23 : hm_code 130 23 = some (.iconst 2) := by decide +kernel
theorem k_130_24 : hm_code 130 24 = some (.if_icmp .ne 7) := by decide +kernel
theorem k_130_27 : hm_code 130 27 = some (.iconst (-1)) := by decide +kernel
theorem k_130_28 : hm_code 130 28 = some (.goto 4) := by decide +kernel
theorem k_130_31 : hm_code 130 31 = some (.iconst 0) := by decide +kernel
theorem k_130_32 : hm_code 130 32 = some (.iastore) := by decide +kernel
theorem k_130_33 : hm_code 130 33 = some (.iinc 1 1) := by decide +kernel
theorem k_130_36 : hm_code 130 36 = some (.goto (-34)) := by decide +kernel
theorem k_130_39 : hm_code 130 39 = some (.aload_n 0) := by decide +kernel
theorem k_130_40 : hm_code 130 40 = some (.iconst 0) := by decide +kernel
theorem k_130_41 : hm_code 130 41 = some (.putfield 132) := by decide +kernel
theorem k_130_44 : hm_code 130 44 = some (.iconst 0) := by decide +kernel
theorem k_130_45 : hm_code 130 45 = some (.istore_n 1) := by decide +kernel
theorem k_130_46 : hm_code 130 46 = some (.aload_n 0) := by decide +kernel
theorem k_130_47 : hm_code 130 47 = some (.invokevirtual 135) := by decide +kernel
theorem k_130_50 : hm_code 130 50 = some (.ifCond .lt 130) := by decide +kernel
theorem k_130_53 : hm_code 130 53 = some (.aload_n 0) := by decide +kernel
theorem k_130_54 : hm_code 130 54 = some (.invokevirtual 135) := by decide +kernel
theorem k_130_57 : hm_code 130 57 = some (.invokestatic 146) := by decide +kernel
theorem k_130_60 : hm_code 130 60 = some (.istore_n 2) := by decide +kernel
theorem k_130_61 : hm_code 130 61 = some (.iload_n 2) := by decide +kernel
theorem k_130_62 : hm_code 130 62 = some (.ifCond .ge 13) := by decide +kernel
theorem k_130_65 : hm_code 130 65 = some (.aload_n 0) := by decide +kernel
theorem k_130_66 : hm_code 130 66 = some (.iconst 1) := by decide +kernel
theorem k_130_67 : hm_code 130 67 = some (.aload_n 0) := by decide +kernel
theorem k_130_68 : hm_code 130 68 = some (.getfield 132) := by decide +kernel
theorem k_130_71 : hm_code 130 71 = some (.invokevirtual 143) := by decide +kernel
theorem k_130_74 : hm_code 130 74 = some (.ireturn) := by decide +kernel
theorem k_130_75 : hm_code 130 75 = some (.iload_n 1) := by decide +kernel
theorem k_130_76 : hm_code 130 76 = some (.iload_n 2) := by decide +kernel
theorem k_130_77 : hm_code 130 77 = some (.ishr) := by decide +kernel
theorem k_130_78 : hm_code 130 78 = some (.iconst 1) := by decide +kernel
theorem k_130_79 : hm_code 130 79 = some (.iand) := by decide +kernel
theorem k_130_80 : hm_code 130 80 = some (.iconst 1) := by decide +kernel
theorem k_130_81 : hm_code 130 81 = some (.if_icmp .ne 13) := by decide +kernel
theorem k_130_84 : hm_code 130 84 = some (.aload_n 0) := by decide +kernel
theorem k_130_85 : hm_code 130 85 = some (.iconst 3) := by decide +kernel
theorem k_130_86 : hm_code 130 86 = some (.aload_n 0) := by decide +kernel
theorem k_130_87 : hm_code 130 87 = some (.getfield 132) := by decide +kernel
theorem k_130_90 : hm_code 130 90 = some (.invokevirtual 143) := by decide +kernel
theorem k_130_93 : hm_code 130 93 = some (.ireturn) := by decide +kernel
theorem k_130_94 : hm_code 130 94 = some (.iload_n 1) := by decide +kernel
theorem k_130_95 : hm_code 130 95 = some (.iconst 1) := by decide +kernel
theorem k_130_96 : hm_code 130 96 = some (.iload_n 2) := by decide +kernel
theorem k_130_97 : hm_code 130 97 = some (.ishl) := by decide +kernel
theorem k_130_98 : hm_code 130 98 = some (.ior) := by decide +kernel
theorem k_130_99 : hm_code 130 99 = some (.istore_n 1) := by decide +kernel
theorem k_130_100 : hm_code 130 100 = some (.aload_n 0) := by decide +kernel
theorem k_130_101 : hm_code 130 101 = some (.dup) := by decide +kernel
theorem k_130_102 : hm_code 130 102 = some (.getfield 132) := by decide +kernel
theorem k_130_105 : hm_code 130 105 = some (.iconst 1) := by decide +kernel
theorem k_130_106 : hm_code 130 106 = some (.iadd) := by decide +kernel
theorem k_130_107 : hm_code 130 107 = some (.putfield 132) := by decide +kernel
theorem k_130_110 : hm_code 130 110 = some (.aload_n 0) := by decide +kernel
theorem k_130_111 : hm_code 130 111 = some (.invokevirtual 135) := by decide +kernel
theorem k_130_114 : hm_code 130 114 = some (.bipush 58) := by decide +kernel
theorem k_130_116 : hm_code 130 116 = some (.if_icmp .eq 13) := by decide +kernel
theorem k_130_119 : hm_code 130 119 = some (.aload_n 0) := by decide +kernel
theorem k_130_120 : hm_code 130 120 = some (.iconst 1) := by decide +kernel
theorem k_130_121 : hm_code 130 121 = some (.aload_n 0) := by decide +kernel
theorem k_130_122 : hm_code 130 122 = some (.getfield 132) := by decide +kernel
theorem k_130_125 : hm_code 130 125 = some (.invokevirtual 143) := by decide +kernel
theorem k_130_128 : hm_code 130 128 = some (.ireturn) := by decide +kernel
theorem k_130_129 : hm_code 130 129 = some (.aload_n 0) := by decide +kernel
theorem k_130_130 : hm_code 130 130 = some (.dup) := by decide +kernel
theorem k_130_131 : hm_code 130 131 = some (.getfield 132) := by decide +kernel
theorem k_130_134 : hm_code 130 134 = some (.iconst 1) := by decide +kernel
theorem k_130_135 : hm_code 130 135 = some (.iadd) := by decide +kernel
theorem k_130_136 : hm_code 130 136 = some (.putfield 132) := by decide +kernel
theorem k_130_139 : hm_code 130 139 = some (.aload_n 0) := by decide +kernel
theorem k_130_140 : hm_code 130 140 = some (.invokevirtual 135) := by decide +kernel
theorem k_130_143 : hm_code 130 143 = some (.bipush 59) := by decide +kernel
theorem k_130_145 : hm_code 130 145 = some (.if_icmp .eq 22) := by decide +kernel
theorem k_130_148 : hm_code 130 148 = some (.aload_n 0) := by decide +kernel
theorem k_130_149 : hm_code 130 149 = some (.iload_n 2) := by decide +kernel
theorem k_130_150 : hm_code 130 150 = some (.aload_n 0) := by decide +kernel
theorem k_130_151 : hm_code 130 151 = some (.invokevirtual 135) := by decide +kernel
theorem k_130_154 : hm_code 130 154 = some (.invokevirtual 156) := by decide +kernel
theorem k_130_157 : hm_code 130 157 = some (.istore_n 3) := by decide +kernel
theorem k_130_158 : hm_code 130 158 = some (.iload_n 3) := by decide +kernel
theorem k_130_159 : hm_code 130 159 = some (.ifCond .le 5) := by decide +kernel
theorem k_130_162 : hm_code 130 162 = some (.iload_n 3) := by decide +kernel
theorem k_130_163 : hm_code 130 163 = some (.ireturn) := by decide +kernel
theorem k_130_164 : hm_code 130 164 = some (.goto (-25)) := by decide +kernel
theorem k_130_167 : hm_code 130 167 = some (.aload_n 0) := by decide +kernel
theorem k_130_168 : hm_code 130 168 = some (.dup) := by decide +kernel
theorem k_130_169 : hm_code 130 169 = some (.getfield 132) := by decide +kernel
theorem k_130_172 : hm_code 130 172 = some (.iconst 1) := by decide +kernel
theorem k_130_173 : hm_code 130 173 = some (.iadd) := by decide +kernel
theorem k_130_174 : hm_code 130 174 = some (.putfield 132) := by decide +kernel
theorem k_130_177 : hm_code 130 177 = some (.goto (-131)) := by decide +kernel
theorem k_130_180 : hm_code 130 180 = some (.iconst 0) := by decide +kernel
theorem k_130_181 : hm_code 130 181 = some (.ireturn) := by decide +kernel
theorem m_131 : hm_mtab[131]? = some (⟨"HourPromisedModel", "here", "()I"⟩, prog_10_method_18_code, 1, (some .int), 8, 1, 1) := rfl
theorem k_131_0 : hm_code 131 0 = some (.aload_n 0) := by decide +kernel
theorem k_131_1 : hm_code 131 1 = some (.getfield 132) := by decide +kernel
theorem k_131_4 : hm_code 131 4 = some (.aload_n 0) := by decide +kernel
theorem k_131_5 : hm_code 131 5 = some (.getfield 127) := by decide +kernel
theorem k_131_8 : hm_code 131 8 = some (.if_icmp .ge 30) := by decide +kernel
theorem k_131_11 : hm_code 131 11 = some (.aload_n 0) := by decide +kernel
theorem k_131_12 : hm_code 131 12 = some (.getfield 25) := by decide +kernel
theorem k_131_15 : hm_code 131 15 = some (.aload_n 0) := by decide +kernel
theorem k_131_16 : hm_code 131 16 = some (.getfield 132) := by decide +kernel
theorem k_131_19 : hm_code 131 19 = some (.iaload) := by decide +kernel
theorem k_131_20 : hm_code 131 20 = some (.bipush 32) := by decide +kernel
theorem k_131_22 : hm_code 131 22 = some (.if_icmp .ne 16) := by decide +kernel
theorem k_131_25 : hm_code 131 25 = some (.aload_n 0) := by decide +kernel
theorem k_131_26 : hm_code 131 26 = some (.dup) := by decide +kernel
theorem k_131_27 : hm_code 131 27 = some (.getfield 132) := by decide +kernel
theorem k_131_30 : hm_code 131 30 = some (.iconst 1) := by decide +kernel
theorem k_131_31 : hm_code 131 31 = some (.iadd) := by decide +kernel
theorem k_131_32 : hm_code 131 32 = some (.putfield 132) := by decide +kernel
theorem k_131_35 : hm_code 131 35 = some (.goto (-35)) := by decide +kernel
theorem k_131_38 : hm_code 131 38 = some (.aload_n 0) := by decide +kernel
theorem k_131_39 : hm_code 131 39 = some (.getfield 132) := by decide +kernel
theorem k_131_42 : hm_code 131 42 = some (.aload_n 0) := by decide +kernel
theorem k_131_43 : hm_code 131 43 = some (.getfield 127) := by decide +kernel
theorem k_131_46 : hm_code 131 46 = some (.if_icmp .ge 15) := by decide +kernel
theorem k_131_49 : hm_code 131 49 = some (.aload_n 0) := by decide +kernel
theorem k_131_50 : hm_code 131 50 = some (.getfield 25) := by decide +kernel
theorem k_131_53 : hm_code 131 53 = some (.aload_n 0) := by decide +kernel
theorem k_131_54 : hm_code 131 54 = some (.getfield 132) := by decide +kernel
theorem k_131_57 : hm_code 131 57 = some (.iaload) := by decide +kernel
theorem k_131_58 : hm_code 131 58 = some (.goto 4) := by decide +kernel
theorem k_131_61 : hm_code 131 61 = some (.iconst (-1)) := by decide +kernel
theorem k_131_62 : hm_code 131 62 = some (.ireturn) := by decide +kernel
theorem m_132 : hm_mtab[132]? = some (⟨"HourPromisedModel", "stepOf", "(I)I"⟩, prog_10_method_19_code, 1, (some .int), 8, 1, 0) := rfl
theorem k_132_0 : hm_code 132 0 = some (.iload_n 0) := by decide +kernel
theorem k_132_1 : hm_code 132 1 = some (.bipush 102) := by decide +kernel
theorem k_132_3 : hm_code 132 3 = some (.if_icmp .ne 7) := by decide +kernel
theorem k_132_6 : hm_code 132 6 = some (.iconst 0) := by decide +kernel
theorem k_132_7 : hm_code 132 7 = some (.goto 34) := by decide +kernel
theorem k_132_10 : hm_code 132 10 = some (.iload_n 0) := by decide +kernel
theorem k_132_11 : hm_code 132 11 = some (.bipush 115) := by decide +kernel
theorem k_132_13 : hm_code 132 13 = some (.if_icmp .ne 7) := by decide +kernel
theorem k_132_16 : hm_code 132 16 = some (.iconst 1) := by decide +kernel
theorem k_132_17 : hm_code 132 17 = some (.goto 24) := by decide +kernel
theorem k_132_20 : hm_code 132 20 = some (.iload_n 0) := by decide +kernel
theorem k_132_21 : hm_code 132 21 = some (.bipush 98) := by decide +kernel
theorem k_132_23 : hm_code 132 23 = some (.if_icmp .ne 7) := by decide +kernel
theorem k_132_26 : hm_code 132 26 = some (.iconst 2) := by decide +kernel
theorem k_132_27 : hm_code 132 27 = some (.goto 14) := by decide +kernel
theorem k_132_30 : hm_code 132 30 = some (.iload_n 0) := by decide +kernel
theorem k_132_31 : hm_code 132 31 = some (.bipush 103) := by decide +kernel
theorem k_132_33 : hm_code 132 33 = some (.if_icmp .ne 7) := by decide +kernel
theorem k_132_36 : hm_code 132 36 = some (.iconst 3) := by decide +kernel
theorem k_132_37 : hm_code 132 37 = some (.goto 4) := by decide +kernel
theorem k_132_40 : hm_code 132 40 = some (.iconst (-1)) := by decide +kernel
theorem k_132_41 : hm_code 132 41 = some (.ireturn) := by decide +kernel
theorem m_133 : hm_mtab[133]? = some (⟨"HourPromisedModel", "fails", "(II)I"⟩, prog_10_method_20_code, 3, (some .int), 8, 3, 1) := rfl
theorem k_133_0 : hm_code 133 0 = some (.aload_n 0) := by decide +kernel
theorem k_133_1 : hm_code 133 1 = some (.iload_n 2) := by decide +kernel
theorem k_133_2 : hm_code 133 2 = some (.putfield 28) := by decide +kernel
theorem k_133_5 : hm_code 133 5 = some (.iload_n 1) := by decide +kernel
theorem k_133_6 : hm_code 133 6 = some (.ireturn) := by decide +kernel
theorem m_134 : hm_mtab[134]? = some (⟨"HourPromisedModel", "readItem", "(II)I"⟩, prog_10_method_22_code, 6, (some .int), 8, 3, 1) := rfl
theorem k_134_0 : hm_code 134 0 = some (.iconst 5) := by decide +kernel
theorem k_134_1 : hm_code 134 1 = some (.iload_n 1) := by decide +kernel
theorem k_134_2 : hm_code 134 2 = some (.imul) := by decide +kernel
theorem k_134_3 : hm_code 134 3 = some (.istore_n 3) := by decide +kernel
theorem k_134_4 : hm_code 134 4 = some (.iload_n 2) := by decide +kernel
theorem k_134_5 : hm_code 134 5 = some (.invokestatic 146) := by decide +kernel
theorem k_134_8 : hm_code 134 8 = some (.istore 4) := by decide +kernel
theorem k_134_10 : hm_code 134 10 = some (.iload_n 2) := by decide +kernel
theorem k_134_11 : hm_code 134 11 = some (.i2l) := by decide +kernel
theorem k_134_12 : hm_code 134 12 = some (.ldc2_w 149) := by decide +kernel
theorem k_134_15 : hm_code 134 15 = some (.ldc2_w 151) := by decide +kernel
theorem k_134_18 : hm_code 134 18 = some (.invokestatic 84) := by decide +kernel
theorem k_134_21 : hm_code 134 21 = some (.ifCond .eq 48) := by decide +kernel
theorem k_134_24 : hm_code 134 24 = some (.aload_n 0) := by decide +kernel
theorem k_134_25 : hm_code 134 25 = some (.getfield 22) := by decide +kernel
theorem k_134_28 : hm_code 134 28 = some (.iload_n 3) := by decide +kernel
theorem k_134_29 : hm_code 134 29 = some (.iaload) := by decide +kernel
theorem k_134_30 : hm_code 134 30 = some (.iload_n 2) := by decide +kernel
theorem k_134_31 : hm_code 134 31 = some (.bipush 65) := by decide +kernel
theorem k_134_33 : hm_code 134 33 = some (.isub) := by decide +kernel
theorem k_134_34 : hm_code 134 34 = some (.ishr) := by decide +kernel
theorem k_134_35 : hm_code 134 35 = some (.iconst 1) := by decide +kernel
theorem k_134_36 : hm_code 134 36 = some (.iand) := by decide +kernel
theorem k_134_37 : hm_code 134 37 = some (.iconst 1) := by decide +kernel
theorem k_134_38 : hm_code 134 38 = some (.if_icmp .ne 13) := by decide +kernel
theorem k_134_41 : hm_code 134 41 = some (.aload_n 0) := by decide +kernel
theorem k_134_42 : hm_code 134 42 = some (.iconst 4) := by decide +kernel
theorem k_134_43 : hm_code 134 43 = some (.aload_n 0) := by decide +kernel
theorem k_134_44 : hm_code 134 44 = some (.getfield 132) := by decide +kernel
theorem k_134_47 : hm_code 134 47 = some (.invokevirtual 143) := by decide +kernel
theorem k_134_50 : hm_code 134 50 = some (.ireturn) := by decide +kernel
theorem k_134_51 : hm_code 134 51 = some (.aload_n 0) := by decide +kernel
theorem k_134_52 : hm_code 134 52 = some (.getfield 22) := by decide +kernel
theorem k_134_55 : hm_code 134 55 = some (.iload_n 3) := by decide +kernel
theorem k_134_56 : hm_code 134 56 = some (.dup2) := by decide +kernel
theorem k_134_57 : hm_code 134 57 = some (.iaload) := by decide +kernel
theorem k_134_58 : hm_code 134 58 = some (.iconst 1) := by decide +kernel
theorem k_134_59 : hm_code 134 59 = some (.iload_n 2) := by decide +kernel
theorem k_134_60 : hm_code 134 60 = some (.bipush 65) := by decide +kernel
theorem k_134_62 : hm_code 134 62 = some (.isub) := by decide +kernel
theorem k_134_63 : hm_code 134 63 = some (.ishl) := by decide +kernel
theorem k_134_64 : hm_code 134 64 = some (.ior) := by decide +kernel
theorem k_134_65 : hm_code 134 65 = some (.iastore) := by decide +kernel
theorem k_134_66 : hm_code 134 66 = some (.goto 183) := by decide +kernel
theorem k_134_69 : hm_code 134 69 = some (.iload_n 2) := by decide +kernel
theorem k_134_70 : hm_code 134 70 = some (.bipush 60) := by decide +kernel
theorem k_134_72 : hm_code 134 72 = some (.if_icmp .eq 9) := by decide +kernel
theorem k_134_75 : hm_code 134 75 = some (.iload_n 2) := by decide +kernel
theorem k_134_76 : hm_code 134 76 = some (.bipush 62) := by decide +kernel
theorem k_134_78 : hm_code 134 78 = some (.if_icmp .ne 55) := by decide +kernel
theorem k_134_81 : hm_code 134 81 = some (.iload_n 3) := by decide +kernel
theorem k_134_82 : hm_code 134 82 = some (.iload_n 2) := by decide +kernel
theorem k_134_83 : hm_code 134 83 = some (.bipush 60) := by decide +kernel
theorem k_134_85 : hm_code 134 85 = some (.if_icmp .ne 7) := by decide +kernel
theorem k_134_88 : hm_code 134 88 = some (.iconst 1) := by decide +kernel
theorem k_134_89 : hm_code 134 89 = some (.goto 4) := by decide +kernel
theorem k_134_92 : hm_code 134 92 = some (.iconst 2) := by decide +kernel
theorem k_134_93 : hm_code 134 93 = some (.iadd) := by decide +kernel
theorem k_134_94 : hm_code 134 94 = some (.istore 5) := by decide +kernel
theorem k_134_96 : hm_code 134 96 = some (.aload_n 0) := by decide +kernel
theorem k_134_97 : hm_code 134 97 = some (.getfield 22) := by decide +kernel
theorem k_134_100 : hm_code 134 100 = some (.iload 5) := by decide +kernel
theorem k_134_102 : hm_code 134 102 = some (.iaload) := by decide +kernel
theorem k_134_103 : hm_code 134 103 = some (.ifCond .lt 13) := by decide +kernel
theorem k_134_106 : hm_code 134 106 = some (.aload_n 0) := by decide +kernel
theorem k_134_107 : hm_code 134 107 = some (.iconst 4) := by decide +kernel
theorem k_134_108 : hm_code 134 108 = some (.aload_n 0) := by decide +kernel
theorem k_134_109 : hm_code 134 109 = some (.getfield 132) := by decide +kernel
theorem k_134_112 : hm_code 134 112 = some (.invokevirtual 143) := by decide +kernel
theorem k_134_115 : hm_code 134 115 = some (.ireturn) := by decide +kernel
theorem k_134_116 : hm_code 134 116 = some (.aload_n 0) := by decide +kernel
theorem k_134_117 : hm_code 134 117 = some (.dup) := by decide +kernel
theorem k_134_118 : hm_code 134 118 = some (.getfield 132) := by decide +kernel
theorem k_134_121 : hm_code 134 121 = some (.iconst 1) := by decide +kernel
theorem k_134_122 : hm_code 134 122 = some (.iadd) := by decide +kernel
theorem k_134_123 : hm_code 134 123 = some (.putfield 132) := by decide +kernel
theorem k_134_126 : hm_code 134 126 = some (.aload_n 0) := by decide +kernel
theorem k_134_127 : hm_code 134 127 = some (.iload 5) := by decide +kernel
theorem k_134_129 : hm_code 134 129 = some (.invokevirtual 153) := by decide +kernel
theorem k_134_132 : hm_code 134 132 = some (.ireturn) := by decide +kernel
theorem k_134_133 : hm_code 134 133 = some (.iload_n 2) := by decide +kernel
theorem k_134_134 : hm_code 134 134 = some (.bipush 33) := by decide +kernel
theorem k_134_136 : hm_code 134 136 = some (.if_icmp .ne 37) := by decide +kernel
theorem k_134_139 : hm_code 134 139 = some (.aload_n 0) := by decide +kernel
theorem k_134_140 : hm_code 134 140 = some (.getfield 22) := by decide +kernel
theorem k_134_143 : hm_code 134 143 = some (.iload_n 3) := by decide +kernel
theorem k_134_144 : hm_code 134 144 = some (.iconst 3) := by decide +kernel
theorem k_134_145 : hm_code 134 145 = some (.iadd) := by decide +kernel
theorem k_134_146 : hm_code 134 146 = some (.iaload) := by decide +kernel
theorem k_134_147 : hm_code 134 147 = some (.iconst 1) := by decide +kernel
theorem k_134_148 : hm_code 134 148 = some (.if_icmp .ne 13) := by decide +kernel
theorem k_134_151 : hm_code 134 151 = some (.aload_n 0) := by decide +kernel
theorem k_134_152 : hm_code 134 152 = some (.iconst 4) := by decide +kernel
theorem k_134_153 : hm_code 134 153 = some (.aload_n 0) := by decide +kernel
theorem k_134_154 : hm_code 134 154 = some (.getfield 132) := by decide +kernel
theorem k_134_157 : hm_code 134 157 = some (.invokevirtual 143) := by decide +kernel
theorem k_134_160 : hm_code 134 160 = some (.ireturn) := by decide +kernel
theorem k_134_161 : hm_code 134 161 = some (.aload_n 0) := by decide +kernel
theorem k_134_162 : hm_code 134 162 = some (.getfield 22) := by decide +kernel
theorem k_134_165 : hm_code 134 165 = some (.iload_n 3) := by decide +kernel
theorem k_134_166 : hm_code 134 166 = some (.iconst 3) := by decide +kernel
theorem k_134_167 : hm_code 134 167 = some (.iadd) := by decide +kernel
theorem k_134_168 : hm_code 134 168 = some (.iconst 1) := by decide +kernel
theorem k_134_169 : hm_code 134 169 = some (.iastore) := by decide +kernel
theorem k_134_170 : hm_code 134 170 = some (.goto 79) := by decide +kernel
theorem k_134_173 : hm_code 134 173 = some (.iload 4) := by decide +kernel
theorem k_134_175 : hm_code 134 175 = some (.ifCond .lt 64) := by decide +kernel
theorem k_134_178 : hm_code 134 178 = some (.iload 4) := by decide +kernel
theorem k_134_180 : hm_code 134 180 = some (.iload_n 1) := by decide +kernel
theorem k_134_181 : hm_code 134 181 = some (.if_icmp .ne 13) := by decide +kernel
theorem k_134_184 : hm_code 134 184 = some (.aload_n 0) := by decide +kernel
theorem k_134_185 : hm_code 134 185 = some (.iconst 5) := by decide +kernel
theorem k_134_186 : hm_code 134 186 = some (.aload_n 0) := by decide +kernel
theorem k_134_187 : hm_code 134 187 = some (.getfield 132) := by decide +kernel
theorem k_134_190 : hm_code 134 190 = some (.invokevirtual 143) := by decide +kernel
theorem k_134_193 : hm_code 134 193 = some (.ireturn) := by decide +kernel
theorem k_134_194 : hm_code 134 194 = some (.aload_n 0) := by decide +kernel
theorem k_134_195 : hm_code 134 195 = some (.getfield 22) := by decide +kernel
theorem k_134_198 : hm_code 134 198 = some (.iload_n 3) := by decide +kernel
theorem k_134_199 : hm_code 134 199 = some (.iconst 4) := by decide +kernel
theorem k_134_200 : hm_code 134 200 = some (.iadd) := by decide +kernel
theorem k_134_201 : hm_code 134 201 = some (.iaload) := by decide +kernel
theorem k_134_202 : hm_code 134 202 = some (.iload 4) := by decide +kernel
theorem k_134_204 : hm_code 134 204 = some (.ishr) := by decide +kernel
theorem k_134_205 : hm_code 134 205 = some (.iconst 1) := by decide +kernel
theorem k_134_206 : hm_code 134 206 = some (.iand) := by decide +kernel
theorem k_134_207 : hm_code 134 207 = some (.iconst 1) := by decide +kernel
theorem k_134_208 : hm_code 134 208 = some (.if_icmp .ne 13) := by decide +kernel
theorem k_134_211 : hm_code 134 211 = some (.aload_n 0) := by decide +kernel
theorem k_134_212 : hm_code 134 212 = some (.iconst 4) := by decide +kernel
theorem k_134_213 : hm_code 134 213 = some (.aload_n 0) := by decide +kernel
theorem k_134_214 : hm_code 134 214 = some (.getfield 132) := by decide +kernel
theorem k_134_217 : hm_code 134 217 = some (.invokevirtual 143) := by decide +kernel
theorem k_134_220 : hm_code 134 220 = some (.ireturn) := by decide +kernel
theorem k_134_221 : hm_code 134 221 = some (.aload_n 0) := by decide +kernel
theorem k_134_222 : hm_code 134 222 = some (.getfield 22) := by decide +kernel
theorem k_134_225 : hm_code 134 225 = some (.iload_n 3) := by decide +kernel
theorem k_134_226 : hm_code 134 226 = some (.iconst 4) := by decide +kernel
theorem k_134_227 : hm_code 134 227 = some (.iadd) := by decide +kernel
theorem k_134_228 : hm_code 134 228 = some (.dup2) := by decide +kernel
theorem k_134_229 : hm_code 134 229 = some (.iaload) := by decide +kernel
theorem k_134_230 : hm_code 134 230 = some (.iconst 1) := by decide +kernel
theorem k_134_231 : hm_code 134 231 = some (.iload 4) := by decide +kernel
theorem k_134_233 : hm_code 134 233 = some (.ishl) := by decide +kernel
theorem k_134_234 : hm_code 134 234 = some (.ior) := by decide +kernel
theorem k_134_235 : hm_code 134 235 = some (.iastore) := by decide +kernel
theorem k_134_236 : hm_code 134 236 = some (.goto 13) := by decide +kernel
theorem k_134_239 : hm_code 134 239 = some (.aload_n 0) := by decide +kernel
theorem k_134_240 : hm_code 134 240 = some (.iconst 1) := by decide +kernel
theorem k_134_241 : hm_code 134 241 = some (.aload_n 0) := by decide +kernel
theorem k_134_242 : hm_code 134 242 = some (.getfield 132) := by decide +kernel
theorem k_134_245 : hm_code 134 245 = some (.invokevirtual 143) := by decide +kernel
theorem k_134_248 : hm_code 134 248 = some (.ireturn) := by decide +kernel
theorem k_134_249 : hm_code 134 249 = some (.aload_n 0) := by decide +kernel
theorem k_134_250 : hm_code 134 250 = some (.dup) := by decide +kernel
theorem k_134_251 : hm_code 134 251 = some (.getfield 132) := by decide +kernel
theorem k_134_254 : hm_code 134 254 = some (.iconst 1) := by decide +kernel
theorem k_134_255 : hm_code 134 255 = some (.iadd) := by decide +kernel
theorem k_134_256 : hm_code 134 256 = some (.putfield 132) := by decide +kernel
theorem k_134_259 : hm_code 134 259 = some (.iconst 0) := by decide +kernel
theorem k_134_260 : hm_code 134 260 = some (.ireturn) := by decide +kernel
theorem m_135 : hm_mtab[135]? = some (⟨"HourPromisedModel", "readNumber", "(I)I"⟩, prog_10_method_21_code, 5, (some .int), 8, 2, 1) := rfl
theorem k_135_0 : hm_code 135 0 = some (.aload_n 0) := by decide +kernel
theorem k_135_1 : hm_code 135 1 = some (.invokevirtual 135) := by decide +kernel
theorem k_135_4 : hm_code 135 4 = some (.istore_n 2) := by decide +kernel
theorem k_135_5 : hm_code 135 5 = some (.aload_n 0) := by decide +kernel
theorem k_135_6 : hm_code 135 6 = some (.getfield 132) := by decide +kernel
theorem k_135_9 : hm_code 135 9 = some (.istore_n 3) := by decide +kernel
theorem k_135_10 : hm_code 135 10 = some (.iconst 0) := by decide +kernel
theorem k_135_11 : hm_code 135 11 = some (.istore 4) := by decide +kernel
theorem k_135_13 : hm_code 135 13 = some (.iload_n 2) := by decide +kernel
theorem k_135_14 : hm_code 135 14 = some (.i2l) := by decide +kernel
theorem k_135_15 : hm_code 135 15 = some (.ldc2_w 139) := by decide +kernel
theorem k_135_18 : hm_code 135 18 = some (.ldc2_w 141) := by decide +kernel
theorem k_135_21 : hm_code 135 21 = some (.invokestatic 84) := by decide +kernel
theorem k_135_24 : hm_code 135 24 = some (.ifCond .ne 13) := by decide +kernel
theorem k_135_27 : hm_code 135 27 = some (.aload_n 0) := by decide +kernel
theorem k_135_28 : hm_code 135 28 = some (.iconst 1) := by decide +kernel
theorem k_135_29 : hm_code 135 29 = some (.aload_n 0) := by decide +kernel
theorem k_135_30 : hm_code 135 30 = some (.getfield 132) := by decide +kernel
theorem k_135_33 : hm_code 135 33 = some (.invokevirtual 143) := by decide +kernel
theorem k_135_36 : hm_code 135 36 = some (.ireturn) := by decide +kernel
theorem k_135_37 : hm_code 135 37 = some (.aload_n 0) := by decide +kernel
theorem k_135_38 : hm_code 135 38 = some (.getfield 132) := by decide +kernel
theorem k_135_41 : hm_code 135 41 = some (.aload_n 0) := by decide +kernel
theorem k_135_42 : hm_code 135 42 = some (.getfield 127) := by decide +kernel
theorem k_135_45 : hm_code 135 45 = some (.if_icmp .ge 73) := by decide +kernel
theorem k_135_48 : hm_code 135 48 = some (.aload_n 0) := by decide +kernel
theorem k_135_49 : hm_code 135 49 = some (.getfield 25) := by decide +kernel
theorem k_135_52 : hm_code 135 52 = some (.aload_n 0) := by decide +kernel
theorem k_135_53 : hm_code 135 53 = some (.getfield 132) := by decide +kernel
theorem k_135_56 : hm_code 135 56 = some (.iaload) := by decide +kernel
theorem k_135_57 : hm_code 135 57 = some (.i2l) := by decide +kernel
theorem k_135_58 : hm_code 135 58 = some (.ldc2_w 139) := by decide +kernel
theorem k_135_61 : hm_code 135 61 = some (.ldc2_w 141) := by decide +kernel
theorem k_135_64 : hm_code 135 64 = some (.invokestatic 84) := by decide +kernel
theorem k_135_67 : hm_code 135 67 = some (.ifCond .eq 51) := by decide +kernel
theorem k_135_70 : hm_code 135 70 = some (.aload_n 0) := by decide +kernel
theorem k_135_71 : hm_code 135 71 = some (.getfield 132) := by decide +kernel
theorem k_135_74 : hm_code 135 74 = some (.iload_n 3) := by decide +kernel
theorem k_135_75 : hm_code 135 75 = some (.isub) := by decide +kernel
theorem k_135_76 : hm_code 135 76 = some (.iconst 3) := by decide +kernel
theorem k_135_77 : hm_code 135 77 = some (.if_icmp .ge 24) := by decide +kernel
theorem k_135_80 : hm_code 135 80 = some (.bipush 10) := by decide +kernel
theorem k_135_82 : hm_code 135 82 = some (.iload 4) := by decide +kernel
theorem k_135_84 : hm_code 135 84 = some (.imul) := by decide +kernel
theorem k_135_85 : hm_code 135 85 = some (.aload_n 0) := by decide +kernel
theorem k_135_86 : hm_code 135 86 = some (.getfield 25) := by decide +kernel
theorem k_135_89 : hm_code 135 89 = some (.aload_n 0) := by decide +kernel
theorem k_135_90 : hm_code 135 90 = some (.getfield 132) := by decide +kernel
theorem k_135_93 : hm_code 135 93 = some (.iaload) := by decide +kernel
theorem k_135_94 : hm_code 135 94 = some (.iadd) := by decide +kernel
theorem k_135_95 : hm_code 135 95 = some (.bipush 48) := by decide +kernel
theorem k_135_97 : hm_code 135 97 = some (.isub) := by decide +kernel
theorem k_135_98 : hm_code 135 98 = some (.goto 5) := by decide +kernel
theorem k_135_101 : hm_code 135 101 = some (.iload 4) := by decide +kernel
theorem k_135_103 : hm_code 135 103 = some (.istore 4) := by decide +kernel
theorem k_135_105 : hm_code 135 105 = some (.aload_n 0) := by decide +kernel
theorem k_135_106 : hm_code 135 106 = some (.dup) := by decide +kernel
theorem k_135_107 : hm_code 135 107 = some (.getfield 132) := by decide +kernel
theorem k_135_110 : hm_code 135 110 = some (.iconst 1) := by decide +kernel
theorem k_135_111 : hm_code 135 111 = some (.iadd) := by decide +kernel
theorem k_135_112 : hm_code 135 112 = some (.putfield 132) := by decide +kernel
theorem k_135_115 : hm_code 135 115 = some (.goto (-78)) := by decide +kernel
theorem k_135_118 : hm_code 135 118 = some (.aload_n 0) := by decide +kernel
theorem k_135_119 : hm_code 135 119 = some (.getfield 132) := by decide +kernel
theorem k_135_122 : hm_code 135 122 = some (.iload_n 3) := by decide +kernel
theorem k_135_123 : hm_code 135 123 = some (.isub) := by decide +kernel
theorem k_135_124 : hm_code 135 124 = some (.iconst 3) := by decide +kernel
theorem k_135_125 : hm_code 135 125 = some (.if_icmp .le 10) := by decide +kernel
theorem k_135_128 : hm_code 135 128 = some (.aload_n 0) := by decide +kernel
theorem k_135_129 : hm_code 135 129 = some (.iconst 2) := by decide +kernel
theorem k_135_130 : hm_code 135 130 = some (.iload_n 3) := by decide +kernel
theorem k_135_131 : hm_code 135 131 = some (.invokevirtual 143) := by decide +kernel
theorem k_135_134 : hm_code 135 134 = some (.ireturn) := by decide +kernel
theorem k_135_135 : hm_code 135 135 = some (.aload_n 0) := by decide +kernel
theorem k_135_136 : hm_code 135 136 = some (.getfield 22) := by decide +kernel
theorem k_135_139 : hm_code 135 139 = some (.iload_n 1) := by decide +kernel
theorem k_135_140 : hm_code 135 140 = some (.iload 4) := by decide +kernel
theorem k_135_142 : hm_code 135 142 = some (.iastore) := by decide +kernel
theorem k_135_143 : hm_code 135 143 = some (.iconst 0) := by decide +kernel
theorem k_135_144 : hm_code 135 144 = some (.ireturn) := by decide +kernel
theorem m_136 : hm_mtab[136]? = some (⟨"HourPromisedModel", "putRight", "(II)I"⟩, prog_10_method_38_code, 7, (some .int), 8, 3, 1) := rfl
theorem k_136_0 : hm_code 136 0 = some (.iconst 0) := by decide +kernel
theorem k_136_1 : hm_code 136 1 = some (.istore_n 3) := by decide +kernel
theorem k_136_2 : hm_code 136 2 = some (.iconst 0) := by decide +kernel
theorem k_136_3 : hm_code 136 3 = some (.istore 4) := by decide +kernel
theorem k_136_5 : hm_code 136 5 = some (.iload 4) := by decide +kernel
theorem k_136_7 : hm_code 136 7 = some (.iconst 4) := by decide +kernel
theorem k_136_8 : hm_code 136 8 = some (.aload_n 0) := by decide +kernel
theorem k_136_9 : hm_code 136 9 = some (.getfield 81) := by decide +kernel
theorem k_136_12 : hm_code 136 12 = some (.imul) := by decide +kernel
theorem k_136_13 : hm_code 136 13 = some (.if_icmp .ge 103) := by decide +kernel
theorem k_136_16 : hm_code 136 16 = some (.iload 4) := by decide +kernel
theorem k_136_18 : hm_code 136 18 = some (.iconst 4) := by decide +kernel
theorem k_136_19 : hm_code 136 19 = some (.idiv) := by decide +kernel
theorem k_136_20 : hm_code 136 20 = some (.istore 5) := by decide +kernel
theorem k_136_22 : hm_code 136 22 = some (.iload_n 1) := by decide +kernel
theorem k_136_23 : hm_code 136 23 = some (.ifCond .ge 22) := by decide +kernel
theorem k_136_26 : hm_code 136 26 = some (.aload_n 0) := by decide +kernel
theorem k_136_27 : hm_code 136 27 = some (.getfield 32) := by decide +kernel
theorem k_136_30 : hm_code 136 30 = some (.iload 5) := by decide +kernel
theorem k_136_32 : hm_code 136 32 = some (.iaload) := by decide +kernel
theorem k_136_33 : hm_code 136 33 = some (.iload_n 2) := by decide +kernel
theorem k_136_34 : hm_code 136 34 = some (.if_icmp .ne 7) := by decide +kernel
theorem k_136_37 : hm_code 136 37 = some (.iconst 1) := by decide +kernel
theorem k_136_38 : hm_code 136 38 = some (.goto 18) := by decide +kernel
theorem k_136_41 : hm_code 136 41 = some (.iconst 0) := by decide +kernel
theorem k_136_42 : hm_code 136 42 = some (.goto 14) := by decide +kernel
theorem k_136_45 : hm_code 136 45 = some (.iload 5) := by decide +kernel
theorem k_136_47 : hm_code 136 47 = some (.iload_n 1) := by decide +kernel
theorem k_136_48 : hm_code 136 48 = some (.if_icmp .ne 7) := by decide +kernel
theorem k_136_51 : hm_code 136 51 = some (.iconst 1) := by decide +kernel
theorem k_136_52 : hm_code 136 52 = some (.goto 4) := by decide +kernel
theorem k_136_55 : hm_code 136 55 = some (.iconst 0) := by decide +kernel
theorem k_136_56 : hm_code 136 56 = some (.istore 6) := by decide +kernel
theorem k_136_58 : hm_code 136 58 = some (.iload 6) := by decide +kernel
theorem k_136_60 : hm_code 136 60 = some (.ifCond .eq 50) := by decide +kernel
theorem k_136_63 : hm_code 136 63 = some (.aload_n 0) := by decide +kernel
theorem k_136_64 : hm_code 136 64 = some (.getfield 47) := by decide +kernel
theorem k_136_67 : hm_code 136 67 = some (.iload 4) := by decide +kernel
theorem k_136_69 : hm_code 136 69 = some (.iaload) := by decide +kernel
theorem k_136_70 : hm_code 136 70 = some (.ifCond .lt 40) := by decide +kernel
theorem k_136_73 : hm_code 136 73 = some (.aload_n 0) := by decide +kernel
theorem k_136_74 : hm_code 136 74 = some (.iload 5) := by decide +kernel
theorem k_136_76 : hm_code 136 76 = some (.iload 4) := by decide +kernel
theorem k_136_78 : hm_code 136 78 = some (.iconst 4) := by decide +kernel
theorem k_136_79 : hm_code 136 79 = some (.irem) := by decide +kernel
theorem k_136_80 : hm_code 136 80 = some (.aload_n 0) := by decide +kernel
theorem k_136_81 : hm_code 136 81 = some (.getfield 47) := by decide +kernel
theorem k_136_84 : hm_code 136 84 = some (.iload 4) := by decide +kernel
theorem k_136_86 : hm_code 136 86 = some (.iaload) := by decide +kernel
theorem k_136_87 : hm_code 136 87 = some (.invokevirtual 183) := by decide +kernel
theorem k_136_90 : hm_code 136 90 = some (.ifCond .le 20) := by decide +kernel
theorem k_136_93 : hm_code 136 93 = some (.aload_n 0) := by decide +kernel
theorem k_136_94 : hm_code 136 94 = some (.getfield 47) := by decide +kernel
theorem k_136_97 : hm_code 136 97 = some (.iload 4) := by decide +kernel
theorem k_136_99 : hm_code 136 99 = some (.iconst (-1)) := by decide +kernel
theorem k_136_100 : hm_code 136 100 = some (.iastore) := by decide +kernel
theorem k_136_101 : hm_code 136 101 = some (.iinc 3 1) := by decide +kernel
theorem k_136_104 : hm_code 136 104 = some (.iconst 0) := by decide +kernel
theorem k_136_105 : hm_code 136 105 = some (.istore 4) := by decide +kernel
theorem k_136_107 : hm_code 136 107 = some (.goto 6) := by decide +kernel
theorem k_136_110 : hm_code 136 110 = some (.iinc 4 1) := by decide +kernel
theorem k_136_113 : hm_code 136 113 = some (.goto (-108)) := by decide +kernel
theorem k_136_116 : hm_code 136 116 = some (.aload_n 0) := by decide +kernel
theorem k_136_117 : hm_code 136 117 = some (.dup) := by decide +kernel
theorem k_136_118 : hm_code 136 118 = some (.getfield 210) := by decide +kernel
theorem k_136_121 : hm_code 136 121 = some (.iload_n 3) := by decide +kernel
theorem k_136_122 : hm_code 136 122 = some (.iadd) := by decide +kernel
theorem k_136_123 : hm_code 136 123 = some (.putfield 210) := by decide +kernel
theorem k_136_126 : hm_code 136 126 = some (.iload_n 3) := by decide +kernel
theorem k_136_127 : hm_code 136 127 = some (.ireturn) := by decide +kernel
theorem m_137 : hm_mtab[137]? = some (⟨"HourPromisedModel", "hinders", "(III)I"⟩, prog_10_method_30_code, 4, (some .int), 8, 4, 1) := rfl
theorem k_137_0 : hm_code 137 0 = some (.iload_n 3) := by decide +kernel
theorem k_137_1 : hm_code 137 1 = some (.aload_n 0) := by decide +kernel
theorem k_137_2 : hm_code 137 2 = some (.getfield 35) := by decide +kernel
theorem k_137_5 : hm_code 137 5 = some (.iload_n 1) := by decide +kernel
theorem k_137_6 : hm_code 137 6 = some (.iaload) := by decide +kernel
theorem k_137_7 : hm_code 137 7 = some (.if_icmp .gt 7) := by decide +kernel
theorem k_137_10 : hm_code 137 10 = some (.iconst 2) := by decide +kernel
theorem k_137_11 : hm_code 137 11 = some (.goto 62) := by decide +kernel
theorem k_137_14 : hm_code 137 14 = some (.aload_n 0) := by decide +kernel
theorem k_137_15 : hm_code 137 15 = some (.iload_n 1) := by decide +kernel
theorem k_137_16 : hm_code 137 16 = some (.iload_n 2) := by decide +kernel
theorem k_137_17 : hm_code 137 17 = some (.iconst 3) := by decide +kernel
theorem k_137_18 : hm_code 137 18 = some (.invokevirtual 169) := by decide +kernel
theorem k_137_21 : hm_code 137 21 = some (.iconst 1) := by decide +kernel
theorem k_137_22 : hm_code 137 22 = some (.if_icmp .ne 7) := by decide +kernel
theorem k_137_25 : hm_code 137 25 = some (.iconst 3) := by decide +kernel
theorem k_137_26 : hm_code 137 26 = some (.goto 47) := by decide +kernel
theorem k_137_29 : hm_code 137 29 = some (.aload_n 0) := by decide +kernel
theorem k_137_30 : hm_code 137 30 = some (.iload_n 1) := by decide +kernel
theorem k_137_31 : hm_code 137 31 = some (.iload_n 2) := by decide +kernel
theorem k_137_32 : hm_code 137 32 = some (.iload_n 3) := by decide +kernel
theorem k_137_33 : hm_code 137 33 = some (.invokevirtual 173) := by decide +kernel
theorem k_137_36 : hm_code 137 36 = some (.ifCond .eq 7) := by decide +kernel
theorem k_137_39 : hm_code 137 39 = some (.iconst 4) := by decide +kernel
theorem k_137_40 : hm_code 137 40 = some (.goto 33) := by decide +kernel
theorem k_137_43 : hm_code 137 43 = some (.aload_n 0) := by decide +kernel
theorem k_137_44 : hm_code 137 44 = some (.iload_n 1) := by decide +kernel
theorem k_137_45 : hm_code 137 45 = some (.iload_n 2) := by decide +kernel
theorem k_137_46 : hm_code 137 46 = some (.iload_n 3) := by decide +kernel
theorem k_137_47 : hm_code 137 47 = some (.invokevirtual 177) := by decide +kernel
theorem k_137_50 : hm_code 137 50 = some (.ifCond .eq 7) := by decide +kernel
theorem k_137_53 : hm_code 137 53 = some (.iconst 5) := by decide +kernel
theorem k_137_54 : hm_code 137 54 = some (.goto 19) := by decide +kernel
theorem k_137_57 : hm_code 137 57 = some (.aload_n 0) := by decide +kernel
theorem k_137_58 : hm_code 137 58 = some (.iload_n 1) := by decide +kernel
theorem k_137_59 : hm_code 137 59 = some (.iload_n 2) := by decide +kernel
theorem k_137_60 : hm_code 137 60 = some (.iload_n 3) := by decide +kernel
theorem k_137_61 : hm_code 137 61 = some (.invokevirtual 180) := by decide +kernel
theorem k_137_64 : hm_code 137 64 = some (.ifCond .eq 8) := by decide +kernel
theorem k_137_67 : hm_code 137 67 = some (.bipush 6) := by decide +kernel
theorem k_137_69 : hm_code 137 69 = some (.goto 4) := by decide +kernel
theorem k_137_72 : hm_code 137 72 = some (.iconst 0) := by decide +kernel
theorem k_137_73 : hm_code 137 73 = some (.ireturn) := by decide +kernel
theorem m_138 : hm_mtab[138]? = some (⟨"HourPromisedModel", "lawOf", "(III)I"⟩, prog_10_method_8_code, 4, (some .int), 8, 4, 1) := rfl
theorem k_138_0 : hm_code 138 0 = some (.aload_n 0) := by decide +kernel
theorem k_138_1 : hm_code 138 1 = some (.getfield 19) := by decide +kernel
theorem k_138_4 : hm_code 138 4 = some (.bipush 20) := by decide +kernel
theorem k_138_6 : hm_code 138 6 = some (.aload_n 0) := by decide +kernel
theorem k_138_7 : hm_code 138 7 = some (.getfield 32) := by decide +kernel
theorem k_138_10 : hm_code 138 10 = some (.iload_n 1) := by decide +kernel
theorem k_138_11 : hm_code 138 11 = some (.iaload) := by decide +kernel
theorem k_138_12 : hm_code 138 12 = some (.imul) := by decide +kernel
theorem k_138_13 : hm_code 138 13 = some (.iconst 5) := by decide +kernel
theorem k_138_14 : hm_code 138 14 = some (.iload_n 2) := by decide +kernel
theorem k_138_15 : hm_code 138 15 = some (.imul) := by decide +kernel
theorem k_138_16 : hm_code 138 16 = some (.iadd) := by decide +kernel
theorem k_138_17 : hm_code 138 17 = some (.iload_n 3) := by decide +kernel
theorem k_138_18 : hm_code 138 18 = some (.iadd) := by decide +kernel
theorem k_138_19 : hm_code 138 19 = some (.iaload) := by decide +kernel
theorem k_138_20 : hm_code 138 20 = some (.ireturn) := by decide +kernel
theorem m_139 : hm_mtab[139]? = some (⟨"HourPromisedModel", "papersMiss", "(III)Z"⟩, prog_10_method_27_code, 7, (some .boolean), 8, 4, 1) := rfl
theorem k_139_0 : hm_code 139 0 = some (.iconst 0) := by decide +kernel
theorem k_139_1 : hm_code 139 1 = some (.istore 4) := by decide +kernel
theorem k_139_3 : hm_code 139 3 = some (.iconst 0) := by decide +kernel
theorem k_139_4 : hm_code 139 4 = some (.istore 5) := by decide +kernel
theorem k_139_6 : hm_code 139 6 = some (.iload 5) := by decide +kernel
theorem k_139_8 : hm_code 139 8 = some (.bipush 6) := by decide +kernel
theorem k_139_10 : hm_code 139 10 = some (.if_icmp .ge 80) := by decide +kernel
theorem k_139_13 : hm_code 139 13 = some (.aload_n 0) := by decide +kernel
theorem k_139_14 : hm_code 139 14 = some (.getfield 44) := by decide +kernel
theorem k_139_17 : hm_code 139 17 = some (.bipush 6) := by decide +kernel
theorem k_139_19 : hm_code 139 19 = some (.iload_n 1) := by decide +kernel
theorem k_139_20 : hm_code 139 20 = some (.imul) := by decide +kernel
theorem k_139_21 : hm_code 139 21 = some (.iload 5) := by decide +kernel
theorem k_139_23 : hm_code 139 23 = some (.iadd) := by decide +kernel
theorem k_139_24 : hm_code 139 24 = some (.iaload) := by decide +kernel
theorem k_139_25 : hm_code 139 25 = some (.ifCond .lt 23) := by decide +kernel
theorem k_139_28 : hm_code 139 28 = some (.aload_n 0) := by decide +kernel
theorem k_139_29 : hm_code 139 29 = some (.getfield 44) := by decide +kernel
theorem k_139_32 : hm_code 139 32 = some (.bipush 6) := by decide +kernel
theorem k_139_34 : hm_code 139 34 = some (.iload_n 1) := by decide +kernel
theorem k_139_35 : hm_code 139 35 = some (.imul) := by decide +kernel
theorem k_139_36 : hm_code 139 36 = some (.iload 5) := by decide +kernel
theorem k_139_38 : hm_code 139 38 = some (.iadd) := by decide +kernel
theorem k_139_39 : hm_code 139 39 = some (.iaload) := by decide +kernel
theorem k_139_40 : hm_code 139 40 = some (.iload_n 3) := by decide +kernel
theorem k_139_41 : hm_code 139 41 = some (.if_icmp .gt 7) := by decide +kernel
theorem k_139_44 : hm_code 139 44 = some (.iconst 1) := by decide +kernel
theorem k_139_45 : hm_code 139 45 = some (.goto 4) := by decide +kernel
theorem k_139_48 : hm_code 139 48 = some (.iconst 0) := by decide +kernel
theorem k_139_49 : hm_code 139 49 = some (.istore 6) := by decide +kernel
theorem k_139_51 : hm_code 139 51 = some (.iload 4) := by decide +kernel
theorem k_139_53 : hm_code 139 53 = some (.ifCond .ne 24) := by decide +kernel
theorem k_139_56 : hm_code 139 56 = some (.aload_n 0) := by decide +kernel
theorem k_139_57 : hm_code 139 57 = some (.iload_n 1) := by decide +kernel
theorem k_139_58 : hm_code 139 58 = some (.iload_n 2) := by decide +kernel
theorem k_139_59 : hm_code 139 59 = some (.iconst 0) := by decide +kernel
theorem k_139_60 : hm_code 139 60 = some (.invokevirtual 169) := by decide +kernel
theorem k_139_63 : hm_code 139 63 = some (.iload 5) := by decide +kernel
theorem k_139_65 : hm_code 139 65 = some (.ishr) := by decide +kernel
theorem k_139_66 : hm_code 139 66 = some (.iconst 1) := by decide +kernel
theorem k_139_67 : hm_code 139 67 = some (.iand) := by decide +kernel
theorem k_139_68 : hm_code 139 68 = some (.iconst 1) := by decide +kernel
theorem k_139_69 : hm_code 139 69 = some (.if_icmp .ne 12) := by decide +kernel
theorem k_139_72 : hm_code 139 72 = some (.iload 6) := by decide +kernel
theorem k_139_74 : hm_code 139 74 = some (.ifCond .ne 7) := by decide +kernel
theorem k_139_77 : hm_code 139 77 = some (.iconst 1) := by decide +kernel
theorem k_139_78 : hm_code 139 78 = some (.goto 4) := by decide +kernel
theorem k_139_81 : hm_code 139 81 = some (.iconst 0) := by decide +kernel
theorem k_139_82 : hm_code 139 82 = some (.istore 4) := by decide +kernel
theorem k_139_84 : hm_code 139 84 = some (.iinc 5 1) := by decide +kernel
theorem k_139_87 : hm_code 139 87 = some (.goto (-81)) := by decide +kernel
theorem k_139_90 : hm_code 139 90 = some (.iload 4) := by decide +kernel
theorem k_139_92 : hm_code 139 92 = some (.ireturn) := by decide +kernel
theorem m_140 : hm_mtab[140]? = some (⟨"HourPromisedModel", "isOut", "(III)Z"⟩, prog_10_method_28_code, 5, (some .boolean), 8, 4, 1) := rfl
theorem k_140_0 : hm_code 140 0 = some (.iload_n 3) := by decide +kernel
theorem k_140_1 : hm_code 140 1 = some (.aload_n 0) := by decide +kernel
theorem k_140_2 : hm_code 140 2 = some (.getfield 35) := by decide +kernel
theorem k_140_5 : hm_code 140 5 = some (.iload_n 1) := by decide +kernel
theorem k_140_6 : hm_code 140 6 = some (.iaload) := by decide +kernel
theorem k_140_7 : hm_code 140 7 = some (.isub) := by decide +kernel
theorem k_140_8 : hm_code 140 8 = some (.istore 4) := by decide +kernel
theorem k_140_10 : hm_code 140 10 = some (.aload_n 0) := by decide +kernel
theorem k_140_11 : hm_code 140 11 = some (.iload_n 1) := by decide +kernel
theorem k_140_12 : hm_code 140 12 = some (.iload_n 2) := by decide +kernel
theorem k_140_13 : hm_code 140 13 = some (.iconst 1) := by decide +kernel
theorem k_140_14 : hm_code 140 14 = some (.invokevirtual 169) := by decide +kernel
theorem k_140_17 : hm_code 140 17 = some (.ifCond .lt 15) := by decide +kernel
theorem k_140_20 : hm_code 140 20 = some (.iload 4) := by decide +kernel
theorem k_140_22 : hm_code 140 22 = some (.aload_n 0) := by decide +kernel
theorem k_140_23 : hm_code 140 23 = some (.iload_n 1) := by decide +kernel
theorem k_140_24 : hm_code 140 24 = some (.iload_n 2) := by decide +kernel
theorem k_140_25 : hm_code 140 25 = some (.iconst 1) := by decide +kernel
theorem k_140_26 : hm_code 140 26 = some (.invokevirtual 169) := by decide +kernel
theorem k_140_29 : hm_code 140 29 = some (.if_icmp .gt 15) := by decide +kernel
theorem k_140_32 : hm_code 140 32 = some (.iload 4) := by decide +kernel
theorem k_140_34 : hm_code 140 34 = some (.aload_n 0) := by decide +kernel
theorem k_140_35 : hm_code 140 35 = some (.iload_n 1) := by decide +kernel
theorem k_140_36 : hm_code 140 36 = some (.iload_n 2) := by decide +kernel
theorem k_140_37 : hm_code 140 37 = some (.iconst 2) := by decide +kernel
theorem k_140_38 : hm_code 140 38 = some (.invokevirtual 169) := by decide +kernel
theorem k_140_41 : hm_code 140 41 = some (.if_icmp .ge 7) := by decide +kernel
theorem k_140_44 : hm_code 140 44 = some (.iconst 1) := by decide +kernel
theorem k_140_45 : hm_code 140 45 = some (.goto 4) := by decide +kernel
theorem k_140_48 : hm_code 140 48 = some (.iconst 0) := by decide +kernel
theorem k_140_49 : hm_code 140 49 = some (.ireturn) := by decide +kernel
theorem m_141 : hm_mtab[141]? = some (⟨"HourPromisedModel", "aheadMiss", "(III)Z"⟩, prog_10_method_29_code, 7, (some .boolean), 8, 4, 1) := rfl
theorem k_141_0 : hm_code 141 0 = some (.iconst 0) := by decide +kernel
theorem k_141_1 : hm_code 141 1 = some (.istore 4) := by decide +kernel
theorem k_141_3 : hm_code 141 3 = some (.iconst 0) := by decide +kernel
theorem k_141_4 : hm_code 141 4 = some (.istore 5) := by decide +kernel
theorem k_141_6 : hm_code 141 6 = some (.iload 5) := by decide +kernel
theorem k_141_8 : hm_code 141 8 = some (.iconst 4) := by decide +kernel
theorem k_141_9 : hm_code 141 9 = some (.if_icmp .ge 70) := by decide +kernel
theorem k_141_12 : hm_code 141 12 = some (.aload_n 0) := by decide +kernel
theorem k_141_13 : hm_code 141 13 = some (.iload_n 1) := by decide +kernel
theorem k_141_14 : hm_code 141 14 = some (.iload 5) := by decide +kernel
theorem k_141_16 : hm_code 141 16 = some (.invokevirtual 92) := by decide +kernel
theorem k_141_19 : hm_code 141 19 = some (.ifCond .lt 18) := by decide +kernel
theorem k_141_22 : hm_code 141 22 = some (.aload_n 0) := by decide +kernel
theorem k_141_23 : hm_code 141 23 = some (.iload_n 1) := by decide +kernel
theorem k_141_24 : hm_code 141 24 = some (.iload 5) := by decide +kernel
theorem k_141_26 : hm_code 141 26 = some (.invokevirtual 92) := by decide +kernel
theorem k_141_29 : hm_code 141 29 = some (.iload_n 3) := by decide +kernel
theorem k_141_30 : hm_code 141 30 = some (.if_icmp .ge 7) := by decide +kernel
theorem k_141_33 : hm_code 141 33 = some (.iconst 1) := by decide +kernel
theorem k_141_34 : hm_code 141 34 = some (.goto 4) := by decide +kernel
theorem k_141_37 : hm_code 141 37 = some (.iconst 0) := by decide +kernel
theorem k_141_38 : hm_code 141 38 = some (.istore 6) := by decide +kernel
theorem k_141_40 : hm_code 141 40 = some (.iload 4) := by decide +kernel
theorem k_141_42 : hm_code 141 42 = some (.ifCond .ne 24) := by decide +kernel
theorem k_141_45 : hm_code 141 45 = some (.aload_n 0) := by decide +kernel
theorem k_141_46 : hm_code 141 46 = some (.iload_n 1) := by decide +kernel
theorem k_141_47 : hm_code 141 47 = some (.iload_n 2) := by decide +kernel
theorem k_141_48 : hm_code 141 48 = some (.iconst 4) := by decide +kernel
theorem k_141_49 : hm_code 141 49 = some (.invokevirtual 169) := by decide +kernel
theorem k_141_52 : hm_code 141 52 = some (.iload 5) := by decide +kernel
theorem k_141_54 : hm_code 141 54 = some (.ishr) := by decide +kernel
theorem k_141_55 : hm_code 141 55 = some (.iconst 1) := by decide +kernel
theorem k_141_56 : hm_code 141 56 = some (.iand) := by decide +kernel
theorem k_141_57 : hm_code 141 57 = some (.iconst 1) := by decide +kernel
theorem k_141_58 : hm_code 141 58 = some (.if_icmp .ne 12) := by decide +kernel
theorem k_141_61 : hm_code 141 61 = some (.iload 6) := by decide +kernel
theorem k_141_63 : hm_code 141 63 = some (.ifCond .ne 7) := by decide +kernel
theorem k_141_66 : hm_code 141 66 = some (.iconst 1) := by decide +kernel
theorem k_141_67 : hm_code 141 67 = some (.goto 4) := by decide +kernel
theorem k_141_70 : hm_code 141 70 = some (.iconst 0) := by decide +kernel
theorem k_141_71 : hm_code 141 71 = some (.istore 4) := by decide +kernel
theorem k_141_73 : hm_code 141 73 = some (.iinc 5 1) := by decide +kernel
theorem k_141_76 : hm_code 141 76 = some (.goto (-70)) := by decide +kernel
theorem k_141_79 : hm_code 141 79 = some (.iload 4) := by decide +kernel
theorem k_141_81 : hm_code 141 81 = some (.ireturn) := by decide +kernel
theorem m_142 : hm_mtab[142]? = some (⟨"HourPromisedModel", "place", "()I"⟩, prog_10_method_25_code, 1, (some .int), 8, 1, 1) := rfl
theorem k_142_0 : hm_code 142 0 = some (.aload_n 0) := by decide +kernel
theorem k_142_1 : hm_code 142 1 = some (.getfield 28) := by decide +kernel
theorem k_142_4 : hm_code 142 4 = some (.ireturn) := by decide +kernel
theorem m_143 : hm_mtab[143]? = some (⟨"HourPromisedModel", "says", "(III)I"⟩, prog_10_method_26_code, 4, (some .int), 8, 4, 1) := rfl
theorem k_143_0 : hm_code 143 0 = some (.iload_n 1) := by decide +kernel
theorem k_143_1 : hm_code 143 1 = some (.i2l) := by decide +kernel
theorem k_143_2 : hm_code 143 2 = some (.lconst 0) := by decide +kernel
theorem k_143_3 : hm_code 143 3 = some (.ldc2_w 90) := by decide +kernel
theorem k_143_6 : hm_code 143 6 = some (.invokestatic 84) := by decide +kernel
theorem k_143_9 : hm_code 143 9 = some (.ifCond .ne 7) := by decide +kernel
theorem k_143_12 : hm_code 143 12 = some (.sipush (-1001)) := by decide +kernel
theorem k_143_15 : hm_code 143 15 = some (.ireturn) := by decide +kernel
theorem k_143_16 : hm_code 143 16 = some (.iload_n 2) := by decide +kernel
theorem k_143_17 : hm_code 143 17 = some (.invokestatic 165) := by decide +kernel
theorem k_143_20 : hm_code 143 20 = some (.ifCond .eq 33) := by decide +kernel
theorem k_143_23 : hm_code 143 23 = some (.iload_n 3) := by decide +kernel
theorem k_143_24 : hm_code 143 24 = some (.i2l) := by decide +kernel
theorem k_143_25 : hm_code 143 25 = some (.lconst 0) := by decide +kernel
theorem k_143_26 : hm_code 143 26 = some (.ldc2_w 105) := by decide +kernel
theorem k_143_29 : hm_code 143 29 = some (.invokestatic 84) := by decide +kernel
theorem k_143_32 : hm_code 143 32 = some (.ifCond .eq 21) := by decide +kernel
theorem k_143_35 : hm_code 143 35 = some (.aload_n 0) := by decide +kernel
theorem k_143_36 : hm_code 143 36 = some (.getfield 19) := by decide +kernel
theorem k_143_39 : hm_code 143 39 = some (.bipush 20) := by decide +kernel
theorem k_143_41 : hm_code 143 41 = some (.iload_n 1) := by decide +kernel
theorem k_143_42 : hm_code 143 42 = some (.imul) := by decide +kernel
theorem k_143_43 : hm_code 143 43 = some (.iconst 5) := by decide +kernel
theorem k_143_44 : hm_code 143 44 = some (.iload_n 2) := by decide +kernel
theorem k_143_45 : hm_code 143 45 = some (.imul) := by decide +kernel
theorem k_143_46 : hm_code 143 46 = some (.iadd) := by decide +kernel
theorem k_143_47 : hm_code 143 47 = some (.iload_n 3) := by decide +kernel
theorem k_143_48 : hm_code 143 48 = some (.iadd) := by decide +kernel
theorem k_143_49 : hm_code 143 49 = some (.iaload) := by decide +kernel
theorem k_143_50 : hm_code 143 50 = some (.goto 6) := by decide +kernel
theorem k_143_53 : hm_code 143 53 = some (.sipush (-1002)) := by decide +kernel
theorem k_143_56 : hm_code 143 56 = some (.ireturn) := by decide +kernel
theorem m_144 : hm_mtab[144]? = some (⟨"HourPromisedModel", "isStep", "(I)Z"⟩, prog_10_method_6_code, 1, (some .boolean), 8, 1, 0) := rfl
theorem k_144_0 : hm_code 144 0 = some (.iload_n 0) := by decide +kernel
theorem k_144_1 : hm_code 144 1 = some (.i2l) := by decide +kernel
theorem k_144_2 : hm_code 144 2 = some (.lconst 0) := by decide +kernel
theorem k_144_3 : hm_code 144 3 = some (.ldc2_w 90) := by decide +kernel
theorem k_144_6 : hm_code 144 6 = some (.invokestatic 84) := by decide +kernel
theorem k_144_9 : hm_code 144 9 = some (.ireturn) := by decide +kernel
