theorem dX8_init_0 : decode cX8_init 0 = .ok (.aload_n 0, 1) := by decide +kernel
theorem dX8_init_1 : decode cX8_init 1 = .ok (.invokespecial 1, 3) := by decide +kernel
theorem dX8_init_4 : decode cX8_init 4 = .ok (.aload_n 0, 1) := by decide +kernel
theorem dX8_init_5 : decode cX8_init 5 = .ok (.bipush 6, 2) := by decide +kernel
theorem dX8_init_7 : decode cX8_init 7 = .ok (.newarray .int, 2) := by decide +kernel
theorem dX8_init_9 : decode cX8_init 9 = .ok (.putfield 7, 3) := by decide +kernel
theorem dX8_init_12 : decode cX8_init 12 = .ok (.aload_n 0, 1) := by decide +kernel
theorem dX8_init_13 : decode cX8_init 13 = .ok (.bipush 72, 2) := by decide +kernel
theorem dX8_init_15 : decode cX8_init 15 = .ok (.newarray .int, 2) := by decide +kernel
theorem dX8_init_17 : decode cX8_init 17 = .ok (.putfield 13, 3) := by decide +kernel
theorem dX8_init_20 : decode cX8_init 20 = .ok (.aload_n 0, 1) := by decide +kernel
theorem dX8_init_21 : decode cX8_init 21 = .ok (.bipush 72, 2) := by decide +kernel
theorem dX8_init_23 : decode cX8_init 23 = .ok (.newarray .int, 2) := by decide +kernel
theorem dX8_init_25 : decode cX8_init 25 = .ok (.putfield 16, 3) := by decide +kernel
theorem dX8_init_28 : decode cX8_init 28 = .ok (.aload_n 0, 1) := by decide +kernel
theorem dX8_init_29 : decode cX8_init 29 = .ok (.bipush 72, 2) := by decide +kernel
theorem dX8_init_31 : decode cX8_init 31 = .ok (.newarray .int, 2) := by decide +kernel
theorem dX8_init_33 : decode cX8_init 33 = .ok (.putfield 19, 3) := by decide +kernel
theorem dX8_init_36 : decode cX8_init 36 = .ok (.aload_n 0, 1) := by decide +kernel
theorem dX8_init_37 : decode cX8_init 37 = .ok (.bipush 10, 2) := by decide +kernel
theorem dX8_init_39 : decode cX8_init 39 = .ok (.newarray .int, 2) := by decide +kernel
theorem dX8_init_41 : decode cX8_init 41 = .ok (.putfield 22, 3) := by decide +kernel
theorem dX8_init_44 : decode cX8_init 44 = .ok (.aload_n 0, 1) := by decide +kernel
theorem dX8_init_45 : decode cX8_init 45 = .ok (.bipush 10, 2) := by decide +kernel
theorem dX8_init_47 : decode cX8_init 47 = .ok (.newarray .int, 2) := by decide +kernel
theorem dX8_init_49 : decode cX8_init 49 = .ok (.putfield 25, 3) := by decide +kernel
theorem dX8_init_52 : decode cX8_init 52 = .ok (.aload_n 0, 1) := by decide +kernel
theorem dX8_init_53 : decode cX8_init 53 = .ok (.bipush 10, 2) := by decide +kernel
theorem dX8_init_55 : decode cX8_init 55 = .ok (.newarray .int, 2) := by decide +kernel
theorem dX8_init_57 : decode cX8_init 57 = .ok (.putfield 28, 3) := by decide +kernel
theorem dX8_init_60 : decode cX8_init 60 = .ok (.aload_n 0, 1) := by decide +kernel
theorem dX8_init_61 : decode cX8_init 61 = .ok (.bipush 120, 2) := by decide +kernel
theorem dX8_init_63 : decode cX8_init 63 = .ok (.newarray .int, 2) := by decide +kernel
theorem dX8_init_65 : decode cX8_init 65 = .ok (.putfield 31, 3) := by decide +kernel
theorem dX8_init_68 : decode cX8_init 68 = .ok (.aload_n 0, 1) := by decide +kernel
theorem dX8_init_69 : decode cX8_init 69 = .ok (.bipush 120, 2) := by decide +kernel
theorem dX8_init_71 : decode cX8_init 71 = .ok (.newarray .int, 2) := by decide +kernel
theorem dX8_init_73 : decode cX8_init 73 = .ok (.putfield 34, 3) := by decide +kernel
theorem dX8_init_76 : decode cX8_init 76 = .ok (.aload_n 0, 1) := by decide +kernel
theorem dX8_init_77 : decode cX8_init 77 = .ok (.bipush 120, 2) := by decide +kernel
theorem dX8_init_79 : decode cX8_init 79 = .ok (.newarray .int, 2) := by decide +kernel
theorem dX8_init_81 : decode cX8_init 81 = .ok (.putfield 37, 3) := by decide +kernel
theorem dX8_init_84 : decode cX8_init 84 = .ok (.aload_n 0, 1) := by decide +kernel
theorem dX8_init_85 : decode cX8_init 85 = .ok (.bipush 10, 2) := by decide +kernel
theorem dX8_init_87 : decode cX8_init 87 = .ok (.newarray .int, 2) := by decide +kernel
theorem dX8_init_89 : decode cX8_init 89 = .ok (.putfield 40, 3) := by decide +kernel
theorem dX8_init_92 : decode cX8_init 92 = .ok (.aload_n 0, 1) := by decide +kernel
theorem dX8_init_93 : decode cX8_init 93 = .ok (.bipush 120, 2) := by decide +kernel
theorem dX8_init_95 : decode cX8_init 95 = .ok (.newarray .int, 2) := by decide +kernel
theorem dX8_init_97 : decode cX8_init 97 = .ok (.putfield 43, 3) := by decide +kernel
theorem dX8_init_100 : decode cX8_init 100 = .ok (.aload_n 0, 1) := by decide +kernel
theorem dX8_init_101 : decode cX8_init 101 = .ok (.sipush 360, 3) := by decide +kernel
theorem dX8_init_104 : decode cX8_init 104 = .ok (.newarray .long, 2) := by decide +kernel
theorem dX8_init_106 : decode cX8_init 106 = .ok (.putfield 46, 3) := by decide +kernel
theorem dX8_init_109 : decode cX8_init 109 = .ok (.aload_n 0, 1) := by decide +kernel
theorem dX8_init_110 : decode cX8_init 110 = .ok (.sipush 360, 3) := by decide +kernel
theorem dX8_init_113 : decode cX8_init 113 = .ok (.newarray .long, 2) := by decide +kernel
theorem dX8_init_115 : decode cX8_init 115 = .ok (.putfield 50, 3) := by decide +kernel
theorem dX8_init_118 : decode cX8_init 118 = .ok (.aload_n 0, 1) := by decide +kernel
theorem dX8_init_119 : decode cX8_init 119 = .ok (.iconst 4, 1) := by decide +kernel
theorem dX8_init_120 : decode cX8_init 120 = .ok (.newarray .int, 2) := by decide +kernel
theorem dX8_init_122 : decode cX8_init 122 = .ok (.putfield 53, 3) := by decide +kernel
theorem dX8_init_125 : decode cX8_init 125 = .ok (.aload_n 0, 1) := by decide +kernel
theorem dX8_init_126 : decode cX8_init 126 = .ok (.iconst 4, 1) := by decide +kernel
theorem dX8_init_127 : decode cX8_init 127 = .ok (.newarray .int, 2) := by decide +kernel
theorem dX8_init_129 : decode cX8_init 129 = .ok (.putfield 56, 3) := by decide +kernel
theorem dX8_init_132 : decode cX8_init 132 = .ok (.aload_n 0, 1) := by decide +kernel
theorem dX8_init_133 : decode cX8_init 133 = .ok (.sipush 160, 3) := by decide +kernel
theorem dX8_init_136 : decode cX8_init 136 = .ok (.newarray .int, 2) := by decide +kernel
theorem dX8_init_138 : decode cX8_init 138 = .ok (.putfield 59, 3) := by decide +kernel
theorem dX8_init_141 : decode cX8_init 141 = .ok (.aload_n 0, 1) := by decide +kernel
theorem dX8_init_142 : decode cX8_init 142 = .ok (.bipush 50, 2) := by decide +kernel
theorem dX8_init_144 : decode cX8_init 144 = .ok (.newarray .int, 2) := by decide +kernel
theorem dX8_init_146 : decode cX8_init 146 = .ok (.putfield 62, 3) := by decide +kernel
theorem dX8_init_149 : decode cX8_init 149 = .ok (.aload_n 0, 1) := by decide +kernel
theorem dX8_init_150 : decode cX8_init 150 = .ok (.lconst 1, 1) := by decide +kernel
theorem dX8_init_151 : decode cX8_init 151 = .ok (.putfield 65, 3) := by decide +kernel
theorem dX8_init_154 : decode cX8_init 154 = .ok (.aload_n 0, 1) := by decide +kernel
theorem dX8_init_155 : decode cX8_init 155 = .ok (.bipush 12, 2) := by decide +kernel
theorem dX8_init_157 : decode cX8_init 157 = .ok (.newarray .int, 2) := by decide +kernel
theorem dX8_init_159 : decode cX8_init 159 = .ok (.putfield 69, 3) := by decide +kernel
theorem dX8_init_162 : decode cX8_init 162 = .ok (.aload_n 0, 1) := by decide +kernel
theorem dX8_init_163 : decode cX8_init 163 = .ok (.iconst 3, 1) := by decide +kernel
theorem dX8_init_164 : decode cX8_init 164 = .ok (.newarray .long, 2) := by decide +kernel
theorem dX8_init_166 : decode cX8_init 166 = .ok (.putfield 72, 3) := by decide +kernel
theorem dX8_init_169 : decode cX8_init 169 = .ok (.aload_n 0, 1) := by decide +kernel
theorem dX8_init_170 : decode cX8_init 170 = .ok (.iconst 3, 1) := by decide +kernel
theorem dX8_init_171 : decode cX8_init 171 = .ok (.newarray .long, 2) := by decide +kernel
theorem dX8_init_173 : decode cX8_init 173 = .ok (.putfield 75, 3) := by decide +kernel
theorem dX8_init_176 : decode cX8_init 176 = .ok (.aload_n 0, 1) := by decide +kernel
theorem dX8_init_177 : decode cX8_init 177 = .ok (.iconst 3, 1) := by decide +kernel
theorem dX8_init_178 : decode cX8_init 178 = .ok (.newarray .long, 2) := by decide +kernel
theorem dX8_init_180 : decode cX8_init 180 = .ok (.putfield 78, 3) := by decide +kernel
theorem dX8_init_183 : decode cX8_init 183 = .ok (.aload_n 0, 1) := by decide +kernel
theorem dX8_init_184 : decode cX8_init 184 = .ok (.iconst 3, 1) := by decide +kernel
theorem dX8_init_185 : decode cX8_init 185 = .ok (.newarray .long, 2) := by decide +kernel
theorem dX8_init_187 : decode cX8_init 187 = .ok (.putfield 81, 3) := by decide +kernel
theorem dX8_init_190 : decode cX8_init 190 = .ok (.aload_n 0, 1) := by decide +kernel
theorem dX8_init_191 : decode cX8_init 191 = .ok (.bipush 12, 2) := by decide +kernel
theorem dX8_init_193 : decode cX8_init 193 = .ok (.newarray .int, 2) := by decide +kernel
theorem dX8_init_195 : decode cX8_init 195 = .ok (.putfield 84, 3) := by decide +kernel
theorem dX8_init_198 : decode cX8_init 198 = .ok (.aload_n 0, 1) := by decide +kernel
theorem dX8_init_199 : decode cX8_init 199 = .ok (.bipush 12, 2) := by decide +kernel
theorem dX8_init_201 : decode cX8_init 201 = .ok (.newarray .int, 2) := by decide +kernel
theorem dX8_init_203 : decode cX8_init 203 = .ok (.putfield 87, 3) := by decide +kernel
theorem dX8_init_206 : decode cX8_init 206 = .ok (.aload_n 0, 1) := by decide +kernel
theorem dX8_init_207 : decode cX8_init 207 = .ok (.bipush 12, 2) := by decide +kernel
theorem dX8_init_209 : decode cX8_init 209 = .ok (.newarray .int, 2) := by decide +kernel
theorem dX8_init_211 : decode cX8_init 211 = .ok (.putfield 90, 3) := by decide +kernel
theorem dX8_init_214 : decode cX8_init 214 = .ok (.iconst 0, 1) := by decide +kernel
theorem dX8_init_215 : decode cX8_init 215 = .ok (.istore_n 1, 1) := by decide +kernel
theorem dX8_init_216 : decode cX8_init 216 = .ok (.iload_n 1, 1) := by decide +kernel
theorem dX8_init_217 : decode cX8_init 217 = .ok (.iconst 4, 1) := by decide +kernel
theorem dX8_init_218 : decode cX8_init 218 = .ok (.if_icmp .ge 16, 3) := by decide +kernel
theorem dX8_init_221 : decode cX8_init 221 = .ok (.aload_n 0, 1) := by decide +kernel
theorem dX8_init_222 : decode cX8_init 222 = .ok (.getfield 53, 3) := by decide +kernel
theorem dX8_init_225 : decode cX8_init 225 = .ok (.iload_n 1, 1) := by decide +kernel
theorem dX8_init_226 : decode cX8_init 226 = .ok (.iconst (-1), 1) := by decide +kernel
theorem dX8_init_227 : decode cX8_init 227 = .ok (.iastore, 1) := by decide +kernel
theorem dX8_init_228 : decode cX8_init 228 = .ok (.iinc 1 1, 3) := by decide +kernel
theorem dX8_init_231 : decode cX8_init 231 = .ok (.goto (-15), 3) := by decide +kernel
theorem dX8_init_234 : decode cX8_init 234 = .ok (.return_, 1) := by decide +kernel
theorem dX8_in_0 : decode cX8_in 0 = .ok (.iload_n 0, 1) := by decide +kernel
theorem dX8_in_1 : decode cX8_in 1 = .ok (.iload_n 1, 1) := by decide +kernel
theorem dX8_in_2 : decode cX8_in 2 = .ok (.if_icmp .lt 12, 3) := by decide +kernel
theorem dX8_in_5 : decode cX8_in 5 = .ok (.iload_n 0, 1) := by decide +kernel
theorem dX8_in_6 : decode cX8_in 6 = .ok (.iload_n 2, 1) := by decide +kernel
theorem dX8_in_7 : decode cX8_in 7 = .ok (.if_icmp .gt 7, 3) := by decide +kernel
theorem dX8_in_10 : decode cX8_in 10 = .ok (.iconst 1, 1) := by decide +kernel
theorem dX8_in_11 : decode cX8_in 11 = .ok (.goto 4, 3) := by decide +kernel
theorem dX8_in_14 : decode cX8_in 14 = .ok (.iconst 0, 1) := by decide +kernel
theorem dX8_in_15 : decode cX8_in 15 = .ok (.ireturn, 1) := by decide +kernel
theorem dX8_refused_0 : decode cX8_refused 0 = .ok (.aload_n 0, 1) := by decide +kernel
theorem dX8_refused_1 : decode cX8_refused 1 = .ok (.iload_n 1, 1) := by decide +kernel
theorem dX8_refused_2 : decode cX8_refused 2 = .ok (.putfield 93, 3) := by decide +kernel
theorem dX8_refused_5 : decode cX8_refused 5 = .ok (.iconst (-1), 1) := by decide +kernel
theorem dX8_refused_6 : decode cX8_refused 6 = .ok (.ireturn, 1) := by decide +kernel
theorem dX8_done_0 : decode cX8_done 0 = .ok (.aload_n 0, 1) := by decide +kernel
theorem dX8_done_1 : decode cX8_done 1 = .ok (.iconst 0, 1) := by decide +kernel
theorem dX8_done_2 : decode cX8_done 2 = .ok (.putfield 93, 3) := by decide +kernel
theorem dX8_done_5 : decode cX8_done 5 = .ok (.iload_n 1, 1) := by decide +kernel
theorem dX8_done_6 : decode cX8_done 6 = .ok (.ireturn, 1) := by decide +kernel
theorem dX8_isFit_0 : decode cX8_isFit 0 = .ok (.iload_n 1, 1) := by decide +kernel
theorem dX8_isFit_1 : decode cX8_isFit 1 = .ok (.iconst 0, 1) := by decide +kernel
theorem dX8_isFit_2 : decode cX8_isFit 2 = .ok (.aload_n 0, 1) := by decide +kernel
theorem dX8_isFit_3 : decode cX8_isFit 3 = .ok (.getfield 97, 3) := by decide +kernel
theorem dX8_isFit_6 : decode cX8_isFit 6 = .ok (.iconst 1, 1) := by decide +kernel
theorem dX8_isFit_7 : decode cX8_isFit 7 = .ok (.isub, 1) := by decide +kernel
theorem dX8_isFit_8 : decode cX8_isFit 8 = .ok (.invokestatic 100, 3) := by decide +kernel
theorem dX8_isFit_11 : decode cX8_isFit 11 = .ok (.ireturn, 1) := by decide +kernel
theorem dX8_has_0 : decode cX8_has 0 = .ok (.iload_n 0, 1) := by decide +kernel
theorem dX8_has_1 : decode cX8_has 1 = .ok (.iload_n 1, 1) := by decide +kernel
theorem dX8_has_2 : decode cX8_has 2 = .ok (.ishr, 1) := by decide +kernel
theorem dX8_has_3 : decode cX8_has 3 = .ok (.iconst 1, 1) := by decide +kernel
theorem dX8_has_4 : decode cX8_has 4 = .ok (.iand, 1) := by decide +kernel
theorem dX8_has_5 : decode cX8_has 5 = .ok (.iconst 1, 1) := by decide +kernel
theorem dX8_has_6 : decode cX8_has 6 = .ok (.if_icmp .ne 7, 3) := by decide +kernel
theorem dX8_has_9 : decode cX8_has 9 = .ok (.iconst 1, 1) := by decide +kernel
theorem dX8_has_10 : decode cX8_has 10 = .ok (.goto 4, 3) := by decide +kernel
theorem dX8_has_13 : decode cX8_has 13 = .ok (.iconst 0, 1) := by decide +kernel
theorem dX8_has_14 : decode cX8_has 14 = .ok (.ireturn, 1) := by decide +kernel
theorem dX8_ones_0 : decode cX8_ones 0 = .ok (.iconst 0, 1) := by decide +kernel
theorem dX8_ones_1 : decode cX8_ones 1 = .ok (.istore_n 1, 1) := by decide +kernel
theorem dX8_ones_2 : decode cX8_ones 2 = .ok (.iconst 0, 1) := by decide +kernel
theorem dX8_ones_3 : decode cX8_ones 3 = .ok (.istore_n 2, 1) := by decide +kernel
theorem dX8_ones_4 : decode cX8_ones 4 = .ok (.iload_n 2, 1) := by decide +kernel
theorem dX8_ones_5 : decode cX8_ones 5 = .ok (.bipush 12, 2) := by decide +kernel
theorem dX8_ones_7 : decode cX8_ones 7 = .ok (.if_icmp .ge 17, 3) := by decide +kernel
theorem dX8_ones_10 : decode cX8_ones 10 = .ok (.iload_n 1, 1) := by decide +kernel
theorem dX8_ones_11 : decode cX8_ones 11 = .ok (.iload_n 0, 1) := by decide +kernel
theorem dX8_ones_12 : decode cX8_ones 12 = .ok (.iload_n 2, 1) := by decide +kernel
theorem dX8_ones_13 : decode cX8_ones 13 = .ok (.ishr, 1) := by decide +kernel
theorem dX8_ones_14 : decode cX8_ones 14 = .ok (.iconst 1, 1) := by decide +kernel
theorem dX8_ones_15 : decode cX8_ones 15 = .ok (.iand, 1) := by decide +kernel
theorem dX8_ones_16 : decode cX8_ones 16 = .ok (.iadd, 1) := by decide +kernel
theorem dX8_ones_17 : decode cX8_ones 17 = .ok (.istore_n 1, 1) := by decide +kernel
theorem dX8_ones_18 : decode cX8_ones 18 = .ok (.iinc 2 1, 3) := by decide +kernel
theorem dX8_ones_21 : decode cX8_ones 21 = .ok (.goto (-17), 3) := by decide +kernel
theorem dX8_ones_24 : decode cX8_ones 24 = .ok (.iload_n 1, 1) := by decide +kernel
theorem dX8_ones_25 : decode cX8_ones 25 = .ok (.ireturn, 1) := by decide +kernel
theorem dX8_divisor_0 : decode cX8_divisor 0 = .ok (.lload_n 0, 1) := by decide +kernel
theorem dX8_divisor_1 : decode cX8_divisor 1 = .ok (.lconst 0, 1) := by decide +kernel
theorem dX8_divisor_2 : decode cX8_divisor 2 = .ok (.lcmp, 1) := by decide +kernel
theorem dX8_divisor_3 : decode cX8_divisor 3 = .ok (.ifCond .ge 8, 3) := by decide +kernel
theorem dX8_divisor_6 : decode cX8_divisor 6 = .ok (.lload_n 0, 1) := by decide +kernel
theorem dX8_divisor_7 : decode cX8_divisor 7 = .ok (.lneg, 1) := by decide +kernel
theorem dX8_divisor_8 : decode cX8_divisor 8 = .ok (.goto 4, 3) := by decide +kernel
theorem dX8_divisor_11 : decode cX8_divisor 11 = .ok (.lload_n 0, 1) := by decide +kernel
theorem dX8_divisor_12 : decode cX8_divisor 12 = .ok (.lstore 4, 2) := by decide +kernel
theorem dX8_divisor_14 : decode cX8_divisor 14 = .ok (.lload_n 2, 1) := by decide +kernel
theorem dX8_divisor_15 : decode cX8_divisor 15 = .ok (.lconst 0, 1) := by decide +kernel
theorem dX8_divisor_16 : decode cX8_divisor 16 = .ok (.lcmp, 1) := by decide +kernel
theorem dX8_divisor_17 : decode cX8_divisor 17 = .ok (.ifCond .ge 8, 3) := by decide +kernel
theorem dX8_divisor_20 : decode cX8_divisor 20 = .ok (.lload_n 2, 1) := by decide +kernel
theorem dX8_divisor_21 : decode cX8_divisor 21 = .ok (.lneg, 1) := by decide +kernel
theorem dX8_divisor_22 : decode cX8_divisor 22 = .ok (.goto 4, 3) := by decide +kernel
theorem dX8_divisor_25 : decode cX8_divisor 25 = .ok (.lload_n 2, 1) := by decide +kernel
theorem dX8_divisor_26 : decode cX8_divisor 26 = .ok (.lstore 6, 2) := by decide +kernel
theorem dX8_divisor_28 : decode cX8_divisor 28 = .ok (.lload 6, 2) := by decide +kernel
theorem dX8_divisor_30 : decode cX8_divisor 30 = .ok (.lconst 0, 1) := by decide +kernel
theorem dX8_divisor_31 : decode cX8_divisor 31 = .ok (.lcmp, 1) := by decide +kernel
theorem dX8_divisor_32 : decode cX8_divisor 32 = .ok (.ifCond .eq 21, 3) := by decide +kernel
theorem dX8_divisor_35 : decode cX8_divisor 35 = .ok (.lload 4, 2) := by decide +kernel
theorem dX8_divisor_37 : decode cX8_divisor 37 = .ok (.lload 6, 2) := by decide +kernel
theorem dX8_divisor_39 : decode cX8_divisor 39 = .ok (.lrem, 1) := by decide +kernel
theorem dX8_divisor_40 : decode cX8_divisor 40 = .ok (.lstore 8, 2) := by decide +kernel
theorem dX8_divisor_42 : decode cX8_divisor 42 = .ok (.lload 6, 2) := by decide +kernel
theorem dX8_divisor_44 : decode cX8_divisor 44 = .ok (.lstore 4, 2) := by decide +kernel
theorem dX8_divisor_46 : decode cX8_divisor 46 = .ok (.lload 8, 2) := by decide +kernel
theorem dX8_divisor_48 : decode cX8_divisor 48 = .ok (.lstore 6, 2) := by decide +kernel
theorem dX8_divisor_50 : decode cX8_divisor 50 = .ok (.goto (-22), 3) := by decide +kernel
theorem dX8_divisor_53 : decode cX8_divisor 53 = .ok (.lload 4, 2) := by decide +kernel
theorem dX8_divisor_55 : decode cX8_divisor 55 = .ok (.lreturn, 1) := by decide +kernel
theorem dX8_is_0 : decode cX8_is 0 = .ok (.lload_n 1, 1) := by decide +kernel
theorem dX8_is_1 : decode cX8_is 1 = .ok (.lload_n 3, 1) := by decide +kernel
theorem dX8_is_2 : decode cX8_is 2 = .ok (.invokestatic 104, 3) := by decide +kernel
theorem dX8_is_5 : decode cX8_is 5 = .ok (.lstore 5, 2) := by decide +kernel
theorem dX8_is_7 : decode cX8_is 7 = .ok (.lload_n 3, 1) := by decide +kernel
theorem dX8_is_8 : decode cX8_is 8 = .ok (.lconst 0, 1) := by decide +kernel
theorem dX8_is_9 : decode cX8_is 9 = .ok (.lcmp, 1) := by decide +kernel
theorem dX8_is_10 : decode cX8_is 10 = .ok (.ifCond .ge 9, 3) := by decide +kernel
theorem dX8_is_13 : decode cX8_is 13 = .ok (.lload 5, 2) := by decide +kernel
theorem dX8_is_15 : decode cX8_is 15 = .ok (.lneg, 1) := by decide +kernel
theorem dX8_is_16 : decode cX8_is 16 = .ok (.goto 5, 3) := by decide +kernel
theorem dX8_is_19 : decode cX8_is 19 = .ok (.lload 5, 2) := by decide +kernel
theorem dX8_is_21 : decode cX8_is 21 = .ok (.lstore 5, 2) := by decide +kernel
theorem dX8_is_23 : decode cX8_is 23 = .ok (.aload_n 0, 1) := by decide +kernel
theorem dX8_is_24 : decode cX8_is 24 = .ok (.lload_n 1, 1) := by decide +kernel
theorem dX8_is_25 : decode cX8_is 25 = .ok (.lload 5, 2) := by decide +kernel
theorem dX8_is_27 : decode cX8_is 27 = .ok (.ldiv, 1) := by decide +kernel
theorem dX8_is_28 : decode cX8_is 28 = .ok (.putfield 108, 3) := by decide +kernel
theorem dX8_is_31 : decode cX8_is 31 = .ok (.aload_n 0, 1) := by decide +kernel
theorem dX8_is_32 : decode cX8_is 32 = .ok (.lload_n 3, 1) := by decide +kernel
theorem dX8_is_33 : decode cX8_is 33 = .ok (.lload 5, 2) := by decide +kernel
theorem dX8_is_35 : decode cX8_is 35 = .ok (.ldiv, 1) := by decide +kernel
theorem dX8_is_36 : decode cX8_is 36 = .ok (.putfield 65, 3) := by decide +kernel
theorem dX8_is_39 : decode cX8_is 39 = .ok (.return_, 1) := by decide +kernel
theorem dX8_plus_0 : decode cX8_plus 0 = .ok (.lload_n 3, 1) := by decide +kernel
theorem dX8_plus_1 : decode cX8_plus 1 = .ok (.lload 7, 2) := by decide +kernel
theorem dX8_plus_3 : decode cX8_plus 3 = .ok (.invokestatic 104, 3) := by decide +kernel
theorem dX8_plus_6 : decode cX8_plus 6 = .ok (.lstore 9, 2) := by decide +kernel
theorem dX8_plus_8 : decode cX8_plus 8 = .ok (.aload_n 0, 1) := by decide +kernel
theorem dX8_plus_9 : decode cX8_plus 9 = .ok (.lload_n 1, 1) := by decide +kernel
theorem dX8_plus_10 : decode cX8_plus 10 = .ok (.lload 7, 2) := by decide +kernel
theorem dX8_plus_12 : decode cX8_plus 12 = .ok (.lload 9, 2) := by decide +kernel
theorem dX8_plus_14 : decode cX8_plus 14 = .ok (.ldiv, 1) := by decide +kernel
theorem dX8_plus_15 : decode cX8_plus 15 = .ok (.lmul, 1) := by decide +kernel
theorem dX8_plus_16 : decode cX8_plus 16 = .ok (.lload 5, 2) := by decide +kernel
theorem dX8_plus_18 : decode cX8_plus 18 = .ok (.lload_n 3, 1) := by decide +kernel
theorem dX8_plus_19 : decode cX8_plus 19 = .ok (.lload 9, 2) := by decide +kernel
theorem dX8_plus_21 : decode cX8_plus 21 = .ok (.ldiv, 1) := by decide +kernel
theorem dX8_plus_22 : decode cX8_plus 22 = .ok (.lmul, 1) := by decide +kernel
theorem dX8_plus_23 : decode cX8_plus 23 = .ok (.ladd, 1) := by decide +kernel
theorem dX8_plus_24 : decode cX8_plus 24 = .ok (.lload_n 3, 1) := by decide +kernel
theorem dX8_plus_25 : decode cX8_plus 25 = .ok (.lload 9, 2) := by decide +kernel
theorem dX8_plus_27 : decode cX8_plus 27 = .ok (.ldiv, 1) := by decide +kernel
theorem dX8_plus_28 : decode cX8_plus 28 = .ok (.lload 7, 2) := by decide +kernel
theorem dX8_plus_30 : decode cX8_plus 30 = .ok (.lmul, 1) := by decide +kernel
theorem dX8_plus_31 : decode cX8_plus 31 = .ok (.invokevirtual 111, 3) := by decide +kernel
theorem dX8_plus_34 : decode cX8_plus 34 = .ok (.return_, 1) := by decide +kernel
theorem dX8_times_0 : decode cX8_times 0 = .ok (.lload_n 1, 1) := by decide +kernel
theorem dX8_times_1 : decode cX8_times 1 = .ok (.lload 7, 2) := by decide +kernel
theorem dX8_times_3 : decode cX8_times 3 = .ok (.invokestatic 104, 3) := by decide +kernel
theorem dX8_times_6 : decode cX8_times 6 = .ok (.lstore 9, 2) := by decide +kernel
theorem dX8_times_8 : decode cX8_times 8 = .ok (.lload 5, 2) := by decide +kernel
theorem dX8_times_10 : decode cX8_times 10 = .ok (.lload_n 3, 1) := by decide +kernel
theorem dX8_times_11 : decode cX8_times 11 = .ok (.invokestatic 104, 3) := by decide +kernel
theorem dX8_times_14 : decode cX8_times 14 = .ok (.lstore 11, 2) := by decide +kernel
theorem dX8_times_16 : decode cX8_times 16 = .ok (.lload 9, 2) := by decide +kernel
theorem dX8_times_18 : decode cX8_times 18 = .ok (.lconst 0, 1) := by decide +kernel
theorem dX8_times_19 : decode cX8_times 19 = .ok (.lcmp, 1) := by decide +kernel
theorem dX8_times_20 : decode cX8_times 20 = .ok (.ifCond .ne 7, 3) := by decide +kernel
theorem dX8_times_23 : decode cX8_times 23 = .ok (.lconst 1, 1) := by decide +kernel
theorem dX8_times_24 : decode cX8_times 24 = .ok (.goto 5, 3) := by decide +kernel
theorem dX8_times_27 : decode cX8_times 27 = .ok (.lload 9, 2) := by decide +kernel
theorem dX8_times_29 : decode cX8_times 29 = .ok (.lstore 9, 2) := by decide +kernel
theorem dX8_times_31 : decode cX8_times 31 = .ok (.lload 11, 2) := by decide +kernel
theorem dX8_times_33 : decode cX8_times 33 = .ok (.lconst 0, 1) := by decide +kernel
theorem dX8_times_34 : decode cX8_times 34 = .ok (.lcmp, 1) := by decide +kernel
theorem dX8_times_35 : decode cX8_times 35 = .ok (.ifCond .ne 7, 3) := by decide +kernel
theorem dX8_times_38 : decode cX8_times 38 = .ok (.lconst 1, 1) := by decide +kernel
theorem dX8_times_39 : decode cX8_times 39 = .ok (.goto 5, 3) := by decide +kernel
theorem dX8_times_42 : decode cX8_times 42 = .ok (.lload 11, 2) := by decide +kernel
theorem dX8_times_44 : decode cX8_times 44 = .ok (.lstore 11, 2) := by decide +kernel
theorem dX8_times_46 : decode cX8_times 46 = .ok (.aload_n 0, 1) := by decide +kernel
theorem dX8_times_47 : decode cX8_times 47 = .ok (.lload_n 1, 1) := by decide +kernel
theorem dX8_times_48 : decode cX8_times 48 = .ok (.lload 9, 2) := by decide +kernel
theorem dX8_times_50 : decode cX8_times 50 = .ok (.ldiv, 1) := by decide +kernel
theorem dX8_times_51 : decode cX8_times 51 = .ok (.lload 5, 2) := by decide +kernel
theorem dX8_times_53 : decode cX8_times 53 = .ok (.lload 11, 2) := by decide +kernel
theorem dX8_times_55 : decode cX8_times 55 = .ok (.ldiv, 1) := by decide +kernel
theorem dX8_times_56 : decode cX8_times 56 = .ok (.lmul, 1) := by decide +kernel
theorem dX8_times_57 : decode cX8_times 57 = .ok (.lload_n 3, 1) := by decide +kernel
theorem dX8_times_58 : decode cX8_times 58 = .ok (.lload 11, 2) := by decide +kernel
theorem dX8_times_60 : decode cX8_times 60 = .ok (.ldiv, 1) := by decide +kernel
theorem dX8_times_61 : decode cX8_times 61 = .ok (.lload 7, 2) := by decide +kernel
theorem dX8_times_63 : decode cX8_times 63 = .ok (.lload 9, 2) := by decide +kernel
theorem dX8_times_65 : decode cX8_times 65 = .ok (.ldiv, 1) := by decide +kernel
theorem dX8_times_66 : decode cX8_times 66 = .ok (.lmul, 1) := by decide +kernel
theorem dX8_times_67 : decode cX8_times 67 = .ok (.invokevirtual 111, 3) := by decide +kernel
theorem dX8_times_70 : decode cX8_times 70 = .ok (.return_, 1) := by decide +kernel
theorem dX8_compare_0 : decode cX8_compare 0 = .ok (.lload_n 0, 1) := by decide +kernel
theorem dX8_compare_1 : decode cX8_compare 1 = .ok (.lstore 8, 2) := by decide +kernel
theorem dX8_compare_3 : decode cX8_compare 3 = .ok (.lload_n 2, 1) := by decide +kernel
theorem dX8_compare_4 : decode cX8_compare 4 = .ok (.lstore 10, 2) := by decide +kernel
theorem dX8_compare_6 : decode cX8_compare 6 = .ok (.lload 4, 2) := by decide +kernel
theorem dX8_compare_8 : decode cX8_compare 8 = .ok (.lstore 12, 2) := by decide +kernel
theorem dX8_compare_10 : decode cX8_compare 10 = .ok (.lload 6, 2) := by decide +kernel
theorem dX8_compare_12 : decode cX8_compare 12 = .ok (.lstore 14, 2) := by decide +kernel
theorem dX8_compare_14 : decode cX8_compare 14 = .ok (.iconst 1, 1) := by decide +kernel
theorem dX8_compare_15 : decode cX8_compare 15 = .ok (.istore 16, 2) := by decide +kernel
theorem dX8_compare_17 : decode cX8_compare 17 = .ok (.lload 8, 2) := by decide +kernel
theorem dX8_compare_19 : decode cX8_compare 19 = .ok (.lload 10, 2) := by decide +kernel
theorem dX8_compare_21 : decode cX8_compare 21 = .ok (.ldiv, 1) := by decide +kernel
theorem dX8_compare_22 : decode cX8_compare 22 = .ok (.lload 12, 2) := by decide +kernel
theorem dX8_compare_24 : decode cX8_compare 24 = .ok (.lload 14, 2) := by decide +kernel
theorem dX8_compare_26 : decode cX8_compare 26 = .ok (.ldiv, 1) := by decide +kernel
theorem dX8_compare_27 : decode cX8_compare 27 = .ok (.lcmp, 1) := by decide +kernel
theorem dX8_compare_28 : decode cX8_compare 28 = .ok (.ifCond .ne 91, 3) := by decide +kernel
theorem dX8_compare_31 : decode cX8_compare 31 = .ok (.lload 8, 2) := by decide +kernel
theorem dX8_compare_33 : decode cX8_compare 33 = .ok (.lload 10, 2) := by decide +kernel
theorem dX8_compare_35 : decode cX8_compare 35 = .ok (.lrem, 1) := by decide +kernel
theorem dX8_compare_36 : decode cX8_compare 36 = .ok (.lstore 8, 2) := by decide +kernel
theorem dX8_compare_38 : decode cX8_compare 38 = .ok (.lload 12, 2) := by decide +kernel
theorem dX8_compare_40 : decode cX8_compare 40 = .ok (.lload 14, 2) := by decide +kernel
theorem dX8_compare_42 : decode cX8_compare 42 = .ok (.lrem, 1) := by decide +kernel
theorem dX8_compare_43 : decode cX8_compare 43 = .ok (.lstore 12, 2) := by decide +kernel
theorem dX8_compare_45 : decode cX8_compare 45 = .ok (.lload 8, 2) := by decide +kernel
theorem dX8_compare_47 : decode cX8_compare 47 = .ok (.lconst 0, 1) := by decide +kernel
theorem dX8_compare_48 : decode cX8_compare 48 = .ok (.lcmp, 1) := by decide +kernel
theorem dX8_compare_49 : decode cX8_compare 49 = .ok (.ifCond .eq 10, 3) := by decide +kernel
theorem dX8_compare_52 : decode cX8_compare 52 = .ok (.lload 12, 2) := by decide +kernel
theorem dX8_compare_54 : decode cX8_compare 54 = .ok (.lconst 0, 1) := by decide +kernel
theorem dX8_compare_55 : decode cX8_compare 55 = .ok (.lcmp, 1) := by decide +kernel
theorem dX8_compare_56 : decode cX8_compare 56 = .ok (.ifCond .ne 31, 3) := by decide +kernel
theorem dX8_compare_59 : decode cX8_compare 59 = .ok (.lload 8, 2) := by decide +kernel
theorem dX8_compare_61 : decode cX8_compare 61 = .ok (.lload 12, 2) := by decide +kernel
theorem dX8_compare_63 : decode cX8_compare 63 = .ok (.lcmp, 1) := by decide +kernel
theorem dX8_compare_64 : decode cX8_compare 64 = .ok (.ifCond .ne 7, 3) := by decide +kernel
theorem dX8_compare_67 : decode cX8_compare 67 = .ok (.iconst 0, 1) := by decide +kernel
theorem dX8_compare_68 : decode cX8_compare 68 = .ok (.goto 18, 3) := by decide +kernel
theorem dX8_compare_71 : decode cX8_compare 71 = .ok (.lload 8, 2) := by decide +kernel
theorem dX8_compare_73 : decode cX8_compare 73 = .ok (.lconst 0, 1) := by decide +kernel
theorem dX8_compare_74 : decode cX8_compare 74 = .ok (.lcmp, 1) := by decide +kernel
theorem dX8_compare_75 : decode cX8_compare 75 = .ok (.ifCond .ne 9, 3) := by decide +kernel
theorem dX8_compare_78 : decode cX8_compare 78 = .ok (.iload 16, 2) := by decide +kernel
theorem dX8_compare_80 : decode cX8_compare 80 = .ok (.ineg, 1) := by decide +kernel
theorem dX8_compare_81 : decode cX8_compare 81 = .ok (.goto 5, 3) := by decide +kernel
theorem dX8_compare_84 : decode cX8_compare 84 = .ok (.iload 16, 2) := by decide +kernel
theorem dX8_compare_86 : decode cX8_compare 86 = .ok (.ireturn, 1) := by decide +kernel
theorem dX8_compare_87 : decode cX8_compare 87 = .ok (.lload 8, 2) := by decide +kernel
theorem dX8_compare_89 : decode cX8_compare 89 = .ok (.lstore 17, 2) := by decide +kernel
theorem dX8_compare_91 : decode cX8_compare 91 = .ok (.lload 10, 2) := by decide +kernel
theorem dX8_compare_93 : decode cX8_compare 93 = .ok (.lstore 8, 2) := by decide +kernel
theorem dX8_compare_95 : decode cX8_compare 95 = .ok (.lload 17, 2) := by decide +kernel
theorem dX8_compare_97 : decode cX8_compare 97 = .ok (.lstore 10, 2) := by decide +kernel
theorem dX8_compare_99 : decode cX8_compare 99 = .ok (.lload 12, 2) := by decide +kernel
theorem dX8_compare_101 : decode cX8_compare 101 = .ok (.lstore 17, 2) := by decide +kernel
theorem dX8_compare_103 : decode cX8_compare 103 = .ok (.lload 14, 2) := by decide +kernel
theorem dX8_compare_105 : decode cX8_compare 105 = .ok (.lstore 12, 2) := by decide +kernel
theorem dX8_compare_107 : decode cX8_compare 107 = .ok (.lload 17, 2) := by decide +kernel
theorem dX8_compare_109 : decode cX8_compare 109 = .ok (.lstore 14, 2) := by decide +kernel
theorem dX8_compare_111 : decode cX8_compare 111 = .ok (.iload 16, 2) := by decide +kernel
theorem dX8_compare_113 : decode cX8_compare 113 = .ok (.ineg, 1) := by decide +kernel
theorem dX8_compare_114 : decode cX8_compare 114 = .ok (.istore 16, 2) := by decide +kernel
theorem dX8_compare_116 : decode cX8_compare 116 = .ok (.goto (-99), 3) := by decide +kernel
theorem dX8_compare_119 : decode cX8_compare 119 = .ok (.lload 8, 2) := by decide +kernel
theorem dX8_compare_121 : decode cX8_compare 121 = .ok (.lload 10, 2) := by decide +kernel
theorem dX8_compare_123 : decode cX8_compare 123 = .ok (.ldiv, 1) := by decide +kernel
theorem dX8_compare_124 : decode cX8_compare 124 = .ok (.lload 12, 2) := by decide +kernel
theorem dX8_compare_126 : decode cX8_compare 126 = .ok (.lload 14, 2) := by decide +kernel
theorem dX8_compare_128 : decode cX8_compare 128 = .ok (.ldiv, 1) := by decide +kernel
theorem dX8_compare_129 : decode cX8_compare 129 = .ok (.lcmp, 1) := by decide +kernel
theorem dX8_compare_130 : decode cX8_compare 130 = .ok (.ifCond .ge 9, 3) := by decide +kernel
theorem dX8_compare_133 : decode cX8_compare 133 = .ok (.iload 16, 2) := by decide +kernel
theorem dX8_compare_135 : decode cX8_compare 135 = .ok (.ineg, 1) := by decide +kernel
theorem dX8_compare_136 : decode cX8_compare 136 = .ok (.goto 5, 3) := by decide +kernel
theorem dX8_compare_139 : decode cX8_compare 139 = .ok (.iload 16, 2) := by decide +kernel
theorem dX8_compare_141 : decode cX8_compare 141 = .ok (.ireturn, 1) := by decide +kernel
theorem dX8_point_0 : decode cX8_point 0 = .ok (.iload_n 1, 1) := by decide +kernel
theorem dX8_point_1 : decode cX8_point 1 = .ok (.iconst 0, 1) := by decide +kernel
theorem dX8_point_2 : decode cX8_point 2 = .ok (.iconst 5, 1) := by decide +kernel
theorem dX8_point_3 : decode cX8_point 3 = .ok (.invokestatic 100, 3) := by decide +kernel
theorem dX8_point_6 : decode cX8_point 6 = .ok (.ifCond .eq 13, 3) := by decide +kernel
theorem dX8_point_9 : decode cX8_point 9 = .ok (.iload_n 2, 1) := by decide +kernel
theorem dX8_point_10 : decode cX8_point 10 = .ok (.iload_n 3, 1) := by decide +kernel
theorem dX8_point_11 : decode cX8_point 11 = .ok (.iload 4, 2) := by decide +kernel
theorem dX8_point_13 : decode cX8_point 13 = .ok (.invokestatic 115, 3) := by decide +kernel
theorem dX8_point_16 : decode cX8_point 16 = .ok (.ifCond .ne 9, 3) := by decide +kernel
theorem dX8_point_19 : decode cX8_point 19 = .ok (.aload_n 0, 1) := by decide +kernel
theorem dX8_point_20 : decode cX8_point 20 = .ok (.iconst 1, 1) := by decide +kernel
theorem dX8_point_21 : decode cX8_point 21 = .ok (.invokevirtual 118, 3) := by decide +kernel
theorem dX8_point_24 : decode cX8_point 24 = .ok (.ireturn, 1) := by decide +kernel
theorem dX8_point_25 : decode cX8_point 25 = .ok (.aload_n 0, 1) := by decide +kernel
theorem dX8_point_26 : decode cX8_point 26 = .ok (.getfield 7, 3) := by decide +kernel
theorem dX8_point_29 : decode cX8_point 29 = .ok (.iload_n 1, 1) := by decide +kernel
theorem dX8_point_30 : decode cX8_point 30 = .ok (.iaload, 1) := by decide +kernel
theorem dX8_point_31 : decode cX8_point 31 = .ok (.bipush 12, 2) := by decide +kernel
theorem dX8_point_33 : decode cX8_point 33 = .ok (.if_icmp .ne 11, 3) := by decide +kernel
theorem dX8_point_36 : decode cX8_point 36 = .ok (.aload_n 0, 1) := by decide +kernel
theorem dX8_point_37 : decode cX8_point 37 = .ok (.iconst 2, 1) := by decide +kernel
theorem dX8_point_38 : decode cX8_point 38 = .ok (.invokevirtual 118, 3) := by decide +kernel
theorem dX8_point_41 : decode cX8_point 41 = .ok (.goto 29, 3) := by decide +kernel
theorem dX8_point_44 : decode cX8_point 44 = .ok (.aload_n 0, 1) := by decide +kernel
theorem dX8_point_45 : decode cX8_point 45 = .ok (.iload_n 1, 1) := by decide +kernel
theorem dX8_point_46 : decode cX8_point 46 = .ok (.iload_n 2, 1) := by decide +kernel
theorem dX8_point_47 : decode cX8_point 47 = .ok (.invokevirtual 122, 3) := by decide +kernel
theorem dX8_point_50 : decode cX8_point 50 = .ok (.ifCond .eq 11, 3) := by decide +kernel
theorem dX8_point_53 : decode cX8_point 53 = .ok (.aload_n 0, 1) := by decide +kernel
theorem dX8_point_54 : decode cX8_point 54 = .ok (.iconst 3, 1) := by decide +kernel
theorem dX8_point_55 : decode cX8_point 55 = .ok (.invokevirtual 118, 3) := by decide +kernel
theorem dX8_point_58 : decode cX8_point 58 = .ok (.goto 12, 3) := by decide +kernel
theorem dX8_point_61 : decode cX8_point 61 = .ok (.aload_n 0, 1) := by decide +kernel
theorem dX8_point_62 : decode cX8_point 62 = .ok (.iload_n 1, 1) := by decide +kernel
theorem dX8_point_63 : decode cX8_point 63 = .ok (.iload_n 2, 1) := by decide +kernel
theorem dX8_point_64 : decode cX8_point 64 = .ok (.iload_n 3, 1) := by decide +kernel
theorem dX8_point_65 : decode cX8_point 65 = .ok (.iload 4, 2) := by decide +kernel
theorem dX8_point_67 : decode cX8_point 67 = .ok (.invokevirtual 126, 3) := by decide +kernel
theorem dX8_point_70 : decode cX8_point 70 = .ok (.ireturn, 1) := by decide +kernel
theorem dX8_isPoint_0 : decode cX8_isPoint 0 = .ok (.iload_n 0, 1) := by decide +kernel
theorem dX8_isPoint_1 : decode cX8_isPoint 1 = .ok (.bipush (-12), 2) := by decide +kernel
theorem dX8_isPoint_3 : decode cX8_isPoint 3 = .ok (.bipush 12, 2) := by decide +kernel
theorem dX8_isPoint_5 : decode cX8_isPoint 5 = .ok (.invokestatic 100, 3) := by decide +kernel
theorem dX8_isPoint_8 : decode cX8_isPoint 8 = .ok (.ifCond .eq 27, 3) := by decide +kernel
theorem dX8_isPoint_11 : decode cX8_isPoint 11 = .ok (.iload_n 1, 1) := by decide +kernel
theorem dX8_isPoint_12 : decode cX8_isPoint 12 = .ok (.bipush (-60), 2) := by decide +kernel
theorem dX8_isPoint_14 : decode cX8_isPoint 14 = .ok (.bipush 60, 2) := by decide +kernel
theorem dX8_isPoint_16 : decode cX8_isPoint 16 = .ok (.invokestatic 100, 3) := by decide +kernel
theorem dX8_isPoint_19 : decode cX8_isPoint 19 = .ok (.ifCond .eq 16, 3) := by decide +kernel
theorem dX8_isPoint_22 : decode cX8_isPoint 22 = .ok (.iload_n 2, 1) := by decide +kernel
theorem dX8_isPoint_23 : decode cX8_isPoint 23 = .ok (.iconst 1, 1) := by decide +kernel
theorem dX8_isPoint_24 : decode cX8_isPoint 24 = .ok (.iconst 4, 1) := by decide +kernel
theorem dX8_isPoint_25 : decode cX8_isPoint 25 = .ok (.invokestatic 100, 3) := by decide +kernel
theorem dX8_isPoint_28 : decode cX8_isPoint 28 = .ok (.ifCond .eq 7, 3) := by decide +kernel
theorem dX8_isPoint_31 : decode cX8_isPoint 31 = .ok (.iconst 1, 1) := by decide +kernel
theorem dX8_isPoint_32 : decode cX8_isPoint 32 = .ok (.goto 4, 3) := by decide +kernel
theorem dX8_isPoint_35 : decode cX8_isPoint 35 = .ok (.iconst 0, 1) := by decide +kernel
theorem dX8_isPoint_36 : decode cX8_isPoint 36 = .ok (.ireturn, 1) := by decide +kernel
theorem dX8_hasPlace_0 : decode cX8_hasPlace 0 = .ok (.iconst 0, 1) := by decide +kernel
theorem dX8_hasPlace_1 : decode cX8_hasPlace 1 = .ok (.istore_n 3, 1) := by decide +kernel
theorem dX8_hasPlace_2 : decode cX8_hasPlace 2 = .ok (.iconst 0, 1) := by decide +kernel
theorem dX8_hasPlace_3 : decode cX8_hasPlace 3 = .ok (.istore 4, 2) := by decide +kernel
theorem dX8_hasPlace_5 : decode cX8_hasPlace 5 = .ok (.iload 4, 2) := by decide +kernel
theorem dX8_hasPlace_7 : decode cX8_hasPlace 7 = .ok (.aload_n 0, 1) := by decide +kernel
theorem dX8_hasPlace_8 : decode cX8_hasPlace 8 = .ok (.getfield 7, 3) := by decide +kernel
theorem dX8_hasPlace_11 : decode cX8_hasPlace 11 = .ok (.iload_n 1, 1) := by decide +kernel
theorem dX8_hasPlace_12 : decode cX8_hasPlace 12 = .ok (.iaload, 1) := by decide +kernel
theorem dX8_hasPlace_13 : decode cX8_hasPlace 13 = .ok (.if_icmp .ge 35, 3) := by decide +kernel
theorem dX8_hasPlace_16 : decode cX8_hasPlace 16 = .ok (.iload_n 3, 1) := by decide +kernel
theorem dX8_hasPlace_17 : decode cX8_hasPlace 17 = .ok (.ifCond .ne 19, 3) := by decide +kernel
theorem dX8_hasPlace_20 : decode cX8_hasPlace 20 = .ok (.aload_n 0, 1) := by decide +kernel
theorem dX8_hasPlace_21 : decode cX8_hasPlace 21 = .ok (.getfield 13, 3) := by decide +kernel
theorem dX8_hasPlace_24 : decode cX8_hasPlace 24 = .ok (.bipush 12, 2) := by decide +kernel
theorem dX8_hasPlace_26 : decode cX8_hasPlace 26 = .ok (.iload_n 1, 1) := by decide +kernel
theorem dX8_hasPlace_27 : decode cX8_hasPlace 27 = .ok (.imul, 1) := by decide +kernel
theorem dX8_hasPlace_28 : decode cX8_hasPlace 28 = .ok (.iload 4, 2) := by decide +kernel
theorem dX8_hasPlace_30 : decode cX8_hasPlace 30 = .ok (.iadd, 1) := by decide +kernel
theorem dX8_hasPlace_31 : decode cX8_hasPlace 31 = .ok (.iaload, 1) := by decide +kernel
theorem dX8_hasPlace_32 : decode cX8_hasPlace 32 = .ok (.iload_n 2, 1) := by decide +kernel
theorem dX8_hasPlace_33 : decode cX8_hasPlace 33 = .ok (.if_icmp .ne 7, 3) := by decide +kernel
theorem dX8_hasPlace_36 : decode cX8_hasPlace 36 = .ok (.iconst 1, 1) := by decide +kernel
theorem dX8_hasPlace_37 : decode cX8_hasPlace 37 = .ok (.goto 4, 3) := by decide +kernel
theorem dX8_hasPlace_40 : decode cX8_hasPlace 40 = .ok (.iconst 0, 1) := by decide +kernel
theorem dX8_hasPlace_41 : decode cX8_hasPlace 41 = .ok (.istore_n 3, 1) := by decide +kernel
theorem dX8_hasPlace_42 : decode cX8_hasPlace 42 = .ok (.iinc 4 1, 3) := by decide +kernel
theorem dX8_hasPlace_45 : decode cX8_hasPlace 45 = .ok (.goto (-40), 3) := by decide +kernel
theorem dX8_hasPlace_48 : decode cX8_hasPlace 48 = .ok (.iload_n 3, 1) := by decide +kernel
theorem dX8_hasPlace_49 : decode cX8_hasPlace 49 = .ok (.ireturn, 1) := by decide +kernel
theorem dX8_comes_0 : decode cX8_comes 0 = .ok (.bipush 12, 2) := by decide +kernel
theorem dX8_comes_2 : decode cX8_comes 2 = .ok (.iload_n 1, 1) := by decide +kernel
theorem dX8_comes_3 : decode cX8_comes 3 = .ok (.imul, 1) := by decide +kernel
theorem dX8_comes_4 : decode cX8_comes 4 = .ok (.aload_n 0, 1) := by decide +kernel
theorem dX8_comes_5 : decode cX8_comes 5 = .ok (.getfield 7, 3) := by decide +kernel
theorem dX8_comes_8 : decode cX8_comes 8 = .ok (.iload_n 1, 1) := by decide +kernel
theorem dX8_comes_9 : decode cX8_comes 9 = .ok (.iaload, 1) := by decide +kernel
theorem dX8_comes_10 : decode cX8_comes 10 = .ok (.iadd, 1) := by decide +kernel
theorem dX8_comes_11 : decode cX8_comes 11 = .ok (.istore 5, 2) := by decide +kernel
theorem dX8_comes_13 : decode cX8_comes 13 = .ok (.aload_n 0, 1) := by decide +kernel
theorem dX8_comes_14 : decode cX8_comes 14 = .ok (.getfield 7, 3) := by decide +kernel
theorem dX8_comes_17 : decode cX8_comes 17 = .ok (.iload_n 1, 1) := by decide +kernel
theorem dX8_comes_18 : decode cX8_comes 18 = .ok (.dup2, 1) := by decide +kernel
theorem dX8_comes_19 : decode cX8_comes 19 = .ok (.iaload, 1) := by decide +kernel
theorem dX8_comes_20 : decode cX8_comes 20 = .ok (.iconst 1, 1) := by decide +kernel
theorem dX8_comes_21 : decode cX8_comes 21 = .ok (.iadd, 1) := by decide +kernel
theorem dX8_comes_22 : decode cX8_comes 22 = .ok (.iastore, 1) := by decide +kernel
theorem dX8_comes_23 : decode cX8_comes 23 = .ok (.iload 5, 2) := by decide +kernel
theorem dX8_comes_25 : decode cX8_comes 25 = .ok (.bipush 12, 2) := by decide +kernel
theorem dX8_comes_27 : decode cX8_comes 27 = .ok (.iload_n 1, 1) := by decide +kernel
theorem dX8_comes_28 : decode cX8_comes 28 = .ok (.imul, 1) := by decide +kernel
theorem dX8_comes_29 : decode cX8_comes 29 = .ok (.if_icmp .le 70, 3) := by decide +kernel
theorem dX8_comes_32 : decode cX8_comes 32 = .ok (.aload_n 0, 1) := by decide +kernel
theorem dX8_comes_33 : decode cX8_comes 33 = .ok (.getfield 13, 3) := by decide +kernel
theorem dX8_comes_36 : decode cX8_comes 36 = .ok (.iload 5, 2) := by decide +kernel
theorem dX8_comes_38 : decode cX8_comes 38 = .ok (.iconst 1, 1) := by decide +kernel
theorem dX8_comes_39 : decode cX8_comes 39 = .ok (.isub, 1) := by decide +kernel
theorem dX8_comes_40 : decode cX8_comes 40 = .ok (.iaload, 1) := by decide +kernel
theorem dX8_comes_41 : decode cX8_comes 41 = .ok (.iload_n 2, 1) := by decide +kernel
theorem dX8_comes_42 : decode cX8_comes 42 = .ok (.if_icmp .le 57, 3) := by decide +kernel
theorem dX8_comes_45 : decode cX8_comes 45 = .ok (.aload_n 0, 1) := by decide +kernel
theorem dX8_comes_46 : decode cX8_comes 46 = .ok (.getfield 13, 3) := by decide +kernel
theorem dX8_comes_49 : decode cX8_comes 49 = .ok (.iload 5, 2) := by decide +kernel
theorem dX8_comes_51 : decode cX8_comes 51 = .ok (.aload_n 0, 1) := by decide +kernel
theorem dX8_comes_52 : decode cX8_comes 52 = .ok (.getfield 13, 3) := by decide +kernel
theorem dX8_comes_55 : decode cX8_comes 55 = .ok (.iload 5, 2) := by decide +kernel
theorem dX8_comes_57 : decode cX8_comes 57 = .ok (.iconst 1, 1) := by decide +kernel
theorem dX8_comes_58 : decode cX8_comes 58 = .ok (.isub, 1) := by decide +kernel
theorem dX8_comes_59 : decode cX8_comes 59 = .ok (.iaload, 1) := by decide +kernel
theorem dX8_comes_60 : decode cX8_comes 60 = .ok (.iastore, 1) := by decide +kernel
theorem dX8_comes_61 : decode cX8_comes 61 = .ok (.aload_n 0, 1) := by decide +kernel
theorem dX8_comes_62 : decode cX8_comes 62 = .ok (.getfield 16, 3) := by decide +kernel
theorem dX8_comes_65 : decode cX8_comes 65 = .ok (.iload 5, 2) := by decide +kernel
theorem dX8_comes_67 : decode cX8_comes 67 = .ok (.aload_n 0, 1) := by decide +kernel
theorem dX8_comes_68 : decode cX8_comes 68 = .ok (.getfield 16, 3) := by decide +kernel
theorem dX8_comes_71 : decode cX8_comes 71 = .ok (.iload 5, 2) := by decide +kernel
theorem dX8_comes_73 : decode cX8_comes 73 = .ok (.iconst 1, 1) := by decide +kernel
theorem dX8_comes_74 : decode cX8_comes 74 = .ok (.isub, 1) := by decide +kernel
theorem dX8_comes_75 : decode cX8_comes 75 = .ok (.iaload, 1) := by decide +kernel
theorem dX8_comes_76 : decode cX8_comes 76 = .ok (.iastore, 1) := by decide +kernel
theorem dX8_comes_77 : decode cX8_comes 77 = .ok (.aload_n 0, 1) := by decide +kernel
theorem dX8_comes_78 : decode cX8_comes 78 = .ok (.getfield 19, 3) := by decide +kernel
theorem dX8_comes_81 : decode cX8_comes 81 = .ok (.iload 5, 2) := by decide +kernel
theorem dX8_comes_83 : decode cX8_comes 83 = .ok (.aload_n 0, 1) := by decide +kernel
theorem dX8_comes_84 : decode cX8_comes 84 = .ok (.getfield 19, 3) := by decide +kernel
theorem dX8_comes_87 : decode cX8_comes 87 = .ok (.iload 5, 2) := by decide +kernel
theorem dX8_comes_89 : decode cX8_comes 89 = .ok (.iconst 1, 1) := by decide +kernel
theorem dX8_comes_90 : decode cX8_comes 90 = .ok (.isub, 1) := by decide +kernel
theorem dX8_comes_91 : decode cX8_comes 91 = .ok (.iaload, 1) := by decide +kernel
theorem dX8_comes_92 : decode cX8_comes 92 = .ok (.iastore, 1) := by decide +kernel
theorem dX8_comes_93 : decode cX8_comes 93 = .ok (.iinc 5 (-1), 3) := by decide +kernel
theorem dX8_comes_96 : decode cX8_comes 96 = .ok (.goto (-73), 3) := by decide +kernel
theorem dX8_comes_99 : decode cX8_comes 99 = .ok (.aload_n 0, 1) := by decide +kernel
theorem dX8_comes_100 : decode cX8_comes 100 = .ok (.getfield 13, 3) := by decide +kernel
theorem dX8_comes_103 : decode cX8_comes 103 = .ok (.iload 5, 2) := by decide +kernel
theorem dX8_comes_105 : decode cX8_comes 105 = .ok (.iload_n 2, 1) := by decide +kernel
theorem dX8_comes_106 : decode cX8_comes 106 = .ok (.iastore, 1) := by decide +kernel
theorem dX8_comes_107 : decode cX8_comes 107 = .ok (.aload_n 0, 1) := by decide +kernel
theorem dX8_comes_108 : decode cX8_comes 108 = .ok (.getfield 16, 3) := by decide +kernel
theorem dX8_comes_111 : decode cX8_comes 111 = .ok (.iload 5, 2) := by decide +kernel
theorem dX8_comes_113 : decode cX8_comes 113 = .ok (.iload_n 3, 1) := by decide +kernel
theorem dX8_comes_114 : decode cX8_comes 114 = .ok (.iastore, 1) := by decide +kernel
theorem dX8_comes_115 : decode cX8_comes 115 = .ok (.aload_n 0, 1) := by decide +kernel
theorem dX8_comes_116 : decode cX8_comes 116 = .ok (.getfield 19, 3) := by decide +kernel
theorem dX8_comes_119 : decode cX8_comes 119 = .ok (.iload 5, 2) := by decide +kernel
theorem dX8_comes_121 : decode cX8_comes 121 = .ok (.iload 4, 2) := by decide +kernel
theorem dX8_comes_123 : decode cX8_comes 123 = .ok (.iastore, 1) := by decide +kernel
theorem dX8_comes_124 : decode cX8_comes 124 = .ok (.aload_n 0, 1) := by decide +kernel
theorem dX8_comes_125 : decode cX8_comes 125 = .ok (.aload_n 0, 1) := by decide +kernel
theorem dX8_comes_126 : decode cX8_comes 126 = .ok (.getfield 7, 3) := by decide +kernel
theorem dX8_comes_129 : decode cX8_comes 129 = .ok (.iload_n 1, 1) := by decide +kernel
theorem dX8_comes_130 : decode cX8_comes 130 = .ok (.iaload, 1) := by decide +kernel
theorem dX8_comes_131 : decode cX8_comes 131 = .ok (.invokevirtual 130, 3) := by decide +kernel
theorem dX8_comes_134 : decode cX8_comes 134 = .ok (.ireturn, 1) := by decide +kernel
theorem dX8_take_0 : decode cX8_take 0 = .ok (.iload_n 1, 1) := by decide +kernel
theorem dX8_take_1 : decode cX8_take 1 = .ok (.iconst 0, 1) := by decide +kernel
theorem dX8_take_2 : decode cX8_take 2 = .ok (.iconst 5, 1) := by decide +kernel
theorem dX8_take_3 : decode cX8_take 3 = .ok (.invokestatic 100, 3) := by decide +kernel
theorem dX8_take_6 : decode cX8_take 6 = .ok (.ifCond .eq 19, 3) := by decide +kernel
theorem dX8_take_9 : decode cX8_take 9 = .ok (.iload_n 2, 1) := by decide +kernel
theorem dX8_take_10 : decode cX8_take 10 = .ok (.iconst 0, 1) := by decide +kernel
theorem dX8_take_11 : decode cX8_take 11 = .ok (.aload_n 0, 1) := by decide +kernel
theorem dX8_take_12 : decode cX8_take 12 = .ok (.getfield 7, 3) := by decide +kernel
theorem dX8_take_15 : decode cX8_take 15 = .ok (.iload_n 1, 1) := by decide +kernel
theorem dX8_take_16 : decode cX8_take 16 = .ok (.iaload, 1) := by decide +kernel
theorem dX8_take_17 : decode cX8_take 17 = .ok (.iconst 1, 1) := by decide +kernel
theorem dX8_take_18 : decode cX8_take 18 = .ok (.isub, 1) := by decide +kernel
theorem dX8_take_19 : decode cX8_take 19 = .ok (.invokestatic 100, 3) := by decide +kernel
theorem dX8_take_22 : decode cX8_take 22 = .ok (.ifCond .ne 9, 3) := by decide +kernel
theorem dX8_take_25 : decode cX8_take 25 = .ok (.aload_n 0, 1) := by decide +kernel
theorem dX8_take_26 : decode cX8_take 26 = .ok (.iconst 1, 1) := by decide +kernel
theorem dX8_take_27 : decode cX8_take 27 = .ok (.invokevirtual 118, 3) := by decide +kernel
theorem dX8_take_30 : decode cX8_take 30 = .ok (.ireturn, 1) := by decide +kernel
theorem dX8_take_31 : decode cX8_take 31 = .ok (.aload_n 0, 1) := by decide +kernel
theorem dX8_take_32 : decode cX8_take 32 = .ok (.getfield 7, 3) := by decide +kernel
theorem dX8_take_35 : decode cX8_take 35 = .ok (.iload_n 1, 1) := by decide +kernel
theorem dX8_take_36 : decode cX8_take 36 = .ok (.dup2, 1) := by decide +kernel
theorem dX8_take_37 : decode cX8_take 37 = .ok (.iaload, 1) := by decide +kernel
theorem dX8_take_38 : decode cX8_take 38 = .ok (.iconst 1, 1) := by decide +kernel
theorem dX8_take_39 : decode cX8_take 39 = .ok (.isub, 1) := by decide +kernel
theorem dX8_take_40 : decode cX8_take 40 = .ok (.iastore, 1) := by decide +kernel
theorem dX8_take_41 : decode cX8_take 41 = .ok (.bipush 12, 2) := by decide +kernel
theorem dX8_take_43 : decode cX8_take 43 = .ok (.iload_n 1, 1) := by decide +kernel
theorem dX8_take_44 : decode cX8_take 44 = .ok (.imul, 1) := by decide +kernel
theorem dX8_take_45 : decode cX8_take 45 = .ok (.iload_n 2, 1) := by decide +kernel
theorem dX8_take_46 : decode cX8_take 46 = .ok (.iadd, 1) := by decide +kernel
theorem dX8_take_47 : decode cX8_take 47 = .ok (.istore_n 3, 1) := by decide +kernel
theorem dX8_take_48 : decode cX8_take 48 = .ok (.iload_n 3, 1) := by decide +kernel
theorem dX8_take_49 : decode cX8_take 49 = .ok (.bipush 12, 2) := by decide +kernel
theorem dX8_take_51 : decode cX8_take 51 = .ok (.iload_n 1, 1) := by decide +kernel
theorem dX8_take_52 : decode cX8_take 52 = .ok (.imul, 1) := by decide +kernel
theorem dX8_take_53 : decode cX8_take 53 = .ok (.aload_n 0, 1) := by decide +kernel
theorem dX8_take_54 : decode cX8_take 54 = .ok (.getfield 7, 3) := by decide +kernel
theorem dX8_take_57 : decode cX8_take 57 = .ok (.iload_n 1, 1) := by decide +kernel
theorem dX8_take_58 : decode cX8_take 58 = .ok (.iaload, 1) := by decide +kernel
theorem dX8_take_59 : decode cX8_take 59 = .ok (.iadd, 1) := by decide +kernel
theorem dX8_take_60 : decode cX8_take 60 = .ok (.if_icmp .ge 51, 3) := by decide +kernel
theorem dX8_take_63 : decode cX8_take 63 = .ok (.aload_n 0, 1) := by decide +kernel
theorem dX8_take_64 : decode cX8_take 64 = .ok (.getfield 13, 3) := by decide +kernel
theorem dX8_take_67 : decode cX8_take 67 = .ok (.iload_n 3, 1) := by decide +kernel
theorem dX8_take_68 : decode cX8_take 68 = .ok (.aload_n 0, 1) := by decide +kernel
theorem dX8_take_69 : decode cX8_take 69 = .ok (.getfield 13, 3) := by decide +kernel
theorem dX8_take_72 : decode cX8_take 72 = .ok (.iload_n 3, 1) := by decide +kernel
theorem dX8_take_73 : decode cX8_take 73 = .ok (.iconst 1, 1) := by decide +kernel
theorem dX8_take_74 : decode cX8_take 74 = .ok (.iadd, 1) := by decide +kernel
theorem dX8_take_75 : decode cX8_take 75 = .ok (.iaload, 1) := by decide +kernel
theorem dX8_take_76 : decode cX8_take 76 = .ok (.iastore, 1) := by decide +kernel
theorem dX8_take_77 : decode cX8_take 77 = .ok (.aload_n 0, 1) := by decide +kernel
theorem dX8_take_78 : decode cX8_take 78 = .ok (.getfield 16, 3) := by decide +kernel
theorem dX8_take_81 : decode cX8_take 81 = .ok (.iload_n 3, 1) := by decide +kernel
theorem dX8_take_82 : decode cX8_take 82 = .ok (.aload_n 0, 1) := by decide +kernel
theorem dX8_take_83 : decode cX8_take 83 = .ok (.getfield 16, 3) := by decide +kernel
theorem dX8_take_86 : decode cX8_take 86 = .ok (.iload_n 3, 1) := by decide +kernel
theorem dX8_take_87 : decode cX8_take 87 = .ok (.iconst 1, 1) := by decide +kernel
theorem dX8_take_88 : decode cX8_take 88 = .ok (.iadd, 1) := by decide +kernel
theorem dX8_take_89 : decode cX8_take 89 = .ok (.iaload, 1) := by decide +kernel
theorem dX8_take_90 : decode cX8_take 90 = .ok (.iastore, 1) := by decide +kernel
theorem dX8_take_91 : decode cX8_take 91 = .ok (.aload_n 0, 1) := by decide +kernel
theorem dX8_take_92 : decode cX8_take 92 = .ok (.getfield 19, 3) := by decide +kernel
theorem dX8_take_95 : decode cX8_take 95 = .ok (.iload_n 3, 1) := by decide +kernel
theorem dX8_take_96 : decode cX8_take 96 = .ok (.aload_n 0, 1) := by decide +kernel
theorem dX8_take_97 : decode cX8_take 97 = .ok (.getfield 19, 3) := by decide +kernel
theorem dX8_take_100 : decode cX8_take 100 = .ok (.iload_n 3, 1) := by decide +kernel
theorem dX8_take_101 : decode cX8_take 101 = .ok (.iconst 1, 1) := by decide +kernel
theorem dX8_take_102 : decode cX8_take 102 = .ok (.iadd, 1) := by decide +kernel
theorem dX8_take_103 : decode cX8_take 103 = .ok (.iaload, 1) := by decide +kernel
theorem dX8_take_104 : decode cX8_take 104 = .ok (.iastore, 1) := by decide +kernel
theorem dX8_take_105 : decode cX8_take 105 = .ok (.iinc 3 1, 3) := by decide +kernel
theorem dX8_take_108 : decode cX8_take 108 = .ok (.goto (-60), 3) := by decide +kernel
theorem dX8_take_111 : decode cX8_take 111 = .ok (.aload_n 0, 1) := by decide +kernel
theorem dX8_take_112 : decode cX8_take 112 = .ok (.aload_n 0, 1) := by decide +kernel
theorem dX8_take_113 : decode cX8_take 113 = .ok (.getfield 7, 3) := by decide +kernel
theorem dX8_take_116 : decode cX8_take 116 = .ok (.iload_n 1, 1) := by decide +kernel
theorem dX8_take_117 : decode cX8_take 117 = .ok (.iaload, 1) := by decide +kernel
theorem dX8_take_118 : decode cX8_take 118 = .ok (.invokevirtual 130, 3) := by decide +kernel
theorem dX8_take_121 : decode cX8_take 121 = .ok (.ireturn, 1) := by decide +kernel
theorem dX8_newFit_0 : decode cX8_newFit 0 = .ok (.aload_n 0, 1) := by decide +kernel
theorem dX8_newFit_1 : decode cX8_newFit 1 = .ok (.getfield 97, 3) := by decide +kernel
theorem dX8_newFit_4 : decode cX8_newFit 4 = .ok (.istore 4, 2) := by decide +kernel
theorem dX8_newFit_6 : decode cX8_newFit 6 = .ok (.aload_n 0, 1) := by decide +kernel
theorem dX8_newFit_7 : decode cX8_newFit 7 = .ok (.dup, 1) := by decide +kernel
theorem dX8_newFit_8 : decode cX8_newFit 8 = .ok (.getfield 97, 3) := by decide +kernel
theorem dX8_newFit_11 : decode cX8_newFit 11 = .ok (.iconst 1, 1) := by decide +kernel
theorem dX8_newFit_12 : decode cX8_newFit 12 = .ok (.iadd, 1) := by decide +kernel
theorem dX8_newFit_13 : decode cX8_newFit 13 = .ok (.putfield 97, 3) := by decide +kernel
theorem dX8_newFit_16 : decode cX8_newFit 16 = .ok (.aload_n 0, 1) := by decide +kernel
theorem dX8_newFit_17 : decode cX8_newFit 17 = .ok (.getfield 22, 3) := by decide +kernel
theorem dX8_newFit_20 : decode cX8_newFit 20 = .ok (.iload 4, 2) := by decide +kernel
theorem dX8_newFit_22 : decode cX8_newFit 22 = .ok (.iload_n 2, 1) := by decide +kernel
theorem dX8_newFit_23 : decode cX8_newFit 23 = .ok (.iastore, 1) := by decide +kernel
theorem dX8_newFit_24 : decode cX8_newFit 24 = .ok (.aload_n 0, 1) := by decide +kernel
theorem dX8_newFit_25 : decode cX8_newFit 25 = .ok (.getfield 25, 3) := by decide +kernel
theorem dX8_newFit_28 : decode cX8_newFit 28 = .ok (.iload 4, 2) := by decide +kernel
theorem dX8_newFit_30 : decode cX8_newFit 30 = .ok (.iload_n 3, 1) := by decide +kernel
theorem dX8_newFit_31 : decode cX8_newFit 31 = .ok (.iastore, 1) := by decide +kernel
theorem dX8_newFit_32 : decode cX8_newFit 32 = .ok (.aload_n 0, 1) := by decide +kernel
theorem dX8_newFit_33 : decode cX8_newFit 33 = .ok (.getfield 28, 3) := by decide +kernel
theorem dX8_newFit_36 : decode cX8_newFit 36 = .ok (.iload 4, 2) := by decide +kernel
theorem dX8_newFit_38 : decode cX8_newFit 38 = .ok (.aload_n 0, 1) := by decide +kernel
theorem dX8_newFit_39 : decode cX8_newFit 39 = .ok (.getfield 7, 3) := by decide +kernel
theorem dX8_newFit_42 : decode cX8_newFit 42 = .ok (.iload_n 1, 1) := by decide +kernel
theorem dX8_newFit_43 : decode cX8_newFit 43 = .ok (.iaload, 1) := by decide +kernel
theorem dX8_newFit_44 : decode cX8_newFit 44 = .ok (.iastore, 1) := by decide +kernel
theorem dX8_newFit_45 : decode cX8_newFit 45 = .ok (.iconst 0, 1) := by decide +kernel
theorem dX8_newFit_46 : decode cX8_newFit 46 = .ok (.istore 5, 2) := by decide +kernel
theorem dX8_newFit_48 : decode cX8_newFit 48 = .ok (.iload 5, 2) := by decide +kernel
theorem dX8_newFit_50 : decode cX8_newFit 50 = .ok (.aload_n 0, 1) := by decide +kernel
theorem dX8_newFit_51 : decode cX8_newFit 51 = .ok (.getfield 7, 3) := by decide +kernel
theorem dX8_newFit_54 : decode cX8_newFit 54 = .ok (.iload_n 1, 1) := by decide +kernel
theorem dX8_newFit_55 : decode cX8_newFit 55 = .ok (.iaload, 1) := by decide +kernel
theorem dX8_newFit_56 : decode cX8_newFit 56 = .ok (.if_icmp .ge 84, 3) := by decide +kernel
theorem dX8_newFit_59 : decode cX8_newFit 59 = .ok (.aload_n 0, 1) := by decide +kernel
theorem dX8_newFit_60 : decode cX8_newFit 60 = .ok (.getfield 31, 3) := by decide +kernel
theorem dX8_newFit_63 : decode cX8_newFit 63 = .ok (.bipush 12, 2) := by decide +kernel
theorem dX8_newFit_65 : decode cX8_newFit 65 = .ok (.iload 4, 2) := by decide +kernel
theorem dX8_newFit_67 : decode cX8_newFit 67 = .ok (.imul, 1) := by decide +kernel
theorem dX8_newFit_68 : decode cX8_newFit 68 = .ok (.iload 5, 2) := by decide +kernel
theorem dX8_newFit_70 : decode cX8_newFit 70 = .ok (.iadd, 1) := by decide +kernel
theorem dX8_newFit_71 : decode cX8_newFit 71 = .ok (.aload_n 0, 1) := by decide +kernel
theorem dX8_newFit_72 : decode cX8_newFit 72 = .ok (.getfield 13, 3) := by decide +kernel
theorem dX8_newFit_75 : decode cX8_newFit 75 = .ok (.bipush 12, 2) := by decide +kernel
theorem dX8_newFit_77 : decode cX8_newFit 77 = .ok (.iload_n 1, 1) := by decide +kernel
theorem dX8_newFit_78 : decode cX8_newFit 78 = .ok (.imul, 1) := by decide +kernel
theorem dX8_newFit_79 : decode cX8_newFit 79 = .ok (.iload 5, 2) := by decide +kernel
theorem dX8_newFit_81 : decode cX8_newFit 81 = .ok (.iadd, 1) := by decide +kernel
theorem dX8_newFit_82 : decode cX8_newFit 82 = .ok (.iaload, 1) := by decide +kernel
theorem dX8_newFit_83 : decode cX8_newFit 83 = .ok (.iastore, 1) := by decide +kernel
theorem dX8_newFit_84 : decode cX8_newFit 84 = .ok (.aload_n 0, 1) := by decide +kernel
theorem dX8_newFit_85 : decode cX8_newFit 85 = .ok (.getfield 34, 3) := by decide +kernel
theorem dX8_newFit_88 : decode cX8_newFit 88 = .ok (.bipush 12, 2) := by decide +kernel
theorem dX8_newFit_90 : decode cX8_newFit 90 = .ok (.iload 4, 2) := by decide +kernel
theorem dX8_newFit_92 : decode cX8_newFit 92 = .ok (.imul, 1) := by decide +kernel
theorem dX8_newFit_93 : decode cX8_newFit 93 = .ok (.iload 5, 2) := by decide +kernel
theorem dX8_newFit_95 : decode cX8_newFit 95 = .ok (.iadd, 1) := by decide +kernel
theorem dX8_newFit_96 : decode cX8_newFit 96 = .ok (.aload_n 0, 1) := by decide +kernel
theorem dX8_newFit_97 : decode cX8_newFit 97 = .ok (.getfield 16, 3) := by decide +kernel
theorem dX8_newFit_100 : decode cX8_newFit 100 = .ok (.bipush 12, 2) := by decide +kernel
theorem dX8_newFit_102 : decode cX8_newFit 102 = .ok (.iload_n 1, 1) := by decide +kernel
theorem dX8_newFit_103 : decode cX8_newFit 103 = .ok (.imul, 1) := by decide +kernel
theorem dX8_newFit_104 : decode cX8_newFit 104 = .ok (.iload 5, 2) := by decide +kernel
theorem dX8_newFit_106 : decode cX8_newFit 106 = .ok (.iadd, 1) := by decide +kernel
theorem dX8_newFit_107 : decode cX8_newFit 107 = .ok (.iaload, 1) := by decide +kernel
theorem dX8_newFit_108 : decode cX8_newFit 108 = .ok (.iastore, 1) := by decide +kernel
theorem dX8_newFit_109 : decode cX8_newFit 109 = .ok (.aload_n 0, 1) := by decide +kernel
theorem dX8_newFit_110 : decode cX8_newFit 110 = .ok (.getfield 37, 3) := by decide +kernel
theorem dX8_newFit_113 : decode cX8_newFit 113 = .ok (.bipush 12, 2) := by decide +kernel
theorem dX8_newFit_115 : decode cX8_newFit 115 = .ok (.iload 4, 2) := by decide +kernel
theorem dX8_newFit_117 : decode cX8_newFit 117 = .ok (.imul, 1) := by decide +kernel
theorem dX8_newFit_118 : decode cX8_newFit 118 = .ok (.iload 5, 2) := by decide +kernel
theorem dX8_newFit_120 : decode cX8_newFit 120 = .ok (.iadd, 1) := by decide +kernel
theorem dX8_newFit_121 : decode cX8_newFit 121 = .ok (.aload_n 0, 1) := by decide +kernel
theorem dX8_newFit_122 : decode cX8_newFit 122 = .ok (.getfield 19, 3) := by decide +kernel
theorem dX8_newFit_125 : decode cX8_newFit 125 = .ok (.bipush 12, 2) := by decide +kernel
theorem dX8_newFit_127 : decode cX8_newFit 127 = .ok (.iload_n 1, 1) := by decide +kernel
theorem dX8_newFit_128 : decode cX8_newFit 128 = .ok (.imul, 1) := by decide +kernel
theorem dX8_newFit_129 : decode cX8_newFit 129 = .ok (.iload 5, 2) := by decide +kernel
theorem dX8_newFit_131 : decode cX8_newFit 131 = .ok (.iadd, 1) := by decide +kernel
theorem dX8_newFit_132 : decode cX8_newFit 132 = .ok (.iaload, 1) := by decide +kernel
theorem dX8_newFit_133 : decode cX8_newFit 133 = .ok (.iastore, 1) := by decide +kernel
theorem dX8_newFit_134 : decode cX8_newFit 134 = .ok (.iinc 5 1, 3) := by decide +kernel
theorem dX8_newFit_137 : decode cX8_newFit 137 = .ok (.goto (-89), 3) := by decide +kernel
theorem dX8_newFit_140 : decode cX8_newFit 140 = .ok (.aload_n 0, 1) := by decide +kernel
theorem dX8_newFit_141 : decode cX8_newFit 141 = .ok (.getfield 40, 3) := by decide +kernel
theorem dX8_newFit_144 : decode cX8_newFit 144 = .ok (.iload 4, 2) := by decide +kernel
theorem dX8_newFit_146 : decode cX8_newFit 146 = .ok (.iconst 1, 1) := by decide +kernel
theorem dX8_newFit_147 : decode cX8_newFit 147 = .ok (.iastore, 1) := by decide +kernel
theorem dX8_newFit_148 : decode cX8_newFit 148 = .ok (.aload_n 0, 1) := by decide +kernel
theorem dX8_newFit_149 : decode cX8_newFit 149 = .ok (.getfield 43, 3) := by decide +kernel
theorem dX8_newFit_152 : decode cX8_newFit 152 = .ok (.bipush 12, 2) := by decide +kernel
theorem dX8_newFit_154 : decode cX8_newFit 154 = .ok (.iload 4, 2) := by decide +kernel
theorem dX8_newFit_156 : decode cX8_newFit 156 = .ok (.imul, 1) := by decide +kernel
theorem dX8_newFit_157 : decode cX8_newFit 157 = .ok (.iconst 0, 1) := by decide +kernel
theorem dX8_newFit_158 : decode cX8_newFit 158 = .ok (.iastore, 1) := by decide +kernel
theorem dX8_newFit_159 : decode cX8_newFit 159 = .ok (.aload_n 0, 1) := by decide +kernel
theorem dX8_newFit_160 : decode cX8_newFit 160 = .ok (.iload 4, 2) := by decide +kernel
theorem dX8_newFit_162 : decode cX8_newFit 162 = .ok (.iconst 0, 1) := by decide +kernel
theorem dX8_newFit_163 : decode cX8_newFit 163 = .ok (.iconst 0, 1) := by decide +kernel
theorem dX8_newFit_164 : decode cX8_newFit 164 = .ok (.lconst 0, 1) := by decide +kernel
theorem dX8_newFit_165 : decode cX8_newFit 165 = .ok (.lconst 1, 1) := by decide +kernel
theorem dX8_newFit_166 : decode cX8_newFit 166 = .ok (.invokevirtual 133, 3) := by decide +kernel
theorem dX8_newFit_169 : decode cX8_newFit 169 = .ok (.aload_n 0, 1) := by decide +kernel
theorem dX8_newFit_170 : decode cX8_newFit 170 = .ok (.iload 4, 2) := by decide +kernel
theorem dX8_newFit_172 : decode cX8_newFit 172 = .ok (.iconst 0, 1) := by decide +kernel
theorem dX8_newFit_173 : decode cX8_newFit 173 = .ok (.iconst 1, 1) := by decide +kernel
theorem dX8_newFit_174 : decode cX8_newFit 174 = .ok (.lconst 0, 1) := by decide +kernel
theorem dX8_newFit_175 : decode cX8_newFit 175 = .ok (.lconst 1, 1) := by decide +kernel
theorem dX8_newFit_176 : decode cX8_newFit 176 = .ok (.invokevirtual 133, 3) := by decide +kernel
theorem dX8_newFit_179 : decode cX8_newFit 179 = .ok (.aload_n 0, 1) := by decide +kernel
theorem dX8_newFit_180 : decode cX8_newFit 180 = .ok (.iload 4, 2) := by decide +kernel
theorem dX8_newFit_182 : decode cX8_newFit 182 = .ok (.iconst 0, 1) := by decide +kernel
theorem dX8_newFit_183 : decode cX8_newFit 183 = .ok (.iconst 2, 1) := by decide +kernel
theorem dX8_newFit_184 : decode cX8_newFit 184 = .ok (.lconst 0, 1) := by decide +kernel
theorem dX8_newFit_185 : decode cX8_newFit 185 = .ok (.lconst 1, 1) := by decide +kernel
theorem dX8_newFit_186 : decode cX8_newFit 186 = .ok (.invokevirtual 133, 3) := by decide +kernel
theorem dX8_newFit_189 : decode cX8_newFit 189 = .ok (.iload 4, 2) := by decide +kernel
theorem dX8_newFit_191 : decode cX8_newFit 191 = .ok (.ireturn, 1) := by decide +kernel
theorem dX8_number_0 : decode cX8_number 0 = .ok (.bipush 36, 2) := by decide +kernel
theorem dX8_number_2 : decode cX8_number 2 = .ok (.iload_n 1, 1) := by decide +kernel
theorem dX8_number_3 : decode cX8_number 3 = .ok (.imul, 1) := by decide +kernel
theorem dX8_number_4 : decode cX8_number 4 = .ok (.iconst 3, 1) := by decide +kernel
theorem dX8_number_5 : decode cX8_number 5 = .ok (.iload_n 2, 1) := by decide +kernel
theorem dX8_number_6 : decode cX8_number 6 = .ok (.imul, 1) := by decide +kernel
theorem dX8_number_7 : decode cX8_number 7 = .ok (.iadd, 1) := by decide +kernel
theorem dX8_number_8 : decode cX8_number 8 = .ok (.iload_n 3, 1) := by decide +kernel
theorem dX8_number_9 : decode cX8_number 9 = .ok (.iadd, 1) := by decide +kernel
theorem dX8_number_10 : decode cX8_number 10 = .ok (.istore 8, 2) := by decide +kernel
theorem dX8_number_12 : decode cX8_number 12 = .ok (.aload_n 0, 1) := by decide +kernel
theorem dX8_number_13 : decode cX8_number 13 = .ok (.getfield 46, 3) := by decide +kernel
theorem dX8_number_16 : decode cX8_number 16 = .ok (.iload 8, 2) := by decide +kernel
theorem dX8_number_18 : decode cX8_number 18 = .ok (.lload 4, 2) := by decide +kernel
theorem dX8_number_20 : decode cX8_number 20 = .ok (.lastore, 1) := by decide +kernel
theorem dX8_number_21 : decode cX8_number 21 = .ok (.aload_n 0, 1) := by decide +kernel
theorem dX8_number_22 : decode cX8_number 22 = .ok (.getfield 50, 3) := by decide +kernel
theorem dX8_number_25 : decode cX8_number 25 = .ok (.iload 8, 2) := by decide +kernel
theorem dX8_number_27 : decode cX8_number 27 = .ok (.lload 6, 2) := by decide +kernel
theorem dX8_number_29 : decode cX8_number 29 = .ok (.lastore, 1) := by decide +kernel
theorem dX8_number_30 : decode cX8_number 30 = .ok (.return_, 1) := by decide +kernel
theorem dX8_whyNot_0 : decode cX8_whyNot 0 = .ok (.iload_n 1, 1) := by decide +kernel
theorem dX8_whyNot_1 : decode cX8_whyNot 1 = .ok (.iconst 0, 1) := by decide +kernel
theorem dX8_whyNot_2 : decode cX8_whyNot 2 = .ok (.iconst 5, 1) := by decide +kernel
theorem dX8_whyNot_3 : decode cX8_whyNot 3 = .ok (.invokestatic 100, 3) := by decide +kernel
theorem dX8_whyNot_6 : decode cX8_whyNot 6 = .ok (.ifCond .eq 7, 3) := by decide +kernel
theorem dX8_whyNot_9 : decode cX8_whyNot 9 = .ok (.iload_n 2, 1) := by decide +kernel
theorem dX8_whyNot_10 : decode cX8_whyNot 10 = .ok (.ifCond .ne 7, 3) := by decide +kernel
theorem dX8_whyNot_13 : decode cX8_whyNot 13 = .ok (.iconst 1, 1) := by decide +kernel
theorem dX8_whyNot_14 : decode cX8_whyNot 14 = .ok (.goto 17, 3) := by decide +kernel
theorem dX8_whyNot_17 : decode cX8_whyNot 17 = .ok (.aload_n 0, 1) := by decide +kernel
theorem dX8_whyNot_18 : decode cX8_whyNot 18 = .ok (.getfield 97, 3) := by decide +kernel
theorem dX8_whyNot_21 : decode cX8_whyNot 21 = .ok (.bipush 10, 2) := by decide +kernel
theorem dX8_whyNot_23 : decode cX8_whyNot 23 = .ok (.if_icmp .ne 7, 3) := by decide +kernel
theorem dX8_whyNot_26 : decode cX8_whyNot 26 = .ok (.iconst 2, 1) := by decide +kernel
theorem dX8_whyNot_27 : decode cX8_whyNot 27 = .ok (.goto 4, 3) := by decide +kernel
theorem dX8_whyNot_30 : decode cX8_whyNot 30 = .ok (.iconst 0, 1) := by decide +kernel
theorem dX8_whyNot_31 : decode cX8_whyNot 31 = .ok (.ireturn, 1) := by decide +kernel
theorem dX8_fit_0 : decode cX8_fit 0 = .ok (.iload_n 2, 1) := by decide +kernel
theorem dX8_fit_1 : decode cX8_fit 1 = .ok (.sipush (-1000), 3) := by decide +kernel
theorem dX8_fit_4 : decode cX8_fit 4 = .ok (.sipush 1000, 3) := by decide +kernel
theorem dX8_fit_7 : decode cX8_fit 7 = .ok (.invokestatic 100, 3) := by decide +kernel
theorem dX8_fit_10 : decode cX8_fit 10 = .ok (.ifCond .eq 45, 3) := by decide +kernel
theorem dX8_fit_13 : decode cX8_fit 13 = .ok (.iload_n 3, 1) := by decide +kernel
theorem dX8_fit_14 : decode cX8_fit 14 = .ok (.sipush (-1000), 3) := by decide +kernel
theorem dX8_fit_17 : decode cX8_fit 17 = .ok (.sipush 1000, 3) := by decide +kernel
theorem dX8_fit_20 : decode cX8_fit 20 = .ok (.invokestatic 100, 3) := by decide +kernel
theorem dX8_fit_23 : decode cX8_fit 23 = .ok (.ifCond .eq 32, 3) := by decide +kernel
theorem dX8_fit_26 : decode cX8_fit 26 = .ok (.iload 4, 2) := by decide +kernel
theorem dX8_fit_28 : decode cX8_fit 28 = .ok (.sipush (-1000), 3) := by decide +kernel
theorem dX8_fit_31 : decode cX8_fit 31 = .ok (.sipush 1000, 3) := by decide +kernel
theorem dX8_fit_34 : decode cX8_fit 34 = .ok (.invokestatic 100, 3) := by decide +kernel
theorem dX8_fit_37 : decode cX8_fit 37 = .ok (.ifCond .eq 18, 3) := by decide +kernel
theorem dX8_fit_40 : decode cX8_fit 40 = .ok (.iload 5, 2) := by decide +kernel
theorem dX8_fit_42 : decode cX8_fit 42 = .ok (.iconst 1, 1) := by decide +kernel
theorem dX8_fit_43 : decode cX8_fit 43 = .ok (.bipush 60, 2) := by decide +kernel
theorem dX8_fit_45 : decode cX8_fit 45 = .ok (.invokestatic 100, 3) := by decide +kernel
theorem dX8_fit_48 : decode cX8_fit 48 = .ok (.ifCond .eq 7, 3) := by decide +kernel
theorem dX8_fit_51 : decode cX8_fit 51 = .ok (.iconst 1, 1) := by decide +kernel
theorem dX8_fit_52 : decode cX8_fit 52 = .ok (.goto 4, 3) := by decide +kernel
theorem dX8_fit_55 : decode cX8_fit 55 = .ok (.iconst 0, 1) := by decide +kernel
theorem dX8_fit_56 : decode cX8_fit 56 = .ok (.istore 6, 2) := by decide +kernel
theorem dX8_fit_58 : decode cX8_fit 58 = .ok (.aload_n 0, 1) := by decide +kernel
theorem dX8_fit_59 : decode cX8_fit 59 = .ok (.iload_n 1, 1) := by decide +kernel
theorem dX8_fit_60 : decode cX8_fit 60 = .ok (.iload 6, 2) := by decide +kernel
theorem dX8_fit_62 : decode cX8_fit 62 = .ok (.invokevirtual 137, 3) := by decide +kernel
theorem dX8_fit_65 : decode cX8_fit 65 = .ok (.istore 7, 2) := by decide +kernel
theorem dX8_fit_67 : decode cX8_fit 67 = .ok (.iload 7, 2) := by decide +kernel
theorem dX8_fit_69 : decode cX8_fit 69 = .ok (.ifCond .eq 10, 3) := by decide +kernel
theorem dX8_fit_72 : decode cX8_fit 72 = .ok (.aload_n 0, 1) := by decide +kernel
theorem dX8_fit_73 : decode cX8_fit 73 = .ok (.iload 7, 2) := by decide +kernel
theorem dX8_fit_75 : decode cX8_fit 75 = .ok (.invokevirtual 118, 3) := by decide +kernel
theorem dX8_fit_78 : decode cX8_fit 78 = .ok (.ireturn, 1) := by decide +kernel
theorem dX8_fit_79 : decode cX8_fit 79 = .ok (.aload_n 0, 1) := by decide +kernel
theorem dX8_fit_80 : decode cX8_fit 80 = .ok (.iload_n 1, 1) := by decide +kernel
theorem dX8_fit_81 : decode cX8_fit 81 = .ok (.iconst 0, 1) := by decide +kernel
theorem dX8_fit_82 : decode cX8_fit 82 = .ok (.iconst 2, 1) := by decide +kernel
theorem dX8_fit_83 : decode cX8_fit 83 = .ok (.invokevirtual 141, 3) := by decide +kernel
theorem dX8_fit_86 : decode cX8_fit 86 = .ok (.istore 8, 2) := by decide +kernel
theorem dX8_fit_88 : decode cX8_fit 88 = .ok (.aload_n 0, 1) := by decide +kernel
theorem dX8_fit_89 : decode cX8_fit 89 = .ok (.iload_n 2, 1) := by decide +kernel
theorem dX8_fit_90 : decode cX8_fit 90 = .ok (.i2l, 1) := by decide +kernel
theorem dX8_fit_91 : decode cX8_fit 91 = .ok (.iload 5, 2) := by decide +kernel
theorem dX8_fit_93 : decode cX8_fit 93 = .ok (.i2l, 1) := by decide +kernel
theorem dX8_fit_94 : decode cX8_fit 94 = .ok (.invokevirtual 111, 3) := by decide +kernel
theorem dX8_fit_97 : decode cX8_fit 97 = .ok (.aload_n 0, 1) := by decide +kernel
theorem dX8_fit_98 : decode cX8_fit 98 = .ok (.iload 8, 2) := by decide +kernel
theorem dX8_fit_100 : decode cX8_fit 100 = .ok (.iconst 0, 1) := by decide +kernel
theorem dX8_fit_101 : decode cX8_fit 101 = .ok (.iconst 0, 1) := by decide +kernel
theorem dX8_fit_102 : decode cX8_fit 102 = .ok (.aload_n 0, 1) := by decide +kernel
theorem dX8_fit_103 : decode cX8_fit 103 = .ok (.getfield 108, 3) := by decide +kernel
theorem dX8_fit_106 : decode cX8_fit 106 = .ok (.aload_n 0, 1) := by decide +kernel
theorem dX8_fit_107 : decode cX8_fit 107 = .ok (.getfield 65, 3) := by decide +kernel
theorem dX8_fit_110 : decode cX8_fit 110 = .ok (.invokevirtual 133, 3) := by decide +kernel
theorem dX8_fit_113 : decode cX8_fit 113 = .ok (.aload_n 0, 1) := by decide +kernel
theorem dX8_fit_114 : decode cX8_fit 114 = .ok (.iload_n 3, 1) := by decide +kernel
theorem dX8_fit_115 : decode cX8_fit 115 = .ok (.i2l, 1) := by decide +kernel
theorem dX8_fit_116 : decode cX8_fit 116 = .ok (.iload 5, 2) := by decide +kernel
theorem dX8_fit_118 : decode cX8_fit 118 = .ok (.i2l, 1) := by decide +kernel
theorem dX8_fit_119 : decode cX8_fit 119 = .ok (.invokevirtual 111, 3) := by decide +kernel
theorem dX8_fit_122 : decode cX8_fit 122 = .ok (.aload_n 0, 1) := by decide +kernel
theorem dX8_fit_123 : decode cX8_fit 123 = .ok (.iload 8, 2) := by decide +kernel
theorem dX8_fit_125 : decode cX8_fit 125 = .ok (.iconst 0, 1) := by decide +kernel
theorem dX8_fit_126 : decode cX8_fit 126 = .ok (.iconst 1, 1) := by decide +kernel
theorem dX8_fit_127 : decode cX8_fit 127 = .ok (.aload_n 0, 1) := by decide +kernel
theorem dX8_fit_128 : decode cX8_fit 128 = .ok (.getfield 108, 3) := by decide +kernel
theorem dX8_fit_131 : decode cX8_fit 131 = .ok (.aload_n 0, 1) := by decide +kernel
theorem dX8_fit_132 : decode cX8_fit 132 = .ok (.getfield 65, 3) := by decide +kernel
theorem dX8_fit_135 : decode cX8_fit 135 = .ok (.invokevirtual 133, 3) := by decide +kernel
theorem dX8_fit_138 : decode cX8_fit 138 = .ok (.aload_n 0, 1) := by decide +kernel
theorem dX8_fit_139 : decode cX8_fit 139 = .ok (.iload 4, 2) := by decide +kernel
theorem dX8_fit_141 : decode cX8_fit 141 = .ok (.i2l, 1) := by decide +kernel
theorem dX8_fit_142 : decode cX8_fit 142 = .ok (.iload 5, 2) := by decide +kernel
theorem dX8_fit_144 : decode cX8_fit 144 = .ok (.i2l, 1) := by decide +kernel
theorem dX8_fit_145 : decode cX8_fit 145 = .ok (.invokevirtual 111, 3) := by decide +kernel
theorem dX8_fit_148 : decode cX8_fit 148 = .ok (.aload_n 0, 1) := by decide +kernel
theorem dX8_fit_149 : decode cX8_fit 149 = .ok (.iload 8, 2) := by decide +kernel
theorem dX8_fit_151 : decode cX8_fit 151 = .ok (.iconst 0, 1) := by decide +kernel
theorem dX8_fit_152 : decode cX8_fit 152 = .ok (.iconst 2, 1) := by decide +kernel
theorem dX8_fit_153 : decode cX8_fit 153 = .ok (.aload_n 0, 1) := by decide +kernel
theorem dX8_fit_154 : decode cX8_fit 154 = .ok (.getfield 108, 3) := by decide +kernel
theorem dX8_fit_157 : decode cX8_fit 157 = .ok (.aload_n 0, 1) := by decide +kernel
theorem dX8_fit_158 : decode cX8_fit 158 = .ok (.getfield 65, 3) := by decide +kernel
theorem dX8_fit_161 : decode cX8_fit 161 = .ok (.invokevirtual 133, 3) := by decide +kernel
theorem dX8_fit_164 : decode cX8_fit 164 = .ok (.aload_n 0, 1) := by decide +kernel
theorem dX8_fit_165 : decode cX8_fit 165 = .ok (.iload 8, 2) := by decide +kernel
theorem dX8_fit_167 : decode cX8_fit 167 = .ok (.invokevirtual 130, 3) := by decide +kernel
theorem dX8_fit_170 : decode cX8_fit 170 = .ok (.ireturn, 1) := by decide +kernel
theorem dX8_argument_0 : decode cX8_argument 0 = .ok (.iload_n 0, 1) := by decide +kernel
theorem dX8_argument_1 : decode cX8_argument 1 = .ok (.iconst 2, 1) := by decide +kernel
theorem dX8_argument_2 : decode cX8_argument 2 = .ok (.if_icmp .ne 11, 3) := by decide +kernel
theorem dX8_argument_5 : decode cX8_argument 5 = .ok (.iload_n 1, 1) := by decide +kernel
theorem dX8_argument_6 : decode cX8_argument 6 = .ok (.i2l, 1) := by decide +kernel
theorem dX8_argument_7 : decode cX8_argument 7 = .ok (.iload_n 1, 1) := by decide +kernel
theorem dX8_argument_8 : decode cX8_argument 8 = .ok (.i2l, 1) := by decide +kernel
theorem dX8_argument_9 : decode cX8_argument 9 = .ok (.lmul, 1) := by decide +kernel
theorem dX8_argument_10 : decode cX8_argument 10 = .ok (.goto 5, 3) := by decide +kernel
theorem dX8_argument_13 : decode cX8_argument 13 = .ok (.iload_n 1, 1) := by decide +kernel
theorem dX8_argument_14 : decode cX8_argument 14 = .ok (.i2l, 1) := by decide +kernel
theorem dX8_argument_15 : decode cX8_argument 15 = .ok (.lreturn, 1) := by decide +kernel
theorem dX8_t_0 : decode cX8_t 0 = .ok (.aload_n 0, 1) := by decide +kernel
theorem dX8_t_1 : decode cX8_t 1 = .ok (.getfield 22, 3) := by decide +kernel
theorem dX8_t_4 : decode cX8_t 4 = .ok (.iload_n 1, 1) := by decide +kernel
theorem dX8_t_5 : decode cX8_t 5 = .ok (.iaload, 1) := by decide +kernel
theorem dX8_t_6 : decode cX8_t 6 = .ok (.aload_n 0, 1) := by decide +kernel
theorem dX8_t_7 : decode cX8_t 7 = .ok (.getfield 31, 3) := by decide +kernel
theorem dX8_t_10 : decode cX8_t 10 = .ok (.bipush 12, 2) := by decide +kernel
theorem dX8_t_12 : decode cX8_t 12 = .ok (.iload_n 1, 1) := by decide +kernel
theorem dX8_t_13 : decode cX8_t 13 = .ok (.imul, 1) := by decide +kernel
theorem dX8_t_14 : decode cX8_t 14 = .ok (.aload_n 0, 1) := by decide +kernel
theorem dX8_t_15 : decode cX8_t 15 = .ok (.getfield 69, 3) := by decide +kernel
theorem dX8_t_18 : decode cX8_t 18 = .ok (.iload_n 2, 1) := by decide +kernel
theorem dX8_t_19 : decode cX8_t 19 = .ok (.iaload, 1) := by decide +kernel
theorem dX8_t_20 : decode cX8_t 20 = .ok (.iadd, 1) := by decide +kernel
theorem dX8_t_21 : decode cX8_t 21 = .ok (.iaload, 1) := by decide +kernel
theorem dX8_t_22 : decode cX8_t 22 = .ok (.invokestatic 145, 3) := by decide +kernel
theorem dX8_t_25 : decode cX8_t 25 = .ok (.lreturn, 1) := by decide +kernel
theorem dX8_findHigh_0 : decode cX8_findHigh 0 = .ok (.lconst 0, 1) := by decide +kernel
theorem dX8_findHigh_1 : decode cX8_findHigh 1 = .ok (.lstore_n 3, 1) := by decide +kernel
theorem dX8_findHigh_2 : decode cX8_findHigh 2 = .ok (.lconst 0, 1) := by decide +kernel
theorem dX8_findHigh_3 : decode cX8_findHigh 3 = .ok (.lstore 5, 2) := by decide +kernel
theorem dX8_findHigh_5 : decode cX8_findHigh 5 = .ok (.iconst 0, 1) := by decide +kernel
theorem dX8_findHigh_6 : decode cX8_findHigh 6 = .ok (.istore 7, 2) := by decide +kernel
theorem dX8_findHigh_8 : decode cX8_findHigh 8 = .ok (.iload 7, 2) := by decide +kernel
theorem dX8_findHigh_10 : decode cX8_findHigh 10 = .ok (.iload_n 2, 1) := by decide +kernel
theorem dX8_findHigh_11 : decode cX8_findHigh 11 = .ok (.if_icmp .ge 147, 3) := by decide +kernel
theorem dX8_findHigh_14 : decode cX8_findHigh 14 = .ok (.lconst 1, 1) := by decide +kernel
theorem dX8_findHigh_15 : decode cX8_findHigh 15 = .ok (.lstore 8, 2) := by decide +kernel
theorem dX8_findHigh_17 : decode cX8_findHigh 17 = .ok (.iconst 0, 1) := by decide +kernel
theorem dX8_findHigh_18 : decode cX8_findHigh 18 = .ok (.istore 10, 2) := by decide +kernel
theorem dX8_findHigh_20 : decode cX8_findHigh 20 = .ok (.iload 10, 2) := by decide +kernel
theorem dX8_findHigh_22 : decode cX8_findHigh 22 = .ok (.iload_n 2, 1) := by decide +kernel
theorem dX8_findHigh_23 : decode cX8_findHigh 23 = .ok (.if_icmp .ge 65, 3) := by decide +kernel
theorem dX8_findHigh_26 : decode cX8_findHigh 26 = .ok (.iload 10, 2) := by decide +kernel
theorem dX8_findHigh_28 : decode cX8_findHigh 28 = .ok (.iconst 1, 1) := by decide +kernel
theorem dX8_findHigh_29 : decode cX8_findHigh 29 = .ok (.iadd, 1) := by decide +kernel
theorem dX8_findHigh_30 : decode cX8_findHigh 30 = .ok (.istore 11, 2) := by decide +kernel
theorem dX8_findHigh_32 : decode cX8_findHigh 32 = .ok (.iload 11, 2) := by decide +kernel
theorem dX8_findHigh_34 : decode cX8_findHigh 34 = .ok (.iload_n 2, 1) := by decide +kernel
theorem dX8_findHigh_35 : decode cX8_findHigh 35 = .ok (.if_icmp .ge 47, 3) := by decide +kernel
theorem dX8_findHigh_38 : decode cX8_findHigh 38 = .ok (.lload 8, 2) := by decide +kernel
theorem dX8_findHigh_40 : decode cX8_findHigh 40 = .ok (.iload 10, 2) := by decide +kernel
theorem dX8_findHigh_42 : decode cX8_findHigh 42 = .ok (.iload 7, 2) := by decide +kernel
theorem dX8_findHigh_44 : decode cX8_findHigh 44 = .ok (.if_icmp .eq 28, 3) := by decide +kernel
theorem dX8_findHigh_47 : decode cX8_findHigh 47 = .ok (.iload 11, 2) := by decide +kernel
theorem dX8_findHigh_49 : decode cX8_findHigh 49 = .ok (.iload 7, 2) := by decide +kernel
theorem dX8_findHigh_51 : decode cX8_findHigh 51 = .ok (.if_icmp .eq 21, 3) := by decide +kernel
theorem dX8_findHigh_54 : decode cX8_findHigh 54 = .ok (.aload_n 0, 1) := by decide +kernel
theorem dX8_findHigh_55 : decode cX8_findHigh 55 = .ok (.iload_n 1, 1) := by decide +kernel
theorem dX8_findHigh_56 : decode cX8_findHigh 56 = .ok (.iload 11, 2) := by decide +kernel
theorem dX8_findHigh_58 : decode cX8_findHigh 58 = .ok (.invokevirtual 149, 3) := by decide +kernel
theorem dX8_findHigh_61 : decode cX8_findHigh 61 = .ok (.aload_n 0, 1) := by decide +kernel
theorem dX8_findHigh_62 : decode cX8_findHigh 62 = .ok (.iload_n 1, 1) := by decide +kernel
theorem dX8_findHigh_63 : decode cX8_findHigh 63 = .ok (.iload 10, 2) := by decide +kernel
theorem dX8_findHigh_65 : decode cX8_findHigh 65 = .ok (.invokevirtual 149, 3) := by decide +kernel
theorem dX8_findHigh_68 : decode cX8_findHigh 68 = .ok (.lsub, 1) := by decide +kernel
theorem dX8_findHigh_69 : decode cX8_findHigh 69 = .ok (.goto 4, 3) := by decide +kernel
theorem dX8_findHigh_72 : decode cX8_findHigh 72 = .ok (.lconst 1, 1) := by decide +kernel
theorem dX8_findHigh_73 : decode cX8_findHigh 73 = .ok (.lmul, 1) := by decide +kernel
theorem dX8_findHigh_74 : decode cX8_findHigh 74 = .ok (.lstore 8, 2) := by decide +kernel
theorem dX8_findHigh_76 : decode cX8_findHigh 76 = .ok (.iinc 11 1, 3) := by decide +kernel
theorem dX8_findHigh_79 : decode cX8_findHigh 79 = .ok (.goto (-47), 3) := by decide +kernel
theorem dX8_findHigh_82 : decode cX8_findHigh 82 = .ok (.iinc 10 1, 3) := by decide +kernel
theorem dX8_findHigh_85 : decode cX8_findHigh 85 = .ok (.goto (-65), 3) := by decide +kernel
theorem dX8_findHigh_88 : decode cX8_findHigh 88 = .ok (.bipush 12, 2) := by decide +kernel
theorem dX8_findHigh_90 : decode cX8_findHigh 90 = .ok (.iload_n 1, 1) := by decide +kernel
theorem dX8_findHigh_91 : decode cX8_findHigh 91 = .ok (.imul, 1) := by decide +kernel
theorem dX8_findHigh_92 : decode cX8_findHigh 92 = .ok (.aload_n 0, 1) := by decide +kernel
theorem dX8_findHigh_93 : decode cX8_findHigh 93 = .ok (.getfield 69, 3) := by decide +kernel
theorem dX8_findHigh_96 : decode cX8_findHigh 96 = .ok (.iload 7, 2) := by decide +kernel
theorem dX8_findHigh_98 : decode cX8_findHigh 98 = .ok (.iaload, 1) := by decide +kernel
theorem dX8_findHigh_99 : decode cX8_findHigh 99 = .ok (.iadd, 1) := by decide +kernel
theorem dX8_findHigh_100 : decode cX8_findHigh 100 = .ok (.istore 10, 2) := by decide +kernel
theorem dX8_findHigh_102 : decode cX8_findHigh 102 = .ok (.lload_n 3, 1) := by decide +kernel
theorem dX8_findHigh_103 : decode cX8_findHigh 103 = .ok (.iload 7, 2) := by decide +kernel
theorem dX8_findHigh_105 : decode cX8_findHigh 105 = .ok (.iconst 2, 1) := by decide +kernel
theorem dX8_findHigh_106 : decode cX8_findHigh 106 = .ok (.irem, 1) := by decide +kernel
theorem dX8_findHigh_107 : decode cX8_findHigh 107 = .ok (.ifCond .ne 8, 3) := by decide +kernel
theorem dX8_findHigh_110 : decode cX8_findHigh 110 = .ok (.lload 8, 2) := by decide +kernel
theorem dX8_findHigh_112 : decode cX8_findHigh 112 = .ok (.goto 6, 3) := by decide +kernel
theorem dX8_findHigh_115 : decode cX8_findHigh 115 = .ok (.lload 8, 2) := by decide +kernel
theorem dX8_findHigh_117 : decode cX8_findHigh 117 = .ok (.lneg, 1) := by decide +kernel
theorem dX8_findHigh_118 : decode cX8_findHigh 118 = .ok (.aload_n 0, 1) := by decide +kernel
theorem dX8_findHigh_119 : decode cX8_findHigh 119 = .ok (.getfield 34, 3) := by decide +kernel
theorem dX8_findHigh_122 : decode cX8_findHigh 122 = .ok (.iload 10, 2) := by decide +kernel
theorem dX8_findHigh_124 : decode cX8_findHigh 124 = .ok (.iaload, 1) := by decide +kernel
theorem dX8_findHigh_125 : decode cX8_findHigh 125 = .ok (.i2l, 1) := by decide +kernel
theorem dX8_findHigh_126 : decode cX8_findHigh 126 = .ok (.lmul, 1) := by decide +kernel
theorem dX8_findHigh_127 : decode cX8_findHigh 127 = .ok (.ldc2_w 152, 3) := by decide +kernel
theorem dX8_findHigh_130 : decode cX8_findHigh 130 = .ok (.lmul, 1) := by decide +kernel
theorem dX8_findHigh_131 : decode cX8_findHigh 131 = .ok (.ladd, 1) := by decide +kernel
theorem dX8_findHigh_132 : decode cX8_findHigh 132 = .ok (.lstore_n 3, 1) := by decide +kernel
theorem dX8_findHigh_133 : decode cX8_findHigh 133 = .ok (.lload 5, 2) := by decide +kernel
theorem dX8_findHigh_135 : decode cX8_findHigh 135 = .ok (.lload 8, 2) := by decide +kernel
theorem dX8_findHigh_137 : decode cX8_findHigh 137 = .ok (.bipush 12, 2) := by decide +kernel
theorem dX8_findHigh_139 : decode cX8_findHigh 139 = .ok (.aload_n 0, 1) := by decide +kernel
theorem dX8_findHigh_140 : decode cX8_findHigh 140 = .ok (.getfield 37, 3) := by decide +kernel
theorem dX8_findHigh_143 : decode cX8_findHigh 143 = .ok (.iload 10, 2) := by decide +kernel
theorem dX8_findHigh_145 : decode cX8_findHigh 145 = .ok (.iaload, 1) := by decide +kernel
theorem dX8_findHigh_146 : decode cX8_findHigh 146 = .ok (.idiv, 1) := by decide +kernel
theorem dX8_findHigh_147 : decode cX8_findHigh 147 = .ok (.i2l, 1) := by decide +kernel
theorem dX8_findHigh_148 : decode cX8_findHigh 148 = .ok (.lmul, 1) := by decide +kernel
theorem dX8_findHigh_149 : decode cX8_findHigh 149 = .ok (.ladd, 1) := by decide +kernel
theorem dX8_findHigh_150 : decode cX8_findHigh 150 = .ok (.lstore 5, 2) := by decide +kernel
theorem dX8_findHigh_152 : decode cX8_findHigh 152 = .ok (.iinc 7 1, 3) := by decide +kernel
theorem dX8_findHigh_155 : decode cX8_findHigh 155 = .ok (.goto (-147), 3) := by decide +kernel
theorem dX8_findHigh_158 : decode cX8_findHigh 158 = .ok (.aload_n 0, 1) := by decide +kernel
theorem dX8_findHigh_159 : decode cX8_findHigh 159 = .ok (.lload_n 3, 1) := by decide +kernel
theorem dX8_findHigh_160 : decode cX8_findHigh 160 = .ok (.lload 5, 2) := by decide +kernel
theorem dX8_findHigh_162 : decode cX8_findHigh 162 = .ok (.invokevirtual 111, 3) := by decide +kernel
theorem dX8_findHigh_165 : decode cX8_findHigh 165 = .ok (.aload_n 0, 1) := by decide +kernel
theorem dX8_findHigh_166 : decode cX8_findHigh 166 = .ok (.aload_n 0, 1) := by decide +kernel
theorem dX8_findHigh_167 : decode cX8_findHigh 167 = .ok (.getfield 108, 3) := by decide +kernel
theorem dX8_findHigh_170 : decode cX8_findHigh 170 = .ok (.putfield 154, 3) := by decide +kernel
theorem dX8_findHigh_173 : decode cX8_findHigh 173 = .ok (.aload_n 0, 1) := by decide +kernel
theorem dX8_findHigh_174 : decode cX8_findHigh 174 = .ok (.aload_n 0, 1) := by decide +kernel
theorem dX8_findHigh_175 : decode cX8_findHigh 175 = .ok (.getfield 65, 3) := by decide +kernel
theorem dX8_findHigh_178 : decode cX8_findHigh 178 = .ok (.putfield 157, 3) := by decide +kernel
theorem dX8_findHigh_181 : decode cX8_findHigh 181 = .ok (.return_, 1) := by decide +kernel
theorem dX8_through_0 : decode cX8_through 0 = .ok (.iconst 0, 1) := by decide +kernel
theorem dX8_through_1 : decode cX8_through 1 = .ok (.istore_n 3, 1) := by decide +kernel
theorem dX8_through_2 : decode cX8_through 2 = .ok (.iload_n 3, 1) := by decide +kernel
theorem dX8_through_3 : decode cX8_through 3 = .ok (.iconst 3, 1) := by decide +kernel
theorem dX8_through_4 : decode cX8_through 4 = .ok (.if_icmp .ge 23, 3) := by decide +kernel
theorem dX8_through_7 : decode cX8_through 7 = .ok (.aload_n 0, 1) := by decide +kernel
theorem dX8_through_8 : decode cX8_through 8 = .ok (.getfield 78, 3) := by decide +kernel
theorem dX8_through_11 : decode cX8_through 11 = .ok (.iload_n 3, 1) := by decide +kernel
theorem dX8_through_12 : decode cX8_through 12 = .ok (.lconst 0, 1) := by decide +kernel
theorem dX8_through_13 : decode cX8_through 13 = .ok (.lastore, 1) := by decide +kernel
theorem dX8_through_14 : decode cX8_through 14 = .ok (.aload_n 0, 1) := by decide +kernel
theorem dX8_through_15 : decode cX8_through 15 = .ok (.getfield 81, 3) := by decide +kernel
theorem dX8_through_18 : decode cX8_through 18 = .ok (.iload_n 3, 1) := by decide +kernel
theorem dX8_through_19 : decode cX8_through 19 = .ok (.lconst 1, 1) := by decide +kernel
theorem dX8_through_20 : decode cX8_through 20 = .ok (.lastore, 1) := by decide +kernel
theorem dX8_through_21 : decode cX8_through 21 = .ok (.iinc 3 1, 3) := by decide +kernel
theorem dX8_through_24 : decode cX8_through 24 = .ok (.goto (-22), 3) := by decide +kernel
theorem dX8_through_27 : decode cX8_through 27 = .ok (.iload_n 2, 1) := by decide +kernel
theorem dX8_through_28 : decode cX8_through 28 = .ok (.ifCond .ne 4, 3) := by decide +kernel
theorem dX8_through_31 : decode cX8_through 31 = .ok (.return_, 1) := by decide +kernel
theorem dX8_through_32 : decode cX8_through 32 = .ok (.aload_n 0, 1) := by decide +kernel
theorem dX8_through_33 : decode cX8_through 33 = .ok (.getfield 78, 3) := by decide +kernel
theorem dX8_through_36 : decode cX8_through 36 = .ok (.iconst 0, 1) := by decide +kernel
theorem dX8_through_37 : decode cX8_through 37 = .ok (.aload_n 0, 1) := by decide +kernel
theorem dX8_through_38 : decode cX8_through 38 = .ok (.getfield 72, 3) := by decide +kernel
theorem dX8_through_41 : decode cX8_through 41 = .ok (.iconst 0, 1) := by decide +kernel
theorem dX8_through_42 : decode cX8_through 42 = .ok (.laload, 1) := by decide +kernel
theorem dX8_through_43 : decode cX8_through 43 = .ok (.lastore, 1) := by decide +kernel
theorem dX8_through_44 : decode cX8_through 44 = .ok (.aload_n 0, 1) := by decide +kernel
theorem dX8_through_45 : decode cX8_through 45 = .ok (.getfield 81, 3) := by decide +kernel
theorem dX8_through_48 : decode cX8_through 48 = .ok (.iconst 0, 1) := by decide +kernel
theorem dX8_through_49 : decode cX8_through 49 = .ok (.aload_n 0, 1) := by decide +kernel
theorem dX8_through_50 : decode cX8_through 50 = .ok (.getfield 75, 3) := by decide +kernel
theorem dX8_through_53 : decode cX8_through 53 = .ok (.iconst 0, 1) := by decide +kernel
theorem dX8_through_54 : decode cX8_through 54 = .ok (.laload, 1) := by decide +kernel
theorem dX8_through_55 : decode cX8_through 55 = .ok (.lastore, 1) := by decide +kernel
theorem dX8_through_56 : decode cX8_through 56 = .ok (.iload_n 2, 1) := by decide +kernel
theorem dX8_through_57 : decode cX8_through 57 = .ok (.iconst 1, 1) := by decide +kernel
theorem dX8_through_58 : decode cX8_through 58 = .ok (.if_icmp .ne 4, 3) := by decide +kernel
theorem dX8_through_61 : decode cX8_through 61 = .ok (.return_, 1) := by decide +kernel
theorem dX8_through_62 : decode cX8_through 62 = .ok (.aload_n 0, 1) := by decide +kernel
theorem dX8_through_63 : decode cX8_through 63 = .ok (.iload_n 1, 1) := by decide +kernel
theorem dX8_through_64 : decode cX8_through 64 = .ok (.iconst 0, 1) := by decide +kernel
theorem dX8_through_65 : decode cX8_through 65 = .ok (.iconst 1, 1) := by decide +kernel
theorem dX8_through_66 : decode cX8_through 66 = .ok (.invokevirtual 160, 3) := by decide +kernel
theorem dX8_through_69 : decode cX8_through 69 = .ok (.aload_n 0, 1) := by decide +kernel
theorem dX8_through_70 : decode cX8_through 70 = .ok (.getfield 108, 3) := by decide +kernel
theorem dX8_through_73 : decode cX8_through 73 = .ok (.lstore_n 3, 1) := by decide +kernel
theorem dX8_through_74 : decode cX8_through 74 = .ok (.aload_n 0, 1) := by decide +kernel
theorem dX8_through_75 : decode cX8_through 75 = .ok (.getfield 65, 3) := by decide +kernel
theorem dX8_through_78 : decode cX8_through 78 = .ok (.lstore 5, 2) := by decide +kernel
theorem dX8_through_80 : decode cX8_through 80 = .ok (.lconst 0, 1) := by decide +kernel
theorem dX8_through_81 : decode cX8_through 81 = .ok (.lstore 7, 2) := by decide +kernel
theorem dX8_through_83 : decode cX8_through 83 = .ok (.lconst 1, 1) := by decide +kernel
theorem dX8_through_84 : decode cX8_through 84 = .ok (.lstore 9, 2) := by decide +kernel
theorem dX8_through_86 : decode cX8_through 86 = .ok (.iload_n 2, 1) := by decide +kernel
theorem dX8_through_87 : decode cX8_through 87 = .ok (.iconst 3, 1) := by decide +kernel
theorem dX8_through_88 : decode cX8_through 88 = .ok (.if_icmp .ne 64, 3) := by decide +kernel
theorem dX8_through_91 : decode cX8_through 91 = .ok (.aload_n 0, 1) := by decide +kernel
theorem dX8_through_92 : decode cX8_through 92 = .ok (.iload_n 1, 1) := by decide +kernel
theorem dX8_through_93 : decode cX8_through 93 = .ok (.iconst 1, 1) := by decide +kernel
theorem dX8_through_94 : decode cX8_through 94 = .ok (.iconst 2, 1) := by decide +kernel
theorem dX8_through_95 : decode cX8_through 95 = .ok (.invokevirtual 160, 3) := by decide +kernel
theorem dX8_through_98 : decode cX8_through 98 = .ok (.aload_n 0, 1) := by decide +kernel
theorem dX8_through_99 : decode cX8_through 99 = .ok (.aload_n 0, 1) := by decide +kernel
theorem dX8_through_100 : decode cX8_through 100 = .ok (.getfield 108, 3) := by decide +kernel
theorem dX8_through_103 : decode cX8_through 103 = .ok (.aload_n 0, 1) := by decide +kernel
theorem dX8_through_104 : decode cX8_through 104 = .ok (.getfield 65, 3) := by decide +kernel
theorem dX8_through_107 : decode cX8_through 107 = .ok (.lload_n 3, 1) := by decide +kernel
theorem dX8_through_108 : decode cX8_through 108 = .ok (.lneg, 1) := by decide +kernel
theorem dX8_through_109 : decode cX8_through 109 = .ok (.lload 5, 2) := by decide +kernel
theorem dX8_through_111 : decode cX8_through 111 = .ok (.invokevirtual 164, 3) := by decide +kernel
theorem dX8_through_114 : decode cX8_through 114 = .ok (.aload_n 0, 1) := by decide +kernel
theorem dX8_through_115 : decode cX8_through 115 = .ok (.aload_n 0, 1) := by decide +kernel
theorem dX8_through_116 : decode cX8_through 116 = .ok (.getfield 108, 3) := by decide +kernel
theorem dX8_through_119 : decode cX8_through 119 = .ok (.aload_n 0, 1) := by decide +kernel
theorem dX8_through_120 : decode cX8_through 120 = .ok (.getfield 65, 3) := by decide +kernel
theorem dX8_through_123 : decode cX8_through 123 = .ok (.lconst 1, 1) := by decide +kernel
theorem dX8_through_124 : decode cX8_through 124 = .ok (.aload_n 0, 1) := by decide +kernel
theorem dX8_through_125 : decode cX8_through 125 = .ok (.iload_n 1, 1) := by decide +kernel
theorem dX8_through_126 : decode cX8_through 126 = .ok (.iconst 2, 1) := by decide +kernel
theorem dX8_through_127 : decode cX8_through 127 = .ok (.invokevirtual 149, 3) := by decide +kernel
theorem dX8_through_130 : decode cX8_through 130 = .ok (.aload_n 0, 1) := by decide +kernel
theorem dX8_through_131 : decode cX8_through 131 = .ok (.iload_n 1, 1) := by decide +kernel
theorem dX8_through_132 : decode cX8_through 132 = .ok (.iconst 0, 1) := by decide +kernel
theorem dX8_through_133 : decode cX8_through 133 = .ok (.invokevirtual 149, 3) := by decide +kernel
theorem dX8_through_136 : decode cX8_through 136 = .ok (.lsub, 1) := by decide +kernel
theorem dX8_through_137 : decode cX8_through 137 = .ok (.invokevirtual 168, 3) := by decide +kernel
theorem dX8_through_140 : decode cX8_through 140 = .ok (.aload_n 0, 1) := by decide +kernel
theorem dX8_through_141 : decode cX8_through 141 = .ok (.getfield 108, 3) := by decide +kernel
theorem dX8_through_144 : decode cX8_through 144 = .ok (.lstore 7, 2) := by decide +kernel
theorem dX8_through_146 : decode cX8_through 146 = .ok (.aload_n 0, 1) := by decide +kernel
theorem dX8_through_147 : decode cX8_through 147 = .ok (.getfield 65, 3) := by decide +kernel
theorem dX8_through_150 : decode cX8_through 150 = .ok (.lstore 9, 2) := by decide +kernel
theorem dX8_through_152 : decode cX8_through 152 = .ok (.aload_n 0, 1) := by decide +kernel
theorem dX8_through_153 : decode cX8_through 153 = .ok (.getfield 78, 3) := by decide +kernel
theorem dX8_through_156 : decode cX8_through 156 = .ok (.iconst 2, 1) := by decide +kernel
theorem dX8_through_157 : decode cX8_through 157 = .ok (.lload 7, 2) := by decide +kernel
theorem dX8_through_159 : decode cX8_through 159 = .ok (.lastore, 1) := by decide +kernel
theorem dX8_through_160 : decode cX8_through 160 = .ok (.aload_n 0, 1) := by decide +kernel
theorem dX8_through_161 : decode cX8_through 161 = .ok (.getfield 81, 3) := by decide +kernel
theorem dX8_through_164 : decode cX8_through 164 = .ok (.iconst 2, 1) := by decide +kernel
theorem dX8_through_165 : decode cX8_through 165 = .ok (.lload 9, 2) := by decide +kernel
theorem dX8_through_167 : decode cX8_through 167 = .ok (.lastore, 1) := by decide +kernel
theorem dX8_through_168 : decode cX8_through 168 = .ok (.aload_n 0, 1) := by decide +kernel
theorem dX8_through_169 : decode cX8_through 169 = .ok (.lload 7, 2) := by decide +kernel
theorem dX8_through_171 : decode cX8_through 171 = .ok (.lload 9, 2) := by decide +kernel
theorem dX8_through_173 : decode cX8_through 173 = .ok (.aload_n 0, 1) := by decide +kernel
theorem dX8_through_174 : decode cX8_through 174 = .ok (.iload_n 1, 1) := by decide +kernel
theorem dX8_through_175 : decode cX8_through 175 = .ok (.iconst 0, 1) := by decide +kernel
theorem dX8_through_176 : decode cX8_through 176 = .ok (.invokevirtual 149, 3) := by decide +kernel
theorem dX8_through_179 : decode cX8_through 179 = .ok (.aload_n 0, 1) := by decide +kernel
theorem dX8_through_180 : decode cX8_through 180 = .ok (.iload_n 1, 1) := by decide +kernel
theorem dX8_through_181 : decode cX8_through 181 = .ok (.iconst 1, 1) := by decide +kernel
theorem dX8_through_182 : decode cX8_through 182 = .ok (.invokevirtual 149, 3) := by decide +kernel
theorem dX8_through_185 : decode cX8_through 185 = .ok (.ladd, 1) := by decide +kernel
theorem dX8_through_186 : decode cX8_through 186 = .ok (.lneg, 1) := by decide +kernel
theorem dX8_through_187 : decode cX8_through 187 = .ok (.lconst 1, 1) := by decide +kernel
theorem dX8_through_188 : decode cX8_through 188 = .ok (.invokevirtual 168, 3) := by decide +kernel
theorem dX8_through_191 : decode cX8_through 191 = .ok (.aload_n 0, 1) := by decide +kernel
theorem dX8_through_192 : decode cX8_through 192 = .ok (.aload_n 0, 1) := by decide +kernel
theorem dX8_through_193 : decode cX8_through 193 = .ok (.getfield 108, 3) := by decide +kernel
theorem dX8_through_196 : decode cX8_through 196 = .ok (.aload_n 0, 1) := by decide +kernel
theorem dX8_through_197 : decode cX8_through 197 = .ok (.getfield 65, 3) := by decide +kernel
theorem dX8_through_200 : decode cX8_through 200 = .ok (.lload_n 3, 1) := by decide +kernel
theorem dX8_through_201 : decode cX8_through 201 = .ok (.lload 5, 2) := by decide +kernel
theorem dX8_through_203 : decode cX8_through 203 = .ok (.invokevirtual 164, 3) := by decide +kernel
theorem dX8_through_206 : decode cX8_through 206 = .ok (.aload_n 0, 1) := by decide +kernel
theorem dX8_through_207 : decode cX8_through 207 = .ok (.getfield 78, 3) := by decide +kernel
theorem dX8_through_210 : decode cX8_through 210 = .ok (.iconst 1, 1) := by decide +kernel
theorem dX8_through_211 : decode cX8_through 211 = .ok (.aload_n 0, 1) := by decide +kernel
theorem dX8_through_212 : decode cX8_through 212 = .ok (.getfield 108, 3) := by decide +kernel
theorem dX8_through_215 : decode cX8_through 215 = .ok (.lastore, 1) := by decide +kernel
theorem dX8_through_216 : decode cX8_through 216 = .ok (.aload_n 0, 1) := by decide +kernel
theorem dX8_through_217 : decode cX8_through 217 = .ok (.getfield 81, 3) := by decide +kernel
theorem dX8_through_220 : decode cX8_through 220 = .ok (.iconst 1, 1) := by decide +kernel
theorem dX8_through_221 : decode cX8_through 221 = .ok (.aload_n 0, 1) := by decide +kernel
theorem dX8_through_222 : decode cX8_through 222 = .ok (.getfield 65, 3) := by decide +kernel
theorem dX8_through_225 : decode cX8_through 225 = .ok (.lastore, 1) := by decide +kernel
theorem dX8_through_226 : decode cX8_through 226 = .ok (.aload_n 0, 1) := by decide +kernel
theorem dX8_through_227 : decode cX8_through 227 = .ok (.lload 7, 2) := by decide +kernel
theorem dX8_through_229 : decode cX8_through 229 = .ok (.lload 9, 2) := by decide +kernel
theorem dX8_through_231 : decode cX8_through 231 = .ok (.aload_n 0, 1) := by decide +kernel
theorem dX8_through_232 : decode cX8_through 232 = .ok (.iload_n 1, 1) := by decide +kernel
theorem dX8_through_233 : decode cX8_through 233 = .ok (.iconst 0, 1) := by decide +kernel
theorem dX8_through_234 : decode cX8_through 234 = .ok (.invokevirtual 149, 3) := by decide +kernel
theorem dX8_through_237 : decode cX8_through 237 = .ok (.lconst 1, 1) := by decide +kernel
theorem dX8_through_238 : decode cX8_through 238 = .ok (.invokevirtual 168, 3) := by decide +kernel
theorem dX8_through_241 : decode cX8_through 241 = .ok (.aload_n 0, 1) := by decide +kernel
theorem dX8_through_242 : decode cX8_through 242 = .ok (.aload_n 0, 1) := by decide +kernel
theorem dX8_through_243 : decode cX8_through 243 = .ok (.getfield 108, 3) := by decide +kernel
theorem dX8_through_246 : decode cX8_through 246 = .ok (.aload_n 0, 1) := by decide +kernel
theorem dX8_through_247 : decode cX8_through 247 = .ok (.getfield 65, 3) := by decide +kernel
theorem dX8_through_250 : decode cX8_through 250 = .ok (.aload_n 0, 1) := by decide +kernel
theorem dX8_through_251 : decode cX8_through 251 = .ok (.getfield 78, 3) := by decide +kernel
theorem dX8_through_254 : decode cX8_through 254 = .ok (.iconst 1, 1) := by decide +kernel
theorem dX8_through_255 : decode cX8_through 255 = .ok (.laload, 1) := by decide +kernel
theorem dX8_through_256 : decode cX8_through 256 = .ok (.aload_n 0, 1) := by decide +kernel
theorem dX8_through_257 : decode cX8_through 257 = .ok (.getfield 81, 3) := by decide +kernel
theorem dX8_through_260 : decode cX8_through 260 = .ok (.iconst 1, 1) := by decide +kernel
theorem dX8_through_261 : decode cX8_through 261 = .ok (.laload, 1) := by decide +kernel
theorem dX8_through_262 : decode cX8_through 262 = .ok (.invokevirtual 164, 3) := by decide +kernel
theorem dX8_through_265 : decode cX8_through 265 = .ok (.aload_n 0, 1) := by decide +kernel
theorem dX8_through_266 : decode cX8_through 266 = .ok (.aload_n 0, 1) := by decide +kernel
theorem dX8_through_267 : decode cX8_through 267 = .ok (.getfield 108, 3) := by decide +kernel
theorem dX8_through_270 : decode cX8_through 270 = .ok (.aload_n 0, 1) := by decide +kernel
theorem dX8_through_271 : decode cX8_through 271 = .ok (.getfield 65, 3) := by decide +kernel
theorem dX8_through_274 : decode cX8_through 274 = .ok (.aload_n 0, 1) := by decide +kernel
theorem dX8_through_275 : decode cX8_through 275 = .ok (.iload_n 1, 1) := by decide +kernel
theorem dX8_through_276 : decode cX8_through 276 = .ok (.iconst 0, 1) := by decide +kernel
theorem dX8_through_277 : decode cX8_through 277 = .ok (.invokevirtual 149, 3) := by decide +kernel
theorem dX8_through_280 : decode cX8_through 280 = .ok (.lneg, 1) := by decide +kernel
theorem dX8_through_281 : decode cX8_through 281 = .ok (.lconst 1, 1) := by decide +kernel
theorem dX8_through_282 : decode cX8_through 282 = .ok (.invokevirtual 168, 3) := by decide +kernel
theorem dX8_through_285 : decode cX8_through 285 = .ok (.aload_n 0, 1) := by decide +kernel
theorem dX8_through_286 : decode cX8_through 286 = .ok (.aload_n 0, 1) := by decide +kernel
theorem dX8_through_287 : decode cX8_through 287 = .ok (.getfield 108, 3) := by decide +kernel
theorem dX8_through_290 : decode cX8_through 290 = .ok (.aload_n 0, 1) := by decide +kernel
theorem dX8_through_291 : decode cX8_through 291 = .ok (.getfield 65, 3) := by decide +kernel
theorem dX8_through_294 : decode cX8_through 294 = .ok (.aload_n 0, 1) := by decide +kernel
theorem dX8_through_295 : decode cX8_through 295 = .ok (.getfield 72, 3) := by decide +kernel
theorem dX8_through_298 : decode cX8_through 298 = .ok (.iconst 0, 1) := by decide +kernel
theorem dX8_through_299 : decode cX8_through 299 = .ok (.laload, 1) := by decide +kernel
theorem dX8_through_300 : decode cX8_through 300 = .ok (.aload_n 0, 1) := by decide +kernel
theorem dX8_through_301 : decode cX8_through 301 = .ok (.getfield 75, 3) := by decide +kernel
theorem dX8_through_304 : decode cX8_through 304 = .ok (.iconst 0, 1) := by decide +kernel
theorem dX8_through_305 : decode cX8_through 305 = .ok (.laload, 1) := by decide +kernel
theorem dX8_through_306 : decode cX8_through 306 = .ok (.invokevirtual 164, 3) := by decide +kernel
theorem dX8_through_309 : decode cX8_through 309 = .ok (.aload_n 0, 1) := by decide +kernel
theorem dX8_through_310 : decode cX8_through 310 = .ok (.getfield 78, 3) := by decide +kernel
theorem dX8_through_313 : decode cX8_through 313 = .ok (.iconst 0, 1) := by decide +kernel
theorem dX8_through_314 : decode cX8_through 314 = .ok (.aload_n 0, 1) := by decide +kernel
theorem dX8_through_315 : decode cX8_through 315 = .ok (.getfield 108, 3) := by decide +kernel
theorem dX8_through_318 : decode cX8_through 318 = .ok (.lastore, 1) := by decide +kernel
theorem dX8_through_319 : decode cX8_through 319 = .ok (.aload_n 0, 1) := by decide +kernel
theorem dX8_through_320 : decode cX8_through 320 = .ok (.getfield 81, 3) := by decide +kernel
theorem dX8_through_323 : decode cX8_through 323 = .ok (.iconst 0, 1) := by decide +kernel
theorem dX8_through_324 : decode cX8_through 324 = .ok (.aload_n 0, 1) := by decide +kernel
theorem dX8_through_325 : decode cX8_through 325 = .ok (.getfield 65, 3) := by decide +kernel
theorem dX8_through_328 : decode cX8_through 328 = .ok (.lastore, 1) := by decide +kernel
theorem dX8_through_329 : decode cX8_through 329 = .ok (.return_, 1) := by decide +kernel
theorem dX8_slope_0 : decode cX8_slope 0 = .ok (.aload_n 0, 1) := by decide +kernel
theorem dX8_slope_1 : decode cX8_slope 1 = .ok (.aload_n 0, 1) := by decide +kernel
theorem dX8_slope_2 : decode cX8_slope 2 = .ok (.getfield 72, 3) := by decide +kernel
theorem dX8_slope_5 : decode cX8_slope 5 = .ok (.iload_n 3, 1) := by decide +kernel
theorem dX8_slope_6 : decode cX8_slope 6 = .ok (.laload, 1) := by decide +kernel
theorem dX8_slope_7 : decode cX8_slope 7 = .ok (.aload_n 0, 1) := by decide +kernel
theorem dX8_slope_8 : decode cX8_slope 8 = .ok (.getfield 75, 3) := by decide +kernel
theorem dX8_slope_11 : decode cX8_slope 11 = .ok (.iload_n 3, 1) := by decide +kernel
theorem dX8_slope_12 : decode cX8_slope 12 = .ok (.laload, 1) := by decide +kernel
theorem dX8_slope_13 : decode cX8_slope 13 = .ok (.aload_n 0, 1) := by decide +kernel
theorem dX8_slope_14 : decode cX8_slope 14 = .ok (.getfield 72, 3) := by decide +kernel
theorem dX8_slope_17 : decode cX8_slope 17 = .ok (.iload_n 2, 1) := by decide +kernel
theorem dX8_slope_18 : decode cX8_slope 18 = .ok (.laload, 1) := by decide +kernel
theorem dX8_slope_19 : decode cX8_slope 19 = .ok (.lneg, 1) := by decide +kernel
theorem dX8_slope_20 : decode cX8_slope 20 = .ok (.aload_n 0, 1) := by decide +kernel
theorem dX8_slope_21 : decode cX8_slope 21 = .ok (.getfield 75, 3) := by decide +kernel
theorem dX8_slope_24 : decode cX8_slope 24 = .ok (.iload_n 2, 1) := by decide +kernel
theorem dX8_slope_25 : decode cX8_slope 25 = .ok (.laload, 1) := by decide +kernel
theorem dX8_slope_26 : decode cX8_slope 26 = .ok (.invokevirtual 164, 3) := by decide +kernel
theorem dX8_slope_29 : decode cX8_slope 29 = .ok (.aload_n 0, 1) := by decide +kernel
theorem dX8_slope_30 : decode cX8_slope 30 = .ok (.aload_n 0, 1) := by decide +kernel
theorem dX8_slope_31 : decode cX8_slope 31 = .ok (.getfield 108, 3) := by decide +kernel
theorem dX8_slope_34 : decode cX8_slope 34 = .ok (.aload_n 0, 1) := by decide +kernel
theorem dX8_slope_35 : decode cX8_slope 35 = .ok (.getfield 65, 3) := by decide +kernel
theorem dX8_slope_38 : decode cX8_slope 38 = .ok (.lconst 1, 1) := by decide +kernel
theorem dX8_slope_39 : decode cX8_slope 39 = .ok (.aload_n 0, 1) := by decide +kernel
theorem dX8_slope_40 : decode cX8_slope 40 = .ok (.iload_n 1, 1) := by decide +kernel
theorem dX8_slope_41 : decode cX8_slope 41 = .ok (.iload_n 3, 1) := by decide +kernel
theorem dX8_slope_42 : decode cX8_slope 42 = .ok (.invokevirtual 149, 3) := by decide +kernel
theorem dX8_slope_45 : decode cX8_slope 45 = .ok (.aload_n 0, 1) := by decide +kernel
theorem dX8_slope_46 : decode cX8_slope 46 = .ok (.iload_n 1, 1) := by decide +kernel
theorem dX8_slope_47 : decode cX8_slope 47 = .ok (.iload_n 2, 1) := by decide +kernel
theorem dX8_slope_48 : decode cX8_slope 48 = .ok (.invokevirtual 149, 3) := by decide +kernel
theorem dX8_slope_51 : decode cX8_slope 51 = .ok (.lsub, 1) := by decide +kernel
theorem dX8_slope_52 : decode cX8_slope 52 = .ok (.invokevirtual 168, 3) := by decide +kernel
theorem dX8_slope_55 : decode cX8_slope 55 = .ok (.return_, 1) := by decide +kernel
theorem dX8_freeNumbers_0 : decode cX8_freeNumbers 0 = .ok (.aload_n 0, 1) := by decide +kernel
theorem dX8_freeNumbers_1 : decode cX8_freeNumbers 1 = .ok (.getfield 22, 3) := by decide +kernel
theorem dX8_freeNumbers_4 : decode cX8_freeNumbers 4 = .ok (.iload_n 1, 1) := by decide +kernel
theorem dX8_freeNumbers_5 : decode cX8_freeNumbers 5 = .ok (.iaload, 1) := by decide +kernel
theorem dX8_freeNumbers_6 : decode cX8_freeNumbers 6 = .ok (.iconst 2, 1) := by decide +kernel
theorem dX8_freeNumbers_7 : decode cX8_freeNumbers 7 = .ok (.if_icmp .ne 7, 3) := by decide +kernel
theorem dX8_freeNumbers_10 : decode cX8_freeNumbers 10 = .ok (.iconst 2, 1) := by decide +kernel
theorem dX8_freeNumbers_11 : decode cX8_freeNumbers 11 = .ok (.goto 11, 3) := by decide +kernel
theorem dX8_freeNumbers_14 : decode cX8_freeNumbers 14 = .ok (.aload_n 0, 1) := by decide +kernel
theorem dX8_freeNumbers_15 : decode cX8_freeNumbers 15 = .ok (.getfield 25, 3) := by decide +kernel
theorem dX8_freeNumbers_18 : decode cX8_freeNumbers 18 = .ok (.iload_n 1, 1) := by decide +kernel
theorem dX8_freeNumbers_19 : decode cX8_freeNumbers 19 = .ok (.iaload, 1) := by decide +kernel
theorem dX8_freeNumbers_20 : decode cX8_freeNumbers 20 = .ok (.iconst 1, 1) := by decide +kernel
theorem dX8_freeNumbers_21 : decode cX8_freeNumbers 21 = .ok (.iadd, 1) := by decide +kernel
theorem dX8_freeNumbers_22 : decode cX8_freeNumbers 22 = .ok (.ireturn, 1) := by decide +kernel
theorem dX8_study_0 : decode cX8_study 0 = .ok (.iconst 0, 1) := by decide +kernel
theorem dX8_study_1 : decode cX8_study 1 = .ok (.istore_n 3, 1) := by decide +kernel
theorem dX8_study_2 : decode cX8_study 2 = .ok (.iconst 0, 1) := by decide +kernel
theorem dX8_study_3 : decode cX8_study 3 = .ok (.istore 4, 2) := by decide +kernel
theorem dX8_study_5 : decode cX8_study 5 = .ok (.iload 4, 2) := by decide +kernel
theorem dX8_study_7 : decode cX8_study 7 = .ok (.aload_n 0, 1) := by decide +kernel
theorem dX8_study_8 : decode cX8_study 8 = .ok (.getfield 28, 3) := by decide +kernel
theorem dX8_study_11 : decode cX8_study 11 = .ok (.iload_n 1, 1) := by decide +kernel
theorem dX8_study_12 : decode cX8_study 12 = .ok (.iaload, 1) := by decide +kernel
theorem dX8_study_13 : decode cX8_study 13 = .ok (.if_icmp .ge 29, 3) := by decide +kernel
theorem dX8_study_16 : decode cX8_study 16 = .ok (.iload_n 2, 1) := by decide +kernel
theorem dX8_study_17 : decode cX8_study 17 = .ok (.iload 4, 2) := by decide +kernel
theorem dX8_study_19 : decode cX8_study 19 = .ok (.invokestatic 171, 3) := by decide +kernel
theorem dX8_study_22 : decode cX8_study 22 = .ok (.ifCond .eq 14, 3) := by decide +kernel
theorem dX8_study_25 : decode cX8_study 25 = .ok (.aload_n 0, 1) := by decide +kernel
theorem dX8_study_26 : decode cX8_study 26 = .ok (.getfield 69, 3) := by decide +kernel
theorem dX8_study_29 : decode cX8_study 29 = .ok (.iload_n 3, 1) := by decide +kernel
theorem dX8_study_30 : decode cX8_study 30 = .ok (.iload 4, 2) := by decide +kernel
theorem dX8_study_32 : decode cX8_study 32 = .ok (.iastore, 1) := by decide +kernel
theorem dX8_study_33 : decode cX8_study 33 = .ok (.iinc 3 1, 3) := by decide +kernel
theorem dX8_study_36 : decode cX8_study 36 = .ok (.iinc 4 1, 3) := by decide +kernel
theorem dX8_study_39 : decode cX8_study 39 = .ok (.goto (-34), 3) := by decide +kernel
theorem dX8_study_42 : decode cX8_study 42 = .ok (.aload_n 0, 1) := by decide +kernel
theorem dX8_study_43 : decode cX8_study 43 = .ok (.iload_n 1, 1) := by decide +kernel
theorem dX8_study_44 : decode cX8_study 44 = .ok (.iload_n 3, 1) := by decide +kernel
theorem dX8_study_45 : decode cX8_study 45 = .ok (.invokevirtual 174, 3) := by decide +kernel
theorem dX8_study_48 : decode cX8_study 48 = .ok (.iconst 0, 1) := by decide +kernel
theorem dX8_study_49 : decode cX8_study 49 = .ok (.istore 4, 2) := by decide +kernel
theorem dX8_study_51 : decode cX8_study 51 = .ok (.iload 4, 2) := by decide +kernel
theorem dX8_study_53 : decode cX8_study 53 = .ok (.iconst 1, 1) := by decide +kernel
theorem dX8_study_54 : decode cX8_study 54 = .ok (.iadd, 1) := by decide +kernel
theorem dX8_study_55 : decode cX8_study 55 = .ok (.iload_n 3, 1) := by decide +kernel
theorem dX8_study_56 : decode cX8_study 56 = .ok (.if_icmp .ge 90, 3) := by decide +kernel
theorem dX8_study_59 : decode cX8_study 59 = .ok (.bipush 12, 2) := by decide +kernel
theorem dX8_study_61 : decode cX8_study 61 = .ok (.iload_n 1, 1) := by decide +kernel
theorem dX8_study_62 : decode cX8_study 62 = .ok (.imul, 1) := by decide +kernel
theorem dX8_study_63 : decode cX8_study 63 = .ok (.aload_n 0, 1) := by decide +kernel
theorem dX8_study_64 : decode cX8_study 64 = .ok (.getfield 69, 3) := by decide +kernel
theorem dX8_study_67 : decode cX8_study 67 = .ok (.iload 4, 2) := by decide +kernel
theorem dX8_study_69 : decode cX8_study 69 = .ok (.iaload, 1) := by decide +kernel
theorem dX8_study_70 : decode cX8_study 70 = .ok (.iadd, 1) := by decide +kernel
theorem dX8_study_71 : decode cX8_study 71 = .ok (.istore 5, 2) := by decide +kernel
theorem dX8_study_73 : decode cX8_study 73 = .ok (.aload_n 0, 1) := by decide +kernel
theorem dX8_study_74 : decode cX8_study 74 = .ok (.aload_n 0, 1) := by decide +kernel
theorem dX8_study_75 : decode cX8_study 75 = .ok (.getfield 34, 3) := by decide +kernel
theorem dX8_study_78 : decode cX8_study 78 = .ok (.iload 5, 2) := by decide +kernel
theorem dX8_study_80 : decode cX8_study 80 = .ok (.iaload, 1) := by decide +kernel
theorem dX8_study_81 : decode cX8_study 81 = .ok (.i2l, 1) := by decide +kernel
theorem dX8_study_82 : decode cX8_study 82 = .ok (.lconst 1, 1) := by decide +kernel
theorem dX8_study_83 : decode cX8_study 83 = .ok (.iload 4, 2) := by decide +kernel
theorem dX8_study_85 : decode cX8_study 85 = .ok (.iconst 2, 1) := by decide +kernel
theorem dX8_study_86 : decode cX8_study 86 = .ok (.irem, 1) := by decide +kernel
theorem dX8_study_87 : decode cX8_study 87 = .ok (.ifCond .ne 11, 3) := by decide +kernel
theorem dX8_study_90 : decode cX8_study 90 = .ok (.aload_n 0, 1) := by decide +kernel
theorem dX8_study_91 : decode cX8_study 91 = .ok (.getfield 154, 3) := by decide +kernel
theorem dX8_study_94 : decode cX8_study 94 = .ok (.lneg, 1) := by decide +kernel
theorem dX8_study_95 : decode cX8_study 95 = .ok (.goto 7, 3) := by decide +kernel
theorem dX8_study_98 : decode cX8_study 98 = .ok (.aload_n 0, 1) := by decide +kernel
theorem dX8_study_99 : decode cX8_study 99 = .ok (.getfield 154, 3) := by decide +kernel
theorem dX8_study_102 : decode cX8_study 102 = .ok (.aload_n 0, 1) := by decide +kernel
theorem dX8_study_103 : decode cX8_study 103 = .ok (.getfield 157, 3) := by decide +kernel
theorem dX8_study_106 : decode cX8_study 106 = .ok (.aload_n 0, 1) := by decide +kernel
theorem dX8_study_107 : decode cX8_study 107 = .ok (.getfield 37, 3) := by decide +kernel
theorem dX8_study_110 : decode cX8_study 110 = .ok (.iload 5, 2) := by decide +kernel
theorem dX8_study_112 : decode cX8_study 112 = .ok (.iaload, 1) := by decide +kernel
theorem dX8_study_113 : decode cX8_study 113 = .ok (.i2l, 1) := by decide +kernel
theorem dX8_study_114 : decode cX8_study 114 = .ok (.lmul, 1) := by decide +kernel
theorem dX8_study_115 : decode cX8_study 115 = .ok (.invokevirtual 164, 3) := by decide +kernel
theorem dX8_study_118 : decode cX8_study 118 = .ok (.aload_n 0, 1) := by decide +kernel
theorem dX8_study_119 : decode cX8_study 119 = .ok (.getfield 72, 3) := by decide +kernel
theorem dX8_study_122 : decode cX8_study 122 = .ok (.iload 4, 2) := by decide +kernel
theorem dX8_study_124 : decode cX8_study 124 = .ok (.aload_n 0, 1) := by decide +kernel
theorem dX8_study_125 : decode cX8_study 125 = .ok (.getfield 108, 3) := by decide +kernel
theorem dX8_study_128 : decode cX8_study 128 = .ok (.lastore, 1) := by decide +kernel
theorem dX8_study_129 : decode cX8_study 129 = .ok (.aload_n 0, 1) := by decide +kernel
theorem dX8_study_130 : decode cX8_study 130 = .ok (.getfield 75, 3) := by decide +kernel
theorem dX8_study_133 : decode cX8_study 133 = .ok (.iload 4, 2) := by decide +kernel
theorem dX8_study_135 : decode cX8_study 135 = .ok (.aload_n 0, 1) := by decide +kernel
theorem dX8_study_136 : decode cX8_study 136 = .ok (.getfield 65, 3) := by decide +kernel
theorem dX8_study_139 : decode cX8_study 139 = .ok (.lastore, 1) := by decide +kernel
theorem dX8_study_140 : decode cX8_study 140 = .ok (.iinc 4 1, 3) := by decide +kernel
theorem dX8_study_143 : decode cX8_study 143 = .ok (.goto (-92), 3) := by decide +kernel
theorem dX8_study_146 : decode cX8_study 146 = .ok (.aload_n 0, 1) := by decide +kernel
theorem dX8_study_147 : decode cX8_study 147 = .ok (.iload_n 1, 1) := by decide +kernel
theorem dX8_study_148 : decode cX8_study 148 = .ok (.iload_n 3, 1) := by decide +kernel
