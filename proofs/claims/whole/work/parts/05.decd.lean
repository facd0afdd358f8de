theorem dX8_bestGuesses_2 : decode cX8_bestGuesses 2 = .ok (.iconst 1, 1) := by decide +kernel
theorem dX8_bestGuesses_3 : decode cX8_bestGuesses 3 = .ok (.invokestatic 52, 3) := by decide +kernel
theorem dX8_bestGuesses_6 : decode cX8_bestGuesses 6 = .ok (.ifCond .ne 6, 3) := by decide +kernel
theorem dX8_bestGuesses_9 : decode cX8_bestGuesses 9 = .ok (.ldc 79, 2) := by decide +kernel
theorem dX8_bestGuesses_11 : decode cX8_bestGuesses 11 = .ok (.ireturn, 1) := by decide +kernel
theorem dX8_bestGuesses_12 : decode cX8_bestGuesses 12 = .ok (.aload_n 0, 1) := by decide +kernel
theorem dX8_bestGuesses_13 : decode cX8_bestGuesses 13 = .ok (.invokevirtual 126, 3) := by decide +kernel
theorem dX8_bestGuesses_16 : decode cX8_bestGuesses 16 = .ok (.aload_n 0, 1) := by decide +kernel
theorem dX8_bestGuesses_17 : decode cX8_bestGuesses 17 = .ok (.getfield 110, 3) := by decide +kernel
theorem dX8_bestGuesses_20 : decode cX8_bestGuesses 20 = .ok (.bipush 12, 2) := by decide +kernel
theorem dX8_bestGuesses_22 : decode cX8_bestGuesses 22 = .ok (.if_icmp .ge 10, 3) := by decide +kernel
theorem dX8_bestGuesses_25 : decode cX8_bestGuesses 25 = .ok (.aload_n 0, 1) := by decide +kernel
theorem dX8_bestGuesses_26 : decode cX8_bestGuesses 26 = .ok (.getfield 110, 3) := by decide +kernel
theorem dX8_bestGuesses_29 : decode cX8_bestGuesses 29 = .ok (.goto 5, 3) := by decide +kernel
theorem dX8_bestGuesses_32 : decode cX8_bestGuesses 32 = .ok (.bipush 12, 2) := by decide +kernel
theorem dX8_bestGuesses_34 : decode cX8_bestGuesses 34 = .ok (.istore_n 2, 1) := by decide +kernel
theorem dX8_bestGuesses_35 : decode cX8_bestGuesses 35 = .ok (.iconst 0, 1) := by decide +kernel
theorem dX8_bestGuesses_36 : decode cX8_bestGuesses 36 = .ok (.istore_n 3, 1) := by decide +kernel
theorem dX8_bestGuesses_37 : decode cX8_bestGuesses 37 = .ok (.iconst 0, 1) := by decide +kernel
theorem dX8_bestGuesses_38 : decode cX8_bestGuesses 38 = .ok (.istore 4, 2) := by decide +kernel
theorem dX8_bestGuesses_40 : decode cX8_bestGuesses 40 = .ok (.iconst 1, 1) := by decide +kernel
theorem dX8_bestGuesses_41 : decode cX8_bestGuesses 41 = .ok (.istore 5, 2) := by decide +kernel
theorem dX8_bestGuesses_43 : decode cX8_bestGuesses 43 = .ok (.iload 5, 2) := by decide +kernel
theorem dX8_bestGuesses_45 : decode cX8_bestGuesses 45 = .ok (.iconst 1, 1) := by decide +kernel
theorem dX8_bestGuesses_46 : decode cX8_bestGuesses 46 = .ok (.iload_n 2, 1) := by decide +kernel
theorem dX8_bestGuesses_47 : decode cX8_bestGuesses 47 = .ok (.ishl, 1) := by decide +kernel
theorem dX8_bestGuesses_48 : decode cX8_bestGuesses 48 = .ok (.if_icmp .ge 197, 3) := by decide +kernel
theorem dX8_bestGuesses_51 : decode cX8_bestGuesses 51 = .ok (.lconst 0, 1) := by decide +kernel
theorem dX8_bestGuesses_52 : decode cX8_bestGuesses 52 = .ok (.lstore 6, 2) := by decide +kernel
theorem dX8_bestGuesses_54 : decode cX8_bestGuesses 54 = .ok (.iconst 0, 1) := by decide +kernel
theorem dX8_bestGuesses_55 : decode cX8_bestGuesses 55 = .ok (.istore 8, 2) := by decide +kernel
theorem dX8_bestGuesses_57 : decode cX8_bestGuesses 57 = .ok (.iconst 1, 1) := by decide +kernel
theorem dX8_bestGuesses_58 : decode cX8_bestGuesses 58 = .ok (.istore 9, 2) := by decide +kernel
theorem dX8_bestGuesses_60 : decode cX8_bestGuesses 60 = .ok (.iconst 0, 1) := by decide +kernel
theorem dX8_bestGuesses_61 : decode cX8_bestGuesses 61 = .ok (.istore 10, 2) := by decide +kernel
theorem dX8_bestGuesses_63 : decode cX8_bestGuesses 63 = .ok (.iload 10, 2) := by decide +kernel
theorem dX8_bestGuesses_65 : decode cX8_bestGuesses 65 = .ok (.iload_n 2, 1) := by decide +kernel
theorem dX8_bestGuesses_66 : decode cX8_bestGuesses 66 = .ok (.if_icmp .ge 128, 3) := by decide +kernel
theorem dX8_bestGuesses_69 : decode cX8_bestGuesses 69 = .ok (.iload 9, 2) := by decide +kernel
theorem dX8_bestGuesses_71 : decode cX8_bestGuesses 71 = .ok (.ifCond .eq 123, 3) := by decide +kernel
theorem dX8_bestGuesses_74 : decode cX8_bestGuesses 74 = .ok (.aload_n 0, 1) := by decide +kernel
theorem dX8_bestGuesses_75 : decode cX8_bestGuesses 75 = .ok (.getfield 46, 3) := by decide +kernel
theorem dX8_bestGuesses_78 : decode cX8_bestGuesses 78 = .ok (.iload 10, 2) := by decide +kernel
theorem dX8_bestGuesses_80 : decode cX8_bestGuesses 80 = .ok (.iaload, 1) := by decide +kernel
theorem dX8_bestGuesses_81 : decode cX8_bestGuesses 81 = .ok (.istore 11, 2) := by decide +kernel
theorem dX8_bestGuesses_83 : decode cX8_bestGuesses 83 = .ok (.iconst 0, 1) := by decide +kernel
theorem dX8_bestGuesses_84 : decode cX8_bestGuesses 84 = .ok (.istore 12, 2) := by decide +kernel
theorem dX8_bestGuesses_86 : decode cX8_bestGuesses 86 = .ok (.iload 12, 2) := by decide +kernel
theorem dX8_bestGuesses_88 : decode cX8_bestGuesses 88 = .ok (.aload_n 0, 1) := by decide +kernel
theorem dX8_bestGuesses_89 : decode cX8_bestGuesses 89 = .ok (.getfield 31, 3) := by decide +kernel
theorem dX8_bestGuesses_92 : decode cX8_bestGuesses 92 = .ok (.iload 11, 2) := by decide +kernel
theorem dX8_bestGuesses_94 : decode cX8_bestGuesses 94 = .ok (.iaload, 1) := by decide +kernel
theorem dX8_bestGuesses_95 : decode cX8_bestGuesses 95 = .ok (.if_icmp .ge 66, 3) := by decide +kernel
theorem dX8_bestGuesses_98 : decode cX8_bestGuesses 98 = .ok (.iload 5, 2) := by decide +kernel
theorem dX8_bestGuesses_100 : decode cX8_bestGuesses 100 = .ok (.iload 10, 2) := by decide +kernel
theorem dX8_bestGuesses_102 : decode cX8_bestGuesses 102 = .ok (.ishr, 1) := by decide +kernel
theorem dX8_bestGuesses_103 : decode cX8_bestGuesses 103 = .ok (.iconst 1, 1) := by decide +kernel
theorem dX8_bestGuesses_104 : decode cX8_bestGuesses 104 = .ok (.iand, 1) := by decide +kernel
theorem dX8_bestGuesses_105 : decode cX8_bestGuesses 105 = .ok (.iconst 1, 1) := by decide +kernel
theorem dX8_bestGuesses_106 : decode cX8_bestGuesses 106 = .ok (.if_icmp .ne 55, 3) := by decide +kernel
theorem dX8_bestGuesses_109 : decode cX8_bestGuesses 109 = .ok (.lconst 1, 1) := by decide +kernel
theorem dX8_bestGuesses_110 : decode cX8_bestGuesses 110 = .ok (.aload_n 0, 1) := by decide +kernel
theorem dX8_bestGuesses_111 : decode cX8_bestGuesses 111 = .ok (.getfield 43, 3) := by decide +kernel
theorem dX8_bestGuesses_114 : decode cX8_bestGuesses 114 = .ok (.bipush 12, 2) := by decide +kernel
theorem dX8_bestGuesses_116 : decode cX8_bestGuesses 116 = .ok (.iload 11, 2) := by decide +kernel
theorem dX8_bestGuesses_118 : decode cX8_bestGuesses 118 = .ok (.imul, 1) := by decide +kernel
theorem dX8_bestGuesses_119 : decode cX8_bestGuesses 119 = .ok (.iload 12, 2) := by decide +kernel
theorem dX8_bestGuesses_121 : decode cX8_bestGuesses 121 = .ok (.iadd, 1) := by decide +kernel
theorem dX8_bestGuesses_122 : decode cX8_bestGuesses 122 = .ok (.iaload, 1) := by decide +kernel
theorem dX8_bestGuesses_123 : decode cX8_bestGuesses 123 = .ok (.lshl, 1) := by decide +kernel
theorem dX8_bestGuesses_124 : decode cX8_bestGuesses 124 = .ok (.lstore 13, 2) := by decide +kernel
theorem dX8_bestGuesses_126 : decode cX8_bestGuesses 126 = .ok (.iload 9, 2) := by decide +kernel
theorem dX8_bestGuesses_128 : decode cX8_bestGuesses 128 = .ok (.ifCond .eq 17, 3) := by decide +kernel
theorem dX8_bestGuesses_131 : decode cX8_bestGuesses 131 = .ok (.lload 6, 2) := by decide +kernel
theorem dX8_bestGuesses_133 : decode cX8_bestGuesses 133 = .ok (.lload 13, 2) := by decide +kernel
theorem dX8_bestGuesses_135 : decode cX8_bestGuesses 135 = .ok (.land, 1) := by decide +kernel
theorem dX8_bestGuesses_136 : decode cX8_bestGuesses 136 = .ok (.lconst 0, 1) := by decide +kernel
theorem dX8_bestGuesses_137 : decode cX8_bestGuesses 137 = .ok (.lcmp, 1) := by decide +kernel
theorem dX8_bestGuesses_138 : decode cX8_bestGuesses 138 = .ok (.ifCond .ne 7, 3) := by decide +kernel
theorem dX8_bestGuesses_141 : decode cX8_bestGuesses 141 = .ok (.iconst 1, 1) := by decide +kernel
theorem dX8_bestGuesses_142 : decode cX8_bestGuesses 142 = .ok (.goto 4, 3) := by decide +kernel
theorem dX8_bestGuesses_145 : decode cX8_bestGuesses 145 = .ok (.iconst 0, 1) := by decide +kernel
theorem dX8_bestGuesses_146 : decode cX8_bestGuesses 146 = .ok (.istore 9, 2) := by decide +kernel
theorem dX8_bestGuesses_148 : decode cX8_bestGuesses 148 = .ok (.lload 6, 2) := by decide +kernel
theorem dX8_bestGuesses_150 : decode cX8_bestGuesses 150 = .ok (.lload 13, 2) := by decide +kernel
theorem dX8_bestGuesses_152 : decode cX8_bestGuesses 152 = .ok (.lor, 1) := by decide +kernel
theorem dX8_bestGuesses_153 : decode cX8_bestGuesses 153 = .ok (.lstore 6, 2) := by decide +kernel
theorem dX8_bestGuesses_155 : decode cX8_bestGuesses 155 = .ok (.iinc 12 1, 3) := by decide +kernel
theorem dX8_bestGuesses_158 : decode cX8_bestGuesses 158 = .ok (.goto (-72), 3) := by decide +kernel
theorem dX8_bestGuesses_161 : decode cX8_bestGuesses 161 = .ok (.iload 8, 2) := by decide +kernel
theorem dX8_bestGuesses_163 : decode cX8_bestGuesses 163 = .ok (.iload 5, 2) := by decide +kernel
theorem dX8_bestGuesses_165 : decode cX8_bestGuesses 165 = .ok (.iload 10, 2) := by decide +kernel
theorem dX8_bestGuesses_167 : decode cX8_bestGuesses 167 = .ok (.ishr, 1) := by decide +kernel
theorem dX8_bestGuesses_168 : decode cX8_bestGuesses 168 = .ok (.iconst 1, 1) := by decide +kernel
theorem dX8_bestGuesses_169 : decode cX8_bestGuesses 169 = .ok (.iand, 1) := by decide +kernel
theorem dX8_bestGuesses_170 : decode cX8_bestGuesses 170 = .ok (.iconst 1, 1) := by decide +kernel
theorem dX8_bestGuesses_171 : decode cX8_bestGuesses 171 = .ok (.if_icmp .ne 13, 3) := by decide +kernel
theorem dX8_bestGuesses_174 : decode cX8_bestGuesses 174 = .ok (.aload_n 0, 1) := by decide +kernel
theorem dX8_bestGuesses_175 : decode cX8_bestGuesses 175 = .ok (.getfield 40, 3) := by decide +kernel
theorem dX8_bestGuesses_178 : decode cX8_bestGuesses 178 = .ok (.iload 11, 2) := by decide +kernel
theorem dX8_bestGuesses_180 : decode cX8_bestGuesses 180 = .ok (.iaload, 1) := by decide +kernel
theorem dX8_bestGuesses_181 : decode cX8_bestGuesses 181 = .ok (.goto 4, 3) := by decide +kernel
theorem dX8_bestGuesses_184 : decode cX8_bestGuesses 184 = .ok (.iconst 0, 1) := by decide +kernel
theorem dX8_bestGuesses_185 : decode cX8_bestGuesses 185 = .ok (.iadd, 1) := by decide +kernel
theorem dX8_bestGuesses_186 : decode cX8_bestGuesses 186 = .ok (.istore 8, 2) := by decide +kernel
theorem dX8_bestGuesses_188 : decode cX8_bestGuesses 188 = .ok (.iinc 10 1, 3) := by decide +kernel
theorem dX8_bestGuesses_191 : decode cX8_bestGuesses 191 = .ok (.goto (-128), 3) := by decide +kernel
theorem dX8_bestGuesses_194 : decode cX8_bestGuesses 194 = .ok (.iload 9, 2) := by decide +kernel
theorem dX8_bestGuesses_196 : decode cX8_bestGuesses 196 = .ok (.ifCond .eq 14, 3) := by decide +kernel
theorem dX8_bestGuesses_199 : decode cX8_bestGuesses 199 = .ok (.iload 8, 2) := by decide +kernel
theorem dX8_bestGuesses_201 : decode cX8_bestGuesses 201 = .ok (.iload 4, 2) := by decide +kernel
theorem dX8_bestGuesses_203 : decode cX8_bestGuesses 203 = .ok (.if_icmp .le 7, 3) := by decide +kernel
theorem dX8_bestGuesses_206 : decode cX8_bestGuesses 206 = .ok (.iconst 1, 1) := by decide +kernel
theorem dX8_bestGuesses_207 : decode cX8_bestGuesses 207 = .ok (.goto 4, 3) := by decide +kernel
theorem dX8_bestGuesses_210 : decode cX8_bestGuesses 210 = .ok (.iconst 0, 1) := by decide +kernel
theorem dX8_bestGuesses_211 : decode cX8_bestGuesses 211 = .ok (.istore 10, 2) := by decide +kernel
theorem dX8_bestGuesses_213 : decode cX8_bestGuesses 213 = .ok (.iload 10, 2) := by decide +kernel
theorem dX8_bestGuesses_215 : decode cX8_bestGuesses 215 = .ok (.ifCond .eq 8, 3) := by decide +kernel
theorem dX8_bestGuesses_218 : decode cX8_bestGuesses 218 = .ok (.iload 5, 2) := by decide +kernel
theorem dX8_bestGuesses_220 : decode cX8_bestGuesses 220 = .ok (.goto 4, 3) := by decide +kernel
theorem dX8_bestGuesses_223 : decode cX8_bestGuesses 223 = .ok (.iload_n 3, 1) := by decide +kernel
theorem dX8_bestGuesses_224 : decode cX8_bestGuesses 224 = .ok (.istore_n 3, 1) := by decide +kernel
theorem dX8_bestGuesses_225 : decode cX8_bestGuesses 225 = .ok (.iload 10, 2) := by decide +kernel
theorem dX8_bestGuesses_227 : decode cX8_bestGuesses 227 = .ok (.ifCond .eq 8, 3) := by decide +kernel
theorem dX8_bestGuesses_230 : decode cX8_bestGuesses 230 = .ok (.iload 8, 2) := by decide +kernel
theorem dX8_bestGuesses_232 : decode cX8_bestGuesses 232 = .ok (.goto 5, 3) := by decide +kernel
theorem dX8_bestGuesses_235 : decode cX8_bestGuesses 235 = .ok (.iload 4, 2) := by decide +kernel
theorem dX8_bestGuesses_237 : decode cX8_bestGuesses 237 = .ok (.istore 4, 2) := by decide +kernel
theorem dX8_bestGuesses_239 : decode cX8_bestGuesses 239 = .ok (.iinc 5 1, 3) := by decide +kernel
theorem dX8_bestGuesses_242 : decode cX8_bestGuesses 242 = .ok (.goto (-199), 3) := by decide +kernel
theorem dX8_bestGuesses_245 : decode cX8_bestGuesses 245 = .ok (.iload_n 1, 1) := by decide +kernel
theorem dX8_bestGuesses_246 : decode cX8_bestGuesses 246 = .ok (.ifCond .ne 7, 3) := by decide +kernel
theorem dX8_bestGuesses_249 : decode cX8_bestGuesses 249 = .ok (.iload_n 3, 1) := by decide +kernel
theorem dX8_bestGuesses_250 : decode cX8_bestGuesses 250 = .ok (.goto 5, 3) := by decide +kernel
theorem dX8_bestGuesses_253 : decode cX8_bestGuesses 253 = .ok (.iload 4, 2) := by decide +kernel
theorem dX8_bestGuesses_255 : decode cX8_bestGuesses 255 = .ok (.ireturn, 1) := by decide +kernel
theorem dX8_sum_0 : decode cX8_sum 0 = .ok (.iconst 0, 1) := by decide +kernel
theorem dX8_sum_1 : decode cX8_sum 1 = .ok (.istore_n 1, 1) := by decide +kernel
theorem dX8_sum_2 : decode cX8_sum 2 = .ok (.iconst 0, 1) := by decide +kernel
theorem dX8_sum_3 : decode cX8_sum 3 = .ok (.istore_n 2, 1) := by decide +kernel
theorem dX8_sum_4 : decode cX8_sum 4 = .ok (.iload_n 2, 1) := by decide +kernel
theorem dX8_sum_5 : decode cX8_sum 5 = .ok (.aload_n 0, 1) := by decide +kernel
theorem dX8_sum_6 : decode cX8_sum 6 = .ok (.getfield 110, 3) := by decide +kernel
theorem dX8_sum_9 : decode cX8_sum 9 = .ok (.if_icmp .ge 18, 3) := by decide +kernel
theorem dX8_sum_12 : decode cX8_sum 12 = .ok (.iload_n 1, 1) := by decide +kernel
theorem dX8_sum_13 : decode cX8_sum 13 = .ok (.aload_n 0, 1) := by decide +kernel
theorem dX8_sum_14 : decode cX8_sum 14 = .ok (.getfield 40, 3) := by decide +kernel
theorem dX8_sum_17 : decode cX8_sum 17 = .ok (.iload_n 2, 1) := by decide +kernel
theorem dX8_sum_18 : decode cX8_sum 18 = .ok (.iaload, 1) := by decide +kernel
theorem dX8_sum_19 : decode cX8_sum 19 = .ok (.iadd, 1) := by decide +kernel
theorem dX8_sum_20 : decode cX8_sum 20 = .ok (.istore_n 1, 1) := by decide +kernel
theorem dX8_sum_21 : decode cX8_sum 21 = .ok (.iinc 2 1, 3) := by decide +kernel
theorem dX8_sum_24 : decode cX8_sum 24 = .ok (.goto (-20), 3) := by decide +kernel
theorem dX8_sum_27 : decode cX8_sum 27 = .ok (.iload_n 1, 1) := by decide +kernel
theorem dX8_sum_28 : decode cX8_sum 28 = .ok (.ireturn, 1) := by decide +kernel
theorem dX8_then_0 : decode cX8_then 0 = .ok (.aload_n 0, 1) := by decide +kernel
theorem dX8_then_1 : decode cX8_then 1 = .ok (.getfield 7, 3) := by decide +kernel
theorem dX8_then_4 : decode cX8_then 4 = .ok (.aload_n 0, 1) := by decide +kernel
theorem dX8_then_5 : decode cX8_then 5 = .ok (.getfield 19, 3) := by decide +kernel
theorem dX8_then_8 : decode cX8_then 8 = .ok (.invokestatic 135, 3) := by decide +kernel
theorem dX8_then_11 : decode cX8_then 11 = .ok (.iconst 0, 1) := by decide +kernel
theorem dX8_then_12 : decode cX8_then 12 = .ok (.istore_n 3, 1) := by decide +kernel
theorem dX8_then_13 : decode cX8_then 13 = .ok (.iconst 0, 1) := by decide +kernel
theorem dX8_then_14 : decode cX8_then 14 = .ok (.istore 4, 2) := by decide +kernel
theorem dX8_then_16 : decode cX8_then 16 = .ok (.iload 4, 2) := by decide +kernel
theorem dX8_then_18 : decode cX8_then 18 = .ok (.iload_n 1, 1) := by decide +kernel
theorem dX8_then_19 : decode cX8_then 19 = .ok (.if_icmp .ge 52, 3) := by decide +kernel
theorem dX8_then_22 : decode cX8_then 22 = .ok (.iload_n 3, 1) := by decide +kernel
theorem dX8_then_23 : decode cX8_then 23 = .ok (.aload_n 0, 1) := by decide +kernel
theorem dX8_then_24 : decode cX8_then 24 = .ok (.getfield 7, 3) := by decide +kernel
theorem dX8_then_27 : decode cX8_then 27 = .ok (.iconst 0, 1) := by decide +kernel
theorem dX8_then_28 : decode cX8_then 28 = .ok (.aload_n 0, 1) := by decide +kernel
theorem dX8_then_29 : decode cX8_then 29 = .ok (.getfield 25, 3) := by decide +kernel
theorem dX8_then_32 : decode cX8_then 32 = .ok (.iload 4, 2) := by decide +kernel
theorem dX8_then_34 : decode cX8_then 34 = .ok (.iaload, 1) := by decide +kernel
theorem dX8_then_35 : decode cX8_then 35 = .ok (.iadd, 1) := by decide +kernel
theorem dX8_then_36 : decode cX8_then 36 = .ok (.iaload, 1) := by decide +kernel
theorem dX8_then_37 : decode cX8_then 37 = .ok (.ifCond .le 7, 3) := by decide +kernel
theorem dX8_then_40 : decode cX8_then 40 = .ok (.iconst 1, 1) := by decide +kernel
theorem dX8_then_41 : decode cX8_then 41 = .ok (.goto 4, 3) := by decide +kernel
theorem dX8_then_44 : decode cX8_then 44 = .ok (.iconst 0, 1) := by decide +kernel
theorem dX8_then_45 : decode cX8_then 45 = .ok (.iadd, 1) := by decide +kernel
theorem dX8_then_46 : decode cX8_then 46 = .ok (.istore_n 3, 1) := by decide +kernel
theorem dX8_then_47 : decode cX8_then 47 = .ok (.aload_n 0, 1) := by decide +kernel
theorem dX8_then_48 : decode cX8_then 48 = .ok (.getfield 7, 3) := by decide +kernel
theorem dX8_then_51 : decode cX8_then 51 = .ok (.sipush 160, 3) := by decide +kernel
theorem dX8_then_54 : decode cX8_then 54 = .ok (.aload_n 0, 1) := by decide +kernel
theorem dX8_then_55 : decode cX8_then 55 = .ok (.getfield 25, 3) := by decide +kernel
theorem dX8_then_58 : decode cX8_then 58 = .ok (.iload 4, 2) := by decide +kernel
theorem dX8_then_60 : decode cX8_then 60 = .ok (.iaload, 1) := by decide +kernel
theorem dX8_then_61 : decode cX8_then 61 = .ok (.iadd, 1) := by decide +kernel
theorem dX8_then_62 : decode cX8_then 62 = .ok (.bipush 30, 2) := by decide +kernel
theorem dX8_then_64 : decode cX8_then 64 = .ok (.iastore, 1) := by decide +kernel
theorem dX8_then_65 : decode cX8_then 65 = .ok (.iinc 4 1, 3) := by decide +kernel
theorem dX8_then_68 : decode cX8_then 68 = .ok (.goto (-52), 3) := by decide +kernel
theorem dX8_then_71 : decode cX8_then 71 = .ok (.aload_n 0, 1) := by decide +kernel
theorem dX8_then_72 : decode cX8_then 72 = .ok (.invokevirtual 126, 3) := by decide +kernel
theorem dX8_then_75 : decode cX8_then 75 = .ok (.aload_n 0, 1) := by decide +kernel
theorem dX8_then_76 : decode cX8_then 76 = .ok (.getfield 19, 3) := by decide +kernel
theorem dX8_then_79 : decode cX8_then 79 = .ok (.aload_n 0, 1) := by decide +kernel
theorem dX8_then_80 : decode cX8_then 80 = .ok (.getfield 7, 3) := by decide +kernel
theorem dX8_then_83 : decode cX8_then 83 = .ok (.invokestatic 135, 3) := by decide +kernel
theorem dX8_then_86 : decode cX8_then 86 = .ok (.iload_n 2, 1) := by decide +kernel
theorem dX8_then_87 : decode cX8_then 87 = .ok (.ifCond .ne 12, 3) := by decide +kernel
theorem dX8_then_90 : decode cX8_then 90 = .ok (.aload_n 0, 1) := by decide +kernel
theorem dX8_then_91 : decode cX8_then 91 = .ok (.getfield 25, 3) := by decide +kernel
theorem dX8_then_94 : decode cX8_then 94 = .ok (.iconst 0, 1) := by decide +kernel
theorem dX8_then_95 : decode cX8_then 95 = .ok (.iaload, 1) := by decide +kernel
theorem dX8_then_96 : decode cX8_then 96 = .ok (.goto 32, 3) := by decide +kernel
theorem dX8_then_99 : decode cX8_then 99 = .ok (.iload_n 2, 1) := by decide +kernel
theorem dX8_then_100 : decode cX8_then 100 = .ok (.iconst 1, 1) := by decide +kernel
theorem dX8_then_101 : decode cX8_then 101 = .ok (.if_icmp .ne 7, 3) := by decide +kernel
theorem dX8_then_104 : decode cX8_then 104 = .ok (.iload_n 3, 1) := by decide +kernel
theorem dX8_then_105 : decode cX8_then 105 = .ok (.goto 23, 3) := by decide +kernel
theorem dX8_then_108 : decode cX8_then 108 = .ok (.iload_n 2, 1) := by decide +kernel
theorem dX8_then_109 : decode cX8_then 109 = .ok (.iconst 2, 1) := by decide +kernel
theorem dX8_then_110 : decode cX8_then 110 = .ok (.if_icmp .ne 10, 3) := by decide +kernel
theorem dX8_then_113 : decode cX8_then 113 = .ok (.aload_n 0, 1) := by decide +kernel
theorem dX8_then_114 : decode cX8_then 114 = .ok (.getfield 110, 3) := by decide +kernel
theorem dX8_then_117 : decode cX8_then 117 = .ok (.goto 11, 3) := by decide +kernel
theorem dX8_then_120 : decode cX8_then 120 = .ok (.sipush 3000, 3) := by decide +kernel
theorem dX8_then_123 : decode cX8_then 123 = .ok (.aload_n 0, 1) := by decide +kernel
theorem dX8_then_124 : decode cX8_then 124 = .ok (.invokevirtual 139, 3) := by decide +kernel
theorem dX8_then_127 : decode cX8_then 127 = .ok (.iadd, 1) := by decide +kernel
theorem dX8_then_128 : decode cX8_then 128 = .ok (.ireturn, 1) := by decide +kernel
theorem dX8_would_0 : decode cX8_would 0 = .ok (.iload_n 1, 1) := by decide +kernel
theorem dX8_would_1 : decode cX8_would 1 = .ok (.iconst 1, 1) := by decide +kernel
theorem dX8_would_2 : decode cX8_would 2 = .ok (.bipush 12, 2) := by decide +kernel
theorem dX8_would_4 : decode cX8_would 4 = .ok (.invokestatic 52, 3) := by decide +kernel
theorem dX8_would_7 : decode cX8_would 7 = .ok (.ifCond .eq 21, 3) := by decide +kernel
theorem dX8_would_10 : decode cX8_would 10 = .ok (.iload_n 2, 1) := by decide +kernel
theorem dX8_would_11 : decode cX8_would 11 = .ok (.iconst 0, 1) := by decide +kernel
theorem dX8_would_12 : decode cX8_would 12 = .ok (.iconst 2, 1) := by decide +kernel
theorem dX8_would_13 : decode cX8_would 13 = .ok (.invokestatic 52, 3) := by decide +kernel
theorem dX8_would_16 : decode cX8_would 16 = .ok (.ifCond .eq 12, 3) := by decide +kernel
theorem dX8_would_19 : decode cX8_would 19 = .ok (.iload_n 3, 1) := by decide +kernel
theorem dX8_would_20 : decode cX8_would 20 = .ok (.iconst 0, 1) := by decide +kernel
theorem dX8_would_21 : decode cX8_would 21 = .ok (.iconst 3, 1) := by decide +kernel
theorem dX8_would_22 : decode cX8_would 22 = .ok (.invokestatic 52, 3) := by decide +kernel
theorem dX8_would_25 : decode cX8_would 25 = .ok (.ifCond .ne 6, 3) := by decide +kernel
theorem dX8_would_28 : decode cX8_would 28 = .ok (.ldc 79, 2) := by decide +kernel
theorem dX8_would_30 : decode cX8_would 30 = .ok (.ireturn, 1) := by decide +kernel
theorem dX8_would_31 : decode cX8_would 31 = .ok (.aload_n 0, 1) := by decide +kernel
theorem dX8_would_32 : decode cX8_would 32 = .ok (.iload_n 1, 1) := by decide +kernel
theorem dX8_would_33 : decode cX8_would 33 = .ok (.iload_n 2, 1) := by decide +kernel
theorem dX8_would_34 : decode cX8_would 34 = .ok (.invokevirtual 81, 3) := by decide +kernel
theorem dX8_would_37 : decode cX8_would 37 = .ok (.ifCond .eq 12, 3) := by decide +kernel
theorem dX8_would_40 : decode cX8_would 40 = .ok (.aload_n 0, 1) := by decide +kernel
theorem dX8_would_41 : decode cX8_would 41 = .ok (.iload_n 1, 1) := by decide +kernel
theorem dX8_would_42 : decode cX8_would 42 = .ok (.iload_n 3, 1) := by decide +kernel
theorem dX8_would_43 : decode cX8_would 43 = .ok (.invokevirtual 142, 3) := by decide +kernel
theorem dX8_would_46 : decode cX8_would 46 = .ok (.goto 5, 3) := by decide +kernel
theorem dX8_would_49 : decode cX8_would 49 = .ok (.ldc 85, 2) := by decide +kernel
theorem dX8_would_51 : decode cX8_would 51 = .ok (.ireturn, 1) := by decide +kernel
theorem dX8_gentlest_0 : decode cX8_gentlest 0 = .ok (.iload_n 1, 1) := by decide +kernel
theorem dX8_gentlest_1 : decode cX8_gentlest 1 = .ok (.iconst 1, 1) := by decide +kernel
theorem dX8_gentlest_2 : decode cX8_gentlest 2 = .ok (.bipush 12, 2) := by decide +kernel
theorem dX8_gentlest_4 : decode cX8_gentlest 4 = .ok (.invokestatic 52, 3) := by decide +kernel
theorem dX8_gentlest_7 : decode cX8_gentlest 7 = .ok (.ifCond .ne 6, 3) := by decide +kernel
theorem dX8_gentlest_10 : decode cX8_gentlest 10 = .ok (.ldc 79, 2) := by decide +kernel
theorem dX8_gentlest_12 : decode cX8_gentlest 12 = .ok (.ireturn, 1) := by decide +kernel
theorem dX8_gentlest_13 : decode cX8_gentlest 13 = .ok (.ldc 85, 2) := by decide +kernel
theorem dX8_gentlest_15 : decode cX8_gentlest 15 = .ok (.istore_n 2, 1) := by decide +kernel
theorem dX8_gentlest_16 : decode cX8_gentlest 16 = .ok (.ldc 145, 2) := by decide +kernel
theorem dX8_gentlest_18 : decode cX8_gentlest 18 = .ok (.istore_n 3, 1) := by decide +kernel
theorem dX8_gentlest_19 : decode cX8_gentlest 19 = .ok (.iconst 0, 1) := by decide +kernel
theorem dX8_gentlest_20 : decode cX8_gentlest 20 = .ok (.istore 4, 2) := by decide +kernel
theorem dX8_gentlest_22 : decode cX8_gentlest 22 = .ok (.iload 4, 2) := by decide +kernel
theorem dX8_gentlest_24 : decode cX8_gentlest 24 = .ok (.iconst 3, 1) := by decide +kernel
theorem dX8_gentlest_25 : decode cX8_gentlest 25 = .ok (.if_icmp .ge 66, 3) := by decide +kernel
theorem dX8_gentlest_28 : decode cX8_gentlest 28 = .ok (.aload_n 0, 1) := by decide +kernel
theorem dX8_gentlest_29 : decode cX8_gentlest 29 = .ok (.invokevirtual 93, 3) := by decide +kernel
theorem dX8_gentlest_32 : decode cX8_gentlest 32 = .ok (.iload_n 1, 1) := by decide +kernel
theorem dX8_gentlest_33 : decode cX8_gentlest 33 = .ok (.if_icmp .lt 58, 3) := by decide +kernel
theorem dX8_gentlest_36 : decode cX8_gentlest 36 = .ok (.aload_n 0, 1) := by decide +kernel
theorem dX8_gentlest_37 : decode cX8_gentlest 37 = .ok (.iload_n 1, 1) := by decide +kernel
theorem dX8_gentlest_38 : decode cX8_gentlest 38 = .ok (.iload 4, 2) := by decide +kernel
theorem dX8_gentlest_40 : decode cX8_gentlest 40 = .ok (.invokevirtual 81, 3) := by decide +kernel
theorem dX8_gentlest_43 : decode cX8_gentlest 43 = .ok (.ifCond .eq 12, 3) := by decide +kernel
theorem dX8_gentlest_46 : decode cX8_gentlest 46 = .ok (.aload_n 0, 1) := by decide +kernel
theorem dX8_gentlest_47 : decode cX8_gentlest 47 = .ok (.iload_n 1, 1) := by decide +kernel
theorem dX8_gentlest_48 : decode cX8_gentlest 48 = .ok (.iconst 3, 1) := by decide +kernel
theorem dX8_gentlest_49 : decode cX8_gentlest 49 = .ok (.invokevirtual 142, 3) := by decide +kernel
theorem dX8_gentlest_52 : decode cX8_gentlest 52 = .ok (.goto 5, 3) := by decide +kernel
theorem dX8_gentlest_55 : decode cX8_gentlest 55 = .ok (.ldc 145, 2) := by decide +kernel
theorem dX8_gentlest_57 : decode cX8_gentlest 57 = .ok (.istore 5, 2) := by decide +kernel
theorem dX8_gentlest_59 : decode cX8_gentlest 59 = .ok (.iload 5, 2) := by decide +kernel
theorem dX8_gentlest_61 : decode cX8_gentlest 61 = .ok (.iload_n 3, 1) := by decide +kernel
theorem dX8_gentlest_62 : decode cX8_gentlest 62 = .ok (.if_icmp .le 8, 3) := by decide +kernel
theorem dX8_gentlest_65 : decode cX8_gentlest 65 = .ok (.iload 4, 2) := by decide +kernel
theorem dX8_gentlest_67 : decode cX8_gentlest 67 = .ok (.goto 4, 3) := by decide +kernel
theorem dX8_gentlest_70 : decode cX8_gentlest 70 = .ok (.iload_n 2, 1) := by decide +kernel
theorem dX8_gentlest_71 : decode cX8_gentlest 71 = .ok (.istore_n 2, 1) := by decide +kernel
theorem dX8_gentlest_72 : decode cX8_gentlest 72 = .ok (.iload 5, 2) := by decide +kernel
theorem dX8_gentlest_74 : decode cX8_gentlest 74 = .ok (.iload_n 3, 1) := by decide +kernel
theorem dX8_gentlest_75 : decode cX8_gentlest 75 = .ok (.if_icmp .le 8, 3) := by decide +kernel
theorem dX8_gentlest_78 : decode cX8_gentlest 78 = .ok (.iload 5, 2) := by decide +kernel
theorem dX8_gentlest_80 : decode cX8_gentlest 80 = .ok (.goto 4, 3) := by decide +kernel
theorem dX8_gentlest_83 : decode cX8_gentlest 83 = .ok (.iload_n 3, 1) := by decide +kernel
theorem dX8_gentlest_84 : decode cX8_gentlest 84 = .ok (.istore_n 3, 1) := by decide +kernel
theorem dX8_gentlest_85 : decode cX8_gentlest 85 = .ok (.iinc 4 1, 3) := by decide +kernel
theorem dX8_gentlest_88 : decode cX8_gentlest 88 = .ok (.goto (-66), 3) := by decide +kernel
theorem dX8_gentlest_91 : decode cX8_gentlest 91 = .ok (.iload_n 2, 1) := by decide +kernel
theorem dX8_gentlest_92 : decode cX8_gentlest 92 = .ok (.ireturn, 1) := by decide +kernel
theorem dX8_guessesOf_0 : decode cX8_guessesOf 0 = .ok (.iconst 0, 1) := by decide +kernel
theorem dX8_guessesOf_1 : decode cX8_guessesOf 1 = .ok (.istore_n 2, 1) := by decide +kernel
theorem dX8_guessesOf_2 : decode cX8_guessesOf 2 = .ok (.iconst 0, 1) := by decide +kernel
theorem dX8_guessesOf_3 : decode cX8_guessesOf 3 = .ok (.istore_n 3, 1) := by decide +kernel
theorem dX8_guessesOf_4 : decode cX8_guessesOf 4 = .ok (.iload_n 3, 1) := by decide +kernel
theorem dX8_guessesOf_5 : decode cX8_guessesOf 5 = .ok (.aload_n 0, 1) := by decide +kernel
theorem dX8_guessesOf_6 : decode cX8_guessesOf 6 = .ok (.getfield 110, 3) := by decide +kernel
theorem dX8_guessesOf_9 : decode cX8_guessesOf 9 = .ok (.if_icmp .ge 26, 3) := by decide +kernel
theorem dX8_guessesOf_12 : decode cX8_guessesOf 12 = .ok (.iload_n 2, 1) := by decide +kernel
theorem dX8_guessesOf_13 : decode cX8_guessesOf 13 = .ok (.aload_n 0, 1) := by decide +kernel
theorem dX8_guessesOf_14 : decode cX8_guessesOf 14 = .ok (.iload_n 3, 1) := by decide +kernel
theorem dX8_guessesOf_15 : decode cX8_guessesOf 15 = .ok (.iload_n 1, 1) := by decide +kernel
theorem dX8_guessesOf_16 : decode cX8_guessesOf 16 = .ok (.invokevirtual 107, 3) := by decide +kernel
theorem dX8_guessesOf_19 : decode cX8_guessesOf 19 = .ok (.ifCond .eq 7, 3) := by decide +kernel
theorem dX8_guessesOf_22 : decode cX8_guessesOf 22 = .ok (.iconst 1, 1) := by decide +kernel
theorem dX8_guessesOf_23 : decode cX8_guessesOf 23 = .ok (.goto 4, 3) := by decide +kernel
theorem dX8_guessesOf_26 : decode cX8_guessesOf 26 = .ok (.iconst 0, 1) := by decide +kernel
theorem dX8_guessesOf_27 : decode cX8_guessesOf 27 = .ok (.iadd, 1) := by decide +kernel
theorem dX8_guessesOf_28 : decode cX8_guessesOf 28 = .ok (.istore_n 2, 1) := by decide +kernel
theorem dX8_guessesOf_29 : decode cX8_guessesOf 29 = .ok (.iinc 3 1, 3) := by decide +kernel
theorem dX8_guessesOf_32 : decode cX8_guessesOf 32 = .ok (.goto (-28), 3) := by decide +kernel
theorem dX8_guessesOf_35 : decode cX8_guessesOf 35 = .ok (.iload_n 2, 1) := by decide +kernel
theorem dX8_guessesOf_36 : decode cX8_guessesOf 36 = .ok (.ireturn, 1) := by decide +kernel
theorem dX8_pageOf_0 : decode cX8_pageOf 0 = .ok (.iload_n 1, 1) := by decide +kernel
theorem dX8_pageOf_1 : decode cX8_pageOf 1 = .ok (.invokestatic 64, 3) := by decide +kernel
theorem dX8_pageOf_4 : decode cX8_pageOf 4 = .ok (.ifCond .eq 13, 3) := by decide +kernel
theorem dX8_pageOf_7 : decode cX8_pageOf 7 = .ok (.iload_n 2, 1) := by decide +kernel
theorem dX8_pageOf_8 : decode cX8_pageOf 8 = .ok (.iconst 0, 1) := by decide +kernel
theorem dX8_pageOf_9 : decode cX8_pageOf 9 = .ok (.bipush 6, 2) := by decide +kernel
theorem dX8_pageOf_11 : decode cX8_pageOf 11 = .ok (.invokestatic 52, 3) := by decide +kernel
theorem dX8_pageOf_14 : decode cX8_pageOf 14 = .ok (.ifCond .ne 6, 3) := by decide +kernel
theorem dX8_pageOf_17 : decode cX8_pageOf 17 = .ok (.ldc 79, 2) := by decide +kernel
theorem dX8_pageOf_19 : decode cX8_pageOf 19 = .ok (.ireturn, 1) := by decide +kernel
theorem dX8_pageOf_20 : decode cX8_pageOf 20 = .ok (.aload_n 0, 1) := by decide +kernel
theorem dX8_pageOf_21 : decode cX8_pageOf 21 = .ok (.getfield 7, 3) := by decide +kernel
theorem dX8_pageOf_24 : decode cX8_pageOf 24 = .ok (.iconst 0, 1) := by decide +kernel
theorem dX8_pageOf_25 : decode cX8_pageOf 25 = .ok (.iload_n 1, 1) := by decide +kernel
theorem dX8_pageOf_26 : decode cX8_pageOf 26 = .ok (.iadd, 1) := by decide +kernel
theorem dX8_pageOf_27 : decode cX8_pageOf 27 = .ok (.iaload, 1) := by decide +kernel
theorem dX8_pageOf_28 : decode cX8_pageOf 28 = .ok (.istore_n 3, 1) := by decide +kernel
theorem dX8_pageOf_29 : decode cX8_pageOf 29 = .ok (.iload_n 2, 1) := by decide +kernel
theorem dX8_pageOf_30 : decode cX8_pageOf 30 = .ok (.tableswitch 148 0 5 #[38, 52, 54, 73, 93, 124], 38) := by decide +kernel
theorem dX8_pageOf_68 : decode cX8_pageOf 68 = .ok (.aload_n 0, 1) := by decide +kernel
theorem dX8_pageOf_69 : decode cX8_pageOf 69 = .ok (.iload_n 1, 1) := by decide +kernel
theorem dX8_pageOf_70 : decode cX8_pageOf 70 = .ok (.invokevirtual 68, 3) := by decide +kernel
theorem dX8_pageOf_73 : decode cX8_pageOf 73 = .ok (.ifCond .eq 7, 3) := by decide +kernel
theorem dX8_pageOf_76 : decode cX8_pageOf 76 = .ok (.iconst 1, 1) := by decide +kernel
theorem dX8_pageOf_77 : decode cX8_pageOf 77 = .ok (.goto 4, 3) := by decide +kernel
theorem dX8_pageOf_80 : decode cX8_pageOf 80 = .ok (.iconst 0, 1) := by decide +kernel
theorem dX8_pageOf_81 : decode cX8_pageOf 81 = .ok (.ireturn, 1) := by decide +kernel
theorem dX8_pageOf_82 : decode cX8_pageOf 82 = .ok (.iload_n 3, 1) := by decide +kernel
theorem dX8_pageOf_83 : decode cX8_pageOf 83 = .ok (.ireturn, 1) := by decide +kernel
theorem dX8_pageOf_84 : decode cX8_pageOf 84 = .ok (.iload_n 3, 1) := by decide +kernel
theorem dX8_pageOf_85 : decode cX8_pageOf 85 = .ok (.ifCond .ne 8, 3) := by decide +kernel
theorem dX8_pageOf_88 : decode cX8_pageOf 88 = .ok (.ldc 71, 2) := by decide +kernel
theorem dX8_pageOf_90 : decode cX8_pageOf 90 = .ok (.goto 12, 3) := by decide +kernel
theorem dX8_pageOf_93 : decode cX8_pageOf 93 = .ok (.aload_n 0, 1) := by decide +kernel
theorem dX8_pageOf_94 : decode cX8_pageOf 94 = .ok (.getfield 7, 3) := by decide +kernel
theorem dX8_pageOf_97 : decode cX8_pageOf 97 = .ok (.bipush 40, 2) := by decide +kernel
theorem dX8_pageOf_99 : decode cX8_pageOf 99 = .ok (.iload_n 1, 1) := by decide +kernel
theorem dX8_pageOf_100 : decode cX8_pageOf 100 = .ok (.iadd, 1) := by decide +kernel
theorem dX8_pageOf_101 : decode cX8_pageOf 101 = .ok (.iaload, 1) := by decide +kernel
theorem dX8_pageOf_102 : decode cX8_pageOf 102 = .ok (.ireturn, 1) := by decide +kernel
theorem dX8_pageOf_103 : decode cX8_pageOf 103 = .ok (.iload_n 3, 1) := by decide +kernel
theorem dX8_pageOf_104 : decode cX8_pageOf 104 = .ok (.iconst 1, 1) := by decide +kernel
theorem dX8_pageOf_105 : decode cX8_pageOf 105 = .ok (.if_icmp .ne 15, 3) := by decide +kernel
theorem dX8_pageOf_108 : decode cX8_pageOf 108 = .ok (.aload_n 0, 1) := by decide +kernel
theorem dX8_pageOf_109 : decode cX8_pageOf 109 = .ok (.getfield 7, 3) := by decide +kernel
theorem dX8_pageOf_112 : decode cX8_pageOf 112 = .ok (.bipush 80, 2) := by decide +kernel
theorem dX8_pageOf_114 : decode cX8_pageOf 114 = .ok (.iload_n 1, 1) := by decide +kernel
theorem dX8_pageOf_115 : decode cX8_pageOf 115 = .ok (.iadd, 1) := by decide +kernel
theorem dX8_pageOf_116 : decode cX8_pageOf 116 = .ok (.iaload, 1) := by decide +kernel
theorem dX8_pageOf_117 : decode cX8_pageOf 117 = .ok (.goto 5, 3) := by decide +kernel
theorem dX8_pageOf_120 : decode cX8_pageOf 120 = .ok (.ldc 71, 2) := by decide +kernel
theorem dX8_pageOf_122 : decode cX8_pageOf 122 = .ok (.ireturn, 1) := by decide +kernel
theorem dX8_pageOf_123 : decode cX8_pageOf 123 = .ok (.iload_n 3, 1) := by decide +kernel
theorem dX8_pageOf_124 : decode cX8_pageOf 124 = .ok (.ifCond .eq 15, 3) := by decide +kernel
theorem dX8_pageOf_127 : decode cX8_pageOf 127 = .ok (.aload_n 0, 1) := by decide +kernel
theorem dX8_pageOf_128 : decode cX8_pageOf 128 = .ok (.getfield 7, 3) := by decide +kernel
theorem dX8_pageOf_131 : decode cX8_pageOf 131 = .ok (.bipush 120, 2) := by decide +kernel
theorem dX8_pageOf_133 : decode cX8_pageOf 133 = .ok (.iload_n 1, 1) := by decide +kernel
theorem dX8_pageOf_134 : decode cX8_pageOf 134 = .ok (.iadd, 1) := by decide +kernel
theorem dX8_pageOf_135 : decode cX8_pageOf 135 = .ok (.iaload, 1) := by decide +kernel
theorem dX8_pageOf_136 : decode cX8_pageOf 136 = .ok (.ifCond .ge 8, 3) := by decide +kernel
theorem dX8_pageOf_139 : decode cX8_pageOf 139 = .ok (.ldc 71, 2) := by decide +kernel
theorem dX8_pageOf_141 : decode cX8_pageOf 141 = .ok (.goto 12, 3) := by decide +kernel
theorem dX8_pageOf_144 : decode cX8_pageOf 144 = .ok (.aload_n 0, 1) := by decide +kernel
theorem dX8_pageOf_145 : decode cX8_pageOf 145 = .ok (.getfield 7, 3) := by decide +kernel
theorem dX8_pageOf_148 : decode cX8_pageOf 148 = .ok (.bipush 120, 2) := by decide +kernel
theorem dX8_pageOf_150 : decode cX8_pageOf 150 = .ok (.iload_n 1, 1) := by decide +kernel
theorem dX8_pageOf_151 : decode cX8_pageOf 151 = .ok (.iadd, 1) := by decide +kernel
theorem dX8_pageOf_152 : decode cX8_pageOf 152 = .ok (.iaload, 1) := by decide +kernel
theorem dX8_pageOf_153 : decode cX8_pageOf 153 = .ok (.ireturn, 1) := by decide +kernel
theorem dX8_pageOf_154 : decode cX8_pageOf 154 = .ok (.aload_n 0, 1) := by decide +kernel
theorem dX8_pageOf_155 : decode cX8_pageOf 155 = .ok (.iload_n 1, 1) := by decide +kernel
theorem dX8_pageOf_156 : decode cX8_pageOf 156 = .ok (.invokevirtual 68, 3) := by decide +kernel
theorem dX8_pageOf_159 : decode cX8_pageOf 159 = .ok (.ifCond .eq 8, 3) := by decide +kernel
theorem dX8_pageOf_162 : decode cX8_pageOf 162 = .ok (.ldc 71, 2) := by decide +kernel
theorem dX8_pageOf_164 : decode cX8_pageOf 164 = .ok (.goto 13, 3) := by decide +kernel
theorem dX8_pageOf_167 : decode cX8_pageOf 167 = .ok (.aload_n 0, 1) := by decide +kernel
theorem dX8_pageOf_168 : decode cX8_pageOf 168 = .ok (.getfield 7, 3) := by decide +kernel
theorem dX8_pageOf_171 : decode cX8_pageOf 171 = .ok (.sipush 160, 3) := by decide +kernel
theorem dX8_pageOf_174 : decode cX8_pageOf 174 = .ok (.iload_n 1, 1) := by decide +kernel
theorem dX8_pageOf_175 : decode cX8_pageOf 175 = .ok (.iadd, 1) := by decide +kernel
theorem dX8_pageOf_176 : decode cX8_pageOf 176 = .ok (.iaload, 1) := by decide +kernel
theorem dX8_pageOf_177 : decode cX8_pageOf 177 = .ok (.ireturn, 1) := by decide +kernel
theorem dX8_pageOf_178 : decode cX8_pageOf 178 = .ok (.aload_n 0, 1) := by decide +kernel
theorem dX8_pageOf_179 : decode cX8_pageOf 179 = .ok (.invokevirtual 126, 3) := by decide +kernel
theorem dX8_pageOf_182 : decode cX8_pageOf 182 = .ok (.aload_n 0, 1) := by decide +kernel
theorem dX8_pageOf_183 : decode cX8_pageOf 183 = .ok (.iload_n 1, 1) := by decide +kernel
theorem dX8_pageOf_184 : decode cX8_pageOf 184 = .ok (.invokevirtual 146, 3) := by decide +kernel
theorem dX8_pageOf_187 : decode cX8_pageOf 187 = .ok (.ireturn, 1) := by decide +kernel
theorem dX8_journalOf_0 : decode cX8_journalOf 0 = .ok (.iload_n 1, 1) := by decide +kernel
theorem dX8_journalOf_1 : decode cX8_journalOf 1 = .ok (.ifCond .lt 12, 3) := by decide +kernel
theorem dX8_journalOf_4 : decode cX8_journalOf 4 = .ok (.iload_n 2, 1) := by decide +kernel
theorem dX8_journalOf_5 : decode cX8_journalOf 5 = .ok (.iconst 0, 1) := by decide +kernel
theorem dX8_journalOf_6 : decode cX8_journalOf 6 = .ok (.iconst 2, 1) := by decide +kernel
theorem dX8_journalOf_7 : decode cX8_journalOf 7 = .ok (.invokestatic 52, 3) := by decide +kernel
theorem dX8_journalOf_10 : decode cX8_journalOf 10 = .ok (.ifCond .ne 6, 3) := by decide +kernel
theorem dX8_journalOf_13 : decode cX8_journalOf 13 = .ok (.ldc 79, 2) := by decide +kernel
theorem dX8_journalOf_15 : decode cX8_journalOf 15 = .ok (.ireturn, 1) := by decide +kernel
theorem dX8_journalOf_16 : decode cX8_journalOf 16 = .ok (.iload_n 1, 1) := by decide +kernel
theorem dX8_journalOf_17 : decode cX8_journalOf 17 = .ok (.aload_n 0, 1) := by decide +kernel
theorem dX8_journalOf_18 : decode cX8_journalOf 18 = .ok (.getfield 7, 3) := by decide +kernel
theorem dX8_journalOf_21 : decode cX8_journalOf 21 = .ok (.sipush 248, 3) := by decide +kernel
theorem dX8_journalOf_24 : decode cX8_journalOf 24 = .ok (.iaload, 1) := by decide +kernel
theorem dX8_journalOf_25 : decode cX8_journalOf 25 = .ok (.if_icmp .ge 20, 3) := by decide +kernel
theorem dX8_journalOf_28 : decode cX8_journalOf 28 = .ok (.aload_n 0, 1) := by decide +kernel
theorem dX8_journalOf_29 : decode cX8_journalOf 29 = .ok (.getfield 7, 3) := by decide +kernel
theorem dX8_journalOf_32 : decode cX8_journalOf 32 = .ok (.sipush 230, 3) := by decide +kernel
theorem dX8_journalOf_35 : decode cX8_journalOf 35 = .ok (.iconst 3, 1) := by decide +kernel
theorem dX8_journalOf_36 : decode cX8_journalOf 36 = .ok (.iload_n 1, 1) := by decide +kernel
theorem dX8_journalOf_37 : decode cX8_journalOf 37 = .ok (.imul, 1) := by decide +kernel
theorem dX8_journalOf_38 : decode cX8_journalOf 38 = .ok (.iadd, 1) := by decide +kernel
theorem dX8_journalOf_39 : decode cX8_journalOf 39 = .ok (.iload_n 2, 1) := by decide +kernel
theorem dX8_journalOf_40 : decode cX8_journalOf 40 = .ok (.iadd, 1) := by decide +kernel
theorem dX8_journalOf_41 : decode cX8_journalOf 41 = .ok (.iaload, 1) := by decide +kernel
theorem dX8_journalOf_42 : decode cX8_journalOf 42 = .ok (.goto 5, 3) := by decide +kernel
theorem dX8_journalOf_45 : decode cX8_journalOf 45 = .ok (.ldc 71, 2) := by decide +kernel
theorem dX8_journalOf_47 : decode cX8_journalOf 47 = .ok (.ireturn, 1) := by decide +kernel
theorem dX8_files_0 : decode cX8_files 0 = .ok (.iconst 0, 1) := by decide +kernel
theorem dX8_files_1 : decode cX8_files 1 = .ok (.istore_n 1, 1) := by decide +kernel
theorem dX8_files_2 : decode cX8_files 2 = .ok (.iconst 0, 1) := by decide +kernel
theorem dX8_files_3 : decode cX8_files 3 = .ok (.istore_n 2, 1) := by decide +kernel
theorem dX8_files_4 : decode cX8_files 4 = .ok (.iload_n 2, 1) := by decide +kernel
theorem dX8_files_5 : decode cX8_files 5 = .ok (.bipush 30, 2) := by decide +kernel
theorem dX8_files_7 : decode cX8_files 7 = .ok (.if_icmp .ge 30, 3) := by decide +kernel
theorem dX8_files_10 : decode cX8_files 10 = .ok (.iload_n 1, 1) := by decide +kernel
theorem dX8_files_11 : decode cX8_files 11 = .ok (.aload_n 0, 1) := by decide +kernel
theorem dX8_files_12 : decode cX8_files 12 = .ok (.getfield 7, 3) := by decide +kernel
theorem dX8_files_15 : decode cX8_files 15 = .ok (.sipush 200, 3) := by decide +kernel
theorem dX8_files_18 : decode cX8_files 18 = .ok (.iload_n 2, 1) := by decide +kernel
theorem dX8_files_19 : decode cX8_files 19 = .ok (.iadd, 1) := by decide +kernel
theorem dX8_files_20 : decode cX8_files 20 = .ok (.iaload, 1) := by decide +kernel
theorem dX8_files_21 : decode cX8_files 21 = .ok (.ifCond .ge 7, 3) := by decide +kernel
theorem dX8_files_24 : decode cX8_files 24 = .ok (.iconst 0, 1) := by decide +kernel
theorem dX8_files_25 : decode cX8_files 25 = .ok (.goto 4, 3) := by decide +kernel
theorem dX8_files_28 : decode cX8_files 28 = .ok (.iconst 1, 1) := by decide +kernel
theorem dX8_files_29 : decode cX8_files 29 = .ok (.iadd, 1) := by decide +kernel
theorem dX8_files_30 : decode cX8_files 30 = .ok (.istore_n 1, 1) := by decide +kernel
theorem dX8_files_31 : decode cX8_files 31 = .ok (.iinc 2 1, 3) := by decide +kernel
theorem dX8_files_34 : decode cX8_files 34 = .ok (.goto (-30), 3) := by decide +kernel
theorem dX8_files_37 : decode cX8_files 37 = .ok (.iload_n 1, 1) := by decide +kernel
theorem dX8_files_38 : decode cX8_files 38 = .ok (.ireturn, 1) := by decide +kernel
theorem dX8_runsOf_0 : decode cX8_runsOf 0 = .ok (.iconst 0, 1) := by decide +kernel
theorem dX8_runsOf_1 : decode cX8_runsOf 1 = .ok (.istore_n 2, 1) := by decide +kernel
theorem dX8_runsOf_2 : decode cX8_runsOf 2 = .ok (.iconst 0, 1) := by decide +kernel
theorem dX8_runsOf_3 : decode cX8_runsOf 3 = .ok (.istore_n 3, 1) := by decide +kernel
theorem dX8_runsOf_4 : decode cX8_runsOf 4 = .ok (.iconst 0, 1) := by decide +kernel
theorem dX8_runsOf_5 : decode cX8_runsOf 5 = .ok (.istore 4, 2) := by decide +kernel
theorem dX8_runsOf_7 : decode cX8_runsOf 7 = .ok (.iconst 0, 1) := by decide +kernel
theorem dX8_runsOf_8 : decode cX8_runsOf 8 = .ok (.istore 5, 2) := by decide +kernel
theorem dX8_runsOf_10 : decode cX8_runsOf 10 = .ok (.iload 5, 2) := by decide +kernel
theorem dX8_runsOf_12 : decode cX8_runsOf 12 = .ok (.bipush 40, 2) := by decide +kernel
theorem dX8_runsOf_14 : decode cX8_runsOf 14 = .ok (.if_icmp .ge 55, 3) := by decide +kernel
theorem dX8_runsOf_17 : decode cX8_runsOf 17 = .ok (.aload_n 0, 1) := by decide +kernel
theorem dX8_runsOf_18 : decode cX8_runsOf 18 = .ok (.iload 5, 2) := by decide +kernel
theorem dX8_runsOf_20 : decode cX8_runsOf 20 = .ok (.invokevirtual 68, 3) := by decide +kernel
theorem dX8_runsOf_23 : decode cX8_runsOf 23 = .ok (.ifCond .eq 10, 3) := by decide +kernel
theorem dX8_runsOf_26 : decode cX8_runsOf 26 = .ok (.iload 4, 2) := by decide +kernel
theorem dX8_runsOf_28 : decode cX8_runsOf 28 = .ok (.iconst 1, 1) := by decide +kernel
theorem dX8_runsOf_29 : decode cX8_runsOf 29 = .ok (.iadd, 1) := by decide +kernel
theorem dX8_runsOf_30 : decode cX8_runsOf 30 = .ok (.goto 4, 3) := by decide +kernel
theorem dX8_runsOf_33 : decode cX8_runsOf 33 = .ok (.iconst 0, 1) := by decide +kernel
theorem dX8_runsOf_34 : decode cX8_runsOf 34 = .ok (.istore 4, 2) := by decide +kernel
theorem dX8_runsOf_36 : decode cX8_runsOf 36 = .ok (.iload_n 2, 1) := by decide +kernel
theorem dX8_runsOf_37 : decode cX8_runsOf 37 = .ok (.iload 4, 2) := by decide +kernel
theorem dX8_runsOf_39 : decode cX8_runsOf 39 = .ok (.iconst 1, 1) := by decide +kernel
theorem dX8_runsOf_40 : decode cX8_runsOf 40 = .ok (.if_icmp .ne 7, 3) := by decide +kernel
theorem dX8_runsOf_43 : decode cX8_runsOf 43 = .ok (.iconst 1, 1) := by decide +kernel
theorem dX8_runsOf_44 : decode cX8_runsOf 44 = .ok (.goto 4, 3) := by decide +kernel
theorem dX8_runsOf_47 : decode cX8_runsOf 47 = .ok (.iconst 0, 1) := by decide +kernel
theorem dX8_runsOf_48 : decode cX8_runsOf 48 = .ok (.iadd, 1) := by decide +kernel
theorem dX8_runsOf_49 : decode cX8_runsOf 49 = .ok (.istore_n 2, 1) := by decide +kernel
theorem dX8_runsOf_50 : decode cX8_runsOf 50 = .ok (.iload 4, 2) := by decide +kernel
theorem dX8_runsOf_52 : decode cX8_runsOf 52 = .ok (.iload_n 3, 1) := by decide +kernel
theorem dX8_runsOf_53 : decode cX8_runsOf 53 = .ok (.if_icmp .le 8, 3) := by decide +kernel
theorem dX8_runsOf_56 : decode cX8_runsOf 56 = .ok (.iload 4, 2) := by decide +kernel
theorem dX8_runsOf_58 : decode cX8_runsOf 58 = .ok (.goto 4, 3) := by decide +kernel
theorem dX8_runsOf_61 : decode cX8_runsOf 61 = .ok (.iload_n 3, 1) := by decide +kernel
theorem dX8_runsOf_62 : decode cX8_runsOf 62 = .ok (.istore_n 3, 1) := by decide +kernel
theorem dX8_runsOf_63 : decode cX8_runsOf 63 = .ok (.iinc 5 1, 3) := by decide +kernel
theorem dX8_runsOf_66 : decode cX8_runsOf 66 = .ok (.goto (-56), 3) := by decide +kernel
theorem dX8_runsOf_69 : decode cX8_runsOf 69 = .ok (.iload_n 1, 1) := by decide +kernel
theorem dX8_runsOf_70 : decode cX8_runsOf 70 = .ok (.ifCond .eq 7, 3) := by decide +kernel
theorem dX8_runsOf_73 : decode cX8_runsOf 73 = .ok (.iload_n 3, 1) := by decide +kernel
theorem dX8_runsOf_74 : decode cX8_runsOf 74 = .ok (.goto 4, 3) := by decide +kernel
theorem dX8_runsOf_77 : decode cX8_runsOf 77 = .ok (.iload_n 2, 1) := by decide +kernel
theorem dX8_runsOf_78 : decode cX8_runsOf 78 = .ok (.ireturn, 1) := by decide +kernel
theorem dX8_left_0 : decode cX8_left 0 = .ok (.iconst 0, 1) := by decide +kernel
theorem dX8_left_1 : decode cX8_left 1 = .ok (.istore_n 1, 1) := by decide +kernel
theorem dX8_left_2 : decode cX8_left 2 = .ok (.iconst 0, 1) := by decide +kernel
theorem dX8_left_3 : decode cX8_left 3 = .ok (.istore_n 2, 1) := by decide +kernel
theorem dX8_left_4 : decode cX8_left 4 = .ok (.iload_n 2, 1) := by decide +kernel
theorem dX8_left_5 : decode cX8_left 5 = .ok (.bipush 40, 2) := by decide +kernel
theorem dX8_left_7 : decode cX8_left 7 = .ok (.if_icmp .ge 36, 3) := by decide +kernel
theorem dX8_left_10 : decode cX8_left 10 = .ok (.iload_n 1, 1) := by decide +kernel
theorem dX8_left_11 : decode cX8_left 11 = .ok (.aload_n 0, 1) := by decide +kernel
theorem dX8_left_12 : decode cX8_left 12 = .ok (.iload_n 2, 1) := by decide +kernel
theorem dX8_left_13 : decode cX8_left 13 = .ok (.invokevirtual 68, 3) := by decide +kernel
theorem dX8_left_16 : decode cX8_left 16 = .ok (.ifCond .eq 18, 3) := by decide +kernel
theorem dX8_left_19 : decode cX8_left 19 = .ok (.aload_n 0, 1) := by decide +kernel
theorem dX8_left_20 : decode cX8_left 20 = .ok (.getfield 7, 3) := by decide +kernel
theorem dX8_left_23 : decode cX8_left 23 = .ok (.iconst 0, 1) := by decide +kernel
theorem dX8_left_24 : decode cX8_left 24 = .ok (.iload_n 2, 1) := by decide +kernel
theorem dX8_left_25 : decode cX8_left 25 = .ok (.iadd, 1) := by decide +kernel
theorem dX8_left_26 : decode cX8_left 26 = .ok (.iaload, 1) := by decide +kernel
theorem dX8_left_27 : decode cX8_left 27 = .ok (.ifCond .le 7, 3) := by decide +kernel
theorem dX8_left_30 : decode cX8_left 30 = .ok (.iconst 1, 1) := by decide +kernel
theorem dX8_left_31 : decode cX8_left 31 = .ok (.goto 4, 3) := by decide +kernel
theorem dX8_left_34 : decode cX8_left 34 = .ok (.iconst 0, 1) := by decide +kernel
theorem dX8_left_35 : decode cX8_left 35 = .ok (.iadd, 1) := by decide +kernel
theorem dX8_left_36 : decode cX8_left 36 = .ok (.istore_n 1, 1) := by decide +kernel
theorem dX8_left_37 : decode cX8_left 37 = .ok (.iinc 2 1, 3) := by decide +kernel
theorem dX8_left_40 : decode cX8_left 40 = .ok (.goto (-36), 3) := by decide +kernel
theorem dX8_left_43 : decode cX8_left 43 = .ok (.iload_n 1, 1) := by decide +kernel
theorem dX8_left_44 : decode cX8_left 44 = .ok (.ireturn, 1) := by decide +kernel
theorem dX8_count_0 : decode cX8_count 0 = .ok (.aload_n 0, 1) := by decide +kernel
theorem dX8_count_1 : decode cX8_count 1 = .ok (.invokevirtual 126, 3) := by decide +kernel
theorem dX8_count_4 : decode cX8_count 4 = .ok (.iload_n 1, 1) := by decide +kernel
theorem dX8_count_5 : decode cX8_count 5 = .ok (.tableswitch 145 0 12 #[67, 72, 77, 82, 87, 96, 105, 105, 105, 119, 119, 135, 140], 67) := by decide +kernel
theorem dX8_count_72 : decode cX8_count 72 = .ok (.aload_n 0, 1) := by decide +kernel
theorem dX8_count_73 : decode cX8_count 73 = .ok (.invokevirtual 93, 3) := by decide +kernel
theorem dX8_count_76 : decode cX8_count 76 = .ok (.ireturn, 1) := by decide +kernel
theorem dX8_count_77 : decode cX8_count 77 = .ok (.aload_n 0, 1) := by decide +kernel
theorem dX8_count_78 : decode cX8_count 78 = .ok (.invokevirtual 149, 3) := by decide +kernel
theorem dX8_count_81 : decode cX8_count 81 = .ok (.ireturn, 1) := by decide +kernel
theorem dX8_count_82 : decode cX8_count 82 = .ok (.aload_n 0, 1) := by decide +kernel
theorem dX8_count_83 : decode cX8_count 83 = .ok (.invokevirtual 152, 3) := by decide +kernel
theorem dX8_count_86 : decode cX8_count 86 = .ok (.ireturn, 1) := by decide +kernel
theorem dX8_count_87 : decode cX8_count 87 = .ok (.aload_n 0, 1) := by decide +kernel
theorem dX8_count_88 : decode cX8_count 88 = .ok (.getfield 110, 3) := by decide +kernel
theorem dX8_count_91 : decode cX8_count 91 = .ok (.ireturn, 1) := by decide +kernel
theorem dX8_count_92 : decode cX8_count 92 = .ok (.aload_n 0, 1) := by decide +kernel
theorem dX8_count_93 : decode cX8_count 93 = .ok (.getfield 7, 3) := by decide +kernel
theorem dX8_count_96 : decode cX8_count 96 = .ok (.sipush 248, 3) := by decide +kernel
theorem dX8_count_99 : decode cX8_count 99 = .ok (.iaload, 1) := by decide +kernel
theorem dX8_count_100 : decode cX8_count 100 = .ok (.ireturn, 1) := by decide +kernel
theorem dX8_count_101 : decode cX8_count 101 = .ok (.sipush 3000, 3) := by decide +kernel
theorem dX8_count_104 : decode cX8_count 104 = .ok (.aload_n 0, 1) := by decide +kernel
theorem dX8_count_105 : decode cX8_count 105 = .ok (.invokevirtual 139, 3) := by decide +kernel
theorem dX8_count_108 : decode cX8_count 108 = .ok (.iadd, 1) := by decide +kernel
theorem dX8_count_109 : decode cX8_count 109 = .ok (.ireturn, 1) := by decide +kernel
theorem dX8_count_110 : decode cX8_count 110 = .ok (.aload_n 0, 1) := by decide +kernel
theorem dX8_count_111 : decode cX8_count 111 = .ok (.getfield 7, 3) := by decide +kernel
theorem dX8_count_114 : decode cX8_count 114 = .ok (.sipush 249, 3) := by decide +kernel
theorem dX8_count_117 : decode cX8_count 117 = .ok (.iload_n 1, 1) := by decide +kernel
theorem dX8_count_118 : decode cX8_count 118 = .ok (.iadd, 1) := by decide +kernel
theorem dX8_count_119 : decode cX8_count 119 = .ok (.bipush 6, 2) := by decide +kernel
theorem dX8_count_121 : decode cX8_count 121 = .ok (.isub, 1) := by decide +kernel
theorem dX8_count_122 : decode cX8_count 122 = .ok (.iaload, 1) := by decide +kernel
theorem dX8_count_123 : decode cX8_count 123 = .ok (.ireturn, 1) := by decide +kernel
theorem dX8_count_124 : decode cX8_count 124 = .ok (.aload_n 0, 1) := by decide +kernel
theorem dX8_count_125 : decode cX8_count 125 = .ok (.iload_n 1, 1) := by decide +kernel
theorem dX8_count_126 : decode cX8_count 126 = .ok (.bipush 10, 2) := by decide +kernel
theorem dX8_count_128 : decode cX8_count 128 = .ok (.if_icmp .ne 7, 3) := by decide +kernel
theorem dX8_count_131 : decode cX8_count 131 = .ok (.iconst 1, 1) := by decide +kernel
theorem dX8_count_132 : decode cX8_count 132 = .ok (.goto 4, 3) := by decide +kernel
theorem dX8_count_135 : decode cX8_count 135 = .ok (.iconst 0, 1) := by decide +kernel
theorem dX8_count_136 : decode cX8_count 136 = .ok (.invokevirtual 155, 3) := by decide +kernel
theorem dX8_count_139 : decode cX8_count 139 = .ok (.ireturn, 1) := by decide +kernel
theorem dX8_count_140 : decode cX8_count 140 = .ok (.aload_n 0, 1) := by decide +kernel
theorem dX8_count_141 : decode cX8_count 141 = .ok (.getfield 60, 3) := by decide +kernel
theorem dX8_count_144 : decode cX8_count 144 = .ok (.ireturn, 1) := by decide +kernel
theorem dX8_count_145 : decode cX8_count 145 = .ok (.aload_n 0, 1) := by decide +kernel
theorem dX8_count_146 : decode cX8_count 146 = .ok (.getfield 159, 3) := by decide +kernel
theorem dX8_count_149 : decode cX8_count 149 = .ok (.ireturn, 1) := by decide +kernel
theorem dX8_count_150 : decode cX8_count 150 = .ok (.ldc 79, 2) := by decide +kernel
theorem dX8_count_152 : decode cX8_count 152 = .ok (.ireturn, 1) := by decide +kernel
theorem dX8_undo_0 : decode cX8_undo 0 = .ok (.aload_n 0, 1) := by decide +kernel
theorem dX8_undo_1 : decode cX8_undo 1 = .ok (.getfield 60, 3) := by decide +kernel
theorem dX8_undo_4 : decode cX8_undo 4 = .ok (.ifCond .ne 6, 3) := by decide +kernel
theorem dX8_undo_7 : decode cX8_undo 7 = .ok (.ldc 80, 2) := by decide +kernel
theorem dX8_undo_9 : decode cX8_undo 9 = .ok (.ireturn, 1) := by decide +kernel
theorem dX8_undo_10 : decode cX8_undo 10 = .ok (.aload_n 0, 1) := by decide +kernel
theorem dX8_undo_11 : decode cX8_undo 11 = .ok (.dup, 1) := by decide +kernel
theorem dX8_undo_12 : decode cX8_undo 12 = .ok (.getfield 60, 3) := by decide +kernel
theorem dX8_undo_15 : decode cX8_undo 15 = .ok (.iconst 1, 1) := by decide +kernel
theorem dX8_undo_16 : decode cX8_undo 16 = .ok (.isub, 1) := by decide +kernel
theorem dX8_undo_17 : decode cX8_undo 17 = .ok (.putfield 60, 3) := by decide +kernel
theorem dX8_undo_20 : decode cX8_undo 20 = .ok (.iconst 0, 1) := by decide +kernel
theorem dX8_undo_21 : decode cX8_undo 21 = .ok (.istore_n 1, 1) := by decide +kernel
theorem dX8_undo_22 : decode cX8_undo 22 = .ok (.iload_n 1, 1) := by decide +kernel
theorem dX8_undo_23 : decode cX8_undo 23 = .ok (.sipush 252, 3) := by decide +kernel
theorem dX8_undo_26 : decode cX8_undo 26 = .ok (.if_icmp .ge 30, 3) := by decide +kernel
theorem dX8_undo_29 : decode cX8_undo 29 = .ok (.aload_n 0, 1) := by decide +kernel
theorem dX8_undo_30 : decode cX8_undo 30 = .ok (.getfield 7, 3) := by decide +kernel
theorem dX8_undo_33 : decode cX8_undo 33 = .ok (.iload_n 1, 1) := by decide +kernel
theorem dX8_undo_34 : decode cX8_undo 34 = .ok (.aload_n 0, 1) := by decide +kernel
theorem dX8_undo_35 : decode cX8_undo 35 = .ok (.getfield 13, 3) := by decide +kernel
theorem dX8_undo_38 : decode cX8_undo 38 = .ok (.sipush 252, 3) := by decide +kernel
theorem dX8_undo_41 : decode cX8_undo 41 = .ok (.aload_n 0, 1) := by decide +kernel
theorem dX8_undo_42 : decode cX8_undo 42 = .ok (.getfield 60, 3) := by decide +kernel
theorem dX8_undo_45 : decode cX8_undo 45 = .ok (.imul, 1) := by decide +kernel
theorem dX8_undo_46 : decode cX8_undo 46 = .ok (.iload_n 1, 1) := by decide +kernel
theorem dX8_undo_47 : decode cX8_undo 47 = .ok (.iadd, 1) := by decide +kernel
theorem dX8_undo_48 : decode cX8_undo 48 = .ok (.iaload, 1) := by decide +kernel
theorem dX8_undo_49 : decode cX8_undo 49 = .ok (.iastore, 1) := by decide +kernel
theorem dX8_undo_50 : decode cX8_undo 50 = .ok (.iinc 1 1, 3) := by decide +kernel
theorem dX8_undo_53 : decode cX8_undo 53 = .ok (.goto (-31), 3) := by decide +kernel
theorem dX8_undo_56 : decode cX8_undo 56 = .ok (.aload_n 0, 1) := by decide +kernel
theorem dX8_undo_57 : decode cX8_undo 57 = .ok (.getfield 60, 3) := by decide +kernel
theorem dX8_undo_60 : decode cX8_undo 60 = .ok (.ireturn, 1) := by decide +kernel
theorem dX8_type_0 : decode cX8_type 0 = .ok (.iload_n 1, 1) := by decide +kernel
theorem dX8_type_1 : decode cX8_type 1 = .ok (.bipush 32, 2) := by decide +kernel
theorem dX8_type_3 : decode cX8_type 3 = .ok (.bipush 126, 2) := by decide +kernel
theorem dX8_type_5 : decode cX8_type 5 = .ok (.invokestatic 52, 3) := by decide +kernel
theorem dX8_type_8 : decode cX8_type 8 = .ok (.ifCond .ne 6, 3) := by decide +kernel
theorem dX8_type_11 : decode cX8_type 11 = .ok (.ldc 79, 2) := by decide +kernel
theorem dX8_type_13 : decode cX8_type 13 = .ok (.ireturn, 1) := by decide +kernel
theorem dX8_type_14 : decode cX8_type 14 = .ok (.aload_n 0, 1) := by decide +kernel
theorem dX8_type_15 : decode cX8_type 15 = .ok (.getfield 159, 3) := by decide +kernel
theorem dX8_type_18 : decode cX8_type 18 = .ok (.bipush 60, 2) := by decide +kernel
theorem dX8_type_20 : decode cX8_type 20 = .ok (.if_icmp .ne 6, 3) := by decide +kernel
theorem dX8_type_23 : decode cX8_type 23 = .ok (.ldc 85, 2) := by decide +kernel
theorem dX8_type_25 : decode cX8_type 25 = .ok (.ireturn, 1) := by decide +kernel
theorem dX8_type_26 : decode cX8_type 26 = .ok (.aload_n 0, 1) := by decide +kernel
theorem dX8_type_27 : decode cX8_type 27 = .ok (.getfield 22, 3) := by decide +kernel
theorem dX8_type_30 : decode cX8_type 30 = .ok (.aload_n 0, 1) := by decide +kernel
theorem dX8_type_31 : decode cX8_type 31 = .ok (.getfield 159, 3) := by decide +kernel
theorem dX8_type_34 : decode cX8_type 34 = .ok (.iload_n 1, 1) := by decide +kernel
theorem dX8_type_35 : decode cX8_type 35 = .ok (.iastore, 1) := by decide +kernel
theorem dX8_type_36 : decode cX8_type 36 = .ok (.aload_n 0, 1) := by decide +kernel
theorem dX8_type_37 : decode cX8_type 37 = .ok (.dup, 1) := by decide +kernel
theorem dX8_type_38 : decode cX8_type 38 = .ok (.getfield 159, 3) := by decide +kernel
theorem dX8_type_41 : decode cX8_type 41 = .ok (.iconst 1, 1) := by decide +kernel
theorem dX8_type_42 : decode cX8_type 42 = .ok (.iadd, 1) := by decide +kernel
theorem dX8_type_43 : decode cX8_type 43 = .ok (.putfield 159, 3) := by decide +kernel
theorem dX8_type_46 : decode cX8_type 46 = .ok (.aload_n 0, 1) := by decide +kernel
theorem dX8_type_47 : decode cX8_type 47 = .ok (.getfield 159, 3) := by decide +kernel
theorem dX8_type_50 : decode cX8_type 50 = .ok (.ireturn, 1) := by decide +kernel
theorem dX8_clearText_0 : decode cX8_clearText 0 = .ok (.aload_n 0, 1) := by decide +kernel
theorem dX8_clearText_1 : decode cX8_clearText 1 = .ok (.getfield 159, 3) := by decide +kernel
theorem dX8_clearText_4 : decode cX8_clearText 4 = .ok (.istore_n 1, 1) := by decide +kernel
theorem dX8_clearText_5 : decode cX8_clearText 5 = .ok (.aload_n 0, 1) := by decide +kernel
theorem dX8_clearText_6 : decode cX8_clearText 6 = .ok (.iconst 0, 1) := by decide +kernel
theorem dX8_clearText_7 : decode cX8_clearText 7 = .ok (.putfield 159, 3) := by decide +kernel
theorem dX8_clearText_10 : decode cX8_clearText 10 = .ok (.iload_n 1, 1) := by decide +kernel
theorem dX8_clearText_11 : decode cX8_clearText 11 = .ok (.ireturn, 1) := by decide +kernel
theorem dX8_isAt_0 : decode cX8_isAt 0 = .ok (.aload_n 0, 1) := by decide +kernel
theorem dX8_isAt_1 : decode cX8_isAt 1 = .ok (.getfield 162, 3) := by decide +kernel
theorem dX8_isAt_4 : decode cX8_isAt 4 = .ok (.aload_n 0, 1) := by decide +kernel
theorem dX8_isAt_5 : decode cX8_isAt 5 = .ok (.getfield 159, 3) := by decide +kernel
theorem dX8_isAt_8 : decode cX8_isAt 8 = .ok (.if_icmp .ge 24, 3) := by decide +kernel
theorem dX8_isAt_11 : decode cX8_isAt 11 = .ok (.aload_n 0, 1) := by decide +kernel
theorem dX8_isAt_12 : decode cX8_isAt 12 = .ok (.getfield 22, 3) := by decide +kernel
theorem dX8_isAt_15 : decode cX8_isAt 15 = .ok (.aload_n 0, 1) := by decide +kernel
theorem dX8_isAt_16 : decode cX8_isAt 16 = .ok (.getfield 162, 3) := by decide +kernel
theorem dX8_isAt_19 : decode cX8_isAt 19 = .ok (.iaload, 1) := by decide +kernel
theorem dX8_isAt_20 : decode cX8_isAt 20 = .ok (.iload_n 1, 1) := by decide +kernel
theorem dX8_isAt_21 : decode cX8_isAt 21 = .ok (.iload_n 2, 1) := by decide +kernel
theorem dX8_isAt_22 : decode cX8_isAt 22 = .ok (.invokestatic 52, 3) := by decide +kernel
theorem dX8_isAt_25 : decode cX8_isAt 25 = .ok (.ifCond .eq 7, 3) := by decide +kernel
theorem dX8_isAt_28 : decode cX8_isAt 28 = .ok (.iconst 1, 1) := by decide +kernel
theorem dX8_isAt_29 : decode cX8_isAt 29 = .ok (.goto 4, 3) := by decide +kernel
theorem dX8_isAt_32 : decode cX8_isAt 32 = .ok (.iconst 0, 1) := by decide +kernel
theorem dX8_isAt_33 : decode cX8_isAt 33 = .ok (.ireturn, 1) := by decide +kernel
theorem dX8_number_0 : decode cX8_number 0 = .ok (.aload_n 0, 1) := by decide +kernel
theorem dX8_number_1 : decode cX8_number 1 = .ok (.getfield 162, 3) := by decide +kernel
theorem dX8_number_4 : decode cX8_number 4 = .ok (.istore_n 3, 1) := by decide +kernel
theorem dX8_number_5 : decode cX8_number 5 = .ok (.aload_n 0, 1) := by decide +kernel
theorem dX8_number_6 : decode cX8_number 6 = .ok (.getfield 49, 3) := by decide +kernel
theorem dX8_number_9 : decode cX8_number 9 = .ok (.iload_n 1, 1) := by decide +kernel
theorem dX8_number_10 : decode cX8_number 10 = .ok (.iconst 0, 1) := by decide +kernel
theorem dX8_number_11 : decode cX8_number 11 = .ok (.iastore, 1) := by decide +kernel
theorem dX8_number_12 : decode cX8_number 12 = .ok (.aload_n 0, 1) := by decide +kernel
theorem dX8_number_13 : decode cX8_number 13 = .ok (.bipush 48, 2) := by decide +kernel
theorem dX8_number_15 : decode cX8_number 15 = .ok (.bipush 57, 2) := by decide +kernel
theorem dX8_number_17 : decode cX8_number 17 = .ok (.invokevirtual 165, 3) := by decide +kernel
theorem dX8_number_20 : decode cX8_number 20 = .ok (.ifCond .eq 54, 3) := by decide +kernel
theorem dX8_number_23 : decode cX8_number 23 = .ok (.aload_n 0, 1) := by decide +kernel
theorem dX8_number_24 : decode cX8_number 24 = .ok (.getfield 162, 3) := by decide +kernel
theorem dX8_number_27 : decode cX8_number 27 = .ok (.iload_n 3, 1) := by decide +kernel
theorem dX8_number_28 : decode cX8_number 28 = .ok (.isub, 1) := by decide +kernel
theorem dX8_number_29 : decode cX8_number 29 = .ok (.iconst 2, 1) := by decide +kernel
theorem dX8_number_30 : decode cX8_number 30 = .ok (.if_icmp .ge 44, 3) := by decide +kernel
theorem dX8_number_33 : decode cX8_number 33 = .ok (.aload_n 0, 1) := by decide +kernel
theorem dX8_number_34 : decode cX8_number 34 = .ok (.getfield 49, 3) := by decide +kernel
theorem dX8_number_37 : decode cX8_number 37 = .ok (.iload_n 1, 1) := by decide +kernel
theorem dX8_number_38 : decode cX8_number 38 = .ok (.bipush 10, 2) := by decide +kernel
theorem dX8_number_40 : decode cX8_number 40 = .ok (.aload_n 0, 1) := by decide +kernel
theorem dX8_number_41 : decode cX8_number 41 = .ok (.getfield 49, 3) := by decide +kernel
theorem dX8_number_44 : decode cX8_number 44 = .ok (.iload_n 1, 1) := by decide +kernel
theorem dX8_number_45 : decode cX8_number 45 = .ok (.iaload, 1) := by decide +kernel
theorem dX8_number_46 : decode cX8_number 46 = .ok (.imul, 1) := by decide +kernel
theorem dX8_number_47 : decode cX8_number 47 = .ok (.aload_n 0, 1) := by decide +kernel
theorem dX8_number_48 : decode cX8_number 48 = .ok (.getfield 22, 3) := by decide +kernel
theorem dX8_number_51 : decode cX8_number 51 = .ok (.aload_n 0, 1) := by decide +kernel
theorem dX8_number_52 : decode cX8_number 52 = .ok (.getfield 162, 3) := by decide +kernel
theorem dX8_number_55 : decode cX8_number 55 = .ok (.iaload, 1) := by decide +kernel
theorem dX8_number_56 : decode cX8_number 56 = .ok (.iadd, 1) := by decide +kernel
theorem dX8_number_57 : decode cX8_number 57 = .ok (.bipush 48, 2) := by decide +kernel
theorem dX8_number_59 : decode cX8_number 59 = .ok (.isub, 1) := by decide +kernel
theorem dX8_number_60 : decode cX8_number 60 = .ok (.iastore, 1) := by decide +kernel
theorem dX8_number_61 : decode cX8_number 61 = .ok (.aload_n 0, 1) := by decide +kernel
theorem dX8_number_62 : decode cX8_number 62 = .ok (.dup, 1) := by decide +kernel
theorem dX8_number_63 : decode cX8_number 63 = .ok (.getfield 162, 3) := by decide +kernel
theorem dX8_number_66 : decode cX8_number 66 = .ok (.iconst 1, 1) := by decide +kernel
theorem dX8_number_67 : decode cX8_number 67 = .ok (.iadd, 1) := by decide +kernel
theorem dX8_number_68 : decode cX8_number 68 = .ok (.putfield 162, 3) := by decide +kernel
theorem dX8_number_71 : decode cX8_number 71 = .ok (.goto (-59), 3) := by decide +kernel
theorem dX8_number_74 : decode cX8_number 74 = .ok (.aload_n 0, 1) := by decide +kernel
theorem dX8_number_75 : decode cX8_number 75 = .ok (.getfield 162, 3) := by decide +kernel
theorem dX8_number_78 : decode cX8_number 78 = .ok (.iload_n 3, 1) := by decide +kernel
theorem dX8_number_79 : decode cX8_number 79 = .ok (.if_icmp .le 16, 3) := by decide +kernel
theorem dX8_number_82 : decode cX8_number 82 = .ok (.aload_n 0, 1) := by decide +kernel
theorem dX8_number_83 : decode cX8_number 83 = .ok (.iload_n 2, 1) := by decide +kernel
theorem dX8_number_84 : decode cX8_number 84 = .ok (.iload_n 2, 1) := by decide +kernel
theorem dX8_number_85 : decode cX8_number 85 = .ok (.invokevirtual 165, 3) := by decide +kernel
theorem dX8_number_88 : decode cX8_number 88 = .ok (.ifCond .eq 7, 3) := by decide +kernel
theorem dX8_number_91 : decode cX8_number 91 = .ok (.iconst 1, 1) := by decide +kernel
theorem dX8_number_92 : decode cX8_number 92 = .ok (.goto 4, 3) := by decide +kernel
theorem dX8_number_95 : decode cX8_number 95 = .ok (.iconst 0, 1) := by decide +kernel
theorem dX8_number_96 : decode cX8_number 96 = .ok (.istore 4, 2) := by decide +kernel
theorem dX8_number_98 : decode cX8_number 98 = .ok (.aload_n 0, 1) := by decide +kernel
theorem dX8_number_99 : decode cX8_number 99 = .ok (.dup, 1) := by decide +kernel
theorem dX8_number_100 : decode cX8_number 100 = .ok (.getfield 162, 3) := by decide +kernel
theorem dX8_number_103 : decode cX8_number 103 = .ok (.iconst 1, 1) := by decide +kernel
theorem dX8_number_104 : decode cX8_number 104 = .ok (.iadd, 1) := by decide +kernel
theorem dX8_number_105 : decode cX8_number 105 = .ok (.putfield 162, 3) := by decide +kernel
theorem dX8_number_108 : decode cX8_number 108 = .ok (.iload 4, 2) := by decide +kernel
theorem dX8_number_110 : decode cX8_number 110 = .ok (.ireturn, 1) := by decide +kernel
theorem dX8_asReason_0 : decode cX8_asReason 0 = .ok (.iload_n 1, 1) := by decide +kernel
theorem dX8_asReason_1 : decode cX8_asReason 1 = .ok (.ifCond .lt 7, 3) := by decide +kernel
theorem dX8_asReason_4 : decode cX8_asReason 4 = .ok (.iconst 0, 1) := by decide +kernel
theorem dX8_asReason_5 : decode cX8_asReason 5 = .ok (.goto 14, 3) := by decide +kernel
theorem dX8_asReason_8 : decode cX8_asReason 8 = .ok (.iload_n 1, 1) := by decide +kernel
theorem dX8_asReason_9 : decode cX8_asReason 9 = .ok (.ldc 79, 2) := by decide +kernel
theorem dX8_asReason_11 : decode cX8_asReason 11 = .ok (.if_icmp .ne 7, 3) := by decide +kernel
theorem dX8_asReason_14 : decode cX8_asReason 14 = .ok (.iconst 2, 1) := by decide +kernel
theorem dX8_asReason_15 : decode cX8_asReason 15 = .ok (.goto 4, 3) := by decide +kernel
theorem dX8_asReason_18 : decode cX8_asReason 18 = .ok (.iconst 3, 1) := by decide +kernel
theorem dX8_asReason_19 : decode cX8_asReason 19 = .ok (.ireturn, 1) := by decide +kernel
theorem dX8_does_0 : decode cX8_does 0 = .ok (.aload_n 0, 1) := by decide +kernel
theorem dX8_does_1 : decode cX8_does 1 = .ok (.getfield 22, 3) := by decide +kernel
theorem dX8_does_4 : decode cX8_does 4 = .ok (.aload_n 0, 1) := by decide +kernel
theorem dX8_does_5 : decode cX8_does 5 = .ok (.getfield 162, 3) := by decide +kernel
theorem dX8_does_8 : decode cX8_does 8 = .ok (.iaload, 1) := by decide +kernel
theorem dX8_does_9 : decode cX8_does 9 = .ok (.istore_n 1, 1) := by decide +kernel
theorem dX8_does_10 : decode cX8_does 10 = .ok (.aload_n 0, 1) := by decide +kernel
theorem dX8_does_11 : decode cX8_does 11 = .ok (.dup, 1) := by decide +kernel
theorem dX8_does_12 : decode cX8_does 12 = .ok (.getfield 162, 3) := by decide +kernel
theorem dX8_does_15 : decode cX8_does 15 = .ok (.iconst 1, 1) := by decide +kernel
theorem dX8_does_16 : decode cX8_does 16 = .ok (.iadd, 1) := by decide +kernel
theorem dX8_does_17 : decode cX8_does 17 = .ok (.putfield 162, 3) := by decide +kernel
theorem dX8_does_20 : decode cX8_does 20 = .ok (.iload_n 1, 1) := by decide +kernel
theorem dX8_does_21 : decode cX8_does 21 = .ok (.bipush 119, 2) := by decide +kernel
theorem dX8_does_23 : decode cX8_does 23 = .ok (.if_icmp .ne 7, 3) := by decide +kernel
theorem dX8_does_26 : decode cX8_does 26 = .ok (.iconst 3, 1) := by decide +kernel
theorem dX8_does_27 : decode cX8_does 27 = .ok (.goto 26, 3) := by decide +kernel
theorem dX8_does_30 : decode cX8_does 30 = .ok (.iload_n 1, 1) := by decide +kernel
theorem dX8_does_31 : decode cX8_does 31 = .ok (.bipush 100, 2) := by decide +kernel
theorem dX8_does_33 : decode cX8_does 33 = .ok (.if_icmp .eq 15, 3) := by decide +kernel
theorem dX8_does_36 : decode cX8_does 36 = .ok (.iload_n 1, 1) := by decide +kernel
theorem dX8_does_37 : decode cX8_does 37 = .ok (.bipush 99, 2) := by decide +kernel
theorem dX8_does_39 : decode cX8_does 39 = .ok (.if_icmp .eq 9, 3) := by decide +kernel
theorem dX8_does_42 : decode cX8_does 42 = .ok (.iload_n 1, 1) := by decide +kernel
theorem dX8_does_43 : decode cX8_does 43 = .ok (.bipush 122, 2) := by decide +kernel
theorem dX8_does_45 : decode cX8_does 45 = .ok (.if_icmp .ne 7, 3) := by decide +kernel
theorem dX8_does_48 : decode cX8_does 48 = .ok (.iconst 1, 1) := by decide +kernel
theorem dX8_does_49 : decode cX8_does 49 = .ok (.goto 4, 3) := by decide +kernel
theorem dX8_does_52 : decode cX8_does 52 = .ok (.iconst 0, 1) := by decide +kernel
theorem dX8_does_53 : decode cX8_does 53 = .ok (.istore_n 2, 1) := by decide +kernel
theorem dX8_does_54 : decode cX8_does 54 = .ok (.iload_n 2, 1) := by decide +kernel
theorem dX8_does_55 : decode cX8_does 55 = .ok (.ifCond .le 7, 3) := by decide +kernel
theorem dX8_does_58 : decode cX8_does 58 = .ok (.iconst 1, 1) := by decide +kernel
theorem dX8_does_59 : decode cX8_does 59 = .ok (.goto 4, 3) := by decide +kernel
theorem dX8_does_62 : decode cX8_does 62 = .ok (.iconst 0, 1) := by decide +kernel
theorem dX8_does_63 : decode cX8_does 63 = .ok (.istore_n 3, 1) := by decide +kernel
theorem dX8_does_64 : decode cX8_does 64 = .ok (.iconst 0, 1) := by decide +kernel
theorem dX8_does_65 : decode cX8_does 65 = .ok (.istore 4, 2) := by decide +kernel
theorem dX8_does_67 : decode cX8_does 67 = .ok (.iload 4, 2) := by decide +kernel
theorem dX8_does_69 : decode cX8_does 69 = .ok (.iload_n 2, 1) := by decide +kernel
theorem dX8_does_70 : decode cX8_does 70 = .ok (.if_icmp .ge 35, 3) := by decide +kernel
theorem dX8_does_73 : decode cX8_does 73 = .ok (.iload_n 3, 1) := by decide +kernel
theorem dX8_does_74 : decode cX8_does 74 = .ok (.ifCond .eq 31, 3) := by decide +kernel
theorem dX8_does_77 : decode cX8_does 77 = .ok (.aload_n 0, 1) := by decide +kernel
theorem dX8_does_78 : decode cX8_does 78 = .ok (.iload 4, 2) := by decide +kernel
theorem dX8_does_80 : decode cX8_does 80 = .ok (.iload 4, 2) := by decide +kernel
theorem dX8_does_82 : decode cX8_does 82 = .ok (.iload_n 2, 1) := by decide +kernel
theorem dX8_does_83 : decode cX8_does 83 = .ok (.iconst 1, 1) := by decide +kernel
theorem dX8_does_84 : decode cX8_does 84 = .ok (.isub, 1) := by decide +kernel
theorem dX8_does_85 : decode cX8_does 85 = .ok (.if_icmp .ne 8, 3) := by decide +kernel
theorem dX8_does_88 : decode cX8_does 88 = .ok (.bipush 59, 2) := by decide +kernel
theorem dX8_does_90 : decode cX8_does 90 = .ok (.goto 5, 3) := by decide +kernel
theorem dX8_does_93 : decode cX8_does 93 = .ok (.bipush 44, 2) := by decide +kernel
theorem dX8_does_95 : decode cX8_does 95 = .ok (.invokevirtual 168, 3) := by decide +kernel
theorem dX8_does_98 : decode cX8_does 98 = .ok (.istore_n 3, 1) := by decide +kernel
theorem dX8_does_99 : decode cX8_does 99 = .ok (.iinc 4 1, 3) := by decide +kernel
theorem dX8_does_102 : decode cX8_does 102 = .ok (.goto (-35), 3) := by decide +kernel
theorem dX8_does_105 : decode cX8_does 105 = .ok (.iload_n 3, 1) := by decide +kernel
theorem dX8_does_106 : decode cX8_does 106 = .ok (.ifCond .ne 5, 3) := by decide +kernel
theorem dX8_does_109 : decode cX8_does 109 = .ok (.iconst 1, 1) := by decide +kernel
theorem dX8_does_110 : decode cX8_does 110 = .ok (.ireturn, 1) := by decide +kernel
theorem dX8_does_111 : decode cX8_does 111 = .ok (.iload_n 1, 1) := by decide +kernel
theorem dX8_does_112 : decode cX8_does 112 = .ok (.lookupswitch 95 #[(99, 79), (100, 64), (119, 36)], 36) := by decide +kernel
theorem dX8_does_148 : decode cX8_does 148 = .ok (.aload_n 0, 1) := by decide +kernel
theorem dX8_does_149 : decode cX8_does 149 = .ok (.aload_n 0, 1) := by decide +kernel
theorem dX8_does_150 : decode cX8_does 150 = .ok (.aload_n 0, 1) := by decide +kernel
theorem dX8_does_151 : decode cX8_does 151 = .ok (.getfield 49, 3) := by decide +kernel
theorem dX8_does_154 : decode cX8_does 154 = .ok (.iconst 0, 1) := by decide +kernel
theorem dX8_does_155 : decode cX8_does 155 = .ok (.iaload, 1) := by decide +kernel
theorem dX8_does_156 : decode cX8_does 156 = .ok (.aload_n 0, 1) := by decide +kernel
theorem dX8_does_157 : decode cX8_does 157 = .ok (.getfield 49, 3) := by decide +kernel
theorem dX8_does_160 : decode cX8_does 160 = .ok (.iconst 1, 1) := by decide +kernel
theorem dX8_does_161 : decode cX8_does 161 = .ok (.iaload, 1) := by decide +kernel
theorem dX8_does_162 : decode cX8_does 162 = .ok (.aload_n 0, 1) := by decide +kernel
theorem dX8_does_163 : decode cX8_does 163 = .ok (.getfield 49, 3) := by decide +kernel
theorem dX8_does_166 : decode cX8_does 166 = .ok (.iconst 2, 1) := by decide +kernel
theorem dX8_does_167 : decode cX8_does 167 = .ok (.iaload, 1) := by decide +kernel
theorem dX8_does_168 : decode cX8_does 168 = .ok (.iconst 0, 1) := by decide +kernel
theorem dX8_does_169 : decode cX8_does 169 = .ok (.invokevirtual 171, 3) := by decide +kernel
theorem dX8_does_172 : decode cX8_does 172 = .ok (.invokevirtual 175, 3) := by decide +kernel
theorem dX8_does_175 : decode cX8_does 175 = .ok (.ireturn, 1) := by decide +kernel
theorem dX8_does_176 : decode cX8_does 176 = .ok (.aload_n 0, 1) := by decide +kernel
theorem dX8_does_177 : decode cX8_does 177 = .ok (.aload_n 0, 1) := by decide +kernel
theorem dX8_does_178 : decode cX8_does 178 = .ok (.aload_n 0, 1) := by decide +kernel
theorem dX8_does_179 : decode cX8_does 179 = .ok (.getfield 49, 3) := by decide +kernel
theorem dX8_does_182 : decode cX8_does 182 = .ok (.iconst 0, 1) := by decide +kernel
theorem dX8_does_183 : decode cX8_does 183 = .ok (.iaload, 1) := by decide +kernel
theorem dX8_does_184 : decode cX8_does 184 = .ok (.invokevirtual 178, 3) := by decide +kernel
theorem dX8_does_187 : decode cX8_does 187 = .ok (.invokevirtual 175, 3) := by decide +kernel
theorem dX8_does_190 : decode cX8_does 190 = .ok (.ireturn, 1) := by decide +kernel
theorem dX8_does_191 : decode cX8_does 191 = .ok (.aload_n 0, 1) := by decide +kernel
theorem dX8_does_192 : decode cX8_does 192 = .ok (.aload_n 0, 1) := by decide +kernel
theorem dX8_does_193 : decode cX8_does 193 = .ok (.aload_n 0, 1) := by decide +kernel
theorem dX8_does_194 : decode cX8_does 194 = .ok (.getfield 49, 3) := by decide +kernel
theorem dX8_does_197 : decode cX8_does 197 = .ok (.iconst 0, 1) := by decide +kernel
theorem dX8_does_198 : decode cX8_does 198 = .ok (.iaload, 1) := by decide +kernel
theorem dX8_does_199 : decode cX8_does 199 = .ok (.iconst (-1), 1) := by decide +kernel
theorem dX8_does_200 : decode cX8_does 200 = .ok (.invokevirtual 181, 3) := by decide +kernel
theorem dX8_does_203 : decode cX8_does 203 = .ok (.invokevirtual 175, 3) := by decide +kernel
theorem dX8_does_206 : decode cX8_does 206 = .ok (.ireturn, 1) := by decide +kernel
theorem dX8_does_207 : decode cX8_does 207 = .ok (.aload_n 0, 1) := by decide +kernel
theorem dX8_does_208 : decode cX8_does 208 = .ok (.aload_n 0, 1) := by decide +kernel
theorem dX8_does_209 : decode cX8_does 209 = .ok (.aload_n 0, 1) := by decide +kernel
theorem dX8_does_210 : decode cX8_does 210 = .ok (.getfield 49, 3) := by decide +kernel
theorem dX8_does_213 : decode cX8_does 213 = .ok (.iconst 0, 1) := by decide +kernel
theorem dX8_does_214 : decode cX8_does 214 = .ok (.iaload, 1) := by decide +kernel
theorem dX8_does_215 : decode cX8_does 215 = .ok (.invokevirtual 184, 3) := by decide +kernel
theorem dX8_does_218 : decode cX8_does 218 = .ok (.invokevirtual 175, 3) := by decide +kernel
theorem dX8_does_221 : decode cX8_does 221 = .ok (.ireturn, 1) := by decide +kernel
theorem dX8_plays_0 : decode cX8_plays 0 = .ok (.aload_n 0, 1) := by decide +kernel
theorem dX8_plays_1 : decode cX8_plays 1 = .ok (.iconst 1, 1) := by decide +kernel
theorem dX8_plays_2 : decode cX8_plays 2 = .ok (.putfield 56, 3) := by decide +kernel
theorem dX8_plays_5 : decode cX8_plays 5 = .ok (.aload_n 0, 1) := by decide +kernel
theorem dX8_plays_6 : decode cX8_plays 6 = .ok (.iconst 0, 1) := by decide +kernel
theorem dX8_plays_7 : decode cX8_plays 7 = .ok (.putfield 162, 3) := by decide +kernel
theorem dX8_plays_10 : decode cX8_plays 10 = .ok (.aload_n 0, 1) := by decide +kernel
theorem dX8_plays_11 : decode cX8_plays 11 = .ok (.iconst 0, 1) := by decide +kernel
theorem dX8_plays_12 : decode cX8_plays 12 = .ok (.putfield 187, 3) := by decide +kernel
theorem dX8_plays_15 : decode cX8_plays 15 = .ok (.aload_n 0, 1) := by decide +kernel
theorem dX8_plays_16 : decode cX8_plays 16 = .ok (.iconst 0, 1) := by decide +kernel
theorem dX8_plays_17 : decode cX8_plays 17 = .ok (.putfield 190, 3) := by decide +kernel
theorem dX8_plays_20 : decode cX8_plays 20 = .ok (.iconst 0, 1) := by decide +kernel
theorem dX8_plays_21 : decode cX8_plays 21 = .ok (.istore_n 1, 1) := by decide +kernel
theorem dX8_plays_22 : decode cX8_plays 22 = .ok (.aload_n 0, 1) := by decide +kernel
theorem dX8_plays_23 : decode cX8_plays 23 = .ok (.getfield 162, 3) := by decide +kernel
theorem dX8_plays_26 : decode cX8_plays 26 = .ok (.aload_n 0, 1) := by decide +kernel
theorem dX8_plays_27 : decode cX8_plays 27 = .ok (.getfield 159, 3) := by decide +kernel
theorem dX8_plays_30 : decode cX8_plays 30 = .ok (.if_icmp .ge 36, 3) := by decide +kernel
theorem dX8_plays_33 : decode cX8_plays 33 = .ok (.aload_n 0, 1) := by decide +kernel
theorem dX8_plays_34 : decode cX8_plays 34 = .ok (.getfield 187, 3) := by decide +kernel
theorem dX8_plays_37 : decode cX8_plays 37 = .ok (.ifCond .ne 29, 3) := by decide +kernel
theorem dX8_plays_40 : decode cX8_plays 40 = .ok (.aload_n 0, 1) := by decide +kernel
theorem dX8_plays_41 : decode cX8_plays 41 = .ok (.getfield 162, 3) := by decide +kernel
theorem dX8_plays_44 : decode cX8_plays 44 = .ok (.istore_n 1, 1) := by decide +kernel
theorem dX8_plays_45 : decode cX8_plays 45 = .ok (.aload_n 0, 1) := by decide +kernel
theorem dX8_plays_46 : decode cX8_plays 46 = .ok (.aload_n 0, 1) := by decide +kernel
theorem dX8_plays_47 : decode cX8_plays 47 = .ok (.invokevirtual 193, 3) := by decide +kernel
theorem dX8_plays_50 : decode cX8_plays 50 = .ok (.putfield 187, 3) := by decide +kernel
theorem dX8_plays_53 : decode cX8_plays 53 = .ok (.aload_n 0, 1) := by decide +kernel
theorem dX8_plays_54 : decode cX8_plays 54 = .ok (.dup, 1) := by decide +kernel
theorem dX8_plays_55 : decode cX8_plays 55 = .ok (.getfield 190, 3) := by decide +kernel
theorem dX8_plays_58 : decode cX8_plays 58 = .ok (.iconst 1, 1) := by decide +kernel
theorem dX8_plays_59 : decode cX8_plays 59 = .ok (.iadd, 1) := by decide +kernel
theorem dX8_plays_60 : decode cX8_plays 60 = .ok (.putfield 190, 3) := by decide +kernel
theorem dX8_plays_63 : decode cX8_plays 63 = .ok (.goto (-41), 3) := by decide +kernel
theorem dX8_plays_66 : decode cX8_plays 66 = .ok (.aload_n 0, 1) := by decide +kernel
theorem dX8_plays_67 : decode cX8_plays 67 = .ok (.iconst 0, 1) := by decide +kernel
theorem dX8_plays_68 : decode cX8_plays 68 = .ok (.putfield 56, 3) := by decide +kernel
theorem dX8_plays_71 : decode cX8_plays 71 = .ok (.aload_n 0, 1) := by decide +kernel
theorem dX8_plays_72 : decode cX8_plays 72 = .ok (.getfield 187, 3) := by decide +kernel
theorem dX8_plays_75 : decode cX8_plays 75 = .ok (.ifCond .ne 8, 3) := by decide +kernel
theorem dX8_plays_78 : decode cX8_plays 78 = .ok (.ldc 71, 2) := by decide +kernel
theorem dX8_plays_80 : decode cX8_plays 80 = .ok (.goto 4, 3) := by decide +kernel
theorem dX8_plays_83 : decode cX8_plays 83 = .ok (.iload_n 1, 1) := by decide +kernel
theorem dX8_plays_84 : decode cX8_plays 84 = .ok (.ireturn, 1) := by decide +kernel
theorem dX8_fault_0 : decode cX8_fault 0 = .ok (.iload_n 1, 1) := by decide +kernel
theorem dX8_fault_1 : decode cX8_fault 1 = .ok (.iconst 0, 1) := by decide +kernel
theorem dX8_fault_2 : decode cX8_fault 2 = .ok (.iconst 1, 1) := by decide +kernel
theorem dX8_fault_3 : decode cX8_fault 3 = .ok (.invokestatic 52, 3) := by decide +kernel
theorem dX8_fault_6 : decode cX8_fault 6 = .ok (.ifCond .ne 6, 3) := by decide +kernel
theorem dX8_fault_9 : decode cX8_fault 9 = .ok (.ldc 79, 2) := by decide +kernel
theorem dX8_fault_11 : decode cX8_fault 11 = .ok (.ireturn, 1) := by decide +kernel
theorem dX8_fault_12 : decode cX8_fault 12 = .ok (.aload_n 0, 1) := by decide +kernel
theorem dX8_fault_13 : decode cX8_fault 13 = .ok (.getfield 7, 3) := by decide +kernel
theorem dX8_fault_16 : decode cX8_fault 16 = .ok (.aload_n 0, 1) := by decide +kernel
theorem dX8_fault_17 : decode cX8_fault 17 = .ok (.getfield 16, 3) := by decide +kernel
theorem dX8_fault_20 : decode cX8_fault 20 = .ok (.invokestatic 135, 3) := by decide +kernel
theorem dX8_fault_23 : decode cX8_fault 23 = .ok (.aload_n 0, 1) := by decide +kernel
theorem dX8_fault_24 : decode cX8_fault 24 = .ok (.invokevirtual 196, 3) := by decide +kernel
theorem dX8_fault_27 : decode cX8_fault 27 = .ok (.istore_n 2, 1) := by decide +kernel
theorem dX8_fault_28 : decode cX8_fault 28 = .ok (.aload_n 0, 1) := by decide +kernel
theorem dX8_fault_29 : decode cX8_fault 29 = .ok (.getfield 16, 3) := by decide +kernel
theorem dX8_fault_32 : decode cX8_fault 32 = .ok (.aload_n 0, 1) := by decide +kernel
theorem dX8_fault_33 : decode cX8_fault 33 = .ok (.getfield 7, 3) := by decide +kernel
theorem dX8_fault_36 : decode cX8_fault 36 = .ok (.invokestatic 135, 3) := by decide +kernel
theorem dX8_fault_39 : decode cX8_fault 39 = .ok (.iload_n 2, 1) := by decide +kernel
theorem dX8_fault_40 : decode cX8_fault 40 = .ok (.ldc 71, 2) := by decide +kernel
theorem dX8_fault_42 : decode cX8_fault 42 = .ok (.if_icmp .eq 7, 3) := by decide +kernel
theorem dX8_fault_45 : decode cX8_fault 45 = .ok (.iload_n 1, 1) := by decide +kernel
theorem dX8_fault_46 : decode cX8_fault 46 = .ok (.ifCond .ne 7, 3) := by decide +kernel
theorem dX8_fault_49 : decode cX8_fault 49 = .ok (.iload_n 2, 1) := by decide +kernel
theorem dX8_fault_50 : decode cX8_fault 50 = .ok (.goto 7, 3) := by decide +kernel
theorem dX8_fault_53 : decode cX8_fault 53 = .ok (.aload_n 0, 1) := by decide +kernel
theorem dX8_fault_54 : decode cX8_fault 54 = .ok (.getfield 187, 3) := by decide +kernel
theorem dX8_fault_57 : decode cX8_fault 57 = .ok (.ireturn, 1) := by decide +kernel
theorem dX8_play_0 : decode cX8_play 0 = .ok (.aload_n 0, 1) := by decide +kernel
theorem dX8_play_1 : decode cX8_play 1 = .ok (.getfield 7, 3) := by decide +kernel
theorem dX8_play_4 : decode cX8_play 4 = .ok (.aload_n 0, 1) := by decide +kernel
theorem dX8_play_5 : decode cX8_play 5 = .ok (.getfield 16, 3) := by decide +kernel
theorem dX8_play_8 : decode cX8_play 8 = .ok (.invokestatic 135, 3) := by decide +kernel
theorem dX8_play_11 : decode cX8_play 11 = .ok (.aload_n 0, 1) := by decide +kernel
theorem dX8_play_12 : decode cX8_play 12 = .ok (.invokevirtual 196, 3) := by decide +kernel
theorem dX8_play_15 : decode cX8_play 15 = .ok (.istore_n 1, 1) := by decide +kernel
theorem dX8_play_16 : decode cX8_play 16 = .ok (.aload_n 0, 1) := by decide +kernel
theorem dX8_play_17 : decode cX8_play 17 = .ok (.getfield 16, 3) := by decide +kernel
theorem dX8_play_20 : decode cX8_play 20 = .ok (.aload_n 0, 1) := by decide +kernel
theorem dX8_play_21 : decode cX8_play 21 = .ok (.getfield 7, 3) := by decide +kernel
theorem dX8_play_24 : decode cX8_play 24 = .ok (.invokestatic 135, 3) := by decide +kernel
theorem dX8_play_27 : decode cX8_play 27 = .ok (.iload_n 1, 1) := by decide +kernel
theorem dX8_play_28 : decode cX8_play 28 = .ok (.ldc 71, 2) := by decide +kernel
theorem dX8_play_30 : decode cX8_play 30 = .ok (.if_icmp .eq 6, 3) := by decide +kernel
theorem dX8_play_33 : decode cX8_play 33 = .ok (.ldc 80, 2) := by decide +kernel
theorem dX8_play_35 : decode cX8_play 35 = .ok (.ireturn, 1) := by decide +kernel
theorem dX8_play_36 : decode cX8_play 36 = .ok (.aload_n 0, 1) := by decide +kernel
theorem dX8_play_37 : decode cX8_play 37 = .ok (.invokevirtual 86, 3) := by decide +kernel
theorem dX8_play_40 : decode cX8_play 40 = .ok (.aload_n 0, 1) := by decide +kernel
theorem dX8_play_41 : decode cX8_play 41 = .ok (.invokevirtual 196, 3) := by decide +kernel
theorem dX8_play_44 : decode cX8_play 44 = .ok (.ldc 71, 2) := by decide +kernel
theorem dX8_play_46 : decode cX8_play 46 = .ok (.if_icmp .ne 10, 3) := by decide +kernel
theorem dX8_play_49 : decode cX8_play 49 = .ok (.aload_n 0, 1) := by decide +kernel
theorem dX8_play_50 : decode cX8_play 50 = .ok (.getfield 190, 3) := by decide +kernel
theorem dX8_play_53 : decode cX8_play 53 = .ok (.goto 5, 3) := by decide +kernel
theorem dX8_play_56 : decode cX8_play 56 = .ok (.ldc 71, 2) := by decide +kernel
theorem dX8_play_58 : decode cX8_play 58 = .ok (.ireturn, 1) := by decide +kernel
theorem dJ13_bitCount_95d88_0 : decode cJ13_bitCount_95d88 0 = .ok (.lload_n 0, 1) := by decide +kernel
theorem dJ13_bitCount_95d88_1 : decode cJ13_bitCount_95d88 1 = .ok (.lload_n 0, 1) := by decide +kernel
theorem dJ13_bitCount_95d88_2 : decode cJ13_bitCount_95d88 2 = .ok (.iconst 1, 1) := by decide +kernel
theorem dJ13_bitCount_95d88_3 : decode cJ13_bitCount_95d88 3 = .ok (.lushr, 1) := by decide +kernel
theorem dJ13_bitCount_95d88_4 : decode cJ13_bitCount_95d88 4 = .ok (.ldc2_w 314, 3) := by decide +kernel
theorem dJ13_bitCount_95d88_7 : decode cJ13_bitCount_95d88 7 = .ok (.land, 1) := by decide +kernel
theorem dJ13_bitCount_95d88_8 : decode cJ13_bitCount_95d88 8 = .ok (.lsub, 1) := by decide +kernel
theorem dJ13_bitCount_95d88_9 : decode cJ13_bitCount_95d88 9 = .ok (.lstore_n 0, 1) := by decide +kernel
theorem dJ13_bitCount_95d88_10 : decode cJ13_bitCount_95d88 10 = .ok (.lload_n 0, 1) := by decide +kernel
theorem dJ13_bitCount_95d88_11 : decode cJ13_bitCount_95d88 11 = .ok (.ldc2_w 316, 3) := by decide +kernel
theorem dJ13_bitCount_95d88_14 : decode cJ13_bitCount_95d88 14 = .ok (.land, 1) := by decide +kernel
theorem dJ13_bitCount_95d88_15 : decode cJ13_bitCount_95d88 15 = .ok (.lload_n 0, 1) := by decide +kernel
theorem dJ13_bitCount_95d88_16 : decode cJ13_bitCount_95d88 16 = .ok (.iconst 2, 1) := by decide +kernel
theorem dJ13_bitCount_95d88_17 : decode cJ13_bitCount_95d88 17 = .ok (.lushr, 1) := by decide +kernel
theorem dJ13_bitCount_95d88_18 : decode cJ13_bitCount_95d88 18 = .ok (.ldc2_w 316, 3) := by decide +kernel
theorem dJ13_bitCount_95d88_21 : decode cJ13_bitCount_95d88 21 = .ok (.land, 1) := by decide +kernel
theorem dJ13_bitCount_95d88_22 : decode cJ13_bitCount_95d88 22 = .ok (.ladd, 1) := by decide +kernel
theorem dJ13_bitCount_95d88_23 : decode cJ13_bitCount_95d88 23 = .ok (.lstore_n 0, 1) := by decide +kernel
theorem dJ13_bitCount_95d88_24 : decode cJ13_bitCount_95d88 24 = .ok (.lload_n 0, 1) := by decide +kernel
theorem dJ13_bitCount_95d88_25 : decode cJ13_bitCount_95d88 25 = .ok (.lload_n 0, 1) := by decide +kernel
theorem dJ13_bitCount_95d88_26 : decode cJ13_bitCount_95d88 26 = .ok (.iconst 4, 1) := by decide +kernel
theorem dJ13_bitCount_95d88_27 : decode cJ13_bitCount_95d88 27 = .ok (.lushr, 1) := by decide +kernel
theorem dJ13_bitCount_95d88_28 : decode cJ13_bitCount_95d88 28 = .ok (.ladd, 1) := by decide +kernel
theorem dJ13_bitCount_95d88_29 : decode cJ13_bitCount_95d88 29 = .ok (.ldc2_w 318, 3) := by decide +kernel
theorem dJ13_bitCount_95d88_32 : decode cJ13_bitCount_95d88 32 = .ok (.land, 1) := by decide +kernel
theorem dJ13_bitCount_95d88_33 : decode cJ13_bitCount_95d88 33 = .ok (.lstore_n 0, 1) := by decide +kernel
theorem dJ13_bitCount_95d88_34 : decode cJ13_bitCount_95d88 34 = .ok (.lload_n 0, 1) := by decide +kernel
theorem dJ13_bitCount_95d88_35 : decode cJ13_bitCount_95d88 35 = .ok (.lload_n 0, 1) := by decide +kernel
theorem dJ13_bitCount_95d88_36 : decode cJ13_bitCount_95d88 36 = .ok (.bipush 8, 2) := by decide +kernel
theorem dJ13_bitCount_95d88_38 : decode cJ13_bitCount_95d88 38 = .ok (.lushr, 1) := by decide +kernel
theorem dJ13_bitCount_95d88_39 : decode cJ13_bitCount_95d88 39 = .ok (.ladd, 1) := by decide +kernel
theorem dJ13_bitCount_95d88_40 : decode cJ13_bitCount_95d88 40 = .ok (.lstore_n 0, 1) := by decide +kernel
theorem dJ13_bitCount_95d88_41 : decode cJ13_bitCount_95d88 41 = .ok (.lload_n 0, 1) := by decide +kernel
theorem dJ13_bitCount_95d88_42 : decode cJ13_bitCount_95d88 42 = .ok (.lload_n 0, 1) := by decide +kernel
theorem dJ13_bitCount_95d88_43 : decode cJ13_bitCount_95d88 43 = .ok (.bipush 16, 2) := by decide +kernel
theorem dJ13_bitCount_95d88_45 : decode cJ13_bitCount_95d88 45 = .ok (.lushr, 1) := by decide +kernel
theorem dJ13_bitCount_95d88_46 : decode cJ13_bitCount_95d88 46 = .ok (.ladd, 1) := by decide +kernel
theorem dJ13_bitCount_95d88_47 : decode cJ13_bitCount_95d88 47 = .ok (.lstore_n 0, 1) := by decide +kernel
theorem dJ13_bitCount_95d88_48 : decode cJ13_bitCount_95d88 48 = .ok (.lload_n 0, 1) := by decide +kernel
theorem dJ13_bitCount_95d88_49 : decode cJ13_bitCount_95d88 49 = .ok (.lload_n 0, 1) := by decide +kernel
theorem dJ13_bitCount_95d88_50 : decode cJ13_bitCount_95d88 50 = .ok (.bipush 32, 2) := by decide +kernel
theorem dJ13_bitCount_95d88_52 : decode cJ13_bitCount_95d88 52 = .ok (.lushr, 1) := by decide +kernel
theorem dJ13_bitCount_95d88_53 : decode cJ13_bitCount_95d88 53 = .ok (.ladd, 1) := by decide +kernel
theorem dJ13_bitCount_95d88_54 : decode cJ13_bitCount_95d88 54 = .ok (.lstore_n 0, 1) := by decide +kernel
theorem dJ13_bitCount_95d88_55 : decode cJ13_bitCount_95d88 55 = .ok (.lload_n 0, 1) := by decide +kernel
theorem dJ13_bitCount_95d88_56 : decode cJ13_bitCount_95d88 56 = .ok (.l2i, 1) := by decide +kernel
theorem dJ13_bitCount_95d88_57 : decode cJ13_bitCount_95d88 57 = .ok (.bipush 127, 2) := by decide +kernel
theorem dJ13_bitCount_95d88_59 : decode cJ13_bitCount_95d88 59 = .ok (.iand, 1) := by decide +kernel
theorem dJ13_bitCount_95d88_60 : decode cJ13_bitCount_95d88 60 = .ok (.ireturn, 1) := by decide +kernel
theorem dJ9_max_7cf53_0 : decode cJ9_max_7cf53 0 = .ok (.iload_n 0, 1) := by decide +kernel
theorem dJ9_max_7cf53_1 : decode cJ9_max_7cf53 1 = .ok (.iload_n 1, 1) := by decide +kernel
theorem dJ9_max_7cf53_2 : decode cJ9_max_7cf53 2 = .ok (.if_icmp .lt 7, 3) := by decide +kernel
theorem dJ9_max_7cf53_5 : decode cJ9_max_7cf53 5 = .ok (.iload_n 0, 1) := by decide +kernel
theorem dJ9_max_7cf53_6 : decode cJ9_max_7cf53 6 = .ok (.goto 4, 3) := by decide +kernel
theorem dJ9_max_7cf53_9 : decode cJ9_max_7cf53 9 = .ok (.iload_n 1, 1) := by decide +kernel
theorem dJ9_max_7cf53_10 : decode cJ9_max_7cf53 10 = .ok (.ireturn, 1) := by decide +kernel
theorem dJ9_min_7cf53_0 : decode cJ9_min_7cf53 0 = .ok (.iload_n 0, 1) := by decide +kernel
theorem dJ9_min_7cf53_1 : decode cJ9_min_7cf53 1 = .ok (.iload_n 1, 1) := by decide +kernel
theorem dJ9_min_7cf53_2 : decode cJ9_min_7cf53 2 = .ok (.if_icmp .gt 7, 3) := by decide +kernel
theorem dJ9_min_7cf53_5 : decode cJ9_min_7cf53 5 = .ok (.iload_n 0, 1) := by decide +kernel
theorem dJ9_min_7cf53_6 : decode cJ9_min_7cf53 6 = .ok (.goto 4, 3) := by decide +kernel
theorem dJ9_min_7cf53_9 : decode cJ9_min_7cf53 9 = .ok (.iload_n 1, 1) := by decide +kernel
theorem dJ9_min_7cf53_10 : decode cJ9_min_7cf53 10 = .ok (.ireturn, 1) := by decide +kernel
theorem dL_law_0 : decode cL_law 0 = .ok (.new 7, 3) := by decide +kernel
theorem dL_law_3 : decode cL_law 3 = .ok (.dup, 1) := by decide +kernel
theorem dL_law_4 : decode cL_law 4 = .ok (.invokespecial 9, 3) := by decide +kernel
theorem dL_law_7 : decode cL_law 7 = .ok (.astore_n 1, 1) := by decide +kernel
theorem dL_law_8 : decode cL_law 8 = .ok (.new 10, 3) := by decide +kernel
theorem dL_law_11 : decode cL_law 11 = .ok (.dup, 1) := by decide +kernel
theorem dL_law_12 : decode cL_law 12 = .ok (.invokespecial 12, 3) := by decide +kernel
theorem dL_law_15 : decode cL_law 15 = .ok (.astore_n 2, 1) := by decide +kernel
theorem dL_law_16 : decode cL_law 16 = .ok (.iconst 0, 1) := by decide +kernel
theorem dL_law_17 : decode cL_law 17 = .ok (.istore_n 3, 1) := by decide +kernel
theorem dL_law_18 : decode cL_law 18 = .ok (.iload_n 3, 1) := by decide +kernel
theorem dL_law_19 : decode cL_law 19 = .ok (.aload_n 0, 1) := by decide +kernel
theorem dL_law_20 : decode cL_law 20 = .ok (.arraylength, 1) := by decide +kernel
theorem dL_law_21 : decode cL_law 21 = .ok (.iconst 5, 1) := by decide +kernel
theorem dL_law_22 : decode cL_law 22 = .ok (.isub, 1) := by decide +kernel
theorem dL_law_23 : decode cL_law 23 = .ok (.if_icmp .gt 577, 3) := by decide +kernel
theorem dL_law_26 : decode cL_law 26 = .ok (.aload_n 0, 1) := by decide +kernel
theorem dL_law_27 : decode cL_law 27 = .ok (.iload_n 3, 1) := by decide +kernel
theorem dL_law_28 : decode cL_law 28 = .ok (.iaload, 1) := by decide +kernel
theorem dL_law_29 : decode cL_law 29 = .ok (.bipush 31, 2) := by decide +kernel
theorem dL_law_31 : decode cL_law 31 = .ok (.iand, 1) := by decide +kernel
theorem dL_law_32 : decode cL_law 32 = .ok (.tableswitch 562 0 17 #[88, 141, 164, 187, 200, 233, 266, 299, 332, 365, 388, 431, 454, 477, 490, 513, 526, 549], 88) := by decide +kernel
theorem dL_law_120 : decode cL_law 120 = .ok (.aload_n 1, 1) := by decide +kernel
theorem dL_law_121 : decode cL_law 121 = .ok (.aload_n 0, 1) := by decide +kernel
theorem dL_law_122 : decode cL_law 122 = .ok (.iload_n 3, 1) := by decide +kernel
theorem dL_law_123 : decode cL_law 123 = .ok (.iconst 1, 1) := by decide +kernel
theorem dL_law_124 : decode cL_law 124 = .ok (.iadd, 1) := by decide +kernel
theorem dL_law_125 : decode cL_law 125 = .ok (.iaload, 1) := by decide +kernel
theorem dL_law_126 : decode cL_law 126 = .ok (.aload_n 0, 1) := by decide +kernel
theorem dL_law_127 : decode cL_law 127 = .ok (.iload_n 3, 1) := by decide +kernel
theorem dL_law_128 : decode cL_law 128 = .ok (.iconst 2, 1) := by decide +kernel
theorem dL_law_129 : decode cL_law 129 = .ok (.iadd, 1) := by decide +kernel
theorem dL_law_130 : decode cL_law 130 = .ok (.iaload, 1) := by decide +kernel
theorem dL_law_131 : decode cL_law 131 = .ok (.aload_n 0, 1) := by decide +kernel
theorem dL_law_132 : decode cL_law 132 = .ok (.iload_n 3, 1) := by decide +kernel
theorem dL_law_133 : decode cL_law 133 = .ok (.iconst 3, 1) := by decide +kernel
theorem dL_law_134 : decode cL_law 134 = .ok (.iadd, 1) := by decide +kernel
theorem dL_law_135 : decode cL_law 135 = .ok (.iaload, 1) := by decide +kernel
theorem dL_law_136 : decode cL_law 136 = .ok (.aload_n 0, 1) := by decide +kernel
theorem dL_law_137 : decode cL_law 137 = .ok (.iload_n 3, 1) := by decide +kernel
theorem dL_law_138 : decode cL_law 138 = .ok (.iconst 4, 1) := by decide +kernel
theorem dL_law_139 : decode cL_law 139 = .ok (.iadd, 1) := by decide +kernel
theorem dL_law_140 : decode cL_law 140 = .ok (.iaload, 1) := by decide +kernel
theorem dL_law_141 : decode cL_law 141 = .ok (.invokevirtual 13, 3) := by decide +kernel
theorem dL_law_144 : decode cL_law 144 = .ok (.aload_n 2, 1) := by decide +kernel
theorem dL_law_145 : decode cL_law 145 = .ok (.aload_n 0, 1) := by decide +kernel
theorem dL_law_146 : decode cL_law 146 = .ok (.iload_n 3, 1) := by decide +kernel
theorem dL_law_147 : decode cL_law 147 = .ok (.iconst 1, 1) := by decide +kernel
theorem dL_law_148 : decode cL_law 148 = .ok (.iadd, 1) := by decide +kernel
theorem dL_law_149 : decode cL_law 149 = .ok (.iaload, 1) := by decide +kernel
theorem dL_law_150 : decode cL_law 150 = .ok (.aload_n 0, 1) := by decide +kernel
theorem dL_law_151 : decode cL_law 151 = .ok (.iload_n 3, 1) := by decide +kernel
theorem dL_law_152 : decode cL_law 152 = .ok (.iconst 2, 1) := by decide +kernel
theorem dL_law_153 : decode cL_law 153 = .ok (.iadd, 1) := by decide +kernel
theorem dL_law_154 : decode cL_law 154 = .ok (.iaload, 1) := by decide +kernel
theorem dL_law_155 : decode cL_law 155 = .ok (.aload_n 0, 1) := by decide +kernel
theorem dL_law_156 : decode cL_law 156 = .ok (.iload_n 3, 1) := by decide +kernel
theorem dL_law_157 : decode cL_law 157 = .ok (.iconst 3, 1) := by decide +kernel
theorem dL_law_158 : decode cL_law 158 = .ok (.iadd, 1) := by decide +kernel
theorem dL_law_159 : decode cL_law 159 = .ok (.iaload, 1) := by decide +kernel
theorem dL_law_160 : decode cL_law 160 = .ok (.aload_n 0, 1) := by decide +kernel
theorem dL_law_161 : decode cL_law 161 = .ok (.iload_n 3, 1) := by decide +kernel
theorem dL_law_162 : decode cL_law 162 = .ok (.iconst 4, 1) := by decide +kernel
theorem dL_law_163 : decode cL_law 163 = .ok (.iadd, 1) := by decide +kernel
theorem dL_law_164 : decode cL_law 164 = .ok (.iaload, 1) := by decide +kernel
theorem dL_law_165 : decode cL_law 165 = .ok (.invokevirtual 17, 3) := by decide +kernel
theorem dL_law_168 : decode cL_law 168 = .ok (.if_icmp .eq 426, 3) := by decide +kernel
theorem dL_law_171 : decode cL_law 171 = .ok (.iconst 0, 1) := by decide +kernel
theorem dL_law_172 : decode cL_law 172 = .ok (.ireturn, 1) := by decide +kernel
theorem dL_law_173 : decode cL_law 173 = .ok (.aload_n 1, 1) := by decide +kernel
theorem dL_law_174 : decode cL_law 174 = .ok (.aload_n 0, 1) := by decide +kernel
theorem dL_law_175 : decode cL_law 175 = .ok (.iload_n 3, 1) := by decide +kernel
theorem dL_law_176 : decode cL_law 176 = .ok (.iconst 1, 1) := by decide +kernel
theorem dL_law_177 : decode cL_law 177 = .ok (.iadd, 1) := by decide +kernel
theorem dL_law_178 : decode cL_law 178 = .ok (.iaload, 1) := by decide +kernel
theorem dL_law_179 : decode cL_law 179 = .ok (.invokevirtual 18, 3) := by decide +kernel
theorem dL_law_182 : decode cL_law 182 = .ok (.aload_n 2, 1) := by decide +kernel
theorem dL_law_183 : decode cL_law 183 = .ok (.aload_n 0, 1) := by decide +kernel
theorem dL_law_184 : decode cL_law 184 = .ok (.iload_n 3, 1) := by decide +kernel
theorem dL_law_185 : decode cL_law 185 = .ok (.iconst 1, 1) := by decide +kernel
theorem dL_law_186 : decode cL_law 186 = .ok (.iadd, 1) := by decide +kernel
theorem dL_law_187 : decode cL_law 187 = .ok (.iaload, 1) := by decide +kernel
theorem dL_law_188 : decode cL_law 188 = .ok (.invokevirtual 22, 3) := by decide +kernel
theorem dL_law_191 : decode cL_law 191 = .ok (.if_icmp .eq 403, 3) := by decide +kernel
theorem dL_law_194 : decode cL_law 194 = .ok (.iconst 0, 1) := by decide +kernel
theorem dL_law_195 : decode cL_law 195 = .ok (.ireturn, 1) := by decide +kernel
theorem dL_law_196 : decode cL_law 196 = .ok (.aload_n 1, 1) := by decide +kernel
theorem dL_law_197 : decode cL_law 197 = .ok (.aload_n 0, 1) := by decide +kernel
theorem dL_law_198 : decode cL_law 198 = .ok (.iload_n 3, 1) := by decide +kernel
theorem dL_law_199 : decode cL_law 199 = .ok (.iconst 1, 1) := by decide +kernel
theorem dL_law_200 : decode cL_law 200 = .ok (.iadd, 1) := by decide +kernel
theorem dL_law_201 : decode cL_law 201 = .ok (.iaload, 1) := by decide +kernel
theorem dL_law_202 : decode cL_law 202 = .ok (.invokevirtual 23, 3) := by decide +kernel
theorem dL_law_205 : decode cL_law 205 = .ok (.aload_n 2, 1) := by decide +kernel
theorem dL_law_206 : decode cL_law 206 = .ok (.aload_n 0, 1) := by decide +kernel
theorem dL_law_207 : decode cL_law 207 = .ok (.iload_n 3, 1) := by decide +kernel
theorem dL_law_208 : decode cL_law 208 = .ok (.iconst 1, 1) := by decide +kernel
theorem dL_law_209 : decode cL_law 209 = .ok (.iadd, 1) := by decide +kernel
theorem dL_law_210 : decode cL_law 210 = .ok (.iaload, 1) := by decide +kernel
theorem dL_law_211 : decode cL_law 211 = .ok (.invokevirtual 26, 3) := by decide +kernel
theorem dL_law_214 : decode cL_law 214 = .ok (.if_icmp .eq 380, 3) := by decide +kernel
theorem dL_law_217 : decode cL_law 217 = .ok (.iconst 0, 1) := by decide +kernel
theorem dL_law_218 : decode cL_law 218 = .ok (.ireturn, 1) := by decide +kernel
theorem dL_law_219 : decode cL_law 219 = .ok (.aload_n 1, 1) := by decide +kernel
theorem dL_law_220 : decode cL_law 220 = .ok (.invokevirtual 27, 3) := by decide +kernel
theorem dL_law_223 : decode cL_law 223 = .ok (.aload_n 2, 1) := by decide +kernel
theorem dL_law_224 : decode cL_law 224 = .ok (.invokevirtual 31, 3) := by decide +kernel
theorem dL_law_227 : decode cL_law 227 = .ok (.if_icmp .eq 367, 3) := by decide +kernel
theorem dL_law_230 : decode cL_law 230 = .ok (.iconst 0, 1) := by decide +kernel
theorem dL_law_231 : decode cL_law 231 = .ok (.ireturn, 1) := by decide +kernel
theorem dL_law_232 : decode cL_law 232 = .ok (.aload_n 1, 1) := by decide +kernel
theorem dL_law_233 : decode cL_law 233 = .ok (.aload_n 0, 1) := by decide +kernel
theorem dL_law_234 : decode cL_law 234 = .ok (.iload_n 3, 1) := by decide +kernel
theorem dL_law_235 : decode cL_law 235 = .ok (.iconst 1, 1) := by decide +kernel
theorem dL_law_236 : decode cL_law 236 = .ok (.iadd, 1) := by decide +kernel
theorem dL_law_237 : decode cL_law 237 = .ok (.iaload, 1) := by decide +kernel
theorem dL_law_238 : decode cL_law 238 = .ok (.aload_n 0, 1) := by decide +kernel
theorem dL_law_239 : decode cL_law 239 = .ok (.iload_n 3, 1) := by decide +kernel
theorem dL_law_240 : decode cL_law 240 = .ok (.iconst 2, 1) := by decide +kernel
theorem dL_law_241 : decode cL_law 241 = .ok (.iadd, 1) := by decide +kernel
theorem dL_law_242 : decode cL_law 242 = .ok (.iaload, 1) := by decide +kernel
theorem dL_law_243 : decode cL_law 243 = .ok (.invokevirtual 32, 3) := by decide +kernel
theorem dL_law_246 : decode cL_law 246 = .ok (.aload_n 2, 1) := by decide +kernel
theorem dL_law_247 : decode cL_law 247 = .ok (.aload_n 0, 1) := by decide +kernel
theorem dL_law_248 : decode cL_law 248 = .ok (.iload_n 3, 1) := by decide +kernel
theorem dL_law_249 : decode cL_law 249 = .ok (.iconst 1, 1) := by decide +kernel
theorem dL_law_250 : decode cL_law 250 = .ok (.iadd, 1) := by decide +kernel
theorem dL_law_251 : decode cL_law 251 = .ok (.iaload, 1) := by decide +kernel
theorem dL_law_252 : decode cL_law 252 = .ok (.aload_n 0, 1) := by decide +kernel
theorem dL_law_253 : decode cL_law 253 = .ok (.iload_n 3, 1) := by decide +kernel
theorem dL_law_254 : decode cL_law 254 = .ok (.iconst 2, 1) := by decide +kernel
theorem dL_law_255 : decode cL_law 255 = .ok (.iadd, 1) := by decide +kernel
theorem dL_law_256 : decode cL_law 256 = .ok (.iaload, 1) := by decide +kernel
theorem dL_law_257 : decode cL_law 257 = .ok (.invokevirtual 36, 3) := by decide +kernel
theorem dL_law_260 : decode cL_law 260 = .ok (.if_icmp .eq 334, 3) := by decide +kernel
theorem dL_law_263 : decode cL_law 263 = .ok (.iconst 0, 1) := by decide +kernel
theorem dL_law_264 : decode cL_law 264 = .ok (.ireturn, 1) := by decide +kernel
theorem dL_law_265 : decode cL_law 265 = .ok (.aload_n 1, 1) := by decide +kernel
theorem dL_law_266 : decode cL_law 266 = .ok (.aload_n 0, 1) := by decide +kernel
theorem dL_law_267 : decode cL_law 267 = .ok (.iload_n 3, 1) := by decide +kernel
theorem dL_law_268 : decode cL_law 268 = .ok (.iconst 1, 1) := by decide +kernel
theorem dL_law_269 : decode cL_law 269 = .ok (.iadd, 1) := by decide +kernel
theorem dL_law_270 : decode cL_law 270 = .ok (.iaload, 1) := by decide +kernel
theorem dL_law_271 : decode cL_law 271 = .ok (.aload_n 0, 1) := by decide +kernel
theorem dL_law_272 : decode cL_law 272 = .ok (.iload_n 3, 1) := by decide +kernel
theorem dL_law_273 : decode cL_law 273 = .ok (.iconst 2, 1) := by decide +kernel
theorem dL_law_274 : decode cL_law 274 = .ok (.iadd, 1) := by decide +kernel
theorem dL_law_275 : decode cL_law 275 = .ok (.iaload, 1) := by decide +kernel
theorem dL_law_276 : decode cL_law 276 = .ok (.invokevirtual 37, 3) := by decide +kernel
theorem dL_law_279 : decode cL_law 279 = .ok (.aload_n 2, 1) := by decide +kernel
theorem dL_law_280 : decode cL_law 280 = .ok (.aload_n 0, 1) := by decide +kernel
theorem dL_law_281 : decode cL_law 281 = .ok (.iload_n 3, 1) := by decide +kernel
theorem dL_law_282 : decode cL_law 282 = .ok (.iconst 1, 1) := by decide +kernel
theorem dL_law_283 : decode cL_law 283 = .ok (.iadd, 1) := by decide +kernel
theorem dL_law_284 : decode cL_law 284 = .ok (.iaload, 1) := by decide +kernel
theorem dL_law_285 : decode cL_law 285 = .ok (.aload_n 0, 1) := by decide +kernel
theorem dL_law_286 : decode cL_law 286 = .ok (.iload_n 3, 1) := by decide +kernel
theorem dL_law_287 : decode cL_law 287 = .ok (.iconst 2, 1) := by decide +kernel
theorem dL_law_288 : decode cL_law 288 = .ok (.iadd, 1) := by decide +kernel
theorem dL_law_289 : decode cL_law 289 = .ok (.iaload, 1) := by decide +kernel
theorem dL_law_290 : decode cL_law 290 = .ok (.invokevirtual 40, 3) := by decide +kernel
theorem dL_law_293 : decode cL_law 293 = .ok (.if_icmp .eq 301, 3) := by decide +kernel
theorem dL_law_296 : decode cL_law 296 = .ok (.iconst 0, 1) := by decide +kernel
theorem dL_law_297 : decode cL_law 297 = .ok (.ireturn, 1) := by decide +kernel
theorem dL_law_298 : decode cL_law 298 = .ok (.aload_n 1, 1) := by decide +kernel
theorem dL_law_299 : decode cL_law 299 = .ok (.aload_n 0, 1) := by decide +kernel
theorem dL_law_300 : decode cL_law 300 = .ok (.iload_n 3, 1) := by decide +kernel
theorem dL_law_301 : decode cL_law 301 = .ok (.iconst 1, 1) := by decide +kernel
theorem dL_law_302 : decode cL_law 302 = .ok (.iadd, 1) := by decide +kernel
theorem dL_law_303 : decode cL_law 303 = .ok (.iaload, 1) := by decide +kernel
theorem dL_law_304 : decode cL_law 304 = .ok (.aload_n 0, 1) := by decide +kernel
theorem dL_law_305 : decode cL_law 305 = .ok (.iload_n 3, 1) := by decide +kernel
theorem dL_law_306 : decode cL_law 306 = .ok (.iconst 2, 1) := by decide +kernel
theorem dL_law_307 : decode cL_law 307 = .ok (.iadd, 1) := by decide +kernel
theorem dL_law_308 : decode cL_law 308 = .ok (.iaload, 1) := by decide +kernel
theorem dL_law_309 : decode cL_law 309 = .ok (.invokevirtual 41, 3) := by decide +kernel
theorem dL_law_312 : decode cL_law 312 = .ok (.aload_n 2, 1) := by decide +kernel
theorem dL_law_313 : decode cL_law 313 = .ok (.aload_n 0, 1) := by decide +kernel
theorem dL_law_314 : decode cL_law 314 = .ok (.iload_n 3, 1) := by decide +kernel
theorem dL_law_315 : decode cL_law 315 = .ok (.iconst 1, 1) := by decide +kernel
theorem dL_law_316 : decode cL_law 316 = .ok (.iadd, 1) := by decide +kernel
theorem dL_law_317 : decode cL_law 317 = .ok (.iaload, 1) := by decide +kernel
theorem dL_law_318 : decode cL_law 318 = .ok (.aload_n 0, 1) := by decide +kernel
theorem dL_law_319 : decode cL_law 319 = .ok (.iload_n 3, 1) := by decide +kernel
theorem dL_law_320 : decode cL_law 320 = .ok (.iconst 2, 1) := by decide +kernel
theorem dL_law_321 : decode cL_law 321 = .ok (.iadd, 1) := by decide +kernel
theorem dL_law_322 : decode cL_law 322 = .ok (.iaload, 1) := by decide +kernel
theorem dL_law_323 : decode cL_law 323 = .ok (.invokevirtual 44, 3) := by decide +kernel
theorem dL_law_326 : decode cL_law 326 = .ok (.if_icmp .eq 268, 3) := by decide +kernel
theorem dL_law_329 : decode cL_law 329 = .ok (.iconst 0, 1) := by decide +kernel
theorem dL_law_330 : decode cL_law 330 = .ok (.ireturn, 1) := by decide +kernel
theorem dL_law_331 : decode cL_law 331 = .ok (.aload_n 1, 1) := by decide +kernel
theorem dL_law_332 : decode cL_law 332 = .ok (.aload_n 0, 1) := by decide +kernel
theorem dL_law_333 : decode cL_law 333 = .ok (.iload_n 3, 1) := by decide +kernel
theorem dL_law_334 : decode cL_law 334 = .ok (.iconst 1, 1) := by decide +kernel
theorem dL_law_335 : decode cL_law 335 = .ok (.iadd, 1) := by decide +kernel
theorem dL_law_336 : decode cL_law 336 = .ok (.iaload, 1) := by decide +kernel
theorem dL_law_337 : decode cL_law 337 = .ok (.aload_n 0, 1) := by decide +kernel
theorem dL_law_338 : decode cL_law 338 = .ok (.iload_n 3, 1) := by decide +kernel
theorem dL_law_339 : decode cL_law 339 = .ok (.iconst 2, 1) := by decide +kernel
theorem dL_law_340 : decode cL_law 340 = .ok (.iadd, 1) := by decide +kernel
theorem dL_law_341 : decode cL_law 341 = .ok (.iaload, 1) := by decide +kernel
theorem dL_law_342 : decode cL_law 342 = .ok (.invokevirtual 45, 3) := by decide +kernel
theorem dL_law_345 : decode cL_law 345 = .ok (.aload_n 2, 1) := by decide +kernel
theorem dL_law_346 : decode cL_law 346 = .ok (.aload_n 0, 1) := by decide +kernel
theorem dL_law_347 : decode cL_law 347 = .ok (.iload_n 3, 1) := by decide +kernel
theorem dL_law_348 : decode cL_law 348 = .ok (.iconst 1, 1) := by decide +kernel
theorem dL_law_349 : decode cL_law 349 = .ok (.iadd, 1) := by decide +kernel
theorem dL_law_350 : decode cL_law 350 = .ok (.iaload, 1) := by decide +kernel
theorem dL_law_351 : decode cL_law 351 = .ok (.aload_n 0, 1) := by decide +kernel
theorem dL_law_352 : decode cL_law 352 = .ok (.iload_n 3, 1) := by decide +kernel
theorem dL_law_353 : decode cL_law 353 = .ok (.iconst 2, 1) := by decide +kernel
theorem dL_law_354 : decode cL_law 354 = .ok (.iadd, 1) := by decide +kernel
theorem dL_law_355 : decode cL_law 355 = .ok (.iaload, 1) := by decide +kernel
theorem dL_law_356 : decode cL_law 356 = .ok (.invokevirtual 48, 3) := by decide +kernel
theorem dL_law_359 : decode cL_law 359 = .ok (.if_icmp .eq 235, 3) := by decide +kernel
theorem dL_law_362 : decode cL_law 362 = .ok (.iconst 0, 1) := by decide +kernel
theorem dL_law_363 : decode cL_law 363 = .ok (.ireturn, 1) := by decide +kernel
theorem dL_law_364 : decode cL_law 364 = .ok (.aload_n 1, 1) := by decide +kernel
theorem dL_law_365 : decode cL_law 365 = .ok (.aload_n 0, 1) := by decide +kernel
theorem dL_law_366 : decode cL_law 366 = .ok (.iload_n 3, 1) := by decide +kernel
theorem dL_law_367 : decode cL_law 367 = .ok (.iconst 1, 1) := by decide +kernel
theorem dL_law_368 : decode cL_law 368 = .ok (.iadd, 1) := by decide +kernel
theorem dL_law_369 : decode cL_law 369 = .ok (.iaload, 1) := by decide +kernel
theorem dL_law_370 : decode cL_law 370 = .ok (.aload_n 0, 1) := by decide +kernel
theorem dL_law_371 : decode cL_law 371 = .ok (.iload_n 3, 1) := by decide +kernel
theorem dL_law_372 : decode cL_law 372 = .ok (.iconst 2, 1) := by decide +kernel
theorem dL_law_373 : decode cL_law 373 = .ok (.iadd, 1) := by decide +kernel
theorem dL_law_374 : decode cL_law 374 = .ok (.iaload, 1) := by decide +kernel
theorem dL_law_375 : decode cL_law 375 = .ok (.invokevirtual 49, 3) := by decide +kernel
theorem dL_law_378 : decode cL_law 378 = .ok (.aload_n 2, 1) := by decide +kernel
theorem dL_law_379 : decode cL_law 379 = .ok (.aload_n 0, 1) := by decide +kernel
theorem dL_law_380 : decode cL_law 380 = .ok (.iload_n 3, 1) := by decide +kernel
theorem dL_law_381 : decode cL_law 381 = .ok (.iconst 1, 1) := by decide +kernel
theorem dL_law_382 : decode cL_law 382 = .ok (.iadd, 1) := by decide +kernel
theorem dL_law_383 : decode cL_law 383 = .ok (.iaload, 1) := by decide +kernel
theorem dL_law_384 : decode cL_law 384 = .ok (.aload_n 0, 1) := by decide +kernel
theorem dL_law_385 : decode cL_law 385 = .ok (.iload_n 3, 1) := by decide +kernel
theorem dL_law_386 : decode cL_law 386 = .ok (.iconst 2, 1) := by decide +kernel
theorem dL_law_387 : decode cL_law 387 = .ok (.iadd, 1) := by decide +kernel
theorem dL_law_388 : decode cL_law 388 = .ok (.iaload, 1) := by decide +kernel
theorem dL_law_389 : decode cL_law 389 = .ok (.invokevirtual 52, 3) := by decide +kernel
theorem dL_law_392 : decode cL_law 392 = .ok (.if_icmp .eq 202, 3) := by decide +kernel
theorem dL_law_395 : decode cL_law 395 = .ok (.iconst 0, 1) := by decide +kernel
theorem dL_law_396 : decode cL_law 396 = .ok (.ireturn, 1) := by decide +kernel
theorem dL_law_397 : decode cL_law 397 = .ok (.aload_n 1, 1) := by decide +kernel
theorem dL_law_398 : decode cL_law 398 = .ok (.aload_n 0, 1) := by decide +kernel
theorem dL_law_399 : decode cL_law 399 = .ok (.iload_n 3, 1) := by decide +kernel
theorem dL_law_400 : decode cL_law 400 = .ok (.iconst 1, 1) := by decide +kernel
theorem dL_law_401 : decode cL_law 401 = .ok (.iadd, 1) := by decide +kernel
theorem dL_law_402 : decode cL_law 402 = .ok (.iaload, 1) := by decide +kernel
theorem dL_law_403 : decode cL_law 403 = .ok (.invokevirtual 53, 3) := by decide +kernel
theorem dL_law_406 : decode cL_law 406 = .ok (.aload_n 2, 1) := by decide +kernel
theorem dL_law_407 : decode cL_law 407 = .ok (.aload_n 0, 1) := by decide +kernel
theorem dL_law_408 : decode cL_law 408 = .ok (.iload_n 3, 1) := by decide +kernel
theorem dL_law_409 : decode cL_law 409 = .ok (.iconst 1, 1) := by decide +kernel
theorem dL_law_410 : decode cL_law 410 = .ok (.iadd, 1) := by decide +kernel
theorem dL_law_411 : decode cL_law 411 = .ok (.iaload, 1) := by decide +kernel
theorem dL_law_412 : decode cL_law 412 = .ok (.invokevirtual 56, 3) := by decide +kernel
theorem dL_law_415 : decode cL_law 415 = .ok (.if_icmp .eq 179, 3) := by decide +kernel
theorem dL_law_418 : decode cL_law 418 = .ok (.iconst 0, 1) := by decide +kernel
theorem dL_law_419 : decode cL_law 419 = .ok (.ireturn, 1) := by decide +kernel
theorem dL_law_420 : decode cL_law 420 = .ok (.aload_n 1, 1) := by decide +kernel
theorem dL_law_421 : decode cL_law 421 = .ok (.aload_n 0, 1) := by decide +kernel
theorem dL_law_422 : decode cL_law 422 = .ok (.iload_n 3, 1) := by decide +kernel
theorem dL_law_423 : decode cL_law 423 = .ok (.iconst 1, 1) := by decide +kernel
theorem dL_law_424 : decode cL_law 424 = .ok (.iadd, 1) := by decide +kernel
theorem dL_law_425 : decode cL_law 425 = .ok (.iaload, 1) := by decide +kernel
theorem dL_law_426 : decode cL_law 426 = .ok (.aload_n 0, 1) := by decide +kernel
theorem dL_law_427 : decode cL_law 427 = .ok (.iload_n 3, 1) := by decide +kernel
theorem dL_law_428 : decode cL_law 428 = .ok (.iconst 2, 1) := by decide +kernel
theorem dL_law_429 : decode cL_law 429 = .ok (.iadd, 1) := by decide +kernel
theorem dL_law_430 : decode cL_law 430 = .ok (.iaload, 1) := by decide +kernel
theorem dL_law_431 : decode cL_law 431 = .ok (.aload_n 0, 1) := by decide +kernel
theorem dL_law_432 : decode cL_law 432 = .ok (.iload_n 3, 1) := by decide +kernel
theorem dL_law_433 : decode cL_law 433 = .ok (.iconst 3, 1) := by decide +kernel
theorem dL_law_434 : decode cL_law 434 = .ok (.iadd, 1) := by decide +kernel
theorem dL_law_435 : decode cL_law 435 = .ok (.iaload, 1) := by decide +kernel
theorem dL_law_436 : decode cL_law 436 = .ok (.invokevirtual 57, 3) := by decide +kernel
theorem dL_law_439 : decode cL_law 439 = .ok (.aload_n 2, 1) := by decide +kernel
theorem dL_law_440 : decode cL_law 440 = .ok (.aload_n 0, 1) := by decide +kernel
theorem dL_law_441 : decode cL_law 441 = .ok (.iload_n 3, 1) := by decide +kernel
theorem dL_law_442 : decode cL_law 442 = .ok (.iconst 1, 1) := by decide +kernel
theorem dL_law_443 : decode cL_law 443 = .ok (.iadd, 1) := by decide +kernel
theorem dL_law_444 : decode cL_law 444 = .ok (.iaload, 1) := by decide +kernel
theorem dL_law_445 : decode cL_law 445 = .ok (.aload_n 0, 1) := by decide +kernel
theorem dL_law_446 : decode cL_law 446 = .ok (.iload_n 3, 1) := by decide +kernel
theorem dL_law_447 : decode cL_law 447 = .ok (.iconst 2, 1) := by decide +kernel
theorem dL_law_448 : decode cL_law 448 = .ok (.iadd, 1) := by decide +kernel
theorem dL_law_449 : decode cL_law 449 = .ok (.iaload, 1) := by decide +kernel
theorem dL_law_450 : decode cL_law 450 = .ok (.aload_n 0, 1) := by decide +kernel
theorem dL_law_451 : decode cL_law 451 = .ok (.iload_n 3, 1) := by decide +kernel
theorem dL_law_452 : decode cL_law 452 = .ok (.iconst 3, 1) := by decide +kernel
theorem dL_law_453 : decode cL_law 453 = .ok (.iadd, 1) := by decide +kernel
theorem dL_law_454 : decode cL_law 454 = .ok (.iaload, 1) := by decide +kernel
theorem dL_law_455 : decode cL_law 455 = .ok (.invokevirtual 61, 3) := by decide +kernel
theorem dL_law_458 : decode cL_law 458 = .ok (.if_icmp .eq 136, 3) := by decide +kernel
theorem dL_law_461 : decode cL_law 461 = .ok (.iconst 0, 1) := by decide +kernel
theorem dL_law_462 : decode cL_law 462 = .ok (.ireturn, 1) := by decide +kernel
theorem dL_law_463 : decode cL_law 463 = .ok (.aload_n 1, 1) := by decide +kernel
theorem dL_law_464 : decode cL_law 464 = .ok (.aload_n 0, 1) := by decide +kernel
theorem dL_law_465 : decode cL_law 465 = .ok (.iload_n 3, 1) := by decide +kernel
theorem dL_law_466 : decode cL_law 466 = .ok (.iconst 1, 1) := by decide +kernel
theorem dL_law_467 : decode cL_law 467 = .ok (.iadd, 1) := by decide +kernel
theorem dL_law_468 : decode cL_law 468 = .ok (.iaload, 1) := by decide +kernel
theorem dL_law_469 : decode cL_law 469 = .ok (.invokevirtual 62, 3) := by decide +kernel
theorem dL_law_472 : decode cL_law 472 = .ok (.aload_n 2, 1) := by decide +kernel
theorem dL_law_473 : decode cL_law 473 = .ok (.aload_n 0, 1) := by decide +kernel
theorem dL_law_474 : decode cL_law 474 = .ok (.iload_n 3, 1) := by decide +kernel
theorem dL_law_475 : decode cL_law 475 = .ok (.iconst 1, 1) := by decide +kernel
theorem dL_law_476 : decode cL_law 476 = .ok (.iadd, 1) := by decide +kernel
theorem dL_law_477 : decode cL_law 477 = .ok (.iaload, 1) := by decide +kernel
theorem dL_law_478 : decode cL_law 478 = .ok (.invokevirtual 65, 3) := by decide +kernel
theorem dL_law_481 : decode cL_law 481 = .ok (.if_icmp .eq 113, 3) := by decide +kernel
theorem dL_law_484 : decode cL_law 484 = .ok (.iconst 0, 1) := by decide +kernel
theorem dL_law_485 : decode cL_law 485 = .ok (.ireturn, 1) := by decide +kernel
theorem dL_law_486 : decode cL_law 486 = .ok (.aload_n 1, 1) := by decide +kernel
theorem dL_law_487 : decode cL_law 487 = .ok (.aload_n 0, 1) := by decide +kernel
theorem dL_law_488 : decode cL_law 488 = .ok (.iload_n 3, 1) := by decide +kernel
theorem dL_law_489 : decode cL_law 489 = .ok (.iconst 1, 1) := by decide +kernel
theorem dL_law_490 : decode cL_law 490 = .ok (.iadd, 1) := by decide +kernel
theorem dL_law_491 : decode cL_law 491 = .ok (.iaload, 1) := by decide +kernel
theorem dL_law_492 : decode cL_law 492 = .ok (.invokevirtual 66, 3) := by decide +kernel
theorem dL_law_495 : decode cL_law 495 = .ok (.aload_n 2, 1) := by decide +kernel
theorem dL_law_496 : decode cL_law 496 = .ok (.aload_n 0, 1) := by decide +kernel
theorem dL_law_497 : decode cL_law 497 = .ok (.iload_n 3, 1) := by decide +kernel
theorem dL_law_498 : decode cL_law 498 = .ok (.iconst 1, 1) := by decide +kernel
theorem dL_law_499 : decode cL_law 499 = .ok (.iadd, 1) := by decide +kernel
theorem dL_law_500 : decode cL_law 500 = .ok (.iaload, 1) := by decide +kernel
theorem dL_law_501 : decode cL_law 501 = .ok (.invokevirtual 69, 3) := by decide +kernel
theorem dL_law_504 : decode cL_law 504 = .ok (.if_icmp .eq 90, 3) := by decide +kernel
theorem dL_law_507 : decode cL_law 507 = .ok (.iconst 0, 1) := by decide +kernel
theorem dL_law_508 : decode cL_law 508 = .ok (.ireturn, 1) := by decide +kernel
theorem dL_law_509 : decode cL_law 509 = .ok (.aload_n 1, 1) := by decide +kernel
theorem dL_law_510 : decode cL_law 510 = .ok (.invokevirtual 70, 3) := by decide +kernel
theorem dL_law_513 : decode cL_law 513 = .ok (.aload_n 2, 1) := by decide +kernel
theorem dL_law_514 : decode cL_law 514 = .ok (.invokevirtual 73, 3) := by decide +kernel
theorem dL_law_517 : decode cL_law 517 = .ok (.if_icmp .eq 77, 3) := by decide +kernel
theorem dL_law_520 : decode cL_law 520 = .ok (.iconst 0, 1) := by decide +kernel
theorem dL_law_521 : decode cL_law 521 = .ok (.ireturn, 1) := by decide +kernel
theorem dL_law_522 : decode cL_law 522 = .ok (.aload_n 1, 1) := by decide +kernel
theorem dL_law_523 : decode cL_law 523 = .ok (.aload_n 0, 1) := by decide +kernel
theorem dL_law_524 : decode cL_law 524 = .ok (.iload_n 3, 1) := by decide +kernel
theorem dL_law_525 : decode cL_law 525 = .ok (.iconst 1, 1) := by decide +kernel
theorem dL_law_526 : decode cL_law 526 = .ok (.iadd, 1) := by decide +kernel
theorem dL_law_527 : decode cL_law 527 = .ok (.iaload, 1) := by decide +kernel
theorem dL_law_528 : decode cL_law 528 = .ok (.invokevirtual 74, 3) := by decide +kernel
theorem dL_law_531 : decode cL_law 531 = .ok (.aload_n 2, 1) := by decide +kernel
theorem dL_law_532 : decode cL_law 532 = .ok (.aload_n 0, 1) := by decide +kernel
theorem dL_law_533 : decode cL_law 533 = .ok (.iload_n 3, 1) := by decide +kernel
theorem dL_law_534 : decode cL_law 534 = .ok (.iconst 1, 1) := by decide +kernel
theorem dL_law_535 : decode cL_law 535 = .ok (.iadd, 1) := by decide +kernel
theorem dL_law_536 : decode cL_law 536 = .ok (.iaload, 1) := by decide +kernel
theorem dL_law_537 : decode cL_law 537 = .ok (.invokevirtual 77, 3) := by decide +kernel
theorem dL_law_540 : decode cL_law 540 = .ok (.if_icmp .eq 54, 3) := by decide +kernel
theorem dL_law_543 : decode cL_law 543 = .ok (.iconst 0, 1) := by decide +kernel
theorem dL_law_544 : decode cL_law 544 = .ok (.ireturn, 1) := by decide +kernel
theorem dL_law_545 : decode cL_law 545 = .ok (.aload_n 1, 1) := by decide +kernel
theorem dL_law_546 : decode cL_law 546 = .ok (.invokevirtual 78, 3) := by decide +kernel
theorem dL_law_549 : decode cL_law 549 = .ok (.aload_n 2, 1) := by decide +kernel
theorem dL_law_550 : decode cL_law 550 = .ok (.invokevirtual 81, 3) := by decide +kernel
theorem dL_law_553 : decode cL_law 553 = .ok (.if_icmp .eq 41, 3) := by decide +kernel
theorem dL_law_556 : decode cL_law 556 = .ok (.iconst 0, 1) := by decide +kernel
theorem dL_law_557 : decode cL_law 557 = .ok (.ireturn, 1) := by decide +kernel
theorem dL_law_558 : decode cL_law 558 = .ok (.aload_n 1, 1) := by decide +kernel
theorem dL_law_559 : decode cL_law 559 = .ok (.aload_n 0, 1) := by decide +kernel
theorem dL_law_560 : decode cL_law 560 = .ok (.iload_n 3, 1) := by decide +kernel
theorem dL_law_561 : decode cL_law 561 = .ok (.iconst 1, 1) := by decide +kernel
theorem dL_law_562 : decode cL_law 562 = .ok (.iadd, 1) := by decide +kernel
theorem dL_law_563 : decode cL_law 563 = .ok (.iaload, 1) := by decide +kernel
theorem dL_law_564 : decode cL_law 564 = .ok (.invokevirtual 82, 3) := by decide +kernel
theorem dL_law_567 : decode cL_law 567 = .ok (.aload_n 2, 1) := by decide +kernel
theorem dL_law_568 : decode cL_law 568 = .ok (.aload_n 0, 1) := by decide +kernel
theorem dL_law_569 : decode cL_law 569 = .ok (.iload_n 3, 1) := by decide +kernel
theorem dL_law_570 : decode cL_law 570 = .ok (.iconst 1, 1) := by decide +kernel
theorem dL_law_571 : decode cL_law 571 = .ok (.iadd, 1) := by decide +kernel
theorem dL_law_572 : decode cL_law 572 = .ok (.iaload, 1) := by decide +kernel
theorem dL_law_573 : decode cL_law 573 = .ok (.invokevirtual 85, 3) := by decide +kernel
theorem dL_law_576 : decode cL_law 576 = .ok (.if_icmp .eq 18, 3) := by decide +kernel
theorem dL_law_579 : decode cL_law 579 = .ok (.iconst 0, 1) := by decide +kernel
theorem dL_law_580 : decode cL_law 580 = .ok (.ireturn, 1) := by decide +kernel
theorem dL_law_581 : decode cL_law 581 = .ok (.aload_n 1, 1) := by decide +kernel
theorem dL_law_582 : decode cL_law 582 = .ok (.invokevirtual 86, 3) := by decide +kernel
theorem dL_law_585 : decode cL_law 585 = .ok (.aload_n 2, 1) := by decide +kernel
theorem dL_law_586 : decode cL_law 586 = .ok (.invokevirtual 89, 3) := by decide +kernel
theorem dL_law_589 : decode cL_law 589 = .ok (.if_icmp .eq 5, 3) := by decide +kernel
theorem dL_law_592 : decode cL_law 592 = .ok (.iconst 0, 1) := by decide +kernel
theorem dL_law_593 : decode cL_law 593 = .ok (.ireturn, 1) := by decide +kernel
theorem dL_law_594 : decode cL_law 594 = .ok (.iinc 3 5, 3) := by decide +kernel
theorem dL_law_597 : decode cL_law 597 = .ok (.goto (-579), 3) := by decide +kernel
theorem dL_law_600 : decode cL_law 600 = .ok (.iconst 1, 1) := by decide +kernel
theorem dL_law_601 : decode cL_law 601 = .ok (.ireturn, 1) := by decide +kernel
