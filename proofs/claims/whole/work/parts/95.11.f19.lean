/-! ===== functions of methods, by program (wip/whole/tools/gen11.py) ===== -/
theorem dX18_nextY_0 : decode cX18_nextY 0 = .ok (.iload_n 0, 1) := by decide +kernel
theorem dX18_nextY_1 : decode cX18_nextY 1 = .ok (.iload_n 1, 1) := by decide +kernel
theorem dX18_nextY_2 : decode cX18_nextY 2 = .ok (.iconst 2, 1) := by decide +kernel
theorem dX18_nextY_3 : decode cX18_nextY 3 = .ok (.if_icmp .ne 7, 3) := by decide +kernel
theorem dX18_nextY_10 : decode cX18_nextY 10 = .ok (.iload_n 1, 1) := by decide +kernel
theorem dX18_nextY_11 : decode cX18_nextY 11 = .ok (.iconst 3, 1) := by decide +kernel
theorem dX18_nextY_12 : decode cX18_nextY 12 = .ok (.if_icmp .ne 7, 3) := by decide +kernel
theorem dX18_nextY_19 : decode cX18_nextY 19 = .ok (.iconst 0, 1) := by decide +kernel
theorem dX18_nextY_20 : decode cX18_nextY 20 = .ok (.iadd, 1) := by decide +kernel
theorem dX18_nextY_21 : decode cX18_nextY 21 = .ok (.ireturn, 1) := by decide +kernel
theorem dX18_nextY_15 : decode cX18_nextY 15 = .ok (.iconst (-1), 1) := by decide +kernel
theorem dX18_nextY_16 : decode cX18_nextY 16 = .ok (.goto 4, 3) := by decide +kernel
theorem dX18_nextY_6 : decode cX18_nextY 6 = .ok (.iconst 1, 1) := by decide +kernel
theorem dX18_nextY_7 : decode cX18_nextY 7 = .ok (.goto 13, 3) := by decide +kernel
theorem dX18_passes_0 : decode cX18_passes 0 = .ok (.aload_n 0, 1) := by decide +kernel
theorem dX18_passes_1 : decode cX18_passes 1 = .ok (.getfield 12, 3) := by decide +kernel
theorem dX18_passes_4 : decode cX18_passes 4 = .ok (.iload_n 1, 1) := by decide +kernel
theorem dX18_passes_5 : decode cX18_passes 5 = .ok (.iload_n 2, 1) := by decide +kernel
theorem dX18_passes_6 : decode cX18_passes 6 = .ok (.iload_n 3, 1) := by decide +kernel
theorem dX18_passes_7 : decode cX18_passes 7 = .ok (.invokevirtual 639, 3) := by decide +kernel
theorem dX18_passes_10 : decode cX18_passes 10 = .ok (.istore 4, 2) := by decide +kernel
theorem dX18_passes_12 : decode cX18_passes 12 = .ok (.iload 4, 2) := by decide +kernel
theorem dX18_passes_14 : decode cX18_passes 14 = .ok (.ifCond .ge 7, 3) := by decide +kernel
theorem dX18_passes_21 : decode cX18_passes 21 = .ok (.iconst 0, 1) := by decide +kernel
theorem dX18_passes_22 : decode cX18_passes 22 = .ok (.istore 5, 2) := by decide +kernel
theorem dX18_passes_24 : decode cX18_passes 24 = .ok (.iconst 0, 1) := by decide +kernel
theorem dX18_passes_25 : decode cX18_passes 25 = .ok (.istore 6, 2) := by decide +kernel
theorem dX18_passes_27 : decode cX18_passes 27 = .ok (.iload 4, 2) := by decide +kernel
theorem dX18_passes_29 : decode cX18_passes 29 = .ok (.ifCond .lt 52, 3) := by decide +kernel
theorem dX18_passes_32 : decode cX18_passes 32 = .ok (.iload 6, 2) := by decide +kernel
theorem dX18_passes_34 : decode cX18_passes 34 = .ok (.aload_n 0, 1) := by decide +kernel
theorem dX18_passes_35 : decode cX18_passes 35 = .ok (.getfield 12, 3) := by decide +kernel
theorem dX18_passes_38 : decode cX18_passes 38 = .ok (.getfield 221, 3) := by decide +kernel
theorem dX18_passes_41 : decode cX18_passes 41 = .ok (.iload 4, 2) := by decide +kernel
theorem dX18_passes_43 : decode cX18_passes 43 = .ok (.iaload, 1) := by decide +kernel
theorem dX18_passes_44 : decode cX18_passes 44 = .ok (.if_icmp .ge 37, 3) := by decide +kernel
theorem dX18_passes_47 : decode cX18_passes 47 = .ok (.iload 5, 2) := by decide +kernel
theorem dX18_passes_49 : decode cX18_passes 49 = .ok (.ifCond .ne 19, 3) := by decide +kernel
theorem dX18_passes_68 : decode cX18_passes 68 = .ok (.iconst 1, 1) := by decide +kernel
theorem dX18_passes_69 : decode cX18_passes 69 = .ok (.goto 4, 3) := by decide +kernel
theorem dX18_passes_73 : decode cX18_passes 73 = .ok (.istore 5, 2) := by decide +kernel
theorem dX18_passes_75 : decode cX18_passes 75 = .ok (.iinc 6 1, 3) := by decide +kernel
theorem dX18_passes_78 : decode cX18_passes 78 = .ok (.goto (-51), 3) := by decide +kernel
theorem dX18_passes_52 : decode cX18_passes 52 = .ok (.aload_n 0, 1) := by decide +kernel
theorem dX18_passes_53 : decode cX18_passes 53 = .ok (.getfield 12, 3) := by decide +kernel
theorem dX18_passes_56 : decode cX18_passes 56 = .ok (.iload 4, 2) := by decide +kernel
theorem dX18_passes_58 : decode cX18_passes 58 = .ok (.iload 6, 2) := by decide +kernel
theorem dX18_passes_60 : decode cX18_passes 60 = .ok (.iload_n 1, 1) := by decide +kernel
theorem dX18_passes_61 : decode cX18_passes 61 = .ok (.iload_n 2, 1) := by decide +kernel
theorem dX18_passes_62 : decode cX18_passes 62 = .ok (.invokevirtual 642, 3) := by decide +kernel
theorem dX18_passes_65 : decode cX18_passes 65 = .ok (.ifCond .eq 7, 3) := by decide +kernel
theorem dX18_passes_72 : decode cX18_passes 72 = .ok (.iconst 0, 1) := by decide +kernel
theorem dX18_passes_81 : decode cX18_passes 81 = .ok (.iload 5, 2) := by decide +kernel
theorem dX18_passes_83 : decode cX18_passes 83 = .ok (.ireturn, 1) := by decide +kernel
theorem dX18_passes_17 : decode cX18_passes 17 = .ok (.iconst 1, 1) := by decide +kernel
theorem dX18_passes_18 : decode cX18_passes 18 = .ok (.goto 4, 3) := by decide +kernel
theorem dX18_findWays_0 : decode cX18_findWays 0 = .ok (.iconst 1, 1) := by decide +kernel
theorem dX18_findWays_1 : decode cX18_findWays 1 = .ok (.istore_n 1, 1) := by decide +kernel
theorem dX18_findWays_2 : decode cX18_findWays 2 = .ok (.iconst 0, 1) := by decide +kernel
theorem dX18_findWays_3 : decode cX18_findWays 3 = .ok (.istore_n 2, 1) := by decide +kernel
theorem dX18_findWays_4 : decode cX18_findWays 4 = .ok (.iload_n 2, 1) := by decide +kernel
theorem dX18_findWays_5 : decode cX18_findWays 5 = .ok (.sipush 576, 3) := by decide +kernel
theorem dX18_findWays_8 : decode cX18_findWays 8 = .ok (.if_icmp .ge 104, 3) := by decide +kernel
theorem dX18_findWays_11 : decode cX18_findWays 11 = .ok (.iconst 0, 1) := by decide +kernel
theorem dX18_findWays_12 : decode cX18_findWays 12 = .ok (.istore_n 3, 1) := by decide +kernel
theorem dX18_findWays_13 : decode cX18_findWays 13 = .ok (.iload_n 3, 1) := by decide +kernel
theorem dX18_findWays_14 : decode cX18_findWays 14 = .ok (.iconst 4, 1) := by decide +kernel
theorem dX18_findWays_15 : decode cX18_findWays 15 = .ok (.if_icmp .ge 91, 3) := by decide +kernel
theorem dX18_findWays_18 : decode cX18_findWays 18 = .ok (.aload_n 0, 1) := by decide +kernel
theorem dX18_findWays_19 : decode cX18_findWays 19 = .ok (.iload_n 2, 1) := by decide +kernel
theorem dX18_findWays_20 : decode cX18_findWays 20 = .ok (.bipush 24, 2) := by decide +kernel
theorem dX18_findWays_22 : decode cX18_findWays 22 = .ok (.irem, 1) := by decide +kernel
theorem dX18_findWays_23 : decode cX18_findWays 23 = .ok (.iload_n 2, 1) := by decide +kernel
theorem dX18_findWays_24 : decode cX18_findWays 24 = .ok (.bipush 24, 2) := by decide +kernel
theorem dX18_findWays_26 : decode cX18_findWays 26 = .ok (.idiv, 1) := by decide +kernel
theorem dX18_findWays_27 : decode cX18_findWays 27 = .ok (.invokevirtual 645, 3) := by decide +kernel
theorem dX18_findWays_30 : decode cX18_findWays 30 = .ok (.ifCond .ne 76, 3) := by decide +kernel
theorem dX18_findWays_33 : decode cX18_findWays 33 = .ok (.aload_n 0, 1) := by decide +kernel
theorem dX18_findWays_34 : decode cX18_findWays 34 = .ok (.iload_n 2, 1) := by decide +kernel
theorem dX18_findWays_35 : decode cX18_findWays 35 = .ok (.bipush 24, 2) := by decide +kernel
theorem dX18_findWays_37 : decode cX18_findWays 37 = .ok (.irem, 1) := by decide +kernel
theorem dX18_findWays_38 : decode cX18_findWays 38 = .ok (.iload_n 3, 1) := by decide +kernel
theorem dX18_findWays_39 : decode cX18_findWays 39 = .ok (.invokestatic 648, 3) := by decide +kernel
theorem dX18_findWays_42 : decode cX18_findWays 42 = .ok (.iload_n 2, 1) := by decide +kernel
theorem dX18_findWays_43 : decode cX18_findWays 43 = .ok (.bipush 24, 2) := by decide +kernel
theorem dX18_findWays_45 : decode cX18_findWays 45 = .ok (.idiv, 1) := by decide +kernel
theorem dX18_findWays_46 : decode cX18_findWays 46 = .ok (.iload_n 3, 1) := by decide +kernel
theorem dX18_findWays_47 : decode cX18_findWays 47 = .ok (.invokestatic 651, 3) := by decide +kernel
theorem dX18_findWays_50 : decode cX18_findWays 50 = .ok (.invokevirtual 645, 3) := by decide +kernel
theorem dX18_findWays_53 : decode cX18_findWays 53 = .ok (.ifCond .eq 23, 3) := by decide +kernel
theorem dX18_findWays_76 : decode cX18_findWays 76 = .ok (.iconst 0, 1) := by decide +kernel
theorem dX18_findWays_77 : decode cX18_findWays 77 = .ok (.istore 4, 2) := by decide +kernel
theorem dX18_findWays_79 : decode cX18_findWays 79 = .ok (.aload_n 0, 1) := by decide +kernel
theorem dX18_findWays_80 : decode cX18_findWays 80 = .ok (.getfield 172, 3) := by decide +kernel
theorem dX18_findWays_83 : decode cX18_findWays 83 = .ok (.iload_n 2, 1) := by decide +kernel
theorem dX18_findWays_84 : decode cX18_findWays 84 = .ok (.iload 4, 2) := by decide +kernel
theorem dX18_findWays_86 : decode cX18_findWays 86 = .ok (.ifCond .eq 7, 3) := by decide +kernel
theorem dX18_findWays_93 : decode cX18_findWays 93 = .ok (.aload_n 0, 1) := by decide +kernel
theorem dX18_findWays_94 : decode cX18_findWays 94 = .ok (.getfield 172, 3) := by decide +kernel
theorem dX18_findWays_97 : decode cX18_findWays 97 = .ok (.iload_n 2, 1) := by decide +kernel
theorem dX18_findWays_98 : decode cX18_findWays 98 = .ok (.iaload, 1) := by decide +kernel
theorem dX18_findWays_99 : decode cX18_findWays 99 = .ok (.iastore, 1) := by decide +kernel
theorem dX18_findWays_100 : decode cX18_findWays 100 = .ok (.iinc 3 1, 3) := by decide +kernel
theorem dX18_findWays_103 : decode cX18_findWays 103 = .ok (.goto (-90), 3) := by decide +kernel
theorem dX18_findWays_89 : decode cX18_findWays 89 = .ok (.iconst 1, 1) := by decide +kernel
theorem dX18_findWays_90 : decode cX18_findWays 90 = .ok (.goto 9, 3) := by decide +kernel
theorem dX18_findWays_56 : decode cX18_findWays 56 = .ok (.aload_n 0, 1) := by decide +kernel
theorem dX18_findWays_57 : decode cX18_findWays 57 = .ok (.iload_n 2, 1) := by decide +kernel
theorem dX18_findWays_58 : decode cX18_findWays 58 = .ok (.bipush 24, 2) := by decide +kernel
theorem dX18_findWays_60 : decode cX18_findWays 60 = .ok (.irem, 1) := by decide +kernel
theorem dX18_findWays_61 : decode cX18_findWays 61 = .ok (.iload_n 2, 1) := by decide +kernel
theorem dX18_findWays_62 : decode cX18_findWays 62 = .ok (.bipush 24, 2) := by decide +kernel
theorem dX18_findWays_64 : decode cX18_findWays 64 = .ok (.idiv, 1) := by decide +kernel
theorem dX18_findWays_65 : decode cX18_findWays 65 = .ok (.iload_n 3, 1) := by decide +kernel
theorem dX18_findWays_66 : decode cX18_findWays 66 = .ok (.invokevirtual 654, 3) := by decide +kernel
theorem dX18_findWays_69 : decode cX18_findWays 69 = .ok (.ifCond .eq 7, 3) := by decide +kernel
theorem dX18_findWays_72 : decode cX18_findWays 72 = .ok (.iconst 1, 1) := by decide +kernel
theorem dX18_findWays_73 : decode cX18_findWays 73 = .ok (.goto 4, 3) := by decide +kernel
theorem dX18_findWays_106 : decode cX18_findWays 106 = .ok (.iinc 2 1, 3) := by decide +kernel
theorem dX18_findWays_109 : decode cX18_findWays 109 = .ok (.goto (-105), 3) := by decide +kernel
theorem dX18_findWays_112 : decode cX18_findWays 112 = .ok (.iload_n 1, 1) := by decide +kernel
theorem dX18_findWays_113 : decode cX18_findWays 113 = .ok (.ifCond .eq 156, 3) := by decide +kernel
theorem dX18_findWays_116 : decode cX18_findWays 116 = .ok (.iconst 0, 1) := by decide +kernel
theorem dX18_findWays_117 : decode cX18_findWays 117 = .ok (.istore_n 1, 1) := by decide +kernel
theorem dX18_findWays_118 : decode cX18_findWays 118 = .ok (.iconst 0, 1) := by decide +kernel
theorem dX18_findWays_119 : decode cX18_findWays 119 = .ok (.istore_n 2, 1) := by decide +kernel
theorem dX18_findWays_120 : decode cX18_findWays 120 = .ok (.iload_n 2, 1) := by decide +kernel
theorem dX18_findWays_121 : decode cX18_findWays 121 = .ok (.sipush 576, 3) := by decide +kernel
theorem dX18_findWays_124 : decode cX18_findWays 124 = .ok (.if_icmp .ge 142, 3) := by decide +kernel
theorem dX18_findWays_127 : decode cX18_findWays 127 = .ok (.iconst 0, 1) := by decide +kernel
theorem dX18_findWays_128 : decode cX18_findWays 128 = .ok (.istore_n 3, 1) := by decide +kernel
theorem dX18_findWays_129 : decode cX18_findWays 129 = .ok (.iload_n 3, 1) := by decide +kernel
theorem dX18_findWays_130 : decode cX18_findWays 130 = .ok (.iconst 4, 1) := by decide +kernel
theorem dX18_findWays_131 : decode cX18_findWays 131 = .ok (.if_icmp .ge 129, 3) := by decide +kernel
theorem dX18_findWays_134 : decode cX18_findWays 134 = .ok (.aload_n 0, 1) := by decide +kernel
theorem dX18_findWays_135 : decode cX18_findWays 135 = .ok (.iload_n 2, 1) := by decide +kernel
theorem dX18_findWays_136 : decode cX18_findWays 136 = .ok (.bipush 24, 2) := by decide +kernel
theorem dX18_findWays_138 : decode cX18_findWays 138 = .ok (.irem, 1) := by decide +kernel
theorem dX18_findWays_139 : decode cX18_findWays 139 = .ok (.iload_n 2, 1) := by decide +kernel
theorem dX18_findWays_140 : decode cX18_findWays 140 = .ok (.bipush 24, 2) := by decide +kernel
theorem dX18_findWays_142 : decode cX18_findWays 142 = .ok (.idiv, 1) := by decide +kernel
theorem dX18_findWays_143 : decode cX18_findWays 143 = .ok (.invokevirtual 645, 3) := by decide +kernel
theorem dX18_findWays_146 : decode cX18_findWays 146 = .ok (.ifCond .ne 114, 3) := by decide +kernel
theorem dX18_findWays_149 : decode cX18_findWays 149 = .ok (.iload_n 2, 1) := by decide +kernel
theorem dX18_findWays_150 : decode cX18_findWays 150 = .ok (.bipush 24, 2) := by decide +kernel
theorem dX18_findWays_152 : decode cX18_findWays 152 = .ok (.irem, 1) := by decide +kernel
theorem dX18_findWays_153 : decode cX18_findWays 153 = .ok (.iload_n 3, 1) := by decide +kernel
theorem dX18_findWays_154 : decode cX18_findWays 154 = .ok (.invokestatic 648, 3) := by decide +kernel
theorem dX18_findWays_157 : decode cX18_findWays 157 = .ok (.istore 4, 2) := by decide +kernel
theorem dX18_findWays_159 : decode cX18_findWays 159 = .ok (.iload_n 2, 1) := by decide +kernel
theorem dX18_findWays_160 : decode cX18_findWays 160 = .ok (.bipush 24, 2) := by decide +kernel
theorem dX18_findWays_162 : decode cX18_findWays 162 = .ok (.idiv, 1) := by decide +kernel
theorem dX18_findWays_163 : decode cX18_findWays 163 = .ok (.iload_n 3, 1) := by decide +kernel
theorem dX18_findWays_164 : decode cX18_findWays 164 = .ok (.invokestatic 651, 3) := by decide +kernel
theorem dX18_findWays_167 : decode cX18_findWays 167 = .ok (.istore 5, 2) := by decide +kernel
theorem dX18_findWays_169 : decode cX18_findWays 169 = .ok (.aload_n 0, 1) := by decide +kernel
theorem dX18_findWays_170 : decode cX18_findWays 170 = .ok (.iload 4, 2) := by decide +kernel
theorem dX18_findWays_172 : decode cX18_findWays 172 = .ok (.iload 5, 2) := by decide +kernel
theorem dX18_findWays_174 : decode cX18_findWays 174 = .ok (.invokevirtual 645, 3) := by decide +kernel
theorem dX18_findWays_177 : decode cX18_findWays 177 = .ok (.ifCond .ne 19, 3) := by decide +kernel
theorem dX18_findWays_196 : decode cX18_findWays 196 = .ok (.iconst 0, 1) := by decide +kernel
theorem dX18_findWays_197 : decode cX18_findWays 197 = .ok (.goto 16, 3) := by decide +kernel
theorem dX18_findWays_213 : decode cX18_findWays 213 = .ok (.istore 6, 2) := by decide +kernel
theorem dX18_findWays_215 : decode cX18_findWays 215 = .ok (.iload 6, 2) := by decide +kernel
theorem dX18_findWays_217 : decode cX18_findWays 217 = .ok (.ifCond .le 37, 3) := by decide +kernel
theorem dX18_findWays_254 : decode cX18_findWays 254 = .ok (.iinc 3 1, 3) := by decide +kernel
theorem dX18_findWays_257 : decode cX18_findWays 257 = .ok (.goto (-128), 3) := by decide +kernel
theorem dX18_findWays_220 : decode cX18_findWays 220 = .ok (.aload_n 0, 1) := by decide +kernel
theorem dX18_findWays_221 : decode cX18_findWays 221 = .ok (.getfield 172, 3) := by decide +kernel
theorem dX18_findWays_224 : decode cX18_findWays 224 = .ok (.iload_n 2, 1) := by decide +kernel
theorem dX18_findWays_225 : decode cX18_findWays 225 = .ok (.iaload, 1) := by decide +kernel
theorem dX18_findWays_226 : decode cX18_findWays 226 = .ok (.ifCond .eq 16, 3) := by decide +kernel
theorem dX18_findWays_242 : decode cX18_findWays 242 = .ok (.aload_n 0, 1) := by decide +kernel
theorem dX18_findWays_243 : decode cX18_findWays 243 = .ok (.getfield 172, 3) := by decide +kernel
theorem dX18_findWays_246 : decode cX18_findWays 246 = .ok (.iload_n 2, 1) := by decide +kernel
theorem dX18_findWays_247 : decode cX18_findWays 247 = .ok (.iload 6, 2) := by decide +kernel
theorem dX18_findWays_249 : decode cX18_findWays 249 = .ok (.iconst 1, 1) := by decide +kernel
theorem dX18_findWays_250 : decode cX18_findWays 250 = .ok (.iadd, 1) := by decide +kernel
theorem dX18_findWays_251 : decode cX18_findWays 251 = .ok (.iastore, 1) := by decide +kernel
theorem dX18_findWays_252 : decode cX18_findWays 252 = .ok (.iconst 1, 1) := by decide +kernel
theorem dX18_findWays_253 : decode cX18_findWays 253 = .ok (.istore_n 1, 1) := by decide +kernel
theorem dX18_findWays_229 : decode cX18_findWays 229 = .ok (.aload_n 0, 1) := by decide +kernel
theorem dX18_findWays_230 : decode cX18_findWays 230 = .ok (.getfield 172, 3) := by decide +kernel
theorem dX18_findWays_233 : decode cX18_findWays 233 = .ok (.iload_n 2, 1) := by decide +kernel
theorem dX18_findWays_234 : decode cX18_findWays 234 = .ok (.iaload, 1) := by decide +kernel
theorem dX18_findWays_235 : decode cX18_findWays 235 = .ok (.iload 6, 2) := by decide +kernel
theorem dX18_findWays_237 : decode cX18_findWays 237 = .ok (.iconst 1, 1) := by decide +kernel
theorem dX18_findWays_238 : decode cX18_findWays 238 = .ok (.iadd, 1) := by decide +kernel
theorem dX18_findWays_239 : decode cX18_findWays 239 = .ok (.if_icmp .le 15, 3) := by decide +kernel
theorem dX18_findWays_180 : decode cX18_findWays 180 = .ok (.aload_n 0, 1) := by decide +kernel
theorem dX18_findWays_181 : decode cX18_findWays 181 = .ok (.iload_n 2, 1) := by decide +kernel
theorem dX18_findWays_182 : decode cX18_findWays 182 = .ok (.bipush 24, 2) := by decide +kernel
theorem dX18_findWays_184 : decode cX18_findWays 184 = .ok (.irem, 1) := by decide +kernel
theorem dX18_findWays_185 : decode cX18_findWays 185 = .ok (.iload_n 2, 1) := by decide +kernel
theorem dX18_findWays_186 : decode cX18_findWays 186 = .ok (.bipush 24, 2) := by decide +kernel
theorem dX18_findWays_188 : decode cX18_findWays 188 = .ok (.idiv, 1) := by decide +kernel
theorem dX18_findWays_189 : decode cX18_findWays 189 = .ok (.iload_n 3, 1) := by decide +kernel
theorem dX18_findWays_190 : decode cX18_findWays 190 = .ok (.invokevirtual 654, 3) := by decide +kernel
theorem dX18_findWays_193 : decode cX18_findWays 193 = .ok (.ifCond .ne 7, 3) := by decide +kernel
theorem dX18_findWays_200 : decode cX18_findWays 200 = .ok (.aload_n 0, 1) := by decide +kernel
theorem dX18_findWays_201 : decode cX18_findWays 201 = .ok (.getfield 172, 3) := by decide +kernel
theorem dX18_findWays_204 : decode cX18_findWays 204 = .ok (.bipush 24, 2) := by decide +kernel
theorem dX18_findWays_206 : decode cX18_findWays 206 = .ok (.iload 5, 2) := by decide +kernel
theorem dX18_findWays_208 : decode cX18_findWays 208 = .ok (.imul, 1) := by decide +kernel
theorem dX18_findWays_209 : decode cX18_findWays 209 = .ok (.iload 4, 2) := by decide +kernel
theorem dX18_findWays_211 : decode cX18_findWays 211 = .ok (.iadd, 1) := by decide +kernel
theorem dX18_findWays_212 : decode cX18_findWays 212 = .ok (.iaload, 1) := by decide +kernel
theorem dX18_findWays_260 : decode cX18_findWays 260 = .ok (.iinc 2 1, 3) := by decide +kernel
theorem dX18_findWays_263 : decode cX18_findWays 263 = .ok (.goto (-143), 3) := by decide +kernel
theorem dX18_findWays_266 : decode cX18_findWays 266 = .ok (.goto (-154), 3) := by decide +kernel
theorem dX18_findWays_269 : decode cX18_findWays 269 = .ok (.return_, 1) := by decide +kernel
theorem dX18_build_0 : decode cX18_build 0 = .ok (.aload_n 0, 1) := by decide +kernel
theorem dX18_build_1 : decode cX18_build 1 = .ok (.iload_n 1, 1) := by decide +kernel
theorem dX18_build_2 : decode cX18_build 2 = .ok (.invokestatic 316, 3) := by decide +kernel
theorem dX18_build_5 : decode cX18_build 5 = .ok (.aload_n 0, 1) := by decide +kernel
theorem dX18_build_6 : decode cX18_build 6 = .ok (.getfield 192, 3) := by decide +kernel
theorem dX18_build_9 : decode cX18_build 9 = .ok (.ifCond .ne 39, 3) := by decide +kernel
theorem dX18_build_48 : decode cX18_build 48 = .ok (.iconst 0, 1) := by decide +kernel
theorem dX18_build_49 : decode cX18_build 49 = .ok (.invokevirtual 199, 3) := by decide +kernel
theorem dX18_build_52 : decode cX18_build 52 = .ok (.ifCond .ne 5, 3) := by decide +kernel
theorem dX18_build_57 : decode cX18_build 57 = .ok (.aload_n 0, 1) := by decide +kernel
theorem dX18_build_58 : decode cX18_build 58 = .ok (.getfield 21, 3) := by decide +kernel
theorem dX18_build_61 : decode cX18_build 61 = .ok (.iload_n 1, 1) := by decide +kernel
theorem dX18_build_62 : decode cX18_build 62 = .ok (.invokevirtual 319, 3) := by decide +kernel
theorem dX18_build_65 : decode cX18_build 65 = .ok (.istore_n 2, 1) := by decide +kernel
theorem dX18_build_66 : decode cX18_build 66 = .ok (.iconst 0, 1) := by decide +kernel
theorem dX18_build_67 : decode cX18_build 67 = .ok (.istore_n 3, 1) := by decide +kernel
theorem dX18_build_68 : decode cX18_build 68 = .ok (.iload_n 3, 1) := by decide +kernel
theorem dX18_build_69 : decode cX18_build 69 = .ok (.aload_n 0, 1) := by decide +kernel
theorem dX18_build_70 : decode cX18_build 70 = .ok (.getfield 21, 3) := by decide +kernel
theorem dX18_build_73 : decode cX18_build 73 = .ok (.getfield 321, 3) := by decide +kernel
theorem dX18_build_76 : decode cX18_build 76 = .ok (.if_icmp .ge 39, 3) := by decide +kernel
theorem dX18_build_79 : decode cX18_build 79 = .ok (.aload_n 0, 1) := by decide +kernel
theorem dX18_build_80 : decode cX18_build 80 = .ok (.getfield 21, 3) := by decide +kernel
theorem dX18_build_83 : decode cX18_build 83 = .ok (.getfield 355, 3) := by decide +kernel
theorem dX18_build_86 : decode cX18_build 86 = .ok (.iload_n 3, 1) := by decide +kernel
theorem dX18_build_87 : decode cX18_build 87 = .ok (.iaload, 1) := by decide +kernel
theorem dX18_build_88 : decode cX18_build 88 = .ok (.iconst 1, 1) := by decide +kernel
theorem dX18_build_89 : decode cX18_build 89 = .ok (.if_icmp .eq 16, 3) := by decide +kernel
theorem dX18_build_105 : decode cX18_build 105 = .ok (.iconst (-1), 1) := by decide +kernel
theorem dX18_build_106 : decode cX18_build 106 = .ok (.iload_n 3, 1) := by decide +kernel
theorem dX18_build_107 : decode cX18_build 107 = .ok (.isub, 1) := by decide +kernel
theorem dX18_build_108 : decode cX18_build 108 = .ok (.ireturn, 1) := by decide +kernel
theorem dX18_build_92 : decode cX18_build 92 = .ok (.aload_n 0, 1) := by decide +kernel
theorem dX18_build_93 : decode cX18_build 93 = .ok (.getfield 21, 3) := by decide +kernel
theorem dX18_build_96 : decode cX18_build 96 = .ok (.getfield 355, 3) := by decide +kernel
theorem dX18_build_99 : decode cX18_build 99 = .ok (.iload_n 3, 1) := by decide +kernel
theorem dX18_build_100 : decode cX18_build 100 = .ok (.iaload, 1) := by decide +kernel
theorem dX18_build_101 : decode cX18_build 101 = .ok (.iconst 3, 1) := by decide +kernel
theorem dX18_build_102 : decode cX18_build 102 = .ok (.if_icmp .ne 7, 3) := by decide +kernel
theorem dX18_build_109 : decode cX18_build 109 = .ok (.iinc 3 1, 3) := by decide +kernel
theorem dX18_build_112 : decode cX18_build 112 = .ok (.goto (-44), 3) := by decide +kernel
theorem dX18_build_115 : decode cX18_build 115 = .ok (.aload_n 0, 1) := by decide +kernel
theorem dX18_build_116 : decode cX18_build 116 = .ok (.iconst 1, 1) := by decide +kernel
theorem dX18_build_117 : decode cX18_build 117 = .ok (.putfield 192, 3) := by decide +kernel
theorem dX18_build_120 : decode cX18_build 120 = .ok (.aload_n 0, 1) := by decide +kernel
theorem dX18_build_121 : decode cX18_build 121 = .ok (.aload_n 0, 1) := by decide +kernel
theorem dX18_build_122 : decode cX18_build 122 = .ok (.getfield 12, 3) := by decide +kernel
theorem dX18_build_125 : decode cX18_build 125 = .ok (.getfield 241, 3) := by decide +kernel
theorem dX18_build_128 : decode cX18_build 128 = .ok (.putfield 338, 3) := by decide +kernel
theorem dX18_build_131 : decode cX18_build 131 = .ok (.aload_n 0, 1) := by decide +kernel
theorem dX18_build_132 : decode cX18_build 132 = .ok (.getfield 28, 3) := by decide +kernel
theorem dX18_build_135 : decode cX18_build 135 = .ok (.aload_n 0, 1) := by decide +kernel
theorem dX18_build_136 : decode cX18_build 136 = .ok (.getfield 338, 3) := by decide +kernel
theorem dX18_build_139 : decode cX18_build 139 = .ok (.bipush 10, 2) := by decide +kernel
theorem dX18_build_141 : decode cX18_build 141 = .ok (.iadd, 1) := by decide +kernel
theorem dX18_build_142 : decode cX18_build 142 = .ok (.putfield 358, 3) := by decide +kernel
theorem dX18_build_145 : decode cX18_build 145 = .ok (.iconst 0, 1) := by decide +kernel
theorem dX18_build_146 : decode cX18_build 146 = .ok (.istore_n 3, 1) := by decide +kernel
theorem dX18_build_147 : decode cX18_build 147 = .ok (.iload_n 3, 1) := by decide +kernel
theorem dX18_build_148 : decode cX18_build 148 = .ok (.sipush 576, 3) := by decide +kernel
theorem dX18_build_151 : decode cX18_build 151 = .ok (.if_icmp .ge 30, 3) := by decide +kernel
theorem dX18_build_154 : decode cX18_build 154 = .ok (.aload_n 0, 1) := by decide +kernel
theorem dX18_build_155 : decode cX18_build 155 = .ok (.getfield 175, 3) := by decide +kernel
theorem dX18_build_158 : decode cX18_build 158 = .ok (.iload_n 3, 1) := by decide +kernel
theorem dX18_build_159 : decode cX18_build 159 = .ok (.aload_n 0, 1) := by decide +kernel
theorem dX18_build_160 : decode cX18_build 160 = .ok (.getfield 12, 3) := by decide +kernel
theorem dX18_build_163 : decode cX18_build 163 = .ok (.iload_n 3, 1) := by decide +kernel
theorem dX18_build_164 : decode cX18_build 164 = .ok (.bipush 24, 2) := by decide +kernel
theorem dX18_build_166 : decode cX18_build 166 = .ok (.irem, 1) := by decide +kernel
theorem dX18_build_167 : decode cX18_build 167 = .ok (.iload_n 3, 1) := by decide +kernel
theorem dX18_build_168 : decode cX18_build 168 = .ok (.bipush 24, 2) := by decide +kernel
theorem dX18_build_170 : decode cX18_build 170 = .ok (.idiv, 1) := by decide +kernel
theorem dX18_build_171 : decode cX18_build 171 = .ok (.invokevirtual 269, 3) := by decide +kernel
theorem dX18_build_174 : decode cX18_build 174 = .ok (.iastore, 1) := by decide +kernel
theorem dX18_build_175 : decode cX18_build 175 = .ok (.iinc 3 1, 3) := by decide +kernel
theorem dX18_build_178 : decode cX18_build 178 = .ok (.goto (-31), 3) := by decide +kernel
theorem dX18_build_181 : decode cX18_build 181 = .ok (.aload_n 0, 1) := by decide +kernel
theorem dX18_build_182 : decode cX18_build 182 = .ok (.invokevirtual 359, 3) := by decide +kernel
theorem dX18_build_185 : decode cX18_build 185 = .ok (.aload_n 0, 1) := by decide +kernel
theorem dX18_build_186 : decode cX18_build 186 = .ok (.invokevirtual 362, 3) := by decide +kernel
theorem dX18_build_189 : decode cX18_build 189 = .ok (.aload_n 0, 1) := by decide +kernel
theorem dX18_build_190 : decode cX18_build 190 = .ok (.getfield 351, 3) := by decide +kernel
theorem dX18_build_193 : decode cX18_build 193 = .ok (.ireturn, 1) := by decide +kernel
theorem dX18_build_55 : decode cX18_build 55 = .ok (.iconst 0, 1) := by decide +kernel
theorem dX18_build_56 : decode cX18_build 56 = .ok (.ireturn, 1) := by decide +kernel
theorem dX18_build_12 : decode cX18_build 12 = .ok (.aload_n 0, 1) := by decide +kernel
theorem dX18_build_13 : decode cX18_build 13 = .ok (.getfield 12, 3) := by decide +kernel
theorem dX18_build_16 : decode cX18_build 16 = .ok (.getfield 238, 3) := by decide +kernel
theorem dX18_build_19 : decode cX18_build 19 = .ok (.ifCond .eq 29, 3) := by decide +kernel
theorem dX18_build_22 : decode cX18_build 22 = .ok (.aload_n 0, 1) := by decide +kernel
theorem dX18_build_23 : decode cX18_build 23 = .ok (.getfield 12, 3) := by decide +kernel
theorem dX18_build_26 : decode cX18_build 26 = .ok (.getfield 241, 3) := by decide +kernel
theorem dX18_build_29 : decode cX18_build 29 = .ok (.ifCond .le 19, 3) := by decide +kernel
theorem dX18_build_32 : decode cX18_build 32 = .ok (.aload_n 0, 1) := by decide +kernel
theorem dX18_build_33 : decode cX18_build 33 = .ok (.getfield 12, 3) := by decide +kernel
theorem dX18_build_36 : decode cX18_build 36 = .ok (.getfield 241, 3) := by decide +kernel
theorem dX18_build_39 : decode cX18_build 39 = .ok (.bipush 40, 2) := by decide +kernel
theorem dX18_build_41 : decode cX18_build 41 = .ok (.if_icmp .gt 7, 3) := by decide +kernel
theorem dX18_build_44 : decode cX18_build 44 = .ok (.iconst 1, 1) := by decide +kernel
theorem dX18_build_45 : decode cX18_build 45 = .ok (.goto 4, 3) := by decide +kernel
theorem dX18_portal__0 : decode cX18_portal_ 0 = .ok (.aload_n 0, 1) := by decide +kernel
theorem dX18_portal__1 : decode cX18_portal_ 1 = .ok (.iload_n 1, 1) := by decide +kernel
theorem dX18_portal__2 : decode cX18_portal_ 2 = .ok (.aload_n 0, 1) := by decide +kernel
theorem dX18_portal__3 : decode cX18_portal_ 3 = .ok (.getfield 351, 3) := by decide +kernel
theorem dX18_portal__6 : decode cX18_portal_ 6 = .ok (.invokestatic 207, 3) := by decide +kernel
theorem dX18_portal__9 : decode cX18_portal_ 9 = .ok (.ifCond .eq 16, 3) := by decide +kernel
theorem dX18_portal__25 : decode cX18_portal_ 25 = .ok (.iconst 0, 1) := by decide +kernel
theorem dX18_portal__26 : decode cX18_portal_ 26 = .ok (.aload_n 0, 1) := by decide +kernel
theorem dX18_portal__27 : decode cX18_portal_ 27 = .ok (.getfield 192, 3) := by decide +kernel
theorem dX18_portal__30 : decode cX18_portal_ 30 = .ok (.invokevirtual 199, 3) := by decide +kernel
theorem dX18_portal__33 : decode cX18_portal_ 33 = .ok (.ifCond .ne 5, 3) := by decide +kernel
theorem dX18_portal__38 : decode cX18_portal_ 38 = .ok (.iload_n 2, 1) := by decide +kernel
theorem dX18_portal__39 : decode cX18_portal_ 39 = .ok (.tableswitch 57 0 3 #[29, 36, 43, 50], 29) := by decide +kernel
theorem dX18_portal__96 : decode cX18_portal_ 96 = .ok (.aload_n 0, 1) := by decide +kernel
theorem dX18_portal__97 : decode cX18_portal_ 97 = .ok (.getfield 12, 3) := by decide +kernel
theorem dX18_portal__100 : decode cX18_portal_ 100 = .ok (.aload_n 0, 1) := by decide +kernel
theorem dX18_portal__101 : decode cX18_portal_ 101 = .ok (.getfield 60, 3) := by decide +kernel
theorem dX18_portal__104 : decode cX18_portal_ 104 = .ok (.iload_n 1, 1) := by decide +kernel
theorem dX18_portal__105 : decode cX18_portal_ 105 = .ok (.iaload, 1) := by decide +kernel
theorem dX18_portal__106 : decode cX18_portal_ 106 = .ok (.aload_n 0, 1) := by decide +kernel
theorem dX18_portal__107 : decode cX18_portal_ 107 = .ok (.getfield 66, 3) := by decide +kernel
theorem dX18_portal__110 : decode cX18_portal_ 110 = .ok (.iload_n 1, 1) := by decide +kernel
theorem dX18_portal__111 : decode cX18_portal_ 111 = .ok (.iaload, 1) := by decide +kernel
theorem dX18_portal__112 : decode cX18_portal_ 112 = .ok (.iconst 1, 1) := by decide +kernel
theorem dX18_portal__113 : decode cX18_portal_ 113 = .ok (.iload_n 2, 1) := by decide +kernel
theorem dX18_portal__114 : decode cX18_portal_ 114 = .ok (.iconst 4, 1) := by decide +kernel
theorem dX18_portal__115 : decode cX18_portal_ 115 = .ok (.if_icmp .ne 7, 3) := by decide +kernel
theorem dX18_portal__122 : decode cX18_portal_ 122 = .ok (.iconst 0, 1) := by decide +kernel
theorem dX18_portal__123 : decode cX18_portal_ 123 = .ok (.invokevirtual 365, 3) := by decide +kernel
theorem dX18_portal__126 : decode cX18_portal_ 126 = .ok (.ireturn, 1) := by decide +kernel
theorem dX18_portal__118 : decode cX18_portal_ 118 = .ok (.iconst 1, 1) := by decide +kernel
theorem dX18_portal__119 : decode cX18_portal_ 119 = .ok (.goto 4, 3) := by decide +kernel
theorem dX18_portal__68 : decode cX18_portal_ 68 = .ok (.aload_n 0, 1) := by decide +kernel
theorem dX18_portal__69 : decode cX18_portal_ 69 = .ok (.getfield 53, 3) := by decide +kernel
theorem dX18_portal__72 : decode cX18_portal_ 72 = .ok (.iload_n 1, 1) := by decide +kernel
theorem dX18_portal__73 : decode cX18_portal_ 73 = .ok (.iaload, 1) := by decide +kernel
theorem dX18_portal__74 : decode cX18_portal_ 74 = .ok (.ireturn, 1) := by decide +kernel
theorem dX18_portal__75 : decode cX18_portal_ 75 = .ok (.aload_n 0, 1) := by decide +kernel
theorem dX18_portal__76 : decode cX18_portal_ 76 = .ok (.getfield 57, 3) := by decide +kernel
theorem dX18_portal__79 : decode cX18_portal_ 79 = .ok (.iload_n 1, 1) := by decide +kernel
theorem dX18_portal__80 : decode cX18_portal_ 80 = .ok (.iaload, 1) := by decide +kernel
theorem dX18_portal__81 : decode cX18_portal_ 81 = .ok (.ireturn, 1) := by decide +kernel
theorem dX18_portal__82 : decode cX18_portal_ 82 = .ok (.aload_n 0, 1) := by decide +kernel
theorem dX18_portal__83 : decode cX18_portal_ 83 = .ok (.getfield 60, 3) := by decide +kernel
theorem dX18_portal__86 : decode cX18_portal_ 86 = .ok (.iload_n 1, 1) := by decide +kernel
theorem dX18_portal__87 : decode cX18_portal_ 87 = .ok (.iaload, 1) := by decide +kernel
theorem dX18_portal__88 : decode cX18_portal_ 88 = .ok (.ireturn, 1) := by decide +kernel
theorem dX18_portal__89 : decode cX18_portal_ 89 = .ok (.aload_n 0, 1) := by decide +kernel
theorem dX18_portal__90 : decode cX18_portal_ 90 = .ok (.getfield 63, 3) := by decide +kernel
theorem dX18_portal__93 : decode cX18_portal_ 93 = .ok (.iload_n 1, 1) := by decide +kernel
theorem dX18_portal__94 : decode cX18_portal_ 94 = .ok (.iaload, 1) := by decide +kernel
theorem dX18_portal__95 : decode cX18_portal_ 95 = .ok (.ireturn, 1) := by decide +kernel
theorem dX18_portal__36 : decode cX18_portal_ 36 = .ok (.iconst 0, 1) := by decide +kernel
theorem dX18_portal__37 : decode cX18_portal_ 37 = .ok (.ireturn, 1) := by decide +kernel
theorem dX18_portal__12 : decode cX18_portal_ 12 = .ok (.iload_n 2, 1) := by decide +kernel
theorem dX18_portal__13 : decode cX18_portal_ 13 = .ok (.bipush 6, 2) := by decide +kernel
theorem dX18_portal__15 : decode cX18_portal_ 15 = .ok (.invokestatic 207, 3) := by decide +kernel
theorem dX18_portal__18 : decode cX18_portal_ 18 = .ok (.ifCond .eq 7, 3) := by decide +kernel
theorem dX18_portal__21 : decode cX18_portal_ 21 = .ok (.iconst 1, 1) := by decide +kernel
theorem dX18_portal__22 : decode cX18_portal_ 22 = .ok (.goto 4, 3) := by decide +kernel
theorem dX18_person_0 : decode cX18_person 0 = .ok (.aload_n 0, 1) := by decide +kernel
theorem dX18_person_1 : decode cX18_person 1 = .ok (.iload_n 1, 1) := by decide +kernel
theorem dX18_person_2 : decode cX18_person 2 = .ok (.bipush 10, 2) := by decide +kernel
theorem dX18_person_4 : decode cX18_person 4 = .ok (.invokestatic 207, 3) := by decide +kernel
theorem dX18_person_7 : decode cX18_person 7 = .ok (.ifCond .eq 17, 3) := by decide +kernel
theorem dX18_person_24 : decode cX18_person 24 = .ok (.iconst 0, 1) := by decide +kernel
theorem dX18_person_25 : decode cX18_person 25 = .ok (.aload_n 0, 1) := by decide +kernel
theorem dX18_person_26 : decode cX18_person 26 = .ok (.getfield 192, 3) := by decide +kernel
theorem dX18_person_29 : decode cX18_person 29 = .ok (.ifCond .eq 16, 3) := by decide +kernel
theorem dX18_person_45 : decode cX18_person 45 = .ok (.iconst 0, 1) := by decide +kernel
theorem dX18_person_46 : decode cX18_person 46 = .ok (.invokevirtual 199, 3) := by decide +kernel
theorem dX18_person_49 : decode cX18_person 49 = .ok (.ifCond .ne 5, 3) := by decide +kernel
theorem dX18_person_54 : decode cX18_person 54 = .ok (.aload_n 0, 1) := by decide +kernel
theorem dX18_person_55 : decode cX18_person 55 = .ok (.getfield 100, 3) := by decide +kernel
theorem dX18_person_58 : decode cX18_person 58 = .ok (.aload_n 0, 1) := by decide +kernel
theorem dX18_person_59 : decode cX18_person 59 = .ok (.getfield 369, 3) := by decide +kernel
theorem dX18_person_62 : decode cX18_person 62 = .ok (.iload_n 1, 1) := by decide +kernel
theorem dX18_person_63 : decode cX18_person 63 = .ok (.iastore, 1) := by decide +kernel
theorem dX18_person_64 : decode cX18_person 64 = .ok (.aload_n 0, 1) := by decide +kernel
theorem dX18_person_65 : decode cX18_person 65 = .ok (.getfield 103, 3) := by decide +kernel
theorem dX18_person_68 : decode cX18_person 68 = .ok (.aload_n 0, 1) := by decide +kernel
theorem dX18_person_69 : decode cX18_person 69 = .ok (.getfield 369, 3) := by decide +kernel
theorem dX18_person_72 : decode cX18_person 72 = .ok (.iload_n 2, 1) := by decide +kernel
theorem dX18_person_73 : decode cX18_person 73 = .ok (.iastore, 1) := by decide +kernel
theorem dX18_person_74 : decode cX18_person 74 = .ok (.aload_n 0, 1) := by decide +kernel
theorem dX18_person_75 : decode cX18_person 75 = .ok (.getfield 106, 3) := by decide +kernel
theorem dX18_person_78 : decode cX18_person 78 = .ok (.aload_n 0, 1) := by decide +kernel
theorem dX18_person_79 : decode cX18_person 79 = .ok (.getfield 369, 3) := by decide +kernel
theorem dX18_person_82 : decode cX18_person 82 = .ok (.aload_n 0, 1) := by decide +kernel
theorem dX18_person_83 : decode cX18_person 83 = .ok (.getfield 338, 3) := by decide +kernel
theorem dX18_person_86 : decode cX18_person 86 = .ok (.iastore, 1) := by decide +kernel
theorem dX18_person_87 : decode cX18_person 87 = .ok (.aload_n 0, 1) := by decide +kernel
theorem dX18_person_88 : decode cX18_person 88 = .ok (.getfield 109, 3) := by decide +kernel
theorem dX18_person_91 : decode cX18_person 91 = .ok (.aload_n 0, 1) := by decide +kernel
theorem dX18_person_92 : decode cX18_person 92 = .ok (.getfield 369, 3) := by decide +kernel
theorem dX18_person_95 : decode cX18_person 95 = .ok (.iconst (-1), 1) := by decide +kernel
theorem dX18_person_96 : decode cX18_person 96 = .ok (.iastore, 1) := by decide +kernel
theorem dX18_person_97 : decode cX18_person 97 = .ok (.aload_n 0, 1) := by decide +kernel
theorem dX18_person_98 : decode cX18_person 98 = .ok (.getfield 112, 3) := by decide +kernel
theorem dX18_person_101 : decode cX18_person 101 = .ok (.aload_n 0, 1) := by decide +kernel
theorem dX18_person_102 : decode cX18_person 102 = .ok (.getfield 369, 3) := by decide +kernel
theorem dX18_person_105 : decode cX18_person 105 = .ok (.iconst (-1), 1) := by decide +kernel
theorem dX18_person_106 : decode cX18_person 106 = .ok (.iastore, 1) := by decide +kernel
theorem dX18_person_107 : decode cX18_person 107 = .ok (.aload_n 0, 1) := by decide +kernel
theorem dX18_person_108 : decode cX18_person 108 = .ok (.getfield 115, 3) := by decide +kernel
theorem dX18_person_111 : decode cX18_person 111 = .ok (.aload_n 0, 1) := by decide +kernel
theorem dX18_person_112 : decode cX18_person 112 = .ok (.getfield 369, 3) := by decide +kernel
theorem dX18_person_115 : decode cX18_person 115 = .ok (.iconst (-1), 1) := by decide +kernel
theorem dX18_person_116 : decode cX18_person 116 = .ok (.iastore, 1) := by decide +kernel
theorem dX18_person_117 : decode cX18_person 117 = .ok (.aload_n 0, 1) := by decide +kernel
theorem dX18_person_118 : decode cX18_person 118 = .ok (.dup, 1) := by decide +kernel
theorem dX18_person_119 : decode cX18_person 119 = .ok (.getfield 369, 3) := by decide +kernel
theorem dX18_person_122 : decode cX18_person 122 = .ok (.iconst 1, 1) := by decide +kernel
theorem dX18_person_123 : decode cX18_person 123 = .ok (.iadd, 1) := by decide +kernel
theorem dX18_person_124 : decode cX18_person 124 = .ok (.putfield 369, 3) := by decide +kernel
theorem dX18_person_127 : decode cX18_person 127 = .ok (.aload_n 0, 1) := by decide +kernel
theorem dX18_person_128 : decode cX18_person 128 = .ok (.getfield 369, 3) := by decide +kernel
theorem dX18_person_131 : decode cX18_person 131 = .ok (.iconst 1, 1) := by decide +kernel
theorem dX18_person_132 : decode cX18_person 132 = .ok (.isub, 1) := by decide +kernel
theorem dX18_person_133 : decode cX18_person 133 = .ok (.ireturn, 1) := by decide +kernel
theorem dX18_person_52 : decode cX18_person 52 = .ok (.iconst 0, 1) := by decide +kernel
theorem dX18_person_53 : decode cX18_person 53 = .ok (.ireturn, 1) := by decide +kernel
theorem dX18_person_32 : decode cX18_person 32 = .ok (.aload_n 0, 1) := by decide +kernel
theorem dX18_person_33 : decode cX18_person 33 = .ok (.getfield 369, 3) := by decide +kernel
theorem dX18_person_36 : decode cX18_person 36 = .ok (.bipush 40, 2) := by decide +kernel
theorem dX18_person_38 : decode cX18_person 38 = .ok (.if_icmp .ge 7, 3) := by decide +kernel
theorem dX18_person_41 : decode cX18_person 41 = .ok (.iconst 1, 1) := by decide +kernel
theorem dX18_person_42 : decode cX18_person 42 = .ok (.goto 4, 3) := by decide +kernel
theorem dX18_person_10 : decode cX18_person 10 = .ok (.iload_n 2, 1) := by decide +kernel
theorem dX18_person_11 : decode cX18_person 11 = .ok (.iconst 1, 1) := by decide +kernel
theorem dX18_person_12 : decode cX18_person 12 = .ok (.if_icmp .lt 12, 3) := by decide +kernel
theorem dX18_person_15 : decode cX18_person 15 = .ok (.iload_n 2, 1) := by decide +kernel
theorem dX18_person_16 : decode cX18_person 16 = .ok (.iconst 5, 1) := by decide +kernel
theorem dX18_person_17 : decode cX18_person 17 = .ok (.if_icmp .gt 7, 3) := by decide +kernel
theorem dX18_person_20 : decode cX18_person 20 = .ok (.iconst 1, 1) := by decide +kernel
theorem dX18_person_21 : decode cX18_person 21 = .ok (.goto 4, 3) := by decide +kernel
theorem dX18_isMinute_0 : decode cX18_isMinute 0 = .ok (.iload_n 0, 1) := by decide +kernel
theorem dX18_isMinute_1 : decode cX18_isMinute 1 = .ok (.ifCond .lt 14, 3) := by decide +kernel
theorem dX18_isMinute_15 : decode cX18_isMinute 15 = .ok (.iconst 0, 1) := by decide +kernel
theorem dX18_isMinute_16 : decode cX18_isMinute 16 = .ok (.ireturn, 1) := by decide +kernel
theorem dX18_isMinute_4 : decode cX18_isMinute 4 = .ok (.iload_n 0, 1) := by decide +kernel
theorem dX18_isMinute_5 : decode cX18_isMinute 5 = .ok (.ldc_w 315, 3) := by decide +kernel
theorem dX18_isMinute_8 : decode cX18_isMinute 8 = .ok (.if_icmp .gt 7, 3) := by decide +kernel
theorem dX18_isMinute_11 : decode cX18_isMinute 11 = .ok (.iconst 1, 1) := by decide +kernel
theorem dX18_isMinute_12 : decode cX18_isMinute 12 = .ok (.goto 4, 3) := by decide +kernel
theorem dX18_longer_0 : decode cX18_longer 0 = .ok (.iconst 2, 1) := by decide +kernel
theorem dX18_longer_1 : decode cX18_longer 1 = .ok (.aload_n 0, 1) := by decide +kernel
theorem dX18_longer_2 : decode cX18_longer 2 = .ok (.arraylength, 1) := by decide +kernel
theorem dX18_longer_3 : decode cX18_longer 3 = .ok (.imul, 1) := by decide +kernel
theorem dX18_tell_0 : decode cX18_tell 0 = .ok (.aload_n 0, 1) := by decide +kernel
theorem dX18_tell_1 : decode cX18_tell 1 = .ok (.getfield 372, 3) := by decide +kernel
theorem dX18_tell_4 : decode cX18_tell 4 = .ok (.aload_n 0, 1) := by decide +kernel
theorem dX18_tell_5 : decode cX18_tell 5 = .ok (.getfield 145, 3) := by decide +kernel
theorem dX18_tell_8 : decode cX18_tell 8 = .ok (.arraylength, 1) := by decide +kernel
theorem dX18_tell_9 : decode cX18_tell 9 = .ok (.if_icmp .ne 36, 3) := by decide +kernel
theorem dX18_tell_45 : decode cX18_tell 45 = .ok (.aload_n 0, 1) := by decide +kernel
theorem dX18_tell_46 : decode cX18_tell 46 = .ok (.getfield 145, 3) := by decide +kernel
theorem dX18_tell_49 : decode cX18_tell 49 = .ok (.aload_n 0, 1) := by decide +kernel
theorem dX18_tell_50 : decode cX18_tell 50 = .ok (.getfield 372, 3) := by decide +kernel
theorem dX18_tell_53 : decode cX18_tell 53 = .ok (.iload_n 1, 1) := by decide +kernel
theorem dX18_tell_54 : decode cX18_tell 54 = .ok (.iastore, 1) := by decide +kernel
theorem dX18_tell_55 : decode cX18_tell 55 = .ok (.aload_n 0, 1) := by decide +kernel
theorem dX18_tell_56 : decode cX18_tell 56 = .ok (.getfield 148, 3) := by decide +kernel
theorem dX18_tell_59 : decode cX18_tell 59 = .ok (.aload_n 0, 1) := by decide +kernel
theorem dX18_tell_60 : decode cX18_tell 60 = .ok (.getfield 372, 3) := by decide +kernel
theorem dX18_tell_63 : decode cX18_tell 63 = .ok (.iload_n 2, 1) := by decide +kernel
theorem dX18_tell_64 : decode cX18_tell 64 = .ok (.iastore, 1) := by decide +kernel
theorem dX18_tell_65 : decode cX18_tell 65 = .ok (.aload_n 0, 1) := by decide +kernel
theorem dX18_tell_66 : decode cX18_tell 66 = .ok (.getfield 151, 3) := by decide +kernel
theorem dX18_tell_69 : decode cX18_tell 69 = .ok (.aload_n 0, 1) := by decide +kernel
theorem dX18_tell_70 : decode cX18_tell 70 = .ok (.getfield 372, 3) := by decide +kernel
theorem dX18_tell_73 : decode cX18_tell 73 = .ok (.iload_n 3, 1) := by decide +kernel
theorem dX18_tell_74 : decode cX18_tell 74 = .ok (.iastore, 1) := by decide +kernel
theorem dX18_tell_75 : decode cX18_tell 75 = .ok (.aload_n 0, 1) := by decide +kernel
theorem dX18_tell_76 : decode cX18_tell 76 = .ok (.dup, 1) := by decide +kernel
theorem dX18_tell_77 : decode cX18_tell 77 = .ok (.getfield 372, 3) := by decide +kernel
theorem dX18_tell_80 : decode cX18_tell 80 = .ok (.iconst 1, 1) := by decide +kernel
theorem dX18_tell_81 : decode cX18_tell 81 = .ok (.iadd, 1) := by decide +kernel
theorem dX18_tell_82 : decode cX18_tell 82 = .ok (.putfield 372, 3) := by decide +kernel
theorem dX18_tell_85 : decode cX18_tell 85 = .ok (.return_, 1) := by decide +kernel
theorem dX18_tell_12 : decode cX18_tell 12 = .ok (.aload_n 0, 1) := by decide +kernel
theorem dX18_tell_13 : decode cX18_tell 13 = .ok (.aload_n 0, 1) := by decide +kernel
theorem dX18_tell_14 : decode cX18_tell 14 = .ok (.getfield 145, 3) := by decide +kernel
theorem dX18_tell_17 : decode cX18_tell 17 = .ok (.invokestatic 375, 3) := by decide +kernel
theorem dX18_tell_20 : decode cX18_tell 20 = .ok (.putfield 145, 3) := by decide +kernel
theorem dX18_tell_23 : decode cX18_tell 23 = .ok (.aload_n 0, 1) := by decide +kernel
theorem dX18_tell_24 : decode cX18_tell 24 = .ok (.aload_n 0, 1) := by decide +kernel
theorem dX18_tell_25 : decode cX18_tell 25 = .ok (.getfield 148, 3) := by decide +kernel
theorem dX18_tell_28 : decode cX18_tell 28 = .ok (.invokestatic 375, 3) := by decide +kernel
theorem dX18_tell_31 : decode cX18_tell 31 = .ok (.putfield 148, 3) := by decide +kernel
theorem dX18_tell_34 : decode cX18_tell 34 = .ok (.aload_n 0, 1) := by decide +kernel
theorem dX18_tell_35 : decode cX18_tell 35 = .ok (.aload_n 0, 1) := by decide +kernel
theorem dX18_tell_36 : decode cX18_tell 36 = .ok (.getfield 151, 3) := by decide +kernel
theorem dX18_tell_39 : decode cX18_tell 39 = .ok (.invokestatic 375, 3) := by decide +kernel
theorem dX18_tell_42 : decode cX18_tell 42 = .ok (.putfield 151, 3) := by decide +kernel
theorem dX18_lastTold_0 : decode cX18_lastTold 0 = .ok (.iload_n 3, 1) := by decide +kernel
theorem dX18_lastTold_1 : decode cX18_lastTold 1 = .ok (.aload_n 0, 1) := by decide +kernel
theorem dX18_lastTold_2 : decode cX18_lastTold 2 = .ok (.getfield 372, 3) := by decide +kernel
theorem dX18_lastTold_5 : decode cX18_lastTold 5 = .ok (.if_icmp .ge 7, 3) := by decide +kernel
theorem dX18_lastTold_12 : decode cX18_lastTold 12 = .ok (.aload_n 0, 1) := by decide +kernel
theorem dX18_lastTold_13 : decode cX18_lastTold 13 = .ok (.getfield 372, 3) := by decide +kernel
theorem dX18_lastTold_16 : decode cX18_lastTold 16 = .ok (.iconst 1, 1) := by decide +kernel
theorem dX18_lastTold_17 : decode cX18_lastTold 17 = .ok (.isub, 1) := by decide +kernel
theorem dX18_lastTold_18 : decode cX18_lastTold 18 = .ok (.istore 4, 2) := by decide +kernel
theorem dX18_lastTold_20 : decode cX18_lastTold 20 = .ok (.iload 4, 2) := by decide +kernel
theorem dX18_lastTold_22 : decode cX18_lastTold 22 = .ok (.ifCond .lt 39, 3) := by decide +kernel
theorem dX18_lastTold_25 : decode cX18_lastTold 25 = .ok (.aload_n 0, 1) := by decide +kernel
theorem dX18_lastTold_26 : decode cX18_lastTold 26 = .ok (.getfield 145, 3) := by decide +kernel
theorem dX18_lastTold_29 : decode cX18_lastTold 29 = .ok (.iload 4, 2) := by decide +kernel
theorem dX18_lastTold_31 : decode cX18_lastTold 31 = .ok (.iaload, 1) := by decide +kernel
theorem dX18_lastTold_32 : decode cX18_lastTold 32 = .ok (.iload_n 1, 1) := by decide +kernel
theorem dX18_lastTold_33 : decode cX18_lastTold 33 = .ok (.if_icmp .ne 22, 3) := by decide +kernel
theorem dX18_lastTold_55 : decode cX18_lastTold 55 = .ok (.iinc 4 (-1), 3) := by decide +kernel
theorem dX18_lastTold_58 : decode cX18_lastTold 58 = .ok (.goto (-38), 3) := by decide +kernel
theorem dX18_lastTold_36 : decode cX18_lastTold 36 = .ok (.aload_n 0, 1) := by decide +kernel
theorem dX18_lastTold_37 : decode cX18_lastTold 37 = .ok (.getfield 148, 3) := by decide +kernel
theorem dX18_lastTold_40 : decode cX18_lastTold 40 = .ok (.iload 4, 2) := by decide +kernel
theorem dX18_lastTold_42 : decode cX18_lastTold 42 = .ok (.iaload, 1) := by decide +kernel
theorem dX18_lastTold_43 : decode cX18_lastTold 43 = .ok (.iload_n 2, 1) := by decide +kernel
theorem dX18_lastTold_44 : decode cX18_lastTold 44 = .ok (.if_icmp .ne 11, 3) := by decide +kernel
theorem dX18_lastTold_47 : decode cX18_lastTold 47 = .ok (.aload_n 0, 1) := by decide +kernel
theorem dX18_lastTold_48 : decode cX18_lastTold 48 = .ok (.getfield 151, 3) := by decide +kernel
theorem dX18_lastTold_51 : decode cX18_lastTold 51 = .ok (.iload 4, 2) := by decide +kernel
theorem dX18_lastTold_53 : decode cX18_lastTold 53 = .ok (.iaload, 1) := by decide +kernel
theorem dX18_lastTold_54 : decode cX18_lastTold 54 = .ok (.ireturn, 1) := by decide +kernel
theorem dX18_lastTold_61 : decode cX18_lastTold 61 = .ok (.iconst (-1), 1) := by decide +kernel
theorem dX18_lastTold_62 : decode cX18_lastTold 62 = .ok (.ireturn, 1) := by decide +kernel
theorem dX18_lastTold_8 : decode cX18_lastTold 8 = .ok (.iload_n 3, 1) := by decide +kernel
theorem dX18_lastTold_9 : decode cX18_lastTold 9 = .ok (.goto 7, 3) := by decide +kernel
theorem dX18_card_0 : decode cX18_card 0 = .ok (.aload_n 0, 1) := by decide +kernel
theorem dX18_card_1 : decode cX18_card 1 = .ok (.iload_n 1, 1) := by decide +kernel
theorem dX18_card_2 : decode cX18_card 2 = .ok (.aload_n 0, 1) := by decide +kernel
theorem dX18_card_3 : decode cX18_card 3 = .ok (.getfield 369, 3) := by decide +kernel
theorem dX18_card_6 : decode cX18_card 6 = .ok (.invokestatic 207, 3) := by decide +kernel
theorem dX18_card_9 : decode cX18_card 9 = .ok (.ifCond .eq 14, 3) := by decide +kernel
theorem dX18_card_23 : decode cX18_card 23 = .ok (.iconst 0, 1) := by decide +kernel
theorem dX18_card_24 : decode cX18_card 24 = .ok (.aload_n 0, 1) := by decide +kernel
theorem dX18_card_25 : decode cX18_card 25 = .ok (.getfield 192, 3) := by decide +kernel
theorem dX18_card_28 : decode cX18_card 28 = .ok (.ifCond .eq 16, 3) := by decide +kernel
theorem dX18_card_44 : decode cX18_card 44 = .ok (.iconst 0, 1) := by decide +kernel
theorem dX18_card_45 : decode cX18_card 45 = .ok (.invokevirtual 199, 3) := by decide +kernel
theorem dX18_card_48 : decode cX18_card 48 = .ok (.ifCond .ne 5, 3) := by decide +kernel
theorem dX18_card_53 : decode cX18_card 53 = .ok (.aload_n 0, 1) := by decide +kernel
theorem dX18_card_54 : decode cX18_card 54 = .ok (.getfield 124, 3) := by decide +kernel
theorem dX18_card_57 : decode cX18_card 57 = .ok (.aload_n 0, 1) := by decide +kernel
theorem dX18_card_58 : decode cX18_card 58 = .ok (.getfield 382, 3) := by decide +kernel
theorem dX18_card_61 : decode cX18_card 61 = .ok (.iload_n 1, 1) := by decide +kernel
theorem dX18_card_62 : decode cX18_card 62 = .ok (.iastore, 1) := by decide +kernel
theorem dX18_card_63 : decode cX18_card 63 = .ok (.aload_n 0, 1) := by decide +kernel
theorem dX18_card_64 : decode cX18_card 64 = .ok (.getfield 127, 3) := by decide +kernel
theorem dX18_card_67 : decode cX18_card 67 = .ok (.aload_n 0, 1) := by decide +kernel
theorem dX18_card_68 : decode cX18_card 68 = .ok (.getfield 382, 3) := by decide +kernel
theorem dX18_card_71 : decode cX18_card 71 = .ok (.iload_n 2, 1) := by decide +kernel
theorem dX18_card_72 : decode cX18_card 72 = .ok (.iastore, 1) := by decide +kernel
theorem dX18_card_73 : decode cX18_card 73 = .ok (.aload_n 0, 1) := by decide +kernel
theorem dX18_card_74 : decode cX18_card 74 = .ok (.iconst 0, 1) := by decide +kernel
theorem dX18_card_75 : decode cX18_card 75 = .ok (.aload_n 0, 1) := by decide +kernel
theorem dX18_card_76 : decode cX18_card 76 = .ok (.getfield 382, 3) := by decide +kernel
theorem dX18_card_79 : decode cX18_card 79 = .ok (.iload_n 2, 1) := by decide +kernel
theorem dX18_card_80 : decode cX18_card 80 = .ok (.invokevirtual 385, 3) := by decide +kernel
theorem dX18_card_83 : decode cX18_card 83 = .ok (.aload_n 0, 1) := by decide +kernel
theorem dX18_card_84 : decode cX18_card 84 = .ok (.dup, 1) := by decide +kernel
theorem dX18_card_85 : decode cX18_card 85 = .ok (.getfield 382, 3) := by decide +kernel
theorem dX18_card_88 : decode cX18_card 88 = .ok (.iconst 1, 1) := by decide +kernel
theorem dX18_card_89 : decode cX18_card 89 = .ok (.iadd, 1) := by decide +kernel
theorem dX18_card_90 : decode cX18_card 90 = .ok (.putfield 382, 3) := by decide +kernel
theorem dX18_card_93 : decode cX18_card 93 = .ok (.aload_n 0, 1) := by decide +kernel
theorem dX18_card_94 : decode cX18_card 94 = .ok (.getfield 382, 3) := by decide +kernel
theorem dX18_card_97 : decode cX18_card 97 = .ok (.iconst 1, 1) := by decide +kernel
theorem dX18_card_98 : decode cX18_card 98 = .ok (.isub, 1) := by decide +kernel
theorem dX18_card_99 : decode cX18_card 99 = .ok (.ireturn, 1) := by decide +kernel
theorem dX18_card_51 : decode cX18_card 51 = .ok (.iconst 0, 1) := by decide +kernel
theorem dX18_card_52 : decode cX18_card 52 = .ok (.ireturn, 1) := by decide +kernel
theorem dX18_card_31 : decode cX18_card 31 = .ok (.aload_n 0, 1) := by decide +kernel
theorem dX18_card_32 : decode cX18_card 32 = .ok (.getfield 382, 3) := by decide +kernel
theorem dX18_card_35 : decode cX18_card 35 = .ok (.bipush 60, 2) := by decide +kernel
theorem dX18_card_37 : decode cX18_card 37 = .ok (.if_icmp .ge 7, 3) := by decide +kernel
theorem dX18_card_40 : decode cX18_card 40 = .ok (.iconst 1, 1) := by decide +kernel
theorem dX18_card_41 : decode cX18_card 41 = .ok (.goto 4, 3) := by decide +kernel
theorem dX18_card_12 : decode cX18_card 12 = .ok (.iload_n 2, 1) := by decide +kernel
theorem dX18_card_13 : decode cX18_card 13 = .ok (.invokestatic 379, 3) := by decide +kernel
theorem dX18_card_16 : decode cX18_card 16 = .ok (.ifCond .eq 7, 3) := by decide +kernel
theorem dX18_card_19 : decode cX18_card 19 = .ok (.iconst 1, 1) := by decide +kernel
theorem dX18_card_20 : decode cX18_card 20 = .ok (.goto 4, 3) := by decide +kernel
theorem dX18_right_0 : decode cX18_right 0 = .ok (.iload_n 1, 1) := by decide +kernel
theorem dX18_right_1 : decode cX18_right 1 = .ok (.bipush 10, 2) := by decide +kernel
theorem dX18_right_3 : decode cX18_right 3 = .ok (.invokestatic 207, 3) := by decide +kernel
theorem dX18_right_6 : decode cX18_right 6 = .ok (.ifCond .eq 45, 3) := by decide +kernel
theorem dX18_right_51 : decode cX18_right 51 = .ok (.iconst 0, 1) := by decide +kernel
theorem dX18_right_52 : decode cX18_right 52 = .ok (.istore 6, 2) := by decide +kernel
theorem dX18_right_54 : decode cX18_right 54 = .ok (.aload_n 0, 1) := by decide +kernel
theorem dX18_right_55 : decode cX18_right 55 = .ok (.iload 6, 2) := by decide +kernel
theorem dX18_right_57 : decode cX18_right 57 = .ok (.aload_n 0, 1) := by decide +kernel
theorem dX18_right_58 : decode cX18_right 58 = .ok (.getfield 192, 3) := by decide +kernel
theorem dX18_right_61 : decode cX18_right 61 = .ok (.ifCond .eq 16, 3) := by decide +kernel
theorem dX18_right_77 : decode cX18_right 77 = .ok (.iconst 0, 1) := by decide +kernel
theorem dX18_right_78 : decode cX18_right 78 = .ok (.invokevirtual 199, 3) := by decide +kernel
theorem dX18_right_81 : decode cX18_right 81 = .ok (.ifCond .ne 5, 3) := by decide +kernel
theorem dX18_right_86 : decode cX18_right 86 = .ok (.aload_n 0, 1) := by decide +kernel
theorem dX18_right_87 : decode cX18_right 87 = .ok (.getfield 130, 3) := by decide +kernel
theorem dX18_right_90 : decode cX18_right 90 = .ok (.aload_n 0, 1) := by decide +kernel
theorem dX18_right_91 : decode cX18_right 91 = .ok (.getfield 388, 3) := by decide +kernel
theorem dX18_right_94 : decode cX18_right 94 = .ok (.iload_n 1, 1) := by decide +kernel
theorem dX18_right_95 : decode cX18_right 95 = .ok (.iastore, 1) := by decide +kernel
theorem dX18_right_96 : decode cX18_right 96 = .ok (.aload_n 0, 1) := by decide +kernel
theorem dX18_right_97 : decode cX18_right 97 = .ok (.getfield 133, 3) := by decide +kernel
theorem dX18_right_100 : decode cX18_right 100 = .ok (.aload_n 0, 1) := by decide +kernel
theorem dX18_right_101 : decode cX18_right 101 = .ok (.getfield 388, 3) := by decide +kernel
theorem dX18_right_104 : decode cX18_right 104 = .ok (.iload_n 2, 1) := by decide +kernel
theorem dX18_right_105 : decode cX18_right 105 = .ok (.iastore, 1) := by decide +kernel
theorem dX18_right_106 : decode cX18_right 106 = .ok (.aload_n 0, 1) := by decide +kernel
theorem dX18_right_107 : decode cX18_right 107 = .ok (.getfield 136, 3) := by decide +kernel
theorem dX18_right_110 : decode cX18_right 110 = .ok (.aload_n 0, 1) := by decide +kernel
theorem dX18_right_111 : decode cX18_right 111 = .ok (.getfield 388, 3) := by decide +kernel
theorem dX18_right_114 : decode cX18_right 114 = .ok (.iload_n 3, 1) := by decide +kernel
theorem dX18_right_115 : decode cX18_right 115 = .ok (.iastore, 1) := by decide +kernel
theorem dX18_right_116 : decode cX18_right 116 = .ok (.aload_n 0, 1) := by decide +kernel
theorem dX18_right_117 : decode cX18_right 117 = .ok (.getfield 139, 3) := by decide +kernel
theorem dX18_right_120 : decode cX18_right 120 = .ok (.aload_n 0, 1) := by decide +kernel
theorem dX18_right_121 : decode cX18_right 121 = .ok (.getfield 388, 3) := by decide +kernel
theorem dX18_right_124 : decode cX18_right 124 = .ok (.iload 4, 2) := by decide +kernel
theorem dX18_right_126 : decode cX18_right 126 = .ok (.iastore, 1) := by decide +kernel
theorem dX18_right_127 : decode cX18_right 127 = .ok (.aload_n 0, 1) := by decide +kernel
theorem dX18_right_128 : decode cX18_right 128 = .ok (.getfield 142, 3) := by decide +kernel
theorem dX18_right_131 : decode cX18_right 131 = .ok (.aload_n 0, 1) := by decide +kernel
theorem dX18_right_132 : decode cX18_right 132 = .ok (.getfield 388, 3) := by decide +kernel
theorem dX18_right_135 : decode cX18_right 135 = .ok (.iload 5, 2) := by decide +kernel
theorem dX18_right_137 : decode cX18_right 137 = .ok (.iastore, 1) := by decide +kernel
theorem dX18_right_138 : decode cX18_right 138 = .ok (.aload_n 0, 1) := by decide +kernel
theorem dX18_right_139 : decode cX18_right 139 = .ok (.iconst 1, 1) := by decide +kernel
theorem dX18_right_140 : decode cX18_right 140 = .ok (.aload_n 0, 1) := by decide +kernel
theorem dX18_right_141 : decode cX18_right 141 = .ok (.getfield 388, 3) := by decide +kernel
theorem dX18_right_144 : decode cX18_right 144 = .ok (.iload 5, 2) := by decide +kernel
theorem dX18_right_146 : decode cX18_right 146 = .ok (.invokevirtual 385, 3) := by decide +kernel
theorem dX18_right_149 : decode cX18_right 149 = .ok (.aload_n 0, 1) := by decide +kernel
theorem dX18_right_150 : decode cX18_right 150 = .ok (.dup, 1) := by decide +kernel
theorem dX18_right_151 : decode cX18_right 151 = .ok (.getfield 388, 3) := by decide +kernel
theorem dX18_right_154 : decode cX18_right 154 = .ok (.iconst 1, 1) := by decide +kernel
theorem dX18_right_155 : decode cX18_right 155 = .ok (.iadd, 1) := by decide +kernel
theorem dX18_right_156 : decode cX18_right 156 = .ok (.putfield 388, 3) := by decide +kernel
theorem dX18_right_159 : decode cX18_right 159 = .ok (.aload_n 0, 1) := by decide +kernel
theorem dX18_right_160 : decode cX18_right 160 = .ok (.getfield 388, 3) := by decide +kernel
theorem dX18_right_163 : decode cX18_right 163 = .ok (.iconst 1, 1) := by decide +kernel
theorem dX18_right_164 : decode cX18_right 164 = .ok (.isub, 1) := by decide +kernel
theorem dX18_right_165 : decode cX18_right 165 = .ok (.ireturn, 1) := by decide +kernel
theorem dX18_right_84 : decode cX18_right 84 = .ok (.iconst 0, 1) := by decide +kernel
theorem dX18_right_85 : decode cX18_right 85 = .ok (.ireturn, 1) := by decide +kernel
theorem dX18_right_64 : decode cX18_right 64 = .ok (.aload_n 0, 1) := by decide +kernel
theorem dX18_right_65 : decode cX18_right 65 = .ok (.getfield 388, 3) := by decide +kernel
theorem dX18_right_68 : decode cX18_right 68 = .ok (.bipush 16, 2) := by decide +kernel
theorem dX18_right_70 : decode cX18_right 70 = .ok (.if_icmp .ge 7, 3) := by decide +kernel
theorem dX18_right_73 : decode cX18_right 73 = .ok (.iconst 1, 1) := by decide +kernel
theorem dX18_right_74 : decode cX18_right 74 = .ok (.goto 4, 3) := by decide +kernel
theorem dX18_right_9 : decode cX18_right 9 = .ok (.iload_n 2, 1) := by decide +kernel
theorem dX18_right_10 : decode cX18_right 10 = .ok (.bipush 10, 2) := by decide +kernel
theorem dX18_right_12 : decode cX18_right 12 = .ok (.invokestatic 207, 3) := by decide +kernel
theorem dX18_right_15 : decode cX18_right 15 = .ok (.ifCond .eq 36, 3) := by decide +kernel
theorem dX18_right_18 : decode cX18_right 18 = .ok (.iload_n 3, 1) := by decide +kernel
theorem dX18_right_19 : decode cX18_right 19 = .ok (.sipush 1440, 3) := by decide +kernel
theorem dX18_right_22 : decode cX18_right 22 = .ok (.invokestatic 207, 3) := by decide +kernel
theorem dX18_right_25 : decode cX18_right 25 = .ok (.ifCond .eq 26, 3) := by decide +kernel
theorem dX18_right_28 : decode cX18_right 28 = .ok (.iload 4, 2) := by decide +kernel
theorem dX18_right_30 : decode cX18_right 30 = .ok (.sipush 1440, 3) := by decide +kernel
theorem dX18_right_33 : decode cX18_right 33 = .ok (.invokestatic 207, 3) := by decide +kernel
theorem dX18_right_36 : decode cX18_right 36 = .ok (.ifCond .eq 15, 3) := by decide +kernel
theorem dX18_right_39 : decode cX18_right 39 = .ok (.iload 5, 2) := by decide +kernel
theorem dX18_right_41 : decode cX18_right 41 = .ok (.invokestatic 379, 3) := by decide +kernel
theorem dX18_right_44 : decode cX18_right 44 = .ok (.ifCond .eq 7, 3) := by decide +kernel
theorem dX18_right_47 : decode cX18_right 47 = .ok (.iconst 1, 1) := by decide +kernel
theorem dX18_right_48 : decode cX18_right 48 = .ok (.goto 4, 3) := by decide +kernel
theorem dX18_end_0 : decode cX18_end 0 = .ok (.aload_n 0, 1) := by decide +kernel
theorem dX18_end_1 : decode cX18_end 1 = .ok (.iload_n 1, 1) := by decide +kernel
theorem dX18_end_2 : decode cX18_end 2 = .ok (.aload_n 0, 1) := by decide +kernel
theorem dX18_end_3 : decode cX18_end 3 = .ok (.getfield 388, 3) := by decide +kernel
theorem dX18_end_6 : decode cX18_end 6 = .ok (.invokestatic 207, 3) := by decide +kernel
theorem dX18_end_9 : decode cX18_end 9 = .ok (.ifCond .eq 14, 3) := by decide +kernel
theorem dX18_end_23 : decode cX18_end 23 = .ok (.iconst 0, 1) := by decide +kernel
theorem dX18_end_24 : decode cX18_end 24 = .ok (.aload_n 0, 1) := by decide +kernel
theorem dX18_end_25 : decode cX18_end 25 = .ok (.getfield 192, 3) := by decide +kernel
theorem dX18_end_28 : decode cX18_end 28 = .ok (.invokevirtual 199, 3) := by decide +kernel
theorem dX18_end_31 : decode cX18_end 31 = .ok (.ifCond .ne 5, 3) := by decide +kernel
theorem dX18_end_36 : decode cX18_end 36 = .ok (.aload_n 0, 1) := by decide +kernel
theorem dX18_end_37 : decode cX18_end 37 = .ok (.iconst 2, 1) := by decide +kernel
theorem dX18_end_38 : decode cX18_end 38 = .ok (.iload_n 1, 1) := by decide +kernel
theorem dX18_end_39 : decode cX18_end 39 = .ok (.ldc_w 354, 3) := by decide +kernel
theorem dX18_end_42 : decode cX18_end 42 = .ok (.invokevirtual 391, 3) := by decide +kernel
theorem dX18_end_45 : decode cX18_end 45 = .ok (.istore_n 3, 1) := by decide +kernel
theorem dX18_end_46 : decode cX18_end 46 = .ok (.aload_n 0, 1) := by decide +kernel
theorem dX18_end_47 : decode cX18_end 47 = .ok (.iconst 2, 1) := by decide +kernel
theorem dX18_end_48 : decode cX18_end 48 = .ok (.iload_n 1, 1) := by decide +kernel
theorem dX18_end_49 : decode cX18_end 49 = .ok (.iload_n 2, 1) := by decide +kernel
theorem dX18_end_50 : decode cX18_end 50 = .ok (.invokevirtual 385, 3) := by decide +kernel
theorem dX18_end_53 : decode cX18_end 53 = .ok (.iload_n 3, 1) := by decide +kernel
theorem dX18_end_54 : decode cX18_end 54 = .ok (.ireturn, 1) := by decide +kernel
theorem dX18_end_34 : decode cX18_end 34 = .ok (.iconst 0, 1) := by decide +kernel
theorem dX18_end_35 : decode cX18_end 35 = .ok (.ireturn, 1) := by decide +kernel
theorem dX18_end_12 : decode cX18_end 12 = .ok (.iload_n 2, 1) := by decide +kernel
theorem dX18_end_13 : decode cX18_end 13 = .ok (.invokestatic 379, 3) := by decide +kernel
theorem dX18_end_16 : decode cX18_end 16 = .ok (.ifCond .eq 7, 3) := by decide +kernel
theorem dX18_end_19 : decode cX18_end 19 = .ok (.iconst 1, 1) := by decide +kernel
theorem dX18_end_20 : decode cX18_end 20 = .ok (.goto 4, 3) := by decide +kernel
theorem dX18_lost_0 : decode cX18_lost 0 = .ok (.aload_n 0, 1) := by decide +kernel
theorem dX18_lost_1 : decode cX18_lost 1 = .ok (.iload_n 1, 1) := by decide +kernel
theorem dX18_lost_2 : decode cX18_lost 2 = .ok (.aload_n 0, 1) := by decide +kernel
theorem dX18_lost_3 : decode cX18_lost 3 = .ok (.getfield 382, 3) := by decide +kernel
theorem dX18_lost_6 : decode cX18_lost 6 = .ok (.invokestatic 207, 3) := by decide +kernel
theorem dX18_lost_9 : decode cX18_lost 9 = .ok (.ifCond .eq 14, 3) := by decide +kernel
theorem dX18_lost_23 : decode cX18_lost 23 = .ok (.iconst 0, 1) := by decide +kernel
theorem dX18_lost_24 : decode cX18_lost 24 = .ok (.aload_n 0, 1) := by decide +kernel
theorem dX18_lost_25 : decode cX18_lost 25 = .ok (.getfield 192, 3) := by decide +kernel
theorem dX18_lost_28 : decode cX18_lost 28 = .ok (.invokevirtual 199, 3) := by decide +kernel
theorem dX18_lost_31 : decode cX18_lost 31 = .ok (.ifCond .ne 5, 3) := by decide +kernel
theorem dX18_lost_36 : decode cX18_lost 36 = .ok (.aload_n 0, 1) := by decide +kernel
theorem dX18_lost_37 : decode cX18_lost 37 = .ok (.iconst 3, 1) := by decide +kernel
theorem dX18_lost_38 : decode cX18_lost 38 = .ok (.iload_n 1, 1) := by decide +kernel
theorem dX18_lost_39 : decode cX18_lost 39 = .ok (.ldc_w 354, 3) := by decide +kernel
theorem dX18_lost_42 : decode cX18_lost 42 = .ok (.invokevirtual 391, 3) := by decide +kernel
theorem dX18_lost_45 : decode cX18_lost 45 = .ok (.istore_n 3, 1) := by decide +kernel
theorem dX18_lost_46 : decode cX18_lost 46 = .ok (.aload_n 0, 1) := by decide +kernel
theorem dX18_lost_47 : decode cX18_lost 47 = .ok (.iconst 3, 1) := by decide +kernel
theorem dX18_lost_48 : decode cX18_lost 48 = .ok (.iload_n 1, 1) := by decide +kernel
theorem dX18_lost_49 : decode cX18_lost 49 = .ok (.iload_n 2, 1) := by decide +kernel
theorem dX18_lost_50 : decode cX18_lost 50 = .ok (.invokevirtual 385, 3) := by decide +kernel
theorem dX18_lost_53 : decode cX18_lost 53 = .ok (.iload_n 3, 1) := by decide +kernel
theorem dX18_lost_54 : decode cX18_lost 54 = .ok (.ireturn, 1) := by decide +kernel
theorem dX18_lost_34 : decode cX18_lost 34 = .ok (.iconst 0, 1) := by decide +kernel
theorem dX18_lost_35 : decode cX18_lost 35 = .ok (.ireturn, 1) := by decide +kernel
theorem dX18_lost_12 : decode cX18_lost 12 = .ok (.iload_n 2, 1) := by decide +kernel
theorem dX18_lost_13 : decode cX18_lost 13 = .ok (.invokestatic 379, 3) := by decide +kernel
theorem dX18_lost_16 : decode cX18_lost 16 = .ok (.ifCond .eq 7, 3) := by decide +kernel
theorem dX18_lost_19 : decode cX18_lost 19 = .ok (.iconst 1, 1) := by decide +kernel
theorem dX18_lost_20 : decode cX18_lost 20 = .ok (.goto 4, 3) := by decide +kernel
theorem dX18_two_0 : decode cX18_two 0 = .ok (.aload_n 0, 1) := by decide +kernel
theorem dX18_two_1 : decode cX18_two 1 = .ok (.iload_n 1, 1) := by decide +kernel
theorem dX18_two_2 : decode cX18_two 2 = .ok (.aload_n 0, 1) := by decide +kernel
theorem dX18_two_3 : decode cX18_two 3 = .ok (.getfield 351, 3) := by decide +kernel
theorem dX18_two_6 : decode cX18_two 6 = .ok (.invokestatic 207, 3) := by decide +kernel
theorem dX18_two_9 : decode cX18_two 9 = .ok (.aload_n 0, 1) := by decide +kernel
theorem dX18_two_10 : decode cX18_two 10 = .ok (.getfield 192, 3) := by decide +kernel
theorem dX18_two_13 : decode cX18_two 13 = .ok (.invokevirtual 199, 3) := by decide +kernel
theorem dX18_two_16 : decode cX18_two 16 = .ok (.ifCond .ne 5, 3) := by decide +kernel
theorem dX18_two_21 : decode cX18_two 21 = .ok (.aload_n 0, 1) := by decide +kernel
theorem dX18_two_22 : decode cX18_two 22 = .ok (.getfield 69, 3) := by decide +kernel
theorem dX18_two_25 : decode cX18_two 25 = .ok (.iload_n 1, 1) := by decide +kernel
theorem dX18_two_26 : decode cX18_two 26 = .ok (.baload, 1) := by decide +kernel
theorem dX18_two_27 : decode cX18_two 27 = .ok (.istore_n 3, 1) := by decide +kernel
theorem dX18_two_28 : decode cX18_two 28 = .ok (.aload_n 0, 1) := by decide +kernel
theorem dX18_two_29 : decode cX18_two 29 = .ok (.getfield 69, 3) := by decide +kernel
theorem dX18_two_32 : decode cX18_two 32 = .ok (.iload_n 1, 1) := by decide +kernel
theorem dX18_two_33 : decode cX18_two 33 = .ok (.iload_n 2, 1) := by decide +kernel
theorem dX18_two_34 : decode cX18_two 34 = .ok (.bastore, 1) := by decide +kernel
theorem dX18_two_35 : decode cX18_two 35 = .ok (.iload_n 3, 1) := by decide +kernel
theorem dX18_two_36 : decode cX18_two 36 = .ok (.ireturn, 1) := by decide +kernel
theorem dX18_two_19 : decode cX18_two 19 = .ok (.iconst 0, 1) := by decide +kernel
theorem dX18_two_20 : decode cX18_two 20 = .ok (.ireturn, 1) := by decide +kernel
theorem dX18_lockOf_0 : decode cX18_lockOf 0 = .ok (.iconst (-1), 1) := by decide +kernel
theorem dX18_lockOf_1 : decode cX18_lockOf 1 = .ok (.istore_n 3, 1) := by decide +kernel
theorem dX18_lockOf_2 : decode cX18_lockOf 2 = .ok (.iconst 0, 1) := by decide +kernel
theorem dX18_lockOf_3 : decode cX18_lockOf 3 = .ok (.istore 4, 2) := by decide +kernel
theorem dX18_lockOf_5 : decode cX18_lockOf 5 = .ok (.iload 4, 2) := by decide +kernel
theorem dX18_lockOf_7 : decode cX18_lockOf 7 = .ok (.aload_n 0, 1) := by decide +kernel
theorem dX18_lockOf_8 : decode cX18_lockOf 8 = .ok (.getfield 395, 3) := by decide +kernel
theorem dX18_lockOf_11 : decode cX18_lockOf 11 = .ok (.if_icmp .ge 60, 3) := by decide +kernel
theorem dX18_lockOf_14 : decode cX18_lockOf 14 = .ok (.aload_n 0, 1) := by decide +kernel
theorem dX18_lockOf_15 : decode cX18_lockOf 15 = .ok (.getfield 94, 3) := by decide +kernel
theorem dX18_lockOf_18 : decode cX18_lockOf 18 = .ok (.iload 4, 2) := by decide +kernel
theorem dX18_lockOf_20 : decode cX18_lockOf 20 = .ok (.iaload, 1) := by decide +kernel
theorem dX18_lockOf_21 : decode cX18_lockOf 21 = .ok (.iload_n 1, 1) := by decide +kernel
theorem dX18_lockOf_22 : decode cX18_lockOf 22 = .ok (.if_icmp .ne 14, 3) := by decide +kernel
theorem dX18_lockOf_36 : decode cX18_lockOf 36 = .ok (.aload_n 0, 1) := by decide +kernel
theorem dX18_lockOf_37 : decode cX18_lockOf 37 = .ok (.getfield 94, 3) := by decide +kernel
theorem dX18_lockOf_40 : decode cX18_lockOf 40 = .ok (.iload 4, 2) := by decide +kernel
theorem dX18_lockOf_42 : decode cX18_lockOf 42 = .ok (.iaload, 1) := by decide +kernel
theorem dX18_lockOf_43 : decode cX18_lockOf 43 = .ok (.iload_n 2, 1) := by decide +kernel
theorem dX18_lockOf_44 : decode cX18_lockOf 44 = .ok (.if_icmp .ne 19, 3) := by decide +kernel
theorem dX18_lockOf_63 : decode cX18_lockOf 63 = .ok (.iload_n 3, 1) := by decide +kernel
theorem dX18_lockOf_64 : decode cX18_lockOf 64 = .ok (.istore_n 3, 1) := by decide +kernel
theorem dX18_lockOf_65 : decode cX18_lockOf 65 = .ok (.iinc 4 1, 3) := by decide +kernel
theorem dX18_lockOf_68 : decode cX18_lockOf 68 = .ok (.goto (-63), 3) := by decide +kernel
theorem dX18_lockOf_47 : decode cX18_lockOf 47 = .ok (.aload_n 0, 1) := by decide +kernel
theorem dX18_lockOf_48 : decode cX18_lockOf 48 = .ok (.getfield 97, 3) := by decide +kernel
theorem dX18_lockOf_51 : decode cX18_lockOf 51 = .ok (.iload 4, 2) := by decide +kernel
theorem dX18_lockOf_53 : decode cX18_lockOf 53 = .ok (.iaload, 1) := by decide +kernel
theorem dX18_lockOf_54 : decode cX18_lockOf 54 = .ok (.iload_n 1, 1) := by decide +kernel
theorem dX18_lockOf_55 : decode cX18_lockOf 55 = .ok (.if_icmp .ne 8, 3) := by decide +kernel
theorem dX18_lockOf_58 : decode cX18_lockOf 58 = .ok (.iload 4, 2) := by decide +kernel
theorem dX18_lockOf_60 : decode cX18_lockOf 60 = .ok (.goto 4, 3) := by decide +kernel
theorem dX18_lockOf_25 : decode cX18_lockOf 25 = .ok (.aload_n 0, 1) := by decide +kernel
theorem dX18_lockOf_26 : decode cX18_lockOf 26 = .ok (.getfield 97, 3) := by decide +kernel
theorem dX18_lockOf_29 : decode cX18_lockOf 29 = .ok (.iload 4, 2) := by decide +kernel
theorem dX18_lockOf_31 : decode cX18_lockOf 31 = .ok (.iaload, 1) := by decide +kernel
theorem dX18_lockOf_32 : decode cX18_lockOf 32 = .ok (.iload_n 2, 1) := by decide +kernel
theorem dX18_lockOf_33 : decode cX18_lockOf 33 = .ok (.if_icmp .eq 25, 3) := by decide +kernel
theorem dX18_lockOf_71 : decode cX18_lockOf 71 = .ok (.iload_n 3, 1) := by decide +kernel
theorem dX18_lockOf_72 : decode cX18_lockOf 72 = .ok (.ireturn, 1) := by decide +kernel
theorem dX18_airlock_0 : decode cX18_airlock 0 = .ok (.aload_n 0, 1) := by decide +kernel
theorem dX18_airlock_1 : decode cX18_airlock 1 = .ok (.iload_n 1, 1) := by decide +kernel
theorem dX18_airlock_2 : decode cX18_airlock 2 = .ok (.aload_n 0, 1) := by decide +kernel
theorem dX18_airlock_3 : decode cX18_airlock 3 = .ok (.getfield 351, 3) := by decide +kernel
theorem dX18_airlock_6 : decode cX18_airlock 6 = .ok (.invokestatic 207, 3) := by decide +kernel
theorem dX18_airlock_9 : decode cX18_airlock 9 = .ok (.ifCond .eq 23, 3) := by decide +kernel
theorem dX18_airlock_32 : decode cX18_airlock 32 = .ok (.iconst 0, 1) := by decide +kernel
theorem dX18_airlock_33 : decode cX18_airlock 33 = .ok (.aload_n 0, 1) := by decide +kernel
theorem dX18_airlock_34 : decode cX18_airlock 34 = .ok (.getfield 192, 3) := by decide +kernel
theorem dX18_airlock_37 : decode cX18_airlock 37 = .ok (.invokevirtual 199, 3) := by decide +kernel
theorem dX18_airlock_40 : decode cX18_airlock 40 = .ok (.ifCond .ne 5, 3) := by decide +kernel
theorem dX18_airlock_45 : decode cX18_airlock 45 = .ok (.aload_n 0, 1) := by decide +kernel
theorem dX18_airlock_46 : decode cX18_airlock 46 = .ok (.iload_n 1, 1) := by decide +kernel
theorem dX18_airlock_47 : decode cX18_airlock 47 = .ok (.iload_n 2, 1) := by decide +kernel
theorem dX18_airlock_48 : decode cX18_airlock 48 = .ok (.invokevirtual 398, 3) := by decide +kernel
theorem dX18_airlock_51 : decode cX18_airlock 51 = .ok (.istore 4, 2) := by decide +kernel
theorem dX18_airlock_53 : decode cX18_airlock 53 = .ok (.iload 4, 2) := by decide +kernel
theorem dX18_airlock_55 : decode cX18_airlock 55 = .ok (.ifCond .ge 74, 3) := by decide +kernel
theorem dX18_airlock_129 : decode cX18_airlock 129 = .ok (.iload 4, 2) := by decide +kernel
theorem dX18_airlock_131 : decode cX18_airlock 131 = .ok (.ifCond .lt 49, 3) := by decide +kernel
theorem dX18_airlock_180 : decode cX18_airlock 180 = .ok (.iload 4, 2) := by decide +kernel
theorem dX18_airlock_182 : decode cX18_airlock 182 = .ok (.ifCond .lt 7, 3) := by decide +kernel
theorem dX18_airlock_189 : decode cX18_airlock 189 = .ok (.iconst 0, 1) := by decide +kernel
theorem dX18_airlock_190 : decode cX18_airlock 190 = .ok (.ireturn, 1) := by decide +kernel
theorem dX18_airlock_185 : decode cX18_airlock 185 = .ok (.iconst 1, 1) := by decide +kernel
theorem dX18_airlock_186 : decode cX18_airlock 186 = .ok (.goto 4, 3) := by decide +kernel
theorem dX18_airlock_134 : decode cX18_airlock 134 = .ok (.iload_n 3, 1) := by decide +kernel
theorem dX18_airlock_135 : decode cX18_airlock 135 = .ok (.ifCond .ne 45, 3) := by decide +kernel
theorem dX18_airlock_138 : decode cX18_airlock 138 = .ok (.aload_n 0, 1) := by decide +kernel
theorem dX18_airlock_139 : decode cX18_airlock 139 = .ok (.dup, 1) := by decide +kernel
theorem dX18_airlock_140 : decode cX18_airlock 140 = .ok (.getfield 395, 3) := by decide +kernel
theorem dX18_airlock_143 : decode cX18_airlock 143 = .ok (.iconst 1, 1) := by decide +kernel
theorem dX18_airlock_144 : decode cX18_airlock 144 = .ok (.isub, 1) := by decide +kernel
theorem dX18_airlock_145 : decode cX18_airlock 145 = .ok (.putfield 395, 3) := by decide +kernel
theorem dX18_airlock_148 : decode cX18_airlock 148 = .ok (.aload_n 0, 1) := by decide +kernel
theorem dX18_airlock_149 : decode cX18_airlock 149 = .ok (.getfield 94, 3) := by decide +kernel
theorem dX18_airlock_152 : decode cX18_airlock 152 = .ok (.iload 4, 2) := by decide +kernel
theorem dX18_airlock_154 : decode cX18_airlock 154 = .ok (.aload_n 0, 1) := by decide +kernel
theorem dX18_airlock_155 : decode cX18_airlock 155 = .ok (.getfield 94, 3) := by decide +kernel
theorem dX18_airlock_158 : decode cX18_airlock 158 = .ok (.aload_n 0, 1) := by decide +kernel
theorem dX18_airlock_159 : decode cX18_airlock 159 = .ok (.getfield 395, 3) := by decide +kernel
theorem dX18_airlock_162 : decode cX18_airlock 162 = .ok (.iaload, 1) := by decide +kernel
theorem dX18_airlock_163 : decode cX18_airlock 163 = .ok (.iastore, 1) := by decide +kernel
theorem dX18_airlock_164 : decode cX18_airlock 164 = .ok (.aload_n 0, 1) := by decide +kernel
theorem dX18_airlock_165 : decode cX18_airlock 165 = .ok (.getfield 97, 3) := by decide +kernel
theorem dX18_airlock_168 : decode cX18_airlock 168 = .ok (.iload 4, 2) := by decide +kernel
theorem dX18_airlock_170 : decode cX18_airlock 170 = .ok (.aload_n 0, 1) := by decide +kernel
theorem dX18_airlock_171 : decode cX18_airlock 171 = .ok (.getfield 97, 3) := by decide +kernel
theorem dX18_airlock_174 : decode cX18_airlock 174 = .ok (.aload_n 0, 1) := by decide +kernel
theorem dX18_airlock_175 : decode cX18_airlock 175 = .ok (.getfield 395, 3) := by decide +kernel
theorem dX18_airlock_178 : decode cX18_airlock 178 = .ok (.iaload, 1) := by decide +kernel
theorem dX18_airlock_179 : decode cX18_airlock 179 = .ok (.iastore, 1) := by decide +kernel
theorem dX18_airlock_58 : decode cX18_airlock 58 = .ok (.iload_n 3, 1) := by decide +kernel
theorem dX18_airlock_59 : decode cX18_airlock 59 = .ok (.ifCond .eq 70, 3) := by decide +kernel
theorem dX18_airlock_62 : decode cX18_airlock 62 = .ok (.aload_n 0, 1) := by decide +kernel
theorem dX18_airlock_63 : decode cX18_airlock 63 = .ok (.getfield 395, 3) := by decide +kernel
theorem dX18_airlock_66 : decode cX18_airlock 66 = .ok (.aload_n 0, 1) := by decide +kernel
theorem dX18_airlock_67 : decode cX18_airlock 67 = .ok (.getfield 94, 3) := by decide +kernel
theorem dX18_airlock_70 : decode cX18_airlock 70 = .ok (.arraylength, 1) := by decide +kernel
theorem dX18_airlock_71 : decode cX18_airlock 71 = .ok (.if_icmp .ne 25, 3) := by decide +kernel
theorem dX18_airlock_96 : decode cX18_airlock 96 = .ok (.aload_n 0, 1) := by decide +kernel
theorem dX18_airlock_97 : decode cX18_airlock 97 = .ok (.getfield 94, 3) := by decide +kernel
theorem dX18_airlock_100 : decode cX18_airlock 100 = .ok (.aload_n 0, 1) := by decide +kernel
theorem dX18_airlock_101 : decode cX18_airlock 101 = .ok (.getfield 395, 3) := by decide +kernel
theorem dX18_airlock_104 : decode cX18_airlock 104 = .ok (.iload_n 1, 1) := by decide +kernel
theorem dX18_airlock_105 : decode cX18_airlock 105 = .ok (.iastore, 1) := by decide +kernel
theorem dX18_airlock_106 : decode cX18_airlock 106 = .ok (.aload_n 0, 1) := by decide +kernel
theorem dX18_airlock_107 : decode cX18_airlock 107 = .ok (.getfield 97, 3) := by decide +kernel
theorem dX18_airlock_110 : decode cX18_airlock 110 = .ok (.aload_n 0, 1) := by decide +kernel
theorem dX18_airlock_111 : decode cX18_airlock 111 = .ok (.getfield 395, 3) := by decide +kernel
theorem dX18_airlock_114 : decode cX18_airlock 114 = .ok (.iload_n 2, 1) := by decide +kernel
theorem dX18_airlock_115 : decode cX18_airlock 115 = .ok (.iastore, 1) := by decide +kernel
theorem dX18_airlock_116 : decode cX18_airlock 116 = .ok (.aload_n 0, 1) := by decide +kernel
theorem dX18_airlock_117 : decode cX18_airlock 117 = .ok (.dup, 1) := by decide +kernel
theorem dX18_airlock_118 : decode cX18_airlock 118 = .ok (.getfield 395, 3) := by decide +kernel
theorem dX18_airlock_121 : decode cX18_airlock 121 = .ok (.iconst 1, 1) := by decide +kernel
theorem dX18_airlock_122 : decode cX18_airlock 122 = .ok (.iadd, 1) := by decide +kernel
theorem dX18_airlock_123 : decode cX18_airlock 123 = .ok (.putfield 395, 3) := by decide +kernel
theorem dX18_airlock_126 : decode cX18_airlock 126 = .ok (.goto 54, 3) := by decide +kernel
theorem dX18_airlock_74 : decode cX18_airlock 74 = .ok (.aload_n 0, 1) := by decide +kernel
theorem dX18_airlock_75 : decode cX18_airlock 75 = .ok (.aload_n 0, 1) := by decide +kernel
theorem dX18_airlock_76 : decode cX18_airlock 76 = .ok (.getfield 94, 3) := by decide +kernel
theorem dX18_airlock_79 : decode cX18_airlock 79 = .ok (.invokestatic 375, 3) := by decide +kernel
theorem dX18_airlock_82 : decode cX18_airlock 82 = .ok (.putfield 94, 3) := by decide +kernel
theorem dX18_airlock_85 : decode cX18_airlock 85 = .ok (.aload_n 0, 1) := by decide +kernel
theorem dX18_airlock_86 : decode cX18_airlock 86 = .ok (.aload_n 0, 1) := by decide +kernel
theorem dX18_airlock_87 : decode cX18_airlock 87 = .ok (.getfield 97, 3) := by decide +kernel
theorem dX18_airlock_90 : decode cX18_airlock 90 = .ok (.invokestatic 375, 3) := by decide +kernel
theorem dX18_airlock_93 : decode cX18_airlock 93 = .ok (.putfield 97, 3) := by decide +kernel
theorem dX18_airlock_43 : decode cX18_airlock 43 = .ok (.iconst 0, 1) := by decide +kernel
theorem dX18_airlock_44 : decode cX18_airlock 44 = .ok (.ireturn, 1) := by decide +kernel
theorem dX18_airlock_12 : decode cX18_airlock 12 = .ok (.iload_n 2, 1) := by decide +kernel
theorem dX18_airlock_13 : decode cX18_airlock 13 = .ok (.aload_n 0, 1) := by decide +kernel
theorem dX18_airlock_14 : decode cX18_airlock 14 = .ok (.getfield 351, 3) := by decide +kernel
theorem dX18_airlock_17 : decode cX18_airlock 17 = .ok (.invokestatic 207, 3) := by decide +kernel
theorem dX18_airlock_20 : decode cX18_airlock 20 = .ok (.ifCond .eq 12, 3) := by decide +kernel
theorem dX18_airlock_23 : decode cX18_airlock 23 = .ok (.iload_n 1, 1) := by decide +kernel
theorem dX18_airlock_24 : decode cX18_airlock 24 = .ok (.iload_n 2, 1) := by decide +kernel
theorem dX18_airlock_25 : decode cX18_airlock 25 = .ok (.if_icmp .eq 7, 3) := by decide +kernel
theorem dX18_airlock_28 : decode cX18_airlock 28 = .ok (.iconst 1, 1) := by decide +kernel
theorem dX18_airlock_29 : decode cX18_airlock 29 = .ok (.goto 4, 3) := by decide +kernel
theorem dX18_stands_0 : decode cX18_stands 0 = .ok (.aload_n 0, 1) := by decide +kernel
theorem dX18_stands_1 : decode cX18_stands 1 = .ok (.iload_n 1, 1) := by decide +kernel
theorem dX18_stands_2 : decode cX18_stands 2 = .ok (.aload_n 0, 1) := by decide +kernel
theorem dX18_stands_3 : decode cX18_stands 3 = .ok (.getfield 351, 3) := by decide +kernel
theorem dX18_stands_6 : decode cX18_stands 6 = .ok (.invokestatic 207, 3) := by decide +kernel
theorem dX18_stands_9 : decode cX18_stands 9 = .ok (.aload_n 0, 1) := by decide +kernel
theorem dX18_stands_10 : decode cX18_stands 10 = .ok (.getfield 192, 3) := by decide +kernel
theorem dX18_stands_13 : decode cX18_stands 13 = .ok (.invokevirtual 199, 3) := by decide +kernel
theorem dX18_stands_16 : decode cX18_stands 16 = .ok (.ifCond .ne 5, 3) := by decide +kernel
theorem dX18_stands_21 : decode cX18_stands 21 = .ok (.aload_n 0, 1) := by decide +kernel
theorem dX18_stands_22 : decode cX18_stands 22 = .ok (.getfield 401, 3) := by decide +kernel
theorem dX18_stands_25 : decode cX18_stands 25 = .ok (.aload_n 0, 1) := by decide +kernel
theorem dX18_stands_26 : decode cX18_stands 26 = .ok (.getfield 76, 3) := by decide +kernel
theorem dX18_stands_29 : decode cX18_stands 29 = .ok (.iload_n 1, 1) := by decide +kernel
theorem dX18_stands_30 : decode cX18_stands 30 = .ok (.iaload, 1) := by decide +kernel
theorem dX18_stands_31 : decode cX18_stands 31 = .ok (.isub, 1) := by decide +kernel
theorem dX18_stands_32 : decode cX18_stands 32 = .ok (.istore_n 3, 1) := by decide +kernel
theorem dX18_stands_33 : decode cX18_stands 33 = .ok (.aload_n 0, 1) := by decide +kernel
theorem dX18_stands_34 : decode cX18_stands 34 = .ok (.getfield 76, 3) := by decide +kernel
theorem dX18_stands_37 : decode cX18_stands 37 = .ok (.iload_n 1, 1) := by decide +kernel
theorem dX18_stands_38 : decode cX18_stands 38 = .ok (.aload_n 0, 1) := by decide +kernel
theorem dX18_stands_39 : decode cX18_stands 39 = .ok (.getfield 73, 3) := by decide +kernel
theorem dX18_stands_42 : decode cX18_stands 42 = .ok (.iload_n 1, 1) := by decide +kernel
theorem dX18_stands_43 : decode cX18_stands 43 = .ok (.baload, 1) := by decide +kernel
theorem dX18_stands_44 : decode cX18_stands 44 = .ok (.iload_n 2, 1) := by decide +kernel
theorem dX18_stands_45 : decode cX18_stands 45 = .ok (.if_icmp .ne 12, 3) := by decide +kernel
theorem dX18_stands_57 : decode cX18_stands 57 = .ok (.aload_n 0, 1) := by decide +kernel
theorem dX18_stands_58 : decode cX18_stands 58 = .ok (.getfield 401, 3) := by decide +kernel
theorem dX18_stands_61 : decode cX18_stands 61 = .ok (.iastore, 1) := by decide +kernel
theorem dX18_stands_62 : decode cX18_stands 62 = .ok (.aload_n 0, 1) := by decide +kernel
theorem dX18_stands_63 : decode cX18_stands 63 = .ok (.getfield 73, 3) := by decide +kernel
theorem dX18_stands_66 : decode cX18_stands 66 = .ok (.iload_n 1, 1) := by decide +kernel
theorem dX18_stands_67 : decode cX18_stands 67 = .ok (.iload_n 2, 1) := by decide +kernel
theorem dX18_stands_68 : decode cX18_stands 68 = .ok (.bastore, 1) := by decide +kernel
theorem dX18_stands_69 : decode cX18_stands 69 = .ok (.iload_n 3, 1) := by decide +kernel
theorem dX18_stands_70 : decode cX18_stands 70 = .ok (.ireturn, 1) := by decide +kernel
theorem dX18_stands_48 : decode cX18_stands 48 = .ok (.aload_n 0, 1) := by decide +kernel
theorem dX18_stands_49 : decode cX18_stands 49 = .ok (.getfield 76, 3) := by decide +kernel
theorem dX18_stands_52 : decode cX18_stands 52 = .ok (.iload_n 1, 1) := by decide +kernel
theorem dX18_stands_53 : decode cX18_stands 53 = .ok (.iaload, 1) := by decide +kernel
theorem dX18_stands_54 : decode cX18_stands 54 = .ok (.goto 7, 3) := by decide +kernel
theorem dX18_stands_19 : decode cX18_stands 19 = .ok (.iconst 0, 1) := by decide +kernel
theorem dX18_stands_20 : decode cX18_stands 20 = .ok (.ireturn, 1) := by decide +kernel
theorem dX18_isReleased_0 : decode cX18_isReleased 0 = .ok (.aload_n 0, 1) := by decide +kernel
theorem dX18_isReleased_1 : decode cX18_isReleased 1 = .ok (.getfield 28, 3) := by decide +kernel
theorem dX18_isReleased_4 : decode cX18_isReleased 4 = .ok (.iconst 0, 1) := by decide +kernel
theorem dX18_isReleased_5 : decode cX18_isReleased 5 = .ok (.invokevirtual 404, 3) := by decide +kernel
theorem dX18_isReleased_8 : decode cX18_isReleased 8 = .ok (.ifCond .le 7, 3) := by decide +kernel
theorem dX18_isReleased_15 : decode cX18_isReleased 15 = .ok (.iconst 0, 1) := by decide +kernel
theorem dX18_isReleased_16 : decode cX18_isReleased 16 = .ok (.ireturn, 1) := by decide +kernel
theorem dX18_isReleased_11 : decode cX18_isReleased 11 = .ok (.iconst 1, 1) := by decide +kernel
theorem dX18_isReleased_12 : decode cX18_isReleased 12 = .ok (.goto 4, 3) := by decide +kernel
theorem dX18_zoneOf_0 : decode cX18_zoneOf 0 = .ok (.iload_n 1, 1) := by decide +kernel
theorem dX18_zoneOf_1 : decode cX18_zoneOf 1 = .ok (.aload_n 0, 1) := by decide +kernel
theorem dX18_zoneOf_2 : decode cX18_zoneOf 2 = .ok (.getfield 338, 3) := by decide +kernel
theorem dX18_zoneOf_5 : decode cX18_zoneOf 5 = .ok (.if_icmp .ne 7, 3) := by decide +kernel
theorem dX18_zoneOf_12 : decode cX18_zoneOf 12 = .ok (.aload_n 0, 1) := by decide +kernel
theorem dX18_zoneOf_13 : decode cX18_zoneOf 13 = .ok (.getfield 12, 3) := by decide +kernel
theorem dX18_zoneOf_16 : decode cX18_zoneOf 16 = .ok (.getfield 281, 3) := by decide +kernel
theorem dX18_zoneOf_19 : decode cX18_zoneOf 19 = .ok (.iload_n 1, 1) := by decide +kernel
theorem dX18_zoneOf_20 : decode cX18_zoneOf 20 = .ok (.iaload, 1) := by decide +kernel
theorem dX18_zoneOf_21 : decode cX18_zoneOf 21 = .ok (.bipush 10, 2) := by decide +kernel
theorem dX18_zoneOf_23 : decode cX18_zoneOf 23 = .ok (.irem, 1) := by decide +kernel
theorem dX18_zoneOf_24 : decode cX18_zoneOf 24 = .ok (.ireturn, 1) := by decide +kernel
theorem dX18_zoneOf_8 : decode cX18_zoneOf 8 = .ok (.iconst (-1), 1) := by decide +kernel
theorem dX18_zoneOf_9 : decode cX18_zoneOf 9 = .ok (.goto 15, 3) := by decide +kernel
theorem dX18_spans_0 : decode cX18_spans 0 = .ok (.aload_n 0, 1) := by decide +kernel
theorem dX18_spans_1 : decode cX18_spans 1 = .ok (.getfield 136, 3) := by decide +kernel
theorem dX18_spans_4 : decode cX18_spans 4 = .ok (.iload_n 1, 1) := by decide +kernel
theorem dX18_spans_5 : decode cX18_spans 5 = .ok (.iaload, 1) := by decide +kernel
theorem dX18_spans_6 : decode cX18_spans 6 = .ok (.iload 4, 2) := by decide +kernel
theorem dX18_spans_8 : decode cX18_spans 8 = .ok (.if_icmp .gt 7, 3) := by decide +kernel
theorem dX18_spans_15 : decode cX18_spans 15 = .ok (.iconst 0, 1) := by decide +kernel
theorem dX18_spans_16 : decode cX18_spans 16 = .ok (.istore 5, 2) := by decide +kernel
theorem dX18_spans_18 : decode cX18_spans 18 = .ok (.iload 4, 2) := by decide +kernel
theorem dX18_spans_20 : decode cX18_spans 20 = .ok (.aload_n 0, 1) := by decide +kernel
theorem dX18_spans_21 : decode cX18_spans 21 = .ok (.getfield 139, 3) := by decide +kernel
theorem dX18_spans_24 : decode cX18_spans 24 = .ok (.iload_n 1, 1) := by decide +kernel
theorem dX18_spans_25 : decode cX18_spans 25 = .ok (.iaload, 1) := by decide +kernel
theorem dX18_spans_26 : decode cX18_spans 26 = .ok (.if_icmp .ge 7, 3) := by decide +kernel
theorem dX18_spans_33 : decode cX18_spans 33 = .ok (.iconst 0, 1) := by decide +kernel
theorem dX18_spans_34 : decode cX18_spans 34 = .ok (.istore 6, 2) := by decide +kernel
theorem dX18_spans_36 : decode cX18_spans 36 = .ok (.aload_n 0, 1) := by decide +kernel
theorem dX18_spans_37 : decode cX18_spans 37 = .ok (.getfield 136, 3) := by decide +kernel
theorem dX18_spans_40 : decode cX18_spans 40 = .ok (.iload_n 1, 1) := by decide +kernel
theorem dX18_spans_41 : decode cX18_spans 41 = .ok (.iaload, 1) := by decide +kernel
theorem dX18_spans_42 : decode cX18_spans 42 = .ok (.aload_n 0, 1) := by decide +kernel
theorem dX18_spans_43 : decode cX18_spans 43 = .ok (.getfield 139, 3) := by decide +kernel
theorem dX18_spans_46 : decode cX18_spans 46 = .ok (.iload_n 1, 1) := by decide +kernel
theorem dX18_spans_47 : decode cX18_spans 47 = .ok (.iaload, 1) := by decide +kernel
theorem dX18_spans_48 : decode cX18_spans 48 = .ok (.if_icmp .ge 21, 3) := by decide +kernel
theorem dX18_spans_69 : decode cX18_spans 69 = .ok (.aload_n 0, 1) := by decide +kernel
theorem dX18_spans_70 : decode cX18_spans 70 = .ok (.getfield 136, 3) := by decide +kernel
theorem dX18_spans_73 : decode cX18_spans 73 = .ok (.iload_n 1, 1) := by decide +kernel
theorem dX18_spans_74 : decode cX18_spans 74 = .ok (.iaload, 1) := by decide +kernel
theorem dX18_spans_75 : decode cX18_spans 75 = .ok (.aload_n 0, 1) := by decide +kernel
theorem dX18_spans_76 : decode cX18_spans 76 = .ok (.getfield 139, 3) := by decide +kernel
theorem dX18_spans_79 : decode cX18_spans 79 = .ok (.iload_n 1, 1) := by decide +kernel
theorem dX18_spans_80 : decode cX18_spans 80 = .ok (.iaload, 1) := by decide +kernel
theorem dX18_spans_81 : decode cX18_spans 81 = .ok (.if_icmp .le 17, 3) := by decide +kernel
theorem dX18_spans_98 : decode cX18_spans 98 = .ok (.iconst 0, 1) := by decide +kernel
theorem dX18_spans_99 : decode cX18_spans 99 = .ok (.istore 7, 2) := by decide +kernel
theorem dX18_spans_101 : decode cX18_spans 101 = .ok (.iload 7, 2) := by decide +kernel
theorem dX18_spans_103 : decode cX18_spans 103 = .ok (.ifCond .eq 27, 3) := by decide +kernel
theorem dX18_spans_130 : decode cX18_spans 130 = .ok (.iconst 0, 1) := by decide +kernel
theorem dX18_spans_131 : decode cX18_spans 131 = .ok (.ireturn, 1) := by decide +kernel
theorem dX18_spans_106 : decode cX18_spans 106 = .ok (.aload_n 0, 1) := by decide +kernel
theorem dX18_spans_107 : decode cX18_spans 107 = .ok (.getfield 130, 3) := by decide +kernel
theorem dX18_spans_110 : decode cX18_spans 110 = .ok (.iload_n 1, 1) := by decide +kernel
theorem dX18_spans_111 : decode cX18_spans 111 = .ok (.iaload, 1) := by decide +kernel
theorem dX18_spans_112 : decode cX18_spans 112 = .ok (.iload_n 2, 1) := by decide +kernel
theorem dX18_spans_113 : decode cX18_spans 113 = .ok (.if_icmp .ne 17, 3) := by decide +kernel
theorem dX18_spans_116 : decode cX18_spans 116 = .ok (.aload_n 0, 1) := by decide +kernel
theorem dX18_spans_117 : decode cX18_spans 117 = .ok (.getfield 133, 3) := by decide +kernel
theorem dX18_spans_120 : decode cX18_spans 120 = .ok (.iload_n 1, 1) := by decide +kernel
theorem dX18_spans_121 : decode cX18_spans 121 = .ok (.iaload, 1) := by decide +kernel
theorem dX18_spans_122 : decode cX18_spans 122 = .ok (.iload_n 3, 1) := by decide +kernel
theorem dX18_spans_123 : decode cX18_spans 123 = .ok (.if_icmp .ne 7, 3) := by decide +kernel
theorem dX18_spans_126 : decode cX18_spans 126 = .ok (.iconst 1, 1) := by decide +kernel
theorem dX18_spans_127 : decode cX18_spans 127 = .ok (.goto 4, 3) := by decide +kernel
theorem dX18_spans_84 : decode cX18_spans 84 = .ok (.iload 5, 2) := by decide +kernel
theorem dX18_spans_86 : decode cX18_spans 86 = .ok (.ifCond .ne 8, 3) := by decide +kernel
theorem dX18_spans_94 : decode cX18_spans 94 = .ok (.iconst 1, 1) := by decide +kernel
theorem dX18_spans_95 : decode cX18_spans 95 = .ok (.goto 4, 3) := by decide +kernel
theorem dX18_spans_89 : decode cX18_spans 89 = .ok (.iload 6, 2) := by decide +kernel
theorem dX18_spans_91 : decode cX18_spans 91 = .ok (.ifCond .eq 7, 3) := by decide +kernel
theorem dX18_spans_51 : decode cX18_spans 51 = .ok (.iload 5, 2) := by decide +kernel
theorem dX18_spans_53 : decode cX18_spans 53 = .ok (.ifCond .eq 12, 3) := by decide +kernel
theorem dX18_spans_65 : decode cX18_spans 65 = .ok (.iconst 0, 1) := by decide +kernel
theorem dX18_spans_66 : decode cX18_spans 66 = .ok (.goto 33, 3) := by decide +kernel
theorem dX18_spans_56 : decode cX18_spans 56 = .ok (.iload 6, 2) := by decide +kernel
theorem dX18_spans_58 : decode cX18_spans 58 = .ok (.ifCond .eq 7, 3) := by decide +kernel
theorem dX18_spans_61 : decode cX18_spans 61 = .ok (.iconst 1, 1) := by decide +kernel
theorem dX18_spans_62 : decode cX18_spans 62 = .ok (.goto 37, 3) := by decide +kernel
theorem dX18_spans_29 : decode cX18_spans 29 = .ok (.iconst 1, 1) := by decide +kernel
theorem dX18_spans_30 : decode cX18_spans 30 = .ok (.goto 4, 3) := by decide +kernel
theorem dX18_spans_11 : decode cX18_spans 11 = .ok (.iconst 1, 1) := by decide +kernel
theorem dX18_spans_12 : decode cX18_spans 12 = .ok (.goto 4, 3) := by decide +kernel
theorem dX18_why_0 : decode cX18_why 0 = .ok (.aload_n 0, 1) := by decide +kernel
theorem dX18_why_1 : decode cX18_why 1 = .ok (.iconst 0, 1) := by decide +kernel
theorem dX18_why_2 : decode cX18_why 2 = .ok (.iload_n 1, 1) := by decide +kernel
theorem dX18_why_3 : decode cX18_why 3 = .ok (.iload 4, 2) := by decide +kernel
theorem dX18_why_5 : decode cX18_why 5 = .ok (.invokevirtual 391, 3) := by decide +kernel
theorem dX18_why_8 : decode cX18_why 8 = .ok (.ifCond .ge 5, 3) := by decide +kernel
theorem dX18_why_13 : decode cX18_why 13 = .ok (.aload_n 0, 1) := by decide +kernel
theorem dX18_why_14 : decode cX18_why 14 = .ok (.getfield 127, 3) := by decide +kernel
theorem dX18_why_17 : decode cX18_why 17 = .ok (.iload_n 1, 1) := by decide +kernel
theorem dX18_why_18 : decode cX18_why 18 = .ok (.iaload, 1) := by decide +kernel
theorem dX18_why_19 : decode cX18_why 19 = .ok (.iload_n 3, 1) := by decide +kernel
theorem dX18_why_20 : decode cX18_why 20 = .ok (.if_icmp .ge 5, 3) := by decide +kernel
theorem dX18_why_25 : decode cX18_why 25 = .ok (.aload_n 0, 1) := by decide +kernel
theorem dX18_why_26 : decode cX18_why 26 = .ok (.iconst 3, 1) := by decide +kernel
theorem dX18_why_27 : decode cX18_why 27 = .ok (.iload_n 1, 1) := by decide +kernel
theorem dX18_why_28 : decode cX18_why 28 = .ok (.iload 4, 2) := by decide +kernel
theorem dX18_why_30 : decode cX18_why 30 = .ok (.invokevirtual 391, 3) := by decide +kernel
theorem dX18_why_33 : decode cX18_why 33 = .ok (.istore 6, 2) := by decide +kernel
theorem dX18_why_35 : decode cX18_why 35 = .ok (.iload 6, 2) := by decide +kernel
theorem dX18_why_37 : decode cX18_why 37 = .ok (.ifCond .lt 11, 3) := by decide +kernel
theorem dX18_why_48 : decode cX18_why 48 = .ok (.iload 5, 2) := by decide +kernel
theorem dX18_why_50 : decode cX18_why 50 = .ok (.ifCond .lt 21, 3) := by decide +kernel
theorem dX18_why_71 : decode cX18_why 71 = .ok (.iload_n 2, 1) := by decide +kernel
theorem dX18_why_72 : decode cX18_why 72 = .ok (.aload_n 0, 1) := by decide +kernel
theorem dX18_why_73 : decode cX18_why 73 = .ok (.getfield 338, 3) := by decide +kernel
theorem dX18_why_76 : decode cX18_why 76 = .ok (.if_icmp .ne 7, 3) := by decide +kernel
theorem dX18_why_83 : decode cX18_why 83 = .ok (.iconst 0, 1) := by decide +kernel
theorem dX18_why_84 : decode cX18_why 84 = .ok (.istore 7, 2) := by decide +kernel
theorem dX18_why_86 : decode cX18_why 86 = .ok (.iconst 0, 1) := by decide +kernel
theorem dX18_why_87 : decode cX18_why 87 = .ok (.istore 8, 2) := by decide +kernel
theorem dX18_why_89 : decode cX18_why 89 = .ok (.iload 8, 2) := by decide +kernel
theorem dX18_why_91 : decode cX18_why 91 = .ok (.aload_n 0, 1) := by decide +kernel
theorem dX18_why_92 : decode cX18_why 92 = .ok (.getfield 388, 3) := by decide +kernel
theorem dX18_why_95 : decode cX18_why 95 = .ok (.if_icmp .ge 108, 3) := by decide +kernel
theorem dX18_why_98 : decode cX18_why 98 = .ok (.iload 7, 2) := by decide +kernel
theorem dX18_why_100 : decode cX18_why 100 = .ok (.ifCond .ne 103, 3) := by decide +kernel
theorem dX18_why_103 : decode cX18_why 103 = .ok (.aload_n 0, 1) := by decide +kernel
theorem dX18_why_104 : decode cX18_why 104 = .ok (.iconst 2, 1) := by decide +kernel
theorem dX18_why_105 : decode cX18_why 105 = .ok (.iload 8, 2) := by decide +kernel
theorem dX18_why_107 : decode cX18_why 107 = .ok (.iload 4, 2) := by decide +kernel
theorem dX18_why_109 : decode cX18_why 109 = .ok (.invokevirtual 391, 3) := by decide +kernel
theorem dX18_why_112 : decode cX18_why 112 = .ok (.istore 9, 2) := by decide +kernel
theorem dX18_why_114 : decode cX18_why 114 = .ok (.aload_n 0, 1) := by decide +kernel
theorem dX18_why_115 : decode cX18_why 115 = .ok (.iconst 1, 1) := by decide +kernel
theorem dX18_why_116 : decode cX18_why 116 = .ok (.iload 8, 2) := by decide +kernel
theorem dX18_why_118 : decode cX18_why 118 = .ok (.iload 4, 2) := by decide +kernel
theorem dX18_why_120 : decode cX18_why 120 = .ok (.invokevirtual 391, 3) := by decide +kernel
theorem dX18_why_123 : decode cX18_why 123 = .ok (.ifCond .lt 29, 3) := by decide +kernel
theorem dX18_why_152 : decode cX18_why 152 = .ok (.iconst 0, 1) := by decide +kernel
theorem dX18_why_153 : decode cX18_why 153 = .ok (.istore 10, 2) := by decide +kernel
theorem dX18_why_155 : decode cX18_why 155 = .ok (.iload 10, 2) := by decide +kernel
theorem dX18_why_157 : decode cX18_why 157 = .ok (.ifCond .eq 37, 3) := by decide +kernel
theorem dX18_why_194 : decode cX18_why 194 = .ok (.iconst 0, 1) := by decide +kernel
theorem dX18_why_195 : decode cX18_why 195 = .ok (.istore 7, 2) := by decide +kernel
theorem dX18_why_197 : decode cX18_why 197 = .ok (.iinc 8 1, 3) := by decide +kernel
theorem dX18_why_200 : decode cX18_why 200 = .ok (.goto (-111), 3) := by decide +kernel
theorem dX18_why_160 : decode cX18_why 160 = .ok (.aload_n 0, 1) := by decide +kernel
theorem dX18_why_161 : decode cX18_why 161 = .ok (.iload 8, 2) := by decide +kernel
theorem dX18_why_163 : decode cX18_why 163 = .ok (.aload_n 0, 1) := by decide +kernel
theorem dX18_why_164 : decode cX18_why 164 = .ok (.getfield 100, 3) := by decide +kernel
theorem dX18_why_167 : decode cX18_why 167 = .ok (.aload_n 0, 1) := by decide +kernel
theorem dX18_why_168 : decode cX18_why 168 = .ok (.getfield 124, 3) := by decide +kernel
theorem dX18_why_171 : decode cX18_why 171 = .ok (.iload_n 1, 1) := by decide +kernel
theorem dX18_why_172 : decode cX18_why 172 = .ok (.iaload, 1) := by decide +kernel
theorem dX18_why_173 : decode cX18_why 173 = .ok (.iaload, 1) := by decide +kernel
theorem dX18_why_174 : decode cX18_why 174 = .ok (.aload_n 0, 1) := by decide +kernel
theorem dX18_why_175 : decode cX18_why 175 = .ok (.iload_n 2, 1) := by decide +kernel
theorem dX18_why_176 : decode cX18_why 176 = .ok (.invokevirtual 407, 3) := by decide +kernel
theorem dX18_why_179 : decode cX18_why 179 = .ok (.iload_n 3, 1) := by decide +kernel
theorem dX18_why_180 : decode cX18_why 180 = .ok (.sipush 1440, 3) := by decide +kernel
theorem dX18_why_183 : decode cX18_why 183 = .ok (.irem, 1) := by decide +kernel
theorem dX18_why_184 : decode cX18_why 184 = .ok (.invokevirtual 410, 3) := by decide +kernel
theorem dX18_why_187 : decode cX18_why 187 = .ok (.ifCond .eq 7, 3) := by decide +kernel
theorem dX18_why_190 : decode cX18_why 190 = .ok (.iconst 1, 1) := by decide +kernel
theorem dX18_why_191 : decode cX18_why 191 = .ok (.goto 4, 3) := by decide +kernel
theorem dX18_why_126 : decode cX18_why 126 = .ok (.aload_n 0, 1) := by decide +kernel
theorem dX18_why_127 : decode cX18_why 127 = .ok (.getfield 142, 3) := by decide +kernel
theorem dX18_why_130 : decode cX18_why 130 = .ok (.iload 8, 2) := by decide +kernel
theorem dX18_why_132 : decode cX18_why 132 = .ok (.iaload, 1) := by decide +kernel
theorem dX18_why_133 : decode cX18_why 133 = .ok (.iload_n 3, 1) := by decide +kernel
theorem dX18_why_134 : decode cX18_why 134 = .ok (.if_icmp .gt 18, 3) := by decide +kernel
theorem dX18_why_137 : decode cX18_why 137 = .ok (.iload 9, 2) := by decide +kernel
theorem dX18_why_139 : decode cX18_why 139 = .ok (.ifCond .lt 9, 3) := by decide +kernel
theorem dX18_why_148 : decode cX18_why 148 = .ok (.iconst 1, 1) := by decide +kernel
theorem dX18_why_149 : decode cX18_why 149 = .ok (.goto 4, 3) := by decide +kernel
theorem dX18_why_142 : decode cX18_why 142 = .ok (.iload 9, 2) := by decide +kernel
theorem dX18_why_144 : decode cX18_why 144 = .ok (.iload_n 3, 1) := by decide +kernel
theorem dX18_why_145 : decode cX18_why 145 = .ok (.if_icmp .le 7, 3) := by decide +kernel
theorem dX18_why_203 : decode cX18_why 203 = .ok (.iload 7, 2) := by decide +kernel
theorem dX18_why_205 : decode cX18_why 205 = .ok (.ifCond .eq 7, 3) := by decide +kernel
theorem dX18_why_212 : decode cX18_why 212 = .ok (.iconst 5, 1) := by decide +kernel
theorem dX18_why_213 : decode cX18_why 213 = .ok (.ireturn, 1) := by decide +kernel
theorem dX18_why_208 : decode cX18_why 208 = .ok (.iconst 0, 1) := by decide +kernel
theorem dX18_why_209 : decode cX18_why 209 = .ok (.goto 4, 3) := by decide +kernel
theorem dX18_why_79 : decode cX18_why 79 = .ok (.iconst 1, 1) := by decide +kernel
theorem dX18_why_80 : decode cX18_why 80 = .ok (.goto 4, 3) := by decide +kernel
theorem dX18_why_53 : decode cX18_why 53 = .ok (.aload_n 0, 1) := by decide +kernel
theorem dX18_why_54 : decode cX18_why 54 = .ok (.getfield 106, 3) := by decide +kernel
theorem dX18_why_57 : decode cX18_why 57 = .ok (.aload_n 0, 1) := by decide +kernel
theorem dX18_why_58 : decode cX18_why 58 = .ok (.getfield 124, 3) := by decide +kernel
theorem dX18_why_61 : decode cX18_why 61 = .ok (.iload_n 1, 1) := by decide +kernel
theorem dX18_why_62 : decode cX18_why 62 = .ok (.iaload, 1) := by decide +kernel
theorem dX18_why_63 : decode cX18_why 63 = .ok (.iaload, 1) := by decide +kernel
theorem dX18_why_64 : decode cX18_why 64 = .ok (.iload 5, 2) := by decide +kernel
theorem dX18_why_66 : decode cX18_why 66 = .ok (.if_icmp .eq 5, 3) := by decide +kernel
theorem dX18_why_69 : decode cX18_why 69 = .ok (.iconst 4, 1) := by decide +kernel
theorem dX18_why_70 : decode cX18_why 70 = .ok (.ireturn, 1) := by decide +kernel
theorem dX18_why_40 : decode cX18_why 40 = .ok (.iload 6, 2) := by decide +kernel
theorem dX18_why_42 : decode cX18_why 42 = .ok (.iload_n 3, 1) := by decide +kernel
theorem dX18_why_43 : decode cX18_why 43 = .ok (.if_icmp .gt 5, 3) := by decide +kernel
theorem dX18_why_46 : decode cX18_why 46 = .ok (.iconst 3, 1) := by decide +kernel
theorem dX18_why_47 : decode cX18_why 47 = .ok (.ireturn, 1) := by decide +kernel
theorem dX18_why_23 : decode cX18_why 23 = .ok (.iconst 2, 1) := by decide +kernel
theorem dX18_why_24 : decode cX18_why 24 = .ok (.ireturn, 1) := by decide +kernel
theorem dX18_why_11 : decode cX18_why 11 = .ok (.iconst 1, 1) := by decide +kernel
theorem dX18_why_12 : decode cX18_why 12 = .ok (.ireturn, 1) := by decide +kernel
theorem dX18_refused_0 : decode cX18_refused 0 = .ok (.iload_n 3, 1) := by decide +kernel
theorem dX18_refused_1 : decode cX18_refused 1 = .ok (.aload_n 0, 1) := by decide +kernel
theorem dX18_refused_2 : decode cX18_refused 2 = .ok (.getfield 53, 3) := by decide +kernel
theorem dX18_refused_5 : decode cX18_refused 5 = .ok (.iload_n 2, 1) := by decide +kernel
theorem dX18_refused_6 : decode cX18_refused 6 = .ok (.iaload, 1) := by decide +kernel
theorem dX18_refused_7 : decode cX18_refused 7 = .ok (.if_icmp .ne 12, 3) := by decide +kernel
theorem dX18_refused_19 : decode cX18_refused 19 = .ok (.aload_n 0, 1) := by decide +kernel
theorem dX18_refused_20 : decode cX18_refused 20 = .ok (.getfield 53, 3) := by decide +kernel
theorem dX18_refused_23 : decode cX18_refused 23 = .ok (.iload_n 2, 1) := by decide +kernel
theorem dX18_refused_24 : decode cX18_refused 24 = .ok (.iaload, 1) := by decide +kernel
theorem dX18_refused_25 : decode cX18_refused 25 = .ok (.istore 4, 2) := by decide +kernel
theorem dX18_refused_27 : decode cX18_refused 27 = .ok (.aload_n 0, 1) := by decide +kernel
theorem dX18_refused_28 : decode cX18_refused 28 = .ok (.getfield 115, 3) := by decide +kernel
theorem dX18_refused_31 : decode cX18_refused 31 = .ok (.aload_n 0, 1) := by decide +kernel
theorem dX18_refused_32 : decode cX18_refused 32 = .ok (.getfield 124, 3) := by decide +kernel
theorem dX18_refused_35 : decode cX18_refused 35 = .ok (.iload_n 1, 1) := by decide +kernel
theorem dX18_refused_36 : decode cX18_refused 36 = .ok (.iaload, 1) := by decide +kernel
theorem dX18_refused_37 : decode cX18_refused 37 = .ok (.iaload, 1) := by decide +kernel
theorem dX18_refused_38 : decode cX18_refused 38 = .ok (.ifCond .lt 6, 3) := by decide +kernel
theorem dX18_refused_44 : decode cX18_refused 44 = .ok (.aload_n 0, 1) := by decide +kernel
theorem dX18_refused_45 : decode cX18_refused 45 = .ok (.invokevirtual 414, 3) := by decide +kernel
theorem dX18_refused_48 : decode cX18_refused 48 = .ok (.ifCond .eq 25, 3) := by decide +kernel
theorem dX18_refused_73 : decode cX18_refused 73 = .ok (.aload_n 0, 1) := by decide +kernel
theorem dX18_refused_74 : decode cX18_refused 74 = .ok (.iload_n 1, 1) := by decide +kernel
theorem dX18_refused_75 : decode cX18_refused 75 = .ok (.iload_n 3, 1) := by decide +kernel
theorem dX18_refused_76 : decode cX18_refused 76 = .ok (.aload_n 0, 1) := by decide +kernel
theorem dX18_refused_77 : decode cX18_refused 77 = .ok (.getfield 401, 3) := by decide +kernel
theorem dX18_refused_80 : decode cX18_refused 80 = .ok (.bipush 60, 2) := by decide +kernel
theorem dX18_refused_82 : decode cX18_refused 82 = .ok (.idiv, 1) := by decide +kernel
theorem dX18_refused_83 : decode cX18_refused 83 = .ok (.aload_n 0, 1) := by decide +kernel
theorem dX18_refused_84 : decode cX18_refused 84 = .ok (.getfield 79, 3) := by decide +kernel
theorem dX18_refused_87 : decode cX18_refused 87 = .ok (.iload_n 2, 1) := by decide +kernel
theorem dX18_refused_88 : decode cX18_refused 88 = .ok (.iaload, 1) := by decide +kernel
theorem dX18_refused_89 : decode cX18_refused 89 = .ok (.aload_n 0, 1) := by decide +kernel
theorem dX18_refused_90 : decode cX18_refused 90 = .ok (.getfield 79, 3) := by decide +kernel
theorem dX18_refused_93 : decode cX18_refused 93 = .ok (.iload_n 2, 1) := by decide +kernel
theorem dX18_refused_94 : decode cX18_refused 94 = .ok (.iaload, 1) := by decide +kernel
theorem dX18_refused_95 : decode cX18_refused 95 = .ok (.ldc_w 354, 3) := by decide +kernel
theorem dX18_refused_98 : decode cX18_refused 98 = .ok (.if_icmp .ne 8, 3) := by decide +kernel
theorem dX18_refused_106 : decode cX18_refused 106 = .ok (.iconst (-1), 1) := by decide +kernel
theorem dX18_refused_107 : decode cX18_refused 107 = .ok (.invokevirtual 418, 3) := by decide +kernel
theorem dX18_refused_110 : decode cX18_refused 110 = .ok (.istore 5, 2) := by decide +kernel
theorem dX18_refused_112 : decode cX18_refused 112 = .ok (.iconst 0, 1) := by decide +kernel
theorem dX18_refused_113 : decode cX18_refused 113 = .ok (.istore 6, 2) := by decide +kernel
theorem dX18_refused_115 : decode cX18_refused 115 = .ok (.iload 6, 2) := by decide +kernel
theorem dX18_refused_117 : decode cX18_refused 117 = .ok (.aload_n 0, 1) := by decide +kernel
theorem dX18_refused_118 : decode cX18_refused 118 = .ok (.getfield 395, 3) := by decide +kernel
theorem dX18_refused_121 : decode cX18_refused 121 = .ok (.if_icmp .ge 86, 3) := by decide +kernel
theorem dX18_refused_124 : decode cX18_refused 124 = .ok (.iload 5, 2) := by decide +kernel
theorem dX18_refused_126 : decode cX18_refused 126 = .ok (.ifCond .ne 81, 3) := by decide +kernel
theorem dX18_refused_129 : decode cX18_refused 129 = .ok (.aload_n 0, 1) := by decide +kernel
theorem dX18_refused_130 : decode cX18_refused 130 = .ok (.getfield 94, 3) := by decide +kernel
theorem dX18_refused_133 : decode cX18_refused 133 = .ok (.iload 6, 2) := by decide +kernel
theorem dX18_refused_135 : decode cX18_refused 135 = .ok (.iaload, 1) := by decide +kernel
theorem dX18_refused_136 : decode cX18_refused 136 = .ok (.iload_n 2, 1) := by decide +kernel
theorem dX18_refused_137 : decode cX18_refused 137 = .ok (.if_icmp .ne 22, 3) := by decide +kernel
theorem dX18_refused_159 : decode cX18_refused 159 = .ok (.iconst 0, 1) := by decide +kernel
theorem dX18_refused_160 : decode cX18_refused 160 = .ok (.istore 7, 2) := by decide +kernel
theorem dX18_refused_162 : decode cX18_refused 162 = .ok (.iload 7, 2) := by decide +kernel
theorem dX18_refused_164 : decode cX18_refused 164 = .ok (.ifCond .ne 29, 3) := by decide +kernel
theorem dX18_refused_193 : decode cX18_refused 193 = .ok (.bipush 6, 2) := by decide +kernel
theorem dX18_refused_195 : decode cX18_refused 195 = .ok (.goto 4, 3) := by decide +kernel
theorem dX18_refused_199 : decode cX18_refused 199 = .ok (.istore 5, 2) := by decide +kernel
theorem dX18_refused_201 : decode cX18_refused 201 = .ok (.iinc 6 1, 3) := by decide +kernel
theorem dX18_refused_204 : decode cX18_refused 204 = .ok (.goto (-89), 3) := by decide +kernel
theorem dX18_refused_167 : decode cX18_refused 167 = .ok (.aload_n 0, 1) := by decide +kernel
theorem dX18_refused_168 : decode cX18_refused 168 = .ok (.getfield 97, 3) := by decide +kernel
theorem dX18_refused_171 : decode cX18_refused 171 = .ok (.iload 6, 2) := by decide +kernel
theorem dX18_refused_173 : decode cX18_refused 173 = .ok (.iaload, 1) := by decide +kernel
theorem dX18_refused_174 : decode cX18_refused 174 = .ok (.iload_n 2, 1) := by decide +kernel
theorem dX18_refused_175 : decode cX18_refused 175 = .ok (.if_icmp .ne 23, 3) := by decide +kernel
theorem dX18_refused_198 : decode cX18_refused 198 = .ok (.iconst 0, 1) := by decide +kernel
theorem dX18_refused_178 : decode cX18_refused 178 = .ok (.aload_n 0, 1) := by decide +kernel
theorem dX18_refused_179 : decode cX18_refused 179 = .ok (.getfield 73, 3) := by decide +kernel
theorem dX18_refused_182 : decode cX18_refused 182 = .ok (.aload_n 0, 1) := by decide +kernel
theorem dX18_refused_183 : decode cX18_refused 183 = .ok (.getfield 94, 3) := by decide +kernel
theorem dX18_refused_186 : decode cX18_refused 186 = .ok (.iload 6, 2) := by decide +kernel
theorem dX18_refused_188 : decode cX18_refused 188 = .ok (.iaload, 1) := by decide +kernel
theorem dX18_refused_189 : decode cX18_refused 189 = .ok (.baload, 1) := by decide +kernel
theorem dX18_refused_190 : decode cX18_refused 190 = .ok (.ifCond .eq 8, 3) := by decide +kernel
theorem dX18_refused_140 : decode cX18_refused 140 = .ok (.aload_n 0, 1) := by decide +kernel
theorem dX18_refused_141 : decode cX18_refused 141 = .ok (.getfield 73, 3) := by decide +kernel
theorem dX18_refused_144 : decode cX18_refused 144 = .ok (.aload_n 0, 1) := by decide +kernel
theorem dX18_refused_145 : decode cX18_refused 145 = .ok (.getfield 97, 3) := by decide +kernel
theorem dX18_refused_148 : decode cX18_refused 148 = .ok (.iload 6, 2) := by decide +kernel
theorem dX18_refused_150 : decode cX18_refused 150 = .ok (.iaload, 1) := by decide +kernel
theorem dX18_refused_151 : decode cX18_refused 151 = .ok (.baload, 1) := by decide +kernel
theorem dX18_refused_152 : decode cX18_refused 152 = .ok (.ifCond .eq 7, 3) := by decide +kernel
theorem dX18_refused_155 : decode cX18_refused 155 = .ok (.iconst 1, 1) := by decide +kernel
theorem dX18_refused_156 : decode cX18_refused 156 = .ok (.goto 4, 3) := by decide +kernel
theorem dX18_refused_207 : decode cX18_refused 207 = .ok (.iload 5, 2) := by decide +kernel
theorem dX18_refused_209 : decode cX18_refused 209 = .ok (.ireturn, 1) := by decide +kernel
theorem dX18_refused_101 : decode cX18_refused 101 = .ok (.iload 4, 2) := by decide +kernel
theorem dX18_refused_103 : decode cX18_refused 103 = .ok (.goto 4, 3) := by decide +kernel
theorem dX18_refused_51 : decode cX18_refused 51 = .ok (.aload_n 0, 1) := by decide +kernel
theorem dX18_refused_52 : decode cX18_refused 52 = .ok (.getfield 106, 3) := by decide +kernel
theorem dX18_refused_55 : decode cX18_refused 55 = .ok (.aload_n 0, 1) := by decide +kernel
theorem dX18_refused_56 : decode cX18_refused 56 = .ok (.getfield 124, 3) := by decide +kernel
theorem dX18_refused_59 : decode cX18_refused 59 = .ok (.iload_n 1, 1) := by decide +kernel
theorem dX18_refused_60 : decode cX18_refused 60 = .ok (.iaload, 1) := by decide +kernel
theorem dX18_refused_61 : decode cX18_refused 61 = .ok (.iaload, 1) := by decide +kernel
theorem dX18_refused_62 : decode cX18_refused 62 = .ok (.iload 4, 2) := by decide +kernel
theorem dX18_refused_64 : decode cX18_refused 64 = .ok (.if_icmp .eq 7, 3) := by decide +kernel
theorem dX18_refused_71 : decode cX18_refused 71 = .ok (.iconst 0, 1) := by decide +kernel
theorem dX18_refused_72 : decode cX18_refused 72 = .ok (.ireturn, 1) := by decide +kernel
theorem dX18_refused_67 : decode cX18_refused 67 = .ok (.iconst 4, 1) := by decide +kernel
theorem dX18_refused_68 : decode cX18_refused 68 = .ok (.goto 4, 3) := by decide +kernel
theorem dX18_refused_41 : decode cX18_refused 41 = .ok (.bipush 9, 2) := by decide +kernel
theorem dX18_refused_43 : decode cX18_refused 43 = .ok (.ireturn, 1) := by decide +kernel
theorem dX18_refused_10 : decode cX18_refused 10 = .ok (.aload_n 0, 1) := by decide +kernel
theorem dX18_refused_11 : decode cX18_refused 11 = .ok (.getfield 57, 3) := by decide +kernel
theorem dX18_refused_14 : decode cX18_refused 14 = .ok (.iload_n 2, 1) := by decide +kernel
theorem dX18_refused_15 : decode cX18_refused 15 = .ok (.iaload, 1) := by decide +kernel
theorem dX18_refused_16 : decode cX18_refused 16 = .ok (.goto 9, 3) := by decide +kernel
theorem zl_X18_639 : zm_L zk_E RX18 639 yX16_lineBetween (.code yX16_lineBetween cX16_lineBetween 9 (some .int)) 3 ∧ Cond.instanceMethod yX16_lineBetween ∈ zk_E.2.2.1 ∧ Cond.selects yX16_lineBetween.cls yX16_lineBetween yX16_lineBetween ∈ zk_E.2.2.1 := ⟨⟨zk_b18 202 (by decide +kernel) rfl, zk_b1 14 (by decide +kernel) rfl, zk_b18 199 (by decide +kernel) rfl, by decide +kernel, by decide +kernel, by decide +kernel⟩, zk_b18 200 (by decide +kernel) rfl, zk_b18 201 (by decide +kernel) rfl⟩
theorem zl_X18_642 : zm_L zk_E RX18 642 yX16_isThere (.code yX16_isThere cX16_isThere 6 (some .boolean)) 4 ∧ Cond.instanceMethod yX16_isThere ∈ zk_E.2.2.1 ∧ Cond.selects yX16_isThere.cls yX16_isThere yX16_isThere ∈ zk_E.2.2.1 := ⟨⟨zk_b18 206 (by decide +kernel) rfl, zk_b1 14 (by decide +kernel) rfl, zk_b18 203 (by decide +kernel) rfl, by decide +kernel, by decide +kernel, by decide +kernel⟩, zk_b18 204 (by decide +kernel) rfl, zk_b18 205 (by decide +kernel) rfl⟩
theorem zl_X18_645 : zm_L zk_E RX18 645 yX18_isOutside (.code yX18_isOutside cX18_isOutside 3 (some .boolean)) 2 ∧ Cond.instanceMethod yX18_isOutside ∈ zk_E.2.2.1 ∧ Cond.selects yX18_isOutside.cls yX18_isOutside yX18_isOutside ∈ zk_E.2.2.1 := ⟨⟨zk_b18 188 (by decide +kernel) rfl, zk_b1 13 (by decide +kernel) rfl, zk_b18 185 (by decide +kernel) rfl, by decide +kernel, by decide +kernel, by decide +kernel⟩, zk_b18 187 (by decide +kernel) rfl, zk_s14 (q := (yX18_isOutside, 60)) 13 (by decide +kernel)⟩
theorem zl_X18_648 : zm_L zk_E RX18 648 yX18_nextX (.code yX18_nextX cX18_nextX 2 (some .int)) 2 ∧ Cond.static yX18_nextX ∈ zk_E.2.2.1 := ⟨⟨zk_b18 191 (by decide +kernel) rfl, zk_b1 13 (by decide +kernel) rfl, zk_b18 189 (by decide +kernel) rfl, by decide +kernel, by decide +kernel, by decide +kernel⟩, zk_b18 190 (by decide +kernel) rfl⟩
theorem zl_X18_651 : zm_L zk_E RX18 651 yX18_nextY (.code yX18_nextY cX18_nextY 2 (some .int)) 2 ∧ Cond.static yX18_nextY ∈ zk_E.2.2.1 := ⟨⟨zk_b18 194 (by decide +kernel) rfl, zk_b1 13 (by decide +kernel) rfl, zk_b18 192 (by decide +kernel) rfl, by decide +kernel, by decide +kernel, by decide +kernel⟩, zk_b18 193 (by decide +kernel) rfl⟩
theorem zl_X18_654 : zm_L zk_E RX18 654 yX18_passes (.code yX18_passes cX18_passes 7 (some .boolean)) 3 ∧ Cond.instanceMethod yX18_passes ∈ zk_E.2.2.1 ∧ Cond.selects yX18_passes.cls yX18_passes yX18_passes ∈ zk_E.2.2.1 := ⟨⟨zk_b18 198 (by decide +kernel) rfl, zk_b1 13 (by decide +kernel) rfl, zk_b18 195 (by decide +kernel) rfl, by decide +kernel, by decide +kernel, by decide +kernel⟩, zk_b18 197 (by decide +kernel) rfl, zk_s14 (q := (yX18_passes, 60)) 14 (by decide +kernel)⟩
theorem zl_X18_355 : zm_F zk_E RX18 355 15 19 := ⟨RX15, TX15, 44, rfl, zk_i15, by decide, zk_b13 234 (by decide +kernel) rfl⟩
theorem zt_18_1 : zm_T zk_E RX18 18 1 .boolean false := ⟨RX18, TX18, 60, tyX18, rfl, tyX18_ok, nmX18, rfl, rfl, rfl⟩
theorem zt_18_9 : zm_T zk_E RX18 18 9 .int false := ⟨RX18, TX18, 60, tyX18, rfl, tyX18_ok, nmX18, rfl, rfl, rfl⟩
theorem zl_X18_358 : zm_F zk_E RX18 358 14 0 := ⟨RX14, TX14, 36, rfl, zk_i14, by decide, zk_b14 115 (by decide +kernel) rfl⟩
theorem zt_14_0 : zm_T zk_E RX14 14 0 .int false := ⟨RX14, TX14, 36, tyX14, rfl, tyX14_ok, nmX14, rfl, rfl, rfl⟩
theorem zl_X18_359 : zm_L zk_E RX18 359 yX18_findPortals (.code yX18_findPortals cX18_findPortals 5 none) 0 ∧ Cond.instanceMethod yX18_findPortals ∈ zk_E.2.2.1 ∧ Cond.selects yX18_findPortals.cls yX18_findPortals yX18_findPortals ∈ zk_E.2.2.1 := ⟨⟨zk_b18 155 (by decide +kernel) rfl, zk_b1 13 (by decide +kernel) rfl, zk_b18 152 (by decide +kernel) rfl, by decide +kernel, by decide +kernel, by decide +kernel⟩, zk_b18 154 (by decide +kernel) rfl, zk_s14 (q := (yX18_findPortals, 60)) 8 (by decide +kernel)⟩
theorem zl_X18_362 : zm_L zk_E RX18 362 yX18_findWays (.code yX18_findWays cX18_findWays 7 none) 0 ∧ Cond.instanceMethod yX18_findWays ∈ zk_E.2.2.1 ∧ Cond.selects yX18_findWays.cls yX18_findWays yX18_findWays ∈ zk_E.2.2.1 := ⟨⟨zk_b18 184 (by decide +kernel) rfl, zk_b1 13 (by decide +kernel) rfl, zk_b18 181 (by decide +kernel) rfl, by decide +kernel, by decide +kernel, by decide +kernel⟩, zk_b18 183 (by decide +kernel) rfl, zk_s14 (q := (yX18_findWays, 60)) 12 (by decide +kernel)⟩
theorem zl_X18_365 : zm_L zk_E RX18 365 yX16_cellAt (.code yX16_cellAt cX16_cellAt 5 (some .int)) 4 ∧ Cond.instanceMethod yX16_cellAt ∈ zk_E.2.2.1 ∧ Cond.selects yX16_cellAt.cls yX16_cellAt yX16_cellAt ∈ zk_E.2.2.1 := ⟨⟨zk_b18 214 (by decide +kernel) rfl, zk_b1 14 (by decide +kernel) rfl, zk_b18 211 (by decide +kernel) rfl, by decide +kernel, by decide +kernel, by decide +kernel⟩, zk_b18 212 (by decide +kernel) rfl, zk_b18 213 (by decide +kernel) rfl⟩
theorem zl_X18_369 : zm_F zk_E RX18 369 18 27 := ⟨RX18, TX18, 60, rfl, zk_i18, by decide, zk_b16 54 (by decide +kernel) rfl⟩
theorem zt_18_27 : zm_T zk_E RX18 18 27 .int false := ⟨RX18, TX18, 60, tyX18, rfl, tyX18_ok, nmX18, rfl, rfl, rfl⟩
theorem zl_X18_372 : zm_F zk_E RX18 372 18 45 := ⟨RX18, TX18, 60, rfl, zk_i18, by decide, zk_b16 72 (by decide +kernel) rfl⟩
theorem zt_18_45 : zm_T zk_E RX18 18 45 .int false := ⟨RX18, TX18, 60, tyX18, rfl, tyX18_ok, nmX18, rfl, rfl, rfl⟩
theorem zl_X18_375 : zm_L zk_E RX18 375 yX18_longer (.code yX18_longer cX18_longer 3 (some (.array .int))) 1 ∧ Cond.static yX18_longer ∈ zk_E.2.2.1 := ⟨⟨zk_b18 232 (by decide +kernel) rfl, zk_b1 13 (by decide +kernel) rfl, zk_b18 230 (by decide +kernel) rfl, by decide +kernel, by decide +kernel, by decide +kernel⟩, zk_b18 231 (by decide +kernel) rfl⟩
theorem zl_X18_382 : zm_F zk_E RX18 382 18 36 := ⟨RX18, TX18, 60, rfl, zk_i18, by decide, zk_b16 63 (by decide +kernel) rfl⟩
theorem zl_X18_385 : zm_L zk_E RX18 385 yX18_tell (.code yX18_tell cX18_tell 4 none) 3 ∧ Cond.instanceMethod yX18_tell ∈ zk_E.2.2.1 ∧ Cond.selects yX18_tell.cls yX18_tell yX18_tell ∈ zk_E.2.2.1 := ⟨⟨zk_b18 229 (by decide +kernel) rfl, zk_b1 13 (by decide +kernel) rfl, zk_b18 226 (by decide +kernel) rfl, by decide +kernel, by decide +kernel, by decide +kernel⟩, zk_b18 228 (by decide +kernel) rfl, zk_s14 (q := (yX18_tell, 60)) 15 (by decide +kernel)⟩
theorem zt_18_36 : zm_T zk_E RX18 18 36 .int false := ⟨RX18, TX18, 60, tyX18, rfl, tyX18_ok, nmX18, rfl, rfl, rfl⟩
theorem zl_X18_379 : zm_L zk_E RX18 379 yX18_isMinute (.code yX18_isMinute cX18_isMinute 1 (some .boolean)) 1 ∧ Cond.static yX18_isMinute ∈ zk_E.2.2.1 := ⟨⟨zk_b18 225 (by decide +kernel) rfl, zk_b1 13 (by decide +kernel) rfl, zk_b18 223 (by decide +kernel) rfl, by decide +kernel, by decide +kernel, by decide +kernel⟩, zk_b18 224 (by decide +kernel) rfl⟩
theorem zl_X18_388 : zm_F zk_E RX18 388 18 39 := ⟨RX18, TX18, 60, rfl, zk_i18, by decide, zk_b16 66 (by decide +kernel) rfl⟩
theorem zt_18_39 : zm_T zk_E RX18 18 39 .int false := ⟨RX18, TX18, 60, tyX18, rfl, tyX18_ok, nmX18, rfl, rfl, rfl⟩
theorem zl_X18_391 : zm_L zk_E RX18 391 yX18_lastTold (.code yX18_lastTold cX18_lastTold 5 (some .int)) 3 ∧ Cond.instanceMethod yX18_lastTold ∈ zk_E.2.2.1 ∧ Cond.selects yX18_lastTold.cls yX18_lastTold yX18_lastTold ∈ zk_E.2.2.1 := ⟨⟨zk_b19 4 (by decide +kernel) rfl, zk_b1 13 (by decide +kernel) rfl, zk_b19 1 (by decide +kernel) rfl, by decide +kernel, by decide +kernel, by decide +kernel⟩, zk_b19 3 (by decide +kernel) rfl, zk_s15 (q := (yX18_lastTold, 60)) 0 (by decide +kernel)⟩
theorem zl_X18_395 : zm_F zk_E RX18 395 18 24 := ⟨RX18, TX18, 60, rfl, zk_i18, by decide, zk_b16 51 (by decide +kernel) rfl⟩
theorem zl_X18_398 : zm_L zk_E RX18 398 yX18_lockOf (.code yX18_lockOf cX18_lockOf 5 (some .int)) 2 ∧ Cond.instanceMethod yX18_lockOf ∈ zk_E.2.2.1 ∧ Cond.selects yX18_lockOf.cls yX18_lockOf yX18_lockOf ∈ zk_E.2.2.1 := ⟨⟨zk_b19 20 (by decide +kernel) rfl, zk_b1 13 (by decide +kernel) rfl, zk_b19 17 (by decide +kernel) rfl, by decide +kernel, by decide +kernel, by decide +kernel⟩, zk_b19 19 (by decide +kernel) rfl, zk_s15 (q := (yX18_lockOf, 60)) 1 (by decide +kernel)⟩
theorem zt_18_24 : zm_T zk_E RX18 18 24 .int false := ⟨RX18, TX18, 60, tyX18, rfl, tyX18_ok, nmX18, rfl, rfl, rfl⟩
theorem zl_X18_401 : zm_F zk_E RX18 401 18 2 := ⟨RX18, TX18, 60, rfl, zk_i18, by decide, zk_b16 29 (by decide +kernel) rfl⟩
theorem zl_X18_404 : zm_L zk_E RX18 404 yX14_done (.code yX14_done cX14_done 4 (some .int)) 1 ∧ Cond.instanceMethod yX14_done ∈ zk_E.2.2.1 ∧ Cond.selects yX14_done.cls yX14_done yX14_done ∈ zk_E.2.2.1 := ⟨⟨zk_b19 44 (by decide +kernel) rfl, zk_b1 16 (by decide +kernel) rfl, zk_b19 41 (by decide +kernel) rfl, by decide +kernel, by decide +kernel, by decide +kernel⟩, zk_b19 42 (by decide +kernel) rfl, zk_b19 43 (by decide +kernel) rfl⟩
theorem zl_X18_407 : zm_L zk_E RX18 407 yX18_zoneOf (.code yX18_zoneOf cX18_zoneOf 2 (some .int)) 1 ∧ Cond.instanceMethod yX18_zoneOf ∈ zk_E.2.2.1 ∧ Cond.selects yX18_zoneOf.cls yX18_zoneOf yX18_zoneOf ∈ zk_E.2.2.1 := ⟨⟨zk_b19 52 (by decide +kernel) rfl, zk_b1 13 (by decide +kernel) rfl, zk_b19 49 (by decide +kernel) rfl, by decide +kernel, by decide +kernel, by decide +kernel⟩, zk_b19 51 (by decide +kernel) rfl, zk_s15 (q := (yX18_zoneOf, 60)) 6 (by decide +kernel)⟩
theorem zl_X18_410 : zm_L zk_E RX18 410 yX18_spans (.code yX18_spans cX18_spans 8 (some .boolean)) 4 ∧ Cond.instanceMethod yX18_spans ∈ zk_E.2.2.1 ∧ Cond.selects yX18_spans.cls yX18_spans yX18_spans ∈ zk_E.2.2.1 := ⟨⟨zk_b19 56 (by decide +kernel) rfl, zk_b1 13 (by decide +kernel) rfl, zk_b19 53 (by decide +kernel) rfl, by decide +kernel, by decide +kernel, by decide +kernel⟩, zk_b19 55 (by decide +kernel) rfl, zk_s15 (q := (yX18_spans, 60)) 7 (by decide +kernel)⟩
theorem zl_X18_414 : zm_L zk_E RX18 414 yX18_isReleased (.code yX18_isReleased cX18_isReleased 1 (some .boolean)) 0 ∧ Cond.instanceMethod yX18_isReleased ∈ zk_E.2.2.1 ∧ Cond.selects yX18_isReleased.cls yX18_isReleased yX18_isReleased ∈ zk_E.2.2.1 := ⟨⟨zk_b19 40 (by decide +kernel) rfl, zk_b1 13 (by decide +kernel) rfl, zk_b19 37 (by decide +kernel) rfl, by decide +kernel, by decide +kernel, by decide +kernel⟩, zk_b19 39 (by decide +kernel) rfl, zk_s15 (q := (yX18_isReleased, 60)) 4 (by decide +kernel)⟩
theorem zl_X18_418 : zm_L zk_E RX18 418 yX18_why (.code yX18_why cX18_why 11 (some .int)) 5 ∧ Cond.instanceMethod yX18_why ∈ zk_E.2.2.1 ∧ Cond.selects yX18_why.cls yX18_why yX18_why ∈ zk_E.2.2.1 := ⟨⟨zk_b19 48 (by decide +kernel) rfl, zk_b1 13 (by decide +kernel) rfl, zk_b19 45 (by decide +kernel) rfl, by decide +kernel, by decide +kernel, by decide +kernel⟩, zk_b19 47 (by decide +kernel) rfl, zk_s15 (q := (yX18_why, 60)) 5 (by decide +kernel)⟩
set_option maxHeartbeats 4000000 in
set_option maxRecDepth 100000 in
theorem zt_X18_nextY {l : Launch} {V : zm_V} {N : Nat} {S : zm_S} {out : (Int32 × zm_S)} {d : Nat} {i0 : Int32} {i1 : Int32} (hd : 1 ≤ d) (h : zf_X18_nextY N i0 i1 S = some out) : zm_Met l zk_E V yX18_nextY (.code yX18_nextY cX18_nextY 2 (some .int)) d [.int i0, .int i1] S 0 0 (zo_i out) zo_x := by
  refine zm_of (by decide +kernel) (Nat.le_of_ble_eq_true rfl) ?_
  intro p e R s m args below meth c hRR hX hr hxt
  have hR : R.frames = d ∧ R.locals = 64 * d := by rw [hRR]; exact ⟨rfl, rfl⟩
  have hX : zm_X p R s m args meth c RX18 "nextY" cX18_nextY 2 zk_E V 0 0 := hX
  unfold zf_X18_nextY at h
  refine zw_sub (lv' := [(0, .int i0), (1, .int i1)]) (List.forall_mem_cons.mpr ⟨rfl, (List.forall_mem_cons.mpr ⟨rfl, zs_nil⟩)⟩) ?_
  refine zw_iload_n hX dX18_nextY_0 rfl ?_
  refine zw_iload_n hX dX18_nextY_1 rfl ?_
  refine zw_iconst (v := (2 : Int32)) hX dX18_nextY_2 (by decide) ?_
  refine zw_icmp_ne (tgt := 10) hX dX18_nextY_3 (by decide) (fun c3 => ?_) (fun c3 => ?_)
  · rw [if_neg c3] at h
    refine zw_iload_n hX dX18_nextY_10 rfl ?_
    refine zw_iconst (v := (3 : Int32)) hX dX18_nextY_11 (by decide) ?_
    refine zw_icmp_ne (tgt := 19) hX dX18_nextY_12 (by decide) (fun c12 => ?_) (fun c12 => ?_)
    · rw [if_neg c12] at h
      refine zw_iconst (v := (0 : Int32)) hX dX18_nextY_19 (by decide) ?_
      refine zw_iadd hX dX18_nextY_20 ?_
      obtain rfl := Option.some.inj h
      exact zw_iret hX hr dX18_nextY_21 rfl ⟨rfl, rfl⟩
    · rw [if_pos c12] at h
      refine zw_iconst (v := (-1 : Int32)) hX dX18_nextY_15 (by decide) ?_
      refine zw_goto (tgt := 20) hX dX18_nextY_16 (by decide) ?_
      refine zw_iadd hX dX18_nextY_20 ?_
      obtain rfl := Option.some.inj h
      exact zw_iret hX hr dX18_nextY_21 rfl ⟨rfl, rfl⟩
  · rw [if_pos c3] at h
    refine zw_iconst (v := (1 : Int32)) hX dX18_nextY_6 (by decide) ?_
    refine zw_goto (tgt := 20) hX dX18_nextY_7 (by decide) ?_
    refine zw_iadd hX dX18_nextY_20 ?_
    obtain rfl := Option.some.inj h
    exact zw_iret hX hr dX18_nextY_21 rfl ⟨rfl, rfl⟩
set_option maxHeartbeats 4000000 in
set_option maxRecDepth 100000 in
theorem zt_X18_passes_J68 {p : Program} {l : Launch} {e : Env} {R : Room} {s : State} {m : MethodId} {args : Array Value} {below : List Frame} {meth : Method} {c : Code} {V : zm_V} {mc ms d rc rs : Nat} (hX : zm_X p R s m args meth c RX18 "passes" cX18_passes 7 zk_E V mc ms) (hr : meth.sig.returnType = (some .boolean)) (hR : R.frames = d ∧ R.locals = 64 * d) (hd : 3 ≤ d) {N : Nat} {k : Nat → Int32 → Int32 → Int32 → Int32 → Int32 → zm_S → Option ((Int32 × zm_S) ⊕ ((Int32) × zm_S))} {a0 : Nat} {i1 : Int32} {i2 : Int32} {i4 : Int32} {i6 : Int32} {res : (Int32 × zm_S) ⊕ ((Int32) × zm_S)} {out : (Int32 × zm_S)}   (hf : ∀ o, res = .inl o → o = out) (hk : ∀ (x5 : Int32) (S' : zm_S), res = .inr (x5, S') → zw p l e R s m args below meth c (vx_MQ below (zm_Qc zk_E V (zo_i out)) (zm_XC zk_E V zo_x) args s mc ms (fun q => V.2.2.2.1 ≤ q)) 7 zk_E V mc ms 81 [(5, .int x5)] [] S' rc rs) (hrec : ∀ (i5' : Int32) (i6' : Int32) (S : zm_S), k a0 i1 i2 i4 i5' i6' S = some res → zw p l e R s m args below meth c (vx_MQ below (zm_Qc zk_E V (zo_i out)) (zm_XC zk_E V zo_x) args s mc ms (fun q => V.2.2.2.1 ≤ q)) 7 zk_E V mc ms 27 [(0, .ref a0), (1, .int i1), (2, .int i2), (4, .int i4), (5, .int i5'), (6, .int i6')] [] S rc rs) {S : zm_S} (h : zf_X18_passes_J68 N k a0 i1 i2 i4 i6 S = some res) : zw p l e R s m args below meth c (vx_MQ below (zm_Qc zk_E V (zo_i out)) (zm_XC zk_E V zo_x) args s mc ms (fun q => V.2.2.2.1 ≤ q)) 7 zk_E V mc ms 68 [(0, .ref a0), (1, .int i1), (2, .int i2), (4, .int i4), (6, .int i6)] [] S rc rs := by
  unfold zf_X18_passes_J68 at h
  refine zw_iconst (v := (1 : Int32)) hX dX18_passes_68 (by decide) ?_
  refine zw_goto (tgt := 73) hX dX18_passes_69 (by decide) ?_
  refine zw_istore hX dX18_passes_73 (by decide) ?_
  refine zw_iinc (v := (i6 + (1 : Int32))) hX dX18_passes_75 rfl rfl (by decide) ?_
  refine zw_goto (tgt := 27) hX dX18_passes_78 (by decide) ?_
  refine zw_sub (lv' := [(0, .ref a0), (1, .int i1), (2, .int i2), (4, .int i4), (5, .int (1 : Int32)), (6, .int (i6 + (1 : Int32)))]) (List.forall_mem_cons.mpr ⟨rfl, (List.forall_mem_cons.mpr ⟨rfl, (List.forall_mem_cons.mpr ⟨rfl, (List.forall_mem_cons.mpr ⟨rfl, (List.forall_mem_cons.mpr ⟨rfl, (List.forall_mem_cons.mpr ⟨rfl, zs_nil⟩)⟩)⟩)⟩)⟩)⟩) ?_
  exact hrec _ _ _ h
set_option maxHeartbeats 4000000 in
set_option maxRecDepth 100000 in
theorem zt_X18_passes_L27 {p : Program} {l : Launch} {e : Env} {R : Room} {s : State} {m : MethodId} {args : Array Value} {below : List Frame} {meth : Method} {c : Code} {V : zm_V} {mc ms d rc rs : Nat} (hX : zm_X p R s m args meth c RX18 "passes" cX18_passes 7 zk_E V mc ms) (hr : meth.sig.returnType = (some .boolean)) (hR : R.frames = d ∧ R.locals = 64 * d) (hd : 3 ≤ d) {N : Nat} {res : (Int32 × zm_S) ⊕ ((Int32) × zm_S)} {out : (Int32 × zm_S)} (a0 : Nat) (i1 : Int32) (i2 : Int32) (i4 : Int32) (hf : ∀ o, res = .inl o → o = out) (hk : ∀ (x5 : Int32) (S' : zm_S), res = .inr (x5, S') → zw p l e R s m args below meth c (vx_MQ below (zm_Qc zk_E V (zo_i out)) (zm_XC zk_E V zo_x) args s mc ms (fun q => V.2.2.2.1 ≤ q)) 7 zk_E V mc ms 81 [(5, .int x5)] [] S' rc rs) : ∀ (n : Nat) (i5 : Int32) (i6 : Int32) (S : zm_S), zf_X18_passes_L27 N n a0 i1 i2 i4 i5 i6 S = some res → zw p l e R s m args below meth c (vx_MQ below (zm_Qc zk_E V (zo_i out)) (zm_XC zk_E V zo_x) args s mc ms (fun q => V.2.2.2.1 ≤ q)) 7 zk_E V mc ms 27 [(0, .ref a0), (1, .int i1), (2, .int i2), (4, .int i4), (5, .int i5), (6, .int i6)] [] S rc rs := by
  intro n
  induction n with
  | zero => intro i5 i6 S h; cases h
  | succ n ih =>
    intro i5 i6 S h
    rw [zf_X18_passes_L27] at h
    refine zw_iload hX dX18_passes_27 rfl ?_
    refine zw_if_lt (tgt := 81) hX dX18_passes_29 (by decide) (fun c29 => ?_) (fun c29 => ?_)
    · rw [if_pos c29] at h
      refine zw_sub (lv' := [(5, .int i5)]) (List.forall_mem_cons.mpr ⟨rfl, zs_nil⟩) ?_
      exact hk _ _ (Option.some.inj h).symm
    · rw [if_neg c29] at h
      refine zw_iload hX dX18_passes_32 rfl ?_
      refine zw_aload_n hX dX18_passes_34 rfl ?_
      obtain ⟨b4, g, h⟩ := zb_some h
      refine zw_getr hX zl_X18_12 dX18_passes_35 g ?_
      obtain ⟨b5, g, h⟩ := zb_some h
      refine zw_getr hX zl_X18_221 dX18_passes_38 g ?_
      refine zw_iload hX dX18_passes_41 rfl ?_
      obtain ⟨v6, g, h⟩ := zb_some h
      refine zw_xi hX dX18_passes_43 g ?_
      refine zw_icmp_ge (tgt := 81) hX dX18_passes_44 (by decide) (fun c44 => ?_) (fun c44 => ?_)
      · rw [if_pos c44] at h
        refine zw_sub (lv' := [(5, .int i5)]) (List.forall_mem_cons.mpr ⟨rfl, zs_nil⟩) ?_
        exact hk _ _ (Option.some.inj h).symm
      · rw [if_neg c44] at h
        refine zw_iload hX dX18_passes_47 rfl ?_
        refine zw_if_ne (tgt := 68) hX dX18_passes_49 (by decide) (fun c49 => ?_) (fun c49 => ?_)
        · rw [if_neg c49] at h
          refine zw_sub (lv' := [(0, .ref a0), (1, .int i1), (2, .int i2), (4, .int i4), (6, .int i6)]) (List.forall_mem_cons.mpr ⟨rfl, (List.forall_mem_cons.mpr ⟨rfl, (List.forall_mem_cons.mpr ⟨rfl, (List.forall_mem_cons.mpr ⟨rfl, (List.forall_mem_cons.mpr ⟨rfl, zs_nil⟩)⟩)⟩)⟩)⟩) ?_
          exact zt_X18_passes_J68 hX hr hR hd hf hk ih h
        · rw [if_pos c49] at h
          refine zw_aload_n hX dX18_passes_52 rfl ?_
          obtain ⟨b7, g, h⟩ := zb_some h
          refine zw_getr hX zl_X18_12 dX18_passes_53 g ?_
          refine zw_iload hX dX18_passes_56 rfl ?_
          refine zw_iload hX dX18_passes_58 rfl ?_
          refine zw_iload_n hX dX18_passes_60 rfl ?_
          refine zw_iload_n hX dX18_passes_61 rfl ?_
          obtain ⟨_, gi, h⟩ := zb_some h
          obtain ⟨r9, g, h⟩ := zb_some h
          refine zc_Vi (as := [.int i4, .int i6, .int i1, .int i2]) hX gi (zt_X16_isThere (d := d - 1) (by omega) g) zl_X18_642 rfl dX18_passes_62 ⟨rfl, rfl, Nat.le_of_ble_eq_true rfl⟩ ⟨by omega, by omega⟩ ?_
          refine zw_if_eq (tgt := 72) hX dX18_passes_65 (by decide) (fun c65 => ?_) (fun c65 => ?_)
          · rw [if_pos c65] at h
            refine zw_iconst (v := (0 : Int32)) hX dX18_passes_72 (by decide) ?_
            refine zw_istore hX dX18_passes_73 (by decide) ?_
            refine zw_iinc (v := (i6 + (1 : Int32))) hX dX18_passes_75 rfl rfl (by decide) ?_
            refine zw_goto (tgt := 27) hX dX18_passes_78 (by decide) ?_
            refine zw_sub (lv' := [(0, .ref a0), (1, .int i1), (2, .int i2), (4, .int i4), (5, .int (0 : Int32)), (6, .int (i6 + (1 : Int32)))]) (List.forall_mem_cons.mpr ⟨rfl, (List.forall_mem_cons.mpr ⟨rfl, (List.forall_mem_cons.mpr ⟨rfl, (List.forall_mem_cons.mpr ⟨rfl, (List.forall_mem_cons.mpr ⟨rfl, (List.forall_mem_cons.mpr ⟨rfl, zs_nil⟩)⟩)⟩)⟩)⟩)⟩) ?_
            exact ih _ _ _ h
          · rw [if_neg c65] at h
            refine zw_sub (lv' := [(0, .ref a0), (1, .int i1), (2, .int i2), (4, .int i4), (6, .int i6)]) (List.forall_mem_cons.mpr ⟨rfl, (List.forall_mem_cons.mpr ⟨rfl, (List.forall_mem_cons.mpr ⟨rfl, (List.forall_mem_cons.mpr ⟨rfl, (List.forall_mem_cons.mpr ⟨rfl, zs_nil⟩)⟩)⟩)⟩)⟩) ?_
            exact zt_X18_passes_J68 hX hr hR hd hf hk ih h
set_option maxHeartbeats 4000000 in
set_option maxRecDepth 100000 in
theorem zt_X18_passes_J22 {p : Program} {l : Launch} {e : Env} {R : Room} {s : State} {m : MethodId} {args : Array Value} {below : List Frame} {meth : Method} {c : Code} {V : zm_V} {mc ms d rc rs : Nat} (hX : zm_X p R s m args meth c RX18 "passes" cX18_passes 7 zk_E V mc ms) (hr : meth.sig.returnType = (some .boolean)) (hR : R.frames = d ∧ R.locals = 64 * d) (hd : 3 ≤ d) {N : Nat} {a0 : Nat} {i1 : Int32} {i2 : Int32} {i4 : Int32} {t0 : Int32} {out : (Int32 × zm_S)} {S : zm_S} (h : zf_X18_passes_J22 N a0 i1 i2 i4 t0 S = some out) : zw p l e R s m args below meth c (vx_MQ below (zm_Qc zk_E V (zo_i out)) (zm_XC zk_E V zo_x) args s mc ms (fun q => V.2.2.2.1 ≤ q)) 7 zk_E V mc ms 22 [(0, .ref a0), (1, .int i1), (2, .int i2), (4, .int i4)] [.int t0] S rc rs := by
  unfold zf_X18_passes_J22 at h
  refine zw_istore hX dX18_passes_22 (by decide) ?_
  refine zw_iconst (v := (0 : Int32)) hX dX18_passes_24 (by decide) ?_
  refine zw_istore hX dX18_passes_25 (by decide) ?_
  obtain ⟨r, g, h⟩ := zb_some h
  refine zw_sub (lv' := [(0, .ref a0), (1, .int i1), (2, .int i2), (4, .int i4), (5, .int t0), (6, .int (0 : Int32))]) (List.forall_mem_cons.mpr ⟨rfl, (List.forall_mem_cons.mpr ⟨rfl, (List.forall_mem_cons.mpr ⟨rfl, (List.forall_mem_cons.mpr ⟨rfl, (List.forall_mem_cons.mpr ⟨rfl, (List.forall_mem_cons.mpr ⟨rfl, zs_nil⟩)⟩)⟩)⟩)⟩)⟩) ?_
  refine zt_X18_passes_L27 hX hr hR hd (res := r) (out := out) a0 i1 i2 i4 ?_ ?_ N _ _ _ g
  · intro o ho
    subst ho
    exact Option.some.inj h
  · intro v11 S10 hx
    subst hx
    try dsimp only at h
    refine zw_iload hX dX18_passes_81 rfl ?_
    by_cases cz : v11 = 0 ∨ v11 = 1
    · rw [if_pos cz] at h
      obtain rfl := Option.some.inj h
      exact zw_iret hX hr dX18_passes_83 (zn_z cz) ⟨rfl, rfl⟩
    · rw [if_neg cz] at h
      cases h
set_option maxHeartbeats 4000000 in
set_option maxRecDepth 100000 in
theorem zt_X18_passes {l : Launch} {V : zm_V} {N : Nat} {S : zm_S} {out : (Int32 × zm_S)} {d : Nat} {a0 : Nat} {i1 : Int32} {i2 : Int32} {i3 : Int32} (hd : 3 ≤ d) (h : zf_X18_passes N a0 i1 i2 i3 S = some out) : zm_Met l zk_E V yX18_passes (.code yX18_passes cX18_passes 7 (some .boolean)) d [.ref a0, .int i1, .int i2, .int i3] S 0 0 (zo_i out) zo_x := by
  refine zm_of (by decide +kernel) (Nat.le_of_ble_eq_true rfl) ?_
  intro p e R s m args below meth c hRR hX hr hxt
  have hR : R.frames = d ∧ R.locals = 64 * d := by rw [hRR]; exact ⟨rfl, rfl⟩
  have hX : zm_X p R s m args meth c RX18 "passes" cX18_passes 7 zk_E V 0 0 := hX
  unfold zf_X18_passes at h
  refine zw_sub (lv' := [(0, .ref a0), (1, .int i1), (2, .int i2), (3, .int i3)]) (List.forall_mem_cons.mpr ⟨rfl, (List.forall_mem_cons.mpr ⟨rfl, (List.forall_mem_cons.mpr ⟨rfl, (List.forall_mem_cons.mpr ⟨rfl, zs_nil⟩)⟩)⟩)⟩) ?_
  refine zw_aload_n hX dX18_passes_0 rfl ?_
  obtain ⟨b1, g, h⟩ := zb_some h
  refine zw_getr hX zl_X18_12 dX18_passes_1 g ?_
  refine zw_iload_n hX dX18_passes_4 rfl ?_
  refine zw_iload_n hX dX18_passes_5 rfl ?_
  refine zw_iload_n hX dX18_passes_6 rfl ?_
  obtain ⟨_, gi, h⟩ := zb_some h
  obtain ⟨r3, g, h⟩ := zb_some h
  refine zc_Vi (as := [.int i1, .int i2, .int i3]) hX gi (zt_X16_lineBetween (d := d - 1) (by omega) g) zl_X18_639 rfl dX18_passes_7 ⟨rfl, rfl, Nat.le_of_ble_eq_true rfl⟩ ⟨by omega, by omega⟩ ?_
  refine zw_istore hX dX18_passes_10 (by decide) ?_
  refine zw_iload hX dX18_passes_12 rfl ?_
  refine zw_if_ge (tgt := 21) hX dX18_passes_14 (by decide) (fun c14 => ?_) (fun c14 => ?_)
  · rw [if_pos c14] at h
    refine zw_iconst (v := (0 : Int32)) hX dX18_passes_21 (by decide) ?_
    refine zw_sub (lv' := [(0, .ref a0), (1, .int i1), (2, .int i2), (4, .int r3.1)]) (List.forall_mem_cons.mpr ⟨rfl, (List.forall_mem_cons.mpr ⟨rfl, (List.forall_mem_cons.mpr ⟨rfl, (List.forall_mem_cons.mpr ⟨rfl, zs_nil⟩)⟩)⟩)⟩) ?_
    exact zt_X18_passes_J22 hX hr hR hd h
  · rw [if_neg c14] at h
    refine zw_iconst (v := (1 : Int32)) hX dX18_passes_17 (by decide) ?_
    refine zw_goto (tgt := 22) hX dX18_passes_18 (by decide) ?_
    refine zw_sub (lv' := [(0, .ref a0), (1, .int i1), (2, .int i2), (4, .int r3.1)]) (List.forall_mem_cons.mpr ⟨rfl, (List.forall_mem_cons.mpr ⟨rfl, (List.forall_mem_cons.mpr ⟨rfl, (List.forall_mem_cons.mpr ⟨rfl, zs_nil⟩)⟩)⟩)⟩) ?_
    exact zt_X18_passes_J22 hX hr hR hd h
set_option maxHeartbeats 4000000 in
set_option maxRecDepth 100000 in
theorem zt_X18_findWays_J77 {p : Program} {l : Launch} {e : Env} {R : Room} {s : State} {m : MethodId} {args : Array Value} {below : List Frame} {meth : Method} {c : Code} {V : zm_V} {mc ms d rc rs : Nat} (hX : zm_X p R s m args meth c RX18 "findWays" cX18_findWays 7 zk_E V mc ms) (hr : meth.sig.returnType = none) (hR : R.frames = d ∧ R.locals = 64 * d) (hd : 4 ≤ d) {N : Nat} {k : Nat → Int32 → Int32 → Int32 → zm_S → Option ((Unit × zm_S) ⊕ ((Unit) × zm_S))} {a0 : Nat} {i1 : Int32} {i2 : Int32} {i3 : Int32} {t0 : Int32} {res : (Unit × zm_S) ⊕ ((Unit) × zm_S)} {out : (Unit × zm_S)}   (hf : ∀ o, res = .inl o → o = out) (hk : ∀ (S' : zm_S), res = .inr ((), S') → zw p l e R s m args below meth c (vx_MQ below (zm_Qc zk_E V (zo_v out)) (zm_XC zk_E V zo_x) args s mc ms (fun q => V.2.2.2.1 ≤ q)) 7 zk_E V mc ms 106 [(0, .ref a0), (1, .int i1), (2, .int i2)] [] S' rc rs) (hrec : ∀ (i3' : Int32) (S : zm_S), k a0 i1 i2 i3' S = some res → zw p l e R s m args below meth c (vx_MQ below (zm_Qc zk_E V (zo_v out)) (zm_XC zk_E V zo_x) args s mc ms (fun q => V.2.2.2.1 ≤ q)) 7 zk_E V mc ms 13 [(0, .ref a0), (1, .int i1), (2, .int i2), (3, .int i3')] [] S rc rs) {S : zm_S} (h : zf_X18_findWays_J77 N k a0 i1 i2 i3 t0 S = some res) : zw p l e R s m args below meth c (vx_MQ below (zm_Qc zk_E V (zo_v out)) (zm_XC zk_E V zo_x) args s mc ms (fun q => V.2.2.2.1 ≤ q)) 7 zk_E V mc ms 77 [(0, .ref a0), (1, .int i1), (2, .int i2), (3, .int i3)] [.int t0] S rc rs := by
  unfold zf_X18_findWays_J77 at h
  refine zw_istore hX dX18_findWays_77 (by decide) ?_
  refine zw_aload_n hX dX18_findWays_79 rfl ?_
  obtain ⟨b9, g, h⟩ := zb_some h
  refine zw_getr hX zl_X18_172 dX18_findWays_80 g ?_
  refine zw_iload_n hX dX18_findWays_83 rfl ?_
  refine zw_iload hX dX18_findWays_84 rfl ?_
  refine zw_if_eq (tgt := 93) hX dX18_findWays_86 (by decide) (fun c86 => ?_) (fun c86 => ?_)
  · rw [if_pos c86] at h
    refine zw_aload_n hX dX18_findWays_93 rfl ?_
    obtain ⟨b10, g, h⟩ := zb_some h
    refine zw_getr hX zl_X18_172 dX18_findWays_94 g ?_
    refine zw_iload_n hX dX18_findWays_97 rfl ?_
    obtain ⟨v11, g, h⟩ := zb_some h
    refine zw_xi hX dX18_findWays_98 g ?_
    obtain ⟨S12, g, h⟩ := zb_some h
    refine zw_si hX dX18_findWays_99 g ?_
    refine zw_iinc (v := (i3 + (1 : Int32))) hX dX18_findWays_100 rfl rfl (by decide) ?_
    refine zw_goto (tgt := 13) hX dX18_findWays_103 (by decide) ?_
    refine zw_sub (lv' := [(0, .ref a0), (1, .int i1), (2, .int i2), (3, .int (i3 + (1 : Int32)))]) (List.forall_mem_cons.mpr ⟨rfl, (List.forall_mem_cons.mpr ⟨rfl, (List.forall_mem_cons.mpr ⟨rfl, (List.forall_mem_cons.mpr ⟨rfl, zs_nil⟩)⟩)⟩)⟩) ?_
    exact hrec _ _ h
  · rw [if_neg c86] at h
    refine zw_iconst (v := (1 : Int32)) hX dX18_findWays_89 (by decide) ?_
    refine zw_goto (tgt := 99) hX dX18_findWays_90 (by decide) ?_
    obtain ⟨S13, g, h⟩ := zb_some h
    refine zw_si hX dX18_findWays_99 g ?_
    refine zw_iinc (v := (i3 + (1 : Int32))) hX dX18_findWays_100 rfl rfl (by decide) ?_
    refine zw_goto (tgt := 13) hX dX18_findWays_103 (by decide) ?_
    refine zw_sub (lv' := [(0, .ref a0), (1, .int i1), (2, .int i2), (3, .int (i3 + (1 : Int32)))]) (List.forall_mem_cons.mpr ⟨rfl, (List.forall_mem_cons.mpr ⟨rfl, (List.forall_mem_cons.mpr ⟨rfl, (List.forall_mem_cons.mpr ⟨rfl, zs_nil⟩)⟩)⟩)⟩) ?_
    exact hrec _ _ h
set_option maxHeartbeats 4000000 in
set_option maxRecDepth 100000 in
theorem zt_X18_findWays_J76 {p : Program} {l : Launch} {e : Env} {R : Room} {s : State} {m : MethodId} {args : Array Value} {below : List Frame} {meth : Method} {c : Code} {V : zm_V} {mc ms d rc rs : Nat} (hX : zm_X p R s m args meth c RX18 "findWays" cX18_findWays 7 zk_E V mc ms) (hr : meth.sig.returnType = none) (hR : R.frames = d ∧ R.locals = 64 * d) (hd : 4 ≤ d) {N : Nat} {k : Nat → Int32 → Int32 → Int32 → zm_S → Option ((Unit × zm_S) ⊕ ((Unit) × zm_S))} {a0 : Nat} {i1 : Int32} {i2 : Int32} {i3 : Int32} {res : (Unit × zm_S) ⊕ ((Unit) × zm_S)} {out : (Unit × zm_S)}   (hf : ∀ o, res = .inl o → o = out) (hk : ∀ (S' : zm_S), res = .inr ((), S') → zw p l e R s m args below meth c (vx_MQ below (zm_Qc zk_E V (zo_v out)) (zm_XC zk_E V zo_x) args s mc ms (fun q => V.2.2.2.1 ≤ q)) 7 zk_E V mc ms 106 [(0, .ref a0), (1, .int i1), (2, .int i2)] [] S' rc rs) (hrec : ∀ (i3' : Int32) (S : zm_S), k a0 i1 i2 i3' S = some res → zw p l e R s m args below meth c (vx_MQ below (zm_Qc zk_E V (zo_v out)) (zm_XC zk_E V zo_x) args s mc ms (fun q => V.2.2.2.1 ≤ q)) 7 zk_E V mc ms 13 [(0, .ref a0), (1, .int i1), (2, .int i2), (3, .int i3')] [] S rc rs) {S : zm_S} (h : zf_X18_findWays_J76 N k a0 i1 i2 i3 S = some res) : zw p l e R s m args below meth c (vx_MQ below (zm_Qc zk_E V (zo_v out)) (zm_XC zk_E V zo_x) args s mc ms (fun q => V.2.2.2.1 ≤ q)) 7 zk_E V mc ms 76 [(0, .ref a0), (1, .int i1), (2, .int i2), (3, .int i3)] [] S rc rs := by
  unfold zf_X18_findWays_J76 at h
  refine zw_iconst (v := (0 : Int32)) hX dX18_findWays_76 (by decide) ?_
  refine zw_sub (lv' := [(0, .ref a0), (1, .int i1), (2, .int i2), (3, .int i3)]) (List.forall_mem_cons.mpr ⟨rfl, (List.forall_mem_cons.mpr ⟨rfl, (List.forall_mem_cons.mpr ⟨rfl, (List.forall_mem_cons.mpr ⟨rfl, zs_nil⟩)⟩)⟩)⟩) ?_
  exact zt_X18_findWays_J77 hX hr hR hd hf hk hrec h
set_option maxHeartbeats 4000000 in
set_option maxRecDepth 100000 in
theorem zt_X18_findWays_L13 {p : Program} {l : Launch} {e : Env} {R : Room} {s : State} {m : MethodId} {args : Array Value} {below : List Frame} {meth : Method} {c : Code} {V : zm_V} {mc ms d rc rs : Nat} (hX : zm_X p R s m args meth c RX18 "findWays" cX18_findWays 7 zk_E V mc ms) (hr : meth.sig.returnType = none) (hR : R.frames = d ∧ R.locals = 64 * d) (hd : 4 ≤ d) {N : Nat} {res : (Unit × zm_S) ⊕ ((Unit) × zm_S)} {out : (Unit × zm_S)} (a0 : Nat) (i1 : Int32) (i2 : Int32) (hf : ∀ o, res = .inl o → o = out) (hk : ∀ (S' : zm_S), res = .inr ((), S') → zw p l e R s m args below meth c (vx_MQ below (zm_Qc zk_E V (zo_v out)) (zm_XC zk_E V zo_x) args s mc ms (fun q => V.2.2.2.1 ≤ q)) 7 zk_E V mc ms 106 [(0, .ref a0), (1, .int i1), (2, .int i2)] [] S' rc rs) : ∀ (n : Nat) (i3 : Int32) (S : zm_S), zf_X18_findWays_L13 N n a0 i1 i2 i3 S = some res → zw p l e R s m args below meth c (vx_MQ below (zm_Qc zk_E V (zo_v out)) (zm_XC zk_E V zo_x) args s mc ms (fun q => V.2.2.2.1 ≤ q)) 7 zk_E V mc ms 13 [(0, .ref a0), (1, .int i1), (2, .int i2), (3, .int i3)] [] S rc rs := by
  intro n
  induction n with
  | zero => intro i3 S h; cases h
  | succ n ih =>
    intro i3 S h
    rw [zf_X18_findWays_L13] at h
    refine zw_iload_n hX dX18_findWays_13 rfl ?_
    refine zw_iconst (v := (4 : Int32)) hX dX18_findWays_14 (by decide) ?_
    refine zw_icmp_ge (tgt := 106) hX dX18_findWays_15 (by decide) (fun c15 => ?_) (fun c15 => ?_)
    · rw [if_pos c15] at h
      refine zw_sub (lv' := [(0, .ref a0), (1, .int i1), (2, .int i2)]) (List.forall_mem_cons.mpr ⟨rfl, (List.forall_mem_cons.mpr ⟨rfl, (List.forall_mem_cons.mpr ⟨rfl, zs_nil⟩)⟩)⟩) ?_
      exact hk  _ (Option.some.inj h).symm
    · rw [if_neg c15] at h
      refine zw_aload_n hX dX18_findWays_18 rfl ?_
      refine zw_iload_n hX dX18_findWays_19 rfl ?_
      refine zw_bipush (v := (24 : Int32)) hX dX18_findWays_20 (by decide) ?_
      refine zw_irem hX dX18_findWays_22 (by decide) ?_
      refine zw_iload_n hX dX18_findWays_23 rfl ?_
      refine zw_bipush (v := (24 : Int32)) hX dX18_findWays_24 (by decide) ?_
      refine zw_idiv hX dX18_findWays_26 (by decide) ?_
      obtain ⟨_, gi, h⟩ := zb_some h
      obtain ⟨r2, g, h⟩ := zb_some h
      refine zc_Vi (as := [.int (i2 - i2 / (24 : Int32) * (24 : Int32)), .int (i2 / (24 : Int32))]) hX gi (zt_X18_isOutside (d := d - 1) (by omega) g) zl_X18_645 rfl dX18_findWays_27 ⟨rfl, rfl, Nat.le_of_ble_eq_true rfl⟩ ⟨by omega, by omega⟩ ?_
      refine zw_if_ne (tgt := 106) hX dX18_findWays_30 (by decide) (fun c30 => ?_) (fun c30 => ?_)
      · rw [if_neg c30] at h
        refine zw_sub (lv' := [(0, .ref a0), (1, .int i1), (2, .int i2)]) (List.forall_mem_cons.mpr ⟨rfl, (List.forall_mem_cons.mpr ⟨rfl, (List.forall_mem_cons.mpr ⟨rfl, zs_nil⟩)⟩)⟩) ?_
        exact hk  _ (Option.some.inj h).symm
      · rw [if_pos c30] at h
        refine zw_aload_n hX dX18_findWays_33 rfl ?_
        refine zw_iload_n hX dX18_findWays_34 rfl ?_
        refine zw_bipush (v := (24 : Int32)) hX dX18_findWays_35 (by decide) ?_
        refine zw_irem hX dX18_findWays_37 (by decide) ?_
        refine zw_iload_n hX dX18_findWays_38 rfl ?_
        obtain ⟨r4, g, h⟩ := zb_some h
        refine zc_Si (as := [.int (i2 - i2 / (24 : Int32) * (24 : Int32)), .int i3]) hX (zt_X18_nextX (d := d - 1) (by omega) g) zl_X18_648 dX18_findWays_39 ⟨rfl, rfl, Nat.le_of_ble_eq_true rfl⟩ ⟨by omega, by omega⟩ ?_
        refine zw_iload_n hX dX18_findWays_42 rfl ?_
        refine zw_bipush (v := (24 : Int32)) hX dX18_findWays_43 (by decide) ?_
        refine zw_idiv hX dX18_findWays_45 (by decide) ?_
        refine zw_iload_n hX dX18_findWays_46 rfl ?_
        obtain ⟨r6, g, h⟩ := zb_some h
        refine zc_Si (as := [.int (i2 / (24 : Int32)), .int i3]) hX (zt_X18_nextY (d := d - 1) (by omega) g) zl_X18_651 dX18_findWays_47 ⟨rfl, rfl, Nat.le_of_ble_eq_true rfl⟩ ⟨by omega, by omega⟩ ?_
        obtain ⟨_, gi, h⟩ := zb_some h
        obtain ⟨r8, g, h⟩ := zb_some h
        refine zc_Vi (as := [.int r4.1, .int r6.1]) hX gi (zt_X18_isOutside (d := d - 1) (by omega) g) zl_X18_645 rfl dX18_findWays_50 ⟨rfl, rfl, Nat.le_of_ble_eq_true rfl⟩ ⟨by omega, by omega⟩ ?_
        refine zw_if_eq (tgt := 76) hX dX18_findWays_53 (by decide) (fun c53 => ?_) (fun c53 => ?_)
        · rw [if_pos c53] at h
          refine zw_sub (lv' := [(0, .ref a0), (1, .int i1), (2, .int i2), (3, .int i3)]) (List.forall_mem_cons.mpr ⟨rfl, (List.forall_mem_cons.mpr ⟨rfl, (List.forall_mem_cons.mpr ⟨rfl, (List.forall_mem_cons.mpr ⟨rfl, zs_nil⟩)⟩)⟩)⟩) ?_
          exact zt_X18_findWays_J76 hX hr hR hd hf hk ih h
        · rw [if_neg c53] at h
          refine zw_aload_n hX dX18_findWays_56 rfl ?_
          refine zw_iload_n hX dX18_findWays_57 rfl ?_
          refine zw_bipush (v := (24 : Int32)) hX dX18_findWays_58 (by decide) ?_
          refine zw_irem hX dX18_findWays_60 (by decide) ?_
          refine zw_iload_n hX dX18_findWays_61 rfl ?_
          refine zw_bipush (v := (24 : Int32)) hX dX18_findWays_62 (by decide) ?_
          refine zw_idiv hX dX18_findWays_64 (by decide) ?_
          refine zw_iload_n hX dX18_findWays_65 rfl ?_
          obtain ⟨_, gi, h⟩ := zb_some h
          obtain ⟨r15, g, h⟩ := zb_some h
          refine zc_Vi (as := [.int (i2 - i2 / (24 : Int32) * (24 : Int32)), .int (i2 / (24 : Int32)), .int i3]) hX gi (zt_X18_passes (d := d - 1) (by omega) g) zl_X18_654 rfl dX18_findWays_66 ⟨rfl, rfl, Nat.le_of_ble_eq_true rfl⟩ ⟨by omega, by omega⟩ ?_
          refine zw_if_eq (tgt := 76) hX dX18_findWays_69 (by decide) (fun c69 => ?_) (fun c69 => ?_)
          · rw [if_pos c69] at h
            refine zw_sub (lv' := [(0, .ref a0), (1, .int i1), (2, .int i2), (3, .int i3)]) (List.forall_mem_cons.mpr ⟨rfl, (List.forall_mem_cons.mpr ⟨rfl, (List.forall_mem_cons.mpr ⟨rfl, (List.forall_mem_cons.mpr ⟨rfl, zs_nil⟩)⟩)⟩)⟩) ?_
            exact zt_X18_findWays_J76 hX hr hR hd hf hk ih h
          · rw [if_neg c69] at h
            refine zw_iconst (v := (1 : Int32)) hX dX18_findWays_72 (by decide) ?_
            refine zw_goto (tgt := 77) hX dX18_findWays_73 (by decide) ?_
            refine zw_sub (lv' := [(0, .ref a0), (1, .int i1), (2, .int i2), (3, .int i3)]) (List.forall_mem_cons.mpr ⟨rfl, (List.forall_mem_cons.mpr ⟨rfl, (List.forall_mem_cons.mpr ⟨rfl, (List.forall_mem_cons.mpr ⟨rfl, zs_nil⟩)⟩)⟩)⟩) ?_
            exact zt_X18_findWays_J77 hX hr hR hd hf hk ih h
set_option maxHeartbeats 4000000 in
set_option maxRecDepth 100000 in
theorem zt_X18_findWays_L4 {p : Program} {l : Launch} {e : Env} {R : Room} {s : State} {m : MethodId} {args : Array Value} {below : List Frame} {meth : Method} {c : Code} {V : zm_V} {mc ms d rc rs : Nat} (hX : zm_X p R s m args meth c RX18 "findWays" cX18_findWays 7 zk_E V mc ms) (hr : meth.sig.returnType = none) (hR : R.frames = d ∧ R.locals = 64 * d) (hd : 4 ≤ d) {N : Nat} {res : (Unit × zm_S) ⊕ ((Unit) × zm_S)} {out : (Unit × zm_S)} (a0 : Nat) (i1 : Int32) (hf : ∀ o, res = .inl o → o = out) (hk : ∀ (S' : zm_S), res = .inr ((), S') → zw p l e R s m args below meth c (vx_MQ below (zm_Qc zk_E V (zo_v out)) (zm_XC zk_E V zo_x) args s mc ms (fun q => V.2.2.2.1 ≤ q)) 7 zk_E V mc ms 112 [(0, .ref a0), (1, .int i1)] [] S' rc rs) : ∀ (n : Nat) (i2 : Int32) (S : zm_S), zf_X18_findWays_L4 N n a0 i1 i2 S = some res → zw p l e R s m args below meth c (vx_MQ below (zm_Qc zk_E V (zo_v out)) (zm_XC zk_E V zo_x) args s mc ms (fun q => V.2.2.2.1 ≤ q)) 7 zk_E V mc ms 4 [(0, .ref a0), (1, .int i1), (2, .int i2)] [] S rc rs := by
  intro n
  induction n with
  | zero => intro i2 S h; cases h
  | succ n ih =>
    intro i2 S h
    rw [zf_X18_findWays_L4] at h
    refine zw_iload_n hX dX18_findWays_4 rfl ?_
    refine zw_sipush (v := (576 : Int32)) hX dX18_findWays_5 (by decide) ?_
    refine zw_icmp_ge (tgt := 112) hX dX18_findWays_8 (by decide) (fun c8 => ?_) (fun c8 => ?_)
    · rw [if_pos c8] at h
      refine zw_sub (lv' := [(0, .ref a0), (1, .int i1)]) (List.forall_mem_cons.mpr ⟨rfl, (List.forall_mem_cons.mpr ⟨rfl, zs_nil⟩)⟩) ?_
      exact hk  _ (Option.some.inj h).symm
    · rw [if_neg c8] at h
      refine zw_iconst (v := (0 : Int32)) hX dX18_findWays_11 (by decide) ?_
      refine zw_istore_n hX dX18_findWays_12 (by decide) ?_
      obtain ⟨r, g, h⟩ := zb_some h
      refine zw_sub (lv' := [(0, .ref a0), (1, .int i1), (2, .int i2), (3, .int (0 : Int32))]) (List.forall_mem_cons.mpr ⟨rfl, (List.forall_mem_cons.mpr ⟨rfl, (List.forall_mem_cons.mpr ⟨rfl, (List.forall_mem_cons.mpr ⟨rfl, zs_nil⟩)⟩)⟩)⟩) ?_
      refine zt_X18_findWays_L13 hX hr hR hd (res := r) (out := out) a0 i1 i2 ?_ ?_ N _ _ g
      · intro o ho
        subst ho
        exact hf _ (Option.some.inj h).symm
      · intro  S16 hx
        subst hx
        try dsimp only at h
        refine zw_iinc (v := (i2 + (1 : Int32))) hX dX18_findWays_106 rfl rfl (by decide) ?_
        refine zw_goto (tgt := 4) hX dX18_findWays_109 (by decide) ?_
        refine zw_sub (lv' := [(0, .ref a0), (1, .int i1), (2, .int (i2 + (1 : Int32)))]) (List.forall_mem_cons.mpr ⟨rfl, (List.forall_mem_cons.mpr ⟨rfl, (List.forall_mem_cons.mpr ⟨rfl, zs_nil⟩)⟩)⟩) ?_
        exact ih _ _ h
set_option maxHeartbeats 4000000 in
set_option maxRecDepth 100000 in
theorem zt_X18_findWays_J242 {p : Program} {l : Launch} {e : Env} {R : Room} {s : State} {m : MethodId} {args : Array Value} {below : List Frame} {meth : Method} {c : Code} {V : zm_V} {mc ms d rc rs : Nat} (hX : zm_X p R s m args meth c RX18 "findWays" cX18_findWays 7 zk_E V mc ms) (hr : meth.sig.returnType = none) (hR : R.frames = d ∧ R.locals = 64 * d) (hd : 4 ≤ d) {N : Nat} {k : Nat → Int32 → Int32 → Int32 → zm_S → Option ((Unit × zm_S) ⊕ ((Int32) × zm_S))} {a0 : Nat} {i2 : Int32} {i3 : Int32} {i6 : Int32} {res : (Unit × zm_S) ⊕ ((Int32) × zm_S)} {out : (Unit × zm_S)}   (hf : ∀ o, res = .inl o → o = out) (hk : ∀ (x1 : Int32) (S' : zm_S), res = .inr (x1, S') → zw p l e R s m args below meth c (vx_MQ below (zm_Qc zk_E V (zo_v out)) (zm_XC zk_E V zo_x) args s mc ms (fun q => V.2.2.2.1 ≤ q)) 7 zk_E V mc ms 260 [(0, .ref a0), (1, .int x1), (2, .int i2)] [] S' rc rs) (hrec : ∀ (i1' : Int32) (i3' : Int32) (S : zm_S), k a0 i1' i2 i3' S = some res → zw p l e R s m args below meth c (vx_MQ below (zm_Qc zk_E V (zo_v out)) (zm_XC zk_E V zo_x) args s mc ms (fun q => V.2.2.2.1 ≤ q)) 7 zk_E V mc ms 129 [(0, .ref a0), (1, .int i1'), (2, .int i2), (3, .int i3')] [] S rc rs) {S : zm_S} (h : zf_X18_findWays_J242 N k a0 i2 i3 i6 S = some res) : zw p l e R s m args below meth c (vx_MQ below (zm_Qc zk_E V (zo_v out)) (zm_XC zk_E V zo_x) args s mc ms (fun q => V.2.2.2.1 ≤ q)) 7 zk_E V mc ms 242 [(0, .ref a0), (2, .int i2), (3, .int i3), (6, .int i6)] [] S rc rs := by
  unfold zf_X18_findWays_J242 at h
  refine zw_aload_n hX dX18_findWays_242 rfl ?_
  obtain ⟨b28, g, h⟩ := zb_some h
  refine zw_getr hX zl_X18_172 dX18_findWays_243 g ?_
  refine zw_iload_n hX dX18_findWays_246 rfl ?_
  refine zw_iload hX dX18_findWays_247 rfl ?_
  refine zw_iconst (v := (1 : Int32)) hX dX18_findWays_249 (by decide) ?_
  refine zw_iadd hX dX18_findWays_250 ?_
  obtain ⟨S29, g, h⟩ := zb_some h
  refine zw_si hX dX18_findWays_251 g ?_
  refine zw_iconst (v := (1 : Int32)) hX dX18_findWays_252 (by decide) ?_
  refine zw_istore_n hX dX18_findWays_253 (by decide) ?_
  refine zw_iinc (v := (i3 + (1 : Int32))) hX dX18_findWays_254 rfl rfl (by decide) ?_
  refine zw_goto (tgt := 129) hX dX18_findWays_257 (by decide) ?_
  refine zw_sub (lv' := [(0, .ref a0), (1, .int (1 : Int32)), (2, .int i2), (3, .int (i3 + (1 : Int32)))]) (List.forall_mem_cons.mpr ⟨rfl, (List.forall_mem_cons.mpr ⟨rfl, (List.forall_mem_cons.mpr ⟨rfl, (List.forall_mem_cons.mpr ⟨rfl, zs_nil⟩)⟩)⟩)⟩) ?_
  exact hrec _ _ _ h
set_option maxHeartbeats 4000000 in
set_option maxRecDepth 100000 in
theorem zt_X18_findWays_J213 {p : Program} {l : Launch} {e : Env} {R : Room} {s : State} {m : MethodId} {args : Array Value} {below : List Frame} {meth : Method} {c : Code} {V : zm_V} {mc ms d rc rs : Nat} (hX : zm_X p R s m args meth c RX18 "findWays" cX18_findWays 7 zk_E V mc ms) (hr : meth.sig.returnType = none) (hR : R.frames = d ∧ R.locals = 64 * d) (hd : 4 ≤ d) {N : Nat} {k : Nat → Int32 → Int32 → Int32 → zm_S → Option ((Unit × zm_S) ⊕ ((Int32) × zm_S))} {a0 : Nat} {i1 : Int32} {i2 : Int32} {i3 : Int32} {t0 : Int32} {res : (Unit × zm_S) ⊕ ((Int32) × zm_S)} {out : (Unit × zm_S)}   (hf : ∀ o, res = .inl o → o = out) (hk : ∀ (x1 : Int32) (S' : zm_S), res = .inr (x1, S') → zw p l e R s m args below meth c (vx_MQ below (zm_Qc zk_E V (zo_v out)) (zm_XC zk_E V zo_x) args s mc ms (fun q => V.2.2.2.1 ≤ q)) 7 zk_E V mc ms 260 [(0, .ref a0), (1, .int x1), (2, .int i2)] [] S' rc rs) (hrec : ∀ (i1' : Int32) (i3' : Int32) (S : zm_S), k a0 i1' i2 i3' S = some res → zw p l e R s m args below meth c (vx_MQ below (zm_Qc zk_E V (zo_v out)) (zm_XC zk_E V zo_x) args s mc ms (fun q => V.2.2.2.1 ≤ q)) 7 zk_E V mc ms 129 [(0, .ref a0), (1, .int i1'), (2, .int i2), (3, .int i3')] [] S rc rs) {S : zm_S} (h : zf_X18_findWays_J213 N k a0 i1 i2 i3 t0 S = some res) : zw p l e R s m args below meth c (vx_MQ below (zm_Qc zk_E V (zo_v out)) (zm_XC zk_E V zo_x) args s mc ms (fun q => V.2.2.2.1 ≤ q)) 7 zk_E V mc ms 213 [(0, .ref a0), (1, .int i1), (2, .int i2), (3, .int i3)] [.int t0] S rc rs := by
  unfold zf_X18_findWays_J213 at h
  refine zw_istore hX dX18_findWays_213 (by decide) ?_
  refine zw_iload hX dX18_findWays_215 rfl ?_
  refine zw_if_le (tgt := 254) hX dX18_findWays_217 (by decide) (fun c217 => ?_) (fun c217 => ?_)
  · rw [if_pos c217] at h
    refine zw_iinc (v := (i3 + (1 : Int32))) hX dX18_findWays_254 rfl rfl (by decide) ?_
    refine zw_goto (tgt := 129) hX dX18_findWays_257 (by decide) ?_
    refine zw_sub (lv' := [(0, .ref a0), (1, .int i1), (2, .int i2), (3, .int (i3 + (1 : Int32)))]) (List.forall_mem_cons.mpr ⟨rfl, (List.forall_mem_cons.mpr ⟨rfl, (List.forall_mem_cons.mpr ⟨rfl, (List.forall_mem_cons.mpr ⟨rfl, zs_nil⟩)⟩)⟩)⟩) ?_
    exact hrec _ _ _ h
  · rw [if_neg c217] at h
    refine zw_aload_n hX dX18_findWays_220 rfl ?_
    obtain ⟨b26, g, h⟩ := zb_some h
    refine zw_getr hX zl_X18_172 dX18_findWays_221 g ?_
    refine zw_iload_n hX dX18_findWays_224 rfl ?_
    obtain ⟨v27, g, h⟩ := zb_some h
    refine zw_xi hX dX18_findWays_225 g ?_
    refine zw_if_eq (tgt := 242) hX dX18_findWays_226 (by decide) (fun c226 => ?_) (fun c226 => ?_)
    · rw [if_pos c226] at h
      refine zw_sub (lv' := [(0, .ref a0), (2, .int i2), (3, .int i3), (6, .int t0)]) (List.forall_mem_cons.mpr ⟨rfl, (List.forall_mem_cons.mpr ⟨rfl, (List.forall_mem_cons.mpr ⟨rfl, (List.forall_mem_cons.mpr ⟨rfl, zs_nil⟩)⟩)⟩)⟩) ?_
      exact zt_X18_findWays_J242 hX hr hR hd hf hk hrec h
    · rw [if_neg c226] at h
      refine zw_aload_n hX dX18_findWays_229 rfl ?_
      obtain ⟨b30, g, h⟩ := zb_some h
      refine zw_getr hX zl_X18_172 dX18_findWays_230 g ?_
      refine zw_iload_n hX dX18_findWays_233 rfl ?_
      obtain ⟨v31, g, h⟩ := zb_some h
      refine zw_xi hX dX18_findWays_234 g ?_
      refine zw_iload hX dX18_findWays_235 rfl ?_
      refine zw_iconst (v := (1 : Int32)) hX dX18_findWays_237 (by decide) ?_
      refine zw_iadd hX dX18_findWays_238 ?_
      refine zw_icmp_le (tgt := 254) hX dX18_findWays_239 (by decide) (fun c239 => ?_) (fun c239 => ?_)
      · rw [if_pos c239] at h
        refine zw_iinc (v := (i3 + (1 : Int32))) hX dX18_findWays_254 rfl rfl (by decide) ?_
        refine zw_goto (tgt := 129) hX dX18_findWays_257 (by decide) ?_
        refine zw_sub (lv' := [(0, .ref a0), (1, .int i1), (2, .int i2), (3, .int (i3 + (1 : Int32)))]) (List.forall_mem_cons.mpr ⟨rfl, (List.forall_mem_cons.mpr ⟨rfl, (List.forall_mem_cons.mpr ⟨rfl, (List.forall_mem_cons.mpr ⟨rfl, zs_nil⟩)⟩)⟩)⟩) ?_
        exact hrec _ _ _ h
      · rw [if_neg c239] at h
        refine zw_sub (lv' := [(0, .ref a0), (2, .int i2), (3, .int i3), (6, .int t0)]) (List.forall_mem_cons.mpr ⟨rfl, (List.forall_mem_cons.mpr ⟨rfl, (List.forall_mem_cons.mpr ⟨rfl, (List.forall_mem_cons.mpr ⟨rfl, zs_nil⟩)⟩)⟩)⟩) ?_
        exact zt_X18_findWays_J242 hX hr hR hd hf hk hrec h
set_option maxHeartbeats 4000000 in
set_option maxRecDepth 100000 in
theorem zt_X18_findWays_J196 {p : Program} {l : Launch} {e : Env} {R : Room} {s : State} {m : MethodId} {args : Array Value} {below : List Frame} {meth : Method} {c : Code} {V : zm_V} {mc ms d rc rs : Nat} (hX : zm_X p R s m args meth c RX18 "findWays" cX18_findWays 7 zk_E V mc ms) (hr : meth.sig.returnType = none) (hR : R.frames = d ∧ R.locals = 64 * d) (hd : 4 ≤ d) {N : Nat} {k : Nat → Int32 → Int32 → Int32 → zm_S → Option ((Unit × zm_S) ⊕ ((Int32) × zm_S))} {a0 : Nat} {i1 : Int32} {i2 : Int32} {i3 : Int32} {res : (Unit × zm_S) ⊕ ((Int32) × zm_S)} {out : (Unit × zm_S)}   (hf : ∀ o, res = .inl o → o = out) (hk : ∀ (x1 : Int32) (S' : zm_S), res = .inr (x1, S') → zw p l e R s m args below meth c (vx_MQ below (zm_Qc zk_E V (zo_v out)) (zm_XC zk_E V zo_x) args s mc ms (fun q => V.2.2.2.1 ≤ q)) 7 zk_E V mc ms 260 [(0, .ref a0), (1, .int x1), (2, .int i2)] [] S' rc rs) (hrec : ∀ (i1' : Int32) (i3' : Int32) (S : zm_S), k a0 i1' i2 i3' S = some res → zw p l e R s m args below meth c (vx_MQ below (zm_Qc zk_E V (zo_v out)) (zm_XC zk_E V zo_x) args s mc ms (fun q => V.2.2.2.1 ≤ q)) 7 zk_E V mc ms 129 [(0, .ref a0), (1, .int i1'), (2, .int i2), (3, .int i3')] [] S rc rs) {S : zm_S} (h : zf_X18_findWays_J196 N k a0 i1 i2 i3 S = some res) : zw p l e R s m args below meth c (vx_MQ below (zm_Qc zk_E V (zo_v out)) (zm_XC zk_E V zo_x) args s mc ms (fun q => V.2.2.2.1 ≤ q)) 7 zk_E V mc ms 196 [(0, .ref a0), (1, .int i1), (2, .int i2), (3, .int i3)] [] S rc rs := by
  unfold zf_X18_findWays_J196 at h
  refine zw_iconst (v := (0 : Int32)) hX dX18_findWays_196 (by decide) ?_
  refine zw_goto (tgt := 213) hX dX18_findWays_197 (by decide) ?_
  refine zw_sub (lv' := [(0, .ref a0), (1, .int i1), (2, .int i2), (3, .int i3)]) (List.forall_mem_cons.mpr ⟨rfl, (List.forall_mem_cons.mpr ⟨rfl, (List.forall_mem_cons.mpr ⟨rfl, (List.forall_mem_cons.mpr ⟨rfl, zs_nil⟩)⟩)⟩)⟩) ?_
  exact zt_X18_findWays_J213 hX hr hR hd hf hk hrec h
set_option maxHeartbeats 4000000 in
set_option maxRecDepth 100000 in
theorem zt_X18_findWays_L129 {p : Program} {l : Launch} {e : Env} {R : Room} {s : State} {m : MethodId} {args : Array Value} {below : List Frame} {meth : Method} {c : Code} {V : zm_V} {mc ms d rc rs : Nat} (hX : zm_X p R s m args meth c RX18 "findWays" cX18_findWays 7 zk_E V mc ms) (hr : meth.sig.returnType = none) (hR : R.frames = d ∧ R.locals = 64 * d) (hd : 4 ≤ d) {N : Nat} {res : (Unit × zm_S) ⊕ ((Int32) × zm_S)} {out : (Unit × zm_S)} (a0 : Nat) (i2 : Int32) (hf : ∀ o, res = .inl o → o = out) (hk : ∀ (x1 : Int32) (S' : zm_S), res = .inr (x1, S') → zw p l e R s m args below meth c (vx_MQ below (zm_Qc zk_E V (zo_v out)) (zm_XC zk_E V zo_x) args s mc ms (fun q => V.2.2.2.1 ≤ q)) 7 zk_E V mc ms 260 [(0, .ref a0), (1, .int x1), (2, .int i2)] [] S' rc rs) : ∀ (n : Nat) (i1 : Int32) (i3 : Int32) (S : zm_S), zf_X18_findWays_L129 N n a0 i1 i2 i3 S = some res → zw p l e R s m args below meth c (vx_MQ below (zm_Qc zk_E V (zo_v out)) (zm_XC zk_E V zo_x) args s mc ms (fun q => V.2.2.2.1 ≤ q)) 7 zk_E V mc ms 129 [(0, .ref a0), (1, .int i1), (2, .int i2), (3, .int i3)] [] S rc rs := by
  intro n
  induction n with
  | zero => intro i1 i3 S h; cases h
  | succ n ih =>
    intro i1 i3 S h
    rw [zf_X18_findWays_L129] at h
    refine zw_iload_n hX dX18_findWays_129 rfl ?_
    refine zw_iconst (v := (4 : Int32)) hX dX18_findWays_130 (by decide) ?_
    refine zw_icmp_ge (tgt := 260) hX dX18_findWays_131 (by decide) (fun c131 => ?_) (fun c131 => ?_)
    · rw [if_pos c131] at h
      refine zw_sub (lv' := [(0, .ref a0), (1, .int i1), (2, .int i2)]) (List.forall_mem_cons.mpr ⟨rfl, (List.forall_mem_cons.mpr ⟨rfl, (List.forall_mem_cons.mpr ⟨rfl, zs_nil⟩)⟩)⟩) ?_
      exact hk _ _ (Option.some.inj h).symm
    · rw [if_neg c131] at h
      refine zw_aload_n hX dX18_findWays_134 rfl ?_
      refine zw_iload_n hX dX18_findWays_135 rfl ?_
      refine zw_bipush (v := (24 : Int32)) hX dX18_findWays_136 (by decide) ?_
      refine zw_irem hX dX18_findWays_138 (by decide) ?_
      refine zw_iload_n hX dX18_findWays_139 rfl ?_
      refine zw_bipush (v := (24 : Int32)) hX dX18_findWays_140 (by decide) ?_
      refine zw_idiv hX dX18_findWays_142 (by decide) ?_
      obtain ⟨_, gi, h⟩ := zb_some h
      obtain ⟨r19, g, h⟩ := zb_some h
      refine zc_Vi (as := [.int (i2 - i2 / (24 : Int32) * (24 : Int32)), .int (i2 / (24 : Int32))]) hX gi (zt_X18_isOutside (d := d - 1) (by omega) g) zl_X18_645 rfl dX18_findWays_143 ⟨rfl, rfl, Nat.le_of_ble_eq_true rfl⟩ ⟨by omega, by omega⟩ ?_
      refine zw_if_ne (tgt := 260) hX dX18_findWays_146 (by decide) (fun c146 => ?_) (fun c146 => ?_)
      · rw [if_neg c146] at h
        refine zw_sub (lv' := [(0, .ref a0), (1, .int i1), (2, .int i2)]) (List.forall_mem_cons.mpr ⟨rfl, (List.forall_mem_cons.mpr ⟨rfl, (List.forall_mem_cons.mpr ⟨rfl, zs_nil⟩)⟩)⟩) ?_
        exact hk _ _ (Option.some.inj h).symm
      · rw [if_pos c146] at h
        refine zw_iload_n hX dX18_findWays_149 rfl ?_
        refine zw_bipush (v := (24 : Int32)) hX dX18_findWays_150 (by decide) ?_
        refine zw_irem hX dX18_findWays_152 (by decide) ?_
        refine zw_iload_n hX dX18_findWays_153 rfl ?_
        obtain ⟨r21, g, h⟩ := zb_some h
        refine zc_Si (as := [.int (i2 - i2 / (24 : Int32) * (24 : Int32)), .int i3]) hX (zt_X18_nextX (d := d - 1) (by omega) g) zl_X18_648 dX18_findWays_154 ⟨rfl, rfl, Nat.le_of_ble_eq_true rfl⟩ ⟨by omega, by omega⟩ ?_
        refine zw_istore hX dX18_findWays_157 (by decide) ?_
        refine zw_iload_n hX dX18_findWays_159 rfl ?_
        refine zw_bipush (v := (24 : Int32)) hX dX18_findWays_160 (by decide) ?_
        refine zw_idiv hX dX18_findWays_162 (by decide) ?_
        refine zw_iload_n hX dX18_findWays_163 rfl ?_
        obtain ⟨r23, g, h⟩ := zb_some h
        refine zc_Si (as := [.int (i2 / (24 : Int32)), .int i3]) hX (zt_X18_nextY (d := d - 1) (by omega) g) zl_X18_651 dX18_findWays_164 ⟨rfl, rfl, Nat.le_of_ble_eq_true rfl⟩ ⟨by omega, by omega⟩ ?_
        refine zw_istore hX dX18_findWays_167 (by decide) ?_
        refine zw_aload_n hX dX18_findWays_169 rfl ?_
        refine zw_iload hX dX18_findWays_170 rfl ?_
        refine zw_iload hX dX18_findWays_172 rfl ?_
        obtain ⟨_, gi, h⟩ := zb_some h
        obtain ⟨r25, g, h⟩ := zb_some h
        refine zc_Vi (as := [.int r21.1, .int r23.1]) hX gi (zt_X18_isOutside (d := d - 1) (by omega) g) zl_X18_645 rfl dX18_findWays_174 ⟨rfl, rfl, Nat.le_of_ble_eq_true rfl⟩ ⟨by omega, by omega⟩ ?_
        refine zw_if_ne (tgt := 196) hX dX18_findWays_177 (by decide) (fun c177 => ?_) (fun c177 => ?_)
        · rw [if_neg c177] at h
          refine zw_sub (lv' := [(0, .ref a0), (1, .int i1), (2, .int i2), (3, .int i3)]) (List.forall_mem_cons.mpr ⟨rfl, (List.forall_mem_cons.mpr ⟨rfl, (List.forall_mem_cons.mpr ⟨rfl, (List.forall_mem_cons.mpr ⟨rfl, zs_nil⟩)⟩)⟩)⟩) ?_
          exact zt_X18_findWays_J196 hX hr hR hd hf hk ih h
        · rw [if_pos c177] at h
          refine zw_aload_n hX dX18_findWays_180 rfl ?_
          refine zw_iload_n hX dX18_findWays_181 rfl ?_
          refine zw_bipush (v := (24 : Int32)) hX dX18_findWays_182 (by decide) ?_
          refine zw_irem hX dX18_findWays_184 (by decide) ?_
          refine zw_iload_n hX dX18_findWays_185 rfl ?_
          refine zw_bipush (v := (24 : Int32)) hX dX18_findWays_186 (by decide) ?_
          refine zw_idiv hX dX18_findWays_188 (by decide) ?_
          refine zw_iload_n hX dX18_findWays_189 rfl ?_
          obtain ⟨_, gi, h⟩ := zb_some h
          obtain ⟨r33, g, h⟩ := zb_some h
          refine zc_Vi (as := [.int (i2 - i2 / (24 : Int32) * (24 : Int32)), .int (i2 / (24 : Int32)), .int i3]) hX gi (zt_X18_passes (d := d - 1) (by omega) g) zl_X18_654 rfl dX18_findWays_190 ⟨rfl, rfl, Nat.le_of_ble_eq_true rfl⟩ ⟨by omega, by omega⟩ ?_
          refine zw_if_ne (tgt := 200) hX dX18_findWays_193 (by decide) (fun c193 => ?_) (fun c193 => ?_)
          · rw [if_neg c193] at h
            refine zw_aload_n hX dX18_findWays_200 rfl ?_
            obtain ⟨b34, g, h⟩ := zb_some h
            refine zw_getr hX zl_X18_172 dX18_findWays_201 g ?_
            refine zw_bipush (v := (24 : Int32)) hX dX18_findWays_204 (by decide) ?_
            refine zw_iload hX dX18_findWays_206 rfl ?_
            refine zw_imul hX dX18_findWays_208 ?_
            refine zw_iload hX dX18_findWays_209 rfl ?_
            refine zw_iadd hX dX18_findWays_211 ?_
            obtain ⟨v35, g, h⟩ := zb_some h
            refine zw_xi hX dX18_findWays_212 g ?_
            refine zw_sub (lv' := [(0, .ref a0), (1, .int i1), (2, .int i2), (3, .int i3)]) (List.forall_mem_cons.mpr ⟨rfl, (List.forall_mem_cons.mpr ⟨rfl, (List.forall_mem_cons.mpr ⟨rfl, (List.forall_mem_cons.mpr ⟨rfl, zs_nil⟩)⟩)⟩)⟩) ?_
            exact zt_X18_findWays_J213 hX hr hR hd hf hk ih h
          · rw [if_pos c193] at h
            refine zw_sub (lv' := [(0, .ref a0), (1, .int i1), (2, .int i2), (3, .int i3)]) (List.forall_mem_cons.mpr ⟨rfl, (List.forall_mem_cons.mpr ⟨rfl, (List.forall_mem_cons.mpr ⟨rfl, (List.forall_mem_cons.mpr ⟨rfl, zs_nil⟩)⟩)⟩)⟩) ?_
            exact zt_X18_findWays_J196 hX hr hR hd hf hk ih h
set_option maxHeartbeats 4000000 in
set_option maxRecDepth 100000 in
theorem zt_X18_findWays_L120 {p : Program} {l : Launch} {e : Env} {R : Room} {s : State} {m : MethodId} {args : Array Value} {below : List Frame} {meth : Method} {c : Code} {V : zm_V} {mc ms d rc rs : Nat} (hX : zm_X p R s m args meth c RX18 "findWays" cX18_findWays 7 zk_E V mc ms) (hr : meth.sig.returnType = none) (hR : R.frames = d ∧ R.locals = 64 * d) (hd : 4 ≤ d) {N : Nat} {res : (Unit × zm_S) ⊕ ((Int32) × zm_S)} {out : (Unit × zm_S)} (a0 : Nat) (hf : ∀ o, res = .inl o → o = out) (hk : ∀ (x1 : Int32) (S' : zm_S), res = .inr (x1, S') → zw p l e R s m args below meth c (vx_MQ below (zm_Qc zk_E V (zo_v out)) (zm_XC zk_E V zo_x) args s mc ms (fun q => V.2.2.2.1 ≤ q)) 7 zk_E V mc ms 266 [(0, .ref a0), (1, .int x1)] [] S' rc rs) : ∀ (n : Nat) (i1 : Int32) (i2 : Int32) (S : zm_S), zf_X18_findWays_L120 N n a0 i1 i2 S = some res → zw p l e R s m args below meth c (vx_MQ below (zm_Qc zk_E V (zo_v out)) (zm_XC zk_E V zo_x) args s mc ms (fun q => V.2.2.2.1 ≤ q)) 7 zk_E V mc ms 120 [(0, .ref a0), (1, .int i1), (2, .int i2)] [] S rc rs := by
  intro n
  induction n with
  | zero => intro i1 i2 S h; cases h
  | succ n ih =>
    intro i1 i2 S h
    rw [zf_X18_findWays_L120] at h
    refine zw_iload_n hX dX18_findWays_120 rfl ?_
    refine zw_sipush (v := (576 : Int32)) hX dX18_findWays_121 (by decide) ?_
    refine zw_icmp_ge (tgt := 266) hX dX18_findWays_124 (by decide) (fun c124 => ?_) (fun c124 => ?_)
    · rw [if_pos c124] at h
      refine zw_sub (lv' := [(0, .ref a0), (1, .int i1)]) (List.forall_mem_cons.mpr ⟨rfl, (List.forall_mem_cons.mpr ⟨rfl, zs_nil⟩)⟩) ?_
      exact hk _ _ (Option.some.inj h).symm
    · rw [if_neg c124] at h
      refine zw_iconst (v := (0 : Int32)) hX dX18_findWays_127 (by decide) ?_
      refine zw_istore_n hX dX18_findWays_128 (by decide) ?_
      obtain ⟨r, g, h⟩ := zb_some h
      refine zw_sub (lv' := [(0, .ref a0), (1, .int i1), (2, .int i2), (3, .int (0 : Int32))]) (List.forall_mem_cons.mpr ⟨rfl, (List.forall_mem_cons.mpr ⟨rfl, (List.forall_mem_cons.mpr ⟨rfl, (List.forall_mem_cons.mpr ⟨rfl, zs_nil⟩)⟩)⟩)⟩) ?_
      refine zt_X18_findWays_L129 hX hr hR hd (res := r) (out := out) a0 i2 ?_ ?_ N _ _ _ g
      · intro o ho
        subst ho
        exact hf _ (Option.some.inj h).symm
      · intro v37 S36 hx
        subst hx
        try dsimp only at h
        refine zw_iinc (v := (i2 + (1 : Int32))) hX dX18_findWays_260 rfl rfl (by decide) ?_
        refine zw_goto (tgt := 120) hX dX18_findWays_263 (by decide) ?_
        refine zw_sub (lv' := [(0, .ref a0), (1, .int v37), (2, .int (i2 + (1 : Int32)))]) (List.forall_mem_cons.mpr ⟨rfl, (List.forall_mem_cons.mpr ⟨rfl, (List.forall_mem_cons.mpr ⟨rfl, zs_nil⟩)⟩)⟩) ?_
        exact ih _ _ _ h
set_option maxHeartbeats 4000000 in
set_option maxRecDepth 100000 in
theorem zt_X18_findWays_L112 {p : Program} {l : Launch} {e : Env} {R : Room} {s : State} {m : MethodId} {args : Array Value} {below : List Frame} {meth : Method} {c : Code} {V : zm_V} {mc ms d rc rs : Nat} (hX : zm_X p R s m args meth c RX18 "findWays" cX18_findWays 7 zk_E V mc ms) (hr : meth.sig.returnType = none) (hR : R.frames = d ∧ R.locals = 64 * d) (hd : 4 ≤ d) {N : Nat} {res : (Unit × zm_S) ⊕ ((Unit) × zm_S)} {out : (Unit × zm_S)} (a0 : Nat) (hf : ∀ o, res = .inl o → o = out) (hk : ∀ (S' : zm_S), res = .inr ((), S') → zw p l e R s m args below meth c (vx_MQ below (zm_Qc zk_E V (zo_v out)) (zm_XC zk_E V zo_x) args s mc ms (fun q => V.2.2.2.1 ≤ q)) 7 zk_E V mc ms 269 [] [] S' rc rs) : ∀ (n : Nat) (i1 : Int32) (S : zm_S), zf_X18_findWays_L112 N n a0 i1 S = some res → zw p l e R s m args below meth c (vx_MQ below (zm_Qc zk_E V (zo_v out)) (zm_XC zk_E V zo_x) args s mc ms (fun q => V.2.2.2.1 ≤ q)) 7 zk_E V mc ms 112 [(0, .ref a0), (1, .int i1)] [] S rc rs := by
  intro n
  induction n with
  | zero => intro i1 S h; cases h
  | succ n ih =>
    intro i1 S h
    rw [zf_X18_findWays_L112] at h
    refine zw_iload_n hX dX18_findWays_112 rfl ?_
    refine zw_if_eq (tgt := 269) hX dX18_findWays_113 (by decide) (fun c113 => ?_) (fun c113 => ?_)
    · rw [if_pos c113] at h
      refine zw_sub (lv' := []) zs_nil ?_
      exact hk  _ (Option.some.inj h).symm
    · rw [if_neg c113] at h
      refine zw_iconst (v := (0 : Int32)) hX dX18_findWays_116 (by decide) ?_
      refine zw_istore_n hX dX18_findWays_117 (by decide) ?_
      refine zw_iconst (v := (0 : Int32)) hX dX18_findWays_118 (by decide) ?_
      refine zw_istore_n hX dX18_findWays_119 (by decide) ?_
      obtain ⟨r, g, h⟩ := zb_some h
      refine zw_sub (lv' := [(0, .ref a0), (1, .int (0 : Int32)), (2, .int (0 : Int32))]) (List.forall_mem_cons.mpr ⟨rfl, (List.forall_mem_cons.mpr ⟨rfl, (List.forall_mem_cons.mpr ⟨rfl, zs_nil⟩)⟩)⟩) ?_
      refine zt_X18_findWays_L120 hX hr hR hd (res := r) (out := out) a0 ?_ ?_ N _ _ _ g
      · intro o ho
        subst ho
        exact hf _ (Option.some.inj h).symm
      · intro v39 S38 hx
        subst hx
        try dsimp only at h
        refine zw_goto (tgt := 112) hX dX18_findWays_266 (by decide) ?_
        refine zw_sub (lv' := [(0, .ref a0), (1, .int v39)]) (List.forall_mem_cons.mpr ⟨rfl, (List.forall_mem_cons.mpr ⟨rfl, zs_nil⟩)⟩) ?_
        exact ih _ _ h
set_option maxHeartbeats 4000000 in
set_option maxRecDepth 100000 in
theorem zt_X18_findWays {l : Launch} {V : zm_V} {N : Nat} {S : zm_S} {out : (Unit × zm_S)} {d : Nat} {a0 : Nat} (hd : 4 ≤ d) (h : zf_X18_findWays N a0 S = some out) : zm_Met l zk_E V yX18_findWays (.code yX18_findWays cX18_findWays 7 none) d [.ref a0] S 0 0 (zo_v out) zo_x := by
  refine zm_of (by decide +kernel) (Nat.le_of_ble_eq_true rfl) ?_
  intro p e R s m args below meth c hRR hX hr hxt
  have hR : R.frames = d ∧ R.locals = 64 * d := by rw [hRR]; exact ⟨rfl, rfl⟩
  have hX : zm_X p R s m args meth c RX18 "findWays" cX18_findWays 7 zk_E V 0 0 := hX
  unfold zf_X18_findWays at h
  refine zw_sub (lv' := [(0, .ref a0)]) (List.forall_mem_cons.mpr ⟨rfl, zs_nil⟩) ?_
  refine zw_iconst (v := (1 : Int32)) hX dX18_findWays_0 (by decide) ?_
  refine zw_istore_n hX dX18_findWays_1 (by decide) ?_
  refine zw_iconst (v := (0 : Int32)) hX dX18_findWays_2 (by decide) ?_
  refine zw_istore_n hX dX18_findWays_3 (by decide) ?_
  obtain ⟨r, g, h⟩ := zb_some h
  refine zw_sub (lv' := [(0, .ref a0), (1, .int (1 : Int32)), (2, .int (0 : Int32))]) (List.forall_mem_cons.mpr ⟨rfl, (List.forall_mem_cons.mpr ⟨rfl, (List.forall_mem_cons.mpr ⟨rfl, zs_nil⟩)⟩)⟩) ?_
  refine zt_X18_findWays_L4 hX hr hR hd (res := r) (out := out) a0 (1 : Int32) ?_ ?_ N _ _ g
  · intro o ho
    subst ho
    exact Option.some.inj h
  · intro  S17 hx
    subst hx
    try dsimp only at h
    obtain ⟨r, g, h⟩ := zb_some h
    refine zw_sub (lv' := [(0, .ref a0), (1, .int (1 : Int32))]) (List.forall_mem_cons.mpr ⟨rfl, (List.forall_mem_cons.mpr ⟨rfl, zs_nil⟩)⟩) ?_
    refine zt_X18_findWays_L112 hX hr hR hd (res := r) (out := out) a0 ?_ ?_ N _ _ g
    · intro o ho
      subst ho
      exact Option.some.inj h
    · intro  S40 hx
      subst hx
      try dsimp only at h
      obtain rfl := Option.some.inj h
      exact zw_vret hX hr dX18_findWays_269 ⟨rfl, rfl⟩
set_option maxHeartbeats 4000000 in
set_option maxRecDepth 100000 in
theorem zt_X18_build_L68 {p : Program} {l : Launch} {e : Env} {R : Room} {s : State} {m : MethodId} {args : Array Value} {below : List Frame} {meth : Method} {c : Code} {V : zm_V} {mc ms d rc rs : Nat} (hX : zm_X p R s m args meth c RX18 "build" cX18_build 4 zk_E V mc ms) (hr : meth.sig.returnType = (some .int)) (hR : R.frames = d ∧ R.locals = 64 * d) (hd : 8 ≤ d) {N : Nat} {res : (Int32 × zm_S) ⊕ ((Unit) × zm_S)} {out : (Int32 × zm_S)} (a0 : Nat) (hf : ∀ o, res = .inl o → o = out) (hk : ∀ (S' : zm_S), res = .inr ((), S') → zw p l e R s m args below meth c (vx_MQ below (zm_Qc zk_E V (zo_i out)) (zm_XC zk_E V zo_x) args s mc ms (fun q => V.2.2.2.1 ≤ q)) 4 zk_E V mc ms 115 [(0, .ref a0)] [] S' rc rs) : ∀ (n : Nat) (i3 : Int32) (S : zm_S), zf_X18_build_L68 N n a0 i3 S = some res → zw p l e R s m args below meth c (vx_MQ below (zm_Qc zk_E V (zo_i out)) (zm_XC zk_E V zo_x) args s mc ms (fun q => V.2.2.2.1 ≤ q)) 4 zk_E V mc ms 68 [(0, .ref a0), (3, .int i3)] [] S rc rs := by
  intro n
  induction n with
  | zero => intro i3 S h; cases h
  | succ n ih =>
    intro i3 S h
    rw [zf_X18_build_L68] at h
    refine zw_iload_n hX dX18_build_68 rfl ?_
    refine zw_aload_n hX dX18_build_69 rfl ?_
    obtain ⟨b9, g, h⟩ := zb_some h
    refine zw_getr hX zl_X18_21 dX18_build_70 g ?_
    obtain ⟨v10, g, h⟩ := zb_some h
    refine zw_geti hX zl_X18_321 dX18_build_73 g ?_
    refine zw_icmp_ge (tgt := 115) hX dX18_build_76 (by decide) (fun c76 => ?_) (fun c76 => ?_)
    · rw [if_pos c76] at h
      refine zw_sub (lv' := [(0, .ref a0)]) (List.forall_mem_cons.mpr ⟨rfl, zs_nil⟩) ?_
      exact hk  _ (Option.some.inj h).symm
    · rw [if_neg c76] at h
      refine zw_aload_n hX dX18_build_79 rfl ?_
      obtain ⟨b11, g, h⟩ := zb_some h
      refine zw_getr hX zl_X18_21 dX18_build_80 g ?_
      obtain ⟨b12, g, h⟩ := zb_some h
      refine zw_getr hX zl_X18_355 dX18_build_83 g ?_
      refine zw_iload_n hX dX18_build_86 rfl ?_
      obtain ⟨v13, g, h⟩ := zb_some h
      refine zw_xi hX dX18_build_87 g ?_
      refine zw_iconst (v := (1 : Int32)) hX dX18_build_88 (by decide) ?_
      refine zw_icmp_eq (tgt := 105) hX dX18_build_89 (by decide) (fun c89 => ?_) (fun c89 => ?_)
      · rw [if_pos c89] at h
        refine zw_iconst (v := (-1 : Int32)) hX dX18_build_105 (by decide) ?_
        refine zw_iload_n hX dX18_build_106 rfl ?_
        refine zw_isub hX dX18_build_107 ?_
        have hz := hf _ (Option.some.inj h).symm
        subst hz
        exact zw_iret hX hr dX18_build_108 rfl ⟨rfl, rfl⟩
      · rw [if_neg c89] at h
        refine zw_aload_n hX dX18_build_92 rfl ?_
        obtain ⟨b14, g, h⟩ := zb_some h
        refine zw_getr hX zl_X18_21 dX18_build_93 g ?_
        obtain ⟨b15, g, h⟩ := zb_some h
        refine zw_getr hX zl_X18_355 dX18_build_96 g ?_
        refine zw_iload_n hX dX18_build_99 rfl ?_
        obtain ⟨v16, g, h⟩ := zb_some h
        refine zw_xi hX dX18_build_100 g ?_
        refine zw_iconst (v := (3 : Int32)) hX dX18_build_101 (by decide) ?_
        refine zw_icmp_ne (tgt := 109) hX dX18_build_102 (by decide) (fun c102 => ?_) (fun c102 => ?_)
        · rw [if_neg c102] at h
          refine zw_iinc (v := (i3 + (1 : Int32))) hX dX18_build_109 rfl rfl (by decide) ?_
          refine zw_goto (tgt := 68) hX dX18_build_112 (by decide) ?_
          refine zw_sub (lv' := [(0, .ref a0), (3, .int (i3 + (1 : Int32)))]) (List.forall_mem_cons.mpr ⟨rfl, (List.forall_mem_cons.mpr ⟨rfl, zs_nil⟩)⟩) ?_
          exact ih _ _ h
        · rw [if_pos c102] at h
          refine zw_iconst (v := (-1 : Int32)) hX dX18_build_105 (by decide) ?_
          refine zw_iload_n hX dX18_build_106 rfl ?_
          refine zw_isub hX dX18_build_107 ?_
          have hz := hf _ (Option.some.inj h).symm
          subst hz
          exact zw_iret hX hr dX18_build_108 rfl ⟨rfl, rfl⟩
set_option maxHeartbeats 4000000 in
set_option maxRecDepth 100000 in
theorem zt_X18_build_L147 {p : Program} {l : Launch} {e : Env} {R : Room} {s : State} {m : MethodId} {args : Array Value} {below : List Frame} {meth : Method} {c : Code} {V : zm_V} {mc ms d rc rs : Nat} (hX : zm_X p R s m args meth c RX18 "build" cX18_build 4 zk_E V mc ms) (hr : meth.sig.returnType = (some .int)) (hR : R.frames = d ∧ R.locals = 64 * d) (hd : 8 ≤ d) {N : Nat} {res : (Int32 × zm_S) ⊕ ((Unit) × zm_S)} {out : (Int32 × zm_S)} (a0 : Nat) (hf : ∀ o, res = .inl o → o = out) (hk : ∀ (S' : zm_S), res = .inr ((), S') → zw p l e R s m args below meth c (vx_MQ below (zm_Qc zk_E V (zo_i out)) (zm_XC zk_E V zo_x) args s mc ms (fun q => V.2.2.2.1 ≤ q)) 4 zk_E V mc ms 181 [(0, .ref a0)] [] S' rc rs) : ∀ (n : Nat) (i3 : Int32) (S : zm_S), zf_X18_build_L147 N n a0 i3 S = some res → zw p l e R s m args below meth c (vx_MQ below (zm_Qc zk_E V (zo_i out)) (zm_XC zk_E V zo_x) args s mc ms (fun q => V.2.2.2.1 ≤ q)) 4 zk_E V mc ms 147 [(0, .ref a0), (3, .int i3)] [] S rc rs := by
  intro n
  induction n with
  | zero => intro i3 S h; cases h
  | succ n ih =>
    intro i3 S h
    rw [zf_X18_build_L147] at h
    refine zw_iload_n hX dX18_build_147 rfl ?_
    refine zw_sipush (v := (576 : Int32)) hX dX18_build_148 (by decide) ?_
    refine zw_icmp_ge (tgt := 181) hX dX18_build_151 (by decide) (fun c151 => ?_) (fun c151 => ?_)
    · rw [if_pos c151] at h
      refine zw_sub (lv' := [(0, .ref a0)]) (List.forall_mem_cons.mpr ⟨rfl, zs_nil⟩) ?_
      exact hk  _ (Option.some.inj h).symm
    · rw [if_neg c151] at h
      refine zw_aload_n hX dX18_build_154 rfl ?_
      obtain ⟨b25, g, h⟩ := zb_some h
      refine zw_getr hX zl_X18_175 dX18_build_155 g ?_
      refine zw_iload_n hX dX18_build_158 rfl ?_
      refine zw_aload_n hX dX18_build_159 rfl ?_
      obtain ⟨b26, g, h⟩ := zb_some h
      refine zw_getr hX zl_X18_12 dX18_build_160 g ?_
      refine zw_iload_n hX dX18_build_163 rfl ?_
      refine zw_bipush (v := (24 : Int32)) hX dX18_build_164 (by decide) ?_
      refine zw_irem hX dX18_build_166 (by decide) ?_
      refine zw_iload_n hX dX18_build_167 rfl ?_
      refine zw_bipush (v := (24 : Int32)) hX dX18_build_168 (by decide) ?_
      refine zw_idiv hX dX18_build_170 (by decide) ?_
      obtain ⟨_, gi, h⟩ := zb_some h
      obtain ⟨r28, g, h⟩ := zb_some h
      refine zc_Vi (as := [.int (i3 - i3 / (24 : Int32) * (24 : Int32)), .int (i3 / (24 : Int32))]) hX gi (zt_X16_at (d := d - 1) (by omega) g) zl_X18_269 rfl dX18_build_171 ⟨rfl, rfl, Nat.le_of_ble_eq_true rfl⟩ ⟨by omega, by omega⟩ ?_
      obtain ⟨S29, g, h⟩ := zb_some h
      refine zw_si hX dX18_build_174 g ?_
      refine zw_iinc (v := (i3 + (1 : Int32))) hX dX18_build_175 rfl rfl (by decide) ?_
      refine zw_goto (tgt := 147) hX dX18_build_178 (by decide) ?_
      refine zw_sub (lv' := [(0, .ref a0), (3, .int (i3 + (1 : Int32)))]) (List.forall_mem_cons.mpr ⟨rfl, (List.forall_mem_cons.mpr ⟨rfl, zs_nil⟩)⟩) ?_
      exact ih _ _ h
set_option maxHeartbeats 4000000 in
set_option maxRecDepth 100000 in
theorem zt_X18_build_J49 {p : Program} {l : Launch} {e : Env} {R : Room} {s : State} {m : MethodId} {args : Array Value} {below : List Frame} {meth : Method} {c : Code} {V : zm_V} {mc ms d rc rs : Nat} (hX : zm_X p R s m args meth c RX18 "build" cX18_build 4 zk_E V mc ms) (hr : meth.sig.returnType = (some .int)) (hR : R.frames = d ∧ R.locals = 64 * d) (hd : 8 ≤ d) {N : Nat} {a0 : Nat} {i1 : Int32} {t0 : Nat} {t1 : Int32} {t2 : Int32} {out : (Int32 × zm_S)} {S : zm_S} (h : zf_X18_build_J49 N a0 i1 t0 t1 t2 S = some out) : zw p l e R s m args below meth c (vx_MQ below (zm_Qc zk_E V (zo_i out)) (zm_XC zk_E V zo_x) args s mc ms (fun q => V.2.2.2.1 ≤ q)) 4 zk_E V mc ms 49 [(0, .ref a0), (1, .int i1)] [.int t2, .int t1, .ref t0] S rc rs := by
  unfold zf_X18_build_J49 at h
  obtain ⟨_, gi, h⟩ := zb_some h
  obtain ⟨r5, g, h⟩ := zb_some h
  refine zc_Vi (as := [.int t1, .int t2]) hX gi (zt_X18_goes (d := d - 1) (by omega) g) zl_X18_199 rfl dX18_build_49 ⟨rfl, rfl, Nat.le_of_ble_eq_true rfl⟩ ⟨by omega, by omega⟩ ?_
  refine zw_if_ne (tgt := 57) hX dX18_build_52 (by decide) (fun c52 => ?_) (fun c52 => ?_)
  · rw [if_neg c52] at h
    refine zw_aload_n hX dX18_build_57 rfl ?_
    obtain ⟨b6, g, h⟩ := zb_some h
    refine zw_getr hX zl_X18_21 dX18_build_58 g ?_
    refine zw_iload_n hX dX18_build_61 rfl ?_
    obtain ⟨_, gi, h⟩ := zb_some h
    obtain ⟨r8, g, h⟩ := zb_some h
    refine zc_Vi (as := [.int i1]) hX gi (zt_X15_run (d := d - 1) (by omega) g) zl_X18_319 rfl dX18_build_62 ⟨rfl, rfl, Nat.le_of_ble_eq_true rfl⟩ ⟨by omega, by omega⟩ ?_
    refine zw_istore_n hX dX18_build_65 (by decide) ?_
    refine zw_iconst (v := (0 : Int32)) hX dX18_build_66 (by decide) ?_
    refine zw_istore_n hX dX18_build_67 (by decide) ?_
    obtain ⟨r, g, h⟩ := zb_some h
    refine zw_sub (lv' := [(0, .ref a0), (3, .int (0 : Int32))]) (List.forall_mem_cons.mpr ⟨rfl, (List.forall_mem_cons.mpr ⟨rfl, zs_nil⟩)⟩) ?_
    refine zt_X18_build_L68 hX hr hR hd (res := r) (out := out) a0 ?_ ?_ N _ _ g
    · intro o ho
      subst ho
      exact Option.some.inj h
    · intro  S17 hx
      subst hx
      try dsimp only at h
      refine zw_aload_n hX dX18_build_115 rfl ?_
      refine zw_iconst (v := (1 : Int32)) hX dX18_build_116 (by decide) ?_
      obtain ⟨S18, g, h⟩ := zb_some h
      refine zw_putv hX zl_X18_192 zt_18_1 dX18_build_117 rfl (by decide) g ?_
      refine zw_aload_n hX dX18_build_120 rfl ?_
      refine zw_aload_n hX dX18_build_121 rfl ?_
      obtain ⟨b19, g, h⟩ := zb_some h
      refine zw_getr hX zl_X18_12 dX18_build_122 g ?_
      obtain ⟨v20, g, h⟩ := zb_some h
      refine zw_geti hX zl_X18_241 dX18_build_125 g ?_
      obtain ⟨S21, g, h⟩ := zb_some h
      refine zw_putv hX zl_X18_338 zt_18_9 dX18_build_128 rfl rfl g ?_
      refine zw_aload_n hX dX18_build_131 rfl ?_
      obtain ⟨b22, g, h⟩ := zb_some h
      refine zw_getr hX zl_X18_28 dX18_build_132 g ?_
      refine zw_aload_n hX dX18_build_135 rfl ?_
      obtain ⟨v23, g, h⟩ := zb_some h
      refine zw_geti hX zl_X18_338 dX18_build_136 g ?_
      refine zw_bipush (v := (10 : Int32)) hX dX18_build_139 (by decide) ?_
      refine zw_iadd hX dX18_build_141 ?_
      obtain ⟨S24, g, h⟩ := zb_some h
      refine zw_putv hX zl_X18_358 zt_14_0 dX18_build_142 rfl rfl g ?_
      refine zw_iconst (v := (0 : Int32)) hX dX18_build_145 (by decide) ?_
      refine zw_istore_n hX dX18_build_146 (by decide) ?_
      obtain ⟨r, g, h⟩ := zb_some h
      refine zw_sub (lv' := [(0, .ref a0), (3, .int (0 : Int32))]) (List.forall_mem_cons.mpr ⟨rfl, (List.forall_mem_cons.mpr ⟨rfl, zs_nil⟩)⟩) ?_
      refine zt_X18_build_L147 hX hr hR hd (res := r) (out := out) a0 ?_ ?_ N _ _ g
      · intro o ho
        subst ho
        exact Option.some.inj h
      · intro  S30 hx
        subst hx
        try dsimp only at h
        refine zw_aload_n hX dX18_build_181 rfl ?_
        obtain ⟨_, gi, h⟩ := zb_some h
        obtain ⟨r32, g, h⟩ := zb_some h
        refine zc_Vv (as := []) hX gi (zt_X18_findPortals (d := d - 1) (by omega) g) zl_X18_359 rfl dX18_build_182 ⟨rfl, rfl, Nat.le_of_ble_eq_true rfl⟩ ⟨by omega, by omega⟩ ?_
        refine zw_aload_n hX dX18_build_185 rfl ?_
        obtain ⟨_, gi, h⟩ := zb_some h
        obtain ⟨r34, g, h⟩ := zb_some h
        refine zc_Vv (as := []) hX gi (zt_X18_findWays (d := d - 1) (by omega) g) zl_X18_362 rfl dX18_build_186 ⟨rfl, rfl, Nat.le_of_ble_eq_true rfl⟩ ⟨by omega, by omega⟩ ?_
        refine zw_aload_n hX dX18_build_189 rfl ?_
        obtain ⟨v35, g, h⟩ := zb_some h
        refine zw_geti hX zl_X18_351 dX18_build_190 g ?_
        obtain rfl := Option.some.inj h
        exact zw_iret hX hr dX18_build_193 rfl ⟨rfl, rfl⟩
  · rw [if_pos c52] at h
    refine zw_iconst (v := (0 : Int32)) hX dX18_build_55 (by decide) ?_
    obtain rfl := Option.some.inj h
    exact zw_iret hX hr dX18_build_56 rfl ⟨rfl, rfl⟩
set_option maxHeartbeats 4000000 in
set_option maxRecDepth 100000 in
theorem zt_X18_build_J48 {p : Program} {l : Launch} {e : Env} {R : Room} {s : State} {m : MethodId} {args : Array Value} {below : List Frame} {meth : Method} {c : Code} {V : zm_V} {mc ms d rc rs : Nat} (hX : zm_X p R s m args meth c RX18 "build" cX18_build 4 zk_E V mc ms) (hr : meth.sig.returnType = (some .int)) (hR : R.frames = d ∧ R.locals = 64 * d) (hd : 8 ≤ d) {N : Nat} {a0 : Nat} {i1 : Int32} {t0 : Nat} {t1 : Int32} {out : (Int32 × zm_S)} {S : zm_S} (h : zf_X18_build_J48 N a0 i1 t0 t1 S = some out) : zw p l e R s m args below meth c (vx_MQ below (zm_Qc zk_E V (zo_i out)) (zm_XC zk_E V zo_x) args s mc ms (fun q => V.2.2.2.1 ≤ q)) 4 zk_E V mc ms 48 [(0, .ref a0), (1, .int i1)] [.int t1, .ref t0] S rc rs := by
  unfold zf_X18_build_J48 at h
  refine zw_iconst (v := (0 : Int32)) hX dX18_build_48 (by decide) ?_
  refine zw_sub (lv' := [(0, .ref a0), (1, .int i1)]) (List.forall_mem_cons.mpr ⟨rfl, (List.forall_mem_cons.mpr ⟨rfl, zs_nil⟩)⟩) ?_
  exact zt_X18_build_J49 hX hr hR hd h
set_option maxHeartbeats 4000000 in
set_option maxRecDepth 100000 in
theorem zt_X18_build {l : Launch} {V : zm_V} {N : Nat} {S : zm_S} {out : (Int32 × zm_S)} {d : Nat} {a0 : Nat} {i1 : Int32} (hd : 8 ≤ d) (h : zf_X18_build N a0 i1 S = some out) : zm_Met l zk_E V yX18_build (.code yX18_build cX18_build 4 (some .int)) d [.ref a0, .int i1] S 0 0 (zo_i out) zo_x := by
  refine zm_of (by decide +kernel) (Nat.le_of_ble_eq_true rfl) ?_
  intro p e R s m args below meth c hRR hX hr hxt
  have hR : R.frames = d ∧ R.locals = 64 * d := by rw [hRR]; exact ⟨rfl, rfl⟩
  have hX : zm_X p R s m args meth c RX18 "build" cX18_build 4 zk_E V 0 0 := hX
  unfold zf_X18_build at h
  refine zw_sub (lv' := [(0, .ref a0), (1, .int i1)]) (List.forall_mem_cons.mpr ⟨rfl, (List.forall_mem_cons.mpr ⟨rfl, zs_nil⟩)⟩) ?_
  refine zw_aload_n hX dX18_build_0 rfl ?_
  refine zw_iload_n hX dX18_build_1 rfl ?_
  obtain ⟨r2, g, h⟩ := zb_some h
  refine zc_Si (as := [.int i1]) hX (zt_X18_isDay (d := d - 1) (by omega) g) zl_X18_316 dX18_build_2 ⟨rfl, rfl, Nat.le_of_ble_eq_true rfl⟩ ⟨by omega, by omega⟩ ?_
  refine zw_aload_n hX dX18_build_5 rfl ?_
  obtain ⟨v3, g, h⟩ := zb_some h
  refine zw_geti hX zl_X18_192 dX18_build_6 g ?_
  refine zw_if_ne (tgt := 48) hX dX18_build_9 (by decide) (fun c9 => ?_) (fun c9 => ?_)
  · rw [if_neg c9] at h
    refine zw_sub (lv' := [(0, .ref a0), (1, .int i1)]) (List.forall_mem_cons.mpr ⟨rfl, (List.forall_mem_cons.mpr ⟨rfl, zs_nil⟩)⟩) ?_
    exact zt_X18_build_J48 hX hr hR hd h
  · rw [if_pos c9] at h
    refine zw_aload_n hX dX18_build_12 rfl ?_
    obtain ⟨b36, g, h⟩ := zb_some h
    refine zw_getr hX zl_X18_12 dX18_build_13 g ?_
    obtain ⟨v37, g, h⟩ := zb_some h
    refine zw_geti hX zl_X18_238 dX18_build_16 g ?_
    refine zw_if_eq (tgt := 48) hX dX18_build_19 (by decide) (fun c19 => ?_) (fun c19 => ?_)
    · rw [if_pos c19] at h
      refine zw_sub (lv' := [(0, .ref a0), (1, .int i1)]) (List.forall_mem_cons.mpr ⟨rfl, (List.forall_mem_cons.mpr ⟨rfl, zs_nil⟩)⟩) ?_
      exact zt_X18_build_J48 hX hr hR hd h
    · rw [if_neg c19] at h
      refine zw_aload_n hX dX18_build_22 rfl ?_
      obtain ⟨b38, g, h⟩ := zb_some h
      refine zw_getr hX zl_X18_12 dX18_build_23 g ?_
      obtain ⟨v39, g, h⟩ := zb_some h
      refine zw_geti hX zl_X18_241 dX18_build_26 g ?_
      refine zw_if_le (tgt := 48) hX dX18_build_29 (by decide) (fun c29 => ?_) (fun c29 => ?_)
      · rw [if_pos c29] at h
        refine zw_sub (lv' := [(0, .ref a0), (1, .int i1)]) (List.forall_mem_cons.mpr ⟨rfl, (List.forall_mem_cons.mpr ⟨rfl, zs_nil⟩)⟩) ?_
        exact zt_X18_build_J48 hX hr hR hd h
      · rw [if_neg c29] at h
        refine zw_aload_n hX dX18_build_32 rfl ?_
        obtain ⟨b40, g, h⟩ := zb_some h
        refine zw_getr hX zl_X18_12 dX18_build_33 g ?_
        obtain ⟨v41, g, h⟩ := zb_some h
        refine zw_geti hX zl_X18_241 dX18_build_36 g ?_
        refine zw_bipush (v := (40 : Int32)) hX dX18_build_39 (by decide) ?_
        refine zw_icmp_gt (tgt := 48) hX dX18_build_41 (by decide) (fun c41 => ?_) (fun c41 => ?_)
        · rw [if_pos c41] at h
          refine zw_sub (lv' := [(0, .ref a0), (1, .int i1)]) (List.forall_mem_cons.mpr ⟨rfl, (List.forall_mem_cons.mpr ⟨rfl, zs_nil⟩)⟩) ?_
          exact zt_X18_build_J48 hX hr hR hd h
        · rw [if_neg c41] at h
          refine zw_iconst (v := (1 : Int32)) hX dX18_build_44 (by decide) ?_
          refine zw_goto (tgt := 49) hX dX18_build_45 (by decide) ?_
          refine zw_sub (lv' := [(0, .ref a0), (1, .int i1)]) (List.forall_mem_cons.mpr ⟨rfl, (List.forall_mem_cons.mpr ⟨rfl, zs_nil⟩)⟩) ?_
          exact zt_X18_build_J49 hX hr hR hd h
set_option maxHeartbeats 4000000 in
set_option maxRecDepth 100000 in
theorem zt_X18_portal__J26 {p : Program} {l : Launch} {e : Env} {R : Room} {s : State} {m : MethodId} {args : Array Value} {below : List Frame} {meth : Method} {c : Code} {V : zm_V} {mc ms d rc rs : Nat} (hX : zm_X p R s m args meth c RX18 "portal" cX18_portal_ 3 zk_E V mc ms) (hr : meth.sig.returnType = (some .int)) (hR : R.frames = d ∧ R.locals = 64 * d) (hd : 2 ≤ d) {N : Nat} {a0 : Nat} {i1 : Int32} {i2 : Int32} {t0 : Nat} {t1 : Int32} {out : (Int32 × zm_S)} {S : zm_S} (h : zf_X18_portal__J26 N a0 i1 i2 t0 t1 S = some out) : zw p l e R s m args below meth c (vx_MQ below (zm_Qc zk_E V (zo_i out)) (zm_XC zk_E V zo_x) args s mc ms (fun q => V.2.2.2.1 ≤ q)) 3 zk_E V mc ms 26 [(0, .ref a0), (1, .int i1), (2, .int i2)] [.int t1, .ref t0] S rc rs := by
  unfold zf_X18_portal__J26 at h
  refine zw_aload_n hX dX18_portal__26 rfl ?_
  obtain ⟨v4, g, h⟩ := zb_some h
  refine zw_geti hX zl_X18_192 dX18_portal__27 g ?_
  obtain ⟨_, gi, h⟩ := zb_some h
  obtain ⟨r6, g, h⟩ := zb_some h
  refine zc_Vi (as := [.int t1, .int v4]) hX gi (zt_X18_goes (d := d - 1) (by omega) g) zl_X18_199 rfl dX18_portal__30 ⟨rfl, rfl, Nat.le_of_ble_eq_true rfl⟩ ⟨by omega, by omega⟩ ?_
  refine zw_if_ne (tgt := 38) hX dX18_portal__33 (by decide) (fun c33 => ?_) (fun c33 => ?_)
  · rw [if_neg c33] at h
    refine zw_iload_n hX dX18_portal__38 rfl ?_
    by_cases c39_0 : (i2).toInt = 0
    · rw [if_pos c39_0] at h
      refine zw_tableIn (off := 29) (tgt := 68) hX dX18_portal__39 (by rw [c39_0]; decide) (by rw [c39_0]; decide) (by rw [c39_0]; decide) (by decide) ?_
      refine zw_aload_n hX dX18_portal__68 rfl ?_
      obtain ⟨b16, g, h⟩ := zb_some h
      refine zw_getr hX zl_X18_53 dX18_portal__69 g ?_
      refine zw_iload_n hX dX18_portal__72 rfl ?_
      obtain ⟨v17, g, h⟩ := zb_some h
      refine zw_xi hX dX18_portal__73 g ?_
      obtain rfl := Option.some.inj h
      exact zw_iret hX hr dX18_portal__74 rfl ⟨rfl, rfl⟩
    rw [if_neg c39_0] at h
    by_cases c39_1 : (i2).toInt = 1
    · rw [if_pos c39_1] at h
      refine zw_tableIn (off := 36) (tgt := 75) hX dX18_portal__39 (by rw [c39_1]; decide) (by rw [c39_1]; decide) (by rw [c39_1]; decide) (by decide) ?_
      refine zw_aload_n hX dX18_portal__75 rfl ?_
      obtain ⟨b18, g, h⟩ := zb_some h
      refine zw_getr hX zl_X18_57 dX18_portal__76 g ?_
      refine zw_iload_n hX dX18_portal__79 rfl ?_
      obtain ⟨v19, g, h⟩ := zb_some h
      refine zw_xi hX dX18_portal__80 g ?_
      obtain rfl := Option.some.inj h
      exact zw_iret hX hr dX18_portal__81 rfl ⟨rfl, rfl⟩
    rw [if_neg c39_1] at h
    by_cases c39_2 : (i2).toInt = 2
    · rw [if_pos c39_2] at h
      refine zw_tableIn (off := 43) (tgt := 82) hX dX18_portal__39 (by rw [c39_2]; decide) (by rw [c39_2]; decide) (by rw [c39_2]; decide) (by decide) ?_
      refine zw_aload_n hX dX18_portal__82 rfl ?_
      obtain ⟨b20, g, h⟩ := zb_some h
      refine zw_getr hX zl_X18_60 dX18_portal__83 g ?_
      refine zw_iload_n hX dX18_portal__86 rfl ?_
      obtain ⟨v21, g, h⟩ := zb_some h
      refine zw_xi hX dX18_portal__87 g ?_
      obtain rfl := Option.some.inj h
      exact zw_iret hX hr dX18_portal__88 rfl ⟨rfl, rfl⟩
    rw [if_neg c39_2] at h
    by_cases c39_3 : (i2).toInt = 3
    · rw [if_pos c39_3] at h
      refine zw_tableIn (off := 50) (tgt := 89) hX dX18_portal__39 (by rw [c39_3]; decide) (by rw [c39_3]; decide) (by rw [c39_3]; decide) (by decide) ?_
      refine zw_aload_n hX dX18_portal__89 rfl ?_
      obtain ⟨b22, g, h⟩ := zb_some h
      refine zw_getr hX zl_X18_63 dX18_portal__90 g ?_
      refine zw_iload_n hX dX18_portal__93 rfl ?_
      obtain ⟨v23, g, h⟩ := zb_some h
      refine zw_xi hX dX18_portal__94 g ?_
      obtain rfl := Option.some.inj h
      exact zw_iret hX hr dX18_portal__95 rfl ⟨rfl, rfl⟩
    rw [if_neg c39_3] at h
    refine zw_tableOut (tgt := 96) hX dX18_portal__39 (by omega) (by decide) ?_
    refine zw_aload_n hX dX18_portal__96 rfl ?_
    obtain ⟨b7, g, h⟩ := zb_some h
    refine zw_getr hX zl_X18_12 dX18_portal__97 g ?_
    refine zw_aload_n hX dX18_portal__100 rfl ?_
    obtain ⟨b8, g, h⟩ := zb_some h
    refine zw_getr hX zl_X18_60 dX18_portal__101 g ?_
    refine zw_iload_n hX dX18_portal__104 rfl ?_
    obtain ⟨v9, g, h⟩ := zb_some h
    refine zw_xi hX dX18_portal__105 g ?_
    refine zw_aload_n hX dX18_portal__106 rfl ?_
    obtain ⟨b10, g, h⟩ := zb_some h
    refine zw_getr hX zl_X18_66 dX18_portal__107 g ?_
    refine zw_iload_n hX dX18_portal__110 rfl ?_
    obtain ⟨v11, g, h⟩ := zb_some h
    refine zw_xi hX dX18_portal__111 g ?_
    refine zw_iconst (v := (1 : Int32)) hX dX18_portal__112 (by decide) ?_
    refine zw_iload_n hX dX18_portal__113 rfl ?_
    refine zw_iconst (v := (4 : Int32)) hX dX18_portal__114 (by decide) ?_
    refine zw_icmp_ne (tgt := 122) hX dX18_portal__115 (by decide) (fun c115 => ?_) (fun c115 => ?_)
    · rw [if_neg c115] at h
      refine zw_iconst (v := (0 : Int32)) hX dX18_portal__122 (by decide) ?_
      obtain ⟨_, gi, h⟩ := zb_some h
      obtain ⟨r13, g, h⟩ := zb_some h
      refine zc_Vi (as := [.int v9, .int v11, .int (1 : Int32), .int (0 : Int32)]) hX gi (zt_X16_cellAt (d := d - 1) (by omega) g) zl_X18_365 rfl dX18_portal__123 ⟨rfl, rfl, Nat.le_of_ble_eq_true rfl⟩ ⟨by omega, by omega⟩ ?_
      obtain rfl := Option.some.inj h
      exact zw_iret hX hr dX18_portal__126 rfl ⟨rfl, rfl⟩
    · rw [if_pos c115] at h
      refine zw_iconst (v := (1 : Int32)) hX dX18_portal__118 (by decide) ?_
      refine zw_goto (tgt := 123) hX dX18_portal__119 (by decide) ?_
      obtain ⟨_, gi, h⟩ := zb_some h
      obtain ⟨r15, g, h⟩ := zb_some h
      refine zc_Vi (as := [.int v9, .int v11, .int (1 : Int32), .int (1 : Int32)]) hX gi (zt_X16_cellAt (d := d - 1) (by omega) g) zl_X18_365 rfl dX18_portal__123 ⟨rfl, rfl, Nat.le_of_ble_eq_true rfl⟩ ⟨by omega, by omega⟩ ?_
      obtain rfl := Option.some.inj h
      exact zw_iret hX hr dX18_portal__126 rfl ⟨rfl, rfl⟩
  · rw [if_pos c33] at h
    refine zw_iconst (v := (0 : Int32)) hX dX18_portal__36 (by decide) ?_
    obtain rfl := Option.some.inj h
    exact zw_iret hX hr dX18_portal__37 rfl ⟨rfl, rfl⟩
set_option maxHeartbeats 4000000 in
set_option maxRecDepth 100000 in
theorem zt_X18_portal__J25 {p : Program} {l : Launch} {e : Env} {R : Room} {s : State} {m : MethodId} {args : Array Value} {below : List Frame} {meth : Method} {c : Code} {V : zm_V} {mc ms d rc rs : Nat} (hX : zm_X p R s m args meth c RX18 "portal" cX18_portal_ 3 zk_E V mc ms) (hr : meth.sig.returnType = (some .int)) (hR : R.frames = d ∧ R.locals = 64 * d) (hd : 2 ≤ d) {N : Nat} {a0 : Nat} {i1 : Int32} {i2 : Int32} {t0 : Nat} {out : (Int32 × zm_S)} {S : zm_S} (h : zf_X18_portal__J25 N a0 i1 i2 t0 S = some out) : zw p l e R s m args below meth c (vx_MQ below (zm_Qc zk_E V (zo_i out)) (zm_XC zk_E V zo_x) args s mc ms (fun q => V.2.2.2.1 ≤ q)) 3 zk_E V mc ms 25 [(0, .ref a0), (1, .int i1), (2, .int i2)] [.ref t0] S rc rs := by
  unfold zf_X18_portal__J25 at h
  refine zw_iconst (v := (0 : Int32)) hX dX18_portal__25 (by decide) ?_
  refine zw_sub (lv' := [(0, .ref a0), (1, .int i1), (2, .int i2)]) (List.forall_mem_cons.mpr ⟨rfl, (List.forall_mem_cons.mpr ⟨rfl, (List.forall_mem_cons.mpr ⟨rfl, zs_nil⟩)⟩)⟩) ?_
  exact zt_X18_portal__J26 hX hr hR hd h
set_option maxHeartbeats 4000000 in
set_option maxRecDepth 100000 in
theorem zt_X18_portal_ {l : Launch} {V : zm_V} {N : Nat} {S : zm_S} {out : (Int32 × zm_S)} {d : Nat} {a0 : Nat} {i1 : Int32} {i2 : Int32} (hd : 2 ≤ d) (h : zf_X18_portal_ N a0 i1 i2 S = some out) : zm_Met l zk_E V yX18_portal_ (.code yX18_portal_ cX18_portal_ 3 (some .int)) d [.ref a0, .int i1, .int i2] S 0 0 (zo_i out) zo_x := by
  refine zm_of (by decide +kernel) (Nat.le_of_ble_eq_true rfl) ?_
  intro p e R s m args below meth c hRR hX hr hxt
  have hR : R.frames = d ∧ R.locals = 64 * d := by rw [hRR]; exact ⟨rfl, rfl⟩
  have hX : zm_X p R s m args meth c RX18 "portal" cX18_portal_ 3 zk_E V 0 0 := hX
  unfold zf_X18_portal_ at h
  refine zw_sub (lv' := [(0, .ref a0), (1, .int i1), (2, .int i2)]) (List.forall_mem_cons.mpr ⟨rfl, (List.forall_mem_cons.mpr ⟨rfl, (List.forall_mem_cons.mpr ⟨rfl, zs_nil⟩)⟩)⟩) ?_
  refine zw_aload_n hX dX18_portal__0 rfl ?_
  refine zw_iload_n hX dX18_portal__1 rfl ?_
  refine zw_aload_n hX dX18_portal__2 rfl ?_
  obtain ⟨v1, g, h⟩ := zb_some h
  refine zw_geti hX zl_X18_351 dX18_portal__3 g ?_
  obtain ⟨r3, g, h⟩ := zb_some h
  refine zc_Si (as := [.int i1, .int v1]) hX (zt_X18_isIn (d := d - 1) (by omega) g) zl_X18_207 dX18_portal__6 ⟨rfl, rfl, Nat.le_of_ble_eq_true rfl⟩ ⟨by omega, by omega⟩ ?_
  refine zw_if_eq (tgt := 25) hX dX18_portal__9 (by decide) (fun c9 => ?_) (fun c9 => ?_)
  · rw [if_pos c9] at h
    refine zw_sub (lv' := [(0, .ref a0), (1, .int i1), (2, .int i2)]) (List.forall_mem_cons.mpr ⟨rfl, (List.forall_mem_cons.mpr ⟨rfl, (List.forall_mem_cons.mpr ⟨rfl, zs_nil⟩)⟩)⟩) ?_
    exact zt_X18_portal__J25 hX hr hR hd h
  · rw [if_neg c9] at h
    refine zw_iload_n hX dX18_portal__12 rfl ?_
    refine zw_bipush (v := (6 : Int32)) hX dX18_portal__13 (by decide) ?_
    obtain ⟨r25, g, h⟩ := zb_some h
    refine zc_Si (as := [.int i2, .int (6 : Int32)]) hX (zt_X18_isIn (d := d - 1) (by omega) g) zl_X18_207 dX18_portal__15 ⟨rfl, rfl, Nat.le_of_ble_eq_true rfl⟩ ⟨by omega, by omega⟩ ?_
    refine zw_if_eq (tgt := 25) hX dX18_portal__18 (by decide) (fun c18 => ?_) (fun c18 => ?_)
    · rw [if_pos c18] at h
      refine zw_sub (lv' := [(0, .ref a0), (1, .int i1), (2, .int i2)]) (List.forall_mem_cons.mpr ⟨rfl, (List.forall_mem_cons.mpr ⟨rfl, (List.forall_mem_cons.mpr ⟨rfl, zs_nil⟩)⟩)⟩) ?_
      exact zt_X18_portal__J25 hX hr hR hd h
    · rw [if_neg c18] at h
      refine zw_iconst (v := (1 : Int32)) hX dX18_portal__21 (by decide) ?_
      refine zw_goto (tgt := 26) hX dX18_portal__22 (by decide) ?_
      refine zw_sub (lv' := [(0, .ref a0), (1, .int i1), (2, .int i2)]) (List.forall_mem_cons.mpr ⟨rfl, (List.forall_mem_cons.mpr ⟨rfl, (List.forall_mem_cons.mpr ⟨rfl, zs_nil⟩)⟩)⟩) ?_
      exact zt_X18_portal__J26 hX hr hR hd h
set_option maxHeartbeats 4000000 in
set_option maxRecDepth 100000 in
theorem zt_X18_person_J46 {p : Program} {l : Launch} {e : Env} {R : Room} {s : State} {m : MethodId} {args : Array Value} {below : List Frame} {meth : Method} {c : Code} {V : zm_V} {mc ms d rc rs : Nat} (hX : zm_X p R s m args meth c RX18 "person" cX18_person 3 zk_E V mc ms) (hr : meth.sig.returnType = (some .int)) (hR : R.frames = d ∧ R.locals = 64 * d) (hd : 2 ≤ d) {N : Nat} {a0 : Nat} {i1 : Int32} {i2 : Int32} {t0 : Nat} {t1 : Int32} {t2 : Int32} {out : (Int32 × zm_S)} {S : zm_S} (h : zf_X18_person_J46 N a0 i1 i2 t0 t1 t2 S = some out) : zw p l e R s m args below meth c (vx_MQ below (zm_Qc zk_E V (zo_i out)) (zm_XC zk_E V zo_x) args s mc ms (fun q => V.2.2.2.1 ≤ q)) 3 zk_E V mc ms 46 [(0, .ref a0), (1, .int i1), (2, .int i2)] [.int t2, .int t1, .ref t0] S rc rs := by
  unfold zf_X18_person_J46 at h
  obtain ⟨_, gi, h⟩ := zb_some h
  obtain ⟨r5, g, h⟩ := zb_some h
  refine zc_Vi (as := [.int t1, .int t2]) hX gi (zt_X18_goes (d := d - 1) (by omega) g) zl_X18_199 rfl dX18_person_46 ⟨rfl, rfl, Nat.le_of_ble_eq_true rfl⟩ ⟨by omega, by omega⟩ ?_
  refine zw_if_ne (tgt := 54) hX dX18_person_49 (by decide) (fun c49 => ?_) (fun c49 => ?_)
  · rw [if_neg c49] at h
    refine zw_aload_n hX dX18_person_54 rfl ?_
    obtain ⟨b6, g, h⟩ := zb_some h
    refine zw_getr hX zl_X18_100 dX18_person_55 g ?_
    refine zw_aload_n hX dX18_person_58 rfl ?_
    obtain ⟨v7, g, h⟩ := zb_some h
    refine zw_geti hX zl_X18_369 dX18_person_59 g ?_
    refine zw_iload_n hX dX18_person_62 rfl ?_
    obtain ⟨S8, g, h⟩ := zb_some h
    refine zw_si hX dX18_person_63 g ?_
    refine zw_aload_n hX dX18_person_64 rfl ?_
    obtain ⟨b9, g, h⟩ := zb_some h
    refine zw_getr hX zl_X18_103 dX18_person_65 g ?_
    refine zw_aload_n hX dX18_person_68 rfl ?_
    obtain ⟨v10, g, h⟩ := zb_some h
    refine zw_geti hX zl_X18_369 dX18_person_69 g ?_
    refine zw_iload_n hX dX18_person_72 rfl ?_
    obtain ⟨S11, g, h⟩ := zb_some h
    refine zw_si hX dX18_person_73 g ?_
    refine zw_aload_n hX dX18_person_74 rfl ?_
    obtain ⟨b12, g, h⟩ := zb_some h
    refine zw_getr hX zl_X18_106 dX18_person_75 g ?_
    refine zw_aload_n hX dX18_person_78 rfl ?_
    obtain ⟨v13, g, h⟩ := zb_some h
    refine zw_geti hX zl_X18_369 dX18_person_79 g ?_
    refine zw_aload_n hX dX18_person_82 rfl ?_
    obtain ⟨v14, g, h⟩ := zb_some h
    refine zw_geti hX zl_X18_338 dX18_person_83 g ?_
    obtain ⟨S15, g, h⟩ := zb_some h
    refine zw_si hX dX18_person_86 g ?_
    refine zw_aload_n hX dX18_person_87 rfl ?_
    obtain ⟨b16, g, h⟩ := zb_some h
    refine zw_getr hX zl_X18_109 dX18_person_88 g ?_
    refine zw_aload_n hX dX18_person_91 rfl ?_
    obtain ⟨v17, g, h⟩ := zb_some h
    refine zw_geti hX zl_X18_369 dX18_person_92 g ?_
    refine zw_iconst (v := (-1 : Int32)) hX dX18_person_95 (by decide) ?_
    obtain ⟨S18, g, h⟩ := zb_some h
    refine zw_si hX dX18_person_96 g ?_
    refine zw_aload_n hX dX18_person_97 rfl ?_
    obtain ⟨b19, g, h⟩ := zb_some h
    refine zw_getr hX zl_X18_112 dX18_person_98 g ?_
    refine zw_aload_n hX dX18_person_101 rfl ?_
    obtain ⟨v20, g, h⟩ := zb_some h
    refine zw_geti hX zl_X18_369 dX18_person_102 g ?_
    refine zw_iconst (v := (-1 : Int32)) hX dX18_person_105 (by decide) ?_
    obtain ⟨S21, g, h⟩ := zb_some h
    refine zw_si hX dX18_person_106 g ?_
    refine zw_aload_n hX dX18_person_107 rfl ?_
    obtain ⟨b22, g, h⟩ := zb_some h
    refine zw_getr hX zl_X18_115 dX18_person_108 g ?_
    refine zw_aload_n hX dX18_person_111 rfl ?_
    obtain ⟨v23, g, h⟩ := zb_some h
    refine zw_geti hX zl_X18_369 dX18_person_112 g ?_
    refine zw_iconst (v := (-1 : Int32)) hX dX18_person_115 (by decide) ?_
    obtain ⟨S24, g, h⟩ := zb_some h
    refine zw_si hX dX18_person_116 g ?_
    refine zw_aload_n hX dX18_person_117 rfl ?_
    refine zw_dup hX dX18_person_118 rfl ?_
    obtain ⟨v25, g, h⟩ := zb_some h
    refine zw_geti hX zl_X18_369 dX18_person_119 g ?_
    refine zw_iconst (v := (1 : Int32)) hX dX18_person_122 (by decide) ?_
    refine zw_iadd hX dX18_person_123 ?_
    obtain ⟨S26, g, h⟩ := zb_some h
    refine zw_putv hX zl_X18_369 zt_18_27 dX18_person_124 rfl rfl g ?_
    refine zw_aload_n hX dX18_person_127 rfl ?_
    obtain ⟨v27, g, h⟩ := zb_some h
    refine zw_geti hX zl_X18_369 dX18_person_128 g ?_
    refine zw_iconst (v := (1 : Int32)) hX dX18_person_131 (by decide) ?_
    refine zw_isub hX dX18_person_132 ?_
    obtain rfl := Option.some.inj h
    exact zw_iret hX hr dX18_person_133 rfl ⟨rfl, rfl⟩
  · rw [if_pos c49] at h
    refine zw_iconst (v := (0 : Int32)) hX dX18_person_52 (by decide) ?_
    obtain rfl := Option.some.inj h
    exact zw_iret hX hr dX18_person_53 rfl ⟨rfl, rfl⟩
set_option maxHeartbeats 4000000 in
set_option maxRecDepth 100000 in
theorem zt_X18_person_J45 {p : Program} {l : Launch} {e : Env} {R : Room} {s : State} {m : MethodId} {args : Array Value} {below : List Frame} {meth : Method} {c : Code} {V : zm_V} {mc ms d rc rs : Nat} (hX : zm_X p R s m args meth c RX18 "person" cX18_person 3 zk_E V mc ms) (hr : meth.sig.returnType = (some .int)) (hR : R.frames = d ∧ R.locals = 64 * d) (hd : 2 ≤ d) {N : Nat} {a0 : Nat} {i1 : Int32} {i2 : Int32} {t0 : Nat} {t1 : Int32} {out : (Int32 × zm_S)} {S : zm_S} (h : zf_X18_person_J45 N a0 i1 i2 t0 t1 S = some out) : zw p l e R s m args below meth c (vx_MQ below (zm_Qc zk_E V (zo_i out)) (zm_XC zk_E V zo_x) args s mc ms (fun q => V.2.2.2.1 ≤ q)) 3 zk_E V mc ms 45 [(0, .ref a0), (1, .int i1), (2, .int i2)] [.int t1, .ref t0] S rc rs := by
  unfold zf_X18_person_J45 at h
  refine zw_iconst (v := (0 : Int32)) hX dX18_person_45 (by decide) ?_
  refine zw_sub (lv' := [(0, .ref a0), (1, .int i1), (2, .int i2)]) (List.forall_mem_cons.mpr ⟨rfl, (List.forall_mem_cons.mpr ⟨rfl, (List.forall_mem_cons.mpr ⟨rfl, zs_nil⟩)⟩)⟩) ?_
  exact zt_X18_person_J46 hX hr hR hd h
set_option maxHeartbeats 4000000 in
set_option maxRecDepth 100000 in
theorem zt_X18_person_J25 {p : Program} {l : Launch} {e : Env} {R : Room} {s : State} {m : MethodId} {args : Array Value} {below : List Frame} {meth : Method} {c : Code} {V : zm_V} {mc ms d rc rs : Nat} (hX : zm_X p R s m args meth c RX18 "person" cX18_person 3 zk_E V mc ms) (hr : meth.sig.returnType = (some .int)) (hR : R.frames = d ∧ R.locals = 64 * d) (hd : 2 ≤ d) {N : Nat} {a0 : Nat} {i1 : Int32} {i2 : Int32} {t0 : Nat} {t1 : Int32} {out : (Int32 × zm_S)} {S : zm_S} (h : zf_X18_person_J25 N a0 i1 i2 t0 t1 S = some out) : zw p l e R s m args below meth c (vx_MQ below (zm_Qc zk_E V (zo_i out)) (zm_XC zk_E V zo_x) args s mc ms (fun q => V.2.2.2.1 ≤ q)) 3 zk_E V mc ms 25 [(0, .ref a0), (1, .int i1), (2, .int i2)] [.int t1, .ref t0] S rc rs := by
  unfold zf_X18_person_J25 at h
  refine zw_aload_n hX dX18_person_25 rfl ?_
  obtain ⟨v3, g, h⟩ := zb_some h
  refine zw_geti hX zl_X18_192 dX18_person_26 g ?_
  refine zw_if_eq (tgt := 45) hX dX18_person_29 (by decide) (fun c29 => ?_) (fun c29 => ?_)
  · rw [if_pos c29] at h
    refine zw_sub (lv' := [(0, .ref a0), (1, .int i1), (2, .int i2)]) (List.forall_mem_cons.mpr ⟨rfl, (List.forall_mem_cons.mpr ⟨rfl, (List.forall_mem_cons.mpr ⟨rfl, zs_nil⟩)⟩)⟩) ?_
    exact zt_X18_person_J45 hX hr hR hd h
  · rw [if_neg c29] at h
    refine zw_aload_n hX dX18_person_32 rfl ?_
    obtain ⟨v28, g, h⟩ := zb_some h
    refine zw_geti hX zl_X18_369 dX18_person_33 g ?_
    refine zw_bipush (v := (40 : Int32)) hX dX18_person_36 (by decide) ?_
    refine zw_icmp_ge (tgt := 45) hX dX18_person_38 (by decide) (fun c38 => ?_) (fun c38 => ?_)
    · rw [if_pos c38] at h
      refine zw_sub (lv' := [(0, .ref a0), (1, .int i1), (2, .int i2)]) (List.forall_mem_cons.mpr ⟨rfl, (List.forall_mem_cons.mpr ⟨rfl, (List.forall_mem_cons.mpr ⟨rfl, zs_nil⟩)⟩)⟩) ?_
      exact zt_X18_person_J45 hX hr hR hd h
    · rw [if_neg c38] at h
      refine zw_iconst (v := (1 : Int32)) hX dX18_person_41 (by decide) ?_
      refine zw_goto (tgt := 46) hX dX18_person_42 (by decide) ?_
      refine zw_sub (lv' := [(0, .ref a0), (1, .int i1), (2, .int i2)]) (List.forall_mem_cons.mpr ⟨rfl, (List.forall_mem_cons.mpr ⟨rfl, (List.forall_mem_cons.mpr ⟨rfl, zs_nil⟩)⟩)⟩) ?_
      exact zt_X18_person_J46 hX hr hR hd h
set_option maxHeartbeats 4000000 in
set_option maxRecDepth 100000 in
theorem zt_X18_person_J24 {p : Program} {l : Launch} {e : Env} {R : Room} {s : State} {m : MethodId} {args : Array Value} {below : List Frame} {meth : Method} {c : Code} {V : zm_V} {mc ms d rc rs : Nat} (hX : zm_X p R s m args meth c RX18 "person" cX18_person 3 zk_E V mc ms) (hr : meth.sig.returnType = (some .int)) (hR : R.frames = d ∧ R.locals = 64 * d) (hd : 2 ≤ d) {N : Nat} {a0 : Nat} {i1 : Int32} {i2 : Int32} {t0 : Nat} {out : (Int32 × zm_S)} {S : zm_S} (h : zf_X18_person_J24 N a0 i1 i2 t0 S = some out) : zw p l e R s m args below meth c (vx_MQ below (zm_Qc zk_E V (zo_i out)) (zm_XC zk_E V zo_x) args s mc ms (fun q => V.2.2.2.1 ≤ q)) 3 zk_E V mc ms 24 [(0, .ref a0), (1, .int i1), (2, .int i2)] [.ref t0] S rc rs := by
  unfold zf_X18_person_J24 at h
  refine zw_iconst (v := (0 : Int32)) hX dX18_person_24 (by decide) ?_
  refine zw_sub (lv' := [(0, .ref a0), (1, .int i1), (2, .int i2)]) (List.forall_mem_cons.mpr ⟨rfl, (List.forall_mem_cons.mpr ⟨rfl, (List.forall_mem_cons.mpr ⟨rfl, zs_nil⟩)⟩)⟩) ?_
  exact zt_X18_person_J25 hX hr hR hd h
set_option maxHeartbeats 4000000 in
set_option maxRecDepth 100000 in
theorem zt_X18_person {l : Launch} {V : zm_V} {N : Nat} {S : zm_S} {out : (Int32 × zm_S)} {d : Nat} {a0 : Nat} {i1 : Int32} {i2 : Int32} (hd : 2 ≤ d) (h : zf_X18_person N a0 i1 i2 S = some out) : zm_Met l zk_E V yX18_person (.code yX18_person cX18_person 3 (some .int)) d [.ref a0, .int i1, .int i2] S 0 0 (zo_i out) zo_x := by
  refine zm_of (by decide +kernel) (Nat.le_of_ble_eq_true rfl) ?_
  intro p e R s m args below meth c hRR hX hr hxt
  have hR : R.frames = d ∧ R.locals = 64 * d := by rw [hRR]; exact ⟨rfl, rfl⟩
  have hX : zm_X p R s m args meth c RX18 "person" cX18_person 3 zk_E V 0 0 := hX
  unfold zf_X18_person at h
  refine zw_sub (lv' := [(0, .ref a0), (1, .int i1), (2, .int i2)]) (List.forall_mem_cons.mpr ⟨rfl, (List.forall_mem_cons.mpr ⟨rfl, (List.forall_mem_cons.mpr ⟨rfl, zs_nil⟩)⟩)⟩) ?_
  refine zw_aload_n hX dX18_person_0 rfl ?_
  refine zw_iload_n hX dX18_person_1 rfl ?_
  refine zw_bipush (v := (10 : Int32)) hX dX18_person_2 (by decide) ?_
  obtain ⟨r2, g, h⟩ := zb_some h
  refine zc_Si (as := [.int i1, .int (10 : Int32)]) hX (zt_X18_isIn (d := d - 1) (by omega) g) zl_X18_207 dX18_person_4 ⟨rfl, rfl, Nat.le_of_ble_eq_true rfl⟩ ⟨by omega, by omega⟩ ?_
  refine zw_if_eq (tgt := 24) hX dX18_person_7 (by decide) (fun c7 => ?_) (fun c7 => ?_)
  · rw [if_pos c7] at h
    refine zw_sub (lv' := [(0, .ref a0), (1, .int i1), (2, .int i2)]) (List.forall_mem_cons.mpr ⟨rfl, (List.forall_mem_cons.mpr ⟨rfl, (List.forall_mem_cons.mpr ⟨rfl, zs_nil⟩)⟩)⟩) ?_
    exact zt_X18_person_J24 hX hr hR hd h
  · rw [if_neg c7] at h
    refine zw_iload_n hX dX18_person_10 rfl ?_
    refine zw_iconst (v := (1 : Int32)) hX dX18_person_11 (by decide) ?_
    refine zw_icmp_lt (tgt := 24) hX dX18_person_12 (by decide) (fun c12 => ?_) (fun c12 => ?_)
    · rw [if_pos c12] at h
      refine zw_sub (lv' := [(0, .ref a0), (1, .int i1), (2, .int i2)]) (List.forall_mem_cons.mpr ⟨rfl, (List.forall_mem_cons.mpr ⟨rfl, (List.forall_mem_cons.mpr ⟨rfl, zs_nil⟩)⟩)⟩) ?_
      exact zt_X18_person_J24 hX hr hR hd h
    · rw [if_neg c12] at h
      refine zw_iload_n hX dX18_person_15 rfl ?_
      refine zw_iconst (v := (5 : Int32)) hX dX18_person_16 (by decide) ?_
      refine zw_icmp_gt (tgt := 24) hX dX18_person_17 (by decide) (fun c17 => ?_) (fun c17 => ?_)
      · rw [if_pos c17] at h
        refine zw_sub (lv' := [(0, .ref a0), (1, .int i1), (2, .int i2)]) (List.forall_mem_cons.mpr ⟨rfl, (List.forall_mem_cons.mpr ⟨rfl, (List.forall_mem_cons.mpr ⟨rfl, zs_nil⟩)⟩)⟩) ?_
        exact zt_X18_person_J24 hX hr hR hd h
      · rw [if_neg c17] at h
        refine zw_iconst (v := (1 : Int32)) hX dX18_person_20 (by decide) ?_
        refine zw_goto (tgt := 25) hX dX18_person_21 (by decide) ?_
        refine zw_sub (lv' := [(0, .ref a0), (1, .int i1), (2, .int i2)]) (List.forall_mem_cons.mpr ⟨rfl, (List.forall_mem_cons.mpr ⟨rfl, (List.forall_mem_cons.mpr ⟨rfl, zs_nil⟩)⟩)⟩) ?_
        exact zt_X18_person_J25 hX hr hR hd h
set_option maxHeartbeats 4000000 in
set_option maxRecDepth 100000 in
theorem zt_X18_isMinute {l : Launch} {V : zm_V} {N : Nat} {S : zm_S} {out : (Int32 × zm_S)} {d : Nat} {i0 : Int32} (hd : 1 ≤ d) (h : zf_X18_isMinute N i0 S = some out) : zm_Met l zk_E V yX18_isMinute (.code yX18_isMinute cX18_isMinute 1 (some .boolean)) d [.int i0] S 0 0 (zo_i out) zo_x := by
  refine zm_of (by decide +kernel) (Nat.le_of_ble_eq_true rfl) ?_
  intro p e R s m args below meth c hRR hX hr hxt
  have hR : R.frames = d ∧ R.locals = 64 * d := by rw [hRR]; exact ⟨rfl, rfl⟩
  have hX : zm_X p R s m args meth c RX18 "isMinute" cX18_isMinute 1 zk_E V 0 0 := hX
  unfold zf_X18_isMinute at h
  refine zw_sub (lv' := [(0, .int i0)]) (List.forall_mem_cons.mpr ⟨rfl, zs_nil⟩) ?_
  refine zw_iload_n hX dX18_isMinute_0 rfl ?_
  refine zw_if_lt (tgt := 15) hX dX18_isMinute_1 (by decide) (fun c1 => ?_) (fun c1 => ?_)
  · rw [if_pos c1] at h
    refine zw_iconst (v := (0 : Int32)) hX dX18_isMinute_15 (by decide) ?_
    obtain rfl := Option.some.inj h
    exact zw_iret hX hr dX18_isMinute_16 rfl ⟨rfl, rfl⟩
  · rw [if_neg c1] at h
    refine zw_iload_n hX dX18_isMinute_4 rfl ?_
    refine zw_ldcw (v := (1000000 : Int32)) hX dX18_isMinute_5 zl_X18_315 ?_
    refine zw_icmp_gt (tgt := 15) hX dX18_isMinute_8 (by decide) (fun c8 => ?_) (fun c8 => ?_)
    · rw [if_pos c8] at h
      refine zw_iconst (v := (0 : Int32)) hX dX18_isMinute_15 (by decide) ?_
      obtain rfl := Option.some.inj h
      exact zw_iret hX hr dX18_isMinute_16 rfl ⟨rfl, rfl⟩
    · rw [if_neg c8] at h
      refine zw_iconst (v := (1 : Int32)) hX dX18_isMinute_11 (by decide) ?_
      refine zw_goto (tgt := 16) hX dX18_isMinute_12 (by decide) ?_
      obtain rfl := Option.some.inj h
      exact zw_iret hX hr dX18_isMinute_16 rfl ⟨rfl, rfl⟩
set_option maxHeartbeats 4000000 in
set_option maxRecDepth 100000 in
theorem zt_X18_longer {l : Launch} {V : zm_V} {N : Nat} {S : zm_S} {out : (Nat × zm_S)} {d : Nat} {a0 : Nat} (hd : 1 ≤ d) (h : zf_X18_longer N a0 S = some out) : zm_Met l zk_E V yX18_longer (.code yX18_longer cX18_longer 3 (some (.array .int))) d [.ref a0] S 0 0 (zo_r out) zo_x := by
  refine zm_of (by decide +kernel) (Nat.le_of_ble_eq_true rfl) ?_
  intro p e R s m args below meth c hRR hX hr hxt
  have hR : R.frames = d ∧ R.locals = 64 * d := by rw [hRR]; exact ⟨rfl, rfl⟩
  have hX : zm_X p R s m args meth c RX18 "longer" cX18_longer 3 zk_E V 0 0 := hX
  unfold zf_X18_longer at h
  refine zw_sub (lv' := [(0, .ref a0)]) (List.forall_mem_cons.mpr ⟨rfl, zs_nil⟩) ?_
  refine zw_iconst (v := (2 : Int32)) hX dX18_longer_0 (by decide) ?_
  refine zw_aload_n hX dX18_longer_1 rfl ?_
  obtain ⟨v1, g, h⟩ := zb_some h
  refine zw_len hX dX18_longer_2 g ?_
  refine zw_imul hX dX18_longer_3 ?_
  cases h
set_option maxHeartbeats 4000000 in
set_option maxRecDepth 100000 in
theorem zt_X18_tell_J45 {p : Program} {l : Launch} {e : Env} {R : Room} {s : State} {m : MethodId} {args : Array Value} {below : List Frame} {meth : Method} {c : Code} {V : zm_V} {mc ms d rc rs : Nat} (hX : zm_X p R s m args meth c RX18 "tell" cX18_tell 4 zk_E V mc ms) (hr : meth.sig.returnType = none) (hR : R.frames = d ∧ R.locals = 64 * d) (hd : 2 ≤ d) {N : Nat} {a0 : Nat} {i1 : Int32} {i2 : Int32} {i3 : Int32} {out : (Unit × zm_S)} {S : zm_S} (h : zf_X18_tell_J45 N a0 i1 i2 i3 S = some out) : zw p l e R s m args below meth c (vx_MQ below (zm_Qc zk_E V (zo_v out)) (zm_XC zk_E V zo_x) args s mc ms (fun q => V.2.2.2.1 ≤ q)) 4 zk_E V mc ms 45 [(0, .ref a0), (1, .int i1), (2, .int i2), (3, .int i3)] [] S rc rs := by
  unfold zf_X18_tell_J45 at h
  refine zw_aload_n hX dX18_tell_45 rfl ?_
  obtain ⟨b4, g, h⟩ := zb_some h
  refine zw_getr hX zl_X18_145 dX18_tell_46 g ?_
  refine zw_aload_n hX dX18_tell_49 rfl ?_
  obtain ⟨v5, g, h⟩ := zb_some h
  refine zw_geti hX zl_X18_372 dX18_tell_50 g ?_
  refine zw_iload_n hX dX18_tell_53 rfl ?_
  obtain ⟨S6, g, h⟩ := zb_some h
  refine zw_si hX dX18_tell_54 g ?_
  refine zw_aload_n hX dX18_tell_55 rfl ?_
  obtain ⟨b7, g, h⟩ := zb_some h
  refine zw_getr hX zl_X18_148 dX18_tell_56 g ?_
  refine zw_aload_n hX dX18_tell_59 rfl ?_
  obtain ⟨v8, g, h⟩ := zb_some h
  refine zw_geti hX zl_X18_372 dX18_tell_60 g ?_
  refine zw_iload_n hX dX18_tell_63 rfl ?_
  obtain ⟨S9, g, h⟩ := zb_some h
  refine zw_si hX dX18_tell_64 g ?_
  refine zw_aload_n hX dX18_tell_65 rfl ?_
  obtain ⟨b10, g, h⟩ := zb_some h
  refine zw_getr hX zl_X18_151 dX18_tell_66 g ?_
  refine zw_aload_n hX dX18_tell_69 rfl ?_
  obtain ⟨v11, g, h⟩ := zb_some h
  refine zw_geti hX zl_X18_372 dX18_tell_70 g ?_
  refine zw_iload_n hX dX18_tell_73 rfl ?_
  obtain ⟨S12, g, h⟩ := zb_some h
  refine zw_si hX dX18_tell_74 g ?_
  refine zw_aload_n hX dX18_tell_75 rfl ?_
  refine zw_dup hX dX18_tell_76 rfl ?_
  obtain ⟨v13, g, h⟩ := zb_some h
  refine zw_geti hX zl_X18_372 dX18_tell_77 g ?_
  refine zw_iconst (v := (1 : Int32)) hX dX18_tell_80 (by decide) ?_
  refine zw_iadd hX dX18_tell_81 ?_
  obtain ⟨S14, g, h⟩ := zb_some h
  refine zw_putv hX zl_X18_372 zt_18_45 dX18_tell_82 rfl rfl g ?_
  obtain rfl := Option.some.inj h
  exact zw_vret hX hr dX18_tell_85 ⟨rfl, rfl⟩
set_option maxHeartbeats 4000000 in
set_option maxRecDepth 100000 in
theorem zt_X18_tell {l : Launch} {V : zm_V} {N : Nat} {S : zm_S} {out : (Unit × zm_S)} {d : Nat} {a0 : Nat} {i1 : Int32} {i2 : Int32} {i3 : Int32} (hd : 2 ≤ d) (h : zf_X18_tell N a0 i1 i2 i3 S = some out) : zm_Met l zk_E V yX18_tell (.code yX18_tell cX18_tell 4 none) d [.ref a0, .int i1, .int i2, .int i3] S 0 0 (zo_v out) zo_x := by
  refine zm_of (by decide +kernel) (Nat.le_of_ble_eq_true rfl) ?_
  intro p e R s m args below meth c hRR hX hr hxt
  have hR : R.frames = d ∧ R.locals = 64 * d := by rw [hRR]; exact ⟨rfl, rfl⟩
  have hX : zm_X p R s m args meth c RX18 "tell" cX18_tell 4 zk_E V 0 0 := hX
  unfold zf_X18_tell at h
  refine zw_sub (lv' := [(0, .ref a0), (1, .int i1), (2, .int i2), (3, .int i3)]) (List.forall_mem_cons.mpr ⟨rfl, (List.forall_mem_cons.mpr ⟨rfl, (List.forall_mem_cons.mpr ⟨rfl, (List.forall_mem_cons.mpr ⟨rfl, zs_nil⟩)⟩)⟩)⟩) ?_
  refine zw_aload_n hX dX18_tell_0 rfl ?_
  obtain ⟨v1, g, h⟩ := zb_some h
  refine zw_geti hX zl_X18_372 dX18_tell_1 g ?_
  refine zw_aload_n hX dX18_tell_4 rfl ?_
  obtain ⟨b2, g, h⟩ := zb_some h
  refine zw_getr hX zl_X18_145 dX18_tell_5 g ?_
  obtain ⟨v3, g, h⟩ := zb_some h
  refine zw_len hX dX18_tell_8 g ?_
  refine zw_icmp_ne (tgt := 45) hX dX18_tell_9 (by decide) (fun c9 => ?_) (fun c9 => ?_)
  · rw [if_neg c9] at h
    refine zw_sub (lv' := [(0, .ref a0), (1, .int i1), (2, .int i2), (3, .int i3)]) (List.forall_mem_cons.mpr ⟨rfl, (List.forall_mem_cons.mpr ⟨rfl, (List.forall_mem_cons.mpr ⟨rfl, (List.forall_mem_cons.mpr ⟨rfl, zs_nil⟩)⟩)⟩)⟩) ?_
    exact zt_X18_tell_J45 hX hr hR hd h
  · rw [if_pos c9] at h
    refine zw_aload_n hX dX18_tell_12 rfl ?_
    refine zw_aload_n hX dX18_tell_13 rfl ?_
    obtain ⟨b15, g, h⟩ := zb_some h
    refine zw_getr hX zl_X18_145 dX18_tell_14 g ?_
    obtain ⟨r17, g, h⟩ := zb_some h
    refine zc_Sr (as := [.ref b15]) hX (zt_X18_longer (d := d - 1) (by omega) g) zl_X18_375 dX18_tell_17 ⟨rfl, rfl, Nat.le_of_ble_eq_true rfl⟩ ⟨by omega, by omega⟩ ?_
    obtain ⟨S18, g, h⟩ := zb_some h
    refine zw_putv hX zl_X18_145 zt_18_46 dX18_tell_20 rfl rfl g ?_
    refine zw_aload_n hX dX18_tell_23 rfl ?_
    refine zw_aload_n hX dX18_tell_24 rfl ?_
    obtain ⟨b19, g, h⟩ := zb_some h
    refine zw_getr hX zl_X18_148 dX18_tell_25 g ?_
    obtain ⟨r21, g, h⟩ := zb_some h
    refine zc_Sr (as := [.ref b19]) hX (zt_X18_longer (d := d - 1) (by omega) g) zl_X18_375 dX18_tell_28 ⟨rfl, rfl, Nat.le_of_ble_eq_true rfl⟩ ⟨by omega, by omega⟩ ?_
    obtain ⟨S22, g, h⟩ := zb_some h
    refine zw_putv hX zl_X18_148 zt_18_47 dX18_tell_31 rfl rfl g ?_
    refine zw_aload_n hX dX18_tell_34 rfl ?_
    refine zw_aload_n hX dX18_tell_35 rfl ?_
    obtain ⟨b23, g, h⟩ := zb_some h
    refine zw_getr hX zl_X18_151 dX18_tell_36 g ?_
    obtain ⟨r25, g, h⟩ := zb_some h
    refine zc_Sr (as := [.ref b23]) hX (zt_X18_longer (d := d - 1) (by omega) g) zl_X18_375 dX18_tell_39 ⟨rfl, rfl, Nat.le_of_ble_eq_true rfl⟩ ⟨by omega, by omega⟩ ?_
    obtain ⟨S26, g, h⟩ := zb_some h
    refine zw_putv hX zl_X18_151 zt_18_48 dX18_tell_42 rfl rfl g ?_
    refine zw_sub (lv' := [(0, .ref a0), (1, .int i1), (2, .int i2), (3, .int i3)]) (List.forall_mem_cons.mpr ⟨rfl, (List.forall_mem_cons.mpr ⟨rfl, (List.forall_mem_cons.mpr ⟨rfl, (List.forall_mem_cons.mpr ⟨rfl, zs_nil⟩)⟩)⟩)⟩) ?_
    exact zt_X18_tell_J45 hX hr hR hd h
set_option maxHeartbeats 4000000 in
set_option maxRecDepth 100000 in
theorem zt_X18_lastTold_L20 {p : Program} {l : Launch} {e : Env} {R : Room} {s : State} {m : MethodId} {args : Array Value} {below : List Frame} {meth : Method} {c : Code} {V : zm_V} {mc ms d rc rs : Nat} (hX : zm_X p R s m args meth c RX18 "lastTold" cX18_lastTold 5 zk_E V mc ms) (hr : meth.sig.returnType = (some .int)) (hR : R.frames = d ∧ R.locals = 64 * d) (hd : 1 ≤ d) {N : Nat} {res : (Int32 × zm_S) ⊕ ((Unit) × zm_S)} {out : (Int32 × zm_S)} (a0 : Nat) (i1 : Int32) (i2 : Int32) (hf : ∀ o, res = .inl o → o = out) (hk : ∀ (S' : zm_S), res = .inr ((), S') → zw p l e R s m args below meth c (vx_MQ below (zm_Qc zk_E V (zo_i out)) (zm_XC zk_E V zo_x) args s mc ms (fun q => V.2.2.2.1 ≤ q)) 5 zk_E V mc ms 61 [] [] S' rc rs) : ∀ (n : Nat) (i4 : Int32) (S : zm_S), zf_X18_lastTold_L20 N n a0 i1 i2 i4 S = some res → zw p l e R s m args below meth c (vx_MQ below (zm_Qc zk_E V (zo_i out)) (zm_XC zk_E V zo_x) args s mc ms (fun q => V.2.2.2.1 ≤ q)) 5 zk_E V mc ms 20 [(0, .ref a0), (1, .int i1), (2, .int i2), (4, .int i4)] [] S rc rs := by
  intro n
  induction n with
  | zero => intro i4 S h; cases h
  | succ n ih =>
    intro i4 S h
    rw [zf_X18_lastTold_L20] at h
    refine zw_iload hX dX18_lastTold_20 rfl ?_
    refine zw_if_lt (tgt := 61) hX dX18_lastTold_22 (by decide) (fun c22 => ?_) (fun c22 => ?_)
    · rw [if_pos c22] at h
      refine zw_sub (lv' := []) zs_nil ?_
      exact hk  _ (Option.some.inj h).symm
    · rw [if_neg c22] at h
      refine zw_aload_n hX dX18_lastTold_25 rfl ?_
      obtain ⟨b3, g, h⟩ := zb_some h
      refine zw_getr hX zl_X18_145 dX18_lastTold_26 g ?_
      refine zw_iload hX dX18_lastTold_29 rfl ?_
      obtain ⟨v4, g, h⟩ := zb_some h
      refine zw_xi hX dX18_lastTold_31 g ?_
      refine zw_iload_n hX dX18_lastTold_32 rfl ?_
      refine zw_icmp_ne (tgt := 55) hX dX18_lastTold_33 (by decide) (fun c33 => ?_) (fun c33 => ?_)
      · rw [if_neg c33] at h
        refine zw_iinc (v := (i4 + (-1 : Int32))) hX dX18_lastTold_55 rfl rfl (by decide) ?_
        refine zw_goto (tgt := 20) hX dX18_lastTold_58 (by decide) ?_
        refine zw_sub (lv' := [(0, .ref a0), (1, .int i1), (2, .int i2), (4, .int (i4 + (-1 : Int32)))]) (List.forall_mem_cons.mpr ⟨rfl, (List.forall_mem_cons.mpr ⟨rfl, (List.forall_mem_cons.mpr ⟨rfl, (List.forall_mem_cons.mpr ⟨rfl, zs_nil⟩)⟩)⟩)⟩) ?_
        exact ih _ _ h
      · rw [if_pos c33] at h
        refine zw_aload_n hX dX18_lastTold_36 rfl ?_
        obtain ⟨b5, g, h⟩ := zb_some h
        refine zw_getr hX zl_X18_148 dX18_lastTold_37 g ?_
        refine zw_iload hX dX18_lastTold_40 rfl ?_
        obtain ⟨v6, g, h⟩ := zb_some h
        refine zw_xi hX dX18_lastTold_42 g ?_
        refine zw_iload_n hX dX18_lastTold_43 rfl ?_
        refine zw_icmp_ne (tgt := 55) hX dX18_lastTold_44 (by decide) (fun c44 => ?_) (fun c44 => ?_)
        · rw [if_neg c44] at h
          refine zw_iinc (v := (i4 + (-1 : Int32))) hX dX18_lastTold_55 rfl rfl (by decide) ?_
          refine zw_goto (tgt := 20) hX dX18_lastTold_58 (by decide) ?_
          refine zw_sub (lv' := [(0, .ref a0), (1, .int i1), (2, .int i2), (4, .int (i4 + (-1 : Int32)))]) (List.forall_mem_cons.mpr ⟨rfl, (List.forall_mem_cons.mpr ⟨rfl, (List.forall_mem_cons.mpr ⟨rfl, (List.forall_mem_cons.mpr ⟨rfl, zs_nil⟩)⟩)⟩)⟩) ?_
          exact ih _ _ h
        · rw [if_pos c44] at h
          refine zw_aload_n hX dX18_lastTold_47 rfl ?_
          obtain ⟨b7, g, h⟩ := zb_some h
          refine zw_getr hX zl_X18_151 dX18_lastTold_48 g ?_
          refine zw_iload hX dX18_lastTold_51 rfl ?_
          obtain ⟨v8, g, h⟩ := zb_some h
          refine zw_xi hX dX18_lastTold_53 g ?_
          have hz := hf _ (Option.some.inj h).symm
          subst hz
          exact zw_iret hX hr dX18_lastTold_54 rfl ⟨rfl, rfl⟩
set_option maxHeartbeats 4000000 in
set_option maxRecDepth 100000 in
theorem zt_X18_lastTold_J16 {p : Program} {l : Launch} {e : Env} {R : Room} {s : State} {m : MethodId} {args : Array Value} {below : List Frame} {meth : Method} {c : Code} {V : zm_V} {mc ms d rc rs : Nat} (hX : zm_X p R s m args meth c RX18 "lastTold" cX18_lastTold 5 zk_E V mc ms) (hr : meth.sig.returnType = (some .int)) (hR : R.frames = d ∧ R.locals = 64 * d) (hd : 1 ≤ d) {N : Nat} {a0 : Nat} {i1 : Int32} {i2 : Int32} {t0 : Int32} {out : (Int32 × zm_S)} {S : zm_S} (h : zf_X18_lastTold_J16 N a0 i1 i2 t0 S = some out) : zw p l e R s m args below meth c (vx_MQ below (zm_Qc zk_E V (zo_i out)) (zm_XC zk_E V zo_x) args s mc ms (fun q => V.2.2.2.1 ≤ q)) 5 zk_E V mc ms 16 [(0, .ref a0), (1, .int i1), (2, .int i2)] [.int t0] S rc rs := by
  unfold zf_X18_lastTold_J16 at h
  refine zw_iconst (v := (1 : Int32)) hX dX18_lastTold_16 (by decide) ?_
  refine zw_isub hX dX18_lastTold_17 ?_
  refine zw_istore hX dX18_lastTold_18 (by decide) ?_
  obtain ⟨r, g, h⟩ := zb_some h
  refine zw_sub (lv' := [(0, .ref a0), (1, .int i1), (2, .int i2), (4, .int (t0 - (1 : Int32)))]) (List.forall_mem_cons.mpr ⟨rfl, (List.forall_mem_cons.mpr ⟨rfl, (List.forall_mem_cons.mpr ⟨rfl, (List.forall_mem_cons.mpr ⟨rfl, zs_nil⟩)⟩)⟩)⟩) ?_
  refine zt_X18_lastTold_L20 hX hr hR hd (res := r) (out := out) a0 i1 i2 ?_ ?_ N _ _ g
  · intro o ho
    subst ho
    exact Option.some.inj h
  · intro  S9 hx
    subst hx
    try dsimp only at h
    refine zw_iconst (v := (-1 : Int32)) hX dX18_lastTold_61 (by decide) ?_
    obtain rfl := Option.some.inj h
    exact zw_iret hX hr dX18_lastTold_62 rfl ⟨rfl, rfl⟩
set_option maxHeartbeats 4000000 in
set_option maxRecDepth 100000 in
theorem zt_X18_lastTold {l : Launch} {V : zm_V} {N : Nat} {S : zm_S} {out : (Int32 × zm_S)} {d : Nat} {a0 : Nat} {i1 : Int32} {i2 : Int32} {i3 : Int32} (hd : 1 ≤ d) (h : zf_X18_lastTold N a0 i1 i2 i3 S = some out) : zm_Met l zk_E V yX18_lastTold (.code yX18_lastTold cX18_lastTold 5 (some .int)) d [.ref a0, .int i1, .int i2, .int i3] S 0 0 (zo_i out) zo_x := by
  refine zm_of (by decide +kernel) (Nat.le_of_ble_eq_true rfl) ?_
  intro p e R s m args below meth c hRR hX hr hxt
  have hR : R.frames = d ∧ R.locals = 64 * d := by rw [hRR]; exact ⟨rfl, rfl⟩
  have hX : zm_X p R s m args meth c RX18 "lastTold" cX18_lastTold 5 zk_E V 0 0 := hX
  unfold zf_X18_lastTold at h
  refine zw_sub (lv' := [(0, .ref a0), (1, .int i1), (2, .int i2), (3, .int i3)]) (List.forall_mem_cons.mpr ⟨rfl, (List.forall_mem_cons.mpr ⟨rfl, (List.forall_mem_cons.mpr ⟨rfl, (List.forall_mem_cons.mpr ⟨rfl, zs_nil⟩)⟩)⟩)⟩) ?_
  refine zw_iload_n hX dX18_lastTold_0 rfl ?_
  refine zw_aload_n hX dX18_lastTold_1 rfl ?_
  obtain ⟨v1, g, h⟩ := zb_some h
  refine zw_geti hX zl_X18_372 dX18_lastTold_2 g ?_
  refine zw_icmp_ge (tgt := 12) hX dX18_lastTold_5 (by decide) (fun c5 => ?_) (fun c5 => ?_)
  · rw [if_pos c5] at h
    refine zw_aload_n hX dX18_lastTold_12 rfl ?_
    obtain ⟨v2, g, h⟩ := zb_some h
    refine zw_geti hX zl_X18_372 dX18_lastTold_13 g ?_
    refine zw_sub (lv' := [(0, .ref a0), (1, .int i1), (2, .int i2)]) (List.forall_mem_cons.mpr ⟨rfl, (List.forall_mem_cons.mpr ⟨rfl, (List.forall_mem_cons.mpr ⟨rfl, zs_nil⟩)⟩)⟩) ?_
    exact zt_X18_lastTold_J16 hX hr hR hd h
  · rw [if_neg c5] at h
    refine zw_iload_n hX dX18_lastTold_8 rfl ?_
    refine zw_goto (tgt := 16) hX dX18_lastTold_9 (by decide) ?_
    refine zw_sub (lv' := [(0, .ref a0), (1, .int i1), (2, .int i2)]) (List.forall_mem_cons.mpr ⟨rfl, (List.forall_mem_cons.mpr ⟨rfl, (List.forall_mem_cons.mpr ⟨rfl, zs_nil⟩)⟩)⟩) ?_
    exact zt_X18_lastTold_J16 hX hr hR hd h
set_option maxHeartbeats 4000000 in
set_option maxRecDepth 100000 in
theorem zt_X18_card_J45 {p : Program} {l : Launch} {e : Env} {R : Room} {s : State} {m : MethodId} {args : Array Value} {below : List Frame} {meth : Method} {c : Code} {V : zm_V} {mc ms d rc rs : Nat} (hX : zm_X p R s m args meth c RX18 "card" cX18_card 3 zk_E V mc ms) (hr : meth.sig.returnType = (some .int)) (hR : R.frames = d ∧ R.locals = 64 * d) (hd : 3 ≤ d) {N : Nat} {a0 : Nat} {i1 : Int32} {i2 : Int32} {t0 : Nat} {t1 : Int32} {t2 : Int32} {out : (Int32 × zm_S)} {S : zm_S} (h : zf_X18_card_J45 N a0 i1 i2 t0 t1 t2 S = some out) : zw p l e R s m args below meth c (vx_MQ below (zm_Qc zk_E V (zo_i out)) (zm_XC zk_E V zo_x) args s mc ms (fun q => V.2.2.2.1 ≤ q)) 3 zk_E V mc ms 45 [(0, .ref a0), (1, .int i1), (2, .int i2)] [.int t2, .int t1, .ref t0] S rc rs := by
  unfold zf_X18_card_J45 at h
  obtain ⟨_, gi, h⟩ := zb_some h
  obtain ⟨r6, g, h⟩ := zb_some h
  refine zc_Vi (as := [.int t1, .int t2]) hX gi (zt_X18_goes (d := d - 1) (by omega) g) zl_X18_199 rfl dX18_card_45 ⟨rfl, rfl, Nat.le_of_ble_eq_true rfl⟩ ⟨by omega, by omega⟩ ?_
  refine zw_if_ne (tgt := 53) hX dX18_card_48 (by decide) (fun c48 => ?_) (fun c48 => ?_)
  · rw [if_neg c48] at h
    refine zw_aload_n hX dX18_card_53 rfl ?_
    obtain ⟨b7, g, h⟩ := zb_some h
    refine zw_getr hX zl_X18_124 dX18_card_54 g ?_
    refine zw_aload_n hX dX18_card_57 rfl ?_
    obtain ⟨v8, g, h⟩ := zb_some h
    refine zw_geti hX zl_X18_382 dX18_card_58 g ?_
    refine zw_iload_n hX dX18_card_61 rfl ?_
    obtain ⟨S9, g, h⟩ := zb_some h
    refine zw_si hX dX18_card_62 g ?_
    refine zw_aload_n hX dX18_card_63 rfl ?_
    obtain ⟨b10, g, h⟩ := zb_some h
    refine zw_getr hX zl_X18_127 dX18_card_64 g ?_
    refine zw_aload_n hX dX18_card_67 rfl ?_
    obtain ⟨v11, g, h⟩ := zb_some h
    refine zw_geti hX zl_X18_382 dX18_card_68 g ?_
    refine zw_iload_n hX dX18_card_71 rfl ?_
    obtain ⟨S12, g, h⟩ := zb_some h
    refine zw_si hX dX18_card_72 g ?_
    refine zw_aload_n hX dX18_card_73 rfl ?_
    refine zw_iconst (v := (0 : Int32)) hX dX18_card_74 (by decide) ?_
    refine zw_aload_n hX dX18_card_75 rfl ?_
    obtain ⟨v13, g, h⟩ := zb_some h
    refine zw_geti hX zl_X18_382 dX18_card_76 g ?_
    refine zw_iload_n hX dX18_card_79 rfl ?_
    obtain ⟨_, gi, h⟩ := zb_some h
    obtain ⟨r15, g, h⟩ := zb_some h
    refine zc_Vv (as := [.int (0 : Int32), .int v13, .int i2]) hX gi (zt_X18_tell (d := d - 1) (by omega) g) zl_X18_385 rfl dX18_card_80 ⟨rfl, rfl, Nat.le_of_ble_eq_true rfl⟩ ⟨by omega, by omega⟩ ?_
    refine zw_aload_n hX dX18_card_83 rfl ?_
    refine zw_dup hX dX18_card_84 rfl ?_
    obtain ⟨v16, g, h⟩ := zb_some h
    refine zw_geti hX zl_X18_382 dX18_card_85 g ?_
    refine zw_iconst (v := (1 : Int32)) hX dX18_card_88 (by decide) ?_
    refine zw_iadd hX dX18_card_89 ?_
    obtain ⟨S17, g, h⟩ := zb_some h
    refine zw_putv hX zl_X18_382 zt_18_36 dX18_card_90 rfl rfl g ?_
    refine zw_aload_n hX dX18_card_93 rfl ?_
    obtain ⟨v18, g, h⟩ := zb_some h
    refine zw_geti hX zl_X18_382 dX18_card_94 g ?_
    refine zw_iconst (v := (1 : Int32)) hX dX18_card_97 (by decide) ?_
    refine zw_isub hX dX18_card_98 ?_
    obtain rfl := Option.some.inj h
    exact zw_iret hX hr dX18_card_99 rfl ⟨rfl, rfl⟩
  · rw [if_pos c48] at h
    refine zw_iconst (v := (0 : Int32)) hX dX18_card_51 (by decide) ?_
    obtain rfl := Option.some.inj h
    exact zw_iret hX hr dX18_card_52 rfl ⟨rfl, rfl⟩
set_option maxHeartbeats 4000000 in
set_option maxRecDepth 100000 in
theorem zt_X18_card_J44 {p : Program} {l : Launch} {e : Env} {R : Room} {s : State} {m : MethodId} {args : Array Value} {below : List Frame} {meth : Method} {c : Code} {V : zm_V} {mc ms d rc rs : Nat} (hX : zm_X p R s m args meth c RX18 "card" cX18_card 3 zk_E V mc ms) (hr : meth.sig.returnType = (some .int)) (hR : R.frames = d ∧ R.locals = 64 * d) (hd : 3 ≤ d) {N : Nat} {a0 : Nat} {i1 : Int32} {i2 : Int32} {t0 : Nat} {t1 : Int32} {out : (Int32 × zm_S)} {S : zm_S} (h : zf_X18_card_J44 N a0 i1 i2 t0 t1 S = some out) : zw p l e R s m args below meth c (vx_MQ below (zm_Qc zk_E V (zo_i out)) (zm_XC zk_E V zo_x) args s mc ms (fun q => V.2.2.2.1 ≤ q)) 3 zk_E V mc ms 44 [(0, .ref a0), (1, .int i1), (2, .int i2)] [.int t1, .ref t0] S rc rs := by
  unfold zf_X18_card_J44 at h
  refine zw_iconst (v := (0 : Int32)) hX dX18_card_44 (by decide) ?_
  refine zw_sub (lv' := [(0, .ref a0), (1, .int i1), (2, .int i2)]) (List.forall_mem_cons.mpr ⟨rfl, (List.forall_mem_cons.mpr ⟨rfl, (List.forall_mem_cons.mpr ⟨rfl, zs_nil⟩)⟩)⟩) ?_
  exact zt_X18_card_J45 hX hr hR hd h
set_option maxHeartbeats 4000000 in
set_option maxRecDepth 100000 in
theorem zt_X18_card_J24 {p : Program} {l : Launch} {e : Env} {R : Room} {s : State} {m : MethodId} {args : Array Value} {below : List Frame} {meth : Method} {c : Code} {V : zm_V} {mc ms d rc rs : Nat} (hX : zm_X p R s m args meth c RX18 "card" cX18_card 3 zk_E V mc ms) (hr : meth.sig.returnType = (some .int)) (hR : R.frames = d ∧ R.locals = 64 * d) (hd : 3 ≤ d) {N : Nat} {a0 : Nat} {i1 : Int32} {i2 : Int32} {t0 : Nat} {t1 : Int32} {out : (Int32 × zm_S)} {S : zm_S} (h : zf_X18_card_J24 N a0 i1 i2 t0 t1 S = some out) : zw p l e R s m args below meth c (vx_MQ below (zm_Qc zk_E V (zo_i out)) (zm_XC zk_E V zo_x) args s mc ms (fun q => V.2.2.2.1 ≤ q)) 3 zk_E V mc ms 24 [(0, .ref a0), (1, .int i1), (2, .int i2)] [.int t1, .ref t0] S rc rs := by
  unfold zf_X18_card_J24 at h
  refine zw_aload_n hX dX18_card_24 rfl ?_
  obtain ⟨v4, g, h⟩ := zb_some h
  refine zw_geti hX zl_X18_192 dX18_card_25 g ?_
  refine zw_if_eq (tgt := 44) hX dX18_card_28 (by decide) (fun c28 => ?_) (fun c28 => ?_)
  · rw [if_pos c28] at h
    refine zw_sub (lv' := [(0, .ref a0), (1, .int i1), (2, .int i2)]) (List.forall_mem_cons.mpr ⟨rfl, (List.forall_mem_cons.mpr ⟨rfl, (List.forall_mem_cons.mpr ⟨rfl, zs_nil⟩)⟩)⟩) ?_
    exact zt_X18_card_J44 hX hr hR hd h
  · rw [if_neg c28] at h
    refine zw_aload_n hX dX18_card_31 rfl ?_
    obtain ⟨v19, g, h⟩ := zb_some h
    refine zw_geti hX zl_X18_382 dX18_card_32 g ?_
    refine zw_bipush (v := (60 : Int32)) hX dX18_card_35 (by decide) ?_
    refine zw_icmp_ge (tgt := 44) hX dX18_card_37 (by decide) (fun c37 => ?_) (fun c37 => ?_)
    · rw [if_pos c37] at h
      refine zw_sub (lv' := [(0, .ref a0), (1, .int i1), (2, .int i2)]) (List.forall_mem_cons.mpr ⟨rfl, (List.forall_mem_cons.mpr ⟨rfl, (List.forall_mem_cons.mpr ⟨rfl, zs_nil⟩)⟩)⟩) ?_
      exact zt_X18_card_J44 hX hr hR hd h
    · rw [if_neg c37] at h
      refine zw_iconst (v := (1 : Int32)) hX dX18_card_40 (by decide) ?_
      refine zw_goto (tgt := 45) hX dX18_card_41 (by decide) ?_
      refine zw_sub (lv' := [(0, .ref a0), (1, .int i1), (2, .int i2)]) (List.forall_mem_cons.mpr ⟨rfl, (List.forall_mem_cons.mpr ⟨rfl, (List.forall_mem_cons.mpr ⟨rfl, zs_nil⟩)⟩)⟩) ?_
      exact zt_X18_card_J45 hX hr hR hd h
set_option maxHeartbeats 4000000 in
set_option maxRecDepth 100000 in
theorem zt_X18_card_J23 {p : Program} {l : Launch} {e : Env} {R : Room} {s : State} {m : MethodId} {args : Array Value} {below : List Frame} {meth : Method} {c : Code} {V : zm_V} {mc ms d rc rs : Nat} (hX : zm_X p R s m args meth c RX18 "card" cX18_card 3 zk_E V mc ms) (hr : meth.sig.returnType = (some .int)) (hR : R.frames = d ∧ R.locals = 64 * d) (hd : 3 ≤ d) {N : Nat} {a0 : Nat} {i1 : Int32} {i2 : Int32} {t0 : Nat} {out : (Int32 × zm_S)} {S : zm_S} (h : zf_X18_card_J23 N a0 i1 i2 t0 S = some out) : zw p l e R s m args below meth c (vx_MQ below (zm_Qc zk_E V (zo_i out)) (zm_XC zk_E V zo_x) args s mc ms (fun q => V.2.2.2.1 ≤ q)) 3 zk_E V mc ms 23 [(0, .ref a0), (1, .int i1), (2, .int i2)] [.ref t0] S rc rs := by
  unfold zf_X18_card_J23 at h
  refine zw_iconst (v := (0 : Int32)) hX dX18_card_23 (by decide) ?_
  refine zw_sub (lv' := [(0, .ref a0), (1, .int i1), (2, .int i2)]) (List.forall_mem_cons.mpr ⟨rfl, (List.forall_mem_cons.mpr ⟨rfl, (List.forall_mem_cons.mpr ⟨rfl, zs_nil⟩)⟩)⟩) ?_
  exact zt_X18_card_J24 hX hr hR hd h
set_option maxHeartbeats 4000000 in
set_option maxRecDepth 100000 in
theorem zt_X18_card {l : Launch} {V : zm_V} {N : Nat} {S : zm_S} {out : (Int32 × zm_S)} {d : Nat} {a0 : Nat} {i1 : Int32} {i2 : Int32} (hd : 3 ≤ d) (h : zf_X18_card N a0 i1 i2 S = some out) : zm_Met l zk_E V yX18_card (.code yX18_card cX18_card 3 (some .int)) d [.ref a0, .int i1, .int i2] S 0 0 (zo_i out) zo_x := by
  refine zm_of (by decide +kernel) (Nat.le_of_ble_eq_true rfl) ?_
  intro p e R s m args below meth c hRR hX hr hxt
  have hR : R.frames = d ∧ R.locals = 64 * d := by rw [hRR]; exact ⟨rfl, rfl⟩
  have hX : zm_X p R s m args meth c RX18 "card" cX18_card 3 zk_E V 0 0 := hX
  unfold zf_X18_card at h
  refine zw_sub (lv' := [(0, .ref a0), (1, .int i1), (2, .int i2)]) (List.forall_mem_cons.mpr ⟨rfl, (List.forall_mem_cons.mpr ⟨rfl, (List.forall_mem_cons.mpr ⟨rfl, zs_nil⟩)⟩)⟩) ?_
  refine zw_aload_n hX dX18_card_0 rfl ?_
  refine zw_iload_n hX dX18_card_1 rfl ?_
  refine zw_aload_n hX dX18_card_2 rfl ?_
  obtain ⟨v1, g, h⟩ := zb_some h
  refine zw_geti hX zl_X18_369 dX18_card_3 g ?_
  obtain ⟨r3, g, h⟩ := zb_some h
  refine zc_Si (as := [.int i1, .int v1]) hX (zt_X18_isIn (d := d - 1) (by omega) g) zl_X18_207 dX18_card_6 ⟨rfl, rfl, Nat.le_of_ble_eq_true rfl⟩ ⟨by omega, by omega⟩ ?_
  refine zw_if_eq (tgt := 23) hX dX18_card_9 (by decide) (fun c9 => ?_) (fun c9 => ?_)
  · rw [if_pos c9] at h
    refine zw_sub (lv' := [(0, .ref a0), (1, .int i1), (2, .int i2)]) (List.forall_mem_cons.mpr ⟨rfl, (List.forall_mem_cons.mpr ⟨rfl, (List.forall_mem_cons.mpr ⟨rfl, zs_nil⟩)⟩)⟩) ?_
    exact zt_X18_card_J23 hX hr hR hd h
  · rw [if_neg c9] at h
    refine zw_iload_n hX dX18_card_12 rfl ?_
    obtain ⟨r21, g, h⟩ := zb_some h
    refine zc_Si (as := [.int i2]) hX (zt_X18_isMinute (d := d - 1) (by omega) g) zl_X18_379 dX18_card_13 ⟨rfl, rfl, Nat.le_of_ble_eq_true rfl⟩ ⟨by omega, by omega⟩ ?_
    refine zw_if_eq (tgt := 23) hX dX18_card_16 (by decide) (fun c16 => ?_) (fun c16 => ?_)
    · rw [if_pos c16] at h
      refine zw_sub (lv' := [(0, .ref a0), (1, .int i1), (2, .int i2)]) (List.forall_mem_cons.mpr ⟨rfl, (List.forall_mem_cons.mpr ⟨rfl, (List.forall_mem_cons.mpr ⟨rfl, zs_nil⟩)⟩)⟩) ?_
      exact zt_X18_card_J23 hX hr hR hd h
    · rw [if_neg c16] at h
      refine zw_iconst (v := (1 : Int32)) hX dX18_card_19 (by decide) ?_
      refine zw_goto (tgt := 24) hX dX18_card_20 (by decide) ?_
      refine zw_sub (lv' := [(0, .ref a0), (1, .int i1), (2, .int i2)]) (List.forall_mem_cons.mpr ⟨rfl, (List.forall_mem_cons.mpr ⟨rfl, (List.forall_mem_cons.mpr ⟨rfl, zs_nil⟩)⟩)⟩) ?_
      exact zt_X18_card_J24 hX hr hR hd h
set_option maxHeartbeats 4000000 in
set_option maxRecDepth 100000 in
theorem zt_X18_right_J78 {p : Program} {l : Launch} {e : Env} {R : Room} {s : State} {m : MethodId} {args : Array Value} {below : List Frame} {meth : Method} {c : Code} {V : zm_V} {mc ms d rc rs : Nat} (hX : zm_X p R s m args meth c RX18 "right" cX18_right 7 zk_E V mc ms) (hr : meth.sig.returnType = (some .int)) (hR : R.frames = d ∧ R.locals = 64 * d) (hd : 3 ≤ d) {N : Nat} {a0 : Nat} {i1 : Int32} {i2 : Int32} {i3 : Int32} {i4 : Int32} {i5 : Int32} {t0 : Nat} {t1 : Int32} {t2 : Int32} {out : (Int32 × zm_S)} {S : zm_S} (h : zf_X18_right_J78 N a0 i1 i2 i3 i4 i5 t0 t1 t2 S = some out) : zw p l e R s m args below meth c (vx_MQ below (zm_Qc zk_E V (zo_i out)) (zm_XC zk_E V zo_x) args s mc ms (fun q => V.2.2.2.1 ≤ q)) 7 zk_E V mc ms 78 [(0, .ref a0), (1, .int i1), (2, .int i2), (3, .int i3), (4, .int i4), (5, .int i5)] [.int t2, .int t1, .ref t0] S rc rs := by
  unfold zf_X18_right_J78 at h
  obtain ⟨_, gi, h⟩ := zb_some h
  obtain ⟨r5, g, h⟩ := zb_some h
  refine zc_Vi (as := [.int t1, .int t2]) hX gi (zt_X18_goes (d := d - 1) (by omega) g) zl_X18_199 rfl dX18_right_78 ⟨rfl, rfl, Nat.le_of_ble_eq_true rfl⟩ ⟨by omega, by omega⟩ ?_
  refine zw_if_ne (tgt := 86) hX dX18_right_81 (by decide) (fun c81 => ?_) (fun c81 => ?_)
  · rw [if_neg c81] at h
    refine zw_aload_n hX dX18_right_86 rfl ?_
    obtain ⟨b6, g, h⟩ := zb_some h
    refine zw_getr hX zl_X18_130 dX18_right_87 g ?_
    refine zw_aload_n hX dX18_right_90 rfl ?_
    obtain ⟨v7, g, h⟩ := zb_some h
    refine zw_geti hX zl_X18_388 dX18_right_91 g ?_
    refine zw_iload_n hX dX18_right_94 rfl ?_
    obtain ⟨S8, g, h⟩ := zb_some h
    refine zw_si hX dX18_right_95 g ?_
    refine zw_aload_n hX dX18_right_96 rfl ?_
    obtain ⟨b9, g, h⟩ := zb_some h
    refine zw_getr hX zl_X18_133 dX18_right_97 g ?_
    refine zw_aload_n hX dX18_right_100 rfl ?_
    obtain ⟨v10, g, h⟩ := zb_some h
    refine zw_geti hX zl_X18_388 dX18_right_101 g ?_
    refine zw_iload_n hX dX18_right_104 rfl ?_
    obtain ⟨S11, g, h⟩ := zb_some h
    refine zw_si hX dX18_right_105 g ?_
    refine zw_aload_n hX dX18_right_106 rfl ?_
    obtain ⟨b12, g, h⟩ := zb_some h
    refine zw_getr hX zl_X18_136 dX18_right_107 g ?_
    refine zw_aload_n hX dX18_right_110 rfl ?_
    obtain ⟨v13, g, h⟩ := zb_some h
    refine zw_geti hX zl_X18_388 dX18_right_111 g ?_
    refine zw_iload_n hX dX18_right_114 rfl ?_
    obtain ⟨S14, g, h⟩ := zb_some h
    refine zw_si hX dX18_right_115 g ?_
    refine zw_aload_n hX dX18_right_116 rfl ?_
    obtain ⟨b15, g, h⟩ := zb_some h
    refine zw_getr hX zl_X18_139 dX18_right_117 g ?_
    refine zw_aload_n hX dX18_right_120 rfl ?_
    obtain ⟨v16, g, h⟩ := zb_some h
    refine zw_geti hX zl_X18_388 dX18_right_121 g ?_
    refine zw_iload hX dX18_right_124 rfl ?_
    obtain ⟨S17, g, h⟩ := zb_some h
    refine zw_si hX dX18_right_126 g ?_
    refine zw_aload_n hX dX18_right_127 rfl ?_
    obtain ⟨b18, g, h⟩ := zb_some h
    refine zw_getr hX zl_X18_142 dX18_right_128 g ?_
    refine zw_aload_n hX dX18_right_131 rfl ?_
    obtain ⟨v19, g, h⟩ := zb_some h
    refine zw_geti hX zl_X18_388 dX18_right_132 g ?_
    refine zw_iload hX dX18_right_135 rfl ?_
    obtain ⟨S20, g, h⟩ := zb_some h
    refine zw_si hX dX18_right_137 g ?_
    refine zw_aload_n hX dX18_right_138 rfl ?_
    refine zw_iconst (v := (1 : Int32)) hX dX18_right_139 (by decide) ?_
    refine zw_aload_n hX dX18_right_140 rfl ?_
    obtain ⟨v21, g, h⟩ := zb_some h
    refine zw_geti hX zl_X18_388 dX18_right_141 g ?_
    refine zw_iload hX dX18_right_144 rfl ?_
    obtain ⟨_, gi, h⟩ := zb_some h
    obtain ⟨r23, g, h⟩ := zb_some h
    refine zc_Vv (as := [.int (1 : Int32), .int v21, .int i5]) hX gi (zt_X18_tell (d := d - 1) (by omega) g) zl_X18_385 rfl dX18_right_146 ⟨rfl, rfl, Nat.le_of_ble_eq_true rfl⟩ ⟨by omega, by omega⟩ ?_
    refine zw_aload_n hX dX18_right_149 rfl ?_
    refine zw_dup hX dX18_right_150 rfl ?_
    obtain ⟨v24, g, h⟩ := zb_some h
    refine zw_geti hX zl_X18_388 dX18_right_151 g ?_
    refine zw_iconst (v := (1 : Int32)) hX dX18_right_154 (by decide) ?_
    refine zw_iadd hX dX18_right_155 ?_
    obtain ⟨S25, g, h⟩ := zb_some h
    refine zw_putv hX zl_X18_388 zt_18_39 dX18_right_156 rfl rfl g ?_
    refine zw_aload_n hX dX18_right_159 rfl ?_
    obtain ⟨v26, g, h⟩ := zb_some h
    refine zw_geti hX zl_X18_388 dX18_right_160 g ?_
    refine zw_iconst (v := (1 : Int32)) hX dX18_right_163 (by decide) ?_
    refine zw_isub hX dX18_right_164 ?_
    obtain rfl := Option.some.inj h
    exact zw_iret hX hr dX18_right_165 rfl ⟨rfl, rfl⟩
  · rw [if_pos c81] at h
    refine zw_iconst (v := (0 : Int32)) hX dX18_right_84 (by decide) ?_
    obtain rfl := Option.some.inj h
    exact zw_iret hX hr dX18_right_85 rfl ⟨rfl, rfl⟩
set_option maxHeartbeats 4000000 in
set_option maxRecDepth 100000 in
theorem zt_X18_right_J77 {p : Program} {l : Launch} {e : Env} {R : Room} {s : State} {m : MethodId} {args : Array Value} {below : List Frame} {meth : Method} {c : Code} {V : zm_V} {mc ms d rc rs : Nat} (hX : zm_X p R s m args meth c RX18 "right" cX18_right 7 zk_E V mc ms) (hr : meth.sig.returnType = (some .int)) (hR : R.frames = d ∧ R.locals = 64 * d) (hd : 3 ≤ d) {N : Nat} {a0 : Nat} {i1 : Int32} {i2 : Int32} {i3 : Int32} {i4 : Int32} {i5 : Int32} {t0 : Nat} {t1 : Int32} {out : (Int32 × zm_S)} {S : zm_S} (h : zf_X18_right_J77 N a0 i1 i2 i3 i4 i5 t0 t1 S = some out) : zw p l e R s m args below meth c (vx_MQ below (zm_Qc zk_E V (zo_i out)) (zm_XC zk_E V zo_x) args s mc ms (fun q => V.2.2.2.1 ≤ q)) 7 zk_E V mc ms 77 [(0, .ref a0), (1, .int i1), (2, .int i2), (3, .int i3), (4, .int i4), (5, .int i5)] [.int t1, .ref t0] S rc rs := by
  unfold zf_X18_right_J77 at h
  refine zw_iconst (v := (0 : Int32)) hX dX18_right_77 (by decide) ?_
  refine zw_sub (lv' := [(0, .ref a0), (1, .int i1), (2, .int i2), (3, .int i3), (4, .int i4), (5, .int i5)]) (List.forall_mem_cons.mpr ⟨rfl, (List.forall_mem_cons.mpr ⟨rfl, (List.forall_mem_cons.mpr ⟨rfl, (List.forall_mem_cons.mpr ⟨rfl, (List.forall_mem_cons.mpr ⟨rfl, (List.forall_mem_cons.mpr ⟨rfl, zs_nil⟩)⟩)⟩)⟩)⟩)⟩) ?_
  exact zt_X18_right_J78 hX hr hR hd h
set_option maxHeartbeats 4000000 in
set_option maxRecDepth 100000 in
theorem zt_X18_right_J52 {p : Program} {l : Launch} {e : Env} {R : Room} {s : State} {m : MethodId} {args : Array Value} {below : List Frame} {meth : Method} {c : Code} {V : zm_V} {mc ms d rc rs : Nat} (hX : zm_X p R s m args meth c RX18 "right" cX18_right 7 zk_E V mc ms) (hr : meth.sig.returnType = (some .int)) (hR : R.frames = d ∧ R.locals = 64 * d) (hd : 3 ≤ d) {N : Nat} {a0 : Nat} {i1 : Int32} {i2 : Int32} {i3 : Int32} {i4 : Int32} {i5 : Int32} {t0 : Int32} {out : (Int32 × zm_S)} {S : zm_S} (h : zf_X18_right_J52 N a0 i1 i2 i3 i4 i5 t0 S = some out) : zw p l e R s m args below meth c (vx_MQ below (zm_Qc zk_E V (zo_i out)) (zm_XC zk_E V zo_x) args s mc ms (fun q => V.2.2.2.1 ≤ q)) 7 zk_E V mc ms 52 [(0, .ref a0), (1, .int i1), (2, .int i2), (3, .int i3), (4, .int i4), (5, .int i5)] [.int t0] S rc rs := by
  unfold zf_X18_right_J52 at h
  refine zw_istore hX dX18_right_52 (by decide) ?_
  refine zw_aload_n hX dX18_right_54 rfl ?_
  refine zw_iload hX dX18_right_55 rfl ?_
  refine zw_aload_n hX dX18_right_57 rfl ?_
  obtain ⟨v3, g, h⟩ := zb_some h
  refine zw_geti hX zl_X18_192 dX18_right_58 g ?_
  refine zw_if_eq (tgt := 77) hX dX18_right_61 (by decide) (fun c61 => ?_) (fun c61 => ?_)
  · rw [if_pos c61] at h
    refine zw_sub (lv' := [(0, .ref a0), (1, .int i1), (2, .int i2), (3, .int i3), (4, .int i4), (5, .int i5)]) (List.forall_mem_cons.mpr ⟨rfl, (List.forall_mem_cons.mpr ⟨rfl, (List.forall_mem_cons.mpr ⟨rfl, (List.forall_mem_cons.mpr ⟨rfl, (List.forall_mem_cons.mpr ⟨rfl, (List.forall_mem_cons.mpr ⟨rfl, zs_nil⟩)⟩)⟩)⟩)⟩)⟩) ?_
    exact zt_X18_right_J77 hX hr hR hd h
  · rw [if_neg c61] at h
    refine zw_aload_n hX dX18_right_64 rfl ?_
    obtain ⟨v27, g, h⟩ := zb_some h
    refine zw_geti hX zl_X18_388 dX18_right_65 g ?_
    refine zw_bipush (v := (16 : Int32)) hX dX18_right_68 (by decide) ?_
    refine zw_icmp_ge (tgt := 77) hX dX18_right_70 (by decide) (fun c70 => ?_) (fun c70 => ?_)
    · rw [if_pos c70] at h
      refine zw_sub (lv' := [(0, .ref a0), (1, .int i1), (2, .int i2), (3, .int i3), (4, .int i4), (5, .int i5)]) (List.forall_mem_cons.mpr ⟨rfl, (List.forall_mem_cons.mpr ⟨rfl, (List.forall_mem_cons.mpr ⟨rfl, (List.forall_mem_cons.mpr ⟨rfl, (List.forall_mem_cons.mpr ⟨rfl, (List.forall_mem_cons.mpr ⟨rfl, zs_nil⟩)⟩)⟩)⟩)⟩)⟩) ?_
      exact zt_X18_right_J77 hX hr hR hd h
    · rw [if_neg c70] at h
      refine zw_iconst (v := (1 : Int32)) hX dX18_right_73 (by decide) ?_
      refine zw_goto (tgt := 78) hX dX18_right_74 (by decide) ?_
      refine zw_sub (lv' := [(0, .ref a0), (1, .int i1), (2, .int i2), (3, .int i3), (4, .int i4), (5, .int i5)]) (List.forall_mem_cons.mpr ⟨rfl, (List.forall_mem_cons.mpr ⟨rfl, (List.forall_mem_cons.mpr ⟨rfl, (List.forall_mem_cons.mpr ⟨rfl, (List.forall_mem_cons.mpr ⟨rfl, (List.forall_mem_cons.mpr ⟨rfl, zs_nil⟩)⟩)⟩)⟩)⟩)⟩) ?_
      exact zt_X18_right_J78 hX hr hR hd h
set_option maxHeartbeats 4000000 in
set_option maxRecDepth 100000 in
theorem zt_X18_right_J51 {p : Program} {l : Launch} {e : Env} {R : Room} {s : State} {m : MethodId} {args : Array Value} {below : List Frame} {meth : Method} {c : Code} {V : zm_V} {mc ms d rc rs : Nat} (hX : zm_X p R s m args meth c RX18 "right" cX18_right 7 zk_E V mc ms) (hr : meth.sig.returnType = (some .int)) (hR : R.frames = d ∧ R.locals = 64 * d) (hd : 3 ≤ d) {N : Nat} {a0 : Nat} {i1 : Int32} {i2 : Int32} {i3 : Int32} {i4 : Int32} {i5 : Int32} {out : (Int32 × zm_S)} {S : zm_S} (h : zf_X18_right_J51 N a0 i1 i2 i3 i4 i5 S = some out) : zw p l e R s m args below meth c (vx_MQ below (zm_Qc zk_E V (zo_i out)) (zm_XC zk_E V zo_x) args s mc ms (fun q => V.2.2.2.1 ≤ q)) 7 zk_E V mc ms 51 [(0, .ref a0), (1, .int i1), (2, .int i2), (3, .int i3), (4, .int i4), (5, .int i5)] [] S rc rs := by
  unfold zf_X18_right_J51 at h
  refine zw_iconst (v := (0 : Int32)) hX dX18_right_51 (by decide) ?_
  refine zw_sub (lv' := [(0, .ref a0), (1, .int i1), (2, .int i2), (3, .int i3), (4, .int i4), (5, .int i5)]) (List.forall_mem_cons.mpr ⟨rfl, (List.forall_mem_cons.mpr ⟨rfl, (List.forall_mem_cons.mpr ⟨rfl, (List.forall_mem_cons.mpr ⟨rfl, (List.forall_mem_cons.mpr ⟨rfl, (List.forall_mem_cons.mpr ⟨rfl, zs_nil⟩)⟩)⟩)⟩)⟩)⟩) ?_
  exact zt_X18_right_J52 hX hr hR hd h
set_option maxHeartbeats 4000000 in
set_option maxRecDepth 100000 in
theorem zt_X18_right {l : Launch} {V : zm_V} {N : Nat} {S : zm_S} {out : (Int32 × zm_S)} {d : Nat} {a0 : Nat} {i1 : Int32} {i2 : Int32} {i3 : Int32} {i4 : Int32} {i5 : Int32} (hd : 3 ≤ d) (h : zf_X18_right N a0 i1 i2 i3 i4 i5 S = some out) : zm_Met l zk_E V yX18_right (.code yX18_right cX18_right 7 (some .int)) d [.ref a0, .int i1, .int i2, .int i3, .int i4, .int i5] S 0 0 (zo_i out) zo_x := by
  refine zm_of (by decide +kernel) (Nat.le_of_ble_eq_true rfl) ?_
  intro p e R s m args below meth c hRR hX hr hxt
  have hR : R.frames = d ∧ R.locals = 64 * d := by rw [hRR]; exact ⟨rfl, rfl⟩
  have hX : zm_X p R s m args meth c RX18 "right" cX18_right 7 zk_E V 0 0 := hX
  unfold zf_X18_right at h
  refine zw_sub (lv' := [(0, .ref a0), (1, .int i1), (2, .int i2), (3, .int i3), (4, .int i4), (5, .int i5)]) (List.forall_mem_cons.mpr ⟨rfl, (List.forall_mem_cons.mpr ⟨rfl, (List.forall_mem_cons.mpr ⟨rfl, (List.forall_mem_cons.mpr ⟨rfl, (List.forall_mem_cons.mpr ⟨rfl, (List.forall_mem_cons.mpr ⟨rfl, zs_nil⟩)⟩)⟩)⟩)⟩)⟩) ?_
  refine zw_iload_n hX dX18_right_0 rfl ?_
  refine zw_bipush (v := (10 : Int32)) hX dX18_right_1 (by decide) ?_
  obtain ⟨r2, g, h⟩ := zb_some h
  refine zc_Si (as := [.int i1, .int (10 : Int32)]) hX (zt_X18_isIn (d := d - 1) (by omega) g) zl_X18_207 dX18_right_3 ⟨rfl, rfl, Nat.le_of_ble_eq_true rfl⟩ ⟨by omega, by omega⟩ ?_
  refine zw_if_eq (tgt := 51) hX dX18_right_6 (by decide) (fun c6 => ?_) (fun c6 => ?_)
  · rw [if_pos c6] at h
    refine zw_sub (lv' := [(0, .ref a0), (1, .int i1), (2, .int i2), (3, .int i3), (4, .int i4), (5, .int i5)]) (List.forall_mem_cons.mpr ⟨rfl, (List.forall_mem_cons.mpr ⟨rfl, (List.forall_mem_cons.mpr ⟨rfl, (List.forall_mem_cons.mpr ⟨rfl, (List.forall_mem_cons.mpr ⟨rfl, (List.forall_mem_cons.mpr ⟨rfl, zs_nil⟩)⟩)⟩)⟩)⟩)⟩) ?_
    exact zt_X18_right_J51 hX hr hR hd h
  · rw [if_neg c6] at h
    refine zw_iload_n hX dX18_right_9 rfl ?_
    refine zw_bipush (v := (10 : Int32)) hX dX18_right_10 (by decide) ?_
    obtain ⟨r29, g, h⟩ := zb_some h
    refine zc_Si (as := [.int i2, .int (10 : Int32)]) hX (zt_X18_isIn (d := d - 1) (by omega) g) zl_X18_207 dX18_right_12 ⟨rfl, rfl, Nat.le_of_ble_eq_true rfl⟩ ⟨by omega, by omega⟩ ?_
    refine zw_if_eq (tgt := 51) hX dX18_right_15 (by decide) (fun c15 => ?_) (fun c15 => ?_)
    · rw [if_pos c15] at h
      refine zw_sub (lv' := [(0, .ref a0), (1, .int i1), (2, .int i2), (3, .int i3), (4, .int i4), (5, .int i5)]) (List.forall_mem_cons.mpr ⟨rfl, (List.forall_mem_cons.mpr ⟨rfl, (List.forall_mem_cons.mpr ⟨rfl, (List.forall_mem_cons.mpr ⟨rfl, (List.forall_mem_cons.mpr ⟨rfl, (List.forall_mem_cons.mpr ⟨rfl, zs_nil⟩)⟩)⟩)⟩)⟩)⟩) ?_
      exact zt_X18_right_J51 hX hr hR hd h
    · rw [if_neg c15] at h
      refine zw_iload_n hX dX18_right_18 rfl ?_
      refine zw_sipush (v := (1440 : Int32)) hX dX18_right_19 (by decide) ?_
      obtain ⟨r31, g, h⟩ := zb_some h
      refine zc_Si (as := [.int i3, .int (1440 : Int32)]) hX (zt_X18_isIn (d := d - 1) (by omega) g) zl_X18_207 dX18_right_22 ⟨rfl, rfl, Nat.le_of_ble_eq_true rfl⟩ ⟨by omega, by omega⟩ ?_
      refine zw_if_eq (tgt := 51) hX dX18_right_25 (by decide) (fun c25 => ?_) (fun c25 => ?_)
      · rw [if_pos c25] at h
        refine zw_sub (lv' := [(0, .ref a0), (1, .int i1), (2, .int i2), (3, .int i3), (4, .int i4), (5, .int i5)]) (List.forall_mem_cons.mpr ⟨rfl, (List.forall_mem_cons.mpr ⟨rfl, (List.forall_mem_cons.mpr ⟨rfl, (List.forall_mem_cons.mpr ⟨rfl, (List.forall_mem_cons.mpr ⟨rfl, (List.forall_mem_cons.mpr ⟨rfl, zs_nil⟩)⟩)⟩)⟩)⟩)⟩) ?_
        exact zt_X18_right_J51 hX hr hR hd h
      · rw [if_neg c25] at h
        refine zw_iload hX dX18_right_28 rfl ?_
        refine zw_sipush (v := (1440 : Int32)) hX dX18_right_30 (by decide) ?_
        obtain ⟨r33, g, h⟩ := zb_some h
        refine zc_Si (as := [.int i4, .int (1440 : Int32)]) hX (zt_X18_isIn (d := d - 1) (by omega) g) zl_X18_207 dX18_right_33 ⟨rfl, rfl, Nat.le_of_ble_eq_true rfl⟩ ⟨by omega, by omega⟩ ?_
        refine zw_if_eq (tgt := 51) hX dX18_right_36 (by decide) (fun c36 => ?_) (fun c36 => ?_)
        · rw [if_pos c36] at h
          refine zw_sub (lv' := [(0, .ref a0), (1, .int i1), (2, .int i2), (3, .int i3), (4, .int i4), (5, .int i5)]) (List.forall_mem_cons.mpr ⟨rfl, (List.forall_mem_cons.mpr ⟨rfl, (List.forall_mem_cons.mpr ⟨rfl, (List.forall_mem_cons.mpr ⟨rfl, (List.forall_mem_cons.mpr ⟨rfl, (List.forall_mem_cons.mpr ⟨rfl, zs_nil⟩)⟩)⟩)⟩)⟩)⟩) ?_
          exact zt_X18_right_J51 hX hr hR hd h
        · rw [if_neg c36] at h
          refine zw_iload hX dX18_right_39 rfl ?_
          obtain ⟨r35, g, h⟩ := zb_some h
          refine zc_Si (as := [.int i5]) hX (zt_X18_isMinute (d := d - 1) (by omega) g) zl_X18_379 dX18_right_41 ⟨rfl, rfl, Nat.le_of_ble_eq_true rfl⟩ ⟨by omega, by omega⟩ ?_
          refine zw_if_eq (tgt := 51) hX dX18_right_44 (by decide) (fun c44 => ?_) (fun c44 => ?_)
          · rw [if_pos c44] at h
            refine zw_sub (lv' := [(0, .ref a0), (1, .int i1), (2, .int i2), (3, .int i3), (4, .int i4), (5, .int i5)]) (List.forall_mem_cons.mpr ⟨rfl, (List.forall_mem_cons.mpr ⟨rfl, (List.forall_mem_cons.mpr ⟨rfl, (List.forall_mem_cons.mpr ⟨rfl, (List.forall_mem_cons.mpr ⟨rfl, (List.forall_mem_cons.mpr ⟨rfl, zs_nil⟩)⟩)⟩)⟩)⟩)⟩) ?_
            exact zt_X18_right_J51 hX hr hR hd h
          · rw [if_neg c44] at h
            refine zw_iconst (v := (1 : Int32)) hX dX18_right_47 (by decide) ?_
            refine zw_goto (tgt := 52) hX dX18_right_48 (by decide) ?_
            refine zw_sub (lv' := [(0, .ref a0), (1, .int i1), (2, .int i2), (3, .int i3), (4, .int i4), (5, .int i5)]) (List.forall_mem_cons.mpr ⟨rfl, (List.forall_mem_cons.mpr ⟨rfl, (List.forall_mem_cons.mpr ⟨rfl, (List.forall_mem_cons.mpr ⟨rfl, (List.forall_mem_cons.mpr ⟨rfl, (List.forall_mem_cons.mpr ⟨rfl, zs_nil⟩)⟩)⟩)⟩)⟩)⟩) ?_
            exact zt_X18_right_J52 hX hr hR hd h
set_option maxHeartbeats 4000000 in
set_option maxRecDepth 100000 in
theorem zt_X18_end_J24 {p : Program} {l : Launch} {e : Env} {R : Room} {s : State} {m : MethodId} {args : Array Value} {below : List Frame} {meth : Method} {c : Code} {V : zm_V} {mc ms d rc rs : Nat} (hX : zm_X p R s m args meth c RX18 "end" cX18_end 4 zk_E V mc ms) (hr : meth.sig.returnType = (some .int)) (hR : R.frames = d ∧ R.locals = 64 * d) (hd : 3 ≤ d) {N : Nat} {a0 : Nat} {i1 : Int32} {i2 : Int32} {t0 : Nat} {t1 : Int32} {out : (Int32 × zm_S)} {S : zm_S} (h : zf_X18_end_J24 N a0 i1 i2 t0 t1 S = some out) : zw p l e R s m args below meth c (vx_MQ below (zm_Qc zk_E V (zo_i out)) (zm_XC zk_E V zo_x) args s mc ms (fun q => V.2.2.2.1 ≤ q)) 4 zk_E V mc ms 24 [(0, .ref a0), (1, .int i1), (2, .int i2)] [.int t1, .ref t0] S rc rs := by
  unfold zf_X18_end_J24 at h
  refine zw_aload_n hX dX18_end_24 rfl ?_
  obtain ⟨v4, g, h⟩ := zb_some h
  refine zw_geti hX zl_X18_192 dX18_end_25 g ?_
  obtain ⟨_, gi, h⟩ := zb_some h
  obtain ⟨r6, g, h⟩ := zb_some h
  refine zc_Vi (as := [.int t1, .int v4]) hX gi (zt_X18_goes (d := d - 1) (by omega) g) zl_X18_199 rfl dX18_end_28 ⟨rfl, rfl, Nat.le_of_ble_eq_true rfl⟩ ⟨by omega, by omega⟩ ?_
  refine zw_if_ne (tgt := 36) hX dX18_end_31 (by decide) (fun c31 => ?_) (fun c31 => ?_)
  · rw [if_neg c31] at h
    refine zw_aload_n hX dX18_end_36 rfl ?_
    refine zw_iconst (v := (2 : Int32)) hX dX18_end_37 (by decide) ?_
    refine zw_iload_n hX dX18_end_38 rfl ?_
    refine zw_ldcw (v := (2147483647 : Int32)) hX dX18_end_39 zl_X18_354 ?_
    obtain ⟨_, gi, h⟩ := zb_some h
    obtain ⟨r8, g, h⟩ := zb_some h
    refine zc_Vi (as := [.int (2 : Int32), .int i1, .int (2147483647 : Int32)]) hX gi (zt_X18_lastTold (d := d - 1) (by omega) g) zl_X18_391 rfl dX18_end_42 ⟨rfl, rfl, Nat.le_of_ble_eq_true rfl⟩ ⟨by omega, by omega⟩ ?_
    refine zw_istore_n hX dX18_end_45 (by decide) ?_
    refine zw_aload_n hX dX18_end_46 rfl ?_
    refine zw_iconst (v := (2 : Int32)) hX dX18_end_47 (by decide) ?_
    refine zw_iload_n hX dX18_end_48 rfl ?_
    refine zw_iload_n hX dX18_end_49 rfl ?_
    obtain ⟨_, gi, h⟩ := zb_some h
    obtain ⟨r10, g, h⟩ := zb_some h
    refine zc_Vv (as := [.int (2 : Int32), .int i1, .int i2]) hX gi (zt_X18_tell (d := d - 1) (by omega) g) zl_X18_385 rfl dX18_end_50 ⟨rfl, rfl, Nat.le_of_ble_eq_true rfl⟩ ⟨by omega, by omega⟩ ?_
    refine zw_iload_n hX dX18_end_53 rfl ?_
    obtain rfl := Option.some.inj h
    exact zw_iret hX hr dX18_end_54 rfl ⟨rfl, rfl⟩
  · rw [if_pos c31] at h
    refine zw_iconst (v := (0 : Int32)) hX dX18_end_34 (by decide) ?_
    obtain rfl := Option.some.inj h
    exact zw_iret hX hr dX18_end_35 rfl ⟨rfl, rfl⟩
set_option maxHeartbeats 4000000 in
set_option maxRecDepth 100000 in
theorem zt_X18_end_J23 {p : Program} {l : Launch} {e : Env} {R : Room} {s : State} {m : MethodId} {args : Array Value} {below : List Frame} {meth : Method} {c : Code} {V : zm_V} {mc ms d rc rs : Nat} (hX : zm_X p R s m args meth c RX18 "end" cX18_end 4 zk_E V mc ms) (hr : meth.sig.returnType = (some .int)) (hR : R.frames = d ∧ R.locals = 64 * d) (hd : 3 ≤ d) {N : Nat} {a0 : Nat} {i1 : Int32} {i2 : Int32} {t0 : Nat} {out : (Int32 × zm_S)} {S : zm_S} (h : zf_X18_end_J23 N a0 i1 i2 t0 S = some out) : zw p l e R s m args below meth c (vx_MQ below (zm_Qc zk_E V (zo_i out)) (zm_XC zk_E V zo_x) args s mc ms (fun q => V.2.2.2.1 ≤ q)) 4 zk_E V mc ms 23 [(0, .ref a0), (1, .int i1), (2, .int i2)] [.ref t0] S rc rs := by
  unfold zf_X18_end_J23 at h
  refine zw_iconst (v := (0 : Int32)) hX dX18_end_23 (by decide) ?_
  refine zw_sub (lv' := [(0, .ref a0), (1, .int i1), (2, .int i2)]) (List.forall_mem_cons.mpr ⟨rfl, (List.forall_mem_cons.mpr ⟨rfl, (List.forall_mem_cons.mpr ⟨rfl, zs_nil⟩)⟩)⟩) ?_
  exact zt_X18_end_J24 hX hr hR hd h
set_option maxHeartbeats 4000000 in
set_option maxRecDepth 100000 in
theorem zt_X18_end {l : Launch} {V : zm_V} {N : Nat} {S : zm_S} {out : (Int32 × zm_S)} {d : Nat} {a0 : Nat} {i1 : Int32} {i2 : Int32} (hd : 3 ≤ d) (h : zf_X18_end N a0 i1 i2 S = some out) : zm_Met l zk_E V yX18_end (.code yX18_end cX18_end 4 (some .int)) d [.ref a0, .int i1, .int i2] S 0 0 (zo_i out) zo_x := by
  refine zm_of (by decide +kernel) (Nat.le_of_ble_eq_true rfl) ?_
  intro p e R s m args below meth c hRR hX hr hxt
  have hR : R.frames = d ∧ R.locals = 64 * d := by rw [hRR]; exact ⟨rfl, rfl⟩
  have hX : zm_X p R s m args meth c RX18 "end" cX18_end 4 zk_E V 0 0 := hX
  unfold zf_X18_end at h
  refine zw_sub (lv' := [(0, .ref a0), (1, .int i1), (2, .int i2)]) (List.forall_mem_cons.mpr ⟨rfl, (List.forall_mem_cons.mpr ⟨rfl, (List.forall_mem_cons.mpr ⟨rfl, zs_nil⟩)⟩)⟩) ?_
  refine zw_aload_n hX dX18_end_0 rfl ?_
  refine zw_iload_n hX dX18_end_1 rfl ?_
  refine zw_aload_n hX dX18_end_2 rfl ?_
  obtain ⟨v1, g, h⟩ := zb_some h
  refine zw_geti hX zl_X18_388 dX18_end_3 g ?_
  obtain ⟨r3, g, h⟩ := zb_some h
  refine zc_Si (as := [.int i1, .int v1]) hX (zt_X18_isIn (d := d - 1) (by omega) g) zl_X18_207 dX18_end_6 ⟨rfl, rfl, Nat.le_of_ble_eq_true rfl⟩ ⟨by omega, by omega⟩ ?_
  refine zw_if_eq (tgt := 23) hX dX18_end_9 (by decide) (fun c9 => ?_) (fun c9 => ?_)
  · rw [if_pos c9] at h
    refine zw_sub (lv' := [(0, .ref a0), (1, .int i1), (2, .int i2)]) (List.forall_mem_cons.mpr ⟨rfl, (List.forall_mem_cons.mpr ⟨rfl, (List.forall_mem_cons.mpr ⟨rfl, zs_nil⟩)⟩)⟩) ?_
    exact zt_X18_end_J23 hX hr hR hd h
  · rw [if_neg c9] at h
    refine zw_iload_n hX dX18_end_12 rfl ?_
    obtain ⟨r12, g, h⟩ := zb_some h
    refine zc_Si (as := [.int i2]) hX (zt_X18_isMinute (d := d - 1) (by omega) g) zl_X18_379 dX18_end_13 ⟨rfl, rfl, Nat.le_of_ble_eq_true rfl⟩ ⟨by omega, by omega⟩ ?_
    refine zw_if_eq (tgt := 23) hX dX18_end_16 (by decide) (fun c16 => ?_) (fun c16 => ?_)
    · rw [if_pos c16] at h
      refine zw_sub (lv' := [(0, .ref a0), (1, .int i1), (2, .int i2)]) (List.forall_mem_cons.mpr ⟨rfl, (List.forall_mem_cons.mpr ⟨rfl, (List.forall_mem_cons.mpr ⟨rfl, zs_nil⟩)⟩)⟩) ?_
      exact zt_X18_end_J23 hX hr hR hd h
    · rw [if_neg c16] at h
      refine zw_iconst (v := (1 : Int32)) hX dX18_end_19 (by decide) ?_
      refine zw_goto (tgt := 24) hX dX18_end_20 (by decide) ?_
      refine zw_sub (lv' := [(0, .ref a0), (1, .int i1), (2, .int i2)]) (List.forall_mem_cons.mpr ⟨rfl, (List.forall_mem_cons.mpr ⟨rfl, (List.forall_mem_cons.mpr ⟨rfl, zs_nil⟩)⟩)⟩) ?_
      exact zt_X18_end_J24 hX hr hR hd h
set_option maxHeartbeats 4000000 in
set_option maxRecDepth 100000 in
theorem zt_X18_lost_J24 {p : Program} {l : Launch} {e : Env} {R : Room} {s : State} {m : MethodId} {args : Array Value} {below : List Frame} {meth : Method} {c : Code} {V : zm_V} {mc ms d rc rs : Nat} (hX : zm_X p R s m args meth c RX18 "lost" cX18_lost 4 zk_E V mc ms) (hr : meth.sig.returnType = (some .int)) (hR : R.frames = d ∧ R.locals = 64 * d) (hd : 3 ≤ d) {N : Nat} {a0 : Nat} {i1 : Int32} {i2 : Int32} {t0 : Nat} {t1 : Int32} {out : (Int32 × zm_S)} {S : zm_S} (h : zf_X18_lost_J24 N a0 i1 i2 t0 t1 S = some out) : zw p l e R s m args below meth c (vx_MQ below (zm_Qc zk_E V (zo_i out)) (zm_XC zk_E V zo_x) args s mc ms (fun q => V.2.2.2.1 ≤ q)) 4 zk_E V mc ms 24 [(0, .ref a0), (1, .int i1), (2, .int i2)] [.int t1, .ref t0] S rc rs := by
  unfold zf_X18_lost_J24 at h
  refine zw_aload_n hX dX18_lost_24 rfl ?_
  obtain ⟨v4, g, h⟩ := zb_some h
  refine zw_geti hX zl_X18_192 dX18_lost_25 g ?_
  obtain ⟨_, gi, h⟩ := zb_some h
  obtain ⟨r6, g, h⟩ := zb_some h
  refine zc_Vi (as := [.int t1, .int v4]) hX gi (zt_X18_goes (d := d - 1) (by omega) g) zl_X18_199 rfl dX18_lost_28 ⟨rfl, rfl, Nat.le_of_ble_eq_true rfl⟩ ⟨by omega, by omega⟩ ?_
  refine zw_if_ne (tgt := 36) hX dX18_lost_31 (by decide) (fun c31 => ?_) (fun c31 => ?_)
  · rw [if_neg c31] at h
    refine zw_aload_n hX dX18_lost_36 rfl ?_
    refine zw_iconst (v := (3 : Int32)) hX dX18_lost_37 (by decide) ?_
    refine zw_iload_n hX dX18_lost_38 rfl ?_
    refine zw_ldcw (v := (2147483647 : Int32)) hX dX18_lost_39 zl_X18_354 ?_
    obtain ⟨_, gi, h⟩ := zb_some h
    obtain ⟨r8, g, h⟩ := zb_some h
    refine zc_Vi (as := [.int (3 : Int32), .int i1, .int (2147483647 : Int32)]) hX gi (zt_X18_lastTold (d := d - 1) (by omega) g) zl_X18_391 rfl dX18_lost_42 ⟨rfl, rfl, Nat.le_of_ble_eq_true rfl⟩ ⟨by omega, by omega⟩ ?_
    refine zw_istore_n hX dX18_lost_45 (by decide) ?_
    refine zw_aload_n hX dX18_lost_46 rfl ?_
    refine zw_iconst (v := (3 : Int32)) hX dX18_lost_47 (by decide) ?_
    refine zw_iload_n hX dX18_lost_48 rfl ?_
    refine zw_iload_n hX dX18_lost_49 rfl ?_
    obtain ⟨_, gi, h⟩ := zb_some h
    obtain ⟨r10, g, h⟩ := zb_some h
    refine zc_Vv (as := [.int (3 : Int32), .int i1, .int i2]) hX gi (zt_X18_tell (d := d - 1) (by omega) g) zl_X18_385 rfl dX18_lost_50 ⟨rfl, rfl, Nat.le_of_ble_eq_true rfl⟩ ⟨by omega, by omega⟩ ?_
    refine zw_iload_n hX dX18_lost_53 rfl ?_
    obtain rfl := Option.some.inj h
    exact zw_iret hX hr dX18_lost_54 rfl ⟨rfl, rfl⟩
  · rw [if_pos c31] at h
    refine zw_iconst (v := (0 : Int32)) hX dX18_lost_34 (by decide) ?_
    obtain rfl := Option.some.inj h
    exact zw_iret hX hr dX18_lost_35 rfl ⟨rfl, rfl⟩
set_option maxHeartbeats 4000000 in
set_option maxRecDepth 100000 in
theorem zt_X18_lost_J23 {p : Program} {l : Launch} {e : Env} {R : Room} {s : State} {m : MethodId} {args : Array Value} {below : List Frame} {meth : Method} {c : Code} {V : zm_V} {mc ms d rc rs : Nat} (hX : zm_X p R s m args meth c RX18 "lost" cX18_lost 4 zk_E V mc ms) (hr : meth.sig.returnType = (some .int)) (hR : R.frames = d ∧ R.locals = 64 * d) (hd : 3 ≤ d) {N : Nat} {a0 : Nat} {i1 : Int32} {i2 : Int32} {t0 : Nat} {out : (Int32 × zm_S)} {S : zm_S} (h : zf_X18_lost_J23 N a0 i1 i2 t0 S = some out) : zw p l e R s m args below meth c (vx_MQ below (zm_Qc zk_E V (zo_i out)) (zm_XC zk_E V zo_x) args s mc ms (fun q => V.2.2.2.1 ≤ q)) 4 zk_E V mc ms 23 [(0, .ref a0), (1, .int i1), (2, .int i2)] [.ref t0] S rc rs := by
  unfold zf_X18_lost_J23 at h
  refine zw_iconst (v := (0 : Int32)) hX dX18_lost_23 (by decide) ?_
  refine zw_sub (lv' := [(0, .ref a0), (1, .int i1), (2, .int i2)]) (List.forall_mem_cons.mpr ⟨rfl, (List.forall_mem_cons.mpr ⟨rfl, (List.forall_mem_cons.mpr ⟨rfl, zs_nil⟩)⟩)⟩) ?_
  exact zt_X18_lost_J24 hX hr hR hd h
set_option maxHeartbeats 4000000 in
set_option maxRecDepth 100000 in
theorem zt_X18_lost {l : Launch} {V : zm_V} {N : Nat} {S : zm_S} {out : (Int32 × zm_S)} {d : Nat} {a0 : Nat} {i1 : Int32} {i2 : Int32} (hd : 3 ≤ d) (h : zf_X18_lost N a0 i1 i2 S = some out) : zm_Met l zk_E V yX18_lost (.code yX18_lost cX18_lost 4 (some .int)) d [.ref a0, .int i1, .int i2] S 0 0 (zo_i out) zo_x := by
  refine zm_of (by decide +kernel) (Nat.le_of_ble_eq_true rfl) ?_
  intro p e R s m args below meth c hRR hX hr hxt
  have hR : R.frames = d ∧ R.locals = 64 * d := by rw [hRR]; exact ⟨rfl, rfl⟩
  have hX : zm_X p R s m args meth c RX18 "lost" cX18_lost 4 zk_E V 0 0 := hX
  unfold zf_X18_lost at h
  refine zw_sub (lv' := [(0, .ref a0), (1, .int i1), (2, .int i2)]) (List.forall_mem_cons.mpr ⟨rfl, (List.forall_mem_cons.mpr ⟨rfl, (List.forall_mem_cons.mpr ⟨rfl, zs_nil⟩)⟩)⟩) ?_
  refine zw_aload_n hX dX18_lost_0 rfl ?_
  refine zw_iload_n hX dX18_lost_1 rfl ?_
  refine zw_aload_n hX dX18_lost_2 rfl ?_
  obtain ⟨v1, g, h⟩ := zb_some h
  refine zw_geti hX zl_X18_382 dX18_lost_3 g ?_
  obtain ⟨r3, g, h⟩ := zb_some h
  refine zc_Si (as := [.int i1, .int v1]) hX (zt_X18_isIn (d := d - 1) (by omega) g) zl_X18_207 dX18_lost_6 ⟨rfl, rfl, Nat.le_of_ble_eq_true rfl⟩ ⟨by omega, by omega⟩ ?_
  refine zw_if_eq (tgt := 23) hX dX18_lost_9 (by decide) (fun c9 => ?_) (fun c9 => ?_)
  · rw [if_pos c9] at h
    refine zw_sub (lv' := [(0, .ref a0), (1, .int i1), (2, .int i2)]) (List.forall_mem_cons.mpr ⟨rfl, (List.forall_mem_cons.mpr ⟨rfl, (List.forall_mem_cons.mpr ⟨rfl, zs_nil⟩)⟩)⟩) ?_
    exact zt_X18_lost_J23 hX hr hR hd h
  · rw [if_neg c9] at h
    refine zw_iload_n hX dX18_lost_12 rfl ?_
    obtain ⟨r12, g, h⟩ := zb_some h
    refine zc_Si (as := [.int i2]) hX (zt_X18_isMinute (d := d - 1) (by omega) g) zl_X18_379 dX18_lost_13 ⟨rfl, rfl, Nat.le_of_ble_eq_true rfl⟩ ⟨by omega, by omega⟩ ?_
    refine zw_if_eq (tgt := 23) hX dX18_lost_16 (by decide) (fun c16 => ?_) (fun c16 => ?_)
    · rw [if_pos c16] at h
      refine zw_sub (lv' := [(0, .ref a0), (1, .int i1), (2, .int i2)]) (List.forall_mem_cons.mpr ⟨rfl, (List.forall_mem_cons.mpr ⟨rfl, (List.forall_mem_cons.mpr ⟨rfl, zs_nil⟩)⟩)⟩) ?_
      exact zt_X18_lost_J23 hX hr hR hd h
    · rw [if_neg c16] at h
      refine zw_iconst (v := (1 : Int32)) hX dX18_lost_19 (by decide) ?_
      refine zw_goto (tgt := 24) hX dX18_lost_20 (by decide) ?_
      refine zw_sub (lv' := [(0, .ref a0), (1, .int i1), (2, .int i2)]) (List.forall_mem_cons.mpr ⟨rfl, (List.forall_mem_cons.mpr ⟨rfl, (List.forall_mem_cons.mpr ⟨rfl, zs_nil⟩)⟩)⟩) ?_
      exact zt_X18_lost_J24 hX hr hR hd h
set_option maxHeartbeats 4000000 in
set_option maxRecDepth 100000 in
theorem zt_X18_two {l : Launch} {V : zm_V} {N : Nat} {S : zm_S} {out : (Int32 × zm_S)} {d : Nat} {a0 : Nat} {i1 : Int32} {i2 : Int32} (hd : 2 ≤ d) (h : zf_X18_two N a0 i1 i2 S = some out) : zm_Met l zk_E V yX18_two (.code yX18_two cX18_two 4 (some .boolean)) d [.ref a0, .int i1, .int i2] S 0 0 (zo_i out) zo_x := by
  refine zm_of (by decide +kernel) (Nat.le_of_ble_eq_true rfl) ?_
  intro p e R s m args below meth c hRR hX hr hxt
  have hR : R.frames = d ∧ R.locals = 64 * d := by rw [hRR]; exact ⟨rfl, rfl⟩
  have hX : zm_X p R s m args meth c RX18 "two" cX18_two 4 zk_E V 0 0 := hX
  unfold zf_X18_two at h
  refine zw_sub (lv' := [(0, .ref a0), (1, .int i1), (2, .int i2)]) (List.forall_mem_cons.mpr ⟨rfl, (List.forall_mem_cons.mpr ⟨rfl, (List.forall_mem_cons.mpr ⟨rfl, zs_nil⟩)⟩)⟩) ?_
  refine zw_aload_n hX dX18_two_0 rfl ?_
  refine zw_iload_n hX dX18_two_1 rfl ?_
  refine zw_aload_n hX dX18_two_2 rfl ?_
  obtain ⟨v1, g, h⟩ := zb_some h
  refine zw_geti hX zl_X18_351 dX18_two_3 g ?_
  obtain ⟨r3, g, h⟩ := zb_some h
  refine zc_Si (as := [.int i1, .int v1]) hX (zt_X18_isIn (d := d - 1) (by omega) g) zl_X18_207 dX18_two_6 ⟨rfl, rfl, Nat.le_of_ble_eq_true rfl⟩ ⟨by omega, by omega⟩ ?_
  refine zw_aload_n hX dX18_two_9 rfl ?_
  obtain ⟨v4, g, h⟩ := zb_some h
  refine zw_geti hX zl_X18_192 dX18_two_10 g ?_
  obtain ⟨_, gi, h⟩ := zb_some h
  obtain ⟨r6, g, h⟩ := zb_some h
  refine zc_Vi (as := [.int r3.1, .int v4]) hX gi (zt_X18_goes (d := d - 1) (by omega) g) zl_X18_199 rfl dX18_two_13 ⟨rfl, rfl, Nat.le_of_ble_eq_true rfl⟩ ⟨by omega, by omega⟩ ?_
  refine zw_if_ne (tgt := 21) hX dX18_two_16 (by decide) (fun c16 => ?_) (fun c16 => ?_)
  · rw [if_neg c16] at h
    refine zw_aload_n hX dX18_two_21 rfl ?_
    obtain ⟨b7, g, h⟩ := zb_some h
    refine zw_getr hX zl_X18_69 dX18_two_22 g ?_
    refine zw_iload_n hX dX18_two_25 rfl ?_
    obtain ⟨v8, g, h⟩ := zb_some h
    refine zw_xz hX dX18_two_26 g ?_
    refine zw_istore_n hX dX18_two_27 (by decide) ?_
    refine zw_aload_n hX dX18_two_28 rfl ?_
    obtain ⟨b9, g, h⟩ := zb_some h
    refine zw_getr hX zl_X18_69 dX18_two_29 g ?_
    refine zw_iload_n hX dX18_two_32 rfl ?_
    refine zw_iload_n hX dX18_two_33 rfl ?_
    obtain ⟨S10, g, h⟩ := zb_some h
    refine zw_sz hX dX18_two_34 g ?_
    refine zw_iload_n hX dX18_two_35 rfl ?_
    by_cases cz : v8 = 0 ∨ v8 = 1
    · rw [if_pos cz] at h
      obtain rfl := Option.some.inj h
      exact zw_iret hX hr dX18_two_36 (zn_z cz) ⟨rfl, rfl⟩
    · rw [if_neg cz] at h
      cases h
  · rw [if_pos c16] at h
    refine zw_iconst (v := (0 : Int32)) hX dX18_two_19 (by decide) ?_
    obtain rfl := Option.some.inj h
    exact zw_iret hX hr dX18_two_20 rfl ⟨rfl, rfl⟩
set_option maxHeartbeats 4000000 in
set_option maxRecDepth 100000 in
theorem zt_X18_lockOf_J63 {p : Program} {l : Launch} {e : Env} {R : Room} {s : State} {m : MethodId} {args : Array Value} {below : List Frame} {meth : Method} {c : Code} {V : zm_V} {mc ms d rc rs : Nat} (hX : zm_X p R s m args meth c RX18 "lockOf" cX18_lockOf 5 zk_E V mc ms) (hr : meth.sig.returnType = (some .int)) (hR : R.frames = d ∧ R.locals = 64 * d) (hd : 1 ≤ d) {N : Nat} {k : Nat → Int32 → Int32 → Int32 → Int32 → zm_S → Option ((Int32 × zm_S) ⊕ ((Int32) × zm_S))} {a0 : Nat} {i1 : Int32} {i2 : Int32} {i3 : Int32} {i4 : Int32} {res : (Int32 × zm_S) ⊕ ((Int32) × zm_S)} {out : (Int32 × zm_S)}   (hf : ∀ o, res = .inl o → o = out) (hk : ∀ (x3 : Int32) (S' : zm_S), res = .inr (x3, S') → zw p l e R s m args below meth c (vx_MQ below (zm_Qc zk_E V (zo_i out)) (zm_XC zk_E V zo_x) args s mc ms (fun q => V.2.2.2.1 ≤ q)) 5 zk_E V mc ms 71 [(3, .int x3)] [] S' rc rs) (hrec : ∀ (i3' : Int32) (i4' : Int32) (S : zm_S), k a0 i1 i2 i3' i4' S = some res → zw p l e R s m args below meth c (vx_MQ below (zm_Qc zk_E V (zo_i out)) (zm_XC zk_E V zo_x) args s mc ms (fun q => V.2.2.2.1 ≤ q)) 5 zk_E V mc ms 5 [(0, .ref a0), (1, .int i1), (2, .int i2), (3, .int i3'), (4, .int i4')] [] S rc rs) {S : zm_S} (h : zf_X18_lockOf_J63 N k a0 i1 i2 i3 i4 S = some res) : zw p l e R s m args below meth c (vx_MQ below (zm_Qc zk_E V (zo_i out)) (zm_XC zk_E V zo_x) args s mc ms (fun q => V.2.2.2.1 ≤ q)) 5 zk_E V mc ms 63 [(0, .ref a0), (1, .int i1), (2, .int i2), (3, .int i3), (4, .int i4)] [] S rc rs := by
  unfold zf_X18_lockOf_J63 at h
  refine zw_iload_n hX dX18_lockOf_63 rfl ?_
  refine zw_istore_n hX dX18_lockOf_64 (by decide) ?_
  refine zw_iinc (v := (i4 + (1 : Int32))) hX dX18_lockOf_65 rfl rfl (by decide) ?_
  refine zw_goto (tgt := 5) hX dX18_lockOf_68 (by decide) ?_
  refine zw_sub (lv' := [(0, .ref a0), (1, .int i1), (2, .int i2), (3, .int i3), (4, .int (i4 + (1 : Int32)))]) (List.forall_mem_cons.mpr ⟨rfl, (List.forall_mem_cons.mpr ⟨rfl, (List.forall_mem_cons.mpr ⟨rfl, (List.forall_mem_cons.mpr ⟨rfl, (List.forall_mem_cons.mpr ⟨rfl, zs_nil⟩)⟩)⟩)⟩)⟩) ?_
  exact hrec _ _ _ h
set_option maxHeartbeats 4000000 in
set_option maxRecDepth 100000 in
theorem zt_X18_lockOf_J58 {p : Program} {l : Launch} {e : Env} {R : Room} {s : State} {m : MethodId} {args : Array Value} {below : List Frame} {meth : Method} {c : Code} {V : zm_V} {mc ms d rc rs : Nat} (hX : zm_X p R s m args meth c RX18 "lockOf" cX18_lockOf 5 zk_E V mc ms) (hr : meth.sig.returnType = (some .int)) (hR : R.frames = d ∧ R.locals = 64 * d) (hd : 1 ≤ d) {N : Nat} {k : Nat → Int32 → Int32 → Int32 → Int32 → zm_S → Option ((Int32 × zm_S) ⊕ ((Int32) × zm_S))} {a0 : Nat} {i1 : Int32} {i2 : Int32} {i4 : Int32} {res : (Int32 × zm_S) ⊕ ((Int32) × zm_S)} {out : (Int32 × zm_S)}   (hf : ∀ o, res = .inl o → o = out) (hk : ∀ (x3 : Int32) (S' : zm_S), res = .inr (x3, S') → zw p l e R s m args below meth c (vx_MQ below (zm_Qc zk_E V (zo_i out)) (zm_XC zk_E V zo_x) args s mc ms (fun q => V.2.2.2.1 ≤ q)) 5 zk_E V mc ms 71 [(3, .int x3)] [] S' rc rs) (hrec : ∀ (i3' : Int32) (i4' : Int32) (S : zm_S), k a0 i1 i2 i3' i4' S = some res → zw p l e R s m args below meth c (vx_MQ below (zm_Qc zk_E V (zo_i out)) (zm_XC zk_E V zo_x) args s mc ms (fun q => V.2.2.2.1 ≤ q)) 5 zk_E V mc ms 5 [(0, .ref a0), (1, .int i1), (2, .int i2), (3, .int i3'), (4, .int i4')] [] S rc rs) {S : zm_S} (h : zf_X18_lockOf_J58 N k a0 i1 i2 i4 S = some res) : zw p l e R s m args below meth c (vx_MQ below (zm_Qc zk_E V (zo_i out)) (zm_XC zk_E V zo_x) args s mc ms (fun q => V.2.2.2.1 ≤ q)) 5 zk_E V mc ms 58 [(0, .ref a0), (1, .int i1), (2, .int i2), (4, .int i4)] [] S rc rs := by
  unfold zf_X18_lockOf_J58 at h
  refine zw_iload hX dX18_lockOf_58 rfl ?_
  refine zw_goto (tgt := 64) hX dX18_lockOf_60 (by decide) ?_
  refine zw_istore_n hX dX18_lockOf_64 (by decide) ?_
  refine zw_iinc (v := (i4 + (1 : Int32))) hX dX18_lockOf_65 rfl rfl (by decide) ?_
  refine zw_goto (tgt := 5) hX dX18_lockOf_68 (by decide) ?_
  refine zw_sub (lv' := [(0, .ref a0), (1, .int i1), (2, .int i2), (3, .int i4), (4, .int (i4 + (1 : Int32)))]) (List.forall_mem_cons.mpr ⟨rfl, (List.forall_mem_cons.mpr ⟨rfl, (List.forall_mem_cons.mpr ⟨rfl, (List.forall_mem_cons.mpr ⟨rfl, (List.forall_mem_cons.mpr ⟨rfl, zs_nil⟩)⟩)⟩)⟩)⟩) ?_
  exact hrec _ _ _ h
set_option maxHeartbeats 4000000 in
set_option maxRecDepth 100000 in
theorem zt_X18_lockOf_J36 {p : Program} {l : Launch} {e : Env} {R : Room} {s : State} {m : MethodId} {args : Array Value} {below : List Frame} {meth : Method} {c : Code} {V : zm_V} {mc ms d rc rs : Nat} (hX : zm_X p R s m args meth c RX18 "lockOf" cX18_lockOf 5 zk_E V mc ms) (hr : meth.sig.returnType = (some .int)) (hR : R.frames = d ∧ R.locals = 64 * d) (hd : 1 ≤ d) {N : Nat} {k : Nat → Int32 → Int32 → Int32 → Int32 → zm_S → Option ((Int32 × zm_S) ⊕ ((Int32) × zm_S))} {a0 : Nat} {i1 : Int32} {i2 : Int32} {i3 : Int32} {i4 : Int32} {res : (Int32 × zm_S) ⊕ ((Int32) × zm_S)} {out : (Int32 × zm_S)}   (hf : ∀ o, res = .inl o → o = out) (hk : ∀ (x3 : Int32) (S' : zm_S), res = .inr (x3, S') → zw p l e R s m args below meth c (vx_MQ below (zm_Qc zk_E V (zo_i out)) (zm_XC zk_E V zo_x) args s mc ms (fun q => V.2.2.2.1 ≤ q)) 5 zk_E V mc ms 71 [(3, .int x3)] [] S' rc rs) (hrec : ∀ (i3' : Int32) (i4' : Int32) (S : zm_S), k a0 i1 i2 i3' i4' S = some res → zw p l e R s m args below meth c (vx_MQ below (zm_Qc zk_E V (zo_i out)) (zm_XC zk_E V zo_x) args s mc ms (fun q => V.2.2.2.1 ≤ q)) 5 zk_E V mc ms 5 [(0, .ref a0), (1, .int i1), (2, .int i2), (3, .int i3'), (4, .int i4')] [] S rc rs) {S : zm_S} (h : zf_X18_lockOf_J36 N k a0 i1 i2 i3 i4 S = some res) : zw p l e R s m args below meth c (vx_MQ below (zm_Qc zk_E V (zo_i out)) (zm_XC zk_E V zo_x) args s mc ms (fun q => V.2.2.2.1 ≤ q)) 5 zk_E V mc ms 36 [(0, .ref a0), (1, .int i1), (2, .int i2), (3, .int i3), (4, .int i4)] [] S rc rs := by
  unfold zf_X18_lockOf_J36 at h
  refine zw_aload_n hX dX18_lockOf_36 rfl ?_
  obtain ⟨b4, g, h⟩ := zb_some h
  refine zw_getr hX zl_X18_94 dX18_lockOf_37 g ?_
  refine zw_iload hX dX18_lockOf_40 rfl ?_
  obtain ⟨v5, g, h⟩ := zb_some h
  refine zw_xi hX dX18_lockOf_42 g ?_
  refine zw_iload_n hX dX18_lockOf_43 rfl ?_
  refine zw_icmp_ne (tgt := 63) hX dX18_lockOf_44 (by decide) (fun c44 => ?_) (fun c44 => ?_)
  · rw [if_neg c44] at h
    refine zw_sub (lv' := [(0, .ref a0), (1, .int i1), (2, .int i2), (3, .int i3), (4, .int i4)]) (List.forall_mem_cons.mpr ⟨rfl, (List.forall_mem_cons.mpr ⟨rfl, (List.forall_mem_cons.mpr ⟨rfl, (List.forall_mem_cons.mpr ⟨rfl, (List.forall_mem_cons.mpr ⟨rfl, zs_nil⟩)⟩)⟩)⟩)⟩) ?_
    exact zt_X18_lockOf_J63 hX hr hR hd hf hk hrec h
  · rw [if_pos c44] at h
    refine zw_aload_n hX dX18_lockOf_47 rfl ?_
    obtain ⟨b6, g, h⟩ := zb_some h
    refine zw_getr hX zl_X18_97 dX18_lockOf_48 g ?_
    refine zw_iload hX dX18_lockOf_51 rfl ?_
    obtain ⟨v7, g, h⟩ := zb_some h
    refine zw_xi hX dX18_lockOf_53 g ?_
    refine zw_iload_n hX dX18_lockOf_54 rfl ?_
    refine zw_icmp_ne (tgt := 63) hX dX18_lockOf_55 (by decide) (fun c55 => ?_) (fun c55 => ?_)
    · rw [if_neg c55] at h
      refine zw_sub (lv' := [(0, .ref a0), (1, .int i1), (2, .int i2), (3, .int i3), (4, .int i4)]) (List.forall_mem_cons.mpr ⟨rfl, (List.forall_mem_cons.mpr ⟨rfl, (List.forall_mem_cons.mpr ⟨rfl, (List.forall_mem_cons.mpr ⟨rfl, (List.forall_mem_cons.mpr ⟨rfl, zs_nil⟩)⟩)⟩)⟩)⟩) ?_
      exact zt_X18_lockOf_J63 hX hr hR hd hf hk hrec h
    · rw [if_pos c55] at h
      refine zw_sub (lv' := [(0, .ref a0), (1, .int i1), (2, .int i2), (4, .int i4)]) (List.forall_mem_cons.mpr ⟨rfl, (List.forall_mem_cons.mpr ⟨rfl, (List.forall_mem_cons.mpr ⟨rfl, (List.forall_mem_cons.mpr ⟨rfl, zs_nil⟩)⟩)⟩)⟩) ?_
      exact zt_X18_lockOf_J58 hX hr hR hd hf hk hrec h
set_option maxHeartbeats 4000000 in
set_option maxRecDepth 100000 in
theorem zt_X18_lockOf_L5 {p : Program} {l : Launch} {e : Env} {R : Room} {s : State} {m : MethodId} {args : Array Value} {below : List Frame} {meth : Method} {c : Code} {V : zm_V} {mc ms d rc rs : Nat} (hX : zm_X p R s m args meth c RX18 "lockOf" cX18_lockOf 5 zk_E V mc ms) (hr : meth.sig.returnType = (some .int)) (hR : R.frames = d ∧ R.locals = 64 * d) (hd : 1 ≤ d) {N : Nat} {res : (Int32 × zm_S) ⊕ ((Int32) × zm_S)} {out : (Int32 × zm_S)} (a0 : Nat) (i1 : Int32) (i2 : Int32) (hf : ∀ o, res = .inl o → o = out) (hk : ∀ (x3 : Int32) (S' : zm_S), res = .inr (x3, S') → zw p l e R s m args below meth c (vx_MQ below (zm_Qc zk_E V (zo_i out)) (zm_XC zk_E V zo_x) args s mc ms (fun q => V.2.2.2.1 ≤ q)) 5 zk_E V mc ms 71 [(3, .int x3)] [] S' rc rs) : ∀ (n : Nat) (i3 : Int32) (i4 : Int32) (S : zm_S), zf_X18_lockOf_L5 N n a0 i1 i2 i3 i4 S = some res → zw p l e R s m args below meth c (vx_MQ below (zm_Qc zk_E V (zo_i out)) (zm_XC zk_E V zo_x) args s mc ms (fun q => V.2.2.2.1 ≤ q)) 5 zk_E V mc ms 5 [(0, .ref a0), (1, .int i1), (2, .int i2), (3, .int i3), (4, .int i4)] [] S rc rs := by
  intro n
  induction n with
  | zero => intro i3 i4 S h; cases h
  | succ n ih =>
    intro i3 i4 S h
    rw [zf_X18_lockOf_L5] at h
    refine zw_iload hX dX18_lockOf_5 rfl ?_
    refine zw_aload_n hX dX18_lockOf_7 rfl ?_
    obtain ⟨v1, g, h⟩ := zb_some h
    refine zw_geti hX zl_X18_395 dX18_lockOf_8 g ?_
    refine zw_icmp_ge (tgt := 71) hX dX18_lockOf_11 (by decide) (fun c11 => ?_) (fun c11 => ?_)
    · rw [if_pos c11] at h
      refine zw_sub (lv' := [(3, .int i3)]) (List.forall_mem_cons.mpr ⟨rfl, zs_nil⟩) ?_
      exact hk _ _ (Option.some.inj h).symm
    · rw [if_neg c11] at h
      refine zw_aload_n hX dX18_lockOf_14 rfl ?_
      obtain ⟨b2, g, h⟩ := zb_some h
      refine zw_getr hX zl_X18_94 dX18_lockOf_15 g ?_
      refine zw_iload hX dX18_lockOf_18 rfl ?_
      obtain ⟨v3, g, h⟩ := zb_some h
      refine zw_xi hX dX18_lockOf_20 g ?_
      refine zw_iload_n hX dX18_lockOf_21 rfl ?_
      refine zw_icmp_ne (tgt := 36) hX dX18_lockOf_22 (by decide) (fun c22 => ?_) (fun c22 => ?_)
      · rw [if_neg c22] at h
        refine zw_sub (lv' := [(0, .ref a0), (1, .int i1), (2, .int i2), (3, .int i3), (4, .int i4)]) (List.forall_mem_cons.mpr ⟨rfl, (List.forall_mem_cons.mpr ⟨rfl, (List.forall_mem_cons.mpr ⟨rfl, (List.forall_mem_cons.mpr ⟨rfl, (List.forall_mem_cons.mpr ⟨rfl, zs_nil⟩)⟩)⟩)⟩)⟩) ?_
        exact zt_X18_lockOf_J36 hX hr hR hd hf hk ih h
      · rw [if_pos c22] at h
        refine zw_aload_n hX dX18_lockOf_25 rfl ?_
        obtain ⟨b8, g, h⟩ := zb_some h
        refine zw_getr hX zl_X18_97 dX18_lockOf_26 g ?_
        refine zw_iload hX dX18_lockOf_29 rfl ?_
        obtain ⟨v9, g, h⟩ := zb_some h
        refine zw_xi hX dX18_lockOf_31 g ?_
        refine zw_iload_n hX dX18_lockOf_32 rfl ?_
        refine zw_icmp_eq (tgt := 58) hX dX18_lockOf_33 (by decide) (fun c33 => ?_) (fun c33 => ?_)
        · rw [if_pos c33] at h
          refine zw_sub (lv' := [(0, .ref a0), (1, .int i1), (2, .int i2), (4, .int i4)]) (List.forall_mem_cons.mpr ⟨rfl, (List.forall_mem_cons.mpr ⟨rfl, (List.forall_mem_cons.mpr ⟨rfl, (List.forall_mem_cons.mpr ⟨rfl, zs_nil⟩)⟩)⟩)⟩) ?_
          exact zt_X18_lockOf_J58 hX hr hR hd hf hk ih h
        · rw [if_neg c33] at h
          refine zw_sub (lv' := [(0, .ref a0), (1, .int i1), (2, .int i2), (3, .int i3), (4, .int i4)]) (List.forall_mem_cons.mpr ⟨rfl, (List.forall_mem_cons.mpr ⟨rfl, (List.forall_mem_cons.mpr ⟨rfl, (List.forall_mem_cons.mpr ⟨rfl, (List.forall_mem_cons.mpr ⟨rfl, zs_nil⟩)⟩)⟩)⟩)⟩) ?_
          exact zt_X18_lockOf_J36 hX hr hR hd hf hk ih h
set_option maxHeartbeats 4000000 in
set_option maxRecDepth 100000 in
theorem zt_X18_lockOf {l : Launch} {V : zm_V} {N : Nat} {S : zm_S} {out : (Int32 × zm_S)} {d : Nat} {a0 : Nat} {i1 : Int32} {i2 : Int32} (hd : 1 ≤ d) (h : zf_X18_lockOf N a0 i1 i2 S = some out) : zm_Met l zk_E V yX18_lockOf (.code yX18_lockOf cX18_lockOf 5 (some .int)) d [.ref a0, .int i1, .int i2] S 0 0 (zo_i out) zo_x := by
  refine zm_of (by decide +kernel) (Nat.le_of_ble_eq_true rfl) ?_
  intro p e R s m args below meth c hRR hX hr hxt
  have hR : R.frames = d ∧ R.locals = 64 * d := by rw [hRR]; exact ⟨rfl, rfl⟩
  have hX : zm_X p R s m args meth c RX18 "lockOf" cX18_lockOf 5 zk_E V 0 0 := hX
  unfold zf_X18_lockOf at h
  refine zw_sub (lv' := [(0, .ref a0), (1, .int i1), (2, .int i2)]) (List.forall_mem_cons.mpr ⟨rfl, (List.forall_mem_cons.mpr ⟨rfl, (List.forall_mem_cons.mpr ⟨rfl, zs_nil⟩)⟩)⟩) ?_
  refine zw_iconst (v := (-1 : Int32)) hX dX18_lockOf_0 (by decide) ?_
  refine zw_istore_n hX dX18_lockOf_1 (by decide) ?_
  refine zw_iconst (v := (0 : Int32)) hX dX18_lockOf_2 (by decide) ?_
  refine zw_istore hX dX18_lockOf_3 (by decide) ?_
  obtain ⟨r, g, h⟩ := zb_some h
  refine zw_sub (lv' := [(0, .ref a0), (1, .int i1), (2, .int i2), (3, .int (-1 : Int32)), (4, .int (0 : Int32))]) (List.forall_mem_cons.mpr ⟨rfl, (List.forall_mem_cons.mpr ⟨rfl, (List.forall_mem_cons.mpr ⟨rfl, (List.forall_mem_cons.mpr ⟨rfl, (List.forall_mem_cons.mpr ⟨rfl, zs_nil⟩)⟩)⟩)⟩)⟩) ?_
  refine zt_X18_lockOf_L5 hX hr hR hd (res := r) (out := out) a0 i1 i2 ?_ ?_ N _ _ _ g
  · intro o ho
    subst ho
    exact Option.some.inj h
  · intro v11 S10 hx
    subst hx
    try dsimp only at h
    refine zw_iload_n hX dX18_lockOf_71 rfl ?_
    obtain rfl := Option.some.inj h
    exact zw_iret hX hr dX18_lockOf_72 rfl ⟨rfl, rfl⟩
set_option maxHeartbeats 4000000 in
set_option maxRecDepth 100000 in
theorem zt_X18_airlock_J180 {p : Program} {l : Launch} {e : Env} {R : Room} {s : State} {m : MethodId} {args : Array Value} {below : List Frame} {meth : Method} {c : Code} {V : zm_V} {mc ms d rc rs : Nat} (hX : zm_X p R s m args meth c RX18 "airlock" cX18_airlock 5 zk_E V mc ms) (hr : meth.sig.returnType = (some .boolean)) (hR : R.frames = d ∧ R.locals = 64 * d) (hd : 2 ≤ d) {N : Nat} {i4 : Int32} {out : (Int32 × zm_S)} {S : zm_S} (h : zf_X18_airlock_J180 N i4 S = some out) : zw p l e R s m args below meth c (vx_MQ below (zm_Qc zk_E V (zo_i out)) (zm_XC zk_E V zo_x) args s mc ms (fun q => V.2.2.2.1 ≤ q)) 5 zk_E V mc ms 180 [(4, .int i4)] [] S rc rs := by
  unfold zf_X18_airlock_J180 at h
  refine zw_iload hX dX18_airlock_180 rfl ?_
  refine zw_if_lt (tgt := 189) hX dX18_airlock_182 (by decide) (fun c182 => ?_) (fun c182 => ?_)
  · rw [if_pos c182] at h
    refine zw_iconst (v := (0 : Int32)) hX dX18_airlock_189 (by decide) ?_
    obtain rfl := Option.some.inj h
    exact zw_iret hX hr dX18_airlock_190 rfl ⟨rfl, rfl⟩
  · rw [if_neg c182] at h
    refine zw_iconst (v := (1 : Int32)) hX dX18_airlock_185 (by decide) ?_
    refine zw_goto (tgt := 190) hX dX18_airlock_186 (by decide) ?_
    obtain rfl := Option.some.inj h
    exact zw_iret hX hr dX18_airlock_190 rfl ⟨rfl, rfl⟩
set_option maxHeartbeats 4000000 in
set_option maxRecDepth 100000 in
theorem zt_X18_airlock_J129 {p : Program} {l : Launch} {e : Env} {R : Room} {s : State} {m : MethodId} {args : Array Value} {below : List Frame} {meth : Method} {c : Code} {V : zm_V} {mc ms d rc rs : Nat} (hX : zm_X p R s m args meth c RX18 "airlock" cX18_airlock 5 zk_E V mc ms) (hr : meth.sig.returnType = (some .boolean)) (hR : R.frames = d ∧ R.locals = 64 * d) (hd : 2 ≤ d) {N : Nat} {a0 : Nat} {i3 : Int32} {i4 : Int32} {out : (Int32 × zm_S)} {S : zm_S} (h : zf_X18_airlock_J129 N a0 i3 i4 S = some out) : zw p l e R s m args below meth c (vx_MQ below (zm_Qc zk_E V (zo_i out)) (zm_XC zk_E V zo_x) args s mc ms (fun q => V.2.2.2.1 ≤ q)) 5 zk_E V mc ms 129 [(0, .ref a0), (3, .int i3), (4, .int i4)] [] S rc rs := by
  unfold zf_X18_airlock_J129 at h
  refine zw_iload hX dX18_airlock_129 rfl ?_
  refine zw_if_lt (tgt := 180) hX dX18_airlock_131 (by decide) (fun c131 => ?_) (fun c131 => ?_)
  · rw [if_pos c131] at h
    refine zw_sub (lv' := [(4, .int i4)]) (List.forall_mem_cons.mpr ⟨rfl, zs_nil⟩) ?_
    exact zt_X18_airlock_J180 hX hr hR hd h
  · rw [if_neg c131] at h
    refine zw_iload_n hX dX18_airlock_134 rfl ?_
    refine zw_if_ne (tgt := 180) hX dX18_airlock_135 (by decide) (fun c135 => ?_) (fun c135 => ?_)
    · rw [if_neg c135] at h
      refine zw_sub (lv' := [(4, .int i4)]) (List.forall_mem_cons.mpr ⟨rfl, zs_nil⟩) ?_
      exact zt_X18_airlock_J180 hX hr hR hd h
    · rw [if_pos c135] at h
      refine zw_aload_n hX dX18_airlock_138 rfl ?_
      refine zw_dup hX dX18_airlock_139 rfl ?_
      obtain ⟨v9, g, h⟩ := zb_some h
      refine zw_geti hX zl_X18_395 dX18_airlock_140 g ?_
      refine zw_iconst (v := (1 : Int32)) hX dX18_airlock_143 (by decide) ?_
      refine zw_isub hX dX18_airlock_144 ?_
      obtain ⟨S10, g, h⟩ := zb_some h
      refine zw_putv hX zl_X18_395 zt_18_24 dX18_airlock_145 rfl rfl g ?_
      refine zw_aload_n hX dX18_airlock_148 rfl ?_
      obtain ⟨b11, g, h⟩ := zb_some h
      refine zw_getr hX zl_X18_94 dX18_airlock_149 g ?_
      refine zw_iload hX dX18_airlock_152 rfl ?_
      refine zw_aload_n hX dX18_airlock_154 rfl ?_
      obtain ⟨b12, g, h⟩ := zb_some h
      refine zw_getr hX zl_X18_94 dX18_airlock_155 g ?_
      refine zw_aload_n hX dX18_airlock_158 rfl ?_
      obtain ⟨v13, g, h⟩ := zb_some h
      refine zw_geti hX zl_X18_395 dX18_airlock_159 g ?_
      obtain ⟨v14, g, h⟩ := zb_some h
      refine zw_xi hX dX18_airlock_162 g ?_
      obtain ⟨S15, g, h⟩ := zb_some h
      refine zw_si hX dX18_airlock_163 g ?_
      refine zw_aload_n hX dX18_airlock_164 rfl ?_
      obtain ⟨b16, g, h⟩ := zb_some h
      refine zw_getr hX zl_X18_97 dX18_airlock_165 g ?_
      refine zw_iload hX dX18_airlock_168 rfl ?_
      refine zw_aload_n hX dX18_airlock_170 rfl ?_
      obtain ⟨b17, g, h⟩ := zb_some h
      refine zw_getr hX zl_X18_97 dX18_airlock_171 g ?_
      refine zw_aload_n hX dX18_airlock_174 rfl ?_
      obtain ⟨v18, g, h⟩ := zb_some h
      refine zw_geti hX zl_X18_395 dX18_airlock_175 g ?_
      obtain ⟨v19, g, h⟩ := zb_some h
      refine zw_xi hX dX18_airlock_178 g ?_
      obtain ⟨S20, g, h⟩ := zb_some h
      refine zw_si hX dX18_airlock_179 g ?_
      refine zw_sub (lv' := [(4, .int i4)]) (List.forall_mem_cons.mpr ⟨rfl, zs_nil⟩) ?_
      exact zt_X18_airlock_J180 hX hr hR hd h
set_option maxHeartbeats 4000000 in
set_option maxRecDepth 100000 in
theorem zt_X18_airlock_J96 {p : Program} {l : Launch} {e : Env} {R : Room} {s : State} {m : MethodId} {args : Array Value} {below : List Frame} {meth : Method} {c : Code} {V : zm_V} {mc ms d rc rs : Nat} (hX : zm_X p R s m args meth c RX18 "airlock" cX18_airlock 5 zk_E V mc ms) (hr : meth.sig.returnType = (some .boolean)) (hR : R.frames = d ∧ R.locals = 64 * d) (hd : 2 ≤ d) {N : Nat} {a0 : Nat} {i1 : Int32} {i2 : Int32} {i4 : Int32} {out : (Int32 × zm_S)} {S : zm_S} (h : zf_X18_airlock_J96 N a0 i1 i2 i4 S = some out) : zw p l e R s m args below meth c (vx_MQ below (zm_Qc zk_E V (zo_i out)) (zm_XC zk_E V zo_x) args s mc ms (fun q => V.2.2.2.1 ≤ q)) 5 zk_E V mc ms 96 [(0, .ref a0), (1, .int i1), (2, .int i2), (4, .int i4)] [] S rc rs := by
  unfold zf_X18_airlock_J96 at h
  refine zw_aload_n hX dX18_airlock_96 rfl ?_
  obtain ⟨b24, g, h⟩ := zb_some h
  refine zw_getr hX zl_X18_94 dX18_airlock_97 g ?_
  refine zw_aload_n hX dX18_airlock_100 rfl ?_
  obtain ⟨v25, g, h⟩ := zb_some h
  refine zw_geti hX zl_X18_395 dX18_airlock_101 g ?_
  refine zw_iload_n hX dX18_airlock_104 rfl ?_
  obtain ⟨S26, g, h⟩ := zb_some h
  refine zw_si hX dX18_airlock_105 g ?_
  refine zw_aload_n hX dX18_airlock_106 rfl ?_
  obtain ⟨b27, g, h⟩ := zb_some h
  refine zw_getr hX zl_X18_97 dX18_airlock_107 g ?_
  refine zw_aload_n hX dX18_airlock_110 rfl ?_
  obtain ⟨v28, g, h⟩ := zb_some h
  refine zw_geti hX zl_X18_395 dX18_airlock_111 g ?_
  refine zw_iload_n hX dX18_airlock_114 rfl ?_
  obtain ⟨S29, g, h⟩ := zb_some h
  refine zw_si hX dX18_airlock_115 g ?_
  refine zw_aload_n hX dX18_airlock_116 rfl ?_
  refine zw_dup hX dX18_airlock_117 rfl ?_
  obtain ⟨v30, g, h⟩ := zb_some h
  refine zw_geti hX zl_X18_395 dX18_airlock_118 g ?_
  refine zw_iconst (v := (1 : Int32)) hX dX18_airlock_121 (by decide) ?_
  refine zw_iadd hX dX18_airlock_122 ?_
  obtain ⟨S31, g, h⟩ := zb_some h
  refine zw_putv hX zl_X18_395 zt_18_24 dX18_airlock_123 rfl rfl g ?_
  refine zw_goto (tgt := 180) hX dX18_airlock_126 (by decide) ?_
  refine zw_sub (lv' := [(4, .int i4)]) (List.forall_mem_cons.mpr ⟨rfl, zs_nil⟩) ?_
  exact zt_X18_airlock_J180 hX hr hR hd h
set_option maxHeartbeats 4000000 in
set_option maxRecDepth 100000 in
theorem zt_X18_airlock_J33 {p : Program} {l : Launch} {e : Env} {R : Room} {s : State} {m : MethodId} {args : Array Value} {below : List Frame} {meth : Method} {c : Code} {V : zm_V} {mc ms d rc rs : Nat} (hX : zm_X p R s m args meth c RX18 "airlock" cX18_airlock 5 zk_E V mc ms) (hr : meth.sig.returnType = (some .boolean)) (hR : R.frames = d ∧ R.locals = 64 * d) (hd : 2 ≤ d) {N : Nat} {a0 : Nat} {i1 : Int32} {i2 : Int32} {i3 : Int32} {t0 : Nat} {t1 : Int32} {out : (Int32 × zm_S)} {S : zm_S} (h : zf_X18_airlock_J33 N a0 i1 i2 i3 t0 t1 S = some out) : zw p l e R s m args below meth c (vx_MQ below (zm_Qc zk_E V (zo_i out)) (zm_XC zk_E V zo_x) args s mc ms (fun q => V.2.2.2.1 ≤ q)) 5 zk_E V mc ms 33 [(0, .ref a0), (1, .int i1), (2, .int i2), (3, .int i3)] [.int t1, .ref t0] S rc rs := by
  unfold zf_X18_airlock_J33 at h
  refine zw_aload_n hX dX18_airlock_33 rfl ?_
  obtain ⟨v4, g, h⟩ := zb_some h
  refine zw_geti hX zl_X18_192 dX18_airlock_34 g ?_
  obtain ⟨_, gi, h⟩ := zb_some h
  obtain ⟨r6, g, h⟩ := zb_some h
  refine zc_Vi (as := [.int t1, .int v4]) hX gi (zt_X18_goes (d := d - 1) (by omega) g) zl_X18_199 rfl dX18_airlock_37 ⟨rfl, rfl, Nat.le_of_ble_eq_true rfl⟩ ⟨by omega, by omega⟩ ?_
  refine zw_if_ne (tgt := 45) hX dX18_airlock_40 (by decide) (fun c40 => ?_) (fun c40 => ?_)
  · rw [if_neg c40] at h
    refine zw_aload_n hX dX18_airlock_45 rfl ?_
    refine zw_iload_n hX dX18_airlock_46 rfl ?_
    refine zw_iload_n hX dX18_airlock_47 rfl ?_
    obtain ⟨_, gi, h⟩ := zb_some h
    obtain ⟨r8, g, h⟩ := zb_some h
    refine zc_Vi (as := [.int i1, .int i2]) hX gi (zt_X18_lockOf (d := d - 1) (by omega) g) zl_X18_398 rfl dX18_airlock_48 ⟨rfl, rfl, Nat.le_of_ble_eq_true rfl⟩ ⟨by omega, by omega⟩ ?_
    refine zw_istore hX dX18_airlock_51 (by decide) ?_
    refine zw_iload hX dX18_airlock_53 rfl ?_
    refine zw_if_ge (tgt := 129) hX dX18_airlock_55 (by decide) (fun c55 => ?_) (fun c55 => ?_)
    · rw [if_pos c55] at h
      refine zw_sub (lv' := [(0, .ref a0), (3, .int i3), (4, .int r8.1)]) (List.forall_mem_cons.mpr ⟨rfl, (List.forall_mem_cons.mpr ⟨rfl, (List.forall_mem_cons.mpr ⟨rfl, zs_nil⟩)⟩)⟩) ?_
      exact zt_X18_airlock_J129 hX hr hR hd h
    · rw [if_neg c55] at h
      refine zw_iload_n hX dX18_airlock_58 rfl ?_
      refine zw_if_eq (tgt := 129) hX dX18_airlock_59 (by decide) (fun c59 => ?_) (fun c59 => ?_)
      · rw [if_pos c59] at h
        refine zw_sub (lv' := [(0, .ref a0), (3, .int i3), (4, .int r8.1)]) (List.forall_mem_cons.mpr ⟨rfl, (List.forall_mem_cons.mpr ⟨rfl, (List.forall_mem_cons.mpr ⟨rfl, zs_nil⟩)⟩)⟩) ?_
        exact zt_X18_airlock_J129 hX hr hR hd h
      · rw [if_neg c59] at h
        refine zw_aload_n hX dX18_airlock_62 rfl ?_
        obtain ⟨v21, g, h⟩ := zb_some h
        refine zw_geti hX zl_X18_395 dX18_airlock_63 g ?_
        refine zw_aload_n hX dX18_airlock_66 rfl ?_
        obtain ⟨b22, g, h⟩ := zb_some h
        refine zw_getr hX zl_X18_94 dX18_airlock_67 g ?_
        obtain ⟨v23, g, h⟩ := zb_some h
        refine zw_len hX dX18_airlock_70 g ?_
        refine zw_icmp_ne (tgt := 96) hX dX18_airlock_71 (by decide) (fun c71 => ?_) (fun c71 => ?_)
        · rw [if_neg c71] at h
          refine zw_sub (lv' := [(0, .ref a0), (1, .int i1), (2, .int i2), (4, .int r8.1)]) (List.forall_mem_cons.mpr ⟨rfl, (List.forall_mem_cons.mpr ⟨rfl, (List.forall_mem_cons.mpr ⟨rfl, (List.forall_mem_cons.mpr ⟨rfl, zs_nil⟩)⟩)⟩)⟩) ?_
          exact zt_X18_airlock_J96 hX hr hR hd h
        · rw [if_pos c71] at h
          refine zw_aload_n hX dX18_airlock_74 rfl ?_
          refine zw_aload_n hX dX18_airlock_75 rfl ?_
          obtain ⟨b32, g, h⟩ := zb_some h
          refine zw_getr hX zl_X18_94 dX18_airlock_76 g ?_
          obtain ⟨r34, g, h⟩ := zb_some h
          refine zc_Sr (as := [.ref b32]) hX (zt_X18_longer (d := d - 1) (by omega) g) zl_X18_375 dX18_airlock_79 ⟨rfl, rfl, Nat.le_of_ble_eq_true rfl⟩ ⟨by omega, by omega⟩ ?_
          obtain ⟨S35, g, h⟩ := zb_some h
          refine zw_putv hX zl_X18_94 zt_18_25 dX18_airlock_82 rfl rfl g ?_
          refine zw_aload_n hX dX18_airlock_85 rfl ?_
          refine zw_aload_n hX dX18_airlock_86 rfl ?_
          obtain ⟨b36, g, h⟩ := zb_some h
          refine zw_getr hX zl_X18_97 dX18_airlock_87 g ?_
          obtain ⟨r38, g, h⟩ := zb_some h
          refine zc_Sr (as := [.ref b36]) hX (zt_X18_longer (d := d - 1) (by omega) g) zl_X18_375 dX18_airlock_90 ⟨rfl, rfl, Nat.le_of_ble_eq_true rfl⟩ ⟨by omega, by omega⟩ ?_
          obtain ⟨S39, g, h⟩ := zb_some h
          refine zw_putv hX zl_X18_97 zt_18_26 dX18_airlock_93 rfl rfl g ?_
          refine zw_sub (lv' := [(0, .ref a0), (1, .int i1), (2, .int i2), (4, .int r8.1)]) (List.forall_mem_cons.mpr ⟨rfl, (List.forall_mem_cons.mpr ⟨rfl, (List.forall_mem_cons.mpr ⟨rfl, (List.forall_mem_cons.mpr ⟨rfl, zs_nil⟩)⟩)⟩)⟩) ?_
          exact zt_X18_airlock_J96 hX hr hR hd h
  · rw [if_pos c40] at h
    refine zw_iconst (v := (0 : Int32)) hX dX18_airlock_43 (by decide) ?_
    obtain rfl := Option.some.inj h
    exact zw_iret hX hr dX18_airlock_44 rfl ⟨rfl, rfl⟩
set_option maxHeartbeats 4000000 in
set_option maxRecDepth 100000 in
theorem zt_X18_airlock_J32 {p : Program} {l : Launch} {e : Env} {R : Room} {s : State} {m : MethodId} {args : Array Value} {below : List Frame} {meth : Method} {c : Code} {V : zm_V} {mc ms d rc rs : Nat} (hX : zm_X p R s m args meth c RX18 "airlock" cX18_airlock 5 zk_E V mc ms) (hr : meth.sig.returnType = (some .boolean)) (hR : R.frames = d ∧ R.locals = 64 * d) (hd : 2 ≤ d) {N : Nat} {a0 : Nat} {i1 : Int32} {i2 : Int32} {i3 : Int32} {t0 : Nat} {out : (Int32 × zm_S)} {S : zm_S} (h : zf_X18_airlock_J32 N a0 i1 i2 i3 t0 S = some out) : zw p l e R s m args below meth c (vx_MQ below (zm_Qc zk_E V (zo_i out)) (zm_XC zk_E V zo_x) args s mc ms (fun q => V.2.2.2.1 ≤ q)) 5 zk_E V mc ms 32 [(0, .ref a0), (1, .int i1), (2, .int i2), (3, .int i3)] [.ref t0] S rc rs := by
  unfold zf_X18_airlock_J32 at h
  refine zw_iconst (v := (0 : Int32)) hX dX18_airlock_32 (by decide) ?_
  refine zw_sub (lv' := [(0, .ref a0), (1, .int i1), (2, .int i2), (3, .int i3)]) (List.forall_mem_cons.mpr ⟨rfl, (List.forall_mem_cons.mpr ⟨rfl, (List.forall_mem_cons.mpr ⟨rfl, (List.forall_mem_cons.mpr ⟨rfl, zs_nil⟩)⟩)⟩)⟩) ?_
  exact zt_X18_airlock_J33 hX hr hR hd h
set_option maxHeartbeats 4000000 in
set_option maxRecDepth 100000 in
theorem zt_X18_airlock {l : Launch} {V : zm_V} {N : Nat} {S : zm_S} {out : (Int32 × zm_S)} {d : Nat} {a0 : Nat} {i1 : Int32} {i2 : Int32} {i3 : Int32} (hd : 2 ≤ d) (h : zf_X18_airlock N a0 i1 i2 i3 S = some out) : zm_Met l zk_E V yX18_airlock (.code yX18_airlock cX18_airlock 5 (some .boolean)) d [.ref a0, .int i1, .int i2, .int i3] S 0 0 (zo_i out) zo_x := by
  refine zm_of (by decide +kernel) (Nat.le_of_ble_eq_true rfl) ?_
  intro p e R s m args below meth c hRR hX hr hxt
  have hR : R.frames = d ∧ R.locals = 64 * d := by rw [hRR]; exact ⟨rfl, rfl⟩
  have hX : zm_X p R s m args meth c RX18 "airlock" cX18_airlock 5 zk_E V 0 0 := hX
  unfold zf_X18_airlock at h
  refine zw_sub (lv' := [(0, .ref a0), (1, .int i1), (2, .int i2), (3, .int i3)]) (List.forall_mem_cons.mpr ⟨rfl, (List.forall_mem_cons.mpr ⟨rfl, (List.forall_mem_cons.mpr ⟨rfl, (List.forall_mem_cons.mpr ⟨rfl, zs_nil⟩)⟩)⟩)⟩) ?_
  refine zw_aload_n hX dX18_airlock_0 rfl ?_
  refine zw_iload_n hX dX18_airlock_1 rfl ?_
  refine zw_aload_n hX dX18_airlock_2 rfl ?_
  obtain ⟨v1, g, h⟩ := zb_some h
  refine zw_geti hX zl_X18_351 dX18_airlock_3 g ?_
  obtain ⟨r3, g, h⟩ := zb_some h
  refine zc_Si (as := [.int i1, .int v1]) hX (zt_X18_isIn (d := d - 1) (by omega) g) zl_X18_207 dX18_airlock_6 ⟨rfl, rfl, Nat.le_of_ble_eq_true rfl⟩ ⟨by omega, by omega⟩ ?_
  refine zw_if_eq (tgt := 32) hX dX18_airlock_9 (by decide) (fun c9 => ?_) (fun c9 => ?_)
  · rw [if_pos c9] at h
    refine zw_sub (lv' := [(0, .ref a0), (1, .int i1), (2, .int i2), (3, .int i3)]) (List.forall_mem_cons.mpr ⟨rfl, (List.forall_mem_cons.mpr ⟨rfl, (List.forall_mem_cons.mpr ⟨rfl, (List.forall_mem_cons.mpr ⟨rfl, zs_nil⟩)⟩)⟩)⟩) ?_
    exact zt_X18_airlock_J32 hX hr hR hd h
  · rw [if_neg c9] at h
    refine zw_iload_n hX dX18_airlock_12 rfl ?_
    refine zw_aload_n hX dX18_airlock_13 rfl ?_
    obtain ⟨v40, g, h⟩ := zb_some h
    refine zw_geti hX zl_X18_351 dX18_airlock_14 g ?_
    obtain ⟨r42, g, h⟩ := zb_some h
    refine zc_Si (as := [.int i2, .int v40]) hX (zt_X18_isIn (d := d - 1) (by omega) g) zl_X18_207 dX18_airlock_17 ⟨rfl, rfl, Nat.le_of_ble_eq_true rfl⟩ ⟨by omega, by omega⟩ ?_
    refine zw_if_eq (tgt := 32) hX dX18_airlock_20 (by decide) (fun c20 => ?_) (fun c20 => ?_)
    · rw [if_pos c20] at h
      refine zw_sub (lv' := [(0, .ref a0), (1, .int i1), (2, .int i2), (3, .int i3)]) (List.forall_mem_cons.mpr ⟨rfl, (List.forall_mem_cons.mpr ⟨rfl, (List.forall_mem_cons.mpr ⟨rfl, (List.forall_mem_cons.mpr ⟨rfl, zs_nil⟩)⟩)⟩)⟩) ?_
      exact zt_X18_airlock_J32 hX hr hR hd h
    · rw [if_neg c20] at h
      refine zw_iload_n hX dX18_airlock_23 rfl ?_
      refine zw_iload_n hX dX18_airlock_24 rfl ?_
      refine zw_icmp_eq (tgt := 32) hX dX18_airlock_25 (by decide) (fun c25 => ?_) (fun c25 => ?_)
      · rw [if_pos c25] at h
        refine zw_sub (lv' := [(0, .ref a0), (1, .int i1), (2, .int i2), (3, .int i3)]) (List.forall_mem_cons.mpr ⟨rfl, (List.forall_mem_cons.mpr ⟨rfl, (List.forall_mem_cons.mpr ⟨rfl, (List.forall_mem_cons.mpr ⟨rfl, zs_nil⟩)⟩)⟩)⟩) ?_
        exact zt_X18_airlock_J32 hX hr hR hd h
      · rw [if_neg c25] at h
        refine zw_iconst (v := (1 : Int32)) hX dX18_airlock_28 (by decide) ?_
        refine zw_goto (tgt := 33) hX dX18_airlock_29 (by decide) ?_
        refine zw_sub (lv' := [(0, .ref a0), (1, .int i1), (2, .int i2), (3, .int i3)]) (List.forall_mem_cons.mpr ⟨rfl, (List.forall_mem_cons.mpr ⟨rfl, (List.forall_mem_cons.mpr ⟨rfl, (List.forall_mem_cons.mpr ⟨rfl, zs_nil⟩)⟩)⟩)⟩) ?_
        exact zt_X18_airlock_J33 hX hr hR hd h
set_option maxHeartbeats 4000000 in
set_option maxRecDepth 100000 in
theorem zt_X18_stands_J61 {p : Program} {l : Launch} {e : Env} {R : Room} {s : State} {m : MethodId} {args : Array Value} {below : List Frame} {meth : Method} {c : Code} {V : zm_V} {mc ms d rc rs : Nat} (hX : zm_X p R s m args meth c RX18 "stands" cX18_stands 4 zk_E V mc ms) (hr : meth.sig.returnType = (some .int)) (hR : R.frames = d ∧ R.locals = 64 * d) (hd : 2 ≤ d) {N : Nat} {a0 : Nat} {i1 : Int32} {i2 : Int32} {i3 : Int32} {t0 : Nat} {t1 : Int32} {t2 : Int32} {out : (Int32 × zm_S)} {S : zm_S} (h : zf_X18_stands_J61 N a0 i1 i2 i3 t0 t1 t2 S = some out) : zw p l e R s m args below meth c (vx_MQ below (zm_Qc zk_E V (zo_i out)) (zm_XC zk_E V zo_x) args s mc ms (fun q => V.2.2.2.1 ≤ q)) 4 zk_E V mc ms 61 [(0, .ref a0), (1, .int i1), (2, .int i2), (3, .int i3)] [.int t2, .int t1, .ref t0] S rc rs := by
  unfold zf_X18_stands_J61 at h
  obtain ⟨S14, g, h⟩ := zb_some h
  refine zw_si hX dX18_stands_61 g ?_
  refine zw_aload_n hX dX18_stands_62 rfl ?_
  obtain ⟨b15, g, h⟩ := zb_some h
  refine zw_getr hX zl_X18_73 dX18_stands_63 g ?_
  refine zw_iload_n hX dX18_stands_66 rfl ?_
  refine zw_iload_n hX dX18_stands_67 rfl ?_
  obtain ⟨S16, g, h⟩ := zb_some h
  refine zw_sz hX dX18_stands_68 g ?_
  refine zw_iload_n hX dX18_stands_69 rfl ?_
  obtain rfl := Option.some.inj h
  exact zw_iret hX hr dX18_stands_70 rfl ⟨rfl, rfl⟩
set_option maxHeartbeats 4000000 in
set_option maxRecDepth 100000 in
theorem zt_X18_stands {l : Launch} {V : zm_V} {N : Nat} {S : zm_S} {out : (Int32 × zm_S)} {d : Nat} {a0 : Nat} {i1 : Int32} {i2 : Int32} (hd : 2 ≤ d) (h : zf_X18_stands N a0 i1 i2 S = some out) : zm_Met l zk_E V yX18_stands (.code yX18_stands cX18_stands 4 (some .int)) d [.ref a0, .int i1, .int i2] S 0 0 (zo_i out) zo_x := by
  refine zm_of (by decide +kernel) (Nat.le_of_ble_eq_true rfl) ?_
  intro p e R s m args below meth c hRR hX hr hxt
  have hR : R.frames = d ∧ R.locals = 64 * d := by rw [hRR]; exact ⟨rfl, rfl⟩
  have hX : zm_X p R s m args meth c RX18 "stands" cX18_stands 4 zk_E V 0 0 := hX
  unfold zf_X18_stands at h
  refine zw_sub (lv' := [(0, .ref a0), (1, .int i1), (2, .int i2)]) (List.forall_mem_cons.mpr ⟨rfl, (List.forall_mem_cons.mpr ⟨rfl, (List.forall_mem_cons.mpr ⟨rfl, zs_nil⟩)⟩)⟩) ?_
  refine zw_aload_n hX dX18_stands_0 rfl ?_
  refine zw_iload_n hX dX18_stands_1 rfl ?_
  refine zw_aload_n hX dX18_stands_2 rfl ?_
  obtain ⟨v1, g, h⟩ := zb_some h
  refine zw_geti hX zl_X18_351 dX18_stands_3 g ?_
  obtain ⟨r3, g, h⟩ := zb_some h
  refine zc_Si (as := [.int i1, .int v1]) hX (zt_X18_isIn (d := d - 1) (by omega) g) zl_X18_207 dX18_stands_6 ⟨rfl, rfl, Nat.le_of_ble_eq_true rfl⟩ ⟨by omega, by omega⟩ ?_
  refine zw_aload_n hX dX18_stands_9 rfl ?_
  obtain ⟨v4, g, h⟩ := zb_some h
  refine zw_geti hX zl_X18_192 dX18_stands_10 g ?_
  obtain ⟨_, gi, h⟩ := zb_some h
  obtain ⟨r6, g, h⟩ := zb_some h
  refine zc_Vi (as := [.int r3.1, .int v4]) hX gi (zt_X18_goes (d := d - 1) (by omega) g) zl_X18_199 rfl dX18_stands_13 ⟨rfl, rfl, Nat.le_of_ble_eq_true rfl⟩ ⟨by omega, by omega⟩ ?_
  refine zw_if_ne (tgt := 21) hX dX18_stands_16 (by decide) (fun c16 => ?_) (fun c16 => ?_)
  · rw [if_neg c16] at h
    refine zw_aload_n hX dX18_stands_21 rfl ?_
    obtain ⟨v7, g, h⟩ := zb_some h
    refine zw_geti hX zl_X18_401 dX18_stands_22 g ?_
    refine zw_aload_n hX dX18_stands_25 rfl ?_
    obtain ⟨b8, g, h⟩ := zb_some h
    refine zw_getr hX zl_X18_76 dX18_stands_26 g ?_
    refine zw_iload_n hX dX18_stands_29 rfl ?_
    obtain ⟨v9, g, h⟩ := zb_some h
    refine zw_xi hX dX18_stands_30 g ?_
    refine zw_isub hX dX18_stands_31 ?_
    refine zw_istore_n hX dX18_stands_32 (by decide) ?_
    refine zw_aload_n hX dX18_stands_33 rfl ?_
    obtain ⟨b10, g, h⟩ := zb_some h
    refine zw_getr hX zl_X18_76 dX18_stands_34 g ?_
    refine zw_iload_n hX dX18_stands_37 rfl ?_
    refine zw_aload_n hX dX18_stands_38 rfl ?_
    obtain ⟨b11, g, h⟩ := zb_some h
    refine zw_getr hX zl_X18_73 dX18_stands_39 g ?_
    refine zw_iload_n hX dX18_stands_42 rfl ?_
    obtain ⟨v12, g, h⟩ := zb_some h
    refine zw_xz hX dX18_stands_43 g ?_
    refine zw_iload_n hX dX18_stands_44 rfl ?_
    refine zw_icmp_ne (tgt := 57) hX dX18_stands_45 (by decide) (fun c45 => ?_) (fun c45 => ?_)
    · rw [if_neg c45] at h
      refine zw_aload_n hX dX18_stands_57 rfl ?_
      obtain ⟨v13, g, h⟩ := zb_some h
      refine zw_geti hX zl_X18_401 dX18_stands_58 g ?_
      refine zw_sub (lv' := [(0, .ref a0), (1, .int i1), (2, .int i2), (3, .int (v7 - v9))]) (List.forall_mem_cons.mpr ⟨rfl, (List.forall_mem_cons.mpr ⟨rfl, (List.forall_mem_cons.mpr ⟨rfl, (List.forall_mem_cons.mpr ⟨rfl, zs_nil⟩)⟩)⟩)⟩) ?_
      exact zt_X18_stands_J61 hX hr hR hd h
    · rw [if_pos c45] at h
      refine zw_aload_n hX dX18_stands_48 rfl ?_
      obtain ⟨b17, g, h⟩ := zb_some h
      refine zw_getr hX zl_X18_76 dX18_stands_49 g ?_
      refine zw_iload_n hX dX18_stands_52 rfl ?_
      obtain ⟨v18, g, h⟩ := zb_some h
      refine zw_xi hX dX18_stands_53 g ?_
      refine zw_goto (tgt := 61) hX dX18_stands_54 (by decide) ?_
      refine zw_sub (lv' := [(0, .ref a0), (1, .int i1), (2, .int i2), (3, .int (v7 - v9))]) (List.forall_mem_cons.mpr ⟨rfl, (List.forall_mem_cons.mpr ⟨rfl, (List.forall_mem_cons.mpr ⟨rfl, (List.forall_mem_cons.mpr ⟨rfl, zs_nil⟩)⟩)⟩)⟩) ?_
      exact zt_X18_stands_J61 hX hr hR hd h
  · rw [if_pos c16] at h
    refine zw_iconst (v := (0 : Int32)) hX dX18_stands_19 (by decide) ?_
    obtain rfl := Option.some.inj h
    exact zw_iret hX hr dX18_stands_20 rfl ⟨rfl, rfl⟩
set_option maxHeartbeats 4000000 in
set_option maxRecDepth 100000 in
theorem zt_X18_isReleased {l : Launch} {V : zm_V} {N : Nat} {S : zm_S} {out : (Int32 × zm_S)} {d : Nat} {a0 : Nat} (hd : 2 ≤ d) (h : zf_X18_isReleased N a0 S = some out) : zm_Met l zk_E V yX18_isReleased (.code yX18_isReleased cX18_isReleased 1 (some .boolean)) d [.ref a0] S 0 0 (zo_i out) zo_x := by
  refine zm_of (by decide +kernel) (Nat.le_of_ble_eq_true rfl) ?_
  intro p e R s m args below meth c hRR hX hr hxt
  have hR : R.frames = d ∧ R.locals = 64 * d := by rw [hRR]; exact ⟨rfl, rfl⟩
  have hX : zm_X p R s m args meth c RX18 "isReleased" cX18_isReleased 1 zk_E V 0 0 := hX
  unfold zf_X18_isReleased at h
  refine zw_sub (lv' := [(0, .ref a0)]) (List.forall_mem_cons.mpr ⟨rfl, zs_nil⟩) ?_
  refine zw_aload_n hX dX18_isReleased_0 rfl ?_
  obtain ⟨b1, g, h⟩ := zb_some h
  refine zw_getr hX zl_X18_28 dX18_isReleased_1 g ?_
  refine zw_iconst (v := (0 : Int32)) hX dX18_isReleased_4 (by decide) ?_
  obtain ⟨_, gi, h⟩ := zb_some h
  obtain ⟨r3, g, h⟩ := zb_some h
  refine zc_Vi (as := [.int (0 : Int32)]) hX gi (zt_X14_done (d := d - 1) (by omega) g) zl_X18_404 rfl dX18_isReleased_5 ⟨rfl, rfl, Nat.le_of_ble_eq_true rfl⟩ ⟨by omega, by omega⟩ ?_
  refine zw_if_le (tgt := 15) hX dX18_isReleased_8 (by decide) (fun c8 => ?_) (fun c8 => ?_)
  · rw [if_pos c8] at h
    refine zw_iconst (v := (0 : Int32)) hX dX18_isReleased_15 (by decide) ?_
    obtain rfl := Option.some.inj h
    exact zw_iret hX hr dX18_isReleased_16 rfl ⟨rfl, rfl⟩
  · rw [if_neg c8] at h
    refine zw_iconst (v := (1 : Int32)) hX dX18_isReleased_11 (by decide) ?_
    refine zw_goto (tgt := 16) hX dX18_isReleased_12 (by decide) ?_
    obtain rfl := Option.some.inj h
    exact zw_iret hX hr dX18_isReleased_16 rfl ⟨rfl, rfl⟩
set_option maxHeartbeats 4000000 in
set_option maxRecDepth 100000 in
theorem zt_X18_zoneOf {l : Launch} {V : zm_V} {N : Nat} {S : zm_S} {out : (Int32 × zm_S)} {d : Nat} {a0 : Nat} {i1 : Int32} (hd : 1 ≤ d) (h : zf_X18_zoneOf N a0 i1 S = some out) : zm_Met l zk_E V yX18_zoneOf (.code yX18_zoneOf cX18_zoneOf 2 (some .int)) d [.ref a0, .int i1] S 0 0 (zo_i out) zo_x := by
  refine zm_of (by decide +kernel) (Nat.le_of_ble_eq_true rfl) ?_
  intro p e R s m args below meth c hRR hX hr hxt
  have hR : R.frames = d ∧ R.locals = 64 * d := by rw [hRR]; exact ⟨rfl, rfl⟩
  have hX : zm_X p R s m args meth c RX18 "zoneOf" cX18_zoneOf 2 zk_E V 0 0 := hX
  unfold zf_X18_zoneOf at h
  refine zw_sub (lv' := [(0, .ref a0), (1, .int i1)]) (List.forall_mem_cons.mpr ⟨rfl, (List.forall_mem_cons.mpr ⟨rfl, zs_nil⟩)⟩) ?_
  refine zw_iload_n hX dX18_zoneOf_0 rfl ?_
  refine zw_aload_n hX dX18_zoneOf_1 rfl ?_
  obtain ⟨v1, g, h⟩ := zb_some h
  refine zw_geti hX zl_X18_338 dX18_zoneOf_2 g ?_
  refine zw_icmp_ne (tgt := 12) hX dX18_zoneOf_5 (by decide) (fun c5 => ?_) (fun c5 => ?_)
  · rw [if_neg c5] at h
    refine zw_aload_n hX dX18_zoneOf_12 rfl ?_
    obtain ⟨b2, g, h⟩ := zb_some h
    refine zw_getr hX zl_X18_12 dX18_zoneOf_13 g ?_
    obtain ⟨b3, g, h⟩ := zb_some h
    refine zw_getr hX zl_X18_281 dX18_zoneOf_16 g ?_
    refine zw_iload_n hX dX18_zoneOf_19 rfl ?_
    obtain ⟨v4, g, h⟩ := zb_some h
    refine zw_xi hX dX18_zoneOf_20 g ?_
    refine zw_bipush (v := (10 : Int32)) hX dX18_zoneOf_21 (by decide) ?_
    refine zw_irem hX dX18_zoneOf_23 (by decide) ?_
    obtain rfl := Option.some.inj h
    exact zw_iret hX hr dX18_zoneOf_24 rfl ⟨rfl, rfl⟩
  · rw [if_pos c5] at h
    refine zw_iconst (v := (-1 : Int32)) hX dX18_zoneOf_8 (by decide) ?_
    refine zw_goto (tgt := 24) hX dX18_zoneOf_9 (by decide) ?_
    obtain rfl := Option.some.inj h
    exact zw_iret hX hr dX18_zoneOf_24 rfl ⟨rfl, rfl⟩
set_option maxHeartbeats 4000000 in
set_option maxRecDepth 100000 in
theorem zt_X18_spans_J99 {p : Program} {l : Launch} {e : Env} {R : Room} {s : State} {m : MethodId} {args : Array Value} {below : List Frame} {meth : Method} {c : Code} {V : zm_V} {mc ms d rc rs : Nat} (hX : zm_X p R s m args meth c RX18 "spans" cX18_spans 8 zk_E V mc ms) (hr : meth.sig.returnType = (some .boolean)) (hR : R.frames = d ∧ R.locals = 64 * d) (hd : 1 ≤ d) {N : Nat} {a0 : Nat} {i1 : Int32} {i2 : Int32} {i3 : Int32} {t0 : Int32} {out : (Int32 × zm_S)} {S : zm_S} (h : zf_X18_spans_J99 N a0 i1 i2 i3 t0 S = some out) : zw p l e R s m args below meth c (vx_MQ below (zm_Qc zk_E V (zo_i out)) (zm_XC zk_E V zo_x) args s mc ms (fun q => V.2.2.2.1 ≤ q)) 8 zk_E V mc ms 99 [(0, .ref a0), (1, .int i1), (2, .int i2), (3, .int i3)] [.int t0] S rc rs := by
  unfold zf_X18_spans_J99 at h
  refine zw_istore hX dX18_spans_99 (by decide) ?_
  refine zw_iload hX dX18_spans_101 rfl ?_
  refine zw_if_eq (tgt := 130) hX dX18_spans_103 (by decide) (fun c103 => ?_) (fun c103 => ?_)
  · rw [if_pos c103] at h
    refine zw_iconst (v := (0 : Int32)) hX dX18_spans_130 (by decide) ?_
    obtain rfl := Option.some.inj h
    exact zw_iret hX hr dX18_spans_131 rfl ⟨rfl, rfl⟩
  · rw [if_neg c103] at h
    refine zw_aload_n hX dX18_spans_106 rfl ?_
    obtain ⟨b13, g, h⟩ := zb_some h
    refine zw_getr hX zl_X18_130 dX18_spans_107 g ?_
    refine zw_iload_n hX dX18_spans_110 rfl ?_
    obtain ⟨v14, g, h⟩ := zb_some h
    refine zw_xi hX dX18_spans_111 g ?_
    refine zw_iload_n hX dX18_spans_112 rfl ?_
    refine zw_icmp_ne (tgt := 130) hX dX18_spans_113 (by decide) (fun c113 => ?_) (fun c113 => ?_)
    · rw [if_neg c113] at h
      refine zw_iconst (v := (0 : Int32)) hX dX18_spans_130 (by decide) ?_
      obtain rfl := Option.some.inj h
      exact zw_iret hX hr dX18_spans_131 rfl ⟨rfl, rfl⟩
    · rw [if_pos c113] at h
      refine zw_aload_n hX dX18_spans_116 rfl ?_
      obtain ⟨b15, g, h⟩ := zb_some h
      refine zw_getr hX zl_X18_133 dX18_spans_117 g ?_
      refine zw_iload_n hX dX18_spans_120 rfl ?_
      obtain ⟨v16, g, h⟩ := zb_some h
      refine zw_xi hX dX18_spans_121 g ?_
      refine zw_iload_n hX dX18_spans_122 rfl ?_
      refine zw_icmp_ne (tgt := 130) hX dX18_spans_123 (by decide) (fun c123 => ?_) (fun c123 => ?_)
      · rw [if_neg c123] at h
        refine zw_iconst (v := (0 : Int32)) hX dX18_spans_130 (by decide) ?_
        obtain rfl := Option.some.inj h
        exact zw_iret hX hr dX18_spans_131 rfl ⟨rfl, rfl⟩
      · rw [if_pos c123] at h
        refine zw_iconst (v := (1 : Int32)) hX dX18_spans_126 (by decide) ?_
        refine zw_goto (tgt := 131) hX dX18_spans_127 (by decide) ?_
        obtain rfl := Option.some.inj h
        exact zw_iret hX hr dX18_spans_131 rfl ⟨rfl, rfl⟩
set_option maxHeartbeats 4000000 in
set_option maxRecDepth 100000 in
theorem zt_X18_spans_J98 {p : Program} {l : Launch} {e : Env} {R : Room} {s : State} {m : MethodId} {args : Array Value} {below : List Frame} {meth : Method} {c : Code} {V : zm_V} {mc ms d rc rs : Nat} (hX : zm_X p R s m args meth c RX18 "spans" cX18_spans 8 zk_E V mc ms) (hr : meth.sig.returnType = (some .boolean)) (hR : R.frames = d ∧ R.locals = 64 * d) (hd : 1 ≤ d) {N : Nat} {a0 : Nat} {i1 : Int32} {i2 : Int32} {i3 : Int32} {out : (Int32 × zm_S)} {S : zm_S} (h : zf_X18_spans_J98 N a0 i1 i2 i3 S = some out) : zw p l e R s m args below meth c (vx_MQ below (zm_Qc zk_E V (zo_i out)) (zm_XC zk_E V zo_x) args s mc ms (fun q => V.2.2.2.1 ≤ q)) 8 zk_E V mc ms 98 [(0, .ref a0), (1, .int i1), (2, .int i2), (3, .int i3)] [] S rc rs := by
  unfold zf_X18_spans_J98 at h
  refine zw_iconst (v := (0 : Int32)) hX dX18_spans_98 (by decide) ?_
  refine zw_sub (lv' := [(0, .ref a0), (1, .int i1), (2, .int i2), (3, .int i3)]) (List.forall_mem_cons.mpr ⟨rfl, (List.forall_mem_cons.mpr ⟨rfl, (List.forall_mem_cons.mpr ⟨rfl, (List.forall_mem_cons.mpr ⟨rfl, zs_nil⟩)⟩)⟩)⟩) ?_
  exact zt_X18_spans_J99 hX hr hR hd h
set_option maxHeartbeats 4000000 in
set_option maxRecDepth 100000 in
theorem zt_X18_spans_J94 {p : Program} {l : Launch} {e : Env} {R : Room} {s : State} {m : MethodId} {args : Array Value} {below : List Frame} {meth : Method} {c : Code} {V : zm_V} {mc ms d rc rs : Nat} (hX : zm_X p R s m args meth c RX18 "spans" cX18_spans 8 zk_E V mc ms) (hr : meth.sig.returnType = (some .boolean)) (hR : R.frames = d ∧ R.locals = 64 * d) (hd : 1 ≤ d) {N : Nat} {a0 : Nat} {i1 : Int32} {i2 : Int32} {i3 : Int32} {out : (Int32 × zm_S)} {S : zm_S} (h : zf_X18_spans_J94 N a0 i1 i2 i3 S = some out) : zw p l e R s m args below meth c (vx_MQ below (zm_Qc zk_E V (zo_i out)) (zm_XC zk_E V zo_x) args s mc ms (fun q => V.2.2.2.1 ≤ q)) 8 zk_E V mc ms 94 [(0, .ref a0), (1, .int i1), (2, .int i2), (3, .int i3)] [] S rc rs := by
  unfold zf_X18_spans_J94 at h
  refine zw_iconst (v := (1 : Int32)) hX dX18_spans_94 (by decide) ?_
  refine zw_goto (tgt := 99) hX dX18_spans_95 (by decide) ?_
  refine zw_sub (lv' := [(0, .ref a0), (1, .int i1), (2, .int i2), (3, .int i3)]) (List.forall_mem_cons.mpr ⟨rfl, (List.forall_mem_cons.mpr ⟨rfl, (List.forall_mem_cons.mpr ⟨rfl, (List.forall_mem_cons.mpr ⟨rfl, zs_nil⟩)⟩)⟩)⟩) ?_
  exact zt_X18_spans_J99 hX hr hR hd h
set_option maxHeartbeats 4000000 in
set_option maxRecDepth 100000 in
theorem zt_X18_spans_J65 {p : Program} {l : Launch} {e : Env} {R : Room} {s : State} {m : MethodId} {args : Array Value} {below : List Frame} {meth : Method} {c : Code} {V : zm_V} {mc ms d rc rs : Nat} (hX : zm_X p R s m args meth c RX18 "spans" cX18_spans 8 zk_E V mc ms) (hr : meth.sig.returnType = (some .boolean)) (hR : R.frames = d ∧ R.locals = 64 * d) (hd : 1 ≤ d) {N : Nat} {a0 : Nat} {i1 : Int32} {i2 : Int32} {i3 : Int32} {out : (Int32 × zm_S)} {S : zm_S} (h : zf_X18_spans_J65 N a0 i1 i2 i3 S = some out) : zw p l e R s m args below meth c (vx_MQ below (zm_Qc zk_E V (zo_i out)) (zm_XC zk_E V zo_x) args s mc ms (fun q => V.2.2.2.1 ≤ q)) 8 zk_E V mc ms 65 [(0, .ref a0), (1, .int i1), (2, .int i2), (3, .int i3)] [] S rc rs := by
  unfold zf_X18_spans_J65 at h
  refine zw_iconst (v := (0 : Int32)) hX dX18_spans_65 (by decide) ?_
  refine zw_goto (tgt := 99) hX dX18_spans_66 (by decide) ?_
  refine zw_sub (lv' := [(0, .ref a0), (1, .int i1), (2, .int i2), (3, .int i3)]) (List.forall_mem_cons.mpr ⟨rfl, (List.forall_mem_cons.mpr ⟨rfl, (List.forall_mem_cons.mpr ⟨rfl, (List.forall_mem_cons.mpr ⟨rfl, zs_nil⟩)⟩)⟩)⟩) ?_
  exact zt_X18_spans_J99 hX hr hR hd h
set_option maxHeartbeats 4000000 in
set_option maxRecDepth 100000 in
theorem zt_X18_spans_J34 {p : Program} {l : Launch} {e : Env} {R : Room} {s : State} {m : MethodId} {args : Array Value} {below : List Frame} {meth : Method} {c : Code} {V : zm_V} {mc ms d rc rs : Nat} (hX : zm_X p R s m args meth c RX18 "spans" cX18_spans 8 zk_E V mc ms) (hr : meth.sig.returnType = (some .boolean)) (hR : R.frames = d ∧ R.locals = 64 * d) (hd : 1 ≤ d) {N : Nat} {a0 : Nat} {i1 : Int32} {i2 : Int32} {i3 : Int32} {i5 : Int32} {t0 : Int32} {out : (Int32 × zm_S)} {S : zm_S} (h : zf_X18_spans_J34 N a0 i1 i2 i3 i5 t0 S = some out) : zw p l e R s m args below meth c (vx_MQ below (zm_Qc zk_E V (zo_i out)) (zm_XC zk_E V zo_x) args s mc ms (fun q => V.2.2.2.1 ≤ q)) 8 zk_E V mc ms 34 [(0, .ref a0), (1, .int i1), (2, .int i2), (3, .int i3), (5, .int i5)] [.int t0] S rc rs := by
  unfold zf_X18_spans_J34 at h
  refine zw_istore hX dX18_spans_34 (by decide) ?_
  refine zw_aload_n hX dX18_spans_36 rfl ?_
  obtain ⟨b5, g, h⟩ := zb_some h
  refine zw_getr hX zl_X18_136 dX18_spans_37 g ?_
  refine zw_iload_n hX dX18_spans_40 rfl ?_
  obtain ⟨v6, g, h⟩ := zb_some h
  refine zw_xi hX dX18_spans_41 g ?_
  refine zw_aload_n hX dX18_spans_42 rfl ?_
  obtain ⟨b7, g, h⟩ := zb_some h
  refine zw_getr hX zl_X18_139 dX18_spans_43 g ?_
  refine zw_iload_n hX dX18_spans_46 rfl ?_
  obtain ⟨v8, g, h⟩ := zb_some h
  refine zw_xi hX dX18_spans_47 g ?_
  refine zw_icmp_ge (tgt := 69) hX dX18_spans_48 (by decide) (fun c48 => ?_) (fun c48 => ?_)
  · rw [if_pos c48] at h
    refine zw_aload_n hX dX18_spans_69 rfl ?_
    obtain ⟨b9, g, h⟩ := zb_some h
    refine zw_getr hX zl_X18_136 dX18_spans_70 g ?_
    refine zw_iload_n hX dX18_spans_73 rfl ?_
    obtain ⟨v10, g, h⟩ := zb_some h
    refine zw_xi hX dX18_spans_74 g ?_
    refine zw_aload_n hX dX18_spans_75 rfl ?_
    obtain ⟨b11, g, h⟩ := zb_some h
    refine zw_getr hX zl_X18_139 dX18_spans_76 g ?_
    refine zw_iload_n hX dX18_spans_79 rfl ?_
    obtain ⟨v12, g, h⟩ := zb_some h
    refine zw_xi hX dX18_spans_80 g ?_
    refine zw_icmp_le (tgt := 98) hX dX18_spans_81 (by decide) (fun c81 => ?_) (fun c81 => ?_)
    · rw [if_pos c81] at h
      refine zw_sub (lv' := [(0, .ref a0), (1, .int i1), (2, .int i2), (3, .int i3)]) (List.forall_mem_cons.mpr ⟨rfl, (List.forall_mem_cons.mpr ⟨rfl, (List.forall_mem_cons.mpr ⟨rfl, (List.forall_mem_cons.mpr ⟨rfl, zs_nil⟩)⟩)⟩)⟩) ?_
      exact zt_X18_spans_J98 hX hr hR hd h
    · rw [if_neg c81] at h
      refine zw_iload hX dX18_spans_84 rfl ?_
      refine zw_if_ne (tgt := 94) hX dX18_spans_86 (by decide) (fun c86 => ?_) (fun c86 => ?_)
      · rw [if_neg c86] at h
        refine zw_sub (lv' := [(0, .ref a0), (1, .int i1), (2, .int i2), (3, .int i3)]) (List.forall_mem_cons.mpr ⟨rfl, (List.forall_mem_cons.mpr ⟨rfl, (List.forall_mem_cons.mpr ⟨rfl, (List.forall_mem_cons.mpr ⟨rfl, zs_nil⟩)⟩)⟩)⟩) ?_
        exact zt_X18_spans_J94 hX hr hR hd h
      · rw [if_pos c86] at h
        refine zw_iload hX dX18_spans_89 rfl ?_
        refine zw_if_eq (tgt := 98) hX dX18_spans_91 (by decide) (fun c91 => ?_) (fun c91 => ?_)
        · rw [if_pos c91] at h
          refine zw_sub (lv' := [(0, .ref a0), (1, .int i1), (2, .int i2), (3, .int i3)]) (List.forall_mem_cons.mpr ⟨rfl, (List.forall_mem_cons.mpr ⟨rfl, (List.forall_mem_cons.mpr ⟨rfl, (List.forall_mem_cons.mpr ⟨rfl, zs_nil⟩)⟩)⟩)⟩) ?_
          exact zt_X18_spans_J98 hX hr hR hd h
        · rw [if_neg c91] at h
          refine zw_sub (lv' := [(0, .ref a0), (1, .int i1), (2, .int i2), (3, .int i3)]) (List.forall_mem_cons.mpr ⟨rfl, (List.forall_mem_cons.mpr ⟨rfl, (List.forall_mem_cons.mpr ⟨rfl, (List.forall_mem_cons.mpr ⟨rfl, zs_nil⟩)⟩)⟩)⟩) ?_
          exact zt_X18_spans_J94 hX hr hR hd h
  · rw [if_neg c48] at h
    refine zw_iload hX dX18_spans_51 rfl ?_
    refine zw_if_eq (tgt := 65) hX dX18_spans_53 (by decide) (fun c53 => ?_) (fun c53 => ?_)
    · rw [if_pos c53] at h
      refine zw_sub (lv' := [(0, .ref a0), (1, .int i1), (2, .int i2), (3, .int i3)]) (List.forall_mem_cons.mpr ⟨rfl, (List.forall_mem_cons.mpr ⟨rfl, (List.forall_mem_cons.mpr ⟨rfl, (List.forall_mem_cons.mpr ⟨rfl, zs_nil⟩)⟩)⟩)⟩) ?_
      exact zt_X18_spans_J65 hX hr hR hd h
    · rw [if_neg c53] at h
      refine zw_iload hX dX18_spans_56 rfl ?_
      refine zw_if_eq (tgt := 65) hX dX18_spans_58 (by decide) (fun c58 => ?_) (fun c58 => ?_)
      · rw [if_pos c58] at h
        refine zw_sub (lv' := [(0, .ref a0), (1, .int i1), (2, .int i2), (3, .int i3)]) (List.forall_mem_cons.mpr ⟨rfl, (List.forall_mem_cons.mpr ⟨rfl, (List.forall_mem_cons.mpr ⟨rfl, (List.forall_mem_cons.mpr ⟨rfl, zs_nil⟩)⟩)⟩)⟩) ?_
        exact zt_X18_spans_J65 hX hr hR hd h
      · rw [if_neg c58] at h
        refine zw_iconst (v := (1 : Int32)) hX dX18_spans_61 (by decide) ?_
        refine zw_goto (tgt := 99) hX dX18_spans_62 (by decide) ?_
        refine zw_sub (lv' := [(0, .ref a0), (1, .int i1), (2, .int i2), (3, .int i3)]) (List.forall_mem_cons.mpr ⟨rfl, (List.forall_mem_cons.mpr ⟨rfl, (List.forall_mem_cons.mpr ⟨rfl, (List.forall_mem_cons.mpr ⟨rfl, zs_nil⟩)⟩)⟩)⟩) ?_
        exact zt_X18_spans_J99 hX hr hR hd h
set_option maxHeartbeats 4000000 in
set_option maxRecDepth 100000 in
theorem zt_X18_spans_J16 {p : Program} {l : Launch} {e : Env} {R : Room} {s : State} {m : MethodId} {args : Array Value} {below : List Frame} {meth : Method} {c : Code} {V : zm_V} {mc ms d rc rs : Nat} (hX : zm_X p R s m args meth c RX18 "spans" cX18_spans 8 zk_E V mc ms) (hr : meth.sig.returnType = (some .boolean)) (hR : R.frames = d ∧ R.locals = 64 * d) (hd : 1 ≤ d) {N : Nat} {a0 : Nat} {i1 : Int32} {i2 : Int32} {i3 : Int32} {i4 : Int32} {t0 : Int32} {out : (Int32 × zm_S)} {S : zm_S} (h : zf_X18_spans_J16 N a0 i1 i2 i3 i4 t0 S = some out) : zw p l e R s m args below meth c (vx_MQ below (zm_Qc zk_E V (zo_i out)) (zm_XC zk_E V zo_x) args s mc ms (fun q => V.2.2.2.1 ≤ q)) 8 zk_E V mc ms 16 [(0, .ref a0), (1, .int i1), (2, .int i2), (3, .int i3), (4, .int i4)] [.int t0] S rc rs := by
  unfold zf_X18_spans_J16 at h
  refine zw_istore hX dX18_spans_16 (by decide) ?_
  refine zw_iload hX dX18_spans_18 rfl ?_
  refine zw_aload_n hX dX18_spans_20 rfl ?_
  obtain ⟨b3, g, h⟩ := zb_some h
  refine zw_getr hX zl_X18_139 dX18_spans_21 g ?_
  refine zw_iload_n hX dX18_spans_24 rfl ?_
  obtain ⟨v4, g, h⟩ := zb_some h
  refine zw_xi hX dX18_spans_25 g ?_
  refine zw_icmp_ge (tgt := 33) hX dX18_spans_26 (by decide) (fun c26 => ?_) (fun c26 => ?_)
  · rw [if_pos c26] at h
    refine zw_iconst (v := (0 : Int32)) hX dX18_spans_33 (by decide) ?_
    refine zw_sub (lv' := [(0, .ref a0), (1, .int i1), (2, .int i2), (3, .int i3), (5, .int t0)]) (List.forall_mem_cons.mpr ⟨rfl, (List.forall_mem_cons.mpr ⟨rfl, (List.forall_mem_cons.mpr ⟨rfl, (List.forall_mem_cons.mpr ⟨rfl, (List.forall_mem_cons.mpr ⟨rfl, zs_nil⟩)⟩)⟩)⟩)⟩) ?_
    exact zt_X18_spans_J34 hX hr hR hd h
  · rw [if_neg c26] at h
    refine zw_iconst (v := (1 : Int32)) hX dX18_spans_29 (by decide) ?_
    refine zw_goto (tgt := 34) hX dX18_spans_30 (by decide) ?_
    refine zw_sub (lv' := [(0, .ref a0), (1, .int i1), (2, .int i2), (3, .int i3), (5, .int t0)]) (List.forall_mem_cons.mpr ⟨rfl, (List.forall_mem_cons.mpr ⟨rfl, (List.forall_mem_cons.mpr ⟨rfl, (List.forall_mem_cons.mpr ⟨rfl, (List.forall_mem_cons.mpr ⟨rfl, zs_nil⟩)⟩)⟩)⟩)⟩) ?_
    exact zt_X18_spans_J34 hX hr hR hd h
set_option maxHeartbeats 4000000 in
set_option maxRecDepth 100000 in
theorem zt_X18_spans {l : Launch} {V : zm_V} {N : Nat} {S : zm_S} {out : (Int32 × zm_S)} {d : Nat} {a0 : Nat} {i1 : Int32} {i2 : Int32} {i3 : Int32} {i4 : Int32} (hd : 1 ≤ d) (h : zf_X18_spans N a0 i1 i2 i3 i4 S = some out) : zm_Met l zk_E V yX18_spans (.code yX18_spans cX18_spans 8 (some .boolean)) d [.ref a0, .int i1, .int i2, .int i3, .int i4] S 0 0 (zo_i out) zo_x := by
  refine zm_of (by decide +kernel) (Nat.le_of_ble_eq_true rfl) ?_
  intro p e R s m args below meth c hRR hX hr hxt
  have hR : R.frames = d ∧ R.locals = 64 * d := by rw [hRR]; exact ⟨rfl, rfl⟩
  have hX : zm_X p R s m args meth c RX18 "spans" cX18_spans 8 zk_E V 0 0 := hX
  unfold zf_X18_spans at h
  refine zw_sub (lv' := [(0, .ref a0), (1, .int i1), (2, .int i2), (3, .int i3), (4, .int i4)]) (List.forall_mem_cons.mpr ⟨rfl, (List.forall_mem_cons.mpr ⟨rfl, (List.forall_mem_cons.mpr ⟨rfl, (List.forall_mem_cons.mpr ⟨rfl, (List.forall_mem_cons.mpr ⟨rfl, zs_nil⟩)⟩)⟩)⟩)⟩) ?_
  refine zw_aload_n hX dX18_spans_0 rfl ?_
  obtain ⟨b1, g, h⟩ := zb_some h
  refine zw_getr hX zl_X18_136 dX18_spans_1 g ?_
  refine zw_iload_n hX dX18_spans_4 rfl ?_
  obtain ⟨v2, g, h⟩ := zb_some h
  refine zw_xi hX dX18_spans_5 g ?_
  refine zw_iload hX dX18_spans_6 rfl ?_
  refine zw_icmp_gt (tgt := 15) hX dX18_spans_8 (by decide) (fun c8 => ?_) (fun c8 => ?_)
  · rw [if_pos c8] at h
    refine zw_iconst (v := (0 : Int32)) hX dX18_spans_15 (by decide) ?_
    refine zw_sub (lv' := [(0, .ref a0), (1, .int i1), (2, .int i2), (3, .int i3), (4, .int i4)]) (List.forall_mem_cons.mpr ⟨rfl, (List.forall_mem_cons.mpr ⟨rfl, (List.forall_mem_cons.mpr ⟨rfl, (List.forall_mem_cons.mpr ⟨rfl, (List.forall_mem_cons.mpr ⟨rfl, zs_nil⟩)⟩)⟩)⟩)⟩) ?_
    exact zt_X18_spans_J16 hX hr hR hd h
  · rw [if_neg c8] at h
    refine zw_iconst (v := (1 : Int32)) hX dX18_spans_11 (by decide) ?_
    refine zw_goto (tgt := 16) hX dX18_spans_12 (by decide) ?_
    refine zw_sub (lv' := [(0, .ref a0), (1, .int i1), (2, .int i2), (3, .int i3), (4, .int i4)]) (List.forall_mem_cons.mpr ⟨rfl, (List.forall_mem_cons.mpr ⟨rfl, (List.forall_mem_cons.mpr ⟨rfl, (List.forall_mem_cons.mpr ⟨rfl, (List.forall_mem_cons.mpr ⟨rfl, zs_nil⟩)⟩)⟩)⟩)⟩) ?_
    exact zt_X18_spans_J16 hX hr hR hd h
set_option maxHeartbeats 4000000 in
set_option maxRecDepth 100000 in
theorem zt_X18_why_J194 {p : Program} {l : Launch} {e : Env} {R : Room} {s : State} {m : MethodId} {args : Array Value} {below : List Frame} {meth : Method} {c : Code} {V : zm_V} {mc ms d rc rs : Nat} (hX : zm_X p R s m args meth c RX18 "why" cX18_why 11 zk_E V mc ms) (hr : meth.sig.returnType = (some .int)) (hR : R.frames = d ∧ R.locals = 64 * d) (hd : 2 ≤ d) {N : Nat} {k : Nat → Int32 → Int32 → Int32 → Int32 → Int32 → Int32 → zm_S → Option ((Int32 × zm_S) ⊕ ((Int32) × zm_S))} {a0 : Nat} {i1 : Int32} {i2 : Int32} {i3 : Int32} {i4 : Int32} {i8 : Int32} {res : (Int32 × zm_S) ⊕ ((Int32) × zm_S)} {out : (Int32 × zm_S)}   (hf : ∀ o, res = .inl o → o = out) (hk : ∀ (x7 : Int32) (S' : zm_S), res = .inr (x7, S') → zw p l e R s m args below meth c (vx_MQ below (zm_Qc zk_E V (zo_i out)) (zm_XC zk_E V zo_x) args s mc ms (fun q => V.2.2.2.1 ≤ q)) 11 zk_E V mc ms 203 [(7, .int x7)] [] S' rc rs) (hrec : ∀ (i7' : Int32) (i8' : Int32) (S : zm_S), k a0 i1 i2 i3 i4 i7' i8' S = some res → zw p l e R s m args below meth c (vx_MQ below (zm_Qc zk_E V (zo_i out)) (zm_XC zk_E V zo_x) args s mc ms (fun q => V.2.2.2.1 ≤ q)) 11 zk_E V mc ms 89 [(0, .ref a0), (1, .int i1), (2, .int i2), (3, .int i3), (4, .int i4), (7, .int i7'), (8, .int i8')] [] S rc rs) {S : zm_S} (h : zf_X18_why_J194 N k a0 i1 i2 i3 i4 i8 S = some res) : zw p l e R s m args below meth c (vx_MQ below (zm_Qc zk_E V (zo_i out)) (zm_XC zk_E V zo_x) args s mc ms (fun q => V.2.2.2.1 ≤ q)) 11 zk_E V mc ms 194 [(0, .ref a0), (1, .int i1), (2, .int i2), (3, .int i3), (4, .int i4), (8, .int i8)] [] S rc rs := by
  unfold zf_X18_why_J194 at h
  refine zw_iconst (v := (0 : Int32)) hX dX18_why_194 (by decide) ?_
  refine zw_istore hX dX18_why_195 (by decide) ?_
  refine zw_iinc (v := (i8 + (1 : Int32))) hX dX18_why_197 rfl rfl (by decide) ?_
  refine zw_goto (tgt := 89) hX dX18_why_200 (by decide) ?_
  refine zw_sub (lv' := [(0, .ref a0), (1, .int i1), (2, .int i2), (3, .int i3), (4, .int i4), (7, .int (0 : Int32)), (8, .int (i8 + (1 : Int32)))]) (List.forall_mem_cons.mpr ⟨rfl, (List.forall_mem_cons.mpr ⟨rfl, (List.forall_mem_cons.mpr ⟨rfl, (List.forall_mem_cons.mpr ⟨rfl, (List.forall_mem_cons.mpr ⟨rfl, (List.forall_mem_cons.mpr ⟨rfl, (List.forall_mem_cons.mpr ⟨rfl, zs_nil⟩)⟩)⟩)⟩)⟩)⟩)⟩) ?_
  exact hrec _ _ _ h
set_option maxHeartbeats 4000000 in
set_option maxRecDepth 100000 in
theorem zt_X18_why_J153 {p : Program} {l : Launch} {e : Env} {R : Room} {s : State} {m : MethodId} {args : Array Value} {below : List Frame} {meth : Method} {c : Code} {V : zm_V} {mc ms d rc rs : Nat} (hX : zm_X p R s m args meth c RX18 "why" cX18_why 11 zk_E V mc ms) (hr : meth.sig.returnType = (some .int)) (hR : R.frames = d ∧ R.locals = 64 * d) (hd : 2 ≤ d) {N : Nat} {k : Nat → Int32 → Int32 → Int32 → Int32 → Int32 → Int32 → zm_S → Option ((Int32 × zm_S) ⊕ ((Int32) × zm_S))} {a0 : Nat} {i1 : Int32} {i2 : Int32} {i3 : Int32} {i4 : Int32} {i8 : Int32} {t0 : Int32} {res : (Int32 × zm_S) ⊕ ((Int32) × zm_S)} {out : (Int32 × zm_S)}   (hf : ∀ o, res = .inl o → o = out) (hk : ∀ (x7 : Int32) (S' : zm_S), res = .inr (x7, S') → zw p l e R s m args below meth c (vx_MQ below (zm_Qc zk_E V (zo_i out)) (zm_XC zk_E V zo_x) args s mc ms (fun q => V.2.2.2.1 ≤ q)) 11 zk_E V mc ms 203 [(7, .int x7)] [] S' rc rs) (hrec : ∀ (i7' : Int32) (i8' : Int32) (S : zm_S), k a0 i1 i2 i3 i4 i7' i8' S = some res → zw p l e R s m args below meth c (vx_MQ below (zm_Qc zk_E V (zo_i out)) (zm_XC zk_E V zo_x) args s mc ms (fun q => V.2.2.2.1 ≤ q)) 11 zk_E V mc ms 89 [(0, .ref a0), (1, .int i1), (2, .int i2), (3, .int i3), (4, .int i4), (7, .int i7'), (8, .int i8')] [] S rc rs) {S : zm_S} (h : zf_X18_why_J153 N k a0 i1 i2 i3 i4 i8 t0 S = some res) : zw p l e R s m args below meth c (vx_MQ below (zm_Qc zk_E V (zo_i out)) (zm_XC zk_E V zo_x) args s mc ms (fun q => V.2.2.2.1 ≤ q)) 11 zk_E V mc ms 153 [(0, .ref a0), (1, .int i1), (2, .int i2), (3, .int i3), (4, .int i4), (8, .int i8)] [.int t0] S rc rs := by
  unfold zf_X18_why_J153 at h
  refine zw_istore hX dX18_why_153 (by decide) ?_
  refine zw_iload hX dX18_why_155 rfl ?_
  refine zw_if_eq (tgt := 194) hX dX18_why_157 (by decide) (fun c157 => ?_) (fun c157 => ?_)
  · rw [if_pos c157] at h
    refine zw_sub (lv' := [(0, .ref a0), (1, .int i1), (2, .int i2), (3, .int i3), (4, .int i4), (8, .int i8)]) (List.forall_mem_cons.mpr ⟨rfl, (List.forall_mem_cons.mpr ⟨rfl, (List.forall_mem_cons.mpr ⟨rfl, (List.forall_mem_cons.mpr ⟨rfl, (List.forall_mem_cons.mpr ⟨rfl, (List.forall_mem_cons.mpr ⟨rfl, zs_nil⟩)⟩)⟩)⟩)⟩)⟩) ?_
    exact zt_X18_why_J194 hX hr hR hd hf hk hrec h
  · rw [if_neg c157] at h
    refine zw_aload_n hX dX18_why_160 rfl ?_
    refine zw_iload hX dX18_why_161 rfl ?_
    refine zw_aload_n hX dX18_why_163 rfl ?_
    obtain ⟨b13, g, h⟩ := zb_some h
    refine zw_getr hX zl_X18_100 dX18_why_164 g ?_
    refine zw_aload_n hX dX18_why_167 rfl ?_
    obtain ⟨b14, g, h⟩ := zb_some h
    refine zw_getr hX zl_X18_124 dX18_why_168 g ?_
    refine zw_iload_n hX dX18_why_171 rfl ?_
    obtain ⟨v15, g, h⟩ := zb_some h
    refine zw_xi hX dX18_why_172 g ?_
    obtain ⟨v16, g, h⟩ := zb_some h
    refine zw_xi hX dX18_why_173 g ?_
    refine zw_aload_n hX dX18_why_174 rfl ?_
    refine zw_iload_n hX dX18_why_175 rfl ?_
    obtain ⟨_, gi, h⟩ := zb_some h
    obtain ⟨r18, g, h⟩ := zb_some h
    refine zc_Vi (as := [.int i2]) hX gi (zt_X18_zoneOf (d := d - 1) (by omega) g) zl_X18_407 rfl dX18_why_176 ⟨rfl, rfl, Nat.le_of_ble_eq_true rfl⟩ ⟨by omega, by omega⟩ ?_
    refine zw_iload_n hX dX18_why_179 rfl ?_
    refine zw_sipush (v := (1440 : Int32)) hX dX18_why_180 (by decide) ?_
    refine zw_irem hX dX18_why_183 (by decide) ?_
    obtain ⟨_, gi, h⟩ := zb_some h
    obtain ⟨r20, g, h⟩ := zb_some h
    refine zc_Vi (as := [.int i8, .int v16, .int r18.1, .int (i3 - i3 / (1440 : Int32) * (1440 : Int32))]) hX gi (zt_X18_spans (d := d - 1) (by omega) g) zl_X18_410 rfl dX18_why_184 ⟨rfl, rfl, Nat.le_of_ble_eq_true rfl⟩ ⟨by omega, by omega⟩ ?_
    refine zw_if_eq (tgt := 194) hX dX18_why_187 (by decide) (fun c187 => ?_) (fun c187 => ?_)
    · rw [if_pos c187] at h
      refine zw_sub (lv' := [(0, .ref a0), (1, .int i1), (2, .int i2), (3, .int i3), (4, .int i4), (8, .int i8)]) (List.forall_mem_cons.mpr ⟨rfl, (List.forall_mem_cons.mpr ⟨rfl, (List.forall_mem_cons.mpr ⟨rfl, (List.forall_mem_cons.mpr ⟨rfl, (List.forall_mem_cons.mpr ⟨rfl, (List.forall_mem_cons.mpr ⟨rfl, zs_nil⟩)⟩)⟩)⟩)⟩)⟩) ?_
      exact zt_X18_why_J194 hX hr hR hd hf hk hrec h
    · rw [if_neg c187] at h
      refine zw_iconst (v := (1 : Int32)) hX dX18_why_190 (by decide) ?_
      refine zw_goto (tgt := 195) hX dX18_why_191 (by decide) ?_
      refine zw_istore hX dX18_why_195 (by decide) ?_
      refine zw_iinc (v := (i8 + (1 : Int32))) hX dX18_why_197 rfl rfl (by decide) ?_
      refine zw_goto (tgt := 89) hX dX18_why_200 (by decide) ?_
      refine zw_sub (lv' := [(0, .ref a0), (1, .int i1), (2, .int i2), (3, .int i3), (4, .int i4), (7, .int (1 : Int32)), (8, .int (i8 + (1 : Int32)))]) (List.forall_mem_cons.mpr ⟨rfl, (List.forall_mem_cons.mpr ⟨rfl, (List.forall_mem_cons.mpr ⟨rfl, (List.forall_mem_cons.mpr ⟨rfl, (List.forall_mem_cons.mpr ⟨rfl, (List.forall_mem_cons.mpr ⟨rfl, (List.forall_mem_cons.mpr ⟨rfl, zs_nil⟩)⟩)⟩)⟩)⟩)⟩)⟩) ?_
      exact hrec _ _ _ h
set_option maxHeartbeats 4000000 in
set_option maxRecDepth 100000 in
theorem zt_X18_why_J152 {p : Program} {l : Launch} {e : Env} {R : Room} {s : State} {m : MethodId} {args : Array Value} {below : List Frame} {meth : Method} {c : Code} {V : zm_V} {mc ms d rc rs : Nat} (hX : zm_X p R s m args meth c RX18 "why" cX18_why 11 zk_E V mc ms) (hr : meth.sig.returnType = (some .int)) (hR : R.frames = d ∧ R.locals = 64 * d) (hd : 2 ≤ d) {N : Nat} {k : Nat → Int32 → Int32 → Int32 → Int32 → Int32 → Int32 → zm_S → Option ((Int32 × zm_S) ⊕ ((Int32) × zm_S))} {a0 : Nat} {i1 : Int32} {i2 : Int32} {i3 : Int32} {i4 : Int32} {i8 : Int32} {res : (Int32 × zm_S) ⊕ ((Int32) × zm_S)} {out : (Int32 × zm_S)}   (hf : ∀ o, res = .inl o → o = out) (hk : ∀ (x7 : Int32) (S' : zm_S), res = .inr (x7, S') → zw p l e R s m args below meth c (vx_MQ below (zm_Qc zk_E V (zo_i out)) (zm_XC zk_E V zo_x) args s mc ms (fun q => V.2.2.2.1 ≤ q)) 11 zk_E V mc ms 203 [(7, .int x7)] [] S' rc rs) (hrec : ∀ (i7' : Int32) (i8' : Int32) (S : zm_S), k a0 i1 i2 i3 i4 i7' i8' S = some res → zw p l e R s m args below meth c (vx_MQ below (zm_Qc zk_E V (zo_i out)) (zm_XC zk_E V zo_x) args s mc ms (fun q => V.2.2.2.1 ≤ q)) 11 zk_E V mc ms 89 [(0, .ref a0), (1, .int i1), (2, .int i2), (3, .int i3), (4, .int i4), (7, .int i7'), (8, .int i8')] [] S rc rs) {S : zm_S} (h : zf_X18_why_J152 N k a0 i1 i2 i3 i4 i8 S = some res) : zw p l e R s m args below meth c (vx_MQ below (zm_Qc zk_E V (zo_i out)) (zm_XC zk_E V zo_x) args s mc ms (fun q => V.2.2.2.1 ≤ q)) 11 zk_E V mc ms 152 [(0, .ref a0), (1, .int i1), (2, .int i2), (3, .int i3), (4, .int i4), (8, .int i8)] [] S rc rs := by
  unfold zf_X18_why_J152 at h
  refine zw_iconst (v := (0 : Int32)) hX dX18_why_152 (by decide) ?_
  refine zw_sub (lv' := [(0, .ref a0), (1, .int i1), (2, .int i2), (3, .int i3), (4, .int i4), (8, .int i8)]) (List.forall_mem_cons.mpr ⟨rfl, (List.forall_mem_cons.mpr ⟨rfl, (List.forall_mem_cons.mpr ⟨rfl, (List.forall_mem_cons.mpr ⟨rfl, (List.forall_mem_cons.mpr ⟨rfl, (List.forall_mem_cons.mpr ⟨rfl, zs_nil⟩)⟩)⟩)⟩)⟩)⟩) ?_
  exact zt_X18_why_J153 hX hr hR hd hf hk hrec h
set_option maxHeartbeats 4000000 in
set_option maxRecDepth 100000 in
theorem zt_X18_why_J148 {p : Program} {l : Launch} {e : Env} {R : Room} {s : State} {m : MethodId} {args : Array Value} {below : List Frame} {meth : Method} {c : Code} {V : zm_V} {mc ms d rc rs : Nat} (hX : zm_X p R s m args meth c RX18 "why" cX18_why 11 zk_E V mc ms) (hr : meth.sig.returnType = (some .int)) (hR : R.frames = d ∧ R.locals = 64 * d) (hd : 2 ≤ d) {N : Nat} {k : Nat → Int32 → Int32 → Int32 → Int32 → Int32 → Int32 → zm_S → Option ((Int32 × zm_S) ⊕ ((Int32) × zm_S))} {a0 : Nat} {i1 : Int32} {i2 : Int32} {i3 : Int32} {i4 : Int32} {i8 : Int32} {res : (Int32 × zm_S) ⊕ ((Int32) × zm_S)} {out : (Int32 × zm_S)}   (hf : ∀ o, res = .inl o → o = out) (hk : ∀ (x7 : Int32) (S' : zm_S), res = .inr (x7, S') → zw p l e R s m args below meth c (vx_MQ below (zm_Qc zk_E V (zo_i out)) (zm_XC zk_E V zo_x) args s mc ms (fun q => V.2.2.2.1 ≤ q)) 11 zk_E V mc ms 203 [(7, .int x7)] [] S' rc rs) (hrec : ∀ (i7' : Int32) (i8' : Int32) (S : zm_S), k a0 i1 i2 i3 i4 i7' i8' S = some res → zw p l e R s m args below meth c (vx_MQ below (zm_Qc zk_E V (zo_i out)) (zm_XC zk_E V zo_x) args s mc ms (fun q => V.2.2.2.1 ≤ q)) 11 zk_E V mc ms 89 [(0, .ref a0), (1, .int i1), (2, .int i2), (3, .int i3), (4, .int i4), (7, .int i7'), (8, .int i8')] [] S rc rs) {S : zm_S} (h : zf_X18_why_J148 N k a0 i1 i2 i3 i4 i8 S = some res) : zw p l e R s m args below meth c (vx_MQ below (zm_Qc zk_E V (zo_i out)) (zm_XC zk_E V zo_x) args s mc ms (fun q => V.2.2.2.1 ≤ q)) 11 zk_E V mc ms 148 [(0, .ref a0), (1, .int i1), (2, .int i2), (3, .int i3), (4, .int i4), (8, .int i8)] [] S rc rs := by
  unfold zf_X18_why_J148 at h
  refine zw_iconst (v := (1 : Int32)) hX dX18_why_148 (by decide) ?_
  refine zw_goto (tgt := 153) hX dX18_why_149 (by decide) ?_
  refine zw_sub (lv' := [(0, .ref a0), (1, .int i1), (2, .int i2), (3, .int i3), (4, .int i4), (8, .int i8)]) (List.forall_mem_cons.mpr ⟨rfl, (List.forall_mem_cons.mpr ⟨rfl, (List.forall_mem_cons.mpr ⟨rfl, (List.forall_mem_cons.mpr ⟨rfl, (List.forall_mem_cons.mpr ⟨rfl, (List.forall_mem_cons.mpr ⟨rfl, zs_nil⟩)⟩)⟩)⟩)⟩)⟩) ?_
  exact zt_X18_why_J153 hX hr hR hd hf hk hrec h
set_option maxHeartbeats 4000000 in
set_option maxRecDepth 100000 in
theorem zt_X18_why_L89 {p : Program} {l : Launch} {e : Env} {R : Room} {s : State} {m : MethodId} {args : Array Value} {below : List Frame} {meth : Method} {c : Code} {V : zm_V} {mc ms d rc rs : Nat} (hX : zm_X p R s m args meth c RX18 "why" cX18_why 11 zk_E V mc ms) (hr : meth.sig.returnType = (some .int)) (hR : R.frames = d ∧ R.locals = 64 * d) (hd : 2 ≤ d) {N : Nat} {res : (Int32 × zm_S) ⊕ ((Int32) × zm_S)} {out : (Int32 × zm_S)} (a0 : Nat) (i1 : Int32) (i2 : Int32) (i3 : Int32) (i4 : Int32) (hf : ∀ o, res = .inl o → o = out) (hk : ∀ (x7 : Int32) (S' : zm_S), res = .inr (x7, S') → zw p l e R s m args below meth c (vx_MQ below (zm_Qc zk_E V (zo_i out)) (zm_XC zk_E V zo_x) args s mc ms (fun q => V.2.2.2.1 ≤ q)) 11 zk_E V mc ms 203 [(7, .int x7)] [] S' rc rs) : ∀ (n : Nat) (i7 : Int32) (i8 : Int32) (S : zm_S), zf_X18_why_L89 N n a0 i1 i2 i3 i4 i7 i8 S = some res → zw p l e R s m args below meth c (vx_MQ below (zm_Qc zk_E V (zo_i out)) (zm_XC zk_E V zo_x) args s mc ms (fun q => V.2.2.2.1 ≤ q)) 11 zk_E V mc ms 89 [(0, .ref a0), (1, .int i1), (2, .int i2), (3, .int i3), (4, .int i4), (7, .int i7), (8, .int i8)] [] S rc rs := by
  intro n
  induction n with
  | zero => intro i7 i8 S h; cases h
  | succ n ih =>
    intro i7 i8 S h
    rw [zf_X18_why_L89] at h
    refine zw_iload hX dX18_why_89 rfl ?_
    refine zw_aload_n hX dX18_why_91 rfl ?_
    obtain ⟨v8, g, h⟩ := zb_some h
    refine zw_geti hX zl_X18_388 dX18_why_92 g ?_
    refine zw_icmp_ge (tgt := 203) hX dX18_why_95 (by decide) (fun c95 => ?_) (fun c95 => ?_)
    · rw [if_pos c95] at h
      refine zw_sub (lv' := [(7, .int i7)]) (List.forall_mem_cons.mpr ⟨rfl, zs_nil⟩) ?_
      exact hk _ _ (Option.some.inj h).symm
    · rw [if_neg c95] at h
      refine zw_iload hX dX18_why_98 rfl ?_
      refine zw_if_ne (tgt := 203) hX dX18_why_100 (by decide) (fun c100 => ?_) (fun c100 => ?_)
      · rw [if_neg c100] at h
        refine zw_sub (lv' := [(7, .int i7)]) (List.forall_mem_cons.mpr ⟨rfl, zs_nil⟩) ?_
        exact hk _ _ (Option.some.inj h).symm
      · rw [if_pos c100] at h
        refine zw_aload_n hX dX18_why_103 rfl ?_
        refine zw_iconst (v := (2 : Int32)) hX dX18_why_104 (by decide) ?_
        refine zw_iload hX dX18_why_105 rfl ?_
        refine zw_iload hX dX18_why_107 rfl ?_
        obtain ⟨_, gi, h⟩ := zb_some h
        obtain ⟨r10, g, h⟩ := zb_some h
        refine zc_Vi (as := [.int (2 : Int32), .int i8, .int i4]) hX gi (zt_X18_lastTold (d := d - 1) (by omega) g) zl_X18_391 rfl dX18_why_109 ⟨rfl, rfl, Nat.le_of_ble_eq_true rfl⟩ ⟨by omega, by omega⟩ ?_
        refine zw_istore hX dX18_why_112 (by decide) ?_
        refine zw_aload_n hX dX18_why_114 rfl ?_
        refine zw_iconst (v := (1 : Int32)) hX dX18_why_115 (by decide) ?_
        refine zw_iload hX dX18_why_116 rfl ?_
        refine zw_iload hX dX18_why_118 rfl ?_
        obtain ⟨_, gi, h⟩ := zb_some h
        obtain ⟨r12, g, h⟩ := zb_some h
        refine zc_Vi (as := [.int (1 : Int32), .int i8, .int i4]) hX gi (zt_X18_lastTold (d := d - 1) (by omega) g) zl_X18_391 rfl dX18_why_120 ⟨rfl, rfl, Nat.le_of_ble_eq_true rfl⟩ ⟨by omega, by omega⟩ ?_
        refine zw_if_lt (tgt := 152) hX dX18_why_123 (by decide) (fun c123 => ?_) (fun c123 => ?_)
        · rw [if_pos c123] at h
          refine zw_sub (lv' := [(0, .ref a0), (1, .int i1), (2, .int i2), (3, .int i3), (4, .int i4), (8, .int i8)]) (List.forall_mem_cons.mpr ⟨rfl, (List.forall_mem_cons.mpr ⟨rfl, (List.forall_mem_cons.mpr ⟨rfl, (List.forall_mem_cons.mpr ⟨rfl, (List.forall_mem_cons.mpr ⟨rfl, (List.forall_mem_cons.mpr ⟨rfl, zs_nil⟩)⟩)⟩)⟩)⟩)⟩) ?_
          exact zt_X18_why_J152 hX hr hR hd hf hk ih h
        · rw [if_neg c123] at h
          refine zw_aload_n hX dX18_why_126 rfl ?_
          obtain ⟨b21, g, h⟩ := zb_some h
          refine zw_getr hX zl_X18_142 dX18_why_127 g ?_
          refine zw_iload hX dX18_why_130 rfl ?_
          obtain ⟨v22, g, h⟩ := zb_some h
          refine zw_xi hX dX18_why_132 g ?_
          refine zw_iload_n hX dX18_why_133 rfl ?_
          refine zw_icmp_gt (tgt := 152) hX dX18_why_134 (by decide) (fun c134 => ?_) (fun c134 => ?_)
          · rw [if_pos c134] at h
            refine zw_sub (lv' := [(0, .ref a0), (1, .int i1), (2, .int i2), (3, .int i3), (4, .int i4), (8, .int i8)]) (List.forall_mem_cons.mpr ⟨rfl, (List.forall_mem_cons.mpr ⟨rfl, (List.forall_mem_cons.mpr ⟨rfl, (List.forall_mem_cons.mpr ⟨rfl, (List.forall_mem_cons.mpr ⟨rfl, (List.forall_mem_cons.mpr ⟨rfl, zs_nil⟩)⟩)⟩)⟩)⟩)⟩) ?_
            exact zt_X18_why_J152 hX hr hR hd hf hk ih h
          · rw [if_neg c134] at h
            refine zw_iload hX dX18_why_137 rfl ?_
            refine zw_if_lt (tgt := 148) hX dX18_why_139 (by decide) (fun c139 => ?_) (fun c139 => ?_)
            · rw [if_pos c139] at h
              refine zw_sub (lv' := [(0, .ref a0), (1, .int i1), (2, .int i2), (3, .int i3), (4, .int i4), (8, .int i8)]) (List.forall_mem_cons.mpr ⟨rfl, (List.forall_mem_cons.mpr ⟨rfl, (List.forall_mem_cons.mpr ⟨rfl, (List.forall_mem_cons.mpr ⟨rfl, (List.forall_mem_cons.mpr ⟨rfl, (List.forall_mem_cons.mpr ⟨rfl, zs_nil⟩)⟩)⟩)⟩)⟩)⟩) ?_
              exact zt_X18_why_J148 hX hr hR hd hf hk ih h
            · rw [if_neg c139] at h
              refine zw_iload hX dX18_why_142 rfl ?_
              refine zw_iload_n hX dX18_why_144 rfl ?_
              refine zw_icmp_le (tgt := 152) hX dX18_why_145 (by decide) (fun c145 => ?_) (fun c145 => ?_)
              · rw [if_pos c145] at h
                refine zw_sub (lv' := [(0, .ref a0), (1, .int i1), (2, .int i2), (3, .int i3), (4, .int i4), (8, .int i8)]) (List.forall_mem_cons.mpr ⟨rfl, (List.forall_mem_cons.mpr ⟨rfl, (List.forall_mem_cons.mpr ⟨rfl, (List.forall_mem_cons.mpr ⟨rfl, (List.forall_mem_cons.mpr ⟨rfl, (List.forall_mem_cons.mpr ⟨rfl, zs_nil⟩)⟩)⟩)⟩)⟩)⟩) ?_
                exact zt_X18_why_J152 hX hr hR hd hf hk ih h
              · rw [if_neg c145] at h
                refine zw_sub (lv' := [(0, .ref a0), (1, .int i1), (2, .int i2), (3, .int i3), (4, .int i4), (8, .int i8)]) (List.forall_mem_cons.mpr ⟨rfl, (List.forall_mem_cons.mpr ⟨rfl, (List.forall_mem_cons.mpr ⟨rfl, (List.forall_mem_cons.mpr ⟨rfl, (List.forall_mem_cons.mpr ⟨rfl, (List.forall_mem_cons.mpr ⟨rfl, zs_nil⟩)⟩)⟩)⟩)⟩)⟩) ?_
                exact zt_X18_why_J148 hX hr hR hd hf hk ih h
set_option maxHeartbeats 4000000 in
set_option maxRecDepth 100000 in
theorem zt_X18_why_J203 {p : Program} {l : Launch} {e : Env} {R : Room} {s : State} {m : MethodId} {args : Array Value} {below : List Frame} {meth : Method} {c : Code} {V : zm_V} {mc ms d rc rs : Nat} (hX : zm_X p R s m args meth c RX18 "why" cX18_why 11 zk_E V mc ms) (hr : meth.sig.returnType = (some .int)) (hR : R.frames = d ∧ R.locals = 64 * d) (hd : 2 ≤ d) {N : Nat} {i7 : Int32} {out : (Int32 × zm_S)} {S : zm_S} (h : zf_X18_why_J203 N i7 S = some out) : zw p l e R s m args below meth c (vx_MQ below (zm_Qc zk_E V (zo_i out)) (zm_XC zk_E V zo_x) args s mc ms (fun q => V.2.2.2.1 ≤ q)) 11 zk_E V mc ms 203 [(7, .int i7)] [] S rc rs := by
  unfold zf_X18_why_J203 at h
  refine zw_iload hX dX18_why_203 rfl ?_
  refine zw_if_eq (tgt := 212) hX dX18_why_205 (by decide) (fun c205 => ?_) (fun c205 => ?_)
  · rw [if_pos c205] at h
    refine zw_iconst (v := (5 : Int32)) hX dX18_why_212 (by decide) ?_
    obtain rfl := Option.some.inj h
    exact zw_iret hX hr dX18_why_213 rfl ⟨rfl, rfl⟩
  · rw [if_neg c205] at h
    refine zw_iconst (v := (0 : Int32)) hX dX18_why_208 (by decide) ?_
    refine zw_goto (tgt := 213) hX dX18_why_209 (by decide) ?_
    obtain rfl := Option.some.inj h
    exact zw_iret hX hr dX18_why_213 rfl ⟨rfl, rfl⟩
set_option maxHeartbeats 4000000 in
set_option maxRecDepth 100000 in
theorem zt_X18_why_J84 {p : Program} {l : Launch} {e : Env} {R : Room} {s : State} {m : MethodId} {args : Array Value} {below : List Frame} {meth : Method} {c : Code} {V : zm_V} {mc ms d rc rs : Nat} (hX : zm_X p R s m args meth c RX18 "why" cX18_why 11 zk_E V mc ms) (hr : meth.sig.returnType = (some .int)) (hR : R.frames = d ∧ R.locals = 64 * d) (hd : 2 ≤ d) {N : Nat} {a0 : Nat} {i1 : Int32} {i2 : Int32} {i3 : Int32} {i4 : Int32} {t0 : Int32} {out : (Int32 × zm_S)} {S : zm_S} (h : zf_X18_why_J84 N a0 i1 i2 i3 i4 t0 S = some out) : zw p l e R s m args below meth c (vx_MQ below (zm_Qc zk_E V (zo_i out)) (zm_XC zk_E V zo_x) args s mc ms (fun q => V.2.2.2.1 ≤ q)) 11 zk_E V mc ms 84 [(0, .ref a0), (1, .int i1), (2, .int i2), (3, .int i3), (4, .int i4)] [.int t0] S rc rs := by
  unfold zf_X18_why_J84 at h
  refine zw_istore hX dX18_why_84 (by decide) ?_
  refine zw_iconst (v := (0 : Int32)) hX dX18_why_86 (by decide) ?_
  refine zw_istore hX dX18_why_87 (by decide) ?_
  obtain ⟨r, g, h⟩ := zb_some h
  refine zw_sub (lv' := [(0, .ref a0), (1, .int i1), (2, .int i2), (3, .int i3), (4, .int i4), (7, .int t0), (8, .int (0 : Int32))]) (List.forall_mem_cons.mpr ⟨rfl, (List.forall_mem_cons.mpr ⟨rfl, (List.forall_mem_cons.mpr ⟨rfl, (List.forall_mem_cons.mpr ⟨rfl, (List.forall_mem_cons.mpr ⟨rfl, (List.forall_mem_cons.mpr ⟨rfl, (List.forall_mem_cons.mpr ⟨rfl, zs_nil⟩)⟩)⟩)⟩)⟩)⟩)⟩) ?_
  refine zt_X18_why_L89 hX hr hR hd (res := r) (out := out) a0 i1 i2 i3 i4 ?_ ?_ N _ _ _ g
  · intro o ho
    subst ho
    exact Option.some.inj h
  · intro v24 S23 hx
    subst hx
    try dsimp only at h
    refine zw_sub (lv' := [(7, .int v24)]) (List.forall_mem_cons.mpr ⟨rfl, zs_nil⟩) ?_
    exact zt_X18_why_J203 hX hr hR hd h
set_option maxHeartbeats 4000000 in
set_option maxRecDepth 100000 in
theorem zt_X18_why_J71 {p : Program} {l : Launch} {e : Env} {R : Room} {s : State} {m : MethodId} {args : Array Value} {below : List Frame} {meth : Method} {c : Code} {V : zm_V} {mc ms d rc rs : Nat} (hX : zm_X p R s m args meth c RX18 "why" cX18_why 11 zk_E V mc ms) (hr : meth.sig.returnType = (some .int)) (hR : R.frames = d ∧ R.locals = 64 * d) (hd : 2 ≤ d) {N : Nat} {a0 : Nat} {i1 : Int32} {i2 : Int32} {i3 : Int32} {i4 : Int32} {out : (Int32 × zm_S)} {S : zm_S} (h : zf_X18_why_J71 N a0 i1 i2 i3 i4 S = some out) : zw p l e R s m args below meth c (vx_MQ below (zm_Qc zk_E V (zo_i out)) (zm_XC zk_E V zo_x) args s mc ms (fun q => V.2.2.2.1 ≤ q)) 11 zk_E V mc ms 71 [(0, .ref a0), (1, .int i1), (2, .int i2), (3, .int i3), (4, .int i4)] [] S rc rs := by
  unfold zf_X18_why_J71 at h
  refine zw_iload_n hX dX18_why_71 rfl ?_
  refine zw_aload_n hX dX18_why_72 rfl ?_
  obtain ⟨v7, g, h⟩ := zb_some h
  refine zw_geti hX zl_X18_338 dX18_why_73 g ?_
  refine zw_icmp_ne (tgt := 83) hX dX18_why_76 (by decide) (fun c76 => ?_) (fun c76 => ?_)
  · rw [if_neg c76] at h
    refine zw_iconst (v := (0 : Int32)) hX dX18_why_83 (by decide) ?_
    refine zw_sub (lv' := [(0, .ref a0), (1, .int i1), (2, .int i2), (3, .int i3), (4, .int i4)]) (List.forall_mem_cons.mpr ⟨rfl, (List.forall_mem_cons.mpr ⟨rfl, (List.forall_mem_cons.mpr ⟨rfl, (List.forall_mem_cons.mpr ⟨rfl, (List.forall_mem_cons.mpr ⟨rfl, zs_nil⟩)⟩)⟩)⟩)⟩) ?_
    exact zt_X18_why_J84 hX hr hR hd h
  · rw [if_pos c76] at h
    refine zw_iconst (v := (1 : Int32)) hX dX18_why_79 (by decide) ?_
    refine zw_goto (tgt := 84) hX dX18_why_80 (by decide) ?_
    refine zw_sub (lv' := [(0, .ref a0), (1, .int i1), (2, .int i2), (3, .int i3), (4, .int i4)]) (List.forall_mem_cons.mpr ⟨rfl, (List.forall_mem_cons.mpr ⟨rfl, (List.forall_mem_cons.mpr ⟨rfl, (List.forall_mem_cons.mpr ⟨rfl, (List.forall_mem_cons.mpr ⟨rfl, zs_nil⟩)⟩)⟩)⟩)⟩) ?_
    exact zt_X18_why_J84 hX hr hR hd h
set_option maxHeartbeats 4000000 in
set_option maxRecDepth 100000 in
theorem zt_X18_why_J48 {p : Program} {l : Launch} {e : Env} {R : Room} {s : State} {m : MethodId} {args : Array Value} {below : List Frame} {meth : Method} {c : Code} {V : zm_V} {mc ms d rc rs : Nat} (hX : zm_X p R s m args meth c RX18 "why" cX18_why 11 zk_E V mc ms) (hr : meth.sig.returnType = (some .int)) (hR : R.frames = d ∧ R.locals = 64 * d) (hd : 2 ≤ d) {N : Nat} {a0 : Nat} {i1 : Int32} {i2 : Int32} {i3 : Int32} {i4 : Int32} {i5 : Int32} {out : (Int32 × zm_S)} {S : zm_S} (h : zf_X18_why_J48 N a0 i1 i2 i3 i4 i5 S = some out) : zw p l e R s m args below meth c (vx_MQ below (zm_Qc zk_E V (zo_i out)) (zm_XC zk_E V zo_x) args s mc ms (fun q => V.2.2.2.1 ≤ q)) 11 zk_E V mc ms 48 [(0, .ref a0), (1, .int i1), (2, .int i2), (3, .int i3), (4, .int i4), (5, .int i5)] [] S rc rs := by
  unfold zf_X18_why_J48 at h
  refine zw_iload hX dX18_why_48 rfl ?_
  refine zw_if_lt (tgt := 71) hX dX18_why_50 (by decide) (fun c50 => ?_) (fun c50 => ?_)
  · rw [if_pos c50] at h
    refine zw_sub (lv' := [(0, .ref a0), (1, .int i1), (2, .int i2), (3, .int i3), (4, .int i4)]) (List.forall_mem_cons.mpr ⟨rfl, (List.forall_mem_cons.mpr ⟨rfl, (List.forall_mem_cons.mpr ⟨rfl, (List.forall_mem_cons.mpr ⟨rfl, (List.forall_mem_cons.mpr ⟨rfl, zs_nil⟩)⟩)⟩)⟩)⟩) ?_
    exact zt_X18_why_J71 hX hr hR hd h
  · rw [if_neg c50] at h
    refine zw_aload_n hX dX18_why_53 rfl ?_
    obtain ⟨b25, g, h⟩ := zb_some h
    refine zw_getr hX zl_X18_106 dX18_why_54 g ?_
    refine zw_aload_n hX dX18_why_57 rfl ?_
    obtain ⟨b26, g, h⟩ := zb_some h
    refine zw_getr hX zl_X18_124 dX18_why_58 g ?_
    refine zw_iload_n hX dX18_why_61 rfl ?_
    obtain ⟨v27, g, h⟩ := zb_some h
    refine zw_xi hX dX18_why_62 g ?_
    obtain ⟨v28, g, h⟩ := zb_some h
    refine zw_xi hX dX18_why_63 g ?_
    refine zw_iload hX dX18_why_64 rfl ?_
    refine zw_icmp_eq (tgt := 71) hX dX18_why_66 (by decide) (fun c66 => ?_) (fun c66 => ?_)
    · rw [if_pos c66] at h
      refine zw_sub (lv' := [(0, .ref a0), (1, .int i1), (2, .int i2), (3, .int i3), (4, .int i4)]) (List.forall_mem_cons.mpr ⟨rfl, (List.forall_mem_cons.mpr ⟨rfl, (List.forall_mem_cons.mpr ⟨rfl, (List.forall_mem_cons.mpr ⟨rfl, (List.forall_mem_cons.mpr ⟨rfl, zs_nil⟩)⟩)⟩)⟩)⟩) ?_
      exact zt_X18_why_J71 hX hr hR hd h
    · rw [if_neg c66] at h
      refine zw_iconst (v := (4 : Int32)) hX dX18_why_69 (by decide) ?_
      obtain rfl := Option.some.inj h
      exact zw_iret hX hr dX18_why_70 rfl ⟨rfl, rfl⟩
set_option maxHeartbeats 4000000 in
set_option maxRecDepth 100000 in
theorem zt_X18_why {l : Launch} {V : zm_V} {N : Nat} {S : zm_S} {out : (Int32 × zm_S)} {d : Nat} {a0 : Nat} {i1 : Int32} {i2 : Int32} {i3 : Int32} {i4 : Int32} {i5 : Int32} (hd : 2 ≤ d) (h : zf_X18_why N a0 i1 i2 i3 i4 i5 S = some out) : zm_Met l zk_E V yX18_why (.code yX18_why cX18_why 11 (some .int)) d [.ref a0, .int i1, .int i2, .int i3, .int i4, .int i5] S 0 0 (zo_i out) zo_x := by
  refine zm_of (by decide +kernel) (Nat.le_of_ble_eq_true rfl) ?_
  intro p e R s m args below meth c hRR hX hr hxt
  have hR : R.frames = d ∧ R.locals = 64 * d := by rw [hRR]; exact ⟨rfl, rfl⟩
  have hX : zm_X p R s m args meth c RX18 "why" cX18_why 11 zk_E V 0 0 := hX
  unfold zf_X18_why at h
  refine zw_sub (lv' := [(0, .ref a0), (1, .int i1), (2, .int i2), (3, .int i3), (4, .int i4), (5, .int i5)]) (List.forall_mem_cons.mpr ⟨rfl, (List.forall_mem_cons.mpr ⟨rfl, (List.forall_mem_cons.mpr ⟨rfl, (List.forall_mem_cons.mpr ⟨rfl, (List.forall_mem_cons.mpr ⟨rfl, (List.forall_mem_cons.mpr ⟨rfl, zs_nil⟩)⟩)⟩)⟩)⟩)⟩) ?_
  refine zw_aload_n hX dX18_why_0 rfl ?_
  refine zw_iconst (v := (0 : Int32)) hX dX18_why_1 (by decide) ?_
  refine zw_iload_n hX dX18_why_2 rfl ?_
  refine zw_iload hX dX18_why_3 rfl ?_
  obtain ⟨_, gi, h⟩ := zb_some h
  obtain ⟨r2, g, h⟩ := zb_some h
  refine zc_Vi (as := [.int (0 : Int32), .int i1, .int i4]) hX gi (zt_X18_lastTold (d := d - 1) (by omega) g) zl_X18_391 rfl dX18_why_5 ⟨rfl, rfl, Nat.le_of_ble_eq_true rfl⟩ ⟨by omega, by omega⟩ ?_
  refine zw_if_ge (tgt := 13) hX dX18_why_8 (by decide) (fun c8 => ?_) (fun c8 => ?_)
  · rw [if_pos c8] at h
    refine zw_aload_n hX dX18_why_13 rfl ?_
    obtain ⟨b3, g, h⟩ := zb_some h
    refine zw_getr hX zl_X18_127 dX18_why_14 g ?_
    refine zw_iload_n hX dX18_why_17 rfl ?_
    obtain ⟨v4, g, h⟩ := zb_some h
    refine zw_xi hX dX18_why_18 g ?_
    refine zw_iload_n hX dX18_why_19 rfl ?_
    refine zw_icmp_ge (tgt := 25) hX dX18_why_20 (by decide) (fun c20 => ?_) (fun c20 => ?_)
    · rw [if_pos c20] at h
      refine zw_aload_n hX dX18_why_25 rfl ?_
      refine zw_iconst (v := (3 : Int32)) hX dX18_why_26 (by decide) ?_
      refine zw_iload_n hX dX18_why_27 rfl ?_
      refine zw_iload hX dX18_why_28 rfl ?_
      obtain ⟨_, gi, h⟩ := zb_some h
      obtain ⟨r6, g, h⟩ := zb_some h
      refine zc_Vi (as := [.int (3 : Int32), .int i1, .int i4]) hX gi (zt_X18_lastTold (d := d - 1) (by omega) g) zl_X18_391 rfl dX18_why_30 ⟨rfl, rfl, Nat.le_of_ble_eq_true rfl⟩ ⟨by omega, by omega⟩ ?_
      refine zw_istore hX dX18_why_33 (by decide) ?_
      refine zw_iload hX dX18_why_35 rfl ?_
      refine zw_if_lt (tgt := 48) hX dX18_why_37 (by decide) (fun c37 => ?_) (fun c37 => ?_)
      · rw [if_pos c37] at h
        refine zw_sub (lv' := [(0, .ref a0), (1, .int i1), (2, .int i2), (3, .int i3), (4, .int i4), (5, .int i5)]) (List.forall_mem_cons.mpr ⟨rfl, (List.forall_mem_cons.mpr ⟨rfl, (List.forall_mem_cons.mpr ⟨rfl, (List.forall_mem_cons.mpr ⟨rfl, (List.forall_mem_cons.mpr ⟨rfl, (List.forall_mem_cons.mpr ⟨rfl, zs_nil⟩)⟩)⟩)⟩)⟩)⟩) ?_
        exact zt_X18_why_J48 hX hr hR hd h
      · rw [if_neg c37] at h
        refine zw_iload hX dX18_why_40 rfl ?_
        refine zw_iload_n hX dX18_why_42 rfl ?_
        refine zw_icmp_gt (tgt := 48) hX dX18_why_43 (by decide) (fun c43 => ?_) (fun c43 => ?_)
        · rw [if_pos c43] at h
          refine zw_sub (lv' := [(0, .ref a0), (1, .int i1), (2, .int i2), (3, .int i3), (4, .int i4), (5, .int i5)]) (List.forall_mem_cons.mpr ⟨rfl, (List.forall_mem_cons.mpr ⟨rfl, (List.forall_mem_cons.mpr ⟨rfl, (List.forall_mem_cons.mpr ⟨rfl, (List.forall_mem_cons.mpr ⟨rfl, (List.forall_mem_cons.mpr ⟨rfl, zs_nil⟩)⟩)⟩)⟩)⟩)⟩) ?_
          exact zt_X18_why_J48 hX hr hR hd h
        · rw [if_neg c43] at h
          refine zw_iconst (v := (3 : Int32)) hX dX18_why_46 (by decide) ?_
          obtain rfl := Option.some.inj h
          exact zw_iret hX hr dX18_why_47 rfl ⟨rfl, rfl⟩
    · rw [if_neg c20] at h
      refine zw_iconst (v := (2 : Int32)) hX dX18_why_23 (by decide) ?_
      obtain rfl := Option.some.inj h
      exact zw_iret hX hr dX18_why_24 rfl ⟨rfl, rfl⟩
  · rw [if_neg c8] at h
    refine zw_iconst (v := (1 : Int32)) hX dX18_why_11 (by decide) ?_
    obtain rfl := Option.some.inj h
    exact zw_iret hX hr dX18_why_12 rfl ⟨rfl, rfl⟩
set_option maxHeartbeats 4000000 in
set_option maxRecDepth 100000 in
theorem zt_X18_refused_J193 {p : Program} {l : Launch} {e : Env} {R : Room} {s : State} {m : MethodId} {args : Array Value} {below : List Frame} {meth : Method} {c : Code} {V : zm_V} {mc ms d rc rs : Nat} (hX : zm_X p R s m args meth c RX18 "refused" cX18_refused 8 zk_E V mc ms) (hr : meth.sig.returnType = (some .int)) (hR : R.frames = d ∧ R.locals = 64 * d) (hd : 3 ≤ d) {N : Nat} {k : Nat → Int32 → Int32 → Int32 → zm_S → Option ((Int32 × zm_S) ⊕ ((Int32) × zm_S))} {a0 : Nat} {i2 : Int32} {i6 : Int32} {res : (Int32 × zm_S) ⊕ ((Int32) × zm_S)} {out : (Int32 × zm_S)}   (hf : ∀ o, res = .inl o → o = out) (hk : ∀ (x5 : Int32) (S' : zm_S), res = .inr (x5, S') → zw p l e R s m args below meth c (vx_MQ below (zm_Qc zk_E V (zo_i out)) (zm_XC zk_E V zo_x) args s mc ms (fun q => V.2.2.2.1 ≤ q)) 8 zk_E V mc ms 207 [(5, .int x5)] [] S' rc rs) (hrec : ∀ (i5' : Int32) (i6' : Int32) (S : zm_S), k a0 i2 i5' i6' S = some res → zw p l e R s m args below meth c (vx_MQ below (zm_Qc zk_E V (zo_i out)) (zm_XC zk_E V zo_x) args s mc ms (fun q => V.2.2.2.1 ≤ q)) 8 zk_E V mc ms 115 [(0, .ref a0), (2, .int i2), (5, .int i5'), (6, .int i6')] [] S rc rs) {S : zm_S} (h : zf_X18_refused_J193 N k a0 i2 i6 S = some res) : zw p l e R s m args below meth c (vx_MQ below (zm_Qc zk_E V (zo_i out)) (zm_XC zk_E V zo_x) args s mc ms (fun q => V.2.2.2.1 ≤ q)) 8 zk_E V mc ms 193 [(0, .ref a0), (2, .int i2), (6, .int i6)] [] S rc rs := by
  unfold zf_X18_refused_J193 at h
  refine zw_bipush (v := (6 : Int32)) hX dX18_refused_193 (by decide) ?_
  refine zw_goto (tgt := 199) hX dX18_refused_195 (by decide) ?_
  refine zw_istore hX dX18_refused_199 (by decide) ?_
  refine zw_iinc (v := (i6 + (1 : Int32))) hX dX18_refused_201 rfl rfl (by decide) ?_
  refine zw_goto (tgt := 115) hX dX18_refused_204 (by decide) ?_
  refine zw_sub (lv' := [(0, .ref a0), (2, .int i2), (5, .int (6 : Int32)), (6, .int (i6 + (1 : Int32)))]) (List.forall_mem_cons.mpr ⟨rfl, (List.forall_mem_cons.mpr ⟨rfl, (List.forall_mem_cons.mpr ⟨rfl, (List.forall_mem_cons.mpr ⟨rfl, zs_nil⟩)⟩)⟩)⟩) ?_
  exact hrec _ _ _ h
set_option maxHeartbeats 4000000 in
set_option maxRecDepth 100000 in
theorem zt_X18_refused_J198 {p : Program} {l : Launch} {e : Env} {R : Room} {s : State} {m : MethodId} {args : Array Value} {below : List Frame} {meth : Method} {c : Code} {V : zm_V} {mc ms d rc rs : Nat} (hX : zm_X p R s m args meth c RX18 "refused" cX18_refused 8 zk_E V mc ms) (hr : meth.sig.returnType = (some .int)) (hR : R.frames = d ∧ R.locals = 64 * d) (hd : 3 ≤ d) {N : Nat} {k : Nat → Int32 → Int32 → Int32 → zm_S → Option ((Int32 × zm_S) ⊕ ((Int32) × zm_S))} {a0 : Nat} {i2 : Int32} {i6 : Int32} {res : (Int32 × zm_S) ⊕ ((Int32) × zm_S)} {out : (Int32 × zm_S)}   (hf : ∀ o, res = .inl o → o = out) (hk : ∀ (x5 : Int32) (S' : zm_S), res = .inr (x5, S') → zw p l e R s m args below meth c (vx_MQ below (zm_Qc zk_E V (zo_i out)) (zm_XC zk_E V zo_x) args s mc ms (fun q => V.2.2.2.1 ≤ q)) 8 zk_E V mc ms 207 [(5, .int x5)] [] S' rc rs) (hrec : ∀ (i5' : Int32) (i6' : Int32) (S : zm_S), k a0 i2 i5' i6' S = some res → zw p l e R s m args below meth c (vx_MQ below (zm_Qc zk_E V (zo_i out)) (zm_XC zk_E V zo_x) args s mc ms (fun q => V.2.2.2.1 ≤ q)) 8 zk_E V mc ms 115 [(0, .ref a0), (2, .int i2), (5, .int i5'), (6, .int i6')] [] S rc rs) {S : zm_S} (h : zf_X18_refused_J198 N k a0 i2 i6 S = some res) : zw p l e R s m args below meth c (vx_MQ below (zm_Qc zk_E V (zo_i out)) (zm_XC zk_E V zo_x) args s mc ms (fun q => V.2.2.2.1 ≤ q)) 8 zk_E V mc ms 198 [(0, .ref a0), (2, .int i2), (6, .int i6)] [] S rc rs := by
  unfold zf_X18_refused_J198 at h
  refine zw_iconst (v := (0 : Int32)) hX dX18_refused_198 (by decide) ?_
  refine zw_istore hX dX18_refused_199 (by decide) ?_
  refine zw_iinc (v := (i6 + (1 : Int32))) hX dX18_refused_201 rfl rfl (by decide) ?_
  refine zw_goto (tgt := 115) hX dX18_refused_204 (by decide) ?_
  refine zw_sub (lv' := [(0, .ref a0), (2, .int i2), (5, .int (0 : Int32)), (6, .int (i6 + (1 : Int32)))]) (List.forall_mem_cons.mpr ⟨rfl, (List.forall_mem_cons.mpr ⟨rfl, (List.forall_mem_cons.mpr ⟨rfl, (List.forall_mem_cons.mpr ⟨rfl, zs_nil⟩)⟩)⟩)⟩) ?_
  exact hrec _ _ _ h
set_option maxHeartbeats 4000000 in
set_option maxRecDepth 100000 in
theorem zt_X18_refused_J160 {p : Program} {l : Launch} {e : Env} {R : Room} {s : State} {m : MethodId} {args : Array Value} {below : List Frame} {meth : Method} {c : Code} {V : zm_V} {mc ms d rc rs : Nat} (hX : zm_X p R s m args meth c RX18 "refused" cX18_refused 8 zk_E V mc ms) (hr : meth.sig.returnType = (some .int)) (hR : R.frames = d ∧ R.locals = 64 * d) (hd : 3 ≤ d) {N : Nat} {k : Nat → Int32 → Int32 → Int32 → zm_S → Option ((Int32 × zm_S) ⊕ ((Int32) × zm_S))} {a0 : Nat} {i2 : Int32} {i6 : Int32} {t0 : Int32} {res : (Int32 × zm_S) ⊕ ((Int32) × zm_S)} {out : (Int32 × zm_S)}   (hf : ∀ o, res = .inl o → o = out) (hk : ∀ (x5 : Int32) (S' : zm_S), res = .inr (x5, S') → zw p l e R s m args below meth c (vx_MQ below (zm_Qc zk_E V (zo_i out)) (zm_XC zk_E V zo_x) args s mc ms (fun q => V.2.2.2.1 ≤ q)) 8 zk_E V mc ms 207 [(5, .int x5)] [] S' rc rs) (hrec : ∀ (i5' : Int32) (i6' : Int32) (S : zm_S), k a0 i2 i5' i6' S = some res → zw p l e R s m args below meth c (vx_MQ below (zm_Qc zk_E V (zo_i out)) (zm_XC zk_E V zo_x) args s mc ms (fun q => V.2.2.2.1 ≤ q)) 8 zk_E V mc ms 115 [(0, .ref a0), (2, .int i2), (5, .int i5'), (6, .int i6')] [] S rc rs) {S : zm_S} (h : zf_X18_refused_J160 N k a0 i2 i6 t0 S = some res) : zw p l e R s m args below meth c (vx_MQ below (zm_Qc zk_E V (zo_i out)) (zm_XC zk_E V zo_x) args s mc ms (fun q => V.2.2.2.1 ≤ q)) 8 zk_E V mc ms 160 [(0, .ref a0), (2, .int i2), (6, .int i6)] [.int t0] S rc rs := by
  unfold zf_X18_refused_J160 at h
  refine zw_istore hX dX18_refused_160 (by decide) ?_
  refine zw_iload hX dX18_refused_162 rfl ?_
  refine zw_if_ne (tgt := 193) hX dX18_refused_164 (by decide) (fun c164 => ?_) (fun c164 => ?_)
  · rw [if_neg c164] at h
    refine zw_sub (lv' := [(0, .ref a0), (2, .int i2), (6, .int i6)]) (List.forall_mem_cons.mpr ⟨rfl, (List.forall_mem_cons.mpr ⟨rfl, (List.forall_mem_cons.mpr ⟨rfl, zs_nil⟩)⟩)⟩) ?_
    exact zt_X18_refused_J193 hX hr hR hd hf hk hrec h
  · rw [if_pos c164] at h
    refine zw_aload_n hX dX18_refused_167 rfl ?_
    obtain ⟨b21, g, h⟩ := zb_some h
    refine zw_getr hX zl_X18_97 dX18_refused_168 g ?_
    refine zw_iload hX dX18_refused_171 rfl ?_
    obtain ⟨v22, g, h⟩ := zb_some h
    refine zw_xi hX dX18_refused_173 g ?_
    refine zw_iload_n hX dX18_refused_174 rfl ?_
    refine zw_icmp_ne (tgt := 198) hX dX18_refused_175 (by decide) (fun c175 => ?_) (fun c175 => ?_)
    · rw [if_neg c175] at h
      refine zw_sub (lv' := [(0, .ref a0), (2, .int i2), (6, .int i6)]) (List.forall_mem_cons.mpr ⟨rfl, (List.forall_mem_cons.mpr ⟨rfl, (List.forall_mem_cons.mpr ⟨rfl, zs_nil⟩)⟩)⟩) ?_
      exact zt_X18_refused_J198 hX hr hR hd hf hk hrec h
    · rw [if_pos c175] at h
      refine zw_aload_n hX dX18_refused_178 rfl ?_
      obtain ⟨b23, g, h⟩ := zb_some h
      refine zw_getr hX zl_X18_73 dX18_refused_179 g ?_
      refine zw_aload_n hX dX18_refused_182 rfl ?_
      obtain ⟨b24, g, h⟩ := zb_some h
      refine zw_getr hX zl_X18_94 dX18_refused_183 g ?_
      refine zw_iload hX dX18_refused_186 rfl ?_
      obtain ⟨v25, g, h⟩ := zb_some h
      refine zw_xi hX dX18_refused_188 g ?_
      obtain ⟨v26, g, h⟩ := zb_some h
      refine zw_xz hX dX18_refused_189 g ?_
      refine zw_if_eq (tgt := 198) hX dX18_refused_190 (by decide) (fun c190 => ?_) (fun c190 => ?_)
      · rw [if_pos c190] at h
        refine zw_sub (lv' := [(0, .ref a0), (2, .int i2), (6, .int i6)]) (List.forall_mem_cons.mpr ⟨rfl, (List.forall_mem_cons.mpr ⟨rfl, (List.forall_mem_cons.mpr ⟨rfl, zs_nil⟩)⟩)⟩) ?_
        exact zt_X18_refused_J198 hX hr hR hd hf hk hrec h
      · rw [if_neg c190] at h
        refine zw_sub (lv' := [(0, .ref a0), (2, .int i2), (6, .int i6)]) (List.forall_mem_cons.mpr ⟨rfl, (List.forall_mem_cons.mpr ⟨rfl, (List.forall_mem_cons.mpr ⟨rfl, zs_nil⟩)⟩)⟩) ?_
        exact zt_X18_refused_J193 hX hr hR hd hf hk hrec h
set_option maxHeartbeats 4000000 in
set_option maxRecDepth 100000 in
theorem zt_X18_refused_J159 {p : Program} {l : Launch} {e : Env} {R : Room} {s : State} {m : MethodId} {args : Array Value} {below : List Frame} {meth : Method} {c : Code} {V : zm_V} {mc ms d rc rs : Nat} (hX : zm_X p R s m args meth c RX18 "refused" cX18_refused 8 zk_E V mc ms) (hr : meth.sig.returnType = (some .int)) (hR : R.frames = d ∧ R.locals = 64 * d) (hd : 3 ≤ d) {N : Nat} {k : Nat → Int32 → Int32 → Int32 → zm_S → Option ((Int32 × zm_S) ⊕ ((Int32) × zm_S))} {a0 : Nat} {i2 : Int32} {i6 : Int32} {res : (Int32 × zm_S) ⊕ ((Int32) × zm_S)} {out : (Int32 × zm_S)}   (hf : ∀ o, res = .inl o → o = out) (hk : ∀ (x5 : Int32) (S' : zm_S), res = .inr (x5, S') → zw p l e R s m args below meth c (vx_MQ below (zm_Qc zk_E V (zo_i out)) (zm_XC zk_E V zo_x) args s mc ms (fun q => V.2.2.2.1 ≤ q)) 8 zk_E V mc ms 207 [(5, .int x5)] [] S' rc rs) (hrec : ∀ (i5' : Int32) (i6' : Int32) (S : zm_S), k a0 i2 i5' i6' S = some res → zw p l e R s m args below meth c (vx_MQ below (zm_Qc zk_E V (zo_i out)) (zm_XC zk_E V zo_x) args s mc ms (fun q => V.2.2.2.1 ≤ q)) 8 zk_E V mc ms 115 [(0, .ref a0), (2, .int i2), (5, .int i5'), (6, .int i6')] [] S rc rs) {S : zm_S} (h : zf_X18_refused_J159 N k a0 i2 i6 S = some res) : zw p l e R s m args below meth c (vx_MQ below (zm_Qc zk_E V (zo_i out)) (zm_XC zk_E V zo_x) args s mc ms (fun q => V.2.2.2.1 ≤ q)) 8 zk_E V mc ms 159 [(0, .ref a0), (2, .int i2), (6, .int i6)] [] S rc rs := by
  unfold zf_X18_refused_J159 at h
  refine zw_iconst (v := (0 : Int32)) hX dX18_refused_159 (by decide) ?_
  refine zw_sub (lv' := [(0, .ref a0), (2, .int i2), (6, .int i6)]) (List.forall_mem_cons.mpr ⟨rfl, (List.forall_mem_cons.mpr ⟨rfl, (List.forall_mem_cons.mpr ⟨rfl, zs_nil⟩)⟩)⟩) ?_
  exact zt_X18_refused_J160 hX hr hR hd hf hk hrec h
set_option maxHeartbeats 4000000 in
set_option maxRecDepth 100000 in
theorem zt_X18_refused_L115 {p : Program} {l : Launch} {e : Env} {R : Room} {s : State} {m : MethodId} {args : Array Value} {below : List Frame} {meth : Method} {c : Code} {V : zm_V} {mc ms d rc rs : Nat} (hX : zm_X p R s m args meth c RX18 "refused" cX18_refused 8 zk_E V mc ms) (hr : meth.sig.returnType = (some .int)) (hR : R.frames = d ∧ R.locals = 64 * d) (hd : 3 ≤ d) {N : Nat} {res : (Int32 × zm_S) ⊕ ((Int32) × zm_S)} {out : (Int32 × zm_S)} (a0 : Nat) (i2 : Int32) (hf : ∀ o, res = .inl o → o = out) (hk : ∀ (x5 : Int32) (S' : zm_S), res = .inr (x5, S') → zw p l e R s m args below meth c (vx_MQ below (zm_Qc zk_E V (zo_i out)) (zm_XC zk_E V zo_x) args s mc ms (fun q => V.2.2.2.1 ≤ q)) 8 zk_E V mc ms 207 [(5, .int x5)] [] S' rc rs) : ∀ (n : Nat) (i5 : Int32) (i6 : Int32) (S : zm_S), zf_X18_refused_L115 N n a0 i2 i5 i6 S = some res → zw p l e R s m args below meth c (vx_MQ below (zm_Qc zk_E V (zo_i out)) (zm_XC zk_E V zo_x) args s mc ms (fun q => V.2.2.2.1 ≤ q)) 8 zk_E V mc ms 115 [(0, .ref a0), (2, .int i2), (5, .int i5), (6, .int i6)] [] S rc rs := by
  intro n
  induction n with
  | zero => intro i5 i6 S h; cases h
  | succ n ih =>
    intro i5 i6 S h
    rw [zf_X18_refused_L115] at h
    refine zw_iload hX dX18_refused_115 rfl ?_
    refine zw_aload_n hX dX18_refused_117 rfl ?_
    obtain ⟨v18, g, h⟩ := zb_some h
    refine zw_geti hX zl_X18_395 dX18_refused_118 g ?_
    refine zw_icmp_ge (tgt := 207) hX dX18_refused_121 (by decide) (fun c121 => ?_) (fun c121 => ?_)
    · rw [if_pos c121] at h
      refine zw_sub (lv' := [(5, .int i5)]) (List.forall_mem_cons.mpr ⟨rfl, zs_nil⟩) ?_
      exact hk _ _ (Option.some.inj h).symm
    · rw [if_neg c121] at h
      refine zw_iload hX dX18_refused_124 rfl ?_
      refine zw_if_ne (tgt := 207) hX dX18_refused_126 (by decide) (fun c126 => ?_) (fun c126 => ?_)
      · rw [if_neg c126] at h
        refine zw_sub (lv' := [(5, .int i5)]) (List.forall_mem_cons.mpr ⟨rfl, zs_nil⟩) ?_
        exact hk _ _ (Option.some.inj h).symm
      · rw [if_pos c126] at h
        refine zw_aload_n hX dX18_refused_129 rfl ?_
        obtain ⟨b19, g, h⟩ := zb_some h
        refine zw_getr hX zl_X18_94 dX18_refused_130 g ?_
        refine zw_iload hX dX18_refused_133 rfl ?_
        obtain ⟨v20, g, h⟩ := zb_some h
        refine zw_xi hX dX18_refused_135 g ?_
        refine zw_iload_n hX dX18_refused_136 rfl ?_
        refine zw_icmp_ne (tgt := 159) hX dX18_refused_137 (by decide) (fun c137 => ?_) (fun c137 => ?_)
        · rw [if_neg c137] at h
          refine zw_sub (lv' := [(0, .ref a0), (2, .int i2), (6, .int i6)]) (List.forall_mem_cons.mpr ⟨rfl, (List.forall_mem_cons.mpr ⟨rfl, (List.forall_mem_cons.mpr ⟨rfl, zs_nil⟩)⟩)⟩) ?_
          exact zt_X18_refused_J159 hX hr hR hd hf hk ih h
        · rw [if_pos c137] at h
          refine zw_aload_n hX dX18_refused_140 rfl ?_
          obtain ⟨b27, g, h⟩ := zb_some h
          refine zw_getr hX zl_X18_73 dX18_refused_141 g ?_
          refine zw_aload_n hX dX18_refused_144 rfl ?_
          obtain ⟨b28, g, h⟩ := zb_some h
          refine zw_getr hX zl_X18_97 dX18_refused_145 g ?_
          refine zw_iload hX dX18_refused_148 rfl ?_
          obtain ⟨v29, g, h⟩ := zb_some h
          refine zw_xi hX dX18_refused_150 g ?_
          obtain ⟨v30, g, h⟩ := zb_some h
          refine zw_xz hX dX18_refused_151 g ?_
          refine zw_if_eq (tgt := 159) hX dX18_refused_152 (by decide) (fun c152 => ?_) (fun c152 => ?_)
          · rw [if_pos c152] at h
            refine zw_sub (lv' := [(0, .ref a0), (2, .int i2), (6, .int i6)]) (List.forall_mem_cons.mpr ⟨rfl, (List.forall_mem_cons.mpr ⟨rfl, (List.forall_mem_cons.mpr ⟨rfl, zs_nil⟩)⟩)⟩) ?_
            exact zt_X18_refused_J159 hX hr hR hd hf hk ih h
          · rw [if_neg c152] at h
            refine zw_iconst (v := (1 : Int32)) hX dX18_refused_155 (by decide) ?_
            refine zw_goto (tgt := 160) hX dX18_refused_156 (by decide) ?_
            refine zw_sub (lv' := [(0, .ref a0), (2, .int i2), (6, .int i6)]) (List.forall_mem_cons.mpr ⟨rfl, (List.forall_mem_cons.mpr ⟨rfl, (List.forall_mem_cons.mpr ⟨rfl, zs_nil⟩)⟩)⟩) ?_
            exact zt_X18_refused_J160 hX hr hR hd hf hk ih h
set_option maxHeartbeats 4000000 in
set_option maxRecDepth 100000 in
theorem zt_X18_refused_J107 {p : Program} {l : Launch} {e : Env} {R : Room} {s : State} {m : MethodId} {args : Array Value} {below : List Frame} {meth : Method} {c : Code} {V : zm_V} {mc ms d rc rs : Nat} (hX : zm_X p R s m args meth c RX18 "refused" cX18_refused 8 zk_E V mc ms) (hr : meth.sig.returnType = (some .int)) (hR : R.frames = d ∧ R.locals = 64 * d) (hd : 3 ≤ d) {N : Nat} {a0 : Nat} {i2 : Int32} {t0 : Nat} {t1 : Int32} {t2 : Int32} {t3 : Int32} {t4 : Int32} {t5 : Int32} {out : (Int32 × zm_S)} {S : zm_S} (h : zf_X18_refused_J107 N a0 i2 t0 t1 t2 t3 t4 t5 S = some out) : zw p l e R s m args below meth c (vx_MQ below (zm_Qc zk_E V (zo_i out)) (zm_XC zk_E V zo_x) args s mc ms (fun q => V.2.2.2.1 ≤ q)) 8 zk_E V mc ms 107 [(0, .ref a0), (2, .int i2)] [.int t5, .int t4, .int t3, .int t2, .int t1, .ref t0] S rc rs := by
  unfold zf_X18_refused_J107 at h
  obtain ⟨_, gi, h⟩ := zb_some h
  obtain ⟨r17, g, h⟩ := zb_some h
  refine zc_Vi (as := [.int t1, .int t2, .int t3, .int t4, .int t5]) hX gi (zt_X18_why (d := d - 1) (by omega) g) zl_X18_418 rfl dX18_refused_107 ⟨rfl, rfl, Nat.le_of_ble_eq_true rfl⟩ ⟨by omega, by omega⟩ ?_
  refine zw_istore hX dX18_refused_110 (by decide) ?_
  refine zw_iconst (v := (0 : Int32)) hX dX18_refused_112 (by decide) ?_
  refine zw_istore hX dX18_refused_113 (by decide) ?_
  obtain ⟨r, g, h⟩ := zb_some h
  refine zw_sub (lv' := [(0, .ref a0), (2, .int i2), (5, .int r17.1), (6, .int (0 : Int32))]) (List.forall_mem_cons.mpr ⟨rfl, (List.forall_mem_cons.mpr ⟨rfl, (List.forall_mem_cons.mpr ⟨rfl, (List.forall_mem_cons.mpr ⟨rfl, zs_nil⟩)⟩)⟩)⟩) ?_
  refine zt_X18_refused_L115 hX hr hR hd (res := r) (out := out) a0 i2 ?_ ?_ N _ _ _ g
  · intro o ho
    subst ho
    exact Option.some.inj h
  · intro v32 S31 hx
    subst hx
    try dsimp only at h
    refine zw_iload hX dX18_refused_207 rfl ?_
    obtain rfl := Option.some.inj h
    exact zw_iret hX hr dX18_refused_209 rfl ⟨rfl, rfl⟩
set_option maxHeartbeats 4000000 in
set_option maxRecDepth 100000 in
theorem zt_X18_refused_J25 {p : Program} {l : Launch} {e : Env} {R : Room} {s : State} {m : MethodId} {args : Array Value} {below : List Frame} {meth : Method} {c : Code} {V : zm_V} {mc ms d rc rs : Nat} (hX : zm_X p R s m args meth c RX18 "refused" cX18_refused 8 zk_E V mc ms) (hr : meth.sig.returnType = (some .int)) (hR : R.frames = d ∧ R.locals = 64 * d) (hd : 3 ≤ d) {N : Nat} {a0 : Nat} {i1 : Int32} {i2 : Int32} {i3 : Int32} {t0 : Int32} {out : (Int32 × zm_S)} {S : zm_S} (h : zf_X18_refused_J25 N a0 i1 i2 i3 t0 S = some out) : zw p l e R s m args below meth c (vx_MQ below (zm_Qc zk_E V (zo_i out)) (zm_XC zk_E V zo_x) args s mc ms (fun q => V.2.2.2.1 ≤ q)) 8 zk_E V mc ms 25 [(0, .ref a0), (1, .int i1), (2, .int i2), (3, .int i3)] [.int t0] S rc rs := by
  unfold zf_X18_refused_J25 at h
  refine zw_istore hX dX18_refused_25 (by decide) ?_
  refine zw_aload_n hX dX18_refused_27 rfl ?_
  obtain ⟨b5, g, h⟩ := zb_some h
  refine zw_getr hX zl_X18_115 dX18_refused_28 g ?_
  refine zw_aload_n hX dX18_refused_31 rfl ?_
  obtain ⟨b6, g, h⟩ := zb_some h
  refine zw_getr hX zl_X18_124 dX18_refused_32 g ?_
  refine zw_iload_n hX dX18_refused_35 rfl ?_
  obtain ⟨v7, g, h⟩ := zb_some h
  refine zw_xi hX dX18_refused_36 g ?_
  obtain ⟨v8, g, h⟩ := zb_some h
  refine zw_xi hX dX18_refused_37 g ?_
  refine zw_if_lt (tgt := 44) hX dX18_refused_38 (by decide) (fun c38 => ?_) (fun c38 => ?_)
  · rw [if_pos c38] at h
    refine zw_aload_n hX dX18_refused_44 rfl ?_
    obtain ⟨_, gi, h⟩ := zb_some h
    obtain ⟨r10, g, h⟩ := zb_some h
    refine zc_Vi (as := []) hX gi (zt_X18_isReleased (d := d - 1) (by omega) g) zl_X18_414 rfl dX18_refused_45 ⟨rfl, rfl, Nat.le_of_ble_eq_true rfl⟩ ⟨by omega, by omega⟩ ?_
    refine zw_if_eq (tgt := 73) hX dX18_refused_48 (by decide) (fun c48 => ?_) (fun c48 => ?_)
    · rw [if_pos c48] at h
      refine zw_aload_n hX dX18_refused_73 rfl ?_
      refine zw_iload_n hX dX18_refused_74 rfl ?_
      refine zw_iload_n hX dX18_refused_75 rfl ?_
      refine zw_aload_n hX dX18_refused_76 rfl ?_
      obtain ⟨v11, g, h⟩ := zb_some h
      refine zw_geti hX zl_X18_401 dX18_refused_77 g ?_
      refine zw_bipush (v := (60 : Int32)) hX dX18_refused_80 (by decide) ?_
      refine zw_idiv hX dX18_refused_82 (by decide) ?_
      refine zw_aload_n hX dX18_refused_83 rfl ?_
      obtain ⟨b12, g, h⟩ := zb_some h
      refine zw_getr hX zl_X18_79 dX18_refused_84 g ?_
      refine zw_iload_n hX dX18_refused_87 rfl ?_
      obtain ⟨v13, g, h⟩ := zb_some h
      refine zw_xi hX dX18_refused_88 g ?_
      refine zw_aload_n hX dX18_refused_89 rfl ?_
      obtain ⟨b14, g, h⟩ := zb_some h
      refine zw_getr hX zl_X18_79 dX18_refused_90 g ?_
      refine zw_iload_n hX dX18_refused_93 rfl ?_
      obtain ⟨v15, g, h⟩ := zb_some h
      refine zw_xi hX dX18_refused_94 g ?_
      refine zw_ldcw (v := (2147483647 : Int32)) hX dX18_refused_95 zl_X18_354 ?_
      refine zw_icmp_ne (tgt := 106) hX dX18_refused_98 (by decide) (fun c98 => ?_) (fun c98 => ?_)
      · rw [if_neg c98] at h
        refine zw_iconst (v := (-1 : Int32)) hX dX18_refused_106 (by decide) ?_
        refine zw_sub (lv' := [(0, .ref a0), (2, .int i2)]) (List.forall_mem_cons.mpr ⟨rfl, (List.forall_mem_cons.mpr ⟨rfl, zs_nil⟩)⟩) ?_
        exact zt_X18_refused_J107 hX hr hR hd h
      · rw [if_pos c98] at h
        refine zw_iload hX dX18_refused_101 rfl ?_
        refine zw_goto (tgt := 107) hX dX18_refused_103 (by decide) ?_
        refine zw_sub (lv' := [(0, .ref a0), (2, .int i2)]) (List.forall_mem_cons.mpr ⟨rfl, (List.forall_mem_cons.mpr ⟨rfl, zs_nil⟩)⟩) ?_
        exact zt_X18_refused_J107 hX hr hR hd h
    · rw [if_neg c48] at h
      refine zw_aload_n hX dX18_refused_51 rfl ?_
      obtain ⟨b33, g, h⟩ := zb_some h
      refine zw_getr hX zl_X18_106 dX18_refused_52 g ?_
      refine zw_aload_n hX dX18_refused_55 rfl ?_
      obtain ⟨b34, g, h⟩ := zb_some h
      refine zw_getr hX zl_X18_124 dX18_refused_56 g ?_
      refine zw_iload_n hX dX18_refused_59 rfl ?_
      obtain ⟨v35, g, h⟩ := zb_some h
      refine zw_xi hX dX18_refused_60 g ?_
      obtain ⟨v36, g, h⟩ := zb_some h
      refine zw_xi hX dX18_refused_61 g ?_
      refine zw_iload hX dX18_refused_62 rfl ?_
      refine zw_icmp_eq (tgt := 71) hX dX18_refused_64 (by decide) (fun c64 => ?_) (fun c64 => ?_)
      · rw [if_pos c64] at h
        refine zw_iconst (v := (0 : Int32)) hX dX18_refused_71 (by decide) ?_
        obtain rfl := Option.some.inj h
        exact zw_iret hX hr dX18_refused_72 rfl ⟨rfl, rfl⟩
      · rw [if_neg c64] at h
        refine zw_iconst (v := (4 : Int32)) hX dX18_refused_67 (by decide) ?_
        refine zw_goto (tgt := 72) hX dX18_refused_68 (by decide) ?_
        obtain rfl := Option.some.inj h
        exact zw_iret hX hr dX18_refused_72 rfl ⟨rfl, rfl⟩
  · rw [if_neg c38] at h
    refine zw_bipush (v := (9 : Int32)) hX dX18_refused_41 (by decide) ?_
    obtain rfl := Option.some.inj h
    exact zw_iret hX hr dX18_refused_43 rfl ⟨rfl, rfl⟩
set_option maxHeartbeats 4000000 in
set_option maxRecDepth 100000 in
theorem zt_X18_refused {l : Launch} {V : zm_V} {N : Nat} {S : zm_S} {out : (Int32 × zm_S)} {d : Nat} {a0 : Nat} {i1 : Int32} {i2 : Int32} {i3 : Int32} (hd : 3 ≤ d) (h : zf_X18_refused N a0 i1 i2 i3 S = some out) : zm_Met l zk_E V yX18_refused (.code yX18_refused cX18_refused 8 (some .int)) d [.ref a0, .int i1, .int i2, .int i3] S 0 0 (zo_i out) zo_x := by
  refine zm_of (by decide +kernel) (Nat.le_of_ble_eq_true rfl) ?_
  intro p e R s m args below meth c hRR hX hr hxt
  have hR : R.frames = d ∧ R.locals = 64 * d := by rw [hRR]; exact ⟨rfl, rfl⟩
  have hX : zm_X p R s m args meth c RX18 "refused" cX18_refused 8 zk_E V 0 0 := hX
  unfold zf_X18_refused at h
  refine zw_sub (lv' := [(0, .ref a0), (1, .int i1), (2, .int i2), (3, .int i3)]) (List.forall_mem_cons.mpr ⟨rfl, (List.forall_mem_cons.mpr ⟨rfl, (List.forall_mem_cons.mpr ⟨rfl, (List.forall_mem_cons.mpr ⟨rfl, zs_nil⟩)⟩)⟩)⟩) ?_
  refine zw_iload_n hX dX18_refused_0 rfl ?_
  refine zw_aload_n hX dX18_refused_1 rfl ?_
  obtain ⟨b1, g, h⟩ := zb_some h
  refine zw_getr hX zl_X18_53 dX18_refused_2 g ?_
  refine zw_iload_n hX dX18_refused_5 rfl ?_
  obtain ⟨v2, g, h⟩ := zb_some h
  refine zw_xi hX dX18_refused_6 g ?_
  refine zw_icmp_ne (tgt := 19) hX dX18_refused_7 (by decide) (fun c7 => ?_) (fun c7 => ?_)
  · rw [if_neg c7] at h
    refine zw_aload_n hX dX18_refused_19 rfl ?_
    obtain ⟨b3, g, h⟩ := zb_some h
    refine zw_getr hX zl_X18_53 dX18_refused_20 g ?_
    refine zw_iload_n hX dX18_refused_23 rfl ?_
    obtain ⟨v4, g, h⟩ := zb_some h
    refine zw_xi hX dX18_refused_24 g ?_
    refine zw_sub (lv' := [(0, .ref a0), (1, .int i1), (2, .int i2), (3, .int i3)]) (List.forall_mem_cons.mpr ⟨rfl, (List.forall_mem_cons.mpr ⟨rfl, (List.forall_mem_cons.mpr ⟨rfl, (List.forall_mem_cons.mpr ⟨rfl, zs_nil⟩)⟩)⟩)⟩) ?_
    exact zt_X18_refused_J25 hX hr hR hd h
  · rw [if_pos c7] at h
    refine zw_aload_n hX dX18_refused_10 rfl ?_
    obtain ⟨b37, g, h⟩ := zb_some h
    refine zw_getr hX zl_X18_57 dX18_refused_11 g ?_
    refine zw_iload_n hX dX18_refused_14 rfl ?_
    obtain ⟨v38, g, h⟩ := zb_some h
    refine zw_xi hX dX18_refused_15 g ?_
    refine zw_goto (tgt := 25) hX dX18_refused_16 (by decide) ?_
    refine zw_sub (lv' := [(0, .ref a0), (1, .int i1), (2, .int i2), (3, .int i3)]) (List.forall_mem_cons.mpr ⟨rfl, (List.forall_mem_cons.mpr ⟨rfl, (List.forall_mem_cons.mpr ⟨rfl, (List.forall_mem_cons.mpr ⟨rfl, zs_nil⟩)⟩)⟩)⟩) ?_
    exact zt_X18_refused_J25 hX hr hR hd h

