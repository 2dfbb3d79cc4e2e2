/-! ===== functions of methods, by program (wip/whole/tools/gen11.py) ===== -/
theorem dX14_takeNumber_0 : decode cX14_takeNumber 0 = .ok (.aload_n 0, 1) := by decide +kernel
theorem dX14_takeNumber_1 : decode cX14_takeNumber 1 = .ok (.iload_n 1, 1) := by decide +kernel
theorem dX14_takeNumber_2 : decode cX14_takeNumber 2 = .ok (.iload_n 2, 1) := by decide +kernel
theorem dX14_takeNumber_3 : decode cX14_takeNumber 3 = .ok (.invokevirtual 149, 3) := by decide +kernel
theorem dX14_takeNumber_6 : decode cX14_takeNumber 6 = .ok (.istore_n 3, 1) := by decide +kernel
theorem dX14_takeNumber_7 : decode cX14_takeNumber 7 = .ok (.aload_n 0, 1) := by decide +kernel
theorem dX14_takeNumber_8 : decode cX14_takeNumber 8 = .ok (.dup, 1) := by decide +kernel
theorem dX14_takeNumber_9 : decode cX14_takeNumber 9 = .ok (.getfield 131, 3) := by decide +kernel
theorem dX14_takeNumber_12 : decode cX14_takeNumber 12 = .ok (.aload_n 0, 1) := by decide +kernel
theorem dX14_takeNumber_13 : decode cX14_takeNumber 13 = .ok (.getfield 134, 3) := by decide +kernel
theorem dX14_takeNumber_16 : decode cX14_takeNumber 16 = .ok (.ifCond .ge 7, 3) := by decide +kernel
theorem dX14_takeNumber_23 : decode cX14_takeNumber 23 = .ok (.iconst 0, 1) := by decide +kernel
theorem dX14_takeNumber_24 : decode cX14_takeNumber 24 = .ok (.iadd, 1) := by decide +kernel
theorem dX14_takeNumber_25 : decode cX14_takeNumber 25 = .ok (.putfield 131, 3) := by decide +kernel
theorem dX14_takeNumber_28 : decode cX14_takeNumber 28 = .ok (.iload_n 3, 1) := by decide +kernel
theorem dX14_takeNumber_29 : decode cX14_takeNumber 29 = .ok (.ireturn, 1) := by decide +kernel
theorem dX14_takeNumber_19 : decode cX14_takeNumber 19 = .ok (.iconst 1, 1) := by decide +kernel
theorem dX14_takeNumber_20 : decode cX14_takeNumber 20 = .ok (.goto 4, 3) := by decide +kernel
theorem dX14_has_0 : decode cX14_has 0 = .ok (.iconst 0, 1) := by decide +kernel
theorem dX14_has_1 : decode cX14_has 1 = .ok (.istore_n 3, 1) := by decide +kernel
theorem dX14_has_2 : decode cX14_has 2 = .ok (.iconst 0, 1) := by decide +kernel
theorem dX14_has_3 : decode cX14_has 3 = .ok (.istore 4, 2) := by decide +kernel
theorem dX14_has_5 : decode cX14_has 5 = .ok (.iload 4, 2) := by decide +kernel
theorem dX14_has_7 : decode cX14_has 7 = .ok (.aload_n 0, 1) := by decide +kernel
theorem dX14_has_8 : decode cX14_has 8 = .ok (.getfield 35, 3) := by decide +kernel
theorem dX14_has_11 : decode cX14_has 11 = .ok (.iload_n 1, 1) := by decide +kernel
theorem dX14_has_12 : decode cX14_has 12 = .ok (.iaload, 1) := by decide +kernel
theorem dX14_has_13 : decode cX14_has 13 = .ok (.if_icmp .ge 35, 3) := by decide +kernel
theorem dX14_has_16 : decode cX14_has 16 = .ok (.iload_n 3, 1) := by decide +kernel
theorem dX14_has_17 : decode cX14_has 17 = .ok (.ifCond .ne 19, 3) := by decide +kernel
theorem dX14_has_36 : decode cX14_has 36 = .ok (.iconst 1, 1) := by decide +kernel
theorem dX14_has_37 : decode cX14_has 37 = .ok (.goto 4, 3) := by decide +kernel
theorem dX14_has_41 : decode cX14_has 41 = .ok (.istore_n 3, 1) := by decide +kernel
theorem dX14_has_42 : decode cX14_has 42 = .ok (.iinc 4 1, 3) := by decide +kernel
theorem dX14_has_45 : decode cX14_has 45 = .ok (.goto (-40), 3) := by decide +kernel
theorem dX14_has_20 : decode cX14_has 20 = .ok (.aload_n 0, 1) := by decide +kernel
theorem dX14_has_21 : decode cX14_has 21 = .ok (.getfield 38, 3) := by decide +kernel
theorem dX14_has_24 : decode cX14_has 24 = .ok (.bipush 12, 2) := by decide +kernel
theorem dX14_has_26 : decode cX14_has 26 = .ok (.iload_n 1, 1) := by decide +kernel
theorem dX14_has_27 : decode cX14_has 27 = .ok (.imul, 1) := by decide +kernel
theorem dX14_has_28 : decode cX14_has 28 = .ok (.iload 4, 2) := by decide +kernel
theorem dX14_has_30 : decode cX14_has 30 = .ok (.iadd, 1) := by decide +kernel
theorem dX14_has_31 : decode cX14_has 31 = .ok (.iaload, 1) := by decide +kernel
theorem dX14_has_32 : decode cX14_has 32 = .ok (.iload_n 2, 1) := by decide +kernel
theorem dX14_has_33 : decode cX14_has 33 = .ok (.if_icmp .ne 7, 3) := by decide +kernel
theorem dX14_has_40 : decode cX14_has 40 = .ok (.iconst 0, 1) := by decide +kernel
theorem dX14_has_48 : decode cX14_has 48 = .ok (.iload_n 3, 1) := by decide +kernel
theorem dX14_has_49 : decode cX14_has 49 = .ok (.ireturn, 1) := by decide +kernel
theorem dX14_readZone_0 : decode cX14_readZone 0 = .ok (.aload_n 0, 1) := by decide +kernel
theorem dX14_readZone_1 : decode cX14_readZone 1 = .ok (.iconst 0, 1) := by decide +kernel
theorem dX14_readZone_2 : decode cX14_readZone 2 = .ok (.bipush 19, 2) := by decide +kernel
theorem dX14_readZone_4 : decode cX14_readZone 4 = .ok (.invokevirtual 149, 3) := by decide +kernel
theorem dX14_readZone_7 : decode cX14_readZone 7 = .ok (.bipush 20, 2) := by decide +kernel
theorem dX14_readZone_9 : decode cX14_readZone 9 = .ok (.iadd, 1) := by decide +kernel
theorem dX14_readZone_10 : decode cX14_readZone 10 = .ok (.istore_n 1, 1) := by decide +kernel
theorem dX14_readZone_11 : decode cX14_readZone 11 = .ok (.aload_n 0, 1) := by decide +kernel
theorem dX14_readZone_12 : decode cX14_readZone 12 = .ok (.getfield 134, 3) := by decide +kernel
theorem dX14_readZone_15 : decode cX14_readZone 15 = .ok (.ifCond .ge 24, 3) := by decide +kernel
theorem dX14_readZone_39 : decode cX14_readZone 39 = .ok (.return_, 1) := by decide +kernel
theorem dX14_readZone_18 : decode cX14_readZone 18 = .ok (.aload_n 0, 1) := by decide +kernel
theorem dX14_readZone_19 : decode cX14_readZone 19 = .ok (.aload_n 0, 1) := by decide +kernel
theorem dX14_readZone_20 : decode cX14_readZone 20 = .ok (.getfield 29, 3) := by decide +kernel
theorem dX14_readZone_23 : decode cX14_readZone 23 = .ok (.iload_n 1, 1) := by decide +kernel
theorem dX14_readZone_24 : decode cX14_readZone 24 = .ok (.baload, 1) := by decide +kernel
theorem dX14_readZone_25 : decode cX14_readZone 25 = .ok (.ifCond .ne 7, 3) := by decide +kernel
theorem dX14_readZone_32 : decode cX14_readZone 32 = .ok (.iconst 0, 1) := by decide +kernel
theorem dX14_readZone_33 : decode cX14_readZone 33 = .ok (.invokevirtual 141, 3) := by decide +kernel
theorem dX14_readZone_36 : decode cX14_readZone 36 = .ok (.ifCond .ne 4, 3) := by decide +kernel
theorem dX14_readZone_40 : decode cX14_readZone 40 = .ok (.aload_n 0, 1) := by decide +kernel
theorem dX14_readZone_41 : decode cX14_readZone 41 = .ok (.dup, 1) := by decide +kernel
theorem dX14_readZone_42 : decode cX14_readZone 42 = .ok (.getfield 131, 3) := by decide +kernel
theorem dX14_readZone_45 : decode cX14_readZone 45 = .ok (.iconst 1, 1) := by decide +kernel
theorem dX14_readZone_46 : decode cX14_readZone 46 = .ok (.iadd, 1) := by decide +kernel
theorem dX14_readZone_47 : decode cX14_readZone 47 = .ok (.putfield 131, 3) := by decide +kernel
theorem dX14_readZone_50 : decode cX14_readZone 50 = .ok (.aload_n 0, 1) := by decide +kernel
theorem dX14_readZone_51 : decode cX14_readZone 51 = .ok (.ldc 117, 2) := by decide +kernel
theorem dX14_readZone_53 : decode cX14_readZone 53 = .ok (.invokevirtual 153, 3) := by decide +kernel
theorem dX14_readZone_56 : decode cX14_readZone 56 = .ok (.aload_n 0, 1) := by decide +kernel
theorem dX14_readZone_57 : decode cX14_readZone 57 = .ok (.getfield 131, 3) := by decide +kernel
theorem dX14_readZone_60 : decode cX14_readZone 60 = .ok (.istore_n 2, 1) := by decide +kernel
theorem dX14_readZone_61 : decode cX14_readZone 61 = .ok (.aload_n 0, 1) := by decide +kernel
theorem dX14_readZone_62 : decode cX14_readZone 62 = .ok (.iconst 1, 1) := by decide +kernel
theorem dX14_readZone_63 : decode cX14_readZone 63 = .ok (.bipush 12, 2) := by decide +kernel
theorem dX14_readZone_65 : decode cX14_readZone 65 = .ok (.invokevirtual 156, 3) := by decide +kernel
theorem dX14_readZone_68 : decode cX14_readZone 68 = .ok (.istore_n 3, 1) := by decide +kernel
theorem dX14_readZone_69 : decode cX14_readZone 69 = .ok (.aload_n 0, 1) := by decide +kernel
theorem dX14_readZone_70 : decode cX14_readZone 70 = .ok (.sipush 207, 3) := by decide +kernel
theorem dX14_readZone_73 : decode cX14_readZone 73 = .ok (.invokevirtual 153, 3) := by decide +kernel
theorem dX14_readZone_76 : decode cX14_readZone 76 = .ok (.aload_n 0, 1) := by decide +kernel
theorem dX14_readZone_77 : decode cX14_readZone 77 = .ok (.getfield 35, 3) := by decide +kernel
theorem dX14_readZone_80 : decode cX14_readZone 80 = .ok (.iload_n 1, 1) := by decide +kernel
theorem dX14_readZone_81 : decode cX14_readZone 81 = .ok (.iconst 0, 1) := by decide +kernel
theorem dX14_readZone_82 : decode cX14_readZone 82 = .ok (.iastore, 1) := by decide +kernel
theorem dX14_readZone_83 : decode cX14_readZone 83 = .ok (.iconst 1, 1) := by decide +kernel
theorem dX14_readZone_84 : decode cX14_readZone 84 = .ok (.istore 4, 2) := by decide +kernel
theorem dX14_readZone_86 : decode cX14_readZone 86 = .ok (.iload 4, 2) := by decide +kernel
theorem dX14_readZone_88 : decode cX14_readZone 88 = .ok (.ifCond .eq 120, 3) := by decide +kernel
theorem dX14_readZone_91 : decode cX14_readZone 91 = .ok (.aload_n 0, 1) := by decide +kernel
theorem dX14_readZone_92 : decode cX14_readZone 92 = .ok (.getfield 134, 3) := by decide +kernel
theorem dX14_readZone_95 : decode cX14_readZone 95 = .ok (.ifCond .ge 113, 3) := by decide +kernel
theorem dX14_readZone_98 : decode cX14_readZone 98 = .ok (.aload_n 0, 1) := by decide +kernel
theorem dX14_readZone_99 : decode cX14_readZone 99 = .ok (.iconst 0, 1) := by decide +kernel
theorem dX14_readZone_100 : decode cX14_readZone 100 = .ok (.aload_n 0, 1) := by decide +kernel
theorem dX14_readZone_101 : decode cX14_readZone 101 = .ok (.getfield 159, 3) := by decide +kernel
theorem dX14_readZone_104 : decode cX14_readZone 104 = .ok (.iconst 1, 1) := by decide +kernel
theorem dX14_readZone_105 : decode cX14_readZone 105 = .ok (.isub, 1) := by decide +kernel
theorem dX14_readZone_106 : decode cX14_readZone 106 = .ok (.invokevirtual 149, 3) := by decide +kernel
theorem dX14_readZone_109 : decode cX14_readZone 109 = .ok (.istore 5, 2) := by decide +kernel
theorem dX14_readZone_111 : decode cX14_readZone 111 = .ok (.aload_n 0, 1) := by decide +kernel
theorem dX14_readZone_112 : decode cX14_readZone 112 = .ok (.getfield 134, 3) := by decide +kernel
theorem dX14_readZone_115 : decode cX14_readZone 115 = .ok (.ifCond .ge 74, 3) := by decide +kernel
theorem dX14_readZone_189 : decode cX14_readZone 189 = .ok (.aload_n 0, 1) := by decide +kernel
theorem dX14_readZone_190 : decode cX14_readZone 190 = .ok (.bipush 59, 2) := by decide +kernel
theorem dX14_readZone_192 : decode cX14_readZone 192 = .ok (.invokevirtual 145, 3) := by decide +kernel
theorem dX14_readZone_195 : decode cX14_readZone 195 = .ok (.ifCond .ne 7, 3) := by decide +kernel
theorem dX14_readZone_202 : decode cX14_readZone 202 = .ok (.iconst 0, 1) := by decide +kernel
theorem dX14_readZone_203 : decode cX14_readZone 203 = .ok (.istore 4, 2) := by decide +kernel
theorem dX14_readZone_205 : decode cX14_readZone 205 = .ok (.goto (-119), 3) := by decide +kernel
theorem dX14_readZone_198 : decode cX14_readZone 198 = .ok (.iconst 1, 1) := by decide +kernel
theorem dX14_readZone_199 : decode cX14_readZone 199 = .ok (.goto 4, 3) := by decide +kernel
theorem dX14_readZone_118 : decode cX14_readZone 118 = .ok (.aload_n 0, 1) := by decide +kernel
theorem dX14_readZone_119 : decode cX14_readZone 119 = .ok (.aload_n 0, 1) := by decide +kernel
theorem dX14_readZone_120 : decode cX14_readZone 120 = .ok (.getfield 35, 3) := by decide +kernel
theorem dX14_readZone_123 : decode cX14_readZone 123 = .ok (.iload_n 1, 1) := by decide +kernel
theorem dX14_readZone_124 : decode cX14_readZone 124 = .ok (.iaload, 1) := by decide +kernel
theorem dX14_readZone_125 : decode cX14_readZone 125 = .ok (.bipush 12, 2) := by decide +kernel
theorem dX14_readZone_127 : decode cX14_readZone 127 = .ok (.if_icmp .ge 17, 3) := by decide +kernel
theorem dX14_readZone_144 : decode cX14_readZone 144 = .ok (.iconst 0, 1) := by decide +kernel
theorem dX14_readZone_145 : decode cX14_readZone 145 = .ok (.invokevirtual 141, 3) := by decide +kernel
theorem dX14_readZone_148 : decode cX14_readZone 148 = .ok (.ifCond .eq 41, 3) := by decide +kernel
theorem dX14_readZone_151 : decode cX14_readZone 151 = .ok (.aload_n 0, 1) := by decide +kernel
theorem dX14_readZone_152 : decode cX14_readZone 152 = .ok (.getfield 38, 3) := by decide +kernel
theorem dX14_readZone_155 : decode cX14_readZone 155 = .ok (.bipush 12, 2) := by decide +kernel
theorem dX14_readZone_157 : decode cX14_readZone 157 = .ok (.iload_n 1, 1) := by decide +kernel
theorem dX14_readZone_158 : decode cX14_readZone 158 = .ok (.imul, 1) := by decide +kernel
theorem dX14_readZone_159 : decode cX14_readZone 159 = .ok (.aload_n 0, 1) := by decide +kernel
theorem dX14_readZone_160 : decode cX14_readZone 160 = .ok (.getfield 35, 3) := by decide +kernel
theorem dX14_readZone_163 : decode cX14_readZone 163 = .ok (.iload_n 1, 1) := by decide +kernel
theorem dX14_readZone_164 : decode cX14_readZone 164 = .ok (.iaload, 1) := by decide +kernel
theorem dX14_readZone_165 : decode cX14_readZone 165 = .ok (.iadd, 1) := by decide +kernel
theorem dX14_readZone_166 : decode cX14_readZone 166 = .ok (.iload 5, 2) := by decide +kernel
theorem dX14_readZone_168 : decode cX14_readZone 168 = .ok (.iastore, 1) := by decide +kernel
theorem dX14_readZone_169 : decode cX14_readZone 169 = .ok (.aload_n 0, 1) := by decide +kernel
theorem dX14_readZone_170 : decode cX14_readZone 170 = .ok (.getfield 35, 3) := by decide +kernel
theorem dX14_readZone_173 : decode cX14_readZone 173 = .ok (.iload_n 1, 1) := by decide +kernel
theorem dX14_readZone_174 : decode cX14_readZone 174 = .ok (.dup2, 1) := by decide +kernel
theorem dX14_readZone_175 : decode cX14_readZone 175 = .ok (.iaload, 1) := by decide +kernel
theorem dX14_readZone_176 : decode cX14_readZone 176 = .ok (.iconst 1, 1) := by decide +kernel
theorem dX14_readZone_177 : decode cX14_readZone 177 = .ok (.iadd, 1) := by decide +kernel
theorem dX14_readZone_178 : decode cX14_readZone 178 = .ok (.iastore, 1) := by decide +kernel
theorem dX14_readZone_179 : decode cX14_readZone 179 = .ok (.aload_n 0, 1) := by decide +kernel
theorem dX14_readZone_180 : decode cX14_readZone 180 = .ok (.dup, 1) := by decide +kernel
theorem dX14_readZone_181 : decode cX14_readZone 181 = .ok (.getfield 131, 3) := by decide +kernel
theorem dX14_readZone_184 : decode cX14_readZone 184 = .ok (.iconst 1, 1) := by decide +kernel
theorem dX14_readZone_185 : decode cX14_readZone 185 = .ok (.iadd, 1) := by decide +kernel
theorem dX14_readZone_186 : decode cX14_readZone 186 = .ok (.putfield 131, 3) := by decide +kernel
theorem dX14_readZone_130 : decode cX14_readZone 130 = .ok (.aload_n 0, 1) := by decide +kernel
theorem dX14_readZone_131 : decode cX14_readZone 131 = .ok (.iload_n 1, 1) := by decide +kernel
theorem dX14_readZone_132 : decode cX14_readZone 132 = .ok (.iload 5, 2) := by decide +kernel
theorem dX14_readZone_134 : decode cX14_readZone 134 = .ok (.invokevirtual 162, 3) := by decide +kernel
theorem dX14_readZone_137 : decode cX14_readZone 137 = .ok (.ifCond .ne 7, 3) := by decide +kernel
theorem dX14_readZone_140 : decode cX14_readZone 140 = .ok (.iconst 1, 1) := by decide +kernel
theorem dX14_readZone_141 : decode cX14_readZone 141 = .ok (.goto 4, 3) := by decide +kernel
theorem dX14_readZone_208 : decode cX14_readZone 208 = .ok (.aload_n 0, 1) := by decide +kernel
theorem dX14_readZone_209 : decode cX14_readZone 209 = .ok (.getfield 134, 3) := by decide +kernel
theorem dX14_readZone_212 : decode cX14_readZone 212 = .ok (.ifCond .ge 46, 3) := by decide +kernel
theorem dX14_readZone_258 : decode cX14_readZone 258 = .ok (.return_, 1) := by decide +kernel
theorem dX14_readZone_215 : decode cX14_readZone 215 = .ok (.aload_n 0, 1) := by decide +kernel
theorem dX14_readZone_216 : decode cX14_readZone 216 = .ok (.dup, 1) := by decide +kernel
theorem dX14_readZone_217 : decode cX14_readZone 217 = .ok (.getfield 131, 3) := by decide +kernel
theorem dX14_readZone_220 : decode cX14_readZone 220 = .ok (.iconst 1, 1) := by decide +kernel
theorem dX14_readZone_221 : decode cX14_readZone 221 = .ok (.iadd, 1) := by decide +kernel
theorem dX14_readZone_222 : decode cX14_readZone 222 = .ok (.putfield 131, 3) := by decide +kernel
theorem dX14_readZone_225 : decode cX14_readZone 225 = .ok (.aload_n 0, 1) := by decide +kernel
theorem dX14_readZone_226 : decode cX14_readZone 226 = .ok (.iload_n 3, 1) := by decide +kernel
theorem dX14_readZone_227 : decode cX14_readZone 227 = .ok (.aload_n 0, 1) := by decide +kernel
theorem dX14_readZone_228 : decode cX14_readZone 228 = .ok (.getfield 35, 3) := by decide +kernel
theorem dX14_readZone_231 : decode cX14_readZone 231 = .ok (.iload_n 1, 1) := by decide +kernel
theorem dX14_readZone_232 : decode cX14_readZone 232 = .ok (.iaload, 1) := by decide +kernel
theorem dX14_readZone_233 : decode cX14_readZone 233 = .ok (.if_icmp .le 7, 3) := by decide +kernel
theorem dX14_readZone_240 : decode cX14_readZone 240 = .ok (.iconst (-1), 1) := by decide +kernel
theorem dX14_readZone_241 : decode cX14_readZone 241 = .ok (.putfield 134, 3) := by decide +kernel
theorem dX14_readZone_244 : decode cX14_readZone 244 = .ok (.aload_n 0, 1) := by decide +kernel
theorem dX14_readZone_245 : decode cX14_readZone 245 = .ok (.getfield 32, 3) := by decide +kernel
theorem dX14_readZone_248 : decode cX14_readZone 248 = .ok (.iload_n 1, 1) := by decide +kernel
theorem dX14_readZone_249 : decode cX14_readZone 249 = .ok (.iload_n 3, 1) := by decide +kernel
theorem dX14_readZone_250 : decode cX14_readZone 250 = .ok (.iastore, 1) := by decide +kernel
theorem dX14_readZone_251 : decode cX14_readZone 251 = .ok (.aload_n 0, 1) := by decide +kernel
theorem dX14_readZone_252 : decode cX14_readZone 252 = .ok (.getfield 29, 3) := by decide +kernel
theorem dX14_readZone_255 : decode cX14_readZone 255 = .ok (.iload_n 1, 1) := by decide +kernel
theorem dX14_readZone_256 : decode cX14_readZone 256 = .ok (.iconst 1, 1) := by decide +kernel
theorem dX14_readZone_257 : decode cX14_readZone 257 = .ok (.bastore, 1) := by decide +kernel
theorem dX14_readZone_236 : decode cX14_readZone 236 = .ok (.iload_n 2, 1) := by decide +kernel
theorem dX14_readZone_237 : decode cX14_readZone 237 = .ok (.goto 4, 3) := by decide +kernel
theorem dX14_readZone_28 : decode cX14_readZone 28 = .ok (.iconst 1, 1) := by decide +kernel
theorem dX14_readZone_29 : decode cX14_readZone 29 = .ok (.goto 4, 3) := by decide +kernel
theorem dX14_readAct_0 : decode cX14_readAct 0 = .ok (.aload_n 0, 1) := by decide +kernel
theorem dX14_readAct_1 : decode cX14_readAct 1 = .ok (.iconst 0, 1) := by decide +kernel
theorem dX14_readAct_2 : decode cX14_readAct 2 = .ok (.bipush 19, 2) := by decide +kernel
theorem dX14_readAct_4 : decode cX14_readAct 4 = .ok (.invokevirtual 149, 3) := by decide +kernel
theorem dX14_readAct_7 : decode cX14_readAct 7 = .ok (.bipush 20, 2) := by decide +kernel
theorem dX14_readAct_9 : decode cX14_readAct 9 = .ok (.iadd, 1) := by decide +kernel
theorem dX14_readAct_10 : decode cX14_readAct 10 = .ok (.istore_n 1, 1) := by decide +kernel
theorem dX14_readAct_11 : decode cX14_readAct 11 = .ok (.aload_n 0, 1) := by decide +kernel
theorem dX14_readAct_12 : decode cX14_readAct 12 = .ok (.getfield 134, 3) := by decide +kernel
theorem dX14_readAct_15 : decode cX14_readAct 15 = .ok (.ifCond .ge 24, 3) := by decide +kernel
theorem dX14_readAct_39 : decode cX14_readAct 39 = .ok (.return_, 1) := by decide +kernel
theorem dX14_readAct_18 : decode cX14_readAct 18 = .ok (.aload_n 0, 1) := by decide +kernel
theorem dX14_readAct_19 : decode cX14_readAct 19 = .ok (.aload_n 0, 1) := by decide +kernel
theorem dX14_readAct_20 : decode cX14_readAct 20 = .ok (.getfield 41, 3) := by decide +kernel
theorem dX14_readAct_23 : decode cX14_readAct 23 = .ok (.iload_n 1, 1) := by decide +kernel
theorem dX14_readAct_24 : decode cX14_readAct 24 = .ok (.baload, 1) := by decide +kernel
theorem dX14_readAct_25 : decode cX14_readAct 25 = .ok (.ifCond .ne 7, 3) := by decide +kernel
theorem dX14_readAct_32 : decode cX14_readAct 32 = .ok (.iconst 0, 1) := by decide +kernel
theorem dX14_readAct_33 : decode cX14_readAct 33 = .ok (.invokevirtual 141, 3) := by decide +kernel
theorem dX14_readAct_36 : decode cX14_readAct 36 = .ok (.ifCond .ne 4, 3) := by decide +kernel
theorem dX14_readAct_40 : decode cX14_readAct 40 = .ok (.aload_n 0, 1) := by decide +kernel
theorem dX14_readAct_41 : decode cX14_readAct 41 = .ok (.dup, 1) := by decide +kernel
theorem dX14_readAct_42 : decode cX14_readAct 42 = .ok (.getfield 131, 3) := by decide +kernel
theorem dX14_readAct_45 : decode cX14_readAct 45 = .ok (.iconst 1, 1) := by decide +kernel
theorem dX14_readAct_46 : decode cX14_readAct 46 = .ok (.iadd, 1) := by decide +kernel
theorem dX14_readAct_47 : decode cX14_readAct 47 = .ok (.putfield 131, 3) := by decide +kernel
theorem dX14_readAct_50 : decode cX14_readAct 50 = .ok (.aload_n 0, 1) := by decide +kernel
theorem dX14_readAct_51 : decode cX14_readAct 51 = .ok (.ldc 118, 2) := by decide +kernel
theorem dX14_readAct_53 : decode cX14_readAct 53 = .ok (.invokevirtual 153, 3) := by decide +kernel
theorem dX14_readAct_56 : decode cX14_readAct 56 = .ok (.aload_n 0, 1) := by decide +kernel
theorem dX14_readAct_57 : decode cX14_readAct 57 = .ok (.getfield 44, 3) := by decide +kernel
theorem dX14_readAct_60 : decode cX14_readAct 60 = .ok (.iload_n 1, 1) := by decide +kernel
theorem dX14_readAct_61 : decode cX14_readAct 61 = .ok (.aload_n 0, 1) := by decide +kernel
theorem dX14_readAct_62 : decode cX14_readAct 62 = .ok (.iconst 0, 1) := by decide +kernel
theorem dX14_readAct_63 : decode cX14_readAct 63 = .ok (.iconst 5, 1) := by decide +kernel
theorem dX14_readAct_64 : decode cX14_readAct 64 = .ok (.invokevirtual 156, 3) := by decide +kernel
theorem dX14_readAct_67 : decode cX14_readAct 67 = .ok (.iastore, 1) := by decide +kernel
theorem dX14_readAct_68 : decode cX14_readAct 68 = .ok (.aload_n 0, 1) := by decide +kernel
theorem dX14_readAct_69 : decode cX14_readAct 69 = .ok (.ldc 119, 2) := by decide +kernel
theorem dX14_readAct_71 : decode cX14_readAct 71 = .ok (.invokevirtual 153, 3) := by decide +kernel
theorem dX14_readAct_74 : decode cX14_readAct 74 = .ok (.aload_n 0, 1) := by decide +kernel
theorem dX14_readAct_75 : decode cX14_readAct 75 = .ok (.getfield 47, 3) := by decide +kernel
theorem dX14_readAct_78 : decode cX14_readAct 78 = .ok (.iload_n 1, 1) := by decide +kernel
theorem dX14_readAct_79 : decode cX14_readAct 79 = .ok (.aload_n 0, 1) := by decide +kernel
theorem dX14_readAct_80 : decode cX14_readAct 80 = .ok (.iconst 0, 1) := by decide +kernel
theorem dX14_readAct_81 : decode cX14_readAct 81 = .ok (.bipush 99, 2) := by decide +kernel
theorem dX14_readAct_83 : decode cX14_readAct 83 = .ok (.invokevirtual 156, 3) := by decide +kernel
theorem dX14_readAct_86 : decode cX14_readAct 86 = .ok (.iastore, 1) := by decide +kernel
theorem dX14_readAct_87 : decode cX14_readAct 87 = .ok (.aload_n 0, 1) := by decide +kernel
theorem dX14_readAct_88 : decode cX14_readAct 88 = .ok (.ldc 120, 2) := by decide +kernel
theorem dX14_readAct_90 : decode cX14_readAct 90 = .ok (.invokevirtual 153, 3) := by decide +kernel
theorem dX14_readAct_93 : decode cX14_readAct 93 = .ok (.aload_n 0, 1) := by decide +kernel
theorem dX14_readAct_94 : decode cX14_readAct 94 = .ok (.getfield 50, 3) := by decide +kernel
theorem dX14_readAct_97 : decode cX14_readAct 97 = .ok (.iload_n 1, 1) := by decide +kernel
theorem dX14_readAct_98 : decode cX14_readAct 98 = .ok (.aload_n 0, 1) := by decide +kernel
theorem dX14_readAct_99 : decode cX14_readAct 99 = .ok (.iconst 0, 1) := by decide +kernel
theorem dX14_readAct_100 : decode cX14_readAct 100 = .ok (.sipush 600, 3) := by decide +kernel
theorem dX14_readAct_103 : decode cX14_readAct 103 = .ok (.invokevirtual 156, 3) := by decide +kernel
theorem dX14_readAct_106 : decode cX14_readAct 106 = .ok (.iastore, 1) := by decide +kernel
theorem dX14_readAct_107 : decode cX14_readAct 107 = .ok (.aload_n 0, 1) := by decide +kernel
theorem dX14_readAct_108 : decode cX14_readAct 108 = .ok (.invokevirtual 166, 3) := by decide +kernel
theorem dX14_readAct_111 : decode cX14_readAct 111 = .ok (.aload_n 0, 1) := by decide +kernel
theorem dX14_readAct_112 : decode cX14_readAct 112 = .ok (.getfield 41, 3) := by decide +kernel
theorem dX14_readAct_115 : decode cX14_readAct 115 = .ok (.iload_n 1, 1) := by decide +kernel
theorem dX14_readAct_116 : decode cX14_readAct 116 = .ok (.iconst 1, 1) := by decide +kernel
theorem dX14_readAct_117 : decode cX14_readAct 117 = .ok (.bastore, 1) := by decide +kernel
theorem dX14_readAct_118 : decode cX14_readAct 118 = .ok (.aload_n 0, 1) := by decide +kernel
theorem dX14_readAct_119 : decode cX14_readAct 119 = .ok (.getfield 53, 3) := by decide +kernel
theorem dX14_readAct_122 : decode cX14_readAct 122 = .ok (.iload_n 1, 1) := by decide +kernel
theorem dX14_readAct_123 : decode cX14_readAct 123 = .ok (.iconst 0, 1) := by decide +kernel
theorem dX14_readAct_124 : decode cX14_readAct 124 = .ok (.bastore, 1) := by decide +kernel
theorem dX14_readAct_125 : decode cX14_readAct 125 = .ok (.return_, 1) := by decide +kernel
theorem dX14_readAct_28 : decode cX14_readAct 28 = .ok (.iconst 1, 1) := by decide +kernel
theorem dX14_readAct_29 : decode cX14_readAct 29 = .ok (.goto 4, 3) := by decide +kernel
theorem dX14_takeZone_0 : decode cX14_takeZone 0 = .ok (.aload_n 0, 1) := by decide +kernel
theorem dX14_takeZone_1 : decode cX14_takeZone 1 = .ok (.iconst 0, 1) := by decide +kernel
theorem dX14_takeZone_2 : decode cX14_takeZone 2 = .ok (.bipush 19, 2) := by decide +kernel
theorem dX14_takeZone_4 : decode cX14_takeZone 4 = .ok (.invokevirtual 149, 3) := by decide +kernel
theorem dX14_takeZone_7 : decode cX14_takeZone 7 = .ok (.istore_n 2, 1) := by decide +kernel
theorem dX14_takeZone_8 : decode cX14_takeZone 8 = .ok (.aload_n 0, 1) := by decide +kernel
theorem dX14_takeZone_9 : decode cX14_takeZone 9 = .ok (.getfield 134, 3) := by decide +kernel
theorem dX14_takeZone_12 : decode cX14_takeZone 12 = .ok (.ifCond .ge 42, 3) := by decide +kernel
theorem dX14_takeZone_54 : decode cX14_takeZone 54 = .ok (.iload_n 2, 1) := by decide +kernel
theorem dX14_takeZone_55 : decode cX14_takeZone 55 = .ok (.ireturn, 1) := by decide +kernel
theorem dX14_takeZone_15 : decode cX14_takeZone 15 = .ok (.aload_n 0, 1) := by decide +kernel
theorem dX14_takeZone_16 : decode cX14_takeZone 16 = .ok (.aload_n 0, 1) := by decide +kernel
theorem dX14_takeZone_17 : decode cX14_takeZone 17 = .ok (.getfield 29, 3) := by decide +kernel
theorem dX14_takeZone_20 : decode cX14_takeZone 20 = .ok (.bipush 20, 2) := by decide +kernel
theorem dX14_takeZone_22 : decode cX14_takeZone 22 = .ok (.iload_n 2, 1) := by decide +kernel
theorem dX14_takeZone_23 : decode cX14_takeZone 23 = .ok (.iadd, 1) := by decide +kernel
theorem dX14_takeZone_24 : decode cX14_takeZone 24 = .ok (.baload, 1) := by decide +kernel
theorem dX14_takeZone_25 : decode cX14_takeZone 25 = .ok (.ifCond .eq 12, 3) := by decide +kernel
theorem dX14_takeZone_37 : decode cX14_takeZone 37 = .ok (.iconst 0, 1) := by decide +kernel
theorem dX14_takeZone_38 : decode cX14_takeZone 38 = .ok (.invokevirtual 141, 3) := by decide +kernel
theorem dX14_takeZone_41 : decode cX14_takeZone 41 = .ok (.ifCond .eq 13, 3) := by decide +kernel
theorem dX14_takeZone_44 : decode cX14_takeZone 44 = .ok (.aload_n 0, 1) := by decide +kernel
theorem dX14_takeZone_45 : decode cX14_takeZone 45 = .ok (.dup, 1) := by decide +kernel
theorem dX14_takeZone_46 : decode cX14_takeZone 46 = .ok (.getfield 131, 3) := by decide +kernel
theorem dX14_takeZone_49 : decode cX14_takeZone 49 = .ok (.iconst 1, 1) := by decide +kernel
theorem dX14_takeZone_50 : decode cX14_takeZone 50 = .ok (.iadd, 1) := by decide +kernel
theorem dX14_takeZone_51 : decode cX14_takeZone 51 = .ok (.putfield 131, 3) := by decide +kernel
theorem dX14_takeZone_28 : decode cX14_takeZone 28 = .ok (.iload_n 2, 1) := by decide +kernel
theorem dX14_takeZone_29 : decode cX14_takeZone 29 = .ok (.iload_n 1, 1) := by decide +kernel
theorem dX14_takeZone_30 : decode cX14_takeZone 30 = .ok (.if_icmp .eq 7, 3) := by decide +kernel
theorem dX14_takeZone_33 : decode cX14_takeZone 33 = .ok (.iconst 1, 1) := by decide +kernel
theorem dX14_takeZone_34 : decode cX14_takeZone 34 = .ok (.goto 4, 3) := by decide +kernel
theorem dX14_readRow_0 : decode cX14_readRow 0 = .ok (.aload_n 0, 1) := by decide +kernel
theorem dX14_readRow_1 : decode cX14_readRow 1 = .ok (.iconst (-1), 1) := by decide +kernel
theorem dX14_readRow_2 : decode cX14_readRow 2 = .ok (.invokevirtual 169, 3) := by decide +kernel
theorem dX14_readRow_5 : decode cX14_readRow 5 = .ok (.istore_n 1, 1) := by decide +kernel
theorem dX14_readRow_6 : decode cX14_readRow 6 = .ok (.iconst (-1), 1) := by decide +kernel
theorem dX14_readRow_7 : decode cX14_readRow 7 = .ok (.istore_n 2, 1) := by decide +kernel
theorem dX14_readRow_8 : decode cX14_readRow 8 = .ok (.aload_n 0, 1) := by decide +kernel
theorem dX14_readRow_9 : decode cX14_readRow 9 = .ok (.getfield 134, 3) := by decide +kernel
theorem dX14_readRow_12 : decode cX14_readRow 12 = .ok (.ifCond .ge 28, 3) := by decide +kernel
theorem dX14_readRow_40 : decode cX14_readRow 40 = .ok (.aload_n 0, 1) := by decide +kernel
theorem dX14_readRow_41 : decode cX14_readRow 41 = .ok (.ldc 121, 2) := by decide +kernel
theorem dX14_readRow_43 : decode cX14_readRow 43 = .ok (.invokevirtual 153, 3) := by decide +kernel
theorem dX14_readRow_46 : decode cX14_readRow 46 = .ok (.aload_n 0, 1) := by decide +kernel
theorem dX14_readRow_47 : decode cX14_readRow 47 = .ok (.getfield 134, 3) := by decide +kernel
theorem dX14_readRow_50 : decode cX14_readRow 50 = .ok (.ifCond .ge 13, 3) := by decide +kernel
theorem dX14_readRow_63 : decode cX14_readRow 63 = .ok (.iconst (-1), 1) := by decide +kernel
theorem dX14_readRow_64 : decode cX14_readRow 64 = .ok (.istore_n 3, 1) := by decide +kernel
theorem dX14_readRow_65 : decode cX14_readRow 65 = .ok (.aload_n 0, 1) := by decide +kernel
theorem dX14_readRow_66 : decode cX14_readRow 66 = .ok (.getfield 134, 3) := by decide +kernel
theorem dX14_readRow_69 : decode cX14_readRow 69 = .ok (.ifCond .ge 29, 3) := by decide +kernel
theorem dX14_readRow_98 : decode cX14_readRow 98 = .ok (.aload_n 0, 1) := by decide +kernel
theorem dX14_readRow_99 : decode cX14_readRow 99 = .ok (.invokevirtual 166, 3) := by decide +kernel
theorem dX14_readRow_102 : decode cX14_readRow 102 = .ok (.aload_n 0, 1) := by decide +kernel
theorem dX14_readRow_103 : decode cX14_readRow 103 = .ok (.getfield 134, 3) := by decide +kernel
theorem dX14_readRow_106 : decode cX14_readRow 106 = .ok (.ifCond .ge 52, 3) := by decide +kernel
theorem dX14_readRow_158 : decode cX14_readRow 158 = .ok (.return_, 1) := by decide +kernel
theorem dX14_readRow_109 : decode cX14_readRow 109 = .ok (.aload_n 0, 1) := by decide +kernel
theorem dX14_readRow_110 : decode cX14_readRow 110 = .ok (.getfield 56, 3) := by decide +kernel
theorem dX14_readRow_113 : decode cX14_readRow 113 = .ok (.bipush 50, 2) := by decide +kernel
theorem dX14_readRow_115 : decode cX14_readRow 115 = .ok (.aload_n 0, 1) := by decide +kernel
theorem dX14_readRow_116 : decode cX14_readRow 116 = .ok (.getfield 172, 3) := by decide +kernel
theorem dX14_readRow_119 : decode cX14_readRow 119 = .ok (.iadd, 1) := by decide +kernel
theorem dX14_readRow_120 : decode cX14_readRow 120 = .ok (.iload_n 1, 1) := by decide +kernel
theorem dX14_readRow_121 : decode cX14_readRow 121 = .ok (.iastore, 1) := by decide +kernel
theorem dX14_readRow_122 : decode cX14_readRow 122 = .ok (.aload_n 0, 1) := by decide +kernel
theorem dX14_readRow_123 : decode cX14_readRow 123 = .ok (.getfield 59, 3) := by decide +kernel
theorem dX14_readRow_126 : decode cX14_readRow 126 = .ok (.bipush 50, 2) := by decide +kernel
theorem dX14_readRow_128 : decode cX14_readRow 128 = .ok (.aload_n 0, 1) := by decide +kernel
theorem dX14_readRow_129 : decode cX14_readRow 129 = .ok (.getfield 172, 3) := by decide +kernel
theorem dX14_readRow_132 : decode cX14_readRow 132 = .ok (.iadd, 1) := by decide +kernel
theorem dX14_readRow_133 : decode cX14_readRow 133 = .ok (.iload_n 2, 1) := by decide +kernel
theorem dX14_readRow_134 : decode cX14_readRow 134 = .ok (.iastore, 1) := by decide +kernel
theorem dX14_readRow_135 : decode cX14_readRow 135 = .ok (.aload_n 0, 1) := by decide +kernel
theorem dX14_readRow_136 : decode cX14_readRow 136 = .ok (.getfield 62, 3) := by decide +kernel
theorem dX14_readRow_139 : decode cX14_readRow 139 = .ok (.bipush 50, 2) := by decide +kernel
theorem dX14_readRow_141 : decode cX14_readRow 141 = .ok (.aload_n 0, 1) := by decide +kernel
theorem dX14_readRow_142 : decode cX14_readRow 142 = .ok (.getfield 172, 3) := by decide +kernel
theorem dX14_readRow_145 : decode cX14_readRow 145 = .ok (.iadd, 1) := by decide +kernel
theorem dX14_readRow_146 : decode cX14_readRow 146 = .ok (.iload_n 3, 1) := by decide +kernel
theorem dX14_readRow_147 : decode cX14_readRow 147 = .ok (.iastore, 1) := by decide +kernel
theorem dX14_readRow_148 : decode cX14_readRow 148 = .ok (.aload_n 0, 1) := by decide +kernel
theorem dX14_readRow_149 : decode cX14_readRow 149 = .ok (.dup, 1) := by decide +kernel
theorem dX14_readRow_150 : decode cX14_readRow 150 = .ok (.getfield 172, 3) := by decide +kernel
theorem dX14_readRow_153 : decode cX14_readRow 153 = .ok (.iconst 1, 1) := by decide +kernel
theorem dX14_readRow_154 : decode cX14_readRow 154 = .ok (.iadd, 1) := by decide +kernel
theorem dX14_readRow_155 : decode cX14_readRow 155 = .ok (.putfield 172, 3) := by decide +kernel
theorem dX14_readRow_72 : decode cX14_readRow 72 = .ok (.aload_n 0, 1) := by decide +kernel
theorem dX14_readRow_73 : decode cX14_readRow 73 = .ok (.aload_n 0, 1) := by decide +kernel
theorem dX14_readRow_74 : decode cX14_readRow 74 = .ok (.getfield 41, 3) := by decide +kernel
theorem dX14_readRow_77 : decode cX14_readRow 77 = .ok (.bipush 20, 2) := by decide +kernel
theorem dX14_readRow_79 : decode cX14_readRow 79 = .ok (.iload_n 3, 1) := by decide +kernel
theorem dX14_readRow_80 : decode cX14_readRow 80 = .ok (.iadd, 1) := by decide +kernel
theorem dX14_readRow_81 : decode cX14_readRow 81 = .ok (.baload, 1) := by decide +kernel
theorem dX14_readRow_82 : decode cX14_readRow 82 = .ok (.invokevirtual 141, 3) := by decide +kernel
theorem dX14_readRow_85 : decode cX14_readRow 85 = .ok (.ifCond .eq 13, 3) := by decide +kernel
theorem dX14_readRow_88 : decode cX14_readRow 88 = .ok (.aload_n 0, 1) := by decide +kernel
theorem dX14_readRow_89 : decode cX14_readRow 89 = .ok (.dup, 1) := by decide +kernel
theorem dX14_readRow_90 : decode cX14_readRow 90 = .ok (.getfield 131, 3) := by decide +kernel
theorem dX14_readRow_93 : decode cX14_readRow 93 = .ok (.iconst 1, 1) := by decide +kernel
theorem dX14_readRow_94 : decode cX14_readRow 94 = .ok (.iadd, 1) := by decide +kernel
theorem dX14_readRow_95 : decode cX14_readRow 95 = .ok (.putfield 131, 3) := by decide +kernel
theorem dX14_readRow_53 : decode cX14_readRow 53 = .ok (.aload_n 0, 1) := by decide +kernel
theorem dX14_readRow_54 : decode cX14_readRow 54 = .ok (.iconst 0, 1) := by decide +kernel
theorem dX14_readRow_55 : decode cX14_readRow 55 = .ok (.bipush 19, 2) := by decide +kernel
theorem dX14_readRow_57 : decode cX14_readRow 57 = .ok (.invokevirtual 149, 3) := by decide +kernel
theorem dX14_readRow_60 : decode cX14_readRow 60 = .ok (.goto 4, 3) := by decide +kernel
theorem dX14_readRow_15 : decode cX14_readRow 15 = .ok (.aload_n 0, 1) := by decide +kernel
theorem dX14_readRow_16 : decode cX14_readRow 16 = .ok (.bipush 38, 2) := by decide +kernel
theorem dX14_readRow_18 : decode cX14_readRow 18 = .ok (.invokevirtual 145, 3) := by decide +kernel
theorem dX14_readRow_21 : decode cX14_readRow 21 = .ok (.ifCond .eq 19, 3) := by decide +kernel
theorem dX14_readRow_24 : decode cX14_readRow 24 = .ok (.aload_n 0, 1) := by decide +kernel
theorem dX14_readRow_25 : decode cX14_readRow 25 = .ok (.dup, 1) := by decide +kernel
theorem dX14_readRow_26 : decode cX14_readRow 26 = .ok (.getfield 131, 3) := by decide +kernel
theorem dX14_readRow_29 : decode cX14_readRow 29 = .ok (.iconst 1, 1) := by decide +kernel
theorem dX14_readRow_30 : decode cX14_readRow 30 = .ok (.iadd, 1) := by decide +kernel
theorem dX14_readRow_31 : decode cX14_readRow 31 = .ok (.putfield 131, 3) := by decide +kernel
theorem dX14_readRow_34 : decode cX14_readRow 34 = .ok (.aload_n 0, 1) := by decide +kernel
theorem dX14_readRow_35 : decode cX14_readRow 35 = .ok (.iload_n 1, 1) := by decide +kernel
theorem dX14_readRow_36 : decode cX14_readRow 36 = .ok (.invokevirtual 169, 3) := by decide +kernel
theorem dX14_readRow_39 : decode cX14_readRow 39 = .ok (.istore_n 2, 1) := by decide +kernel
theorem dX14_readHold_0 : decode cX14_readHold 0 = .ok (.aload_n 0, 1) := by decide +kernel
theorem dX14_readHold_1 : decode cX14_readHold 1 = .ok (.iconst 0, 1) := by decide +kernel
theorem dX14_readHold_2 : decode cX14_readHold 2 = .ok (.bipush 19, 2) := by decide +kernel
theorem dX14_readHold_4 : decode cX14_readHold 4 = .ok (.invokevirtual 149, 3) := by decide +kernel
theorem dX14_readHold_7 : decode cX14_readHold 7 = .ok (.istore_n 1, 1) := by decide +kernel
theorem dX14_readHold_8 : decode cX14_readHold 8 = .ok (.aload_n 0, 1) := by decide +kernel
theorem dX14_readHold_9 : decode cX14_readHold 9 = .ok (.getfield 134, 3) := by decide +kernel
theorem dX14_readHold_12 : decode cX14_readHold 12 = .ok (.ifCond .ge 49, 3) := by decide +kernel
theorem dX14_readHold_61 : decode cX14_readHold 61 = .ok (.aload_n 0, 1) := by decide +kernel
theorem dX14_readHold_62 : decode cX14_readHold 62 = .ok (.invokevirtual 166, 3) := by decide +kernel
theorem dX14_readHold_65 : decode cX14_readHold 65 = .ok (.aload_n 0, 1) := by decide +kernel
theorem dX14_readHold_66 : decode cX14_readHold 66 = .ok (.getfield 134, 3) := by decide +kernel
theorem dX14_readHold_69 : decode cX14_readHold 69 = .ok (.ifCond .ge 13, 3) := by decide +kernel
theorem dX14_readHold_82 : decode cX14_readHold 82 = .ok (.return_, 1) := by decide +kernel
theorem dX14_readHold_72 : decode cX14_readHold 72 = .ok (.aload_n 0, 1) := by decide +kernel
theorem dX14_readHold_73 : decode cX14_readHold 73 = .ok (.getfield 53, 3) := by decide +kernel
theorem dX14_readHold_76 : decode cX14_readHold 76 = .ok (.bipush 20, 2) := by decide +kernel
theorem dX14_readHold_78 : decode cX14_readHold 78 = .ok (.iload_n 1, 1) := by decide +kernel
theorem dX14_readHold_79 : decode cX14_readHold 79 = .ok (.iadd, 1) := by decide +kernel
theorem dX14_readHold_80 : decode cX14_readHold 80 = .ok (.iconst 1, 1) := by decide +kernel
theorem dX14_readHold_81 : decode cX14_readHold 81 = .ok (.bastore, 1) := by decide +kernel
theorem dX14_readHold_15 : decode cX14_readHold 15 = .ok (.aload_n 0, 1) := by decide +kernel
theorem dX14_readHold_16 : decode cX14_readHold 16 = .ok (.aload_n 0, 1) := by decide +kernel
theorem dX14_readHold_17 : decode cX14_readHold 17 = .ok (.getfield 41, 3) := by decide +kernel
theorem dX14_readHold_20 : decode cX14_readHold 20 = .ok (.bipush 20, 2) := by decide +kernel
theorem dX14_readHold_22 : decode cX14_readHold 22 = .ok (.iload_n 1, 1) := by decide +kernel
theorem dX14_readHold_23 : decode cX14_readHold 23 = .ok (.iadd, 1) := by decide +kernel
theorem dX14_readHold_24 : decode cX14_readHold 24 = .ok (.baload, 1) := by decide +kernel
theorem dX14_readHold_25 : decode cX14_readHold 25 = .ok (.ifCond .eq 19, 3) := by decide +kernel
theorem dX14_readHold_44 : decode cX14_readHold 44 = .ok (.iconst 0, 1) := by decide +kernel
theorem dX14_readHold_45 : decode cX14_readHold 45 = .ok (.invokevirtual 141, 3) := by decide +kernel
theorem dX14_readHold_48 : decode cX14_readHold 48 = .ok (.ifCond .eq 13, 3) := by decide +kernel
theorem dX14_readHold_51 : decode cX14_readHold 51 = .ok (.aload_n 0, 1) := by decide +kernel
theorem dX14_readHold_52 : decode cX14_readHold 52 = .ok (.dup, 1) := by decide +kernel
theorem dX14_readHold_53 : decode cX14_readHold 53 = .ok (.getfield 131, 3) := by decide +kernel
theorem dX14_readHold_56 : decode cX14_readHold 56 = .ok (.iconst 1, 1) := by decide +kernel
theorem dX14_readHold_57 : decode cX14_readHold 57 = .ok (.iadd, 1) := by decide +kernel
theorem dX14_readHold_58 : decode cX14_readHold 58 = .ok (.putfield 131, 3) := by decide +kernel
theorem dX14_readHold_28 : decode cX14_readHold 28 = .ok (.aload_n 0, 1) := by decide +kernel
theorem dX14_readHold_29 : decode cX14_readHold 29 = .ok (.getfield 53, 3) := by decide +kernel
theorem dX14_readHold_32 : decode cX14_readHold 32 = .ok (.bipush 20, 2) := by decide +kernel
theorem dX14_readHold_34 : decode cX14_readHold 34 = .ok (.iload_n 1, 1) := by decide +kernel
theorem dX14_readHold_35 : decode cX14_readHold 35 = .ok (.iadd, 1) := by decide +kernel
theorem dX14_readHold_36 : decode cX14_readHold 36 = .ok (.baload, 1) := by decide +kernel
theorem dX14_readHold_37 : decode cX14_readHold 37 = .ok (.ifCond .ne 7, 3) := by decide +kernel
theorem dX14_readHold_40 : decode cX14_readHold 40 = .ok (.iconst 1, 1) := by decide +kernel
theorem dX14_readHold_41 : decode cX14_readHold 41 = .ok (.goto 4, 3) := by decide +kernel
theorem dX14_readSentence_0 : decode cX14_readSentence 0 = .ok (.aload_n 0, 1) := by decide +kernel
theorem dX14_readSentence_1 : decode cX14_readSentence 1 = .ok (.invokevirtual 137, 3) := by decide +kernel
theorem dX14_readSentence_4 : decode cX14_readSentence 4 = .ok (.istore_n 1, 1) := by decide +kernel
theorem dX14_readSentence_5 : decode cX14_readSentence 5 = .ok (.iload_n 1, 1) := by decide +kernel
theorem dX14_readSentence_6 : decode cX14_readSentence 6 = .ok (.ldc 108, 2) := by decide +kernel
theorem dX14_readSentence_8 : decode cX14_readSentence 8 = .ok (.if_icmp .ne 20, 3) := by decide +kernel
theorem dX14_readSentence_28 : decode cX14_readSentence 28 = .ok (.iload_n 1, 1) := by decide +kernel
theorem dX14_readSentence_29 : decode cX14_readSentence 29 = .ok (.sipush 20577, 3) := by decide +kernel
theorem dX14_readSentence_32 : decode cX14_readSentence 32 = .ok (.if_icmp .ne 20, 3) := by decide +kernel
theorem dX14_readSentence_52 : decode cX14_readSentence 52 = .ok (.iload_n 1, 1) := by decide +kernel
theorem dX14_readSentence_53 : decode cX14_readSentence 53 = .ok (.ldc 110, 2) := by decide +kernel
theorem dX14_readSentence_55 : decode cX14_readSentence 55 = .ok (.if_icmp .ne 41, 3) := by decide +kernel
theorem dX14_readSentence_96 : decode cX14_readSentence 96 = .ok (.aload_n 0, 1) := by decide +kernel
theorem dX14_readSentence_97 : decode cX14_readSentence 97 = .ok (.ldc 109, 2) := by decide +kernel
theorem dX14_readSentence_99 : decode cX14_readSentence 99 = .ok (.invokevirtual 153, 3) := by decide +kernel
theorem dX14_readSentence_102 : decode cX14_readSentence 102 = .ok (.aload_n 0, 1) := by decide +kernel
theorem dX14_readSentence_103 : decode cX14_readSentence 103 = .ok (.getfield 134, 3) := by decide +kernel
theorem dX14_readSentence_106 : decode cX14_readSentence 106 = .ok (.ifCond .ge 7, 3) := by decide +kernel
theorem dX14_readSentence_113 : decode cX14_readSentence 113 = .ok (.return_, 1) := by decide +kernel
theorem dX14_readSentence_109 : decode cX14_readSentence 109 = .ok (.aload_n 0, 1) := by decide +kernel
theorem dX14_readSentence_110 : decode cX14_readSentence 110 = .ok (.invokevirtual 184, 3) := by decide +kernel
theorem dX14_readSentence_58 : decode cX14_readSentence 58 = .ok (.aload_n 0, 1) := by decide +kernel
theorem dX14_readSentence_59 : decode cX14_readSentence 59 = .ok (.aload_n 0, 1) := by decide +kernel
theorem dX14_readSentence_60 : decode cX14_readSentence 60 = .ok (.getfield 172, 3) := by decide +kernel
theorem dX14_readSentence_63 : decode cX14_readSentence 63 = .ok (.bipush 50, 2) := by decide +kernel
theorem dX14_readSentence_65 : decode cX14_readSentence 65 = .ok (.if_icmp .ge 7, 3) := by decide +kernel
theorem dX14_readSentence_72 : decode cX14_readSentence 72 = .ok (.iconst 0, 1) := by decide +kernel
theorem dX14_readSentence_73 : decode cX14_readSentence 73 = .ok (.invokevirtual 141, 3) := by decide +kernel
theorem dX14_readSentence_76 : decode cX14_readSentence 76 = .ok (.ifCond .eq 37, 3) := by decide +kernel
theorem dX14_readSentence_79 : decode cX14_readSentence 79 = .ok (.aload_n 0, 1) := by decide +kernel
theorem dX14_readSentence_80 : decode cX14_readSentence 80 = .ok (.dup, 1) := by decide +kernel
theorem dX14_readSentence_81 : decode cX14_readSentence 81 = .ok (.getfield 131, 3) := by decide +kernel
theorem dX14_readSentence_84 : decode cX14_readSentence 84 = .ok (.iconst 1, 1) := by decide +kernel
theorem dX14_readSentence_85 : decode cX14_readSentence 85 = .ok (.iadd, 1) := by decide +kernel
theorem dX14_readSentence_86 : decode cX14_readSentence 86 = .ok (.putfield 131, 3) := by decide +kernel
theorem dX14_readSentence_89 : decode cX14_readSentence 89 = .ok (.aload_n 0, 1) := by decide +kernel
theorem dX14_readSentence_90 : decode cX14_readSentence 90 = .ok (.invokevirtual 181, 3) := by decide +kernel
theorem dX14_readSentence_93 : decode cX14_readSentence 93 = .ok (.goto 20, 3) := by decide +kernel
theorem dX14_readSentence_68 : decode cX14_readSentence 68 = .ok (.iconst 1, 1) := by decide +kernel
theorem dX14_readSentence_69 : decode cX14_readSentence 69 = .ok (.goto 4, 3) := by decide +kernel
theorem dX14_readSentence_35 : decode cX14_readSentence 35 = .ok (.aload_n 0, 1) := by decide +kernel
theorem dX14_readSentence_36 : decode cX14_readSentence 36 = .ok (.dup, 1) := by decide +kernel
theorem dX14_readSentence_37 : decode cX14_readSentence 37 = .ok (.getfield 131, 3) := by decide +kernel
theorem dX14_readSentence_40 : decode cX14_readSentence 40 = .ok (.iconst 1, 1) := by decide +kernel
theorem dX14_readSentence_41 : decode cX14_readSentence 41 = .ok (.iadd, 1) := by decide +kernel
theorem dX14_readSentence_42 : decode cX14_readSentence 42 = .ok (.putfield 131, 3) := by decide +kernel
theorem dX14_readSentence_45 : decode cX14_readSentence 45 = .ok (.aload_n 0, 1) := by decide +kernel
theorem dX14_readSentence_46 : decode cX14_readSentence 46 = .ok (.invokevirtual 178, 3) := by decide +kernel
theorem dX14_readSentence_49 : decode cX14_readSentence 49 = .ok (.goto 64, 3) := by decide +kernel
theorem dX14_readSentence_11 : decode cX14_readSentence 11 = .ok (.aload_n 0, 1) := by decide +kernel
theorem dX14_readSentence_12 : decode cX14_readSentence 12 = .ok (.dup, 1) := by decide +kernel
theorem dX14_readSentence_13 : decode cX14_readSentence 13 = .ok (.getfield 131, 3) := by decide +kernel
theorem dX14_readSentence_16 : decode cX14_readSentence 16 = .ok (.iconst 1, 1) := by decide +kernel
theorem dX14_readSentence_17 : decode cX14_readSentence 17 = .ok (.iadd, 1) := by decide +kernel
theorem dX14_readSentence_18 : decode cX14_readSentence 18 = .ok (.putfield 131, 3) := by decide +kernel
theorem dX14_readSentence_21 : decode cX14_readSentence 21 = .ok (.aload_n 0, 1) := by decide +kernel
theorem dX14_readSentence_22 : decode cX14_readSentence 22 = .ok (.invokevirtual 175, 3) := by decide +kernel
theorem dX14_readSentence_25 : decode cX14_readSentence 25 = .ok (.goto 88, 3) := by decide +kernel
theorem dX14_rests_0 : decode cX14_rests 0 = .ok (.aload_n 0, 1) := by decide +kernel
theorem dX14_rests_1 : decode cX14_rests 1 = .ok (.getfield 65, 3) := by decide +kernel
theorem dX14_rests_4 : decode cX14_rests 4 = .ok (.iload_n 1, 1) := by decide +kernel
theorem dX14_rests_5 : decode cX14_rests 5 = .ok (.iconst 0, 1) := by decide +kernel
theorem dX14_rests_6 : decode cX14_rests 6 = .ok (.iastore, 1) := by decide +kernel
theorem dX14_rests_7 : decode cX14_rests 7 = .ok (.aload_n 0, 1) := by decide +kernel
theorem dX14_rests_8 : decode cX14_rests 8 = .ok (.getfield 68, 3) := by decide +kernel
theorem dX14_rests_11 : decode cX14_rests 11 = .ok (.iload_n 1, 1) := by decide +kernel
theorem dX14_rests_12 : decode cX14_rests 12 = .ok (.iconst (-1), 1) := by decide +kernel
theorem dX14_rests_13 : decode cX14_rests 13 = .ok (.iastore, 1) := by decide +kernel
theorem dX14_rests_14 : decode cX14_rests 14 = .ok (.aload_n 0, 1) := by decide +kernel
theorem dX14_rests_15 : decode cX14_rests 15 = .ok (.getfield 71, 3) := by decide +kernel
theorem dX14_rests_18 : decode cX14_rests 18 = .ok (.iload_n 1, 1) := by decide +kernel
theorem dX14_rests_19 : decode cX14_rests 19 = .ok (.iconst 0, 1) := by decide +kernel
theorem dX14_rests_20 : decode cX14_rests 20 = .ok (.bastore, 1) := by decide +kernel
theorem dX14_rests_21 : decode cX14_rests 21 = .ok (.aload_n 0, 1) := by decide +kernel
theorem dX14_rests_22 : decode cX14_rests 22 = .ok (.getfield 74, 3) := by decide +kernel
theorem dX14_rests_25 : decode cX14_rests 25 = .ok (.iload_n 1, 1) := by decide +kernel
theorem dX14_rests_26 : decode cX14_rests 26 = .ok (.iconst 0, 1) := by decide +kernel
theorem dX14_rests_27 : decode cX14_rests 27 = .ok (.bastore, 1) := by decide +kernel
theorem dX14_rests_28 : decode cX14_rests 28 = .ok (.return_, 1) := by decide +kernel
theorem dX14_adopt_0 : decode cX14_adopt 0 = .ok (.iconst 0, 1) := by decide +kernel
theorem dX14_adopt_1 : decode cX14_adopt 1 = .ok (.istore_n 1, 1) := by decide +kernel
theorem dX14_adopt_2 : decode cX14_adopt 2 = .ok (.iload_n 1, 1) := by decide +kernel
theorem dX14_adopt_3 : decode cX14_adopt 3 = .ok (.bipush 20, 2) := by decide +kernel
theorem dX14_adopt_5 : decode cX14_adopt 5 = .ok (.if_icmp .ge 174, 3) := by decide +kernel
theorem dX14_adopt_8 : decode cX14_adopt 8 = .ok (.aload_n 0, 1) := by decide +kernel
theorem dX14_adopt_9 : decode cX14_adopt 9 = .ok (.getfield 29, 3) := by decide +kernel
theorem dX14_adopt_12 : decode cX14_adopt 12 = .ok (.iload_n 1, 1) := by decide +kernel
theorem dX14_adopt_13 : decode cX14_adopt 13 = .ok (.aload_n 0, 1) := by decide +kernel
theorem dX14_adopt_14 : decode cX14_adopt 14 = .ok (.getfield 29, 3) := by decide +kernel
theorem dX14_adopt_17 : decode cX14_adopt 17 = .ok (.bipush 20, 2) := by decide +kernel
theorem dX14_adopt_19 : decode cX14_adopt 19 = .ok (.iload_n 1, 1) := by decide +kernel
theorem dX14_adopt_20 : decode cX14_adopt 20 = .ok (.iadd, 1) := by decide +kernel
theorem dX14_adopt_21 : decode cX14_adopt 21 = .ok (.baload, 1) := by decide +kernel
theorem dX14_adopt_22 : decode cX14_adopt 22 = .ok (.bastore, 1) := by decide +kernel
theorem dX14_adopt_23 : decode cX14_adopt 23 = .ok (.aload_n 0, 1) := by decide +kernel
theorem dX14_adopt_24 : decode cX14_adopt 24 = .ok (.getfield 32, 3) := by decide +kernel
theorem dX14_adopt_27 : decode cX14_adopt 27 = .ok (.iload_n 1, 1) := by decide +kernel
theorem dX14_adopt_28 : decode cX14_adopt 28 = .ok (.aload_n 0, 1) := by decide +kernel
theorem dX14_adopt_29 : decode cX14_adopt 29 = .ok (.getfield 32, 3) := by decide +kernel
theorem dX14_adopt_32 : decode cX14_adopt 32 = .ok (.bipush 20, 2) := by decide +kernel
theorem dX14_adopt_34 : decode cX14_adopt 34 = .ok (.iload_n 1, 1) := by decide +kernel
theorem dX14_adopt_35 : decode cX14_adopt 35 = .ok (.iadd, 1) := by decide +kernel
theorem dX14_adopt_36 : decode cX14_adopt 36 = .ok (.iaload, 1) := by decide +kernel
theorem dX14_adopt_37 : decode cX14_adopt 37 = .ok (.iastore, 1) := by decide +kernel
theorem dX14_adopt_38 : decode cX14_adopt 38 = .ok (.aload_n 0, 1) := by decide +kernel
theorem dX14_adopt_39 : decode cX14_adopt 39 = .ok (.getfield 35, 3) := by decide +kernel
theorem dX14_adopt_42 : decode cX14_adopt 42 = .ok (.iload_n 1, 1) := by decide +kernel
theorem dX14_adopt_43 : decode cX14_adopt 43 = .ok (.aload_n 0, 1) := by decide +kernel
theorem dX14_adopt_44 : decode cX14_adopt 44 = .ok (.getfield 35, 3) := by decide +kernel
theorem dX14_adopt_47 : decode cX14_adopt 47 = .ok (.bipush 20, 2) := by decide +kernel
theorem dX14_adopt_49 : decode cX14_adopt 49 = .ok (.iload_n 1, 1) := by decide +kernel
theorem dX14_adopt_50 : decode cX14_adopt 50 = .ok (.iadd, 1) := by decide +kernel
theorem dX14_adopt_51 : decode cX14_adopt 51 = .ok (.iaload, 1) := by decide +kernel
theorem dX14_adopt_52 : decode cX14_adopt 52 = .ok (.iastore, 1) := by decide +kernel
theorem dX14_adopt_53 : decode cX14_adopt 53 = .ok (.iconst 0, 1) := by decide +kernel
theorem dX14_adopt_54 : decode cX14_adopt 54 = .ok (.istore_n 2, 1) := by decide +kernel
theorem dX14_adopt_55 : decode cX14_adopt 55 = .ok (.iload_n 2, 1) := by decide +kernel
theorem dX14_adopt_56 : decode cX14_adopt 56 = .ok (.bipush 12, 2) := by decide +kernel
theorem dX14_adopt_58 : decode cX14_adopt 58 = .ok (.if_icmp .ge 35, 3) := by decide +kernel
theorem dX14_adopt_61 : decode cX14_adopt 61 = .ok (.aload_n 0, 1) := by decide +kernel
theorem dX14_adopt_62 : decode cX14_adopt 62 = .ok (.getfield 38, 3) := by decide +kernel
theorem dX14_adopt_65 : decode cX14_adopt 65 = .ok (.bipush 12, 2) := by decide +kernel
theorem dX14_adopt_67 : decode cX14_adopt 67 = .ok (.iload_n 1, 1) := by decide +kernel
theorem dX14_adopt_68 : decode cX14_adopt 68 = .ok (.imul, 1) := by decide +kernel
theorem dX14_adopt_69 : decode cX14_adopt 69 = .ok (.iload_n 2, 1) := by decide +kernel
theorem dX14_adopt_70 : decode cX14_adopt 70 = .ok (.iadd, 1) := by decide +kernel
theorem dX14_adopt_71 : decode cX14_adopt 71 = .ok (.aload_n 0, 1) := by decide +kernel
theorem dX14_adopt_72 : decode cX14_adopt 72 = .ok (.getfield 38, 3) := by decide +kernel
theorem dX14_adopt_75 : decode cX14_adopt 75 = .ok (.sipush 240, 3) := by decide +kernel
theorem dX14_adopt_78 : decode cX14_adopt 78 = .ok (.bipush 12, 2) := by decide +kernel
theorem dX14_adopt_80 : decode cX14_adopt 80 = .ok (.iload_n 1, 1) := by decide +kernel
theorem dX14_adopt_81 : decode cX14_adopt 81 = .ok (.imul, 1) := by decide +kernel
theorem dX14_adopt_82 : decode cX14_adopt 82 = .ok (.iadd, 1) := by decide +kernel
theorem dX14_adopt_83 : decode cX14_adopt 83 = .ok (.iload_n 2, 1) := by decide +kernel
theorem dX14_adopt_84 : decode cX14_adopt 84 = .ok (.iadd, 1) := by decide +kernel
theorem dX14_adopt_85 : decode cX14_adopt 85 = .ok (.iaload, 1) := by decide +kernel
theorem dX14_adopt_86 : decode cX14_adopt 86 = .ok (.iastore, 1) := by decide +kernel
theorem dX14_adopt_87 : decode cX14_adopt 87 = .ok (.iinc 2 1, 3) := by decide +kernel
theorem dX14_adopt_90 : decode cX14_adopt 90 = .ok (.goto (-35), 3) := by decide +kernel
theorem dX14_adopt_93 : decode cX14_adopt 93 = .ok (.aload_n 0, 1) := by decide +kernel
theorem dX14_adopt_94 : decode cX14_adopt 94 = .ok (.getfield 41, 3) := by decide +kernel
theorem dX14_adopt_97 : decode cX14_adopt 97 = .ok (.iload_n 1, 1) := by decide +kernel
theorem dX14_adopt_98 : decode cX14_adopt 98 = .ok (.aload_n 0, 1) := by decide +kernel
theorem dX14_adopt_99 : decode cX14_adopt 99 = .ok (.getfield 41, 3) := by decide +kernel
theorem dX14_adopt_102 : decode cX14_adopt 102 = .ok (.bipush 20, 2) := by decide +kernel
theorem dX14_adopt_104 : decode cX14_adopt 104 = .ok (.iload_n 1, 1) := by decide +kernel
theorem dX14_adopt_105 : decode cX14_adopt 105 = .ok (.iadd, 1) := by decide +kernel
theorem dX14_adopt_106 : decode cX14_adopt 106 = .ok (.baload, 1) := by decide +kernel
theorem dX14_adopt_107 : decode cX14_adopt 107 = .ok (.bastore, 1) := by decide +kernel
theorem dX14_adopt_108 : decode cX14_adopt 108 = .ok (.aload_n 0, 1) := by decide +kernel
theorem dX14_adopt_109 : decode cX14_adopt 109 = .ok (.getfield 44, 3) := by decide +kernel
theorem dX14_adopt_112 : decode cX14_adopt 112 = .ok (.iload_n 1, 1) := by decide +kernel
theorem dX14_adopt_113 : decode cX14_adopt 113 = .ok (.aload_n 0, 1) := by decide +kernel
theorem dX14_adopt_114 : decode cX14_adopt 114 = .ok (.getfield 44, 3) := by decide +kernel
theorem dX14_adopt_117 : decode cX14_adopt 117 = .ok (.bipush 20, 2) := by decide +kernel
theorem dX14_adopt_119 : decode cX14_adopt 119 = .ok (.iload_n 1, 1) := by decide +kernel
theorem dX14_adopt_120 : decode cX14_adopt 120 = .ok (.iadd, 1) := by decide +kernel
theorem dX14_adopt_121 : decode cX14_adopt 121 = .ok (.iaload, 1) := by decide +kernel
theorem dX14_adopt_122 : decode cX14_adopt 122 = .ok (.iastore, 1) := by decide +kernel
theorem dX14_adopt_123 : decode cX14_adopt 123 = .ok (.aload_n 0, 1) := by decide +kernel
theorem dX14_adopt_124 : decode cX14_adopt 124 = .ok (.getfield 47, 3) := by decide +kernel
theorem dX14_adopt_127 : decode cX14_adopt 127 = .ok (.iload_n 1, 1) := by decide +kernel
theorem dX14_adopt_128 : decode cX14_adopt 128 = .ok (.aload_n 0, 1) := by decide +kernel
theorem dX14_adopt_129 : decode cX14_adopt 129 = .ok (.getfield 47, 3) := by decide +kernel
theorem dX14_adopt_132 : decode cX14_adopt 132 = .ok (.bipush 20, 2) := by decide +kernel
theorem dX14_adopt_134 : decode cX14_adopt 134 = .ok (.iload_n 1, 1) := by decide +kernel
theorem dX14_adopt_135 : decode cX14_adopt 135 = .ok (.iadd, 1) := by decide +kernel
theorem dX14_adopt_136 : decode cX14_adopt 136 = .ok (.iaload, 1) := by decide +kernel
theorem dX14_adopt_137 : decode cX14_adopt 137 = .ok (.iastore, 1) := by decide +kernel
theorem dX14_adopt_138 : decode cX14_adopt 138 = .ok (.aload_n 0, 1) := by decide +kernel
theorem dX14_adopt_139 : decode cX14_adopt 139 = .ok (.getfield 50, 3) := by decide +kernel
theorem dX14_adopt_142 : decode cX14_adopt 142 = .ok (.iload_n 1, 1) := by decide +kernel
theorem dX14_adopt_143 : decode cX14_adopt 143 = .ok (.aload_n 0, 1) := by decide +kernel
theorem dX14_adopt_144 : decode cX14_adopt 144 = .ok (.getfield 50, 3) := by decide +kernel
theorem dX14_adopt_147 : decode cX14_adopt 147 = .ok (.bipush 20, 2) := by decide +kernel
theorem dX14_adopt_149 : decode cX14_adopt 149 = .ok (.iload_n 1, 1) := by decide +kernel
theorem dX14_adopt_150 : decode cX14_adopt 150 = .ok (.iadd, 1) := by decide +kernel
theorem dX14_adopt_151 : decode cX14_adopt 151 = .ok (.iaload, 1) := by decide +kernel
theorem dX14_adopt_152 : decode cX14_adopt 152 = .ok (.iastore, 1) := by decide +kernel
theorem dX14_adopt_153 : decode cX14_adopt 153 = .ok (.aload_n 0, 1) := by decide +kernel
theorem dX14_adopt_154 : decode cX14_adopt 154 = .ok (.getfield 53, 3) := by decide +kernel
theorem dX14_adopt_157 : decode cX14_adopt 157 = .ok (.iload_n 1, 1) := by decide +kernel
theorem dX14_adopt_158 : decode cX14_adopt 158 = .ok (.aload_n 0, 1) := by decide +kernel
theorem dX14_adopt_159 : decode cX14_adopt 159 = .ok (.getfield 53, 3) := by decide +kernel
theorem dX14_adopt_162 : decode cX14_adopt 162 = .ok (.bipush 20, 2) := by decide +kernel
theorem dX14_adopt_164 : decode cX14_adopt 164 = .ok (.iload_n 1, 1) := by decide +kernel
theorem dX14_adopt_165 : decode cX14_adopt 165 = .ok (.iadd, 1) := by decide +kernel
theorem dX14_adopt_166 : decode cX14_adopt 166 = .ok (.baload, 1) := by decide +kernel
theorem dX14_adopt_167 : decode cX14_adopt 167 = .ok (.bastore, 1) := by decide +kernel
theorem dX14_adopt_168 : decode cX14_adopt 168 = .ok (.aload_n 0, 1) := by decide +kernel
theorem dX14_adopt_169 : decode cX14_adopt 169 = .ok (.iload_n 1, 1) := by decide +kernel
theorem dX14_adopt_170 : decode cX14_adopt 170 = .ok (.invokevirtual 199, 3) := by decide +kernel
theorem dX14_adopt_173 : decode cX14_adopt 173 = .ok (.iinc 1 1, 3) := by decide +kernel
theorem dX14_adopt_176 : decode cX14_adopt 176 = .ok (.goto (-174), 3) := by decide +kernel
theorem dX14_adopt_179 : decode cX14_adopt 179 = .ok (.aload_n 0, 1) := by decide +kernel
theorem dX14_adopt_180 : decode cX14_adopt 180 = .ok (.aload_n 0, 1) := by decide +kernel
theorem dX14_adopt_181 : decode cX14_adopt 181 = .ok (.getfield 172, 3) := by decide +kernel
theorem dX14_adopt_184 : decode cX14_adopt 184 = .ok (.putfield 196, 3) := by decide +kernel
theorem dX14_adopt_187 : decode cX14_adopt 187 = .ok (.iconst 0, 1) := by decide +kernel
theorem dX14_adopt_188 : decode cX14_adopt 188 = .ok (.istore_n 1, 1) := by decide +kernel
theorem dX14_adopt_189 : decode cX14_adopt 189 = .ok (.iload_n 1, 1) := by decide +kernel
theorem dX14_adopt_190 : decode cX14_adopt 190 = .ok (.aload_n 0, 1) := by decide +kernel
theorem dX14_adopt_191 : decode cX14_adopt 191 = .ok (.getfield 196, 3) := by decide +kernel
theorem dX14_adopt_194 : decode cX14_adopt 194 = .ok (.if_icmp .ge 54, 3) := by decide +kernel
theorem dX14_adopt_197 : decode cX14_adopt 197 = .ok (.aload_n 0, 1) := by decide +kernel
theorem dX14_adopt_198 : decode cX14_adopt 198 = .ok (.getfield 56, 3) := by decide +kernel
theorem dX14_adopt_201 : decode cX14_adopt 201 = .ok (.iload_n 1, 1) := by decide +kernel
theorem dX14_adopt_202 : decode cX14_adopt 202 = .ok (.aload_n 0, 1) := by decide +kernel
theorem dX14_adopt_203 : decode cX14_adopt 203 = .ok (.getfield 56, 3) := by decide +kernel
theorem dX14_adopt_206 : decode cX14_adopt 206 = .ok (.bipush 50, 2) := by decide +kernel
theorem dX14_adopt_208 : decode cX14_adopt 208 = .ok (.iload_n 1, 1) := by decide +kernel
theorem dX14_adopt_209 : decode cX14_adopt 209 = .ok (.iadd, 1) := by decide +kernel
theorem dX14_adopt_210 : decode cX14_adopt 210 = .ok (.iaload, 1) := by decide +kernel
theorem dX14_adopt_211 : decode cX14_adopt 211 = .ok (.iastore, 1) := by decide +kernel
theorem dX14_adopt_212 : decode cX14_adopt 212 = .ok (.aload_n 0, 1) := by decide +kernel
theorem dX14_adopt_213 : decode cX14_adopt 213 = .ok (.getfield 59, 3) := by decide +kernel
theorem dX14_adopt_216 : decode cX14_adopt 216 = .ok (.iload_n 1, 1) := by decide +kernel
theorem dX14_adopt_217 : decode cX14_adopt 217 = .ok (.aload_n 0, 1) := by decide +kernel
theorem dX14_adopt_218 : decode cX14_adopt 218 = .ok (.getfield 59, 3) := by decide +kernel
theorem dX14_adopt_221 : decode cX14_adopt 221 = .ok (.bipush 50, 2) := by decide +kernel
theorem dX14_adopt_223 : decode cX14_adopt 223 = .ok (.iload_n 1, 1) := by decide +kernel
theorem dX14_adopt_224 : decode cX14_adopt 224 = .ok (.iadd, 1) := by decide +kernel
theorem dX14_adopt_225 : decode cX14_adopt 225 = .ok (.iaload, 1) := by decide +kernel
theorem dX14_adopt_226 : decode cX14_adopt 226 = .ok (.iastore, 1) := by decide +kernel
theorem dX14_adopt_227 : decode cX14_adopt 227 = .ok (.aload_n 0, 1) := by decide +kernel
theorem dX14_adopt_228 : decode cX14_adopt 228 = .ok (.getfield 62, 3) := by decide +kernel
theorem dX14_adopt_231 : decode cX14_adopt 231 = .ok (.iload_n 1, 1) := by decide +kernel
theorem dX14_adopt_232 : decode cX14_adopt 232 = .ok (.aload_n 0, 1) := by decide +kernel
theorem dX14_adopt_233 : decode cX14_adopt 233 = .ok (.getfield 62, 3) := by decide +kernel
theorem dX14_adopt_236 : decode cX14_adopt 236 = .ok (.bipush 50, 2) := by decide +kernel
theorem dX14_adopt_238 : decode cX14_adopt 238 = .ok (.iload_n 1, 1) := by decide +kernel
theorem dX14_adopt_239 : decode cX14_adopt 239 = .ok (.iadd, 1) := by decide +kernel
theorem dX14_adopt_240 : decode cX14_adopt 240 = .ok (.iaload, 1) := by decide +kernel
theorem dX14_adopt_241 : decode cX14_adopt 241 = .ok (.iastore, 1) := by decide +kernel
theorem dX14_adopt_242 : decode cX14_adopt 242 = .ok (.iinc 1 1, 3) := by decide +kernel
theorem dX14_adopt_245 : decode cX14_adopt 245 = .ok (.goto (-56), 3) := by decide +kernel
theorem dX14_adopt_248 : decode cX14_adopt 248 = .ok (.return_, 1) := by decide +kernel
theorem dX14_read_0 : decode cX14_read 0 = .ok (.aload_n 0, 1) := by decide +kernel
theorem dX14_read_1 : decode cX14_read 1 = .ok (.invokevirtual 187, 3) := by decide +kernel
theorem dX14_read_4 : decode cX14_read 4 = .ok (.aload_n 0, 1) := by decide +kernel
theorem dX14_read_5 : decode cX14_read 5 = .ok (.iconst 0, 1) := by decide +kernel
theorem dX14_read_6 : decode cX14_read 6 = .ok (.putfield 131, 3) := by decide +kernel
theorem dX14_read_9 : decode cX14_read 9 = .ok (.aload_n 0, 1) := by decide +kernel
theorem dX14_read_10 : decode cX14_read 10 = .ok (.iconst (-1), 1) := by decide +kernel
theorem dX14_read_11 : decode cX14_read 11 = .ok (.putfield 134, 3) := by decide +kernel
theorem dX14_read_14 : decode cX14_read 14 = .ok (.aload_n 0, 1) := by decide +kernel
theorem dX14_read_15 : decode cX14_read 15 = .ok (.iconst 0, 1) := by decide +kernel
theorem dX14_read_16 : decode cX14_read 16 = .ok (.putfield 172, 3) := by decide +kernel
theorem dX14_read_19 : decode cX14_read 19 = .ok (.bipush 20, 2) := by decide +kernel
theorem dX14_read_21 : decode cX14_read 21 = .ok (.istore_n 1, 1) := by decide +kernel
theorem dX14_read_22 : decode cX14_read 22 = .ok (.iload_n 1, 1) := by decide +kernel
theorem dX14_read_23 : decode cX14_read 23 = .ok (.bipush 40, 2) := by decide +kernel
theorem dX14_read_25 : decode cX14_read 25 = .ok (.if_icmp .ge 23, 3) := by decide +kernel
theorem dX14_read_28 : decode cX14_read 28 = .ok (.aload_n 0, 1) := by decide +kernel
theorem dX14_read_29 : decode cX14_read 29 = .ok (.getfield 29, 3) := by decide +kernel
theorem dX14_read_32 : decode cX14_read 32 = .ok (.iload_n 1, 1) := by decide +kernel
theorem dX14_read_33 : decode cX14_read 33 = .ok (.iconst 0, 1) := by decide +kernel
theorem dX14_read_34 : decode cX14_read 34 = .ok (.bastore, 1) := by decide +kernel
theorem dX14_read_35 : decode cX14_read 35 = .ok (.aload_n 0, 1) := by decide +kernel
theorem dX14_read_36 : decode cX14_read 36 = .ok (.getfield 41, 3) := by decide +kernel
theorem dX14_read_39 : decode cX14_read 39 = .ok (.iload_n 1, 1) := by decide +kernel
theorem dX14_read_40 : decode cX14_read 40 = .ok (.iconst 0, 1) := by decide +kernel
theorem dX14_read_41 : decode cX14_read 41 = .ok (.bastore, 1) := by decide +kernel
theorem dX14_read_42 : decode cX14_read 42 = .ok (.iinc 1 1, 3) := by decide +kernel
theorem dX14_read_45 : decode cX14_read 45 = .ok (.goto (-23), 3) := by decide +kernel
theorem dX14_read_48 : decode cX14_read 48 = .ok (.aload_n 0, 1) := by decide +kernel
theorem dX14_read_49 : decode cX14_read 49 = .ok (.getfield 131, 3) := by decide +kernel
theorem dX14_read_52 : decode cX14_read 52 = .ok (.aload_n 0, 1) := by decide +kernel
theorem dX14_read_53 : decode cX14_read 53 = .ok (.getfield 125, 3) := by decide +kernel
theorem dX14_read_56 : decode cX14_read 56 = .ok (.if_icmp .ge 17, 3) := by decide +kernel
theorem dX14_read_59 : decode cX14_read 59 = .ok (.aload_n 0, 1) := by decide +kernel
theorem dX14_read_60 : decode cX14_read 60 = .ok (.getfield 134, 3) := by decide +kernel
theorem dX14_read_63 : decode cX14_read 63 = .ok (.ifCond .ge 10, 3) := by decide +kernel
theorem dX14_read_66 : decode cX14_read 66 = .ok (.aload_n 0, 1) := by decide +kernel
theorem dX14_read_67 : decode cX14_read 67 = .ok (.invokevirtual 190, 3) := by decide +kernel
theorem dX14_read_70 : decode cX14_read 70 = .ok (.goto (-22), 3) := by decide +kernel
theorem dX14_read_73 : decode cX14_read 73 = .ok (.aload_n 0, 1) := by decide +kernel
theorem dX14_read_74 : decode cX14_read 74 = .ok (.getfield 134, 3) := by decide +kernel
theorem dX14_read_77 : decode cX14_read 77 = .ok (.ifCond .lt 10, 3) := by decide +kernel
theorem dX14_read_87 : decode cX14_read 87 = .ok (.aload_n 0, 1) := by decide +kernel
theorem dX14_read_88 : decode cX14_read 88 = .ok (.invokevirtual 193, 3) := by decide +kernel
theorem dX14_read_91 : decode cX14_read 91 = .ok (.aload_n 0, 1) := by decide +kernel
theorem dX14_read_92 : decode cX14_read 92 = .ok (.getfield 196, 3) := by decide +kernel
theorem dX14_read_95 : decode cX14_read 95 = .ok (.ireturn, 1) := by decide +kernel
theorem dX14_read_80 : decode cX14_read 80 = .ok (.iconst (-1), 1) := by decide +kernel
theorem dX14_read_81 : decode cX14_read 81 = .ok (.aload_n 0, 1) := by decide +kernel
theorem dX14_read_82 : decode cX14_read 82 = .ok (.getfield 134, 3) := by decide +kernel
theorem dX14_read_85 : decode cX14_read 85 = .ok (.isub, 1) := by decide +kernel
theorem dX14_read_86 : decode cX14_read 86 = .ok (.ireturn, 1) := by decide +kernel
theorem dX14_counts_0 : decode cX14_counts 0 = .ok (.aload_n 0, 1) := by decide +kernel
theorem dX14_counts_1 : decode cX14_counts 1 = .ok (.getfield 13, 3) := by decide +kernel
theorem dX14_counts_4 : decode cX14_counts 4 = .ok (.iload_n 1, 1) := by decide +kernel
theorem dX14_counts_5 : decode cX14_counts 5 = .ok (.baload, 1) := by decide +kernel
theorem dX14_counts_6 : decode cX14_counts 6 = .ok (.ifCond .ne 20, 3) := by decide +kernel
theorem dX14_counts_26 : decode cX14_counts 26 = .ok (.iconst 0, 1) := by decide +kernel
theorem dX14_counts_27 : decode cX14_counts 27 = .ok (.ireturn, 1) := by decide +kernel
theorem dX14_counts_9 : decode cX14_counts 9 = .ok (.aload_n 0, 1) := by decide +kernel
theorem dX14_counts_10 : decode cX14_counts 10 = .ok (.getfield 202, 3) := by decide +kernel
theorem dX14_counts_13 : decode cX14_counts 13 = .ok (.aload_n 0, 1) := by decide +kernel
theorem dX14_counts_14 : decode cX14_counts 14 = .ok (.getfield 17, 3) := by decide +kernel
theorem dX14_counts_17 : decode cX14_counts 17 = .ok (.iload_n 1, 1) := by decide +kernel
theorem dX14_counts_18 : decode cX14_counts 18 = .ok (.iaload, 1) := by decide +kernel
theorem dX14_counts_19 : decode cX14_counts 19 = .ok (.if_icmp .lt 7, 3) := by decide +kernel
theorem dX14_counts_22 : decode cX14_counts 22 = .ok (.iconst 1, 1) := by decide +kernel
theorem dX14_counts_23 : decode cX14_counts 23 = .ok (.goto 4, 3) := by decide +kernel
theorem dX14_ofZone_0 : decode cX14_ofZone 0 = .ok (.iconst 0, 1) := by decide +kernel
theorem dX14_ofZone_1 : decode cX14_ofZone 1 = .ok (.istore_n 3, 1) := by decide +kernel
theorem dX14_ofZone_2 : decode cX14_ofZone 2 = .ok (.iconst 0, 1) := by decide +kernel
theorem dX14_ofZone_3 : decode cX14_ofZone 3 = .ok (.istore 4, 2) := by decide +kernel
theorem dX14_ofZone_5 : decode cX14_ofZone 5 = .ok (.iload 4, 2) := by decide +kernel
theorem dX14_ofZone_7 : decode cX14_ofZone 7 = .ok (.aload_n 0, 1) := by decide +kernel
theorem dX14_ofZone_8 : decode cX14_ofZone 8 = .ok (.getfield 35, 3) := by decide +kernel
theorem dX14_ofZone_11 : decode cX14_ofZone 11 = .ok (.iload_n 1, 1) := by decide +kernel
theorem dX14_ofZone_12 : decode cX14_ofZone 12 = .ok (.iaload, 1) := by decide +kernel
theorem dX14_ofZone_13 : decode cX14_ofZone 13 = .ok (.if_icmp .ge 56, 3) := by decide +kernel
theorem dX14_ofZone_16 : decode cX14_ofZone 16 = .ok (.aload_n 0, 1) := by decide +kernel
theorem dX14_ofZone_17 : decode cX14_ofZone 17 = .ok (.getfield 38, 3) := by decide +kernel
theorem dX14_ofZone_20 : decode cX14_ofZone 20 = .ok (.bipush 12, 2) := by decide +kernel
theorem dX14_ofZone_22 : decode cX14_ofZone 22 = .ok (.iload_n 1, 1) := by decide +kernel
theorem dX14_ofZone_23 : decode cX14_ofZone 23 = .ok (.imul, 1) := by decide +kernel
theorem dX14_ofZone_24 : decode cX14_ofZone 24 = .ok (.iload 4, 2) := by decide +kernel
theorem dX14_ofZone_26 : decode cX14_ofZone 26 = .ok (.iadd, 1) := by decide +kernel
theorem dX14_ofZone_27 : decode cX14_ofZone 27 = .ok (.iaload, 1) := by decide +kernel
theorem dX14_ofZone_28 : decode cX14_ofZone 28 = .ok (.istore 5, 2) := by decide +kernel
theorem dX14_ofZone_30 : decode cX14_ofZone 30 = .ok (.iload_n 3, 1) := by decide +kernel
theorem dX14_ofZone_31 : decode cX14_ofZone 31 = .ok (.aload_n 0, 1) := by decide +kernel
theorem dX14_ofZone_32 : decode cX14_ofZone 32 = .ok (.iload 5, 2) := by decide +kernel
theorem dX14_ofZone_34 : decode cX14_ofZone 34 = .ok (.invokevirtual 205, 3) := by decide +kernel
theorem dX14_ofZone_37 : decode cX14_ofZone 37 = .ok (.ifCond .eq 23, 3) := by decide +kernel
theorem dX14_ofZone_60 : decode cX14_ofZone 60 = .ok (.iconst 0, 1) := by decide +kernel
theorem dX14_ofZone_61 : decode cX14_ofZone 61 = .ok (.iadd, 1) := by decide +kernel
theorem dX14_ofZone_62 : decode cX14_ofZone 62 = .ok (.istore_n 3, 1) := by decide +kernel
theorem dX14_ofZone_63 : decode cX14_ofZone 63 = .ok (.iinc 4 1, 3) := by decide +kernel
theorem dX14_ofZone_66 : decode cX14_ofZone 66 = .ok (.goto (-61), 3) := by decide +kernel
theorem dX14_ofZone_40 : decode cX14_ofZone 40 = .ok (.iload_n 2, 1) := by decide +kernel
theorem dX14_ofZone_41 : decode cX14_ofZone 41 = .ok (.ifCond .eq 15, 3) := by decide +kernel
theorem dX14_ofZone_56 : decode cX14_ofZone 56 = .ok (.iconst 1, 1) := by decide +kernel
theorem dX14_ofZone_57 : decode cX14_ofZone 57 = .ok (.goto 4, 3) := by decide +kernel
theorem dX14_ofZone_44 : decode cX14_ofZone 44 = .ok (.aload_n 0, 1) := by decide +kernel
theorem dX14_ofZone_45 : decode cX14_ofZone 45 = .ok (.getfield 7, 3) := by decide +kernel
theorem dX14_ofZone_48 : decode cX14_ofZone 48 = .ok (.iload 5, 2) := by decide +kernel
theorem dX14_ofZone_50 : decode cX14_ofZone 50 = .ok (.iaload, 1) := by decide +kernel
theorem dX14_ofZone_51 : decode cX14_ofZone 51 = .ok (.bipush 50, 2) := by decide +kernel
theorem dX14_ofZone_53 : decode cX14_ofZone 53 = .ok (.if_icmp .lt 7, 3) := by decide +kernel
theorem dX14_ofZone_69 : decode cX14_ofZone 69 = .ok (.iload_n 3, 1) := by decide +kernel
theorem dX14_ofZone_70 : decode cX14_ofZone 70 = .ok (.ireturn, 1) := by decide +kernel
theorem dX14_isOn_0 : decode cX14_isOn 0 = .ok (.aload_n 0, 1) := by decide +kernel
theorem dX14_isOn_1 : decode cX14_isOn 1 = .ok (.iload_n 1, 1) := by decide +kernel
theorem dX14_isOn_2 : decode cX14_isOn 2 = .ok (.iconst 1, 1) := by decide +kernel
theorem dX14_isOn_3 : decode cX14_isOn 3 = .ok (.invokevirtual 208, 3) := by decide +kernel
theorem dX14_isOn_6 : decode cX14_isOn 6 = .ok (.aload_n 0, 1) := by decide +kernel
theorem dX14_isOn_7 : decode cX14_isOn 7 = .ok (.getfield 32, 3) := by decide +kernel
theorem dX14_isOn_10 : decode cX14_isOn 10 = .ok (.iload_n 1, 1) := by decide +kernel
theorem dX14_isOn_11 : decode cX14_isOn 11 = .ok (.iaload, 1) := by decide +kernel
theorem dX14_isOn_12 : decode cX14_isOn 12 = .ok (.if_icmp .lt 7, 3) := by decide +kernel
theorem dX14_isOn_19 : decode cX14_isOn 19 = .ok (.iconst 0, 1) := by decide +kernel
theorem dX14_isOn_20 : decode cX14_isOn 20 = .ok (.ireturn, 1) := by decide +kernel
theorem dX14_isOn_15 : decode cX14_isOn 15 = .ok (.iconst 1, 1) := by decide +kernel
theorem dX14_isOn_16 : decode cX14_isOn 16 = .ok (.goto 4, 3) := by decide +kernel
theorem dX14_isSure_0 : decode cX14_isSure 0 = .ok (.aload_n 0, 1) := by decide +kernel
theorem dX14_isSure_1 : decode cX14_isSure 1 = .ok (.iload_n 1, 1) := by decide +kernel
theorem dX14_isSure_2 : decode cX14_isSure 2 = .ok (.iconst 0, 1) := by decide +kernel
theorem dX14_isSure_3 : decode cX14_isSure 3 = .ok (.invokevirtual 208, 3) := by decide +kernel
theorem dX14_isSure_6 : decode cX14_isSure 6 = .ok (.istore_n 2, 1) := by decide +kernel
theorem dX14_isSure_7 : decode cX14_isSure 7 = .ok (.iload_n 2, 1) := by decide +kernel
theorem dX14_isSure_8 : decode cX14_isSure 8 = .ok (.ifCond .le 17, 3) := by decide +kernel
theorem dX14_isSure_25 : decode cX14_isSure 25 = .ok (.iconst 0, 1) := by decide +kernel
theorem dX14_isSure_26 : decode cX14_isSure 26 = .ok (.ireturn, 1) := by decide +kernel
theorem dX14_isSure_11 : decode cX14_isSure 11 = .ok (.aload_n 0, 1) := by decide +kernel
theorem dX14_isSure_12 : decode cX14_isSure 12 = .ok (.iload_n 1, 1) := by decide +kernel
theorem dX14_isSure_13 : decode cX14_isSure 13 = .ok (.iconst 1, 1) := by decide +kernel
theorem dX14_isSure_14 : decode cX14_isSure 14 = .ok (.invokevirtual 208, 3) := by decide +kernel
theorem dX14_isSure_17 : decode cX14_isSure 17 = .ok (.iload_n 2, 1) := by decide +kernel
theorem dX14_isSure_18 : decode cX14_isSure 18 = .ok (.if_icmp .ne 7, 3) := by decide +kernel
theorem dX14_isSure_21 : decode cX14_isSure 21 = .ok (.iconst 1, 1) := by decide +kernel
theorem dX14_isSure_22 : decode cX14_isSure 22 = .ok (.goto 4, 3) := by decide +kernel
theorem dX14_isMet_0 : decode cX14_isMet 0 = .ok (.aload_n 0, 1) := by decide +kernel
theorem dX14_isMet_1 : decode cX14_isMet 1 = .ok (.aload_n 0, 1) := by decide +kernel
theorem dX14_isMet_2 : decode cX14_isMet 2 = .ok (.getfield 56, 3) := by decide +kernel
theorem dX14_isMet_5 : decode cX14_isMet 5 = .ok (.iload_n 1, 1) := by decide +kernel
theorem dX14_isMet_6 : decode cX14_isMet 6 = .ok (.iaload, 1) := by decide +kernel
theorem dX14_isMet_7 : decode cX14_isMet 7 = .ok (.invokevirtual 212, 3) := by decide +kernel
theorem dX14_isMet_10 : decode cX14_isMet 10 = .ok (.ifCond .eq 29, 3) := by decide +kernel
theorem dX14_isMet_39 : decode cX14_isMet 39 = .ok (.iconst 0, 1) := by decide +kernel
theorem dX14_isMet_40 : decode cX14_isMet 40 = .ok (.ireturn, 1) := by decide +kernel
theorem dX14_isMet_13 : decode cX14_isMet 13 = .ok (.aload_n 0, 1) := by decide +kernel
theorem dX14_isMet_14 : decode cX14_isMet 14 = .ok (.getfield 59, 3) := by decide +kernel
theorem dX14_isMet_17 : decode cX14_isMet 17 = .ok (.iload_n 1, 1) := by decide +kernel
theorem dX14_isMet_18 : decode cX14_isMet 18 = .ok (.iaload, 1) := by decide +kernel
theorem dX14_isMet_19 : decode cX14_isMet 19 = .ok (.ifCond .lt 16, 3) := by decide +kernel
theorem dX14_isMet_35 : decode cX14_isMet 35 = .ok (.iconst 1, 1) := by decide +kernel
theorem dX14_isMet_36 : decode cX14_isMet 36 = .ok (.goto 4, 3) := by decide +kernel
theorem dX14_isMet_22 : decode cX14_isMet 22 = .ok (.aload_n 0, 1) := by decide +kernel
theorem dX14_isMet_23 : decode cX14_isMet 23 = .ok (.aload_n 0, 1) := by decide +kernel
theorem dX14_isMet_24 : decode cX14_isMet 24 = .ok (.getfield 59, 3) := by decide +kernel
theorem dX14_isMet_27 : decode cX14_isMet 27 = .ok (.iload_n 1, 1) := by decide +kernel
theorem dX14_isMet_28 : decode cX14_isMet 28 = .ok (.iaload, 1) := by decide +kernel
theorem dX14_isMet_29 : decode cX14_isMet 29 = .ok (.invokevirtual 212, 3) := by decide +kernel
theorem dX14_isMet_32 : decode cX14_isMet 32 = .ok (.ifCond .eq 7, 3) := by decide +kernel
theorem dX14_isCalled_0 : decode cX14_isCalled 0 = .ok (.iconst 0, 1) := by decide +kernel
theorem dX14_isCalled_1 : decode cX14_isCalled 1 = .ok (.istore_n 3, 1) := by decide +kernel
theorem dX14_isCalled_2 : decode cX14_isCalled 2 = .ok (.iconst 0, 1) := by decide +kernel
theorem dX14_isCalled_3 : decode cX14_isCalled 3 = .ok (.istore 4, 2) := by decide +kernel
theorem dX14_isCalled_5 : decode cX14_isCalled 5 = .ok (.iload 4, 2) := by decide +kernel
theorem dX14_isCalled_7 : decode cX14_isCalled 7 = .ok (.aload_n 0, 1) := by decide +kernel
theorem dX14_isCalled_8 : decode cX14_isCalled 8 = .ok (.getfield 196, 3) := by decide +kernel
theorem dX14_isCalled_11 : decode cX14_isCalled 11 = .ok (.if_icmp .ge 113, 3) := by decide +kernel
theorem dX14_isCalled_14 : decode cX14_isCalled 14 = .ok (.aload_n 0, 1) := by decide +kernel
theorem dX14_isCalled_15 : decode cX14_isCalled 15 = .ok (.getfield 62, 3) := by decide +kernel
theorem dX14_isCalled_18 : decode cX14_isCalled 18 = .ok (.iload 4, 2) := by decide +kernel
theorem dX14_isCalled_20 : decode cX14_isCalled 20 = .ok (.iaload, 1) := by decide +kernel
theorem dX14_isCalled_21 : decode cX14_isCalled 21 = .ok (.iload_n 1, 1) := by decide +kernel
theorem dX14_isCalled_22 : decode cX14_isCalled 22 = .ok (.if_icmp .ne 16, 3) := by decide +kernel
theorem dX14_isCalled_38 : decode cX14_isCalled 38 = .ok (.iconst 0, 1) := by decide +kernel
theorem dX14_isCalled_39 : decode cX14_isCalled 39 = .ok (.istore 5, 2) := by decide +kernel
theorem dX14_isCalled_41 : decode cX14_isCalled 41 = .ok (.iload 5, 2) := by decide +kernel
theorem dX14_isCalled_43 : decode cX14_isCalled 43 = .ok (.ifCond .eq 45, 3) := by decide +kernel
theorem dX14_isCalled_88 : decode cX14_isCalled 88 = .ok (.iconst 0, 1) := by decide +kernel
theorem dX14_isCalled_89 : decode cX14_isCalled 89 = .ok (.istore 6, 2) := by decide +kernel
theorem dX14_isCalled_91 : decode cX14_isCalled 91 = .ok (.iload_n 3, 1) := by decide +kernel
theorem dX14_isCalled_92 : decode cX14_isCalled 92 = .ok (.ifCond .ne 20, 3) := by decide +kernel
theorem dX14_isCalled_112 : decode cX14_isCalled 112 = .ok (.iconst 1, 1) := by decide +kernel
theorem dX14_isCalled_113 : decode cX14_isCalled 113 = .ok (.goto 4, 3) := by decide +kernel
theorem dX14_isCalled_117 : decode cX14_isCalled 117 = .ok (.istore_n 3, 1) := by decide +kernel
theorem dX14_isCalled_118 : decode cX14_isCalled 118 = .ok (.iinc 4 1, 3) := by decide +kernel
theorem dX14_isCalled_121 : decode cX14_isCalled 121 = .ok (.goto (-116), 3) := by decide +kernel
theorem dX14_isCalled_95 : decode cX14_isCalled 95 = .ok (.iload_n 2, 1) := by decide +kernel
theorem dX14_isCalled_96 : decode cX14_isCalled 96 = .ok (.ifCond .eq 11, 3) := by decide +kernel
theorem dX14_isCalled_107 : decode cX14_isCalled 107 = .ok (.iload 5, 2) := by decide +kernel
theorem dX14_isCalled_109 : decode cX14_isCalled 109 = .ok (.ifCond .eq 7, 3) := by decide +kernel
theorem dX14_isCalled_116 : decode cX14_isCalled 116 = .ok (.iconst 0, 1) := by decide +kernel
theorem dX14_isCalled_99 : decode cX14_isCalled 99 = .ok (.iload 6, 2) := by decide +kernel
theorem dX14_isCalled_101 : decode cX14_isCalled 101 = .ok (.ifCond .eq 15, 3) := by decide +kernel
theorem dX14_isCalled_104 : decode cX14_isCalled 104 = .ok (.goto 8, 3) := by decide +kernel
theorem dX14_isCalled_46 : decode cX14_isCalled 46 = .ok (.aload_n 0, 1) := by decide +kernel
theorem dX14_isCalled_47 : decode cX14_isCalled 47 = .ok (.aload_n 0, 1) := by decide +kernel
theorem dX14_isCalled_48 : decode cX14_isCalled 48 = .ok (.getfield 56, 3) := by decide +kernel
theorem dX14_isCalled_51 : decode cX14_isCalled 51 = .ok (.iload 4, 2) := by decide +kernel
theorem dX14_isCalled_53 : decode cX14_isCalled 53 = .ok (.iaload, 1) := by decide +kernel
theorem dX14_isCalled_54 : decode cX14_isCalled 54 = .ok (.invokevirtual 218, 3) := by decide +kernel
theorem dX14_isCalled_57 : decode cX14_isCalled 57 = .ok (.ifCond .ne 27, 3) := by decide +kernel
theorem dX14_isCalled_84 : decode cX14_isCalled 84 = .ok (.iconst 1, 1) := by decide +kernel
theorem dX14_isCalled_85 : decode cX14_isCalled 85 = .ok (.goto 4, 3) := by decide +kernel
theorem dX14_isCalled_60 : decode cX14_isCalled 60 = .ok (.aload_n 0, 1) := by decide +kernel
theorem dX14_isCalled_61 : decode cX14_isCalled 61 = .ok (.getfield 59, 3) := by decide +kernel
theorem dX14_isCalled_64 : decode cX14_isCalled 64 = .ok (.iload 4, 2) := by decide +kernel
theorem dX14_isCalled_66 : decode cX14_isCalled 66 = .ok (.iaload, 1) := by decide +kernel
theorem dX14_isCalled_67 : decode cX14_isCalled 67 = .ok (.ifCond .lt 21, 3) := by decide +kernel
theorem dX14_isCalled_70 : decode cX14_isCalled 70 = .ok (.aload_n 0, 1) := by decide +kernel
theorem dX14_isCalled_71 : decode cX14_isCalled 71 = .ok (.aload_n 0, 1) := by decide +kernel
theorem dX14_isCalled_72 : decode cX14_isCalled 72 = .ok (.getfield 59, 3) := by decide +kernel
theorem dX14_isCalled_75 : decode cX14_isCalled 75 = .ok (.iload 4, 2) := by decide +kernel
theorem dX14_isCalled_77 : decode cX14_isCalled 77 = .ok (.iaload, 1) := by decide +kernel
theorem dX14_isCalled_78 : decode cX14_isCalled 78 = .ok (.invokevirtual 218, 3) := by decide +kernel
theorem dX14_isCalled_81 : decode cX14_isCalled 81 = .ok (.ifCond .eq 7, 3) := by decide +kernel
theorem dX14_isCalled_25 : decode cX14_isCalled 25 = .ok (.aload_n 0, 1) := by decide +kernel
theorem dX14_isCalled_26 : decode cX14_isCalled 26 = .ok (.iload 4, 2) := by decide +kernel
theorem dX14_isCalled_28 : decode cX14_isCalled 28 = .ok (.invokevirtual 215, 3) := by decide +kernel
theorem dX14_isCalled_31 : decode cX14_isCalled 31 = .ok (.ifCond .eq 7, 3) := by decide +kernel
theorem dX14_isCalled_34 : decode cX14_isCalled 34 = .ok (.iconst 1, 1) := by decide +kernel
theorem dX14_isCalled_35 : decode cX14_isCalled 35 = .ok (.goto 4, 3) := by decide +kernel
theorem dX14_isCalled_124 : decode cX14_isCalled 124 = .ok (.iload_n 3, 1) := by decide +kernel
theorem dX14_isCalled_125 : decode cX14_isCalled 125 = .ok (.ireturn, 1) := by decide +kernel
theorem dX14_tell_0 : decode cX14_tell 0 = .ok (.aload_n 0, 1) := by decide +kernel
theorem dX14_tell_1 : decode cX14_tell 1 = .ok (.getfield 221, 3) := by decide +kernel
theorem dX14_tell_4 : decode cX14_tell 4 = .ok (.bipush 60, 2) := by decide +kernel
theorem dX14_tell_6 : decode cX14_tell 6 = .ok (.if_icmp .ne 69, 3) := by decide +kernel
theorem dX14_tell_75 : decode cX14_tell 75 = .ok (.aload_n 0, 1) := by decide +kernel
theorem dX14_tell_76 : decode cX14_tell 76 = .ok (.getfield 77, 3) := by decide +kernel
theorem dX14_tell_79 : decode cX14_tell 79 = .ok (.aload_n 0, 1) := by decide +kernel
theorem dX14_tell_80 : decode cX14_tell 80 = .ok (.getfield 221, 3) := by decide +kernel
theorem dX14_tell_83 : decode cX14_tell 83 = .ok (.aload_n 0, 1) := by decide +kernel
theorem dX14_tell_84 : decode cX14_tell 84 = .ok (.getfield 202, 3) := by decide +kernel
theorem dX14_tell_87 : decode cX14_tell 87 = .ok (.iastore, 1) := by decide +kernel
theorem dX14_tell_88 : decode cX14_tell 88 = .ok (.aload_n 0, 1) := by decide +kernel
theorem dX14_tell_89 : decode cX14_tell 89 = .ok (.getfield 80, 3) := by decide +kernel
theorem dX14_tell_92 : decode cX14_tell 92 = .ok (.aload_n 0, 1) := by decide +kernel
theorem dX14_tell_93 : decode cX14_tell 93 = .ok (.getfield 221, 3) := by decide +kernel
theorem dX14_tell_96 : decode cX14_tell 96 = .ok (.iload_n 1, 1) := by decide +kernel
theorem dX14_tell_97 : decode cX14_tell 97 = .ok (.iastore, 1) := by decide +kernel
theorem dX14_tell_98 : decode cX14_tell 98 = .ok (.aload_n 0, 1) := by decide +kernel
theorem dX14_tell_99 : decode cX14_tell 99 = .ok (.getfield 83, 3) := by decide +kernel
theorem dX14_tell_102 : decode cX14_tell 102 = .ok (.aload_n 0, 1) := by decide +kernel
theorem dX14_tell_103 : decode cX14_tell 103 = .ok (.getfield 221, 3) := by decide +kernel
theorem dX14_tell_106 : decode cX14_tell 106 = .ok (.iload_n 2, 1) := by decide +kernel
theorem dX14_tell_107 : decode cX14_tell 107 = .ok (.iastore, 1) := by decide +kernel
theorem dX14_tell_108 : decode cX14_tell 108 = .ok (.aload_n 0, 1) := by decide +kernel
theorem dX14_tell_109 : decode cX14_tell 109 = .ok (.dup, 1) := by decide +kernel
theorem dX14_tell_110 : decode cX14_tell 110 = .ok (.getfield 221, 3) := by decide +kernel
theorem dX14_tell_113 : decode cX14_tell 113 = .ok (.iconst 1, 1) := by decide +kernel
theorem dX14_tell_114 : decode cX14_tell 114 = .ok (.iadd, 1) := by decide +kernel
theorem dX14_tell_115 : decode cX14_tell 115 = .ok (.putfield 221, 3) := by decide +kernel
theorem dX14_tell_118 : decode cX14_tell 118 = .ok (.return_, 1) := by decide +kernel
theorem dX14_tell_9 : decode cX14_tell 9 = .ok (.iconst 1, 1) := by decide +kernel
theorem dX14_tell_10 : decode cX14_tell 10 = .ok (.istore_n 3, 1) := by decide +kernel
theorem dX14_tell_11 : decode cX14_tell 11 = .ok (.iload_n 3, 1) := by decide +kernel
theorem dX14_tell_12 : decode cX14_tell 12 = .ok (.bipush 60, 2) := by decide +kernel
theorem dX14_tell_14 : decode cX14_tell 14 = .ok (.if_icmp .ge 51, 3) := by decide +kernel
theorem dX14_tell_17 : decode cX14_tell 17 = .ok (.aload_n 0, 1) := by decide +kernel
theorem dX14_tell_18 : decode cX14_tell 18 = .ok (.getfield 77, 3) := by decide +kernel
theorem dX14_tell_21 : decode cX14_tell 21 = .ok (.iload_n 3, 1) := by decide +kernel
theorem dX14_tell_22 : decode cX14_tell 22 = .ok (.iconst 1, 1) := by decide +kernel
theorem dX14_tell_23 : decode cX14_tell 23 = .ok (.isub, 1) := by decide +kernel
theorem dX14_tell_24 : decode cX14_tell 24 = .ok (.aload_n 0, 1) := by decide +kernel
theorem dX14_tell_25 : decode cX14_tell 25 = .ok (.getfield 77, 3) := by decide +kernel
theorem dX14_tell_28 : decode cX14_tell 28 = .ok (.iload_n 3, 1) := by decide +kernel
theorem dX14_tell_29 : decode cX14_tell 29 = .ok (.iaload, 1) := by decide +kernel
theorem dX14_tell_30 : decode cX14_tell 30 = .ok (.iastore, 1) := by decide +kernel
theorem dX14_tell_31 : decode cX14_tell 31 = .ok (.aload_n 0, 1) := by decide +kernel
theorem dX14_tell_32 : decode cX14_tell 32 = .ok (.getfield 80, 3) := by decide +kernel
theorem dX14_tell_35 : decode cX14_tell 35 = .ok (.iload_n 3, 1) := by decide +kernel
theorem dX14_tell_36 : decode cX14_tell 36 = .ok (.iconst 1, 1) := by decide +kernel
theorem dX14_tell_37 : decode cX14_tell 37 = .ok (.isub, 1) := by decide +kernel
theorem dX14_tell_38 : decode cX14_tell 38 = .ok (.aload_n 0, 1) := by decide +kernel
theorem dX14_tell_39 : decode cX14_tell 39 = .ok (.getfield 80, 3) := by decide +kernel
theorem dX14_tell_42 : decode cX14_tell 42 = .ok (.iload_n 3, 1) := by decide +kernel
theorem dX14_tell_43 : decode cX14_tell 43 = .ok (.iaload, 1) := by decide +kernel
theorem dX14_tell_44 : decode cX14_tell 44 = .ok (.iastore, 1) := by decide +kernel
theorem dX14_tell_45 : decode cX14_tell 45 = .ok (.aload_n 0, 1) := by decide +kernel
theorem dX14_tell_46 : decode cX14_tell 46 = .ok (.getfield 83, 3) := by decide +kernel
theorem dX14_tell_49 : decode cX14_tell 49 = .ok (.iload_n 3, 1) := by decide +kernel
theorem dX14_tell_50 : decode cX14_tell 50 = .ok (.iconst 1, 1) := by decide +kernel
theorem dX14_tell_51 : decode cX14_tell 51 = .ok (.isub, 1) := by decide +kernel
theorem dX14_tell_52 : decode cX14_tell 52 = .ok (.aload_n 0, 1) := by decide +kernel
theorem dX14_tell_53 : decode cX14_tell 53 = .ok (.getfield 83, 3) := by decide +kernel
theorem dX14_tell_56 : decode cX14_tell 56 = .ok (.iload_n 3, 1) := by decide +kernel
theorem dX14_tell_57 : decode cX14_tell 57 = .ok (.iaload, 1) := by decide +kernel
theorem dX14_tell_58 : decode cX14_tell 58 = .ok (.iastore, 1) := by decide +kernel
theorem dX14_tell_59 : decode cX14_tell 59 = .ok (.iinc 3 1, 3) := by decide +kernel
theorem dX14_tell_62 : decode cX14_tell 62 = .ok (.goto (-51), 3) := by decide +kernel
theorem dX14_tell_65 : decode cX14_tell 65 = .ok (.aload_n 0, 1) := by decide +kernel
theorem dX14_tell_66 : decode cX14_tell 66 = .ok (.dup, 1) := by decide +kernel
theorem dX14_tell_67 : decode cX14_tell 67 = .ok (.getfield 221, 3) := by decide +kernel
theorem dX14_tell_70 : decode cX14_tell 70 = .ok (.iconst 1, 1) := by decide +kernel
theorem dX14_tell_71 : decode cX14_tell 71 = .ok (.isub, 1) := by decide +kernel
theorem dX14_tell_72 : decode cX14_tell 72 = .ok (.putfield 221, 3) := by decide +kernel
theorem dX14_rankedOne_0 : decode cX14_rankedOne 0 = .ok (.iconst 0, 1) := by decide +kernel
theorem dX14_rankedOne_1 : decode cX14_rankedOne 1 = .ok (.istore_n 2, 1) := by decide +kernel
theorem dX14_rankedOne_2 : decode cX14_rankedOne 2 = .ok (.iload_n 2, 1) := by decide +kernel
theorem dX14_rankedOne_3 : decode cX14_rankedOne 3 = .ok (.bipush 20, 2) := by decide +kernel
theorem dX14_rankedOne_5 : decode cX14_rankedOne 5 = .ok (.if_icmp .ge 111, 3) := by decide +kernel
theorem dX14_rankedOne_8 : decode cX14_rankedOne 8 = .ok (.iconst 0, 1) := by decide +kernel
theorem dX14_rankedOne_9 : decode cX14_rankedOne 9 = .ok (.istore_n 3, 1) := by decide +kernel
theorem dX14_rankedOne_10 : decode cX14_rankedOne 10 = .ok (.iconst 0, 1) := by decide +kernel
theorem dX14_rankedOne_11 : decode cX14_rankedOne 11 = .ok (.istore 4, 2) := by decide +kernel
theorem dX14_rankedOne_13 : decode cX14_rankedOne 13 = .ok (.iload 4, 2) := by decide +kernel
theorem dX14_rankedOne_15 : decode cX14_rankedOne 15 = .ok (.bipush 20, 2) := by decide +kernel
theorem dX14_rankedOne_17 : decode cX14_rankedOne 17 = .ok (.if_icmp .ge 77, 3) := by decide +kernel
theorem dX14_rankedOne_20 : decode cX14_rankedOne 20 = .ok (.aload_n 0, 1) := by decide +kernel
theorem dX14_rankedOne_21 : decode cX14_rankedOne 21 = .ok (.getfield 47, 3) := by decide +kernel
theorem dX14_rankedOne_24 : decode cX14_rankedOne 24 = .ok (.iload 4, 2) := by decide +kernel
theorem dX14_rankedOne_26 : decode cX14_rankedOne 26 = .ok (.iaload, 1) := by decide +kernel
theorem dX14_rankedOne_27 : decode cX14_rankedOne 27 = .ok (.aload_n 0, 1) := by decide +kernel
theorem dX14_rankedOne_28 : decode cX14_rankedOne 28 = .ok (.getfield 47, 3) := by decide +kernel
theorem dX14_rankedOne_31 : decode cX14_rankedOne 31 = .ok (.iload_n 2, 1) := by decide +kernel
theorem dX14_rankedOne_32 : decode cX14_rankedOne 32 = .ok (.iaload, 1) := by decide +kernel
theorem dX14_rankedOne_33 : decode cX14_rankedOne 33 = .ok (.if_icmp .gt 25, 3) := by decide +kernel
theorem dX14_rankedOne_58 : decode cX14_rankedOne 58 = .ok (.iconst 1, 1) := by decide +kernel
theorem dX14_rankedOne_59 : decode cX14_rankedOne 59 = .ok (.goto 4, 3) := by decide +kernel
theorem dX14_rankedOne_63 : decode cX14_rankedOne 63 = .ok (.istore 5, 2) := by decide +kernel
theorem dX14_rankedOne_65 : decode cX14_rankedOne 65 = .ok (.iload_n 3, 1) := by decide +kernel
theorem dX14_rankedOne_66 : decode cX14_rankedOne 66 = .ok (.aload_n 0, 1) := by decide +kernel
theorem dX14_rankedOne_67 : decode cX14_rankedOne 67 = .ok (.getfield 41, 3) := by decide +kernel
theorem dX14_rankedOne_70 : decode cX14_rankedOne 70 = .ok (.iload 4, 2) := by decide +kernel
theorem dX14_rankedOne_72 : decode cX14_rankedOne 72 = .ok (.baload, 1) := by decide +kernel
theorem dX14_rankedOne_73 : decode cX14_rankedOne 73 = .ok (.ifCond .eq 12, 3) := by decide +kernel
theorem dX14_rankedOne_85 : decode cX14_rankedOne 85 = .ok (.iconst 0, 1) := by decide +kernel
theorem dX14_rankedOne_86 : decode cX14_rankedOne 86 = .ok (.iadd, 1) := by decide +kernel
theorem dX14_rankedOne_87 : decode cX14_rankedOne 87 = .ok (.istore_n 3, 1) := by decide +kernel
theorem dX14_rankedOne_88 : decode cX14_rankedOne 88 = .ok (.iinc 4 1, 3) := by decide +kernel
theorem dX14_rankedOne_91 : decode cX14_rankedOne 91 = .ok (.goto (-78), 3) := by decide +kernel
theorem dX14_rankedOne_76 : decode cX14_rankedOne 76 = .ok (.iload 5, 2) := by decide +kernel
theorem dX14_rankedOne_78 : decode cX14_rankedOne 78 = .ok (.ifCond .eq 7, 3) := by decide +kernel
theorem dX14_rankedOne_81 : decode cX14_rankedOne 81 = .ok (.iconst 1, 1) := by decide +kernel
theorem dX14_rankedOne_82 : decode cX14_rankedOne 82 = .ok (.goto 4, 3) := by decide +kernel
theorem dX14_rankedOne_36 : decode cX14_rankedOne 36 = .ok (.aload_n 0, 1) := by decide +kernel
theorem dX14_rankedOne_37 : decode cX14_rankedOne 37 = .ok (.getfield 47, 3) := by decide +kernel
theorem dX14_rankedOne_40 : decode cX14_rankedOne 40 = .ok (.iload 4, 2) := by decide +kernel
theorem dX14_rankedOne_42 : decode cX14_rankedOne 42 = .ok (.iaload, 1) := by decide +kernel
theorem dX14_rankedOne_43 : decode cX14_rankedOne 43 = .ok (.aload_n 0, 1) := by decide +kernel
theorem dX14_rankedOne_44 : decode cX14_rankedOne 44 = .ok (.getfield 47, 3) := by decide +kernel
theorem dX14_rankedOne_47 : decode cX14_rankedOne 47 = .ok (.iload_n 2, 1) := by decide +kernel
theorem dX14_rankedOne_48 : decode cX14_rankedOne 48 = .ok (.iaload, 1) := by decide +kernel
theorem dX14_rankedOne_49 : decode cX14_rankedOne 49 = .ok (.if_icmp .ne 13, 3) := by decide +kernel
theorem dX14_rankedOne_62 : decode cX14_rankedOne 62 = .ok (.iconst 0, 1) := by decide +kernel
theorem dX14_rankedOne_52 : decode cX14_rankedOne 52 = .ok (.iload 4, 2) := by decide +kernel
theorem dX14_rankedOne_54 : decode cX14_rankedOne 54 = .ok (.iload_n 2, 1) := by decide +kernel
theorem dX14_rankedOne_55 : decode cX14_rankedOne 55 = .ok (.if_icmp .ge 7, 3) := by decide +kernel
theorem dX14_rankedOne_94 : decode cX14_rankedOne 94 = .ok (.aload_n 0, 1) := by decide +kernel
theorem dX14_rankedOne_95 : decode cX14_rankedOne 95 = .ok (.getfield 41, 3) := by decide +kernel
theorem dX14_rankedOne_98 : decode cX14_rankedOne 98 = .ok (.iload_n 2, 1) := by decide +kernel
theorem dX14_rankedOne_99 : decode cX14_rankedOne 99 = .ok (.baload, 1) := by decide +kernel
theorem dX14_rankedOne_100 : decode cX14_rankedOne 100 = .ok (.ifCond .eq 10, 3) := by decide +kernel
theorem dX14_rankedOne_110 : decode cX14_rankedOne 110 = .ok (.iinc 2 1, 3) := by decide +kernel
theorem dX14_rankedOne_113 : decode cX14_rankedOne 113 = .ok (.goto (-111), 3) := by decide +kernel
theorem dX14_rankedOne_103 : decode cX14_rankedOne 103 = .ok (.iload_n 3, 1) := by decide +kernel
theorem dX14_rankedOne_104 : decode cX14_rankedOne 104 = .ok (.iload_n 1, 1) := by decide +kernel
theorem dX14_rankedOne_105 : decode cX14_rankedOne 105 = .ok (.if_icmp .ne 5, 3) := by decide +kernel
theorem dX14_rankedOne_108 : decode cX14_rankedOne 108 = .ok (.iload_n 2, 1) := by decide +kernel
theorem dX14_rankedOne_109 : decode cX14_rankedOne 109 = .ok (.ireturn, 1) := by decide +kernel
theorem dX14_rankedOne_116 : decode cX14_rankedOne 116 = .ok (.iconst (-1), 1) := by decide +kernel
theorem dX14_rankedOne_117 : decode cX14_rankedOne 117 = .ok (.ireturn, 1) := by decide +kernel
theorem dX14_go_0 : decode cX14_go 0 = .ok (.aload_n 0, 1) := by decide +kernel
theorem dX14_go_1 : decode cX14_go 1 = .ok (.iload_n 1, 1) := by decide +kernel
theorem dX14_go_2 : decode cX14_go 2 = .ok (.iconst 0, 1) := by decide +kernel
theorem dX14_go_3 : decode cX14_go 3 = .ok (.invokevirtual 224, 3) := by decide +kernel
theorem dX14_go_6 : decode cX14_go 6 = .ok (.ifCond .ne 67, 3) := by decide +kernel
theorem dX14_go_73 : decode cX14_go 73 = .ok (.aload_n 0, 1) := by decide +kernel
theorem dX14_go_74 : decode cX14_go 74 = .ok (.getfield 65, 3) := by decide +kernel
theorem dX14_go_77 : decode cX14_go 77 = .ok (.iload_n 1, 1) := by decide +kernel
theorem dX14_go_78 : decode cX14_go 78 = .ok (.iaload, 1) := by decide +kernel
theorem dX14_go_79 : decode cX14_go 79 = .ok (.iconst 2, 1) := by decide +kernel
theorem dX14_go_80 : decode cX14_go 80 = .ok (.if_icmp .ne 5, 3) := by decide +kernel
theorem dX14_go_85 : decode cX14_go 85 = .ok (.aload_n 0, 1) := by decide +kernel
theorem dX14_go_86 : decode cX14_go 86 = .ok (.getfield 65, 3) := by decide +kernel
theorem dX14_go_89 : decode cX14_go 89 = .ok (.iload_n 1, 1) := by decide +kernel
theorem dX14_go_90 : decode cX14_go 90 = .ok (.iaload, 1) := by decide +kernel
theorem dX14_go_91 : decode cX14_go 91 = .ok (.ifCond .ne 20, 3) := by decide +kernel
theorem dX14_go_111 : decode cX14_go 111 = .ok (.aload_n 0, 1) := by decide +kernel
theorem dX14_go_112 : decode cX14_go 112 = .ok (.getfield 202, 3) := by decide +kernel
theorem dX14_go_115 : decode cX14_go 115 = .ok (.aload_n 0, 1) := by decide +kernel
theorem dX14_go_116 : decode cX14_go 116 = .ok (.getfield 68, 3) := by decide +kernel
theorem dX14_go_119 : decode cX14_go 119 = .ok (.iload_n 1, 1) := by decide +kernel
theorem dX14_go_120 : decode cX14_go 120 = .ok (.iaload, 1) := by decide +kernel
theorem dX14_go_121 : decode cX14_go 121 = .ok (.aload_n 0, 1) := by decide +kernel
theorem dX14_go_122 : decode cX14_go 122 = .ok (.getfield 50, 3) := by decide +kernel
theorem dX14_go_125 : decode cX14_go 125 = .ok (.iload_n 1, 1) := by decide +kernel
theorem dX14_go_126 : decode cX14_go 126 = .ok (.iaload, 1) := by decide +kernel
theorem dX14_go_127 : decode cX14_go 127 = .ok (.iadd, 1) := by decide +kernel
theorem dX14_go_128 : decode cX14_go 128 = .ok (.if_icmp .ge 23, 3) := by decide +kernel
theorem dX14_go_151 : decode cX14_go 151 = .ok (.aload_n 0, 1) := by decide +kernel
theorem dX14_go_152 : decode cX14_go 152 = .ok (.iload_n 1, 1) := by decide +kernel
theorem dX14_go_153 : decode cX14_go 153 = .ok (.invokevirtual 199, 3) := by decide +kernel
theorem dX14_go_156 : decode cX14_go 156 = .ok (.aload_n 0, 1) := by decide +kernel
theorem dX14_go_157 : decode cX14_go 157 = .ok (.getfield 65, 3) := by decide +kernel
theorem dX14_go_160 : decode cX14_go 160 = .ok (.iload_n 1, 1) := by decide +kernel
theorem dX14_go_161 : decode cX14_go 161 = .ok (.iconst 2, 1) := by decide +kernel
theorem dX14_go_162 : decode cX14_go 162 = .ok (.iastore, 1) := by decide +kernel
theorem dX14_go_163 : decode cX14_go 163 = .ok (.aload_n 0, 1) := by decide +kernel
theorem dX14_go_164 : decode cX14_go 164 = .ok (.iload_n 1, 1) := by decide +kernel
theorem dX14_go_165 : decode cX14_go 165 = .ok (.iconst 1, 1) := by decide +kernel
theorem dX14_go_166 : decode cX14_go 166 = .ok (.invokevirtual 228, 3) := by decide +kernel
theorem dX14_go_169 : decode cX14_go 169 = .ok (.iconst 1, 1) := by decide +kernel
theorem dX14_go_170 : decode cX14_go 170 = .ok (.ireturn, 1) := by decide +kernel
theorem dX14_go_131 : decode cX14_go 131 = .ok (.aload_n 0, 1) := by decide +kernel
theorem dX14_go_132 : decode cX14_go 132 = .ok (.getfield 74, 3) := by decide +kernel
theorem dX14_go_135 : decode cX14_go 135 = .ok (.iload_n 1, 1) := by decide +kernel
theorem dX14_go_136 : decode cX14_go 136 = .ok (.baload, 1) := by decide +kernel
theorem dX14_go_137 : decode cX14_go 137 = .ok (.ifCond .ne 14, 3) := by decide +kernel
theorem dX14_go_140 : decode cX14_go 140 = .ok (.aload_n 0, 1) := by decide +kernel
theorem dX14_go_141 : decode cX14_go 141 = .ok (.iload_n 1, 1) := by decide +kernel
theorem dX14_go_142 : decode cX14_go 142 = .ok (.iconst 1, 1) := by decide +kernel
theorem dX14_go_143 : decode cX14_go 143 = .ok (.invokevirtual 224, 3) := by decide +kernel
theorem dX14_go_146 : decode cX14_go 146 = .ok (.ifCond .ne 5, 3) := by decide +kernel
theorem dX14_go_149 : decode cX14_go 149 = .ok (.iconst (-1), 1) := by decide +kernel
theorem dX14_go_150 : decode cX14_go 150 = .ok (.ireturn, 1) := by decide +kernel
theorem dX14_go_94 : decode cX14_go 94 = .ok (.aload_n 0, 1) := by decide +kernel
theorem dX14_go_95 : decode cX14_go 95 = .ok (.getfield 65, 3) := by decide +kernel
theorem dX14_go_98 : decode cX14_go 98 = .ok (.iload_n 1, 1) := by decide +kernel
theorem dX14_go_99 : decode cX14_go 99 = .ok (.iconst 1, 1) := by decide +kernel
theorem dX14_go_100 : decode cX14_go 100 = .ok (.iastore, 1) := by decide +kernel
theorem dX14_go_101 : decode cX14_go 101 = .ok (.aload_n 0, 1) := by decide +kernel
theorem dX14_go_102 : decode cX14_go 102 = .ok (.getfield 68, 3) := by decide +kernel
theorem dX14_go_105 : decode cX14_go 105 = .ok (.iload_n 1, 1) := by decide +kernel
theorem dX14_go_106 : decode cX14_go 106 = .ok (.aload_n 0, 1) := by decide +kernel
theorem dX14_go_107 : decode cX14_go 107 = .ok (.getfield 202, 3) := by decide +kernel
theorem dX14_go_110 : decode cX14_go 110 = .ok (.iastore, 1) := by decide +kernel
theorem dX14_go_83 : decode cX14_go 83 = .ok (.iconst (-1), 1) := by decide +kernel
theorem dX14_go_84 : decode cX14_go 84 = .ok (.ireturn, 1) := by decide +kernel
theorem dX14_go_9 : decode cX14_go 9 = .ok (.aload_n 0, 1) := by decide +kernel
theorem dX14_go_10 : decode cX14_go 10 = .ok (.getfield 65, 3) := by decide +kernel
theorem dX14_go_13 : decode cX14_go 13 = .ok (.iload_n 1, 1) := by decide +kernel
theorem dX14_go_14 : decode cX14_go 14 = .ok (.iaload, 1) := by decide +kernel
theorem dX14_go_15 : decode cX14_go 15 = .ok (.iconst 2, 1) := by decide +kernel
theorem dX14_go_16 : decode cX14_go 16 = .ok (.if_icmp .ne 16, 3) := by decide +kernel
theorem dX14_go_32 : decode cX14_go 32 = .ok (.iconst 0, 1) := by decide +kernel
theorem dX14_go_33 : decode cX14_go 33 = .ok (.istore_n 2, 1) := by decide +kernel
theorem dX14_go_34 : decode cX14_go 34 = .ok (.iload_n 2, 1) := by decide +kernel
theorem dX14_go_35 : decode cX14_go 35 = .ok (.ifCond .eq 9, 3) := by decide +kernel
theorem dX14_go_44 : decode cX14_go 44 = .ok (.iload_n 2, 1) := by decide +kernel
theorem dX14_go_45 : decode cX14_go 45 = .ok (.ifCond .ne 13, 3) := by decide +kernel
theorem dX14_go_58 : decode cX14_go 58 = .ok (.aload_n 0, 1) := by decide +kernel
theorem dX14_go_59 : decode cX14_go 59 = .ok (.iload_n 1, 1) := by decide +kernel
theorem dX14_go_60 : decode cX14_go 60 = .ok (.invokevirtual 199, 3) := by decide +kernel
theorem dX14_go_63 : decode cX14_go 63 = .ok (.iload_n 2, 1) := by decide +kernel
theorem dX14_go_64 : decode cX14_go 64 = .ok (.ifCond .eq 7, 3) := by decide +kernel
theorem dX14_go_71 : decode cX14_go 71 = .ok (.iconst (-1), 1) := by decide +kernel
theorem dX14_go_72 : decode cX14_go 72 = .ok (.ireturn, 1) := by decide +kernel
theorem dX14_go_67 : decode cX14_go 67 = .ok (.iconst 0, 1) := by decide +kernel
theorem dX14_go_68 : decode cX14_go 68 = .ok (.goto 4, 3) := by decide +kernel
theorem dX14_go_48 : decode cX14_go 48 = .ok (.aload_n 0, 1) := by decide +kernel
theorem dX14_go_49 : decode cX14_go 49 = .ok (.getfield 65, 3) := by decide +kernel
theorem dX14_go_52 : decode cX14_go 52 = .ok (.iload_n 1, 1) := by decide +kernel
theorem dX14_go_53 : decode cX14_go 53 = .ok (.iaload, 1) := by decide +kernel
theorem dX14_go_54 : decode cX14_go 54 = .ok (.iconst 1, 1) := by decide +kernel
theorem dX14_go_55 : decode cX14_go 55 = .ok (.if_icmp .ne 8, 3) := by decide +kernel
theorem dX14_go_38 : decode cX14_go 38 = .ok (.aload_n 0, 1) := by decide +kernel
theorem dX14_go_39 : decode cX14_go 39 = .ok (.iload_n 1, 1) := by decide +kernel
theorem dX14_go_40 : decode cX14_go 40 = .ok (.iconst 0, 1) := by decide +kernel
theorem dX14_go_41 : decode cX14_go 41 = .ok (.invokevirtual 228, 3) := by decide +kernel
theorem dX14_go_19 : decode cX14_go 19 = .ok (.aload_n 0, 1) := by decide +kernel
theorem dX14_go_20 : decode cX14_go 20 = .ok (.getfield 53, 3) := by decide +kernel
theorem dX14_go_23 : decode cX14_go 23 = .ok (.iload_n 1, 1) := by decide +kernel
theorem dX14_go_24 : decode cX14_go 24 = .ok (.baload, 1) := by decide +kernel
theorem dX14_go_25 : decode cX14_go 25 = .ok (.ifCond .ne 7, 3) := by decide +kernel
theorem dX14_go_28 : decode cX14_go 28 = .ok (.iconst 1, 1) := by decide +kernel
theorem dX14_go_29 : decode cX14_go 29 = .ok (.goto 4, 3) := by decide +kernel
theorem dX14_resets_0 : decode cX14_resets 0 = .ok (.aload_n 0, 1) := by decide +kernel
theorem dX14_resets_1 : decode cX14_resets 1 = .ok (.getfield 53, 3) := by decide +kernel
theorem dX14_resets_4 : decode cX14_resets 4 = .ok (.iload_n 1, 1) := by decide +kernel
theorem dX14_resets_5 : decode cX14_resets 5 = .ok (.baload, 1) := by decide +kernel
theorem dX14_resets_6 : decode cX14_resets 6 = .ok (.ifCond .eq 22, 3) := by decide +kernel
theorem dX14_resets_28 : decode cX14_resets 28 = .ok (.iconst 0, 1) := by decide +kernel
theorem dX14_resets_29 : decode cX14_resets 29 = .ok (.ireturn, 1) := by decide +kernel
theorem dX14_resets_9 : decode cX14_resets 9 = .ok (.aload_n 0, 1) := by decide +kernel
theorem dX14_resets_10 : decode cX14_resets 10 = .ok (.getfield 65, 3) := by decide +kernel
theorem dX14_resets_13 : decode cX14_resets 13 = .ok (.iload_n 1, 1) := by decide +kernel
theorem dX14_resets_14 : decode cX14_resets 14 = .ok (.iaload, 1) := by decide +kernel
theorem dX14_resets_15 : decode cX14_resets 15 = .ok (.iconst 2, 1) := by decide +kernel
theorem dX14_resets_16 : decode cX14_resets 16 = .ok (.if_icmp .ne 12, 3) := by decide +kernel
theorem dX14_resets_19 : decode cX14_resets 19 = .ok (.aload_n 0, 1) := by decide +kernel
theorem dX14_resets_20 : decode cX14_resets 20 = .ok (.iload_n 1, 1) := by decide +kernel
theorem dX14_resets_21 : decode cX14_resets 21 = .ok (.iconst 0, 1) := by decide +kernel
theorem dX14_resets_22 : decode cX14_resets 22 = .ok (.invokevirtual 224, 3) := by decide +kernel
theorem dX14_resets_25 : decode cX14_resets 25 = .ok (.ifCond .eq 5, 3) := by decide +kernel
theorem dX14_resets_30 : decode cX14_resets 30 = .ok (.aload_n 0, 1) := by decide +kernel
theorem dX14_resets_31 : decode cX14_resets 31 = .ok (.iload_n 1, 1) := by decide +kernel
theorem dX14_resets_32 : decode cX14_resets 32 = .ok (.invokevirtual 199, 3) := by decide +kernel
theorem dX14_resets_35 : decode cX14_resets 35 = .ok (.aload_n 0, 1) := by decide +kernel
theorem dX14_resets_36 : decode cX14_resets 36 = .ok (.iload_n 1, 1) := by decide +kernel
theorem dX14_resets_37 : decode cX14_resets 37 = .ok (.iconst 0, 1) := by decide +kernel
theorem dX14_resets_38 : decode cX14_resets 38 = .ok (.invokevirtual 228, 3) := by decide +kernel
theorem dX14_resets_41 : decode cX14_resets 41 = .ok (.iconst 1, 1) := by decide +kernel
theorem dX14_resets_42 : decode cX14_resets 42 = .ok (.ireturn, 1) := by decide +kernel
theorem dX14_attend_0 : decode cX14_attend 0 = .ok (.iconst 0, 1) := by decide +kernel
theorem dX14_attend_1 : decode cX14_attend 1 = .ok (.istore_n 2, 1) := by decide +kernel
theorem dX14_attend_2 : decode cX14_attend 2 = .ok (.iconst 0, 1) := by decide +kernel
theorem dX14_attend_3 : decode cX14_attend 3 = .ok (.istore_n 3, 1) := by decide +kernel
theorem dX14_attend_4 : decode cX14_attend 4 = .ok (.iload_n 3, 1) := by decide +kernel
theorem dX14_attend_5 : decode cX14_attend 5 = .ok (.bipush 20, 2) := by decide +kernel
theorem dX14_attend_7 : decode cX14_attend 7 = .ok (.if_icmp .ge 114, 3) := by decide +kernel
theorem dX14_attend_10 : decode cX14_attend 10 = .ok (.aload_n 0, 1) := by decide +kernel
theorem dX14_attend_11 : decode cX14_attend 11 = .ok (.getfield 41, 3) := by decide +kernel
theorem dX14_attend_14 : decode cX14_attend 14 = .ok (.iload_n 3, 1) := by decide +kernel
theorem dX14_attend_15 : decode cX14_attend 15 = .ok (.baload, 1) := by decide +kernel
theorem dX14_attend_16 : decode cX14_attend 16 = .ok (.ifCond .eq 42, 3) := by decide +kernel
theorem dX14_attend_58 : decode cX14_attend 58 = .ok (.iconst 0, 1) := by decide +kernel
theorem dX14_attend_59 : decode cX14_attend 59 = .ok (.istore 4, 2) := by decide +kernel
theorem dX14_attend_61 : decode cX14_attend 61 = .ok (.iload 4, 2) := by decide +kernel
theorem dX14_attend_63 : decode cX14_attend 63 = .ok (.ifCond .eq 27, 3) := by decide +kernel
theorem dX14_attend_90 : decode cX14_attend 90 = .ok (.iload 4, 2) := by decide +kernel
theorem dX14_attend_92 : decode cX14_attend 92 = .ok (.ifCond .eq 10, 3) := by decide +kernel
theorem dX14_attend_102 : decode cX14_attend 102 = .ok (.iload_n 2, 1) := by decide +kernel
theorem dX14_attend_103 : decode cX14_attend 103 = .ok (.iload 4, 2) := by decide +kernel
theorem dX14_attend_105 : decode cX14_attend 105 = .ok (.ifCond .eq 7, 3) := by decide +kernel
theorem dX14_attend_112 : decode cX14_attend 112 = .ok (.iconst 0, 1) := by decide +kernel
theorem dX14_attend_113 : decode cX14_attend 113 = .ok (.iadd, 1) := by decide +kernel
theorem dX14_attend_114 : decode cX14_attend 114 = .ok (.istore_n 2, 1) := by decide +kernel
theorem dX14_attend_115 : decode cX14_attend 115 = .ok (.iinc 3 1, 3) := by decide +kernel
theorem dX14_attend_118 : decode cX14_attend 118 = .ok (.goto (-114), 3) := by decide +kernel
theorem dX14_attend_108 : decode cX14_attend 108 = .ok (.iconst 1, 1) := by decide +kernel
theorem dX14_attend_109 : decode cX14_attend 109 = .ok (.goto 4, 3) := by decide +kernel
theorem dX14_attend_95 : decode cX14_attend 95 = .ok (.aload_n 0, 1) := by decide +kernel
theorem dX14_attend_96 : decode cX14_attend 96 = .ok (.getfield 74, 3) := by decide +kernel
theorem dX14_attend_99 : decode cX14_attend 99 = .ok (.iload_n 3, 1) := by decide +kernel
theorem dX14_attend_100 : decode cX14_attend 100 = .ok (.iconst 1, 1) := by decide +kernel
theorem dX14_attend_101 : decode cX14_attend 101 = .ok (.bastore, 1) := by decide +kernel
theorem dX14_attend_66 : decode cX14_attend 66 = .ok (.iload_n 1, 1) := by decide +kernel
theorem dX14_attend_67 : decode cX14_attend 67 = .ok (.ifCond .ne 23, 3) := by decide +kernel
theorem dX14_attend_70 : decode cX14_attend 70 = .ok (.aload_n 0, 1) := by decide +kernel
theorem dX14_attend_71 : decode cX14_attend 71 = .ok (.getfield 68, 3) := by decide +kernel
theorem dX14_attend_74 : decode cX14_attend 74 = .ok (.iload_n 3, 1) := by decide +kernel
theorem dX14_attend_75 : decode cX14_attend 75 = .ok (.aload_n 0, 1) := by decide +kernel
theorem dX14_attend_76 : decode cX14_attend 76 = .ok (.getfield 202, 3) := by decide +kernel
theorem dX14_attend_79 : decode cX14_attend 79 = .ok (.iastore, 1) := by decide +kernel
theorem dX14_attend_80 : decode cX14_attend 80 = .ok (.aload_n 0, 1) := by decide +kernel
theorem dX14_attend_81 : decode cX14_attend 81 = .ok (.getfield 71, 3) := by decide +kernel
theorem dX14_attend_84 : decode cX14_attend 84 = .ok (.iload_n 3, 1) := by decide +kernel
theorem dX14_attend_85 : decode cX14_attend 85 = .ok (.iconst 1, 1) := by decide +kernel
theorem dX14_attend_86 : decode cX14_attend 86 = .ok (.bastore, 1) := by decide +kernel
theorem dX14_attend_87 : decode cX14_attend 87 = .ok (.goto 15, 3) := by decide +kernel
theorem dX14_attend_19 : decode cX14_attend 19 = .ok (.aload_n 0, 1) := by decide +kernel
theorem dX14_attend_20 : decode cX14_attend 20 = .ok (.getfield 65, 3) := by decide +kernel
theorem dX14_attend_23 : decode cX14_attend 23 = .ok (.iload_n 3, 1) := by decide +kernel
theorem dX14_attend_24 : decode cX14_attend 24 = .ok (.iaload, 1) := by decide +kernel
theorem dX14_attend_25 : decode cX14_attend 25 = .ok (.iconst 1, 1) := by decide +kernel
theorem dX14_attend_26 : decode cX14_attend 26 = .ok (.if_icmp .ne 32, 3) := by decide +kernel
theorem dX14_attend_29 : decode cX14_attend 29 = .ok (.iload_n 1, 1) := by decide +kernel
theorem dX14_attend_30 : decode cX14_attend 30 = .ok (.ifCond .ne 15, 3) := by decide +kernel
theorem dX14_attend_45 : decode cX14_attend 45 = .ok (.aload_n 0, 1) := by decide +kernel
theorem dX14_attend_46 : decode cX14_attend 46 = .ok (.getfield 74, 3) := by decide +kernel
theorem dX14_attend_49 : decode cX14_attend 49 = .ok (.iload_n 3, 1) := by decide +kernel
theorem dX14_attend_50 : decode cX14_attend 50 = .ok (.baload, 1) := by decide +kernel
theorem dX14_attend_51 : decode cX14_attend 51 = .ok (.ifCond .ne 7, 3) := by decide +kernel
theorem dX14_attend_54 : decode cX14_attend 54 = .ok (.iconst 1, 1) := by decide +kernel
theorem dX14_attend_55 : decode cX14_attend 55 = .ok (.goto 4, 3) := by decide +kernel
theorem dX14_attend_33 : decode cX14_attend 33 = .ok (.aload_n 0, 1) := by decide +kernel
theorem dX14_attend_34 : decode cX14_attend 34 = .ok (.getfield 71, 3) := by decide +kernel
theorem dX14_attend_37 : decode cX14_attend 37 = .ok (.iload_n 3, 1) := by decide +kernel
theorem dX14_attend_38 : decode cX14_attend 38 = .ok (.baload, 1) := by decide +kernel
theorem dX14_attend_39 : decode cX14_attend 39 = .ok (.ifCond .eq 15, 3) := by decide +kernel
theorem dX14_attend_42 : decode cX14_attend 42 = .ok (.goto 16, 3) := by decide +kernel
theorem dX14_attend_121 : decode cX14_attend 121 = .ok (.iload_n 2, 1) := by decide +kernel
theorem dX14_attend_122 : decode cX14_attend 122 = .ok (.ireturn, 1) := by decide +kernel
theorem zl_X14_149 : zm_L zk_E RX14 149 yX14_look (.code yX14_look cX14_look 6 (some .int)) 2 ∧ Cond.instanceMethod yX14_look ∈ zk_E.2.2.1 ∧ Cond.selects yX14_look.cls yX14_look yX14_look ∈ zk_E.2.2.1 := ⟨⟨zk_b19 171 (by decide +kernel) rfl, zk_b1 16 (by decide +kernel) rfl, zk_b19 168 (by decide +kernel) rfl, by decide +kernel, by decide +kernel, by decide +kernel⟩, zk_b19 170 (by decide +kernel) rfl, zk_s16 (q := (yX14_look, 36)) 3 (by decide +kernel)⟩
theorem zl_X14_35 : zm_F zk_E RX14 35 14 14 := ⟨RX14, TX14, 36, rfl, zk_i14, by decide, zk_b14 136 (by decide +kernel) rfl⟩
theorem zl_X14_38 : zm_F zk_E RX14 38 14 15 := ⟨RX14, TX14, 36, rfl, zk_i14, by decide, zk_b14 137 (by decide +kernel) rfl⟩
theorem zl_X14_29 : zm_F zk_E RX14 29 14 12 := ⟨RX14, TX14, 36, rfl, zk_i14, by decide, zk_b14 132 (by decide +kernel) rfl⟩
theorem zl_X14_153 : zm_L zk_E RX14 153 yX14_take (.code yX14_take cX14_take 2 none) 1 ∧ Cond.instanceMethod yX14_take ∈ zk_E.2.2.1 ∧ Cond.selects yX14_take.cls yX14_take yX14_take ∈ zk_E.2.2.1 := ⟨⟨zk_b19 179 (by decide +kernel) rfl, zk_b1 16 (by decide +kernel) rfl, zk_b19 176 (by decide +kernel) rfl, by decide +kernel, by decide +kernel, by decide +kernel⟩, zk_b19 178 (by decide +kernel) rfl, zk_s16 (q := (yX14_take, 36)) 5 (by decide +kernel)⟩
theorem zl_X14_156 : zm_L zk_E RX14 156 yX14_takeNumber (.code yX14_takeNumber cX14_takeNumber 4 (some .int)) 2 ∧ Cond.instanceMethod yX14_takeNumber ∈ zk_E.2.2.1 ∧ Cond.selects yX14_takeNumber.cls yX14_takeNumber yX14_takeNumber ∈ zk_E.2.2.1 := ⟨⟨zk_b19 183 (by decide +kernel) rfl, zk_b1 16 (by decide +kernel) rfl, zk_b19 180 (by decide +kernel) rfl, by decide +kernel, by decide +kernel, by decide +kernel⟩, zk_b19 182 (by decide +kernel) rfl, zk_s16 (q := (yX14_takeNumber, 36)) 6 (by decide +kernel)⟩
theorem zl_X14_159 : zm_F zk_E RX14 159 14 0 := ⟨RX14, TX14, 36, rfl, zk_i14, by decide, zk_b14 114 (by decide +kernel) rfl⟩
theorem zl_X14_162 : zm_L zk_E RX14 162 yX14_has (.code yX14_has cX14_has 5 (some .boolean)) 2 ∧ Cond.instanceMethod yX14_has ∈ zk_E.2.2.1 ∧ Cond.selects yX14_has.cls yX14_has yX14_has ∈ zk_E.2.2.1 := ⟨⟨zk_b19 187 (by decide +kernel) rfl, zk_b1 16 (by decide +kernel) rfl, zk_b19 184 (by decide +kernel) rfl, by decide +kernel, by decide +kernel, by decide +kernel⟩, zk_b19 186 (by decide +kernel) rfl, zk_s16 (q := (yX14_has, 36)) 7 (by decide +kernel)⟩
theorem zl_X14_32 : zm_F zk_E RX14 32 14 13 := ⟨RX14, TX14, 36, rfl, zk_i14, by decide, zk_b14 134 (by decide +kernel) rfl⟩
theorem zl_X14_41 : zm_F zk_E RX14 41 14 16 := ⟨RX14, TX14, 36, rfl, zk_i14, by decide, zk_b14 138 (by decide +kernel) rfl⟩
theorem zl_X14_44 : zm_F zk_E RX14 44 14 17 := ⟨RX14, TX14, 36, rfl, zk_i14, by decide, zk_b14 140 (by decide +kernel) rfl⟩
theorem zl_X14_47 : zm_F zk_E RX14 47 14 18 := ⟨RX14, TX14, 36, rfl, zk_i14, by decide, zk_b14 142 (by decide +kernel) rfl⟩
theorem zl_X14_50 : zm_F zk_E RX14 50 14 19 := ⟨RX14, TX14, 36, rfl, zk_i14, by decide, zk_b14 143 (by decide +kernel) rfl⟩
theorem zl_X14_166 : zm_L zk_E RX14 166 yX14_takeStop (.code yX14_takeStop cX14_takeStop 1 none) 0 ∧ Cond.instanceMethod yX14_takeStop ∈ zk_E.2.2.1 ∧ Cond.selects yX14_takeStop.cls yX14_takeStop yX14_takeStop ∈ zk_E.2.2.1 := ⟨⟨zk_b19 199 (by decide +kernel) rfl, zk_b1 16 (by decide +kernel) rfl, zk_b19 196 (by decide +kernel) rfl, by decide +kernel, by decide +kernel, by decide +kernel⟩, zk_b19 198 (by decide +kernel) rfl, zk_s16 (q := (yX14_takeStop, 36)) 10 (by decide +kernel)⟩
theorem zl_X14_53 : zm_F zk_E RX14 53 14 20 := ⟨RX14, TX14, 36, rfl, zk_i14, by decide, zk_b14 144 (by decide +kernel) rfl⟩
theorem zl_X14_169 : zm_L zk_E RX14 169 yX14_takeZone (.code yX14_takeZone cX14_takeZone 3 (some .int)) 1 ∧ Cond.instanceMethod yX14_takeZone ∈ zk_E.2.2.1 ∧ Cond.selects yX14_takeZone.cls yX14_takeZone yX14_takeZone ∈ zk_E.2.2.1 := ⟨⟨zk_b19 207 (by decide +kernel) rfl, zk_b1 16 (by decide +kernel) rfl, zk_b19 204 (by decide +kernel) rfl, by decide +kernel, by decide +kernel, by decide +kernel⟩, zk_b19 206 (by decide +kernel) rfl, zk_s16 (q := (yX14_takeZone, 36)) 12 (by decide +kernel)⟩
theorem zl_X14_56 : zm_F zk_E RX14 56 14 23 := ⟨RX14, TX14, 36, rfl, zk_i14, by decide, zk_b14 147 (by decide +kernel) rfl⟩
theorem zl_X14_172 : zm_F zk_E RX14 172 14 22 := ⟨RX14, TX14, 36, rfl, zk_i14, by decide, zk_b14 146 (by decide +kernel) rfl⟩
theorem zl_X14_59 : zm_F zk_E RX14 59 14 24 := ⟨RX14, TX14, 36, rfl, zk_i14, by decide, zk_b14 148 (by decide +kernel) rfl⟩
theorem zl_X14_62 : zm_F zk_E RX14 62 14 25 := ⟨RX14, TX14, 36, rfl, zk_i14, by decide, zk_b14 149 (by decide +kernel) rfl⟩
theorem zt_14_22 : zm_T zk_E RX14 14 22 .int false := ⟨RX14, TX14, 36, tyX14, rfl, tyX14_ok, nmX14, rfl, rfl, rfl⟩
theorem zl_X14_184 : zm_L zk_E RX14 184 yX14_readHold (.code yX14_readHold cX14_readHold 2 none) 0 ∧ Cond.instanceMethod yX14_readHold ∈ zk_E.2.2.1 ∧ Cond.selects yX14_readHold.cls yX14_readHold yX14_readHold ∈ zk_E.2.2.1 := ⟨⟨zk_b19 211 (by decide +kernel) rfl, zk_b1 16 (by decide +kernel) rfl, zk_b19 208 (by decide +kernel) rfl, by decide +kernel, by decide +kernel, by decide +kernel⟩, zk_b19 210 (by decide +kernel) rfl, zk_s16 (q := (yX14_readHold, 36)) 13 (by decide +kernel)⟩
theorem zl_X14_181 : zm_L zk_E RX14 181 yX14_readRow (.code yX14_readRow cX14_readRow 4 none) 0 ∧ Cond.instanceMethod yX14_readRow ∈ zk_E.2.2.1 ∧ Cond.selects yX14_readRow.cls yX14_readRow yX14_readRow ∈ zk_E.2.2.1 := ⟨⟨zk_b19 203 (by decide +kernel) rfl, zk_b1 16 (by decide +kernel) rfl, zk_b19 200 (by decide +kernel) rfl, by decide +kernel, by decide +kernel, by decide +kernel⟩, zk_b19 202 (by decide +kernel) rfl, zk_s16 (q := (yX14_readRow, 36)) 11 (by decide +kernel)⟩
theorem zl_X14_178 : zm_L zk_E RX14 178 yX14_readAct (.code yX14_readAct cX14_readAct 2 none) 0 ∧ Cond.instanceMethod yX14_readAct ∈ zk_E.2.2.1 ∧ Cond.selects yX14_readAct.cls yX14_readAct yX14_readAct ∈ zk_E.2.2.1 := ⟨⟨zk_b19 195 (by decide +kernel) rfl, zk_b1 16 (by decide +kernel) rfl, zk_b19 192 (by decide +kernel) rfl, by decide +kernel, by decide +kernel, by decide +kernel⟩, zk_b19 194 (by decide +kernel) rfl, zk_s16 (q := (yX14_readAct, 36)) 9 (by decide +kernel)⟩
theorem zl_X14_175 : zm_L zk_E RX14 175 yX14_readZone (.code yX14_readZone cX14_readZone 6 none) 0 ∧ Cond.instanceMethod yX14_readZone ∈ zk_E.2.2.1 ∧ Cond.selects yX14_readZone.cls yX14_readZone yX14_readZone ∈ zk_E.2.2.1 := ⟨⟨zk_b19 167 (by decide +kernel) rfl, zk_b1 16 (by decide +kernel) rfl, zk_b19 164 (by decide +kernel) rfl, by decide +kernel, by decide +kernel, by decide +kernel⟩, zk_b19 166 (by decide +kernel) rfl, zk_s16 (q := (yX14_readZone, 36)) 2 (by decide +kernel)⟩
theorem zl_X14_65 : zm_F zk_E RX14 65 14 26 := ⟨RX14, TX14, 36, rfl, zk_i14, by decide, zk_b14 150 (by decide +kernel) rfl⟩
theorem zl_X14_68 : zm_F zk_E RX14 68 14 27 := ⟨RX14, TX14, 36, rfl, zk_i14, by decide, zk_b14 151 (by decide +kernel) rfl⟩
theorem zl_X14_71 : zm_F zk_E RX14 71 14 28 := ⟨RX14, TX14, 36, rfl, zk_i14, by decide, zk_b14 152 (by decide +kernel) rfl⟩
theorem zl_X14_74 : zm_F zk_E RX14 74 14 29 := ⟨RX14, TX14, 36, rfl, zk_i14, by decide, zk_b14 153 (by decide +kernel) rfl⟩
theorem zl_X14_199 : zm_L zk_E RX14 199 yX14_rests (.code yX14_rests cX14_rests 2 none) 1 ∧ Cond.instanceMethod yX14_rests ∈ zk_E.2.2.1 ∧ Cond.selects yX14_rests.cls yX14_rests yX14_rests ∈ zk_E.2.2.1 := ⟨⟨zk_b19 219 (by decide +kernel) rfl, zk_b1 16 (by decide +kernel) rfl, zk_b19 216 (by decide +kernel) rfl, by decide +kernel, by decide +kernel, by decide +kernel⟩, zk_b19 218 (by decide +kernel) rfl, zk_s16 (q := (yX14_rests, 36)) 15 (by decide +kernel)⟩
theorem zl_X14_196 : zm_F zk_E RX14 196 14 21 := ⟨RX14, TX14, 36, rfl, zk_i14, by decide, zk_b14 145 (by decide +kernel) rfl⟩
theorem zt_14_21 : zm_T zk_E RX14 14 21 .int false := ⟨RX14, TX14, 36, tyX14, rfl, tyX14_ok, nmX14, rfl, rfl, rfl⟩
theorem zl_X14_187 : zm_L zk_E RX14 187 yX14_list (.code yX14_list cX14_list 4 none) 0 ∧ Cond.instanceMethod yX14_list ∈ zk_E.2.2.1 ∧ Cond.selects yX14_list.cls yX14_list yX14_list ∈ zk_E.2.2.1 := ⟨⟨zk_b19 152 (by decide +kernel) rfl, zk_b1 16 (by decide +kernel) rfl, zk_b19 149 (by decide +kernel) rfl, by decide +kernel, by decide +kernel, by decide +kernel⟩, zk_b19 151 (by decide +kernel) rfl, zk_s15 (q := (yX14_list, 36)) 15 (by decide +kernel)⟩
theorem zl_X14_190 : zm_L zk_E RX14 190 yX14_readSentence (.code yX14_readSentence cX14_readSentence 2 none) 0 ∧ Cond.instanceMethod yX14_readSentence ∈ zk_E.2.2.1 ∧ Cond.selects yX14_readSentence.cls yX14_readSentence yX14_readSentence ∈ zk_E.2.2.1 := ⟨⟨zk_b19 159 (by decide +kernel) rfl, zk_b1 16 (by decide +kernel) rfl, zk_b19 156 (by decide +kernel) rfl, by decide +kernel, by decide +kernel, by decide +kernel⟩, zk_b19 158 (by decide +kernel) rfl, zk_s16 (q := (yX14_readSentence, 36)) 0 (by decide +kernel)⟩
theorem zl_X14_193 : zm_L zk_E RX14 193 yX14_adopt (.code yX14_adopt cX14_adopt 3 none) 0 ∧ Cond.instanceMethod yX14_adopt ∈ zk_E.2.2.1 ∧ Cond.selects yX14_adopt.cls yX14_adopt yX14_adopt ∈ zk_E.2.2.1 := ⟨⟨zk_b19 215 (by decide +kernel) rfl, zk_b1 16 (by decide +kernel) rfl, zk_b19 212 (by decide +kernel) rfl, by decide +kernel, by decide +kernel, by decide +kernel⟩, zk_b19 214 (by decide +kernel) rfl, zk_s16 (q := (yX14_adopt, 36)) 14 (by decide +kernel)⟩
theorem zl_X14_13 : zm_F zk_E RX14 13 14 3 := ⟨RX14, TX14, 36, rfl, zk_i14, by decide, zk_b14 120 (by decide +kernel) rfl⟩
theorem zl_X14_202 : zm_F zk_E RX14 202 14 1 := ⟨RX14, TX14, 36, rfl, zk_i14, by decide, zk_b14 116 (by decide +kernel) rfl⟩
theorem zl_X14_17 : zm_F zk_E RX14 17 14 4 := ⟨RX14, TX14, 36, rfl, zk_i14, by decide, zk_b14 122 (by decide +kernel) rfl⟩
theorem zl_X14_205 : zm_L zk_E RX14 205 yX14_counts (.code yX14_counts cX14_counts 2 (some .boolean)) 1 ∧ Cond.instanceMethod yX14_counts ∈ zk_E.2.2.1 ∧ Cond.selects yX14_counts.cls yX14_counts yX14_counts ∈ zk_E.2.2.1 := ⟨⟨zk_b20 31 (by decide +kernel) rfl, zk_b1 16 (by decide +kernel) rfl, zk_b20 28 (by decide +kernel) rfl, by decide +kernel, by decide +kernel, by decide +kernel⟩, zk_b20 30 (by decide +kernel) rfl, zk_s17 (q := (yX14_counts, 36)) 2 (by decide +kernel)⟩
theorem zl_X14_7 : zm_F zk_E RX14 7 14 2 := ⟨RX14, TX14, 36, rfl, zk_i14, by decide, zk_b14 118 (by decide +kernel) rfl⟩
theorem zl_X14_208 : zm_L zk_E RX14 208 yX14_ofZone (.code yX14_ofZone cX14_ofZone 6 (some .int)) 2 ∧ Cond.instanceMethod yX14_ofZone ∈ zk_E.2.2.1 ∧ Cond.selects yX14_ofZone.cls yX14_ofZone yX14_ofZone ∈ zk_E.2.2.1 := ⟨⟨zk_b20 27 (by decide +kernel) rfl, zk_b1 16 (by decide +kernel) rfl, zk_b20 24 (by decide +kernel) rfl, by decide +kernel, by decide +kernel, by decide +kernel⟩, zk_b20 25 (by decide +kernel) rfl, zk_b20 26 (by decide +kernel) rfl⟩
theorem zl_X14_212 : zm_L zk_E RX14 212 yX14_isOn (.code yX14_isOn cX14_isOn 2 (some .boolean)) 1 ∧ Cond.instanceMethod yX14_isOn ∈ zk_E.2.2.1 ∧ Cond.selects yX14_isOn.cls yX14_isOn yX14_isOn ∈ zk_E.2.2.1 := ⟨⟨zk_b20 23 (by decide +kernel) rfl, zk_b1 16 (by decide +kernel) rfl, zk_b20 20 (by decide +kernel) rfl, by decide +kernel, by decide +kernel, by decide +kernel⟩, zk_b20 21 (by decide +kernel) rfl, zk_b20 22 (by decide +kernel) rfl⟩
theorem zl_X14_218 : zm_L zk_E RX14 218 yX14_isSure (.code yX14_isSure cX14_isSure 3 (some .boolean)) 1 ∧ Cond.instanceMethod yX14_isSure ∈ zk_E.2.2.1 ∧ Cond.selects yX14_isSure.cls yX14_isSure yX14_isSure ∈ zk_E.2.2.1 := ⟨⟨zk_b20 35 (by decide +kernel) rfl, zk_b1 16 (by decide +kernel) rfl, zk_b20 32 (by decide +kernel) rfl, by decide +kernel, by decide +kernel, by decide +kernel⟩, zk_b20 33 (by decide +kernel) rfl, zk_b20 34 (by decide +kernel) rfl⟩
theorem zl_X14_215 : zm_L zk_E RX14 215 yX14_isMet (.code yX14_isMet cX14_isMet 2 (some .boolean)) 1 ∧ Cond.instanceMethod yX14_isMet ∈ zk_E.2.2.1 ∧ Cond.selects yX14_isMet.cls yX14_isMet yX14_isMet ∈ zk_E.2.2.1 := ⟨⟨zk_b20 19 (by decide +kernel) rfl, zk_b1 16 (by decide +kernel) rfl, zk_b20 16 (by decide +kernel) rfl, by decide +kernel, by decide +kernel, by decide +kernel⟩, zk_b20 18 (by decide +kernel) rfl, zk_s17 (q := (yX14_isMet, 36)) 1 (by decide +kernel)⟩
theorem zl_X14_221 : zm_F zk_E RX14 221 14 30 := ⟨RX14, TX14, 36, rfl, zk_i14, by decide, zk_b14 154 (by decide +kernel) rfl⟩
theorem zl_X14_77 : zm_F zk_E RX14 77 14 31 := ⟨RX14, TX14, 36, rfl, zk_i14, by decide, zk_b14 156 (by decide +kernel) rfl⟩
theorem zl_X14_80 : zm_F zk_E RX14 80 14 32 := ⟨RX14, TX14, 36, rfl, zk_i14, by decide, zk_b14 157 (by decide +kernel) rfl⟩
theorem zl_X14_83 : zm_F zk_E RX14 83 14 33 := ⟨RX14, TX14, 36, rfl, zk_i14, by decide, zk_b14 158 (by decide +kernel) rfl⟩
theorem zt_14_30 : zm_T zk_E RX14 14 30 .int false := ⟨RX14, TX14, 36, tyX14, rfl, tyX14_ok, nmX14, rfl, rfl, rfl⟩
theorem zl_X14_224 : zm_L zk_E RX14 224 yX14_isCalled (.code yX14_isCalled cX14_isCalled 7 (some .boolean)) 2 ∧ Cond.instanceMethod yX14_isCalled ∈ zk_E.2.2.1 ∧ Cond.selects yX14_isCalled.cls yX14_isCalled yX14_isCalled ∈ zk_E.2.2.1 := ⟨⟨zk_b20 15 (by decide +kernel) rfl, zk_b1 16 (by decide +kernel) rfl, zk_b20 12 (by decide +kernel) rfl, by decide +kernel, by decide +kernel, by decide +kernel⟩, zk_b20 14 (by decide +kernel) rfl, zk_s17 (q := (yX14_isCalled, 36)) 0 (by decide +kernel)⟩
theorem zl_X14_228 : zm_L zk_E RX14 228 yX14_tell (.code yX14_tell cX14_tell 4 none) 2 ∧ Cond.instanceMethod yX14_tell ∈ zk_E.2.2.1 ∧ Cond.selects yX14_tell.cls yX14_tell yX14_tell ∈ zk_E.2.2.1 := ⟨⟨zk_b20 39 (by decide +kernel) rfl, zk_b1 16 (by decide +kernel) rfl, zk_b20 36 (by decide +kernel) rfl, by decide +kernel, by decide +kernel, by decide +kernel⟩, zk_b20 38 (by decide +kernel) rfl, zk_s17 (q := (yX14_tell, 36)) 3 (by decide +kernel)⟩
def zf_X14_takeNumber_J24 (N : Nat) (i3 : Int32) (t0 : Nat) (t1 : Int32) (t2 : Int32) (S : zm_S) : Option (Int32 × zm_S) := (zp S t0 14 10 (.int (t1 + t2))).bind (fun S6 => some (i3, S6))
set_option maxHeartbeats 4000000 in
set_option maxRecDepth 100000 in
theorem zt_X14_takeNumber_J24 {p : Program} {l : Launch} {e : Env} {R : Room} {s : State} {m : MethodId} {args : Array Value} {below : List Frame} {meth : Method} {c : Code} {V : zm_V} {mc ms d rc rs : Nat} (hX : zm_X p R s m args meth c RX14 "takeNumber" cX14_takeNumber 4 zk_E V mc ms) (hr : meth.sig.returnType = (some .int)) (hR : R.frames = d ∧ R.locals = 64 * d) (hd : 3 ≤ d) {N : Nat} {i3 : Int32} {t0 : Nat} {t1 : Int32} {t2 : Int32} {out : (Int32 × zm_S)} {S : zm_S} (h : zf_X14_takeNumber_J24 N i3 t0 t1 t2 S = some out) : zw p l e R s m args below meth c (vx_MQ below (zm_Qc zk_E V (zo_i out)) (zm_XC zk_E V zo_x) args s mc ms (fun q => V.2.2.2.1 ≤ q)) 4 zk_E V mc ms 24 [(3, .int i3)] [.int t2, .int t1, .ref t0] S rc rs := by
  unfold zf_X14_takeNumber_J24 at h
  refine zw_iadd hX dX14_takeNumber_24 ?_
  obtain ⟨S6, g, h⟩ := zb_some h
  refine zw_putv hX zl_X14_131 zt_14_10 dX14_takeNumber_25 rfl rfl g ?_
  refine zw_iload_n hX dX14_takeNumber_28 rfl ?_
  obtain rfl := Option.some.inj h
  exact zw_iret hX hr dX14_takeNumber_29 rfl ⟨rfl, rfl⟩
def zf_X14_takeNumber (N : Nat) (a0 : Nat) (i1 : Int32) (i2 : Int32) (S : zm_S) : Option (Int32 × zm_S) := (zi S a0 14).bind (fun _ => (zf_X14_look N a0 i1 i2 S).bind (fun r3 => (zg_i r3.2 a0 14 10).bind (fun v4 => (zg_i r3.2 a0 14 11).bind (fun v5 => if 0 ≤ v5 then zf_X14_takeNumber_J24 N r3.1 a0 v4 (0 : Int32) r3.2 else zf_X14_takeNumber_J24 N r3.1 a0 v4 (1 : Int32) r3.2))))
set_option maxHeartbeats 4000000 in
set_option maxRecDepth 100000 in
theorem zt_X14_takeNumber {l : Launch} {V : zm_V} {N : Nat} {S : zm_S} {out : (Int32 × zm_S)} {d : Nat} {a0 : Nat} {i1 : Int32} {i2 : Int32} (hd : 3 ≤ d) (h : zf_X14_takeNumber N a0 i1 i2 S = some out) : zm_Met l zk_E V yX14_takeNumber (.code yX14_takeNumber cX14_takeNumber 4 (some .int)) d [.ref a0, .int i1, .int i2] S 0 0 (zo_i out) zo_x := by
  refine zm_of (by decide +kernel) (Nat.le_of_ble_eq_true rfl) ?_
  intro p e R s m args below meth c hRR hX hr hxt
  have hR : R.frames = d ∧ R.locals = 64 * d := by rw [hRR]; exact ⟨rfl, rfl⟩
  have hX : zm_X p R s m args meth c RX14 "takeNumber" cX14_takeNumber 4 zk_E V 0 0 := hX
  unfold zf_X14_takeNumber at h
  refine zw_sub (lv' := [(0, .ref a0), (1, .int i1), (2, .int i2)]) (List.forall_mem_cons.mpr ⟨rfl, (List.forall_mem_cons.mpr ⟨rfl, (List.forall_mem_cons.mpr ⟨rfl, zs_nil⟩)⟩)⟩) ?_
  refine zw_aload_n hX dX14_takeNumber_0 rfl ?_
  refine zw_iload_n hX dX14_takeNumber_1 rfl ?_
  refine zw_iload_n hX dX14_takeNumber_2 rfl ?_
  obtain ⟨_, gi, h⟩ := zb_some h
  obtain ⟨r3, g, h⟩ := zb_some h
  refine zc_Vi (as := [.int i1, .int i2]) hX gi (zt_X14_look (d := d - 1) (by omega) g) zl_X14_149 rfl dX14_takeNumber_3 ⟨rfl, rfl, Nat.le_of_ble_eq_true rfl⟩ ⟨by omega, by omega⟩ ?_
  refine zw_istore_n hX dX14_takeNumber_6 (by decide) ?_
  refine zw_aload_n hX dX14_takeNumber_7 rfl ?_
  refine zw_dup hX dX14_takeNumber_8 rfl ?_
  obtain ⟨v4, g, h⟩ := zb_some h
  refine zw_geti hX zl_X14_131 dX14_takeNumber_9 g ?_
  refine zw_aload_n hX dX14_takeNumber_12 rfl ?_
  obtain ⟨v5, g, h⟩ := zb_some h
  refine zw_geti hX zl_X14_134 dX14_takeNumber_13 g ?_
  refine zw_if_ge (tgt := 23) hX dX14_takeNumber_16 (by decide) (fun c16 => ?_) (fun c16 => ?_)
  · rw [if_pos c16] at h
    refine zw_iconst (v := (0 : Int32)) hX dX14_takeNumber_23 (by decide) ?_
    refine zw_sub (lv' := [(3, .int r3.1)]) (List.forall_mem_cons.mpr ⟨rfl, zs_nil⟩) ?_
    exact zt_X14_takeNumber_J24 hX hr hR hd h
  · rw [if_neg c16] at h
    refine zw_iconst (v := (1 : Int32)) hX dX14_takeNumber_19 (by decide) ?_
    refine zw_goto (tgt := 24) hX dX14_takeNumber_20 (by decide) ?_
    refine zw_sub (lv' := [(3, .int r3.1)]) (List.forall_mem_cons.mpr ⟨rfl, zs_nil⟩) ?_
    exact zt_X14_takeNumber_J24 hX hr hR hd h
def zf_X14_has_J36 (N : Nat) (k : Nat → Int32 → Int32 → Int32 → Int32 → zm_S → Option ((Int32 × zm_S) ⊕ ((Int32) × zm_S))) (a0 : Nat) (i1 : Int32) (i2 : Int32) (i4 : Int32) (S : zm_S) : Option ((Int32 × zm_S) ⊕ ((Int32) × zm_S)) := k a0 i1 i2 (1 : Int32) (i4 + (1 : Int32)) S
set_option maxHeartbeats 4000000 in
set_option maxRecDepth 100000 in
theorem zt_X14_has_J36 {p : Program} {l : Launch} {e : Env} {R : Room} {s : State} {m : MethodId} {args : Array Value} {below : List Frame} {meth : Method} {c : Code} {V : zm_V} {mc ms d rc rs : Nat} (hX : zm_X p R s m args meth c RX14 "has" cX14_has 5 zk_E V mc ms) (hr : meth.sig.returnType = (some .boolean)) (hR : R.frames = d ∧ R.locals = 64 * d) (hd : 1 ≤ d) {N : Nat} {k : Nat → Int32 → Int32 → Int32 → Int32 → zm_S → Option ((Int32 × zm_S) ⊕ ((Int32) × zm_S))} {a0 : Nat} {i1 : Int32} {i2 : Int32} {i4 : Int32} {res : (Int32 × zm_S) ⊕ ((Int32) × zm_S)} {out : (Int32 × zm_S)}   (hf : ∀ o, res = .inl o → o = out) (hk : ∀ (x3 : Int32) (S' : zm_S), res = .inr (x3, S') → zw p l e R s m args below meth c (vx_MQ below (zm_Qc zk_E V (zo_i out)) (zm_XC zk_E V zo_x) args s mc ms (fun q => V.2.2.2.1 ≤ q)) 5 zk_E V mc ms 48 [(3, .int x3)] [] S' rc rs) (hrec : ∀ (i3' : Int32) (i4' : Int32) (S : zm_S), k a0 i1 i2 i3' i4' S = some res → zw p l e R s m args below meth c (vx_MQ below (zm_Qc zk_E V (zo_i out)) (zm_XC zk_E V zo_x) args s mc ms (fun q => V.2.2.2.1 ≤ q)) 5 zk_E V mc ms 5 [(0, .ref a0), (1, .int i1), (2, .int i2), (3, .int i3'), (4, .int i4')] [] S rc rs) {S : zm_S} (h : zf_X14_has_J36 N k a0 i1 i2 i4 S = some res) : zw p l e R s m args below meth c (vx_MQ below (zm_Qc zk_E V (zo_i out)) (zm_XC zk_E V zo_x) args s mc ms (fun q => V.2.2.2.1 ≤ q)) 5 zk_E V mc ms 36 [(0, .ref a0), (1, .int i1), (2, .int i2), (4, .int i4)] [] S rc rs := by
  unfold zf_X14_has_J36 at h
  refine zw_iconst (v := (1 : Int32)) hX dX14_has_36 (by decide) ?_
  refine zw_goto (tgt := 41) hX dX14_has_37 (by decide) ?_
  refine zw_istore_n hX dX14_has_41 (by decide) ?_
  refine zw_iinc (v := (i4 + (1 : Int32))) hX dX14_has_42 rfl rfl (by decide) ?_
  refine zw_goto (tgt := 5) hX dX14_has_45 (by decide) ?_
  refine zw_sub (lv' := [(0, .ref a0), (1, .int i1), (2, .int i2), (3, .int (1 : Int32)), (4, .int (i4 + (1 : Int32)))]) (List.forall_mem_cons.mpr ⟨rfl, (List.forall_mem_cons.mpr ⟨rfl, (List.forall_mem_cons.mpr ⟨rfl, (List.forall_mem_cons.mpr ⟨rfl, (List.forall_mem_cons.mpr ⟨rfl, zs_nil⟩)⟩)⟩)⟩)⟩) ?_
  exact hrec _ _ _ h
def zf_X14_has_L5 (N : Nat) : Nat → Nat → Int32 → Int32 → Int32 → Int32 → zm_S → Option ((Int32 × zm_S) ⊕ ((Int32) × zm_S))
  | 0, _, _, _, _, _, _ => none
  | n + 1, a0, i1, i2, i3, i4, S => (zg_r S a0 14 14).bind (fun b1 => (za_x S 0 b1 i1).bind (fun v2 => if v2 ≤ i4 then some (.inr (i3, S)) else if i3 = 0 then (zg_r S a0 14 15).bind (fun b3 => (za_x S 0 b3 (((12 : Int32) * i1) + i4)).bind (fun v4 => if v4 = i2 then zf_X14_has_J36 N (zf_X14_has_L5 N n) a0 i1 i2 i4 S else zf_X14_has_L5 N n a0 i1 i2 (0 : Int32) (i4 + (1 : Int32)) S)) else zf_X14_has_J36 N (zf_X14_has_L5 N n) a0 i1 i2 i4 S))
set_option maxHeartbeats 4000000 in
set_option maxRecDepth 100000 in
theorem zt_X14_has_L5 {p : Program} {l : Launch} {e : Env} {R : Room} {s : State} {m : MethodId} {args : Array Value} {below : List Frame} {meth : Method} {c : Code} {V : zm_V} {mc ms d rc rs : Nat} (hX : zm_X p R s m args meth c RX14 "has" cX14_has 5 zk_E V mc ms) (hr : meth.sig.returnType = (some .boolean)) (hR : R.frames = d ∧ R.locals = 64 * d) (hd : 1 ≤ d) {N : Nat} {res : (Int32 × zm_S) ⊕ ((Int32) × zm_S)} {out : (Int32 × zm_S)} (a0 : Nat) (i1 : Int32) (i2 : Int32) (hf : ∀ o, res = .inl o → o = out) (hk : ∀ (x3 : Int32) (S' : zm_S), res = .inr (x3, S') → zw p l e R s m args below meth c (vx_MQ below (zm_Qc zk_E V (zo_i out)) (zm_XC zk_E V zo_x) args s mc ms (fun q => V.2.2.2.1 ≤ q)) 5 zk_E V mc ms 48 [(3, .int x3)] [] S' rc rs) : ∀ (n : Nat) (i3 : Int32) (i4 : Int32) (S : zm_S), zf_X14_has_L5 N n a0 i1 i2 i3 i4 S = some res → zw p l e R s m args below meth c (vx_MQ below (zm_Qc zk_E V (zo_i out)) (zm_XC zk_E V zo_x) args s mc ms (fun q => V.2.2.2.1 ≤ q)) 5 zk_E V mc ms 5 [(0, .ref a0), (1, .int i1), (2, .int i2), (3, .int i3), (4, .int i4)] [] S rc rs := by
  intro n
  induction n with
  | zero => intro i3 i4 S h; cases h
  | succ n ih =>
    intro i3 i4 S h
    rw [zf_X14_has_L5] at h
    refine zw_iload hX dX14_has_5 rfl ?_
    refine zw_aload_n hX dX14_has_7 rfl ?_
    obtain ⟨b1, g, h⟩ := zb_some h
    refine zw_getr hX zl_X14_35 dX14_has_8 g ?_
    refine zw_iload_n hX dX14_has_11 rfl ?_
    obtain ⟨v2, g, h⟩ := zb_some h
    refine zw_xi hX dX14_has_12 g ?_
    refine zw_icmp_ge (tgt := 48) hX dX14_has_13 (by decide) (fun c13 => ?_) (fun c13 => ?_)
    · rw [if_pos c13] at h
      refine zw_sub (lv' := [(3, .int i3)]) (List.forall_mem_cons.mpr ⟨rfl, zs_nil⟩) ?_
      exact hk _ _ (Option.some.inj h).symm
    · rw [if_neg c13] at h
      refine zw_iload_n hX dX14_has_16 rfl ?_
      refine zw_if_ne (tgt := 36) hX dX14_has_17 (by decide) (fun c17 => ?_) (fun c17 => ?_)
      · rw [if_neg c17] at h
        refine zw_sub (lv' := [(0, .ref a0), (1, .int i1), (2, .int i2), (4, .int i4)]) (List.forall_mem_cons.mpr ⟨rfl, (List.forall_mem_cons.mpr ⟨rfl, (List.forall_mem_cons.mpr ⟨rfl, (List.forall_mem_cons.mpr ⟨rfl, zs_nil⟩)⟩)⟩)⟩) ?_
        exact zt_X14_has_J36 hX hr hR hd hf hk ih h
      · rw [if_pos c17] at h
        refine zw_aload_n hX dX14_has_20 rfl ?_
        obtain ⟨b3, g, h⟩ := zb_some h
        refine zw_getr hX zl_X14_38 dX14_has_21 g ?_
        refine zw_bipush (v := (12 : Int32)) hX dX14_has_24 (by decide) ?_
        refine zw_iload_n hX dX14_has_26 rfl ?_
        refine zw_imul hX dX14_has_27 ?_
        refine zw_iload hX dX14_has_28 rfl ?_
        refine zw_iadd hX dX14_has_30 ?_
        obtain ⟨v4, g, h⟩ := zb_some h
        refine zw_xi hX dX14_has_31 g ?_
        refine zw_iload_n hX dX14_has_32 rfl ?_
        refine zw_icmp_ne (tgt := 40) hX dX14_has_33 (by decide) (fun c33 => ?_) (fun c33 => ?_)
        · rw [if_neg c33] at h
          refine zw_iconst (v := (0 : Int32)) hX dX14_has_40 (by decide) ?_
          refine zw_istore_n hX dX14_has_41 (by decide) ?_
          refine zw_iinc (v := (i4 + (1 : Int32))) hX dX14_has_42 rfl rfl (by decide) ?_
          refine zw_goto (tgt := 5) hX dX14_has_45 (by decide) ?_
          refine zw_sub (lv' := [(0, .ref a0), (1, .int i1), (2, .int i2), (3, .int (0 : Int32)), (4, .int (i4 + (1 : Int32)))]) (List.forall_mem_cons.mpr ⟨rfl, (List.forall_mem_cons.mpr ⟨rfl, (List.forall_mem_cons.mpr ⟨rfl, (List.forall_mem_cons.mpr ⟨rfl, (List.forall_mem_cons.mpr ⟨rfl, zs_nil⟩)⟩)⟩)⟩)⟩) ?_
          exact ih _ _ _ h
        · rw [if_pos c33] at h
          refine zw_sub (lv' := [(0, .ref a0), (1, .int i1), (2, .int i2), (4, .int i4)]) (List.forall_mem_cons.mpr ⟨rfl, (List.forall_mem_cons.mpr ⟨rfl, (List.forall_mem_cons.mpr ⟨rfl, (List.forall_mem_cons.mpr ⟨rfl, zs_nil⟩)⟩)⟩)⟩) ?_
          exact zt_X14_has_J36 hX hr hR hd hf hk ih h
def zf_X14_has (N : Nat) (a0 : Nat) (i1 : Int32) (i2 : Int32) (S : zm_S) : Option (Int32 × zm_S) := (zf_X14_has_L5 N N a0 i1 i2 (0 : Int32) (0 : Int32) S).bind (fun r => match r with | .inl o => some o | .inr (v6, S5) => if v6 = 0 ∨ v6 = 1 then some (v6, S5) else none)
set_option maxHeartbeats 4000000 in
set_option maxRecDepth 100000 in
theorem zt_X14_has {l : Launch} {V : zm_V} {N : Nat} {S : zm_S} {out : (Int32 × zm_S)} {d : Nat} {a0 : Nat} {i1 : Int32} {i2 : Int32} (hd : 1 ≤ d) (h : zf_X14_has N a0 i1 i2 S = some out) : zm_Met l zk_E V yX14_has (.code yX14_has cX14_has 5 (some .boolean)) d [.ref a0, .int i1, .int i2] S 0 0 (zo_i out) zo_x := by
  refine zm_of (by decide +kernel) (Nat.le_of_ble_eq_true rfl) ?_
  intro p e R s m args below meth c hRR hX hr hxt
  have hR : R.frames = d ∧ R.locals = 64 * d := by rw [hRR]; exact ⟨rfl, rfl⟩
  have hX : zm_X p R s m args meth c RX14 "has" cX14_has 5 zk_E V 0 0 := hX
  unfold zf_X14_has at h
  refine zw_sub (lv' := [(0, .ref a0), (1, .int i1), (2, .int i2)]) (List.forall_mem_cons.mpr ⟨rfl, (List.forall_mem_cons.mpr ⟨rfl, (List.forall_mem_cons.mpr ⟨rfl, zs_nil⟩)⟩)⟩) ?_
  refine zw_iconst (v := (0 : Int32)) hX dX14_has_0 (by decide) ?_
  refine zw_istore_n hX dX14_has_1 (by decide) ?_
  refine zw_iconst (v := (0 : Int32)) hX dX14_has_2 (by decide) ?_
  refine zw_istore hX dX14_has_3 (by decide) ?_
  obtain ⟨r, g, h⟩ := zb_some h
  refine zw_sub (lv' := [(0, .ref a0), (1, .int i1), (2, .int i2), (3, .int (0 : Int32)), (4, .int (0 : Int32))]) (List.forall_mem_cons.mpr ⟨rfl, (List.forall_mem_cons.mpr ⟨rfl, (List.forall_mem_cons.mpr ⟨rfl, (List.forall_mem_cons.mpr ⟨rfl, (List.forall_mem_cons.mpr ⟨rfl, zs_nil⟩)⟩)⟩)⟩)⟩) ?_
  refine zt_X14_has_L5 hX hr hR hd (res := r) (out := out) a0 i1 i2 ?_ ?_ N _ _ _ g
  · intro o ho
    subst ho
    exact Option.some.inj h
  · intro v6 S5 hx
    subst hx
    try dsimp only at h
    refine zw_iload_n hX dX14_has_48 rfl ?_
    by_cases cz : v6 = 0 ∨ v6 = 1
    · rw [if_pos cz] at h
      obtain rfl := Option.some.inj h
      exact zw_iret hX hr dX14_has_49 (zn_z cz) ⟨rfl, rfl⟩
    · rw [if_neg cz] at h
      cases h
def zf_X14_readZone_J189 (N : Nat) (k : Nat → Int32 → Int32 → Int32 → Int32 → zm_S → Option ((Unit × zm_S) ⊕ ((Unit) × zm_S))) (a0 : Nat) (i1 : Int32) (i2 : Int32) (i3 : Int32) (S : zm_S) : Option ((Unit × zm_S) ⊕ ((Unit) × zm_S)) := (zi S a0 14).bind (fun _ => (zf_X14_isSign N a0 (59 : Int32) S).bind (fun r32 => if r32.1 = 0 then k a0 i1 i2 i3 (1 : Int32) r32.2 else k a0 i1 i2 i3 (0 : Int32) r32.2))
set_option maxHeartbeats 4000000 in
set_option maxRecDepth 100000 in
theorem zt_X14_readZone_J189 {p : Program} {l : Launch} {e : Env} {R : Room} {s : State} {m : MethodId} {args : Array Value} {below : List Frame} {meth : Method} {c : Code} {V : zm_V} {mc ms d rc rs : Nat} (hX : zm_X p R s m args meth c RX14 "readZone" cX14_readZone 6 zk_E V mc ms) (hr : meth.sig.returnType = none) (hR : R.frames = d ∧ R.locals = 64 * d) (hd : 4 ≤ d) {N : Nat} {k : Nat → Int32 → Int32 → Int32 → Int32 → zm_S → Option ((Unit × zm_S) ⊕ ((Unit) × zm_S))} {a0 : Nat} {i1 : Int32} {i2 : Int32} {i3 : Int32} {res : (Unit × zm_S) ⊕ ((Unit) × zm_S)} {out : (Unit × zm_S)}   (hf : ∀ o, res = .inl o → o = out) (hk : ∀ (S' : zm_S), res = .inr ((), S') → zw p l e R s m args below meth c (vx_MQ below (zm_Qc zk_E V (zo_v out)) (zm_XC zk_E V zo_x) args s mc ms (fun q => V.2.2.2.1 ≤ q)) 6 zk_E V mc ms 208 [(0, .ref a0), (1, .int i1), (2, .int i2), (3, .int i3)] [] S' rc rs) (hrec : ∀ (i4' : Int32) (S : zm_S), k a0 i1 i2 i3 i4' S = some res → zw p l e R s m args below meth c (vx_MQ below (zm_Qc zk_E V (zo_v out)) (zm_XC zk_E V zo_x) args s mc ms (fun q => V.2.2.2.1 ≤ q)) 6 zk_E V mc ms 86 [(0, .ref a0), (1, .int i1), (2, .int i2), (3, .int i3), (4, .int i4')] [] S rc rs) {S : zm_S} (h : zf_X14_readZone_J189 N k a0 i1 i2 i3 S = some res) : zw p l e R s m args below meth c (vx_MQ below (zm_Qc zk_E V (zo_v out)) (zm_XC zk_E V zo_x) args s mc ms (fun q => V.2.2.2.1 ≤ q)) 6 zk_E V mc ms 189 [(0, .ref a0), (1, .int i1), (2, .int i2), (3, .int i3)] [] S rc rs := by
  unfold zf_X14_readZone_J189 at h
  refine zw_aload_n hX dX14_readZone_189 rfl ?_
  refine zw_bipush (v := (59 : Int32)) hX dX14_readZone_190 (by decide) ?_
  obtain ⟨_, gi, h⟩ := zb_some h
  obtain ⟨r32, g, h⟩ := zb_some h
  refine zc_Vi (as := [.int (59 : Int32)]) hX gi (zt_X14_isSign (d := d - 1) (by omega) g) zl_X14_145 rfl dX14_readZone_192 ⟨rfl, rfl, Nat.le_of_ble_eq_true rfl⟩ ⟨by omega, by omega⟩ ?_
  refine zw_if_ne (tgt := 202) hX dX14_readZone_195 (by decide) (fun c195 => ?_) (fun c195 => ?_)
  · rw [if_neg c195] at h
    refine zw_iconst (v := (0 : Int32)) hX dX14_readZone_202 (by decide) ?_
    refine zw_istore hX dX14_readZone_203 (by decide) ?_
    refine zw_goto (tgt := 86) hX dX14_readZone_205 (by decide) ?_
    refine zw_sub (lv' := [(0, .ref a0), (1, .int i1), (2, .int i2), (3, .int i3), (4, .int (0 : Int32))]) (List.forall_mem_cons.mpr ⟨rfl, (List.forall_mem_cons.mpr ⟨rfl, (List.forall_mem_cons.mpr ⟨rfl, (List.forall_mem_cons.mpr ⟨rfl, (List.forall_mem_cons.mpr ⟨rfl, zs_nil⟩)⟩)⟩)⟩)⟩) ?_
    exact hrec _ _ h
  · rw [if_pos c195] at h
    refine zw_iconst (v := (1 : Int32)) hX dX14_readZone_198 (by decide) ?_
    refine zw_goto (tgt := 203) hX dX14_readZone_199 (by decide) ?_
    refine zw_istore hX dX14_readZone_203 (by decide) ?_
    refine zw_goto (tgt := 86) hX dX14_readZone_205 (by decide) ?_
    refine zw_sub (lv' := [(0, .ref a0), (1, .int i1), (2, .int i2), (3, .int i3), (4, .int (1 : Int32))]) (List.forall_mem_cons.mpr ⟨rfl, (List.forall_mem_cons.mpr ⟨rfl, (List.forall_mem_cons.mpr ⟨rfl, (List.forall_mem_cons.mpr ⟨rfl, (List.forall_mem_cons.mpr ⟨rfl, zs_nil⟩)⟩)⟩)⟩)⟩) ?_
    exact hrec _ _ h
def zf_X14_readZone_J145 (N : Nat) (k : Nat → Int32 → Int32 → Int32 → Int32 → zm_S → Option ((Unit × zm_S) ⊕ ((Unit) × zm_S))) (a0 : Nat) (i1 : Int32) (i2 : Int32) (i3 : Int32) (i5 : Int32) (t0 : Nat) (t1 : Int32) (S : zm_S) : Option ((Unit × zm_S) ⊕ ((Unit) × zm_S)) := (zi S t0 14).bind (fun _ => (zf_X14_want N t0 t1 S).bind (fun r37 => if r37.1 = 0 then zf_X14_readZone_J189 N (k) a0 i1 i2 i3 r37.2 else (zg_r r37.2 a0 14 15).bind (fun b38 => (zg_r r37.2 a0 14 14).bind (fun b39 => (za_x r37.2 0 b39 i1).bind (fun v40 => (zs_i r37.2 b38 (((12 : Int32) * i1) + v40) i5).bind (fun S41 => (zg_r S41 a0 14 14).bind (fun b42 => (za_x S41 0 b42 i1).bind (fun v43 => (zs_i S41 b42 i1 (v43 + (1 : Int32))).bind (fun S44 => (zg_i S44 a0 14 10).bind (fun v45 => (zp S44 a0 14 10 (.int (v45 + (1 : Int32)))).bind (fun S46 => zf_X14_readZone_J189 N (k) a0 i1 i2 i3 S46)))))))))))
set_option maxHeartbeats 4000000 in
set_option maxRecDepth 100000 in
theorem zt_X14_readZone_J145 {p : Program} {l : Launch} {e : Env} {R : Room} {s : State} {m : MethodId} {args : Array Value} {below : List Frame} {meth : Method} {c : Code} {V : zm_V} {mc ms d rc rs : Nat} (hX : zm_X p R s m args meth c RX14 "readZone" cX14_readZone 6 zk_E V mc ms) (hr : meth.sig.returnType = none) (hR : R.frames = d ∧ R.locals = 64 * d) (hd : 4 ≤ d) {N : Nat} {k : Nat → Int32 → Int32 → Int32 → Int32 → zm_S → Option ((Unit × zm_S) ⊕ ((Unit) × zm_S))} {a0 : Nat} {i1 : Int32} {i2 : Int32} {i3 : Int32} {i5 : Int32} {t0 : Nat} {t1 : Int32} {res : (Unit × zm_S) ⊕ ((Unit) × zm_S)} {out : (Unit × zm_S)}   (hf : ∀ o, res = .inl o → o = out) (hk : ∀ (S' : zm_S), res = .inr ((), S') → zw p l e R s m args below meth c (vx_MQ below (zm_Qc zk_E V (zo_v out)) (zm_XC zk_E V zo_x) args s mc ms (fun q => V.2.2.2.1 ≤ q)) 6 zk_E V mc ms 208 [(0, .ref a0), (1, .int i1), (2, .int i2), (3, .int i3)] [] S' rc rs) (hrec : ∀ (i4' : Int32) (S : zm_S), k a0 i1 i2 i3 i4' S = some res → zw p l e R s m args below meth c (vx_MQ below (zm_Qc zk_E V (zo_v out)) (zm_XC zk_E V zo_x) args s mc ms (fun q => V.2.2.2.1 ≤ q)) 6 zk_E V mc ms 86 [(0, .ref a0), (1, .int i1), (2, .int i2), (3, .int i3), (4, .int i4')] [] S rc rs) {S : zm_S} (h : zf_X14_readZone_J145 N k a0 i1 i2 i3 i5 t0 t1 S = some res) : zw p l e R s m args below meth c (vx_MQ below (zm_Qc zk_E V (zo_v out)) (zm_XC zk_E V zo_x) args s mc ms (fun q => V.2.2.2.1 ≤ q)) 6 zk_E V mc ms 145 [(0, .ref a0), (1, .int i1), (2, .int i2), (3, .int i3), (5, .int i5)] [.int t1, .ref t0] S rc rs := by
  unfold zf_X14_readZone_J145 at h
  obtain ⟨_, gi, h⟩ := zb_some h
  obtain ⟨r37, g, h⟩ := zb_some h
  refine zc_Vi (as := [.int t1]) hX gi (zt_X14_want (d := d - 1) (by omega) g) zl_X14_141 rfl dX14_readZone_145 ⟨rfl, rfl, Nat.le_of_ble_eq_true rfl⟩ ⟨by omega, by omega⟩ ?_
  refine zw_if_eq (tgt := 189) hX dX14_readZone_148 (by decide) (fun c148 => ?_) (fun c148 => ?_)
  · rw [if_pos c148] at h
    refine zw_sub (lv' := [(0, .ref a0), (1, .int i1), (2, .int i2), (3, .int i3)]) (List.forall_mem_cons.mpr ⟨rfl, (List.forall_mem_cons.mpr ⟨rfl, (List.forall_mem_cons.mpr ⟨rfl, (List.forall_mem_cons.mpr ⟨rfl, zs_nil⟩)⟩)⟩)⟩) ?_
    exact zt_X14_readZone_J189 hX hr hR hd hf hk hrec h
  · rw [if_neg c148] at h
    refine zw_aload_n hX dX14_readZone_151 rfl ?_
    obtain ⟨b38, g, h⟩ := zb_some h
    refine zw_getr hX zl_X14_38 dX14_readZone_152 g ?_
    refine zw_bipush (v := (12 : Int32)) hX dX14_readZone_155 (by decide) ?_
    refine zw_iload_n hX dX14_readZone_157 rfl ?_
    refine zw_imul hX dX14_readZone_158 ?_
    refine zw_aload_n hX dX14_readZone_159 rfl ?_
    obtain ⟨b39, g, h⟩ := zb_some h
    refine zw_getr hX zl_X14_35 dX14_readZone_160 g ?_
    refine zw_iload_n hX dX14_readZone_163 rfl ?_
    obtain ⟨v40, g, h⟩ := zb_some h
    refine zw_xi hX dX14_readZone_164 g ?_
    refine zw_iadd hX dX14_readZone_165 ?_
    refine zw_iload hX dX14_readZone_166 rfl ?_
    obtain ⟨S41, g, h⟩ := zb_some h
    refine zw_si hX dX14_readZone_168 g ?_
    refine zw_aload_n hX dX14_readZone_169 rfl ?_
    obtain ⟨b42, g, h⟩ := zb_some h
    refine zw_getr hX zl_X14_35 dX14_readZone_170 g ?_
    refine zw_iload_n hX dX14_readZone_173 rfl ?_
    refine zw_dup2 hX dX14_readZone_174 rfl rfl ?_
    obtain ⟨v43, g, h⟩ := zb_some h
    refine zw_xi hX dX14_readZone_175 g ?_
    refine zw_iconst (v := (1 : Int32)) hX dX14_readZone_176 (by decide) ?_
    refine zw_iadd hX dX14_readZone_177 ?_
    obtain ⟨S44, g, h⟩ := zb_some h
    refine zw_si hX dX14_readZone_178 g ?_
    refine zw_aload_n hX dX14_readZone_179 rfl ?_
    refine zw_dup hX dX14_readZone_180 rfl ?_
    obtain ⟨v45, g, h⟩ := zb_some h
    refine zw_geti hX zl_X14_131 dX14_readZone_181 g ?_
    refine zw_iconst (v := (1 : Int32)) hX dX14_readZone_184 (by decide) ?_
    refine zw_iadd hX dX14_readZone_185 ?_
    obtain ⟨S46, g, h⟩ := zb_some h
    refine zw_putv hX zl_X14_131 zt_14_10 dX14_readZone_186 rfl rfl g ?_
    refine zw_sub (lv' := [(0, .ref a0), (1, .int i1), (2, .int i2), (3, .int i3)]) (List.forall_mem_cons.mpr ⟨rfl, (List.forall_mem_cons.mpr ⟨rfl, (List.forall_mem_cons.mpr ⟨rfl, (List.forall_mem_cons.mpr ⟨rfl, zs_nil⟩)⟩)⟩)⟩) ?_
    exact zt_X14_readZone_J189 hX hr hR hd hf hk hrec h
def zf_X14_readZone_J144 (N : Nat) (k : Nat → Int32 → Int32 → Int32 → Int32 → zm_S → Option ((Unit × zm_S) ⊕ ((Unit) × zm_S))) (a0 : Nat) (i1 : Int32) (i2 : Int32) (i3 : Int32) (i5 : Int32) (t0 : Nat) (S : zm_S) : Option ((Unit × zm_S) ⊕ ((Unit) × zm_S)) := zf_X14_readZone_J145 N (k) a0 i1 i2 i3 i5 t0 (0 : Int32) S
set_option maxHeartbeats 4000000 in
set_option maxRecDepth 100000 in
theorem zt_X14_readZone_J144 {p : Program} {l : Launch} {e : Env} {R : Room} {s : State} {m : MethodId} {args : Array Value} {below : List Frame} {meth : Method} {c : Code} {V : zm_V} {mc ms d rc rs : Nat} (hX : zm_X p R s m args meth c RX14 "readZone" cX14_readZone 6 zk_E V mc ms) (hr : meth.sig.returnType = none) (hR : R.frames = d ∧ R.locals = 64 * d) (hd : 4 ≤ d) {N : Nat} {k : Nat → Int32 → Int32 → Int32 → Int32 → zm_S → Option ((Unit × zm_S) ⊕ ((Unit) × zm_S))} {a0 : Nat} {i1 : Int32} {i2 : Int32} {i3 : Int32} {i5 : Int32} {t0 : Nat} {res : (Unit × zm_S) ⊕ ((Unit) × zm_S)} {out : (Unit × zm_S)}   (hf : ∀ o, res = .inl o → o = out) (hk : ∀ (S' : zm_S), res = .inr ((), S') → zw p l e R s m args below meth c (vx_MQ below (zm_Qc zk_E V (zo_v out)) (zm_XC zk_E V zo_x) args s mc ms (fun q => V.2.2.2.1 ≤ q)) 6 zk_E V mc ms 208 [(0, .ref a0), (1, .int i1), (2, .int i2), (3, .int i3)] [] S' rc rs) (hrec : ∀ (i4' : Int32) (S : zm_S), k a0 i1 i2 i3 i4' S = some res → zw p l e R s m args below meth c (vx_MQ below (zm_Qc zk_E V (zo_v out)) (zm_XC zk_E V zo_x) args s mc ms (fun q => V.2.2.2.1 ≤ q)) 6 zk_E V mc ms 86 [(0, .ref a0), (1, .int i1), (2, .int i2), (3, .int i3), (4, .int i4')] [] S rc rs) {S : zm_S} (h : zf_X14_readZone_J144 N k a0 i1 i2 i3 i5 t0 S = some res) : zw p l e R s m args below meth c (vx_MQ below (zm_Qc zk_E V (zo_v out)) (zm_XC zk_E V zo_x) args s mc ms (fun q => V.2.2.2.1 ≤ q)) 6 zk_E V mc ms 144 [(0, .ref a0), (1, .int i1), (2, .int i2), (3, .int i3), (5, .int i5)] [.ref t0] S rc rs := by
  unfold zf_X14_readZone_J144 at h
  refine zw_iconst (v := (0 : Int32)) hX dX14_readZone_144 (by decide) ?_
  refine zw_sub (lv' := [(0, .ref a0), (1, .int i1), (2, .int i2), (3, .int i3), (5, .int i5)]) (List.forall_mem_cons.mpr ⟨rfl, (List.forall_mem_cons.mpr ⟨rfl, (List.forall_mem_cons.mpr ⟨rfl, (List.forall_mem_cons.mpr ⟨rfl, (List.forall_mem_cons.mpr ⟨rfl, zs_nil⟩)⟩)⟩)⟩)⟩) ?_
  exact zt_X14_readZone_J145 hX hr hR hd hf hk hrec h
def zf_X14_readZone_L86 (N : Nat) : Nat → Nat → Int32 → Int32 → Int32 → Int32 → zm_S → Option ((Unit × zm_S) ⊕ ((Unit) × zm_S))
  | 0, _, _, _, _, _, _ => none
  | n + 1, a0, i1, i2, i3, i4, S => if i4 = 0 then some (.inr ((), S)) else (zg_i S a0 14 11).bind (fun v24 => if 0 ≤ v24 then some (.inr ((), S)) else (zg_i S a0 14 0).bind (fun v25 => (zi S a0 14).bind (fun _ => (zf_X14_look N a0 (0 : Int32) (v25 - (1 : Int32)) S).bind (fun r28 => (zg_i r28.2 a0 14 11).bind (fun v29 => if 0 ≤ v29 then zf_X14_readZone_J189 N (zf_X14_readZone_L86 N n) a0 i1 i2 i3 r28.2 else (zg_r r28.2 a0 14 14).bind (fun b33 => (za_x r28.2 0 b33 i1).bind (fun v34 => if (12 : Int32) ≤ v34 then zf_X14_readZone_J144 N (zf_X14_readZone_L86 N n) a0 i1 i2 i3 r28.1 a0 r28.2 else (zi r28.2 a0 14).bind (fun _ => (zf_X14_has N a0 i1 r28.1 r28.2).bind (fun r49 => if r49.1 = 0 then zf_X14_readZone_J145 N (zf_X14_readZone_L86 N n) a0 i1 i2 i3 r28.1 a0 (1 : Int32) r49.2 else zf_X14_readZone_J144 N (zf_X14_readZone_L86 N n) a0 i1 i2 i3 r28.1 a0 r49.2)))))))))
set_option maxHeartbeats 4000000 in
set_option maxRecDepth 100000 in
theorem zt_X14_readZone_L86 {p : Program} {l : Launch} {e : Env} {R : Room} {s : State} {m : MethodId} {args : Array Value} {below : List Frame} {meth : Method} {c : Code} {V : zm_V} {mc ms d rc rs : Nat} (hX : zm_X p R s m args meth c RX14 "readZone" cX14_readZone 6 zk_E V mc ms) (hr : meth.sig.returnType = none) (hR : R.frames = d ∧ R.locals = 64 * d) (hd : 4 ≤ d) {N : Nat} {res : (Unit × zm_S) ⊕ ((Unit) × zm_S)} {out : (Unit × zm_S)} (a0 : Nat) (i1 : Int32) (i2 : Int32) (i3 : Int32) (hf : ∀ o, res = .inl o → o = out) (hk : ∀ (S' : zm_S), res = .inr ((), S') → zw p l e R s m args below meth c (vx_MQ below (zm_Qc zk_E V (zo_v out)) (zm_XC zk_E V zo_x) args s mc ms (fun q => V.2.2.2.1 ≤ q)) 6 zk_E V mc ms 208 [(0, .ref a0), (1, .int i1), (2, .int i2), (3, .int i3)] [] S' rc rs) : ∀ (n : Nat) (i4 : Int32) (S : zm_S), zf_X14_readZone_L86 N n a0 i1 i2 i3 i4 S = some res → zw p l e R s m args below meth c (vx_MQ below (zm_Qc zk_E V (zo_v out)) (zm_XC zk_E V zo_x) args s mc ms (fun q => V.2.2.2.1 ≤ q)) 6 zk_E V mc ms 86 [(0, .ref a0), (1, .int i1), (2, .int i2), (3, .int i3), (4, .int i4)] [] S rc rs := by
  intro n
  induction n with
  | zero => intro i4 S h; cases h
  | succ n ih =>
    intro i4 S h
    rw [zf_X14_readZone_L86] at h
    refine zw_iload hX dX14_readZone_86 rfl ?_
    refine zw_if_eq (tgt := 208) hX dX14_readZone_88 (by decide) (fun c88 => ?_) (fun c88 => ?_)
    · rw [if_pos c88] at h
      refine zw_sub (lv' := [(0, .ref a0), (1, .int i1), (2, .int i2), (3, .int i3)]) (List.forall_mem_cons.mpr ⟨rfl, (List.forall_mem_cons.mpr ⟨rfl, (List.forall_mem_cons.mpr ⟨rfl, (List.forall_mem_cons.mpr ⟨rfl, zs_nil⟩)⟩)⟩)⟩) ?_
      exact hk  _ (Option.some.inj h).symm
    · rw [if_neg c88] at h
      refine zw_aload_n hX dX14_readZone_91 rfl ?_
      obtain ⟨v24, g, h⟩ := zb_some h
      refine zw_geti hX zl_X14_134 dX14_readZone_92 g ?_
      refine zw_if_ge (tgt := 208) hX dX14_readZone_95 (by decide) (fun c95 => ?_) (fun c95 => ?_)
      · rw [if_pos c95] at h
        refine zw_sub (lv' := [(0, .ref a0), (1, .int i1), (2, .int i2), (3, .int i3)]) (List.forall_mem_cons.mpr ⟨rfl, (List.forall_mem_cons.mpr ⟨rfl, (List.forall_mem_cons.mpr ⟨rfl, (List.forall_mem_cons.mpr ⟨rfl, zs_nil⟩)⟩)⟩)⟩) ?_
        exact hk  _ (Option.some.inj h).symm
      · rw [if_neg c95] at h
        refine zw_aload_n hX dX14_readZone_98 rfl ?_
        refine zw_iconst (v := (0 : Int32)) hX dX14_readZone_99 (by decide) ?_
        refine zw_aload_n hX dX14_readZone_100 rfl ?_
        obtain ⟨v25, g, h⟩ := zb_some h
        refine zw_geti hX zl_X14_159 dX14_readZone_101 g ?_
        refine zw_iconst (v := (1 : Int32)) hX dX14_readZone_104 (by decide) ?_
        refine zw_isub hX dX14_readZone_105 ?_
        obtain ⟨_, gi, h⟩ := zb_some h
        obtain ⟨r28, g, h⟩ := zb_some h
        refine zc_Vi (as := [.int (0 : Int32), .int (v25 - (1 : Int32))]) hX gi (zt_X14_look (d := d - 1) (by omega) g) zl_X14_149 rfl dX14_readZone_106 ⟨rfl, rfl, Nat.le_of_ble_eq_true rfl⟩ ⟨by omega, by omega⟩ ?_
        refine zw_istore hX dX14_readZone_109 (by decide) ?_
        refine zw_aload_n hX dX14_readZone_111 rfl ?_
        obtain ⟨v29, g, h⟩ := zb_some h
        refine zw_geti hX zl_X14_134 dX14_readZone_112 g ?_
        refine zw_if_ge (tgt := 189) hX dX14_readZone_115 (by decide) (fun c115 => ?_) (fun c115 => ?_)
        · rw [if_pos c115] at h
          refine zw_sub (lv' := [(0, .ref a0), (1, .int i1), (2, .int i2), (3, .int i3)]) (List.forall_mem_cons.mpr ⟨rfl, (List.forall_mem_cons.mpr ⟨rfl, (List.forall_mem_cons.mpr ⟨rfl, (List.forall_mem_cons.mpr ⟨rfl, zs_nil⟩)⟩)⟩)⟩) ?_
          exact zt_X14_readZone_J189 hX hr hR hd hf hk ih h
        · rw [if_neg c115] at h
          refine zw_aload_n hX dX14_readZone_118 rfl ?_
          refine zw_aload_n hX dX14_readZone_119 rfl ?_
          obtain ⟨b33, g, h⟩ := zb_some h
          refine zw_getr hX zl_X14_35 dX14_readZone_120 g ?_
          refine zw_iload_n hX dX14_readZone_123 rfl ?_
          obtain ⟨v34, g, h⟩ := zb_some h
          refine zw_xi hX dX14_readZone_124 g ?_
          refine zw_bipush (v := (12 : Int32)) hX dX14_readZone_125 (by decide) ?_
          refine zw_icmp_ge (tgt := 144) hX dX14_readZone_127 (by decide) (fun c127 => ?_) (fun c127 => ?_)
          · rw [if_pos c127] at h
            refine zw_sub (lv' := [(0, .ref a0), (1, .int i1), (2, .int i2), (3, .int i3), (5, .int r28.1)]) (List.forall_mem_cons.mpr ⟨rfl, (List.forall_mem_cons.mpr ⟨rfl, (List.forall_mem_cons.mpr ⟨rfl, (List.forall_mem_cons.mpr ⟨rfl, (List.forall_mem_cons.mpr ⟨rfl, zs_nil⟩)⟩)⟩)⟩)⟩) ?_
            exact zt_X14_readZone_J144 hX hr hR hd hf hk ih h
          · rw [if_neg c127] at h
            refine zw_aload_n hX dX14_readZone_130 rfl ?_
            refine zw_iload_n hX dX14_readZone_131 rfl ?_
            refine zw_iload hX dX14_readZone_132 rfl ?_
            obtain ⟨_, gi, h⟩ := zb_some h
            obtain ⟨r49, g, h⟩ := zb_some h
            refine zc_Vi (as := [.int i1, .int r28.1]) hX gi (zt_X14_has (d := d - 1) (by omega) g) zl_X14_162 rfl dX14_readZone_134 ⟨rfl, rfl, Nat.le_of_ble_eq_true rfl⟩ ⟨by omega, by omega⟩ ?_
            refine zw_if_ne (tgt := 144) hX dX14_readZone_137 (by decide) (fun c137 => ?_) (fun c137 => ?_)
            · rw [if_neg c137] at h
              refine zw_sub (lv' := [(0, .ref a0), (1, .int i1), (2, .int i2), (3, .int i3), (5, .int r28.1)]) (List.forall_mem_cons.mpr ⟨rfl, (List.forall_mem_cons.mpr ⟨rfl, (List.forall_mem_cons.mpr ⟨rfl, (List.forall_mem_cons.mpr ⟨rfl, (List.forall_mem_cons.mpr ⟨rfl, zs_nil⟩)⟩)⟩)⟩)⟩) ?_
              exact zt_X14_readZone_J144 hX hr hR hd hf hk ih h
            · rw [if_pos c137] at h
              refine zw_iconst (v := (1 : Int32)) hX dX14_readZone_140 (by decide) ?_
              refine zw_goto (tgt := 145) hX dX14_readZone_141 (by decide) ?_
              refine zw_sub (lv' := [(0, .ref a0), (1, .int i1), (2, .int i2), (3, .int i3), (5, .int r28.1)]) (List.forall_mem_cons.mpr ⟨rfl, (List.forall_mem_cons.mpr ⟨rfl, (List.forall_mem_cons.mpr ⟨rfl, (List.forall_mem_cons.mpr ⟨rfl, (List.forall_mem_cons.mpr ⟨rfl, zs_nil⟩)⟩)⟩)⟩)⟩) ?_
              exact zt_X14_readZone_J145 hX hr hR hd hf hk ih h
def zf_X14_readZone_J241 (N : Nat) (a0 : Nat) (i1 : Int32) (i3 : Int32) (t0 : Nat) (t1 : Int32) (S : zm_S) : Option (Unit × zm_S) := (zp S t0 14 11 (.int t1)).bind (fun S56 => (zg_r S56 a0 14 13).bind (fun b57 => (zs_i S56 b57 i1 i3).bind (fun S58 => (zg_r S58 a0 14 12).bind (fun b59 => (zs_z S58 b59 i1 (1 : Int32)).bind (fun S60 => some ((), S60))))))
set_option maxHeartbeats 4000000 in
set_option maxRecDepth 100000 in
theorem zt_X14_readZone_J241 {p : Program} {l : Launch} {e : Env} {R : Room} {s : State} {m : MethodId} {args : Array Value} {below : List Frame} {meth : Method} {c : Code} {V : zm_V} {mc ms d rc rs : Nat} (hX : zm_X p R s m args meth c RX14 "readZone" cX14_readZone 6 zk_E V mc ms) (hr : meth.sig.returnType = none) (hR : R.frames = d ∧ R.locals = 64 * d) (hd : 4 ≤ d) {N : Nat} {a0 : Nat} {i1 : Int32} {i3 : Int32} {t0 : Nat} {t1 : Int32} {out : (Unit × zm_S)} {S : zm_S} (h : zf_X14_readZone_J241 N a0 i1 i3 t0 t1 S = some out) : zw p l e R s m args below meth c (vx_MQ below (zm_Qc zk_E V (zo_v out)) (zm_XC zk_E V zo_x) args s mc ms (fun q => V.2.2.2.1 ≤ q)) 6 zk_E V mc ms 241 [(0, .ref a0), (1, .int i1), (3, .int i3)] [.int t1, .ref t0] S rc rs := by
  unfold zf_X14_readZone_J241 at h
  obtain ⟨S56, g, h⟩ := zb_some h
  refine zw_putv hX zl_X14_134 zt_14_11 dX14_readZone_241 rfl rfl g ?_
  refine zw_aload_n hX dX14_readZone_244 rfl ?_
  obtain ⟨b57, g, h⟩ := zb_some h
  refine zw_getr hX zl_X14_32 dX14_readZone_245 g ?_
  refine zw_iload_n hX dX14_readZone_248 rfl ?_
  refine zw_iload_n hX dX14_readZone_249 rfl ?_
  obtain ⟨S58, g, h⟩ := zb_some h
  refine zw_si hX dX14_readZone_250 g ?_
  refine zw_aload_n hX dX14_readZone_251 rfl ?_
  obtain ⟨b59, g, h⟩ := zb_some h
  refine zw_getr hX zl_X14_29 dX14_readZone_252 g ?_
  refine zw_iload_n hX dX14_readZone_255 rfl ?_
  refine zw_iconst (v := (1 : Int32)) hX dX14_readZone_256 (by decide) ?_
  obtain ⟨S60, g, h⟩ := zb_some h
  refine zw_sz hX dX14_readZone_257 g ?_
  obtain rfl := Option.some.inj h
  exact zw_vret hX hr dX14_readZone_258 ⟨rfl, rfl⟩
def zf_X14_readZone_J208 (N : Nat) (a0 : Nat) (i1 : Int32) (i2 : Int32) (i3 : Int32) (S : zm_S) : Option (Unit × zm_S) := (zg_i S a0 14 11).bind (fun v51 => if 0 ≤ v51 then some ((), S) else (zg_i S a0 14 10).bind (fun v52 => (zp S a0 14 10 (.int (v52 + (1 : Int32)))).bind (fun S53 => (zg_r S53 a0 14 14).bind (fun b54 => (za_x S53 0 b54 i1).bind (fun v55 => if i3 ≤ v55 then zf_X14_readZone_J241 N a0 i1 i3 a0 (-1 : Int32) S53 else zf_X14_readZone_J241 N a0 i1 i3 a0 i2 S53)))))
set_option maxHeartbeats 4000000 in
set_option maxRecDepth 100000 in
theorem zt_X14_readZone_J208 {p : Program} {l : Launch} {e : Env} {R : Room} {s : State} {m : MethodId} {args : Array Value} {below : List Frame} {meth : Method} {c : Code} {V : zm_V} {mc ms d rc rs : Nat} (hX : zm_X p R s m args meth c RX14 "readZone" cX14_readZone 6 zk_E V mc ms) (hr : meth.sig.returnType = none) (hR : R.frames = d ∧ R.locals = 64 * d) (hd : 4 ≤ d) {N : Nat} {a0 : Nat} {i1 : Int32} {i2 : Int32} {i3 : Int32} {out : (Unit × zm_S)} {S : zm_S} (h : zf_X14_readZone_J208 N a0 i1 i2 i3 S = some out) : zw p l e R s m args below meth c (vx_MQ below (zm_Qc zk_E V (zo_v out)) (zm_XC zk_E V zo_x) args s mc ms (fun q => V.2.2.2.1 ≤ q)) 6 zk_E V mc ms 208 [(0, .ref a0), (1, .int i1), (2, .int i2), (3, .int i3)] [] S rc rs := by
  unfold zf_X14_readZone_J208 at h
  refine zw_aload_n hX dX14_readZone_208 rfl ?_
  obtain ⟨v51, g, h⟩ := zb_some h
  refine zw_geti hX zl_X14_134 dX14_readZone_209 g ?_
  refine zw_if_ge (tgt := 258) hX dX14_readZone_212 (by decide) (fun c212 => ?_) (fun c212 => ?_)
  · rw [if_pos c212] at h
    obtain rfl := Option.some.inj h
    exact zw_vret hX hr dX14_readZone_258 ⟨rfl, rfl⟩
  · rw [if_neg c212] at h
    refine zw_aload_n hX dX14_readZone_215 rfl ?_
    refine zw_dup hX dX14_readZone_216 rfl ?_
    obtain ⟨v52, g, h⟩ := zb_some h
    refine zw_geti hX zl_X14_131 dX14_readZone_217 g ?_
    refine zw_iconst (v := (1 : Int32)) hX dX14_readZone_220 (by decide) ?_
    refine zw_iadd hX dX14_readZone_221 ?_
    obtain ⟨S53, g, h⟩ := zb_some h
    refine zw_putv hX zl_X14_131 zt_14_10 dX14_readZone_222 rfl rfl g ?_
    refine zw_aload_n hX dX14_readZone_225 rfl ?_
    refine zw_iload_n hX dX14_readZone_226 rfl ?_
    refine zw_aload_n hX dX14_readZone_227 rfl ?_
    obtain ⟨b54, g, h⟩ := zb_some h
    refine zw_getr hX zl_X14_35 dX14_readZone_228 g ?_
    refine zw_iload_n hX dX14_readZone_231 rfl ?_
    obtain ⟨v55, g, h⟩ := zb_some h
    refine zw_xi hX dX14_readZone_232 g ?_
    refine zw_icmp_le (tgt := 240) hX dX14_readZone_233 (by decide) (fun c233 => ?_) (fun c233 => ?_)
    · rw [if_pos c233] at h
      refine zw_iconst (v := (-1 : Int32)) hX dX14_readZone_240 (by decide) ?_
      refine zw_sub (lv' := [(0, .ref a0), (1, .int i1), (3, .int i3)]) (List.forall_mem_cons.mpr ⟨rfl, (List.forall_mem_cons.mpr ⟨rfl, (List.forall_mem_cons.mpr ⟨rfl, zs_nil⟩)⟩)⟩) ?_
      exact zt_X14_readZone_J241 hX hr hR hd h
    · rw [if_neg c233] at h
      refine zw_iload_n hX dX14_readZone_236 rfl ?_
      refine zw_goto (tgt := 241) hX dX14_readZone_237 (by decide) ?_
      refine zw_sub (lv' := [(0, .ref a0), (1, .int i1), (3, .int i3)]) (List.forall_mem_cons.mpr ⟨rfl, (List.forall_mem_cons.mpr ⟨rfl, (List.forall_mem_cons.mpr ⟨rfl, zs_nil⟩)⟩)⟩) ?_
      exact zt_X14_readZone_J241 hX hr hR hd h
def zf_X14_readZone_J33 (N : Nat) (a0 : Nat) (i1 : Int32) (t0 : Nat) (t1 : Int32) (S : zm_S) : Option (Unit × zm_S) := (zi S t0 14).bind (fun _ => (zf_X14_want N t0 t1 S).bind (fun r9 => if r9.1 = 0 then some ((), r9.2) else (zg_i r9.2 a0 14 10).bind (fun v10 => (zp r9.2 a0 14 10 (.int (v10 + (1 : Int32)))).bind (fun S11 => (zi S11 a0 14).bind (fun _ => (zf_X14_take N a0 (20059310 : Int32) S11).bind (fun r14 => (zg_i r14.2 a0 14 10).bind (fun v15 => (zi r14.2 a0 14).bind (fun _ => (zf_X14_takeNumber N a0 (1 : Int32) (12 : Int32) r14.2).bind (fun r18 => (zi r18.2 a0 14).bind (fun _ => (zf_X14_take N a0 (207 : Int32) r18.2).bind (fun r21 => (zg_r r21.2 a0 14 14).bind (fun b22 => (zs_i r21.2 b22 i1 (0 : Int32)).bind (fun S23 => (zf_X14_readZone_L86 N N a0 i1 v15 r18.1 (1 : Int32) S23).bind (fun r => match r with | .inl o => some o | .inr (_, S50) => zf_X14_readZone_J208 N a0 i1 v15 r18.1 S50))))))))))))))
set_option maxHeartbeats 4000000 in
set_option maxRecDepth 100000 in
theorem zt_X14_readZone_J33 {p : Program} {l : Launch} {e : Env} {R : Room} {s : State} {m : MethodId} {args : Array Value} {below : List Frame} {meth : Method} {c : Code} {V : zm_V} {mc ms d rc rs : Nat} (hX : zm_X p R s m args meth c RX14 "readZone" cX14_readZone 6 zk_E V mc ms) (hr : meth.sig.returnType = none) (hR : R.frames = d ∧ R.locals = 64 * d) (hd : 4 ≤ d) {N : Nat} {a0 : Nat} {i1 : Int32} {t0 : Nat} {t1 : Int32} {out : (Unit × zm_S)} {S : zm_S} (h : zf_X14_readZone_J33 N a0 i1 t0 t1 S = some out) : zw p l e R s m args below meth c (vx_MQ below (zm_Qc zk_E V (zo_v out)) (zm_XC zk_E V zo_x) args s mc ms (fun q => V.2.2.2.1 ≤ q)) 6 zk_E V mc ms 33 [(0, .ref a0), (1, .int i1)] [.int t1, .ref t0] S rc rs := by
  unfold zf_X14_readZone_J33 at h
  obtain ⟨_, gi, h⟩ := zb_some h
  obtain ⟨r9, g, h⟩ := zb_some h
  refine zc_Vi (as := [.int t1]) hX gi (zt_X14_want (d := d - 1) (by omega) g) zl_X14_141 rfl dX14_readZone_33 ⟨rfl, rfl, Nat.le_of_ble_eq_true rfl⟩ ⟨by omega, by omega⟩ ?_
  refine zw_if_ne (tgt := 40) hX dX14_readZone_36 (by decide) (fun c36 => ?_) (fun c36 => ?_)
  · rw [if_neg c36] at h
    refine zw_aload_n hX dX14_readZone_40 rfl ?_
    refine zw_dup hX dX14_readZone_41 rfl ?_
    obtain ⟨v10, g, h⟩ := zb_some h
    refine zw_geti hX zl_X14_131 dX14_readZone_42 g ?_
    refine zw_iconst (v := (1 : Int32)) hX dX14_readZone_45 (by decide) ?_
    refine zw_iadd hX dX14_readZone_46 ?_
    obtain ⟨S11, g, h⟩ := zb_some h
    refine zw_putv hX zl_X14_131 zt_14_10 dX14_readZone_47 rfl rfl g ?_
    refine zw_aload_n hX dX14_readZone_50 rfl ?_
    refine zw_ldc (v := (20059310 : Int32)) hX dX14_readZone_51 zl_X14_117 ?_
    obtain ⟨_, gi, h⟩ := zb_some h
    obtain ⟨r14, g, h⟩ := zb_some h
    refine zc_Vv (as := [.int (20059310 : Int32)]) hX gi (zt_X14_take (d := d - 1) (by omega) g) zl_X14_153 rfl dX14_readZone_53 ⟨rfl, rfl, Nat.le_of_ble_eq_true rfl⟩ ⟨by omega, by omega⟩ ?_
    refine zw_aload_n hX dX14_readZone_56 rfl ?_
    obtain ⟨v15, g, h⟩ := zb_some h
    refine zw_geti hX zl_X14_131 dX14_readZone_57 g ?_
    refine zw_istore_n hX dX14_readZone_60 (by decide) ?_
    refine zw_aload_n hX dX14_readZone_61 rfl ?_
    refine zw_iconst (v := (1 : Int32)) hX dX14_readZone_62 (by decide) ?_
    refine zw_bipush (v := (12 : Int32)) hX dX14_readZone_63 (by decide) ?_
    obtain ⟨_, gi, h⟩ := zb_some h
    obtain ⟨r18, g, h⟩ := zb_some h
    refine zc_Vi (as := [.int (1 : Int32), .int (12 : Int32)]) hX gi (zt_X14_takeNumber (d := d - 1) (by omega) g) zl_X14_156 rfl dX14_readZone_65 ⟨rfl, rfl, Nat.le_of_ble_eq_true rfl⟩ ⟨by omega, by omega⟩ ?_
    refine zw_istore_n hX dX14_readZone_68 (by decide) ?_
    refine zw_aload_n hX dX14_readZone_69 rfl ?_
    refine zw_sipush (v := (207 : Int32)) hX dX14_readZone_70 (by decide) ?_
    obtain ⟨_, gi, h⟩ := zb_some h
    obtain ⟨r21, g, h⟩ := zb_some h
    refine zc_Vv (as := [.int (207 : Int32)]) hX gi (zt_X14_take (d := d - 1) (by omega) g) zl_X14_153 rfl dX14_readZone_73 ⟨rfl, rfl, Nat.le_of_ble_eq_true rfl⟩ ⟨by omega, by omega⟩ ?_
    refine zw_aload_n hX dX14_readZone_76 rfl ?_
    obtain ⟨b22, g, h⟩ := zb_some h
    refine zw_getr hX zl_X14_35 dX14_readZone_77 g ?_
    refine zw_iload_n hX dX14_readZone_80 rfl ?_
    refine zw_iconst (v := (0 : Int32)) hX dX14_readZone_81 (by decide) ?_
    obtain ⟨S23, g, h⟩ := zb_some h
    refine zw_si hX dX14_readZone_82 g ?_
    refine zw_iconst (v := (1 : Int32)) hX dX14_readZone_83 (by decide) ?_
    refine zw_istore hX dX14_readZone_84 (by decide) ?_
    obtain ⟨r, g, h⟩ := zb_some h
    refine zw_sub (lv' := [(0, .ref a0), (1, .int i1), (2, .int v15), (3, .int r18.1), (4, .int (1 : Int32))]) (List.forall_mem_cons.mpr ⟨rfl, (List.forall_mem_cons.mpr ⟨rfl, (List.forall_mem_cons.mpr ⟨rfl, (List.forall_mem_cons.mpr ⟨rfl, (List.forall_mem_cons.mpr ⟨rfl, zs_nil⟩)⟩)⟩)⟩)⟩) ?_
    refine zt_X14_readZone_L86 hX hr hR hd (res := r) (out := out) a0 i1 v15 r18.1 ?_ ?_ N _ _ g
    · intro o ho
      subst ho
      exact Option.some.inj h
    · intro  S50 hx
      subst hx
      try dsimp only at h
      refine zw_sub (lv' := [(0, .ref a0), (1, .int i1), (2, .int v15), (3, .int r18.1)]) (List.forall_mem_cons.mpr ⟨rfl, (List.forall_mem_cons.mpr ⟨rfl, (List.forall_mem_cons.mpr ⟨rfl, (List.forall_mem_cons.mpr ⟨rfl, zs_nil⟩)⟩)⟩)⟩) ?_
      exact zt_X14_readZone_J208 hX hr hR hd h
  · rw [if_pos c36] at h
    obtain rfl := Option.some.inj h
    exact zw_vret hX hr dX14_readZone_39 ⟨rfl, rfl⟩
def zf_X14_readZone (N : Nat) (a0 : Nat) (S : zm_S) : Option (Unit × zm_S) := (zi S a0 14).bind (fun _ => (zf_X14_look N a0 (0 : Int32) (19 : Int32) S).bind (fun r3 => (zg_i r3.2 a0 14 11).bind (fun v4 => if 0 ≤ v4 then some ((), r3.2) else (zg_r r3.2 a0 14 12).bind (fun b5 => (za_x r3.2 2 b5 (r3.1 + (20 : Int32))).bind (fun v6 => if v6 = 0 then zf_X14_readZone_J33 N a0 (r3.1 + (20 : Int32)) a0 (1 : Int32) r3.2 else zf_X14_readZone_J33 N a0 (r3.1 + (20 : Int32)) a0 (0 : Int32) r3.2)))))
set_option maxHeartbeats 4000000 in
set_option maxRecDepth 100000 in
theorem zt_X14_readZone {l : Launch} {V : zm_V} {N : Nat} {S : zm_S} {out : (Unit × zm_S)} {d : Nat} {a0 : Nat} (hd : 4 ≤ d) (h : zf_X14_readZone N a0 S = some out) : zm_Met l zk_E V yX14_readZone (.code yX14_readZone cX14_readZone 6 none) d [.ref a0] S 0 0 (zo_v out) zo_x := by
  refine zm_of (by decide +kernel) (Nat.le_of_ble_eq_true rfl) ?_
  intro p e R s m args below meth c hRR hX hr hxt
  have hR : R.frames = d ∧ R.locals = 64 * d := by rw [hRR]; exact ⟨rfl, rfl⟩
  have hX : zm_X p R s m args meth c RX14 "readZone" cX14_readZone 6 zk_E V 0 0 := hX
  unfold zf_X14_readZone at h
  refine zw_sub (lv' := [(0, .ref a0)]) (List.forall_mem_cons.mpr ⟨rfl, zs_nil⟩) ?_
  refine zw_aload_n hX dX14_readZone_0 rfl ?_
  refine zw_iconst (v := (0 : Int32)) hX dX14_readZone_1 (by decide) ?_
  refine zw_bipush (v := (19 : Int32)) hX dX14_readZone_2 (by decide) ?_
  obtain ⟨_, gi, h⟩ := zb_some h
  obtain ⟨r3, g, h⟩ := zb_some h
  refine zc_Vi (as := [.int (0 : Int32), .int (19 : Int32)]) hX gi (zt_X14_look (d := d - 1) (by omega) g) zl_X14_149 rfl dX14_readZone_4 ⟨rfl, rfl, Nat.le_of_ble_eq_true rfl⟩ ⟨by omega, by omega⟩ ?_
  refine zw_bipush (v := (20 : Int32)) hX dX14_readZone_7 (by decide) ?_
  refine zw_iadd hX dX14_readZone_9 ?_
  refine zw_istore_n hX dX14_readZone_10 (by decide) ?_
  refine zw_aload_n hX dX14_readZone_11 rfl ?_
  obtain ⟨v4, g, h⟩ := zb_some h
  refine zw_geti hX zl_X14_134 dX14_readZone_12 g ?_
  refine zw_if_ge (tgt := 39) hX dX14_readZone_15 (by decide) (fun c15 => ?_) (fun c15 => ?_)
  · rw [if_pos c15] at h
    obtain rfl := Option.some.inj h
    exact zw_vret hX hr dX14_readZone_39 ⟨rfl, rfl⟩
  · rw [if_neg c15] at h
    refine zw_aload_n hX dX14_readZone_18 rfl ?_
    refine zw_aload_n hX dX14_readZone_19 rfl ?_
    obtain ⟨b5, g, h⟩ := zb_some h
    refine zw_getr hX zl_X14_29 dX14_readZone_20 g ?_
    refine zw_iload_n hX dX14_readZone_23 rfl ?_
    obtain ⟨v6, g, h⟩ := zb_some h
    refine zw_xz hX dX14_readZone_24 g ?_
    refine zw_if_ne (tgt := 32) hX dX14_readZone_25 (by decide) (fun c25 => ?_) (fun c25 => ?_)
    · rw [if_neg c25] at h
      refine zw_iconst (v := (0 : Int32)) hX dX14_readZone_32 (by decide) ?_
      refine zw_sub (lv' := [(0, .ref a0), (1, .int (r3.1 + (20 : Int32)))]) (List.forall_mem_cons.mpr ⟨rfl, (List.forall_mem_cons.mpr ⟨rfl, zs_nil⟩)⟩) ?_
      exact zt_X14_readZone_J33 hX hr hR hd h
    · rw [if_pos c25] at h
      refine zw_iconst (v := (1 : Int32)) hX dX14_readZone_28 (by decide) ?_
      refine zw_goto (tgt := 33) hX dX14_readZone_29 (by decide) ?_
      refine zw_sub (lv' := [(0, .ref a0), (1, .int (r3.1 + (20 : Int32)))]) (List.forall_mem_cons.mpr ⟨rfl, (List.forall_mem_cons.mpr ⟨rfl, zs_nil⟩)⟩) ?_
      exact zt_X14_readZone_J33 hX hr hR hd h
def zf_X14_readAct_J33 (N : Nat) (a0 : Nat) (i1 : Int32) (t0 : Nat) (t1 : Int32) (S : zm_S) : Option (Unit × zm_S) := (zi S t0 14).bind (fun _ => (zf_X14_want N t0 t1 S).bind (fun r9 => if r9.1 = 0 then some ((), r9.2) else (zg_i r9.2 a0 14 10).bind (fun v10 => (zp r9.2 a0 14 10 (.int (v10 + (1 : Int32)))).bind (fun S11 => (zi S11 a0 14).bind (fun _ => (zf_X14_take N a0 (145707 : Int32) S11).bind (fun r14 => (zg_r r14.2 a0 14 17).bind (fun b15 => (zi r14.2 a0 14).bind (fun _ => (zf_X14_takeNumber N a0 (0 : Int32) (5 : Int32) r14.2).bind (fun r18 => (zs_i r18.2 b15 i1 r18.1).bind (fun S19 => (zi S19 a0 14).bind (fun _ => (zf_X14_take N a0 (374834 : Int32) S19).bind (fun r22 => (zg_r r22.2 a0 14 18).bind (fun b23 => (zi r22.2 a0 14).bind (fun _ => (zf_X14_takeNumber N a0 (0 : Int32) (99 : Int32) r22.2).bind (fun r26 => (zs_i r26.2 b23 i1 r26.1).bind (fun S27 => (zi S27 a0 14).bind (fun _ => (zf_X14_take N a0 (26259620 : Int32) S27).bind (fun r30 => (zg_r r30.2 a0 14 19).bind (fun b31 => (zi r30.2 a0 14).bind (fun _ => (zf_X14_takeNumber N a0 (0 : Int32) (600 : Int32) r30.2).bind (fun r34 => (zs_i r34.2 b31 i1 r34.1).bind (fun S35 => (zi S35 a0 14).bind (fun _ => (zf_X14_takeStop N a0 S35).bind (fun r38 => (zg_r r38.2 a0 14 16).bind (fun b39 => (zs_z r38.2 b39 i1 (1 : Int32)).bind (fun S40 => (zg_r S40 a0 14 20).bind (fun b41 => (zs_z S40 b41 i1 (0 : Int32)).bind (fun S42 => some ((), S42)))))))))))))))))))))))))))))
set_option maxHeartbeats 4000000 in
set_option maxRecDepth 100000 in
theorem zt_X14_readAct_J33 {p : Program} {l : Launch} {e : Env} {R : Room} {s : State} {m : MethodId} {args : Array Value} {below : List Frame} {meth : Method} {c : Code} {V : zm_V} {mc ms d rc rs : Nat} (hX : zm_X p R s m args meth c RX14 "readAct" cX14_readAct 2 zk_E V mc ms) (hr : meth.sig.returnType = none) (hR : R.frames = d ∧ R.locals = 64 * d) (hd : 4 ≤ d) {N : Nat} {a0 : Nat} {i1 : Int32} {t0 : Nat} {t1 : Int32} {out : (Unit × zm_S)} {S : zm_S} (h : zf_X14_readAct_J33 N a0 i1 t0 t1 S = some out) : zw p l e R s m args below meth c (vx_MQ below (zm_Qc zk_E V (zo_v out)) (zm_XC zk_E V zo_x) args s mc ms (fun q => V.2.2.2.1 ≤ q)) 2 zk_E V mc ms 33 [(0, .ref a0), (1, .int i1)] [.int t1, .ref t0] S rc rs := by
  unfold zf_X14_readAct_J33 at h
  obtain ⟨_, gi, h⟩ := zb_some h
  obtain ⟨r9, g, h⟩ := zb_some h
  refine zc_Vi (as := [.int t1]) hX gi (zt_X14_want (d := d - 1) (by omega) g) zl_X14_141 rfl dX14_readAct_33 ⟨rfl, rfl, Nat.le_of_ble_eq_true rfl⟩ ⟨by omega, by omega⟩ ?_
  refine zw_if_ne (tgt := 40) hX dX14_readAct_36 (by decide) (fun c36 => ?_) (fun c36 => ?_)
  · rw [if_neg c36] at h
    refine zw_aload_n hX dX14_readAct_40 rfl ?_
    refine zw_dup hX dX14_readAct_41 rfl ?_
    obtain ⟨v10, g, h⟩ := zb_some h
    refine zw_geti hX zl_X14_131 dX14_readAct_42 g ?_
    refine zw_iconst (v := (1 : Int32)) hX dX14_readAct_45 (by decide) ?_
    refine zw_iadd hX dX14_readAct_46 ?_
    obtain ⟨S11, g, h⟩ := zb_some h
    refine zw_putv hX zl_X14_131 zt_14_10 dX14_readAct_47 rfl rfl g ?_
    refine zw_aload_n hX dX14_readAct_50 rfl ?_
    refine zw_ldc (v := (145707 : Int32)) hX dX14_readAct_51 zl_X14_118 ?_
    obtain ⟨_, gi, h⟩ := zb_some h
    obtain ⟨r14, g, h⟩ := zb_some h
    refine zc_Vv (as := [.int (145707 : Int32)]) hX gi (zt_X14_take (d := d - 1) (by omega) g) zl_X14_153 rfl dX14_readAct_53 ⟨rfl, rfl, Nat.le_of_ble_eq_true rfl⟩ ⟨by omega, by omega⟩ ?_
    refine zw_aload_n hX dX14_readAct_56 rfl ?_
    obtain ⟨b15, g, h⟩ := zb_some h
    refine zw_getr hX zl_X14_44 dX14_readAct_57 g ?_
    refine zw_iload_n hX dX14_readAct_60 rfl ?_
    refine zw_aload_n hX dX14_readAct_61 rfl ?_
    refine zw_iconst (v := (0 : Int32)) hX dX14_readAct_62 (by decide) ?_
    refine zw_iconst (v := (5 : Int32)) hX dX14_readAct_63 (by decide) ?_
    obtain ⟨_, gi, h⟩ := zb_some h
    obtain ⟨r18, g, h⟩ := zb_some h
    refine zc_Vi (as := [.int (0 : Int32), .int (5 : Int32)]) hX gi (zt_X14_takeNumber (d := d - 1) (by omega) g) zl_X14_156 rfl dX14_readAct_64 ⟨rfl, rfl, Nat.le_of_ble_eq_true rfl⟩ ⟨by omega, by omega⟩ ?_
    obtain ⟨S19, g, h⟩ := zb_some h
    refine zw_si hX dX14_readAct_67 g ?_
    refine zw_aload_n hX dX14_readAct_68 rfl ?_
    refine zw_ldc (v := (374834 : Int32)) hX dX14_readAct_69 zl_X14_119 ?_
    obtain ⟨_, gi, h⟩ := zb_some h
    obtain ⟨r22, g, h⟩ := zb_some h
    refine zc_Vv (as := [.int (374834 : Int32)]) hX gi (zt_X14_take (d := d - 1) (by omega) g) zl_X14_153 rfl dX14_readAct_71 ⟨rfl, rfl, Nat.le_of_ble_eq_true rfl⟩ ⟨by omega, by omega⟩ ?_
    refine zw_aload_n hX dX14_readAct_74 rfl ?_
    obtain ⟨b23, g, h⟩ := zb_some h
    refine zw_getr hX zl_X14_47 dX14_readAct_75 g ?_
    refine zw_iload_n hX dX14_readAct_78 rfl ?_
    refine zw_aload_n hX dX14_readAct_79 rfl ?_
    refine zw_iconst (v := (0 : Int32)) hX dX14_readAct_80 (by decide) ?_
    refine zw_bipush (v := (99 : Int32)) hX dX14_readAct_81 (by decide) ?_
    obtain ⟨_, gi, h⟩ := zb_some h
    obtain ⟨r26, g, h⟩ := zb_some h
    refine zc_Vi (as := [.int (0 : Int32), .int (99 : Int32)]) hX gi (zt_X14_takeNumber (d := d - 1) (by omega) g) zl_X14_156 rfl dX14_readAct_83 ⟨rfl, rfl, Nat.le_of_ble_eq_true rfl⟩ ⟨by omega, by omega⟩ ?_
    obtain ⟨S27, g, h⟩ := zb_some h
    refine zw_si hX dX14_readAct_86 g ?_
    refine zw_aload_n hX dX14_readAct_87 rfl ?_
    refine zw_ldc (v := (26259620 : Int32)) hX dX14_readAct_88 zl_X14_120 ?_
    obtain ⟨_, gi, h⟩ := zb_some h
    obtain ⟨r30, g, h⟩ := zb_some h
    refine zc_Vv (as := [.int (26259620 : Int32)]) hX gi (zt_X14_take (d := d - 1) (by omega) g) zl_X14_153 rfl dX14_readAct_90 ⟨rfl, rfl, Nat.le_of_ble_eq_true rfl⟩ ⟨by omega, by omega⟩ ?_
    refine zw_aload_n hX dX14_readAct_93 rfl ?_
    obtain ⟨b31, g, h⟩ := zb_some h
    refine zw_getr hX zl_X14_50 dX14_readAct_94 g ?_
    refine zw_iload_n hX dX14_readAct_97 rfl ?_
    refine zw_aload_n hX dX14_readAct_98 rfl ?_
    refine zw_iconst (v := (0 : Int32)) hX dX14_readAct_99 (by decide) ?_
    refine zw_sipush (v := (600 : Int32)) hX dX14_readAct_100 (by decide) ?_
    obtain ⟨_, gi, h⟩ := zb_some h
    obtain ⟨r34, g, h⟩ := zb_some h
    refine zc_Vi (as := [.int (0 : Int32), .int (600 : Int32)]) hX gi (zt_X14_takeNumber (d := d - 1) (by omega) g) zl_X14_156 rfl dX14_readAct_103 ⟨rfl, rfl, Nat.le_of_ble_eq_true rfl⟩ ⟨by omega, by omega⟩ ?_
    obtain ⟨S35, g, h⟩ := zb_some h
    refine zw_si hX dX14_readAct_106 g ?_
    refine zw_aload_n hX dX14_readAct_107 rfl ?_
    obtain ⟨_, gi, h⟩ := zb_some h
    obtain ⟨r38, g, h⟩ := zb_some h
    refine zc_Vv (as := []) hX gi (zt_X14_takeStop (d := d - 1) (by omega) g) zl_X14_166 rfl dX14_readAct_108 ⟨rfl, rfl, Nat.le_of_ble_eq_true rfl⟩ ⟨by omega, by omega⟩ ?_
    refine zw_aload_n hX dX14_readAct_111 rfl ?_
    obtain ⟨b39, g, h⟩ := zb_some h
    refine zw_getr hX zl_X14_41 dX14_readAct_112 g ?_
    refine zw_iload_n hX dX14_readAct_115 rfl ?_
    refine zw_iconst (v := (1 : Int32)) hX dX14_readAct_116 (by decide) ?_
    obtain ⟨S40, g, h⟩ := zb_some h
    refine zw_sz hX dX14_readAct_117 g ?_
    refine zw_aload_n hX dX14_readAct_118 rfl ?_
    obtain ⟨b41, g, h⟩ := zb_some h
    refine zw_getr hX zl_X14_53 dX14_readAct_119 g ?_
    refine zw_iload_n hX dX14_readAct_122 rfl ?_
    refine zw_iconst (v := (0 : Int32)) hX dX14_readAct_123 (by decide) ?_
    obtain ⟨S42, g, h⟩ := zb_some h
    refine zw_sz hX dX14_readAct_124 g ?_
    obtain rfl := Option.some.inj h
    exact zw_vret hX hr dX14_readAct_125 ⟨rfl, rfl⟩
  · rw [if_pos c36] at h
    obtain rfl := Option.some.inj h
    exact zw_vret hX hr dX14_readAct_39 ⟨rfl, rfl⟩
def zf_X14_readAct (N : Nat) (a0 : Nat) (S : zm_S) : Option (Unit × zm_S) := (zi S a0 14).bind (fun _ => (zf_X14_look N a0 (0 : Int32) (19 : Int32) S).bind (fun r3 => (zg_i r3.2 a0 14 11).bind (fun v4 => if 0 ≤ v4 then some ((), r3.2) else (zg_r r3.2 a0 14 16).bind (fun b5 => (za_x r3.2 2 b5 (r3.1 + (20 : Int32))).bind (fun v6 => if v6 = 0 then zf_X14_readAct_J33 N a0 (r3.1 + (20 : Int32)) a0 (1 : Int32) r3.2 else zf_X14_readAct_J33 N a0 (r3.1 + (20 : Int32)) a0 (0 : Int32) r3.2)))))
set_option maxHeartbeats 4000000 in
set_option maxRecDepth 100000 in
theorem zt_X14_readAct {l : Launch} {V : zm_V} {N : Nat} {S : zm_S} {out : (Unit × zm_S)} {d : Nat} {a0 : Nat} (hd : 4 ≤ d) (h : zf_X14_readAct N a0 S = some out) : zm_Met l zk_E V yX14_readAct (.code yX14_readAct cX14_readAct 2 none) d [.ref a0] S 0 0 (zo_v out) zo_x := by
  refine zm_of (by decide +kernel) (Nat.le_of_ble_eq_true rfl) ?_
  intro p e R s m args below meth c hRR hX hr hxt
  have hR : R.frames = d ∧ R.locals = 64 * d := by rw [hRR]; exact ⟨rfl, rfl⟩
  have hX : zm_X p R s m args meth c RX14 "readAct" cX14_readAct 2 zk_E V 0 0 := hX
  unfold zf_X14_readAct at h
  refine zw_sub (lv' := [(0, .ref a0)]) (List.forall_mem_cons.mpr ⟨rfl, zs_nil⟩) ?_
  refine zw_aload_n hX dX14_readAct_0 rfl ?_
  refine zw_iconst (v := (0 : Int32)) hX dX14_readAct_1 (by decide) ?_
  refine zw_bipush (v := (19 : Int32)) hX dX14_readAct_2 (by decide) ?_
  obtain ⟨_, gi, h⟩ := zb_some h
  obtain ⟨r3, g, h⟩ := zb_some h
  refine zc_Vi (as := [.int (0 : Int32), .int (19 : Int32)]) hX gi (zt_X14_look (d := d - 1) (by omega) g) zl_X14_149 rfl dX14_readAct_4 ⟨rfl, rfl, Nat.le_of_ble_eq_true rfl⟩ ⟨by omega, by omega⟩ ?_
  refine zw_bipush (v := (20 : Int32)) hX dX14_readAct_7 (by decide) ?_
  refine zw_iadd hX dX14_readAct_9 ?_
  refine zw_istore_n hX dX14_readAct_10 (by decide) ?_
  refine zw_aload_n hX dX14_readAct_11 rfl ?_
  obtain ⟨v4, g, h⟩ := zb_some h
  refine zw_geti hX zl_X14_134 dX14_readAct_12 g ?_
  refine zw_if_ge (tgt := 39) hX dX14_readAct_15 (by decide) (fun c15 => ?_) (fun c15 => ?_)
  · rw [if_pos c15] at h
    obtain rfl := Option.some.inj h
    exact zw_vret hX hr dX14_readAct_39 ⟨rfl, rfl⟩
  · rw [if_neg c15] at h
    refine zw_aload_n hX dX14_readAct_18 rfl ?_
    refine zw_aload_n hX dX14_readAct_19 rfl ?_
    obtain ⟨b5, g, h⟩ := zb_some h
    refine zw_getr hX zl_X14_41 dX14_readAct_20 g ?_
    refine zw_iload_n hX dX14_readAct_23 rfl ?_
    obtain ⟨v6, g, h⟩ := zb_some h
    refine zw_xz hX dX14_readAct_24 g ?_
    refine zw_if_ne (tgt := 32) hX dX14_readAct_25 (by decide) (fun c25 => ?_) (fun c25 => ?_)
    · rw [if_neg c25] at h
      refine zw_iconst (v := (0 : Int32)) hX dX14_readAct_32 (by decide) ?_
      refine zw_sub (lv' := [(0, .ref a0), (1, .int (r3.1 + (20 : Int32)))]) (List.forall_mem_cons.mpr ⟨rfl, (List.forall_mem_cons.mpr ⟨rfl, zs_nil⟩)⟩) ?_
      exact zt_X14_readAct_J33 hX hr hR hd h
    · rw [if_pos c25] at h
      refine zw_iconst (v := (1 : Int32)) hX dX14_readAct_28 (by decide) ?_
      refine zw_goto (tgt := 33) hX dX14_readAct_29 (by decide) ?_
      refine zw_sub (lv' := [(0, .ref a0), (1, .int (r3.1 + (20 : Int32)))]) (List.forall_mem_cons.mpr ⟨rfl, (List.forall_mem_cons.mpr ⟨rfl, zs_nil⟩)⟩) ?_
      exact zt_X14_readAct_J33 hX hr hR hd h
def zf_X14_takeZone_J38 (N : Nat) (a0 : Nat) (i2 : Int32) (t0 : Nat) (t1 : Int32) (S : zm_S) : Option (Int32 × zm_S) := (zi S t0 14).bind (fun _ => (zf_X14_want N t0 t1 S).bind (fun r9 => if r9.1 = 0 then some (i2, r9.2) else (zg_i r9.2 a0 14 10).bind (fun v10 => (zp r9.2 a0 14 10 (.int (v10 + (1 : Int32)))).bind (fun S11 => some (i2, S11)))))
set_option maxHeartbeats 4000000 in
set_option maxRecDepth 100000 in
theorem zt_X14_takeZone_J38 {p : Program} {l : Launch} {e : Env} {R : Room} {s : State} {m : MethodId} {args : Array Value} {below : List Frame} {meth : Method} {c : Code} {V : zm_V} {mc ms d rc rs : Nat} (hX : zm_X p R s m args meth c RX14 "takeZone" cX14_takeZone 3 zk_E V mc ms) (hr : meth.sig.returnType = (some .int)) (hR : R.frames = d ∧ R.locals = 64 * d) (hd : 3 ≤ d) {N : Nat} {a0 : Nat} {i2 : Int32} {t0 : Nat} {t1 : Int32} {out : (Int32 × zm_S)} {S : zm_S} (h : zf_X14_takeZone_J38 N a0 i2 t0 t1 S = some out) : zw p l e R s m args below meth c (vx_MQ below (zm_Qc zk_E V (zo_i out)) (zm_XC zk_E V zo_x) args s mc ms (fun q => V.2.2.2.1 ≤ q)) 3 zk_E V mc ms 38 [(0, .ref a0), (2, .int i2)] [.int t1, .ref t0] S rc rs := by
  unfold zf_X14_takeZone_J38 at h
  obtain ⟨_, gi, h⟩ := zb_some h
  obtain ⟨r9, g, h⟩ := zb_some h
  refine zc_Vi (as := [.int t1]) hX gi (zt_X14_want (d := d - 1) (by omega) g) zl_X14_141 rfl dX14_takeZone_38 ⟨rfl, rfl, Nat.le_of_ble_eq_true rfl⟩ ⟨by omega, by omega⟩ ?_
  refine zw_if_eq (tgt := 54) hX dX14_takeZone_41 (by decide) (fun c41 => ?_) (fun c41 => ?_)
  · rw [if_pos c41] at h
    refine zw_iload_n hX dX14_takeZone_54 rfl ?_
    obtain rfl := Option.some.inj h
    exact zw_iret hX hr dX14_takeZone_55 rfl ⟨rfl, rfl⟩
  · rw [if_neg c41] at h
    refine zw_aload_n hX dX14_takeZone_44 rfl ?_
    refine zw_dup hX dX14_takeZone_45 rfl ?_
    obtain ⟨v10, g, h⟩ := zb_some h
    refine zw_geti hX zl_X14_131 dX14_takeZone_46 g ?_
    refine zw_iconst (v := (1 : Int32)) hX dX14_takeZone_49 (by decide) ?_
    refine zw_iadd hX dX14_takeZone_50 ?_
    obtain ⟨S11, g, h⟩ := zb_some h
    refine zw_putv hX zl_X14_131 zt_14_10 dX14_takeZone_51 rfl rfl g ?_
    refine zw_iload_n hX dX14_takeZone_54 rfl ?_
    obtain rfl := Option.some.inj h
    exact zw_iret hX hr dX14_takeZone_55 rfl ⟨rfl, rfl⟩
def zf_X14_takeZone_J37 (N : Nat) (a0 : Nat) (i2 : Int32) (t0 : Nat) (S : zm_S) : Option (Int32 × zm_S) := zf_X14_takeZone_J38 N a0 i2 t0 (0 : Int32) S
set_option maxHeartbeats 4000000 in
set_option maxRecDepth 100000 in
theorem zt_X14_takeZone_J37 {p : Program} {l : Launch} {e : Env} {R : Room} {s : State} {m : MethodId} {args : Array Value} {below : List Frame} {meth : Method} {c : Code} {V : zm_V} {mc ms d rc rs : Nat} (hX : zm_X p R s m args meth c RX14 "takeZone" cX14_takeZone 3 zk_E V mc ms) (hr : meth.sig.returnType = (some .int)) (hR : R.frames = d ∧ R.locals = 64 * d) (hd : 3 ≤ d) {N : Nat} {a0 : Nat} {i2 : Int32} {t0 : Nat} {out : (Int32 × zm_S)} {S : zm_S} (h : zf_X14_takeZone_J37 N a0 i2 t0 S = some out) : zw p l e R s m args below meth c (vx_MQ below (zm_Qc zk_E V (zo_i out)) (zm_XC zk_E V zo_x) args s mc ms (fun q => V.2.2.2.1 ≤ q)) 3 zk_E V mc ms 37 [(0, .ref a0), (2, .int i2)] [.ref t0] S rc rs := by
  unfold zf_X14_takeZone_J37 at h
  refine zw_iconst (v := (0 : Int32)) hX dX14_takeZone_37 (by decide) ?_
  refine zw_sub (lv' := [(0, .ref a0), (2, .int i2)]) (List.forall_mem_cons.mpr ⟨rfl, (List.forall_mem_cons.mpr ⟨rfl, zs_nil⟩)⟩) ?_
  exact zt_X14_takeZone_J38 hX hr hR hd h
def zf_X14_takeZone (N : Nat) (a0 : Nat) (i1 : Int32) (S : zm_S) : Option (Int32 × zm_S) := (zi S a0 14).bind (fun _ => (zf_X14_look N a0 (0 : Int32) (19 : Int32) S).bind (fun r3 => (zg_i r3.2 a0 14 11).bind (fun v4 => if 0 ≤ v4 then some (r3.1, r3.2) else (zg_r r3.2 a0 14 12).bind (fun b5 => (za_x r3.2 2 b5 ((20 : Int32) + r3.1)).bind (fun v6 => if v6 = 0 then zf_X14_takeZone_J37 N a0 r3.1 a0 r3.2 else if r3.1 = i1 then zf_X14_takeZone_J37 N a0 r3.1 a0 r3.2 else zf_X14_takeZone_J38 N a0 r3.1 a0 (1 : Int32) r3.2)))))
set_option maxHeartbeats 4000000 in
set_option maxRecDepth 100000 in
theorem zt_X14_takeZone {l : Launch} {V : zm_V} {N : Nat} {S : zm_S} {out : (Int32 × zm_S)} {d : Nat} {a0 : Nat} {i1 : Int32} (hd : 3 ≤ d) (h : zf_X14_takeZone N a0 i1 S = some out) : zm_Met l zk_E V yX14_takeZone (.code yX14_takeZone cX14_takeZone 3 (some .int)) d [.ref a0, .int i1] S 0 0 (zo_i out) zo_x := by
  refine zm_of (by decide +kernel) (Nat.le_of_ble_eq_true rfl) ?_
  intro p e R s m args below meth c hRR hX hr hxt
  have hR : R.frames = d ∧ R.locals = 64 * d := by rw [hRR]; exact ⟨rfl, rfl⟩
  have hX : zm_X p R s m args meth c RX14 "takeZone" cX14_takeZone 3 zk_E V 0 0 := hX
  unfold zf_X14_takeZone at h
  refine zw_sub (lv' := [(0, .ref a0), (1, .int i1)]) (List.forall_mem_cons.mpr ⟨rfl, (List.forall_mem_cons.mpr ⟨rfl, zs_nil⟩)⟩) ?_
  refine zw_aload_n hX dX14_takeZone_0 rfl ?_
  refine zw_iconst (v := (0 : Int32)) hX dX14_takeZone_1 (by decide) ?_
  refine zw_bipush (v := (19 : Int32)) hX dX14_takeZone_2 (by decide) ?_
  obtain ⟨_, gi, h⟩ := zb_some h
  obtain ⟨r3, g, h⟩ := zb_some h
  refine zc_Vi (as := [.int (0 : Int32), .int (19 : Int32)]) hX gi (zt_X14_look (d := d - 1) (by omega) g) zl_X14_149 rfl dX14_takeZone_4 ⟨rfl, rfl, Nat.le_of_ble_eq_true rfl⟩ ⟨by omega, by omega⟩ ?_
  refine zw_istore_n hX dX14_takeZone_7 (by decide) ?_
  refine zw_aload_n hX dX14_takeZone_8 rfl ?_
  obtain ⟨v4, g, h⟩ := zb_some h
  refine zw_geti hX zl_X14_134 dX14_takeZone_9 g ?_
  refine zw_if_ge (tgt := 54) hX dX14_takeZone_12 (by decide) (fun c12 => ?_) (fun c12 => ?_)
  · rw [if_pos c12] at h
    refine zw_iload_n hX dX14_takeZone_54 rfl ?_
    obtain rfl := Option.some.inj h
    exact zw_iret hX hr dX14_takeZone_55 rfl ⟨rfl, rfl⟩
  · rw [if_neg c12] at h
    refine zw_aload_n hX dX14_takeZone_15 rfl ?_
    refine zw_aload_n hX dX14_takeZone_16 rfl ?_
    obtain ⟨b5, g, h⟩ := zb_some h
    refine zw_getr hX zl_X14_29 dX14_takeZone_17 g ?_
    refine zw_bipush (v := (20 : Int32)) hX dX14_takeZone_20 (by decide) ?_
    refine zw_iload_n hX dX14_takeZone_22 rfl ?_
    refine zw_iadd hX dX14_takeZone_23 ?_
    obtain ⟨v6, g, h⟩ := zb_some h
    refine zw_xz hX dX14_takeZone_24 g ?_
    refine zw_if_eq (tgt := 37) hX dX14_takeZone_25 (by decide) (fun c25 => ?_) (fun c25 => ?_)
    · rw [if_pos c25] at h
      refine zw_sub (lv' := [(0, .ref a0), (2, .int r3.1)]) (List.forall_mem_cons.mpr ⟨rfl, (List.forall_mem_cons.mpr ⟨rfl, zs_nil⟩)⟩) ?_
      exact zt_X14_takeZone_J37 hX hr hR hd h
    · rw [if_neg c25] at h
      refine zw_iload_n hX dX14_takeZone_28 rfl ?_
      refine zw_iload_n hX dX14_takeZone_29 rfl ?_
      refine zw_icmp_eq (tgt := 37) hX dX14_takeZone_30 (by decide) (fun c30 => ?_) (fun c30 => ?_)
      · rw [if_pos c30] at h
        refine zw_sub (lv' := [(0, .ref a0), (2, .int r3.1)]) (List.forall_mem_cons.mpr ⟨rfl, (List.forall_mem_cons.mpr ⟨rfl, zs_nil⟩)⟩) ?_
        exact zt_X14_takeZone_J37 hX hr hR hd h
      · rw [if_neg c30] at h
        refine zw_iconst (v := (1 : Int32)) hX dX14_takeZone_33 (by decide) ?_
        refine zw_goto (tgt := 38) hX dX14_takeZone_34 (by decide) ?_
        refine zw_sub (lv' := [(0, .ref a0), (2, .int r3.1)]) (List.forall_mem_cons.mpr ⟨rfl, (List.forall_mem_cons.mpr ⟨rfl, zs_nil⟩)⟩) ?_
        exact zt_X14_takeZone_J38 hX hr hR hd h
def zf_X14_readRow_J98 (N : Nat) (a0 : Nat) (i1 : Int32) (i2 : Int32) (i3 : Int32) (S : zm_S) : Option (Unit × zm_S) := (zi S a0 14).bind (fun _ => (zf_X14_takeStop N a0 S).bind (fun r12 => (zg_i r12.2 a0 14 11).bind (fun v13 => if 0 ≤ v13 then some ((), r12.2) else (zg_r r12.2 a0 14 23).bind (fun b14 => (zg_i r12.2 a0 14 22).bind (fun v15 => (zs_i r12.2 b14 ((50 : Int32) + v15) i1).bind (fun S16 => (zg_r S16 a0 14 24).bind (fun b17 => (zg_i S16 a0 14 22).bind (fun v18 => (zs_i S16 b17 ((50 : Int32) + v18) i2).bind (fun S19 => (zg_r S19 a0 14 25).bind (fun b20 => (zg_i S19 a0 14 22).bind (fun v21 => (zs_i S19 b20 ((50 : Int32) + v21) i3).bind (fun S22 => (zg_i S22 a0 14 22).bind (fun v23 => (zp S22 a0 14 22 (.int (v23 + (1 : Int32)))).bind (fun S24 => some ((), S24)))))))))))))))
set_option maxHeartbeats 4000000 in
set_option maxRecDepth 100000 in
theorem zt_X14_readRow_J98 {p : Program} {l : Launch} {e : Env} {R : Room} {s : State} {m : MethodId} {args : Array Value} {below : List Frame} {meth : Method} {c : Code} {V : zm_V} {mc ms d rc rs : Nat} (hX : zm_X p R s m args meth c RX14 "readRow" cX14_readRow 4 zk_E V mc ms) (hr : meth.sig.returnType = none) (hR : R.frames = d ∧ R.locals = 64 * d) (hd : 4 ≤ d) {N : Nat} {a0 : Nat} {i1 : Int32} {i2 : Int32} {i3 : Int32} {out : (Unit × zm_S)} {S : zm_S} (h : zf_X14_readRow_J98 N a0 i1 i2 i3 S = some out) : zw p l e R s m args below meth c (vx_MQ below (zm_Qc zk_E V (zo_v out)) (zm_XC zk_E V zo_x) args s mc ms (fun q => V.2.2.2.1 ≤ q)) 4 zk_E V mc ms 98 [(0, .ref a0), (1, .int i1), (2, .int i2), (3, .int i3)] [] S rc rs := by
  unfold zf_X14_readRow_J98 at h
  refine zw_aload_n hX dX14_readRow_98 rfl ?_
  obtain ⟨_, gi, h⟩ := zb_some h
  obtain ⟨r12, g, h⟩ := zb_some h
  refine zc_Vv (as := []) hX gi (zt_X14_takeStop (d := d - 1) (by omega) g) zl_X14_166 rfl dX14_readRow_99 ⟨rfl, rfl, Nat.le_of_ble_eq_true rfl⟩ ⟨by omega, by omega⟩ ?_
  refine zw_aload_n hX dX14_readRow_102 rfl ?_
  obtain ⟨v13, g, h⟩ := zb_some h
  refine zw_geti hX zl_X14_134 dX14_readRow_103 g ?_
  refine zw_if_ge (tgt := 158) hX dX14_readRow_106 (by decide) (fun c106 => ?_) (fun c106 => ?_)
  · rw [if_pos c106] at h
    obtain rfl := Option.some.inj h
    exact zw_vret hX hr dX14_readRow_158 ⟨rfl, rfl⟩
  · rw [if_neg c106] at h
    refine zw_aload_n hX dX14_readRow_109 rfl ?_
    obtain ⟨b14, g, h⟩ := zb_some h
    refine zw_getr hX zl_X14_56 dX14_readRow_110 g ?_
    refine zw_bipush (v := (50 : Int32)) hX dX14_readRow_113 (by decide) ?_
    refine zw_aload_n hX dX14_readRow_115 rfl ?_
    obtain ⟨v15, g, h⟩ := zb_some h
    refine zw_geti hX zl_X14_172 dX14_readRow_116 g ?_
    refine zw_iadd hX dX14_readRow_119 ?_
    refine zw_iload_n hX dX14_readRow_120 rfl ?_
    obtain ⟨S16, g, h⟩ := zb_some h
    refine zw_si hX dX14_readRow_121 g ?_
    refine zw_aload_n hX dX14_readRow_122 rfl ?_
    obtain ⟨b17, g, h⟩ := zb_some h
    refine zw_getr hX zl_X14_59 dX14_readRow_123 g ?_
    refine zw_bipush (v := (50 : Int32)) hX dX14_readRow_126 (by decide) ?_
    refine zw_aload_n hX dX14_readRow_128 rfl ?_
    obtain ⟨v18, g, h⟩ := zb_some h
    refine zw_geti hX zl_X14_172 dX14_readRow_129 g ?_
    refine zw_iadd hX dX14_readRow_132 ?_
    refine zw_iload_n hX dX14_readRow_133 rfl ?_
    obtain ⟨S19, g, h⟩ := zb_some h
    refine zw_si hX dX14_readRow_134 g ?_
    refine zw_aload_n hX dX14_readRow_135 rfl ?_
    obtain ⟨b20, g, h⟩ := zb_some h
    refine zw_getr hX zl_X14_62 dX14_readRow_136 g ?_
    refine zw_bipush (v := (50 : Int32)) hX dX14_readRow_139 (by decide) ?_
    refine zw_aload_n hX dX14_readRow_141 rfl ?_
    obtain ⟨v21, g, h⟩ := zb_some h
    refine zw_geti hX zl_X14_172 dX14_readRow_142 g ?_
    refine zw_iadd hX dX14_readRow_145 ?_
    refine zw_iload_n hX dX14_readRow_146 rfl ?_
    obtain ⟨S22, g, h⟩ := zb_some h
    refine zw_si hX dX14_readRow_147 g ?_
    refine zw_aload_n hX dX14_readRow_148 rfl ?_
    refine zw_dup hX dX14_readRow_149 rfl ?_
    obtain ⟨v23, g, h⟩ := zb_some h
    refine zw_geti hX zl_X14_172 dX14_readRow_150 g ?_
    refine zw_iconst (v := (1 : Int32)) hX dX14_readRow_153 (by decide) ?_
    refine zw_iadd hX dX14_readRow_154 ?_
    obtain ⟨S24, g, h⟩ := zb_some h
    refine zw_putv hX zl_X14_172 zt_14_22 dX14_readRow_155 rfl rfl g ?_
    obtain rfl := Option.some.inj h
    exact zw_vret hX hr dX14_readRow_158 ⟨rfl, rfl⟩
def zf_X14_readRow_J64 (N : Nat) (a0 : Nat) (i1 : Int32) (i2 : Int32) (t0 : Int32) (S : zm_S) : Option (Unit × zm_S) := (zg_i S a0 14 11).bind (fun v9 => if 0 ≤ v9 then zf_X14_readRow_J98 N a0 i1 i2 t0 S else (zg_r S a0 14 16).bind (fun b25 => (za_x S 2 b25 ((20 : Int32) + t0)).bind (fun v26 => (zi S a0 14).bind (fun _ => (zf_X14_want N a0 v26 S).bind (fun r29 => if r29.1 = 0 then zf_X14_readRow_J98 N a0 i1 i2 t0 r29.2 else (zg_i r29.2 a0 14 10).bind (fun v30 => (zp r29.2 a0 14 10 (.int (v30 + (1 : Int32)))).bind (fun S31 => zf_X14_readRow_J98 N a0 i1 i2 t0 S31)))))))
set_option maxHeartbeats 4000000 in
set_option maxRecDepth 100000 in
theorem zt_X14_readRow_J64 {p : Program} {l : Launch} {e : Env} {R : Room} {s : State} {m : MethodId} {args : Array Value} {below : List Frame} {meth : Method} {c : Code} {V : zm_V} {mc ms d rc rs : Nat} (hX : zm_X p R s m args meth c RX14 "readRow" cX14_readRow 4 zk_E V mc ms) (hr : meth.sig.returnType = none) (hR : R.frames = d ∧ R.locals = 64 * d) (hd : 4 ≤ d) {N : Nat} {a0 : Nat} {i1 : Int32} {i2 : Int32} {t0 : Int32} {out : (Unit × zm_S)} {S : zm_S} (h : zf_X14_readRow_J64 N a0 i1 i2 t0 S = some out) : zw p l e R s m args below meth c (vx_MQ below (zm_Qc zk_E V (zo_v out)) (zm_XC zk_E V zo_x) args s mc ms (fun q => V.2.2.2.1 ≤ q)) 4 zk_E V mc ms 64 [(0, .ref a0), (1, .int i1), (2, .int i2)] [.int t0] S rc rs := by
  unfold zf_X14_readRow_J64 at h
  refine zw_istore_n hX dX14_readRow_64 (by decide) ?_
  refine zw_aload_n hX dX14_readRow_65 rfl ?_
  obtain ⟨v9, g, h⟩ := zb_some h
  refine zw_geti hX zl_X14_134 dX14_readRow_66 g ?_
  refine zw_if_ge (tgt := 98) hX dX14_readRow_69 (by decide) (fun c69 => ?_) (fun c69 => ?_)
  · rw [if_pos c69] at h
    refine zw_sub (lv' := [(0, .ref a0), (1, .int i1), (2, .int i2), (3, .int t0)]) (List.forall_mem_cons.mpr ⟨rfl, (List.forall_mem_cons.mpr ⟨rfl, (List.forall_mem_cons.mpr ⟨rfl, (List.forall_mem_cons.mpr ⟨rfl, zs_nil⟩)⟩)⟩)⟩) ?_
    exact zt_X14_readRow_J98 hX hr hR hd h
  · rw [if_neg c69] at h
    refine zw_aload_n hX dX14_readRow_72 rfl ?_
    refine zw_aload_n hX dX14_readRow_73 rfl ?_
    obtain ⟨b25, g, h⟩ := zb_some h
    refine zw_getr hX zl_X14_41 dX14_readRow_74 g ?_
    refine zw_bipush (v := (20 : Int32)) hX dX14_readRow_77 (by decide) ?_
    refine zw_iload_n hX dX14_readRow_79 rfl ?_
    refine zw_iadd hX dX14_readRow_80 ?_
    obtain ⟨v26, g, h⟩ := zb_some h
    refine zw_xz hX dX14_readRow_81 g ?_
    obtain ⟨_, gi, h⟩ := zb_some h
    obtain ⟨r29, g, h⟩ := zb_some h
    refine zc_Vi (as := [.int v26]) hX gi (zt_X14_want (d := d - 1) (by omega) g) zl_X14_141 rfl dX14_readRow_82 ⟨rfl, rfl, Nat.le_of_ble_eq_true rfl⟩ ⟨by omega, by omega⟩ ?_
    refine zw_if_eq (tgt := 98) hX dX14_readRow_85 (by decide) (fun c85 => ?_) (fun c85 => ?_)
    · rw [if_pos c85] at h
      refine zw_sub (lv' := [(0, .ref a0), (1, .int i1), (2, .int i2), (3, .int t0)]) (List.forall_mem_cons.mpr ⟨rfl, (List.forall_mem_cons.mpr ⟨rfl, (List.forall_mem_cons.mpr ⟨rfl, (List.forall_mem_cons.mpr ⟨rfl, zs_nil⟩)⟩)⟩)⟩) ?_
      exact zt_X14_readRow_J98 hX hr hR hd h
    · rw [if_neg c85] at h
      refine zw_aload_n hX dX14_readRow_88 rfl ?_
      refine zw_dup hX dX14_readRow_89 rfl ?_
      obtain ⟨v30, g, h⟩ := zb_some h
      refine zw_geti hX zl_X14_131 dX14_readRow_90 g ?_
      refine zw_iconst (v := (1 : Int32)) hX dX14_readRow_93 (by decide) ?_
      refine zw_iadd hX dX14_readRow_94 ?_
      obtain ⟨S31, g, h⟩ := zb_some h
      refine zw_putv hX zl_X14_131 zt_14_10 dX14_readRow_95 rfl rfl g ?_
      refine zw_sub (lv' := [(0, .ref a0), (1, .int i1), (2, .int i2), (3, .int t0)]) (List.forall_mem_cons.mpr ⟨rfl, (List.forall_mem_cons.mpr ⟨rfl, (List.forall_mem_cons.mpr ⟨rfl, (List.forall_mem_cons.mpr ⟨rfl, zs_nil⟩)⟩)⟩)⟩) ?_
      exact zt_X14_readRow_J98 hX hr hR hd h
def zf_X14_readRow_J40 (N : Nat) (a0 : Nat) (i1 : Int32) (i2 : Int32) (S : zm_S) : Option (Unit × zm_S) := (zi S a0 14).bind (fun _ => (zf_X14_take N a0 (628196 : Int32) S).bind (fun r7 => (zg_i r7.2 a0 14 11).bind (fun v8 => if 0 ≤ v8 then zf_X14_readRow_J64 N a0 i1 i2 (-1 : Int32) r7.2 else (zi r7.2 a0 14).bind (fun _ => (zf_X14_look N a0 (0 : Int32) (19 : Int32) r7.2).bind (fun r34 => zf_X14_readRow_J64 N a0 i1 i2 r34.1 r34.2)))))
set_option maxHeartbeats 4000000 in
set_option maxRecDepth 100000 in
theorem zt_X14_readRow_J40 {p : Program} {l : Launch} {e : Env} {R : Room} {s : State} {m : MethodId} {args : Array Value} {below : List Frame} {meth : Method} {c : Code} {V : zm_V} {mc ms d rc rs : Nat} (hX : zm_X p R s m args meth c RX14 "readRow" cX14_readRow 4 zk_E V mc ms) (hr : meth.sig.returnType = none) (hR : R.frames = d ∧ R.locals = 64 * d) (hd : 4 ≤ d) {N : Nat} {a0 : Nat} {i1 : Int32} {i2 : Int32} {out : (Unit × zm_S)} {S : zm_S} (h : zf_X14_readRow_J40 N a0 i1 i2 S = some out) : zw p l e R s m args below meth c (vx_MQ below (zm_Qc zk_E V (zo_v out)) (zm_XC zk_E V zo_x) args s mc ms (fun q => V.2.2.2.1 ≤ q)) 4 zk_E V mc ms 40 [(0, .ref a0), (1, .int i1), (2, .int i2)] [] S rc rs := by
  unfold zf_X14_readRow_J40 at h
  refine zw_aload_n hX dX14_readRow_40 rfl ?_
  refine zw_ldc (v := (628196 : Int32)) hX dX14_readRow_41 zl_X14_121 ?_
  obtain ⟨_, gi, h⟩ := zb_some h
  obtain ⟨r7, g, h⟩ := zb_some h
  refine zc_Vv (as := [.int (628196 : Int32)]) hX gi (zt_X14_take (d := d - 1) (by omega) g) zl_X14_153 rfl dX14_readRow_43 ⟨rfl, rfl, Nat.le_of_ble_eq_true rfl⟩ ⟨by omega, by omega⟩ ?_
  refine zw_aload_n hX dX14_readRow_46 rfl ?_
  obtain ⟨v8, g, h⟩ := zb_some h
  refine zw_geti hX zl_X14_134 dX14_readRow_47 g ?_
  refine zw_if_ge (tgt := 63) hX dX14_readRow_50 (by decide) (fun c50 => ?_) (fun c50 => ?_)
  · rw [if_pos c50] at h
    refine zw_iconst (v := (-1 : Int32)) hX dX14_readRow_63 (by decide) ?_
    refine zw_sub (lv' := [(0, .ref a0), (1, .int i1), (2, .int i2)]) (List.forall_mem_cons.mpr ⟨rfl, (List.forall_mem_cons.mpr ⟨rfl, (List.forall_mem_cons.mpr ⟨rfl, zs_nil⟩)⟩)⟩) ?_
    exact zt_X14_readRow_J64 hX hr hR hd h
  · rw [if_neg c50] at h
    refine zw_aload_n hX dX14_readRow_53 rfl ?_
    refine zw_iconst (v := (0 : Int32)) hX dX14_readRow_54 (by decide) ?_
    refine zw_bipush (v := (19 : Int32)) hX dX14_readRow_55 (by decide) ?_
    obtain ⟨_, gi, h⟩ := zb_some h
    obtain ⟨r34, g, h⟩ := zb_some h
    refine zc_Vi (as := [.int (0 : Int32), .int (19 : Int32)]) hX gi (zt_X14_look (d := d - 1) (by omega) g) zl_X14_149 rfl dX14_readRow_57 ⟨rfl, rfl, Nat.le_of_ble_eq_true rfl⟩ ⟨by omega, by omega⟩ ?_
    refine zw_goto (tgt := 64) hX dX14_readRow_60 (by decide) ?_
    refine zw_sub (lv' := [(0, .ref a0), (1, .int i1), (2, .int i2)]) (List.forall_mem_cons.mpr ⟨rfl, (List.forall_mem_cons.mpr ⟨rfl, (List.forall_mem_cons.mpr ⟨rfl, zs_nil⟩)⟩)⟩) ?_
    exact zt_X14_readRow_J64 hX hr hR hd h
def zf_X14_readRow (N : Nat) (a0 : Nat) (S : zm_S) : Option (Unit × zm_S) := (zi S a0 14).bind (fun _ => (zf_X14_takeZone N a0 (-1 : Int32) S).bind (fun r3 => (zg_i r3.2 a0 14 11).bind (fun v4 => if 0 ≤ v4 then zf_X14_readRow_J40 N a0 r3.1 (-1 : Int32) r3.2 else (zi r3.2 a0 14).bind (fun _ => (zf_X14_isSign N a0 (38 : Int32) r3.2).bind (fun r37 => if r37.1 = 0 then zf_X14_readRow_J40 N a0 r3.1 (-1 : Int32) r37.2 else (zg_i r37.2 a0 14 10).bind (fun v38 => (zp r37.2 a0 14 10 (.int (v38 + (1 : Int32)))).bind (fun S39 => (zi S39 a0 14).bind (fun _ => (zf_X14_takeZone N a0 r3.1 S39).bind (fun r42 => zf_X14_readRow_J40 N a0 r3.1 r42.1 r42.2)))))))))
set_option maxHeartbeats 4000000 in
set_option maxRecDepth 100000 in
theorem zt_X14_readRow {l : Launch} {V : zm_V} {N : Nat} {S : zm_S} {out : (Unit × zm_S)} {d : Nat} {a0 : Nat} (hd : 4 ≤ d) (h : zf_X14_readRow N a0 S = some out) : zm_Met l zk_E V yX14_readRow (.code yX14_readRow cX14_readRow 4 none) d [.ref a0] S 0 0 (zo_v out) zo_x := by
  refine zm_of (by decide +kernel) (Nat.le_of_ble_eq_true rfl) ?_
  intro p e R s m args below meth c hRR hX hr hxt
  have hR : R.frames = d ∧ R.locals = 64 * d := by rw [hRR]; exact ⟨rfl, rfl⟩
  have hX : zm_X p R s m args meth c RX14 "readRow" cX14_readRow 4 zk_E V 0 0 := hX
  unfold zf_X14_readRow at h
  refine zw_sub (lv' := [(0, .ref a0)]) (List.forall_mem_cons.mpr ⟨rfl, zs_nil⟩) ?_
  refine zw_aload_n hX dX14_readRow_0 rfl ?_
  refine zw_iconst (v := (-1 : Int32)) hX dX14_readRow_1 (by decide) ?_
  obtain ⟨_, gi, h⟩ := zb_some h
  obtain ⟨r3, g, h⟩ := zb_some h
  refine zc_Vi (as := [.int (-1 : Int32)]) hX gi (zt_X14_takeZone (d := d - 1) (by omega) g) zl_X14_169 rfl dX14_readRow_2 ⟨rfl, rfl, Nat.le_of_ble_eq_true rfl⟩ ⟨by omega, by omega⟩ ?_
  refine zw_istore_n hX dX14_readRow_5 (by decide) ?_
  refine zw_iconst (v := (-1 : Int32)) hX dX14_readRow_6 (by decide) ?_
  refine zw_istore_n hX dX14_readRow_7 (by decide) ?_
  refine zw_aload_n hX dX14_readRow_8 rfl ?_
  obtain ⟨v4, g, h⟩ := zb_some h
  refine zw_geti hX zl_X14_134 dX14_readRow_9 g ?_
  refine zw_if_ge (tgt := 40) hX dX14_readRow_12 (by decide) (fun c12 => ?_) (fun c12 => ?_)
  · rw [if_pos c12] at h
    refine zw_sub (lv' := [(0, .ref a0), (1, .int r3.1), (2, .int (-1 : Int32))]) (List.forall_mem_cons.mpr ⟨rfl, (List.forall_mem_cons.mpr ⟨rfl, (List.forall_mem_cons.mpr ⟨rfl, zs_nil⟩)⟩)⟩) ?_
    exact zt_X14_readRow_J40 hX hr hR hd h
  · rw [if_neg c12] at h
    refine zw_aload_n hX dX14_readRow_15 rfl ?_
    refine zw_bipush (v := (38 : Int32)) hX dX14_readRow_16 (by decide) ?_
    obtain ⟨_, gi, h⟩ := zb_some h
    obtain ⟨r37, g, h⟩ := zb_some h
    refine zc_Vi (as := [.int (38 : Int32)]) hX gi (zt_X14_isSign (d := d - 1) (by omega) g) zl_X14_145 rfl dX14_readRow_18 ⟨rfl, rfl, Nat.le_of_ble_eq_true rfl⟩ ⟨by omega, by omega⟩ ?_
    refine zw_if_eq (tgt := 40) hX dX14_readRow_21 (by decide) (fun c21 => ?_) (fun c21 => ?_)
    · rw [if_pos c21] at h
      refine zw_sub (lv' := [(0, .ref a0), (1, .int r3.1), (2, .int (-1 : Int32))]) (List.forall_mem_cons.mpr ⟨rfl, (List.forall_mem_cons.mpr ⟨rfl, (List.forall_mem_cons.mpr ⟨rfl, zs_nil⟩)⟩)⟩) ?_
      exact zt_X14_readRow_J40 hX hr hR hd h
    · rw [if_neg c21] at h
      refine zw_aload_n hX dX14_readRow_24 rfl ?_
      refine zw_dup hX dX14_readRow_25 rfl ?_
      obtain ⟨v38, g, h⟩ := zb_some h
      refine zw_geti hX zl_X14_131 dX14_readRow_26 g ?_
      refine zw_iconst (v := (1 : Int32)) hX dX14_readRow_29 (by decide) ?_
      refine zw_iadd hX dX14_readRow_30 ?_
      obtain ⟨S39, g, h⟩ := zb_some h
      refine zw_putv hX zl_X14_131 zt_14_10 dX14_readRow_31 rfl rfl g ?_
      refine zw_aload_n hX dX14_readRow_34 rfl ?_
      refine zw_iload_n hX dX14_readRow_35 rfl ?_
      obtain ⟨_, gi, h⟩ := zb_some h
      obtain ⟨r42, g, h⟩ := zb_some h
      refine zc_Vi (as := [.int r3.1]) hX gi (zt_X14_takeZone (d := d - 1) (by omega) g) zl_X14_169 rfl dX14_readRow_36 ⟨rfl, rfl, Nat.le_of_ble_eq_true rfl⟩ ⟨by omega, by omega⟩ ?_
      refine zw_istore_n hX dX14_readRow_39 (by decide) ?_
      refine zw_sub (lv' := [(0, .ref a0), (1, .int r3.1), (2, .int r42.1)]) (List.forall_mem_cons.mpr ⟨rfl, (List.forall_mem_cons.mpr ⟨rfl, (List.forall_mem_cons.mpr ⟨rfl, zs_nil⟩)⟩)⟩) ?_
      exact zt_X14_readRow_J40 hX hr hR hd h
def zf_X14_readHold_J61 (N : Nat) (a0 : Nat) (i1 : Int32) (S : zm_S) : Option (Unit × zm_S) := (zi S a0 14).bind (fun _ => (zf_X14_takeStop N a0 S).bind (fun r7 => (zg_i r7.2 a0 14 11).bind (fun v8 => if 0 ≤ v8 then some ((), r7.2) else (zg_r r7.2 a0 14 20).bind (fun b9 => (zs_z r7.2 b9 ((20 : Int32) + i1) (1 : Int32)).bind (fun S10 => some ((), S10))))))
set_option maxHeartbeats 4000000 in
set_option maxRecDepth 100000 in
theorem zt_X14_readHold_J61 {p : Program} {l : Launch} {e : Env} {R : Room} {s : State} {m : MethodId} {args : Array Value} {below : List Frame} {meth : Method} {c : Code} {V : zm_V} {mc ms d rc rs : Nat} (hX : zm_X p R s m args meth c RX14 "readHold" cX14_readHold 2 zk_E V mc ms) (hr : meth.sig.returnType = none) (hR : R.frames = d ∧ R.locals = 64 * d) (hd : 3 ≤ d) {N : Nat} {a0 : Nat} {i1 : Int32} {out : (Unit × zm_S)} {S : zm_S} (h : zf_X14_readHold_J61 N a0 i1 S = some out) : zw p l e R s m args below meth c (vx_MQ below (zm_Qc zk_E V (zo_v out)) (zm_XC zk_E V zo_x) args s mc ms (fun q => V.2.2.2.1 ≤ q)) 2 zk_E V mc ms 61 [(0, .ref a0), (1, .int i1)] [] S rc rs := by
  unfold zf_X14_readHold_J61 at h
  refine zw_aload_n hX dX14_readHold_61 rfl ?_
  obtain ⟨_, gi, h⟩ := zb_some h
  obtain ⟨r7, g, h⟩ := zb_some h
  refine zc_Vv (as := []) hX gi (zt_X14_takeStop (d := d - 1) (by omega) g) zl_X14_166 rfl dX14_readHold_62 ⟨rfl, rfl, Nat.le_of_ble_eq_true rfl⟩ ⟨by omega, by omega⟩ ?_
  refine zw_aload_n hX dX14_readHold_65 rfl ?_
  obtain ⟨v8, g, h⟩ := zb_some h
  refine zw_geti hX zl_X14_134 dX14_readHold_66 g ?_
  refine zw_if_ge (tgt := 82) hX dX14_readHold_69 (by decide) (fun c69 => ?_) (fun c69 => ?_)
  · rw [if_pos c69] at h
    obtain rfl := Option.some.inj h
    exact zw_vret hX hr dX14_readHold_82 ⟨rfl, rfl⟩
  · rw [if_neg c69] at h
    refine zw_aload_n hX dX14_readHold_72 rfl ?_
    obtain ⟨b9, g, h⟩ := zb_some h
    refine zw_getr hX zl_X14_53 dX14_readHold_73 g ?_
    refine zw_bipush (v := (20 : Int32)) hX dX14_readHold_76 (by decide) ?_
    refine zw_iload_n hX dX14_readHold_78 rfl ?_
    refine zw_iadd hX dX14_readHold_79 ?_
    refine zw_iconst (v := (1 : Int32)) hX dX14_readHold_80 (by decide) ?_
    obtain ⟨S10, g, h⟩ := zb_some h
    refine zw_sz hX dX14_readHold_81 g ?_
    obtain rfl := Option.some.inj h
    exact zw_vret hX hr dX14_readHold_82 ⟨rfl, rfl⟩
def zf_X14_readHold_J45 (N : Nat) (a0 : Nat) (i1 : Int32) (t0 : Nat) (t1 : Int32) (S : zm_S) : Option (Unit × zm_S) := (zi S t0 14).bind (fun _ => (zf_X14_want N t0 t1 S).bind (fun r15 => if r15.1 = 0 then zf_X14_readHold_J61 N a0 i1 r15.2 else (zg_i r15.2 a0 14 10).bind (fun v16 => (zp r15.2 a0 14 10 (.int (v16 + (1 : Int32)))).bind (fun S17 => zf_X14_readHold_J61 N a0 i1 S17))))
set_option maxHeartbeats 4000000 in
set_option maxRecDepth 100000 in
theorem zt_X14_readHold_J45 {p : Program} {l : Launch} {e : Env} {R : Room} {s : State} {m : MethodId} {args : Array Value} {below : List Frame} {meth : Method} {c : Code} {V : zm_V} {mc ms d rc rs : Nat} (hX : zm_X p R s m args meth c RX14 "readHold" cX14_readHold 2 zk_E V mc ms) (hr : meth.sig.returnType = none) (hR : R.frames = d ∧ R.locals = 64 * d) (hd : 3 ≤ d) {N : Nat} {a0 : Nat} {i1 : Int32} {t0 : Nat} {t1 : Int32} {out : (Unit × zm_S)} {S : zm_S} (h : zf_X14_readHold_J45 N a0 i1 t0 t1 S = some out) : zw p l e R s m args below meth c (vx_MQ below (zm_Qc zk_E V (zo_v out)) (zm_XC zk_E V zo_x) args s mc ms (fun q => V.2.2.2.1 ≤ q)) 2 zk_E V mc ms 45 [(0, .ref a0), (1, .int i1)] [.int t1, .ref t0] S rc rs := by
  unfold zf_X14_readHold_J45 at h
  obtain ⟨_, gi, h⟩ := zb_some h
  obtain ⟨r15, g, h⟩ := zb_some h
  refine zc_Vi (as := [.int t1]) hX gi (zt_X14_want (d := d - 1) (by omega) g) zl_X14_141 rfl dX14_readHold_45 ⟨rfl, rfl, Nat.le_of_ble_eq_true rfl⟩ ⟨by omega, by omega⟩ ?_
  refine zw_if_eq (tgt := 61) hX dX14_readHold_48 (by decide) (fun c48 => ?_) (fun c48 => ?_)
  · rw [if_pos c48] at h
    refine zw_sub (lv' := [(0, .ref a0), (1, .int i1)]) (List.forall_mem_cons.mpr ⟨rfl, (List.forall_mem_cons.mpr ⟨rfl, zs_nil⟩)⟩) ?_
    exact zt_X14_readHold_J61 hX hr hR hd h
  · rw [if_neg c48] at h
    refine zw_aload_n hX dX14_readHold_51 rfl ?_
    refine zw_dup hX dX14_readHold_52 rfl ?_
    obtain ⟨v16, g, h⟩ := zb_some h
    refine zw_geti hX zl_X14_131 dX14_readHold_53 g ?_
    refine zw_iconst (v := (1 : Int32)) hX dX14_readHold_56 (by decide) ?_
    refine zw_iadd hX dX14_readHold_57 ?_
    obtain ⟨S17, g, h⟩ := zb_some h
    refine zw_putv hX zl_X14_131 zt_14_10 dX14_readHold_58 rfl rfl g ?_
    refine zw_sub (lv' := [(0, .ref a0), (1, .int i1)]) (List.forall_mem_cons.mpr ⟨rfl, (List.forall_mem_cons.mpr ⟨rfl, zs_nil⟩)⟩) ?_
    exact zt_X14_readHold_J61 hX hr hR hd h
def zf_X14_readHold_J44 (N : Nat) (a0 : Nat) (i1 : Int32) (t0 : Nat) (S : zm_S) : Option (Unit × zm_S) := zf_X14_readHold_J45 N a0 i1 t0 (0 : Int32) S
set_option maxHeartbeats 4000000 in
set_option maxRecDepth 100000 in
theorem zt_X14_readHold_J44 {p : Program} {l : Launch} {e : Env} {R : Room} {s : State} {m : MethodId} {args : Array Value} {below : List Frame} {meth : Method} {c : Code} {V : zm_V} {mc ms d rc rs : Nat} (hX : zm_X p R s m args meth c RX14 "readHold" cX14_readHold 2 zk_E V mc ms) (hr : meth.sig.returnType = none) (hR : R.frames = d ∧ R.locals = 64 * d) (hd : 3 ≤ d) {N : Nat} {a0 : Nat} {i1 : Int32} {t0 : Nat} {out : (Unit × zm_S)} {S : zm_S} (h : zf_X14_readHold_J44 N a0 i1 t0 S = some out) : zw p l e R s m args below meth c (vx_MQ below (zm_Qc zk_E V (zo_v out)) (zm_XC zk_E V zo_x) args s mc ms (fun q => V.2.2.2.1 ≤ q)) 2 zk_E V mc ms 44 [(0, .ref a0), (1, .int i1)] [.ref t0] S rc rs := by
  unfold zf_X14_readHold_J44 at h
  refine zw_iconst (v := (0 : Int32)) hX dX14_readHold_44 (by decide) ?_
  refine zw_sub (lv' := [(0, .ref a0), (1, .int i1)]) (List.forall_mem_cons.mpr ⟨rfl, (List.forall_mem_cons.mpr ⟨rfl, zs_nil⟩)⟩) ?_
  exact zt_X14_readHold_J45 hX hr hR hd h
def zf_X14_readHold (N : Nat) (a0 : Nat) (S : zm_S) : Option (Unit × zm_S) := (zi S a0 14).bind (fun _ => (zf_X14_look N a0 (0 : Int32) (19 : Int32) S).bind (fun r3 => (zg_i r3.2 a0 14 11).bind (fun v4 => if 0 ≤ v4 then zf_X14_readHold_J61 N a0 r3.1 r3.2 else (zg_r r3.2 a0 14 16).bind (fun b11 => (za_x r3.2 2 b11 ((20 : Int32) + r3.1)).bind (fun v12 => if v12 = 0 then zf_X14_readHold_J44 N a0 r3.1 a0 r3.2 else (zg_r r3.2 a0 14 20).bind (fun b18 => (za_x r3.2 2 b18 ((20 : Int32) + r3.1)).bind (fun v19 => if v19 = 0 then zf_X14_readHold_J45 N a0 r3.1 a0 (1 : Int32) r3.2 else zf_X14_readHold_J44 N a0 r3.1 a0 r3.2)))))))
set_option maxHeartbeats 4000000 in
set_option maxRecDepth 100000 in
theorem zt_X14_readHold {l : Launch} {V : zm_V} {N : Nat} {S : zm_S} {out : (Unit × zm_S)} {d : Nat} {a0 : Nat} (hd : 3 ≤ d) (h : zf_X14_readHold N a0 S = some out) : zm_Met l zk_E V yX14_readHold (.code yX14_readHold cX14_readHold 2 none) d [.ref a0] S 0 0 (zo_v out) zo_x := by
  refine zm_of (by decide +kernel) (Nat.le_of_ble_eq_true rfl) ?_
  intro p e R s m args below meth c hRR hX hr hxt
  have hR : R.frames = d ∧ R.locals = 64 * d := by rw [hRR]; exact ⟨rfl, rfl⟩
  have hX : zm_X p R s m args meth c RX14 "readHold" cX14_readHold 2 zk_E V 0 0 := hX
  unfold zf_X14_readHold at h
  refine zw_sub (lv' := [(0, .ref a0)]) (List.forall_mem_cons.mpr ⟨rfl, zs_nil⟩) ?_
  refine zw_aload_n hX dX14_readHold_0 rfl ?_
  refine zw_iconst (v := (0 : Int32)) hX dX14_readHold_1 (by decide) ?_
  refine zw_bipush (v := (19 : Int32)) hX dX14_readHold_2 (by decide) ?_
  obtain ⟨_, gi, h⟩ := zb_some h
  obtain ⟨r3, g, h⟩ := zb_some h
  refine zc_Vi (as := [.int (0 : Int32), .int (19 : Int32)]) hX gi (zt_X14_look (d := d - 1) (by omega) g) zl_X14_149 rfl dX14_readHold_4 ⟨rfl, rfl, Nat.le_of_ble_eq_true rfl⟩ ⟨by omega, by omega⟩ ?_
  refine zw_istore_n hX dX14_readHold_7 (by decide) ?_
  refine zw_aload_n hX dX14_readHold_8 rfl ?_
  obtain ⟨v4, g, h⟩ := zb_some h
  refine zw_geti hX zl_X14_134 dX14_readHold_9 g ?_
  refine zw_if_ge (tgt := 61) hX dX14_readHold_12 (by decide) (fun c12 => ?_) (fun c12 => ?_)
  · rw [if_pos c12] at h
    refine zw_sub (lv' := [(0, .ref a0), (1, .int r3.1)]) (List.forall_mem_cons.mpr ⟨rfl, (List.forall_mem_cons.mpr ⟨rfl, zs_nil⟩)⟩) ?_
    exact zt_X14_readHold_J61 hX hr hR hd h
  · rw [if_neg c12] at h
    refine zw_aload_n hX dX14_readHold_15 rfl ?_
    refine zw_aload_n hX dX14_readHold_16 rfl ?_
    obtain ⟨b11, g, h⟩ := zb_some h
    refine zw_getr hX zl_X14_41 dX14_readHold_17 g ?_
    refine zw_bipush (v := (20 : Int32)) hX dX14_readHold_20 (by decide) ?_
    refine zw_iload_n hX dX14_readHold_22 rfl ?_
    refine zw_iadd hX dX14_readHold_23 ?_
    obtain ⟨v12, g, h⟩ := zb_some h
    refine zw_xz hX dX14_readHold_24 g ?_
    refine zw_if_eq (tgt := 44) hX dX14_readHold_25 (by decide) (fun c25 => ?_) (fun c25 => ?_)
    · rw [if_pos c25] at h
      refine zw_sub (lv' := [(0, .ref a0), (1, .int r3.1)]) (List.forall_mem_cons.mpr ⟨rfl, (List.forall_mem_cons.mpr ⟨rfl, zs_nil⟩)⟩) ?_
      exact zt_X14_readHold_J44 hX hr hR hd h
    · rw [if_neg c25] at h
      refine zw_aload_n hX dX14_readHold_28 rfl ?_
      obtain ⟨b18, g, h⟩ := zb_some h
      refine zw_getr hX zl_X14_53 dX14_readHold_29 g ?_
      refine zw_bipush (v := (20 : Int32)) hX dX14_readHold_32 (by decide) ?_
      refine zw_iload_n hX dX14_readHold_34 rfl ?_
      refine zw_iadd hX dX14_readHold_35 ?_
      obtain ⟨v19, g, h⟩ := zb_some h
      refine zw_xz hX dX14_readHold_36 g ?_
      refine zw_if_ne (tgt := 44) hX dX14_readHold_37 (by decide) (fun c37 => ?_) (fun c37 => ?_)
      · rw [if_neg c37] at h
        refine zw_sub (lv' := [(0, .ref a0), (1, .int r3.1)]) (List.forall_mem_cons.mpr ⟨rfl, (List.forall_mem_cons.mpr ⟨rfl, zs_nil⟩)⟩) ?_
        exact zt_X14_readHold_J44 hX hr hR hd h
      · rw [if_pos c37] at h
        refine zw_iconst (v := (1 : Int32)) hX dX14_readHold_40 (by decide) ?_
        refine zw_goto (tgt := 45) hX dX14_readHold_41 (by decide) ?_
        refine zw_sub (lv' := [(0, .ref a0), (1, .int r3.1)]) (List.forall_mem_cons.mpr ⟨rfl, (List.forall_mem_cons.mpr ⟨rfl, zs_nil⟩)⟩) ?_
        exact zt_X14_readHold_J45 hX hr hR hd h
def zf_X14_readSentence_J73 (N : Nat) (a0 : Nat) (t0 : Nat) (t1 : Int32) (S : zm_S) : Option (Unit × zm_S) := (zi S t0 14).bind (fun _ => (zf_X14_want N t0 t1 S).bind (fun r14 => if r14.1 = 0 then some ((), r14.2) else (zg_i r14.2 a0 14 10).bind (fun v15 => (zp r14.2 a0 14 10 (.int (v15 + (1 : Int32)))).bind (fun S16 => (zi S16 a0 14).bind (fun _ => (zf_X14_readRow N a0 S16).bind (fun r19 => some ((), r19.2)))))))
set_option maxHeartbeats 4000000 in
set_option maxRecDepth 100000 in
theorem zt_X14_readSentence_J73 {p : Program} {l : Launch} {e : Env} {R : Room} {s : State} {m : MethodId} {args : Array Value} {below : List Frame} {meth : Method} {c : Code} {V : zm_V} {mc ms d rc rs : Nat} (hX : zm_X p R s m args meth c RX14 "readSentence" cX14_readSentence 2 zk_E V mc ms) (hr : meth.sig.returnType = none) (hR : R.frames = d ∧ R.locals = 64 * d) (hd : 5 ≤ d) {N : Nat} {a0 : Nat} {t0 : Nat} {t1 : Int32} {out : (Unit × zm_S)} {S : zm_S} (h : zf_X14_readSentence_J73 N a0 t0 t1 S = some out) : zw p l e R s m args below meth c (vx_MQ below (zm_Qc zk_E V (zo_v out)) (zm_XC zk_E V zo_x) args s mc ms (fun q => V.2.2.2.1 ≤ q)) 2 zk_E V mc ms 73 [(0, .ref a0)] [.int t1, .ref t0] S rc rs := by
  unfold zf_X14_readSentence_J73 at h
  obtain ⟨_, gi, h⟩ := zb_some h
  obtain ⟨r14, g, h⟩ := zb_some h
  refine zc_Vi (as := [.int t1]) hX gi (zt_X14_want (d := d - 1) (by omega) g) zl_X14_141 rfl dX14_readSentence_73 ⟨rfl, rfl, Nat.le_of_ble_eq_true rfl⟩ ⟨by omega, by omega⟩ ?_
  refine zw_if_eq (tgt := 113) hX dX14_readSentence_76 (by decide) (fun c76 => ?_) (fun c76 => ?_)
  · rw [if_pos c76] at h
    obtain rfl := Option.some.inj h
    exact zw_vret hX hr dX14_readSentence_113 ⟨rfl, rfl⟩
  · rw [if_neg c76] at h
    refine zw_aload_n hX dX14_readSentence_79 rfl ?_
    refine zw_dup hX dX14_readSentence_80 rfl ?_
    obtain ⟨v15, g, h⟩ := zb_some h
    refine zw_geti hX zl_X14_131 dX14_readSentence_81 g ?_
    refine zw_iconst (v := (1 : Int32)) hX dX14_readSentence_84 (by decide) ?_
    refine zw_iadd hX dX14_readSentence_85 ?_
    obtain ⟨S16, g, h⟩ := zb_some h
    refine zw_putv hX zl_X14_131 zt_14_10 dX14_readSentence_86 rfl rfl g ?_
    refine zw_aload_n hX dX14_readSentence_89 rfl ?_
    obtain ⟨_, gi, h⟩ := zb_some h
    obtain ⟨r19, g, h⟩ := zb_some h
    refine zc_Vv (as := []) hX gi (zt_X14_readRow (d := d - 1) (by omega) g) zl_X14_181 rfl dX14_readSentence_90 ⟨rfl, rfl, Nat.le_of_ble_eq_true rfl⟩ ⟨by omega, by omega⟩ ?_
    refine zw_goto (tgt := 113) hX dX14_readSentence_93 (by decide) ?_
    obtain rfl := Option.some.inj h
    exact zw_vret hX hr dX14_readSentence_113 ⟨rfl, rfl⟩
def zf_X14_readSentence (N : Nat) (a0 : Nat) (S : zm_S) : Option (Unit × zm_S) := (zi S a0 14).bind (fun _ => (zf_X14_letters N a0 S).bind (fun r3 => if r3.1 = (178682 : Int32) then (zg_i r3.2 a0 14 10).bind (fun v25 => (zp r3.2 a0 14 10 (.int (v25 + (1 : Int32)))).bind (fun S26 => (zi S26 a0 14).bind (fun _ => (zf_X14_readZone N a0 S26).bind (fun r29 => some ((), r29.2))))) else if r3.1 = (20577 : Int32) then (zg_i r3.2 a0 14 10).bind (fun v20 => (zp r3.2 a0 14 10 (.int (v20 + (1 : Int32)))).bind (fun S21 => (zi S21 a0 14).bind (fun _ => (zf_X14_readAct N a0 S21).bind (fun r24 => some ((), r24.2))))) else if r3.1 = (464151 : Int32) then (zg_i r3.2 a0 14 22).bind (fun v11 => if (50 : Int32) ≤ v11 then zf_X14_readSentence_J73 N a0 a0 (0 : Int32) r3.2 else zf_X14_readSentence_J73 N a0 a0 (1 : Int32) r3.2) else (zi r3.2 a0 14).bind (fun _ => (zf_X14_take N a0 (143848 : Int32) r3.2).bind (fun r6 => (zg_i r6.2 a0 14 11).bind (fun v7 => if 0 ≤ v7 then some ((), r6.2) else (zi r6.2 a0 14).bind (fun _ => (zf_X14_readHold N a0 r6.2).bind (fun r10 => some ((), r10.2))))))))
set_option maxHeartbeats 4000000 in
set_option maxRecDepth 100000 in
theorem zt_X14_readSentence {l : Launch} {V : zm_V} {N : Nat} {S : zm_S} {out : (Unit × zm_S)} {d : Nat} {a0 : Nat} (hd : 5 ≤ d) (h : zf_X14_readSentence N a0 S = some out) : zm_Met l zk_E V yX14_readSentence (.code yX14_readSentence cX14_readSentence 2 none) d [.ref a0] S 0 0 (zo_v out) zo_x := by
  refine zm_of (by decide +kernel) (Nat.le_of_ble_eq_true rfl) ?_
  intro p e R s m args below meth c hRR hX hr hxt
  have hR : R.frames = d ∧ R.locals = 64 * d := by rw [hRR]; exact ⟨rfl, rfl⟩
  have hX : zm_X p R s m args meth c RX14 "readSentence" cX14_readSentence 2 zk_E V 0 0 := hX
  unfold zf_X14_readSentence at h
  refine zw_sub (lv' := [(0, .ref a0)]) (List.forall_mem_cons.mpr ⟨rfl, zs_nil⟩) ?_
  refine zw_aload_n hX dX14_readSentence_0 rfl ?_
  obtain ⟨_, gi, h⟩ := zb_some h
  obtain ⟨r3, g, h⟩ := zb_some h
  refine zc_Vi (as := []) hX gi (zt_X14_letters (d := d - 1) (by omega) g) zl_X14_137 rfl dX14_readSentence_1 ⟨rfl, rfl, Nat.le_of_ble_eq_true rfl⟩ ⟨by omega, by omega⟩ ?_
  refine zw_istore_n hX dX14_readSentence_4 (by decide) ?_
  refine zw_iload_n hX dX14_readSentence_5 rfl ?_
  refine zw_ldc (v := (178682 : Int32)) hX dX14_readSentence_6 zl_X14_108 ?_
  refine zw_icmp_ne (tgt := 28) hX dX14_readSentence_8 (by decide) (fun c8 => ?_) (fun c8 => ?_)
  · rw [if_neg c8] at h
    refine zw_iload_n hX dX14_readSentence_28 rfl ?_
    refine zw_sipush (v := (20577 : Int32)) hX dX14_readSentence_29 (by decide) ?_
    refine zw_icmp_ne (tgt := 52) hX dX14_readSentence_32 (by decide) (fun c32 => ?_) (fun c32 => ?_)
    · rw [if_neg c32] at h
      refine zw_iload_n hX dX14_readSentence_52 rfl ?_
      refine zw_ldc (v := (464151 : Int32)) hX dX14_readSentence_53 zl_X14_110 ?_
      refine zw_icmp_ne (tgt := 96) hX dX14_readSentence_55 (by decide) (fun c55 => ?_) (fun c55 => ?_)
      · rw [if_neg c55] at h
        refine zw_aload_n hX dX14_readSentence_96 rfl ?_
        refine zw_ldc (v := (143848 : Int32)) hX dX14_readSentence_97 zl_X14_109 ?_
        obtain ⟨_, gi, h⟩ := zb_some h
        obtain ⟨r6, g, h⟩ := zb_some h
        refine zc_Vv (as := [.int (143848 : Int32)]) hX gi (zt_X14_take (d := d - 1) (by omega) g) zl_X14_153 rfl dX14_readSentence_99 ⟨rfl, rfl, Nat.le_of_ble_eq_true rfl⟩ ⟨by omega, by omega⟩ ?_
        refine zw_aload_n hX dX14_readSentence_102 rfl ?_
        obtain ⟨v7, g, h⟩ := zb_some h
        refine zw_geti hX zl_X14_134 dX14_readSentence_103 g ?_
        refine zw_if_ge (tgt := 113) hX dX14_readSentence_106 (by decide) (fun c106 => ?_) (fun c106 => ?_)
        · rw [if_pos c106] at h
          obtain rfl := Option.some.inj h
          exact zw_vret hX hr dX14_readSentence_113 ⟨rfl, rfl⟩
        · rw [if_neg c106] at h
          refine zw_aload_n hX dX14_readSentence_109 rfl ?_
          obtain ⟨_, gi, h⟩ := zb_some h
          obtain ⟨r10, g, h⟩ := zb_some h
          refine zc_Vv (as := []) hX gi (zt_X14_readHold (d := d - 1) (by omega) g) zl_X14_184 rfl dX14_readSentence_110 ⟨rfl, rfl, Nat.le_of_ble_eq_true rfl⟩ ⟨by omega, by omega⟩ ?_
          obtain rfl := Option.some.inj h
          exact zw_vret hX hr dX14_readSentence_113 ⟨rfl, rfl⟩
      · rw [if_pos c55] at h
        refine zw_aload_n hX dX14_readSentence_58 rfl ?_
        refine zw_aload_n hX dX14_readSentence_59 rfl ?_
        obtain ⟨v11, g, h⟩ := zb_some h
        refine zw_geti hX zl_X14_172 dX14_readSentence_60 g ?_
        refine zw_bipush (v := (50 : Int32)) hX dX14_readSentence_63 (by decide) ?_
        refine zw_icmp_ge (tgt := 72) hX dX14_readSentence_65 (by decide) (fun c65 => ?_) (fun c65 => ?_)
        · rw [if_pos c65] at h
          refine zw_iconst (v := (0 : Int32)) hX dX14_readSentence_72 (by decide) ?_
          refine zw_sub (lv' := [(0, .ref a0)]) (List.forall_mem_cons.mpr ⟨rfl, zs_nil⟩) ?_
          exact zt_X14_readSentence_J73 hX hr hR hd h
        · rw [if_neg c65] at h
          refine zw_iconst (v := (1 : Int32)) hX dX14_readSentence_68 (by decide) ?_
          refine zw_goto (tgt := 73) hX dX14_readSentence_69 (by decide) ?_
          refine zw_sub (lv' := [(0, .ref a0)]) (List.forall_mem_cons.mpr ⟨rfl, zs_nil⟩) ?_
          exact zt_X14_readSentence_J73 hX hr hR hd h
    · rw [if_pos c32] at h
      refine zw_aload_n hX dX14_readSentence_35 rfl ?_
      refine zw_dup hX dX14_readSentence_36 rfl ?_
      obtain ⟨v20, g, h⟩ := zb_some h
      refine zw_geti hX zl_X14_131 dX14_readSentence_37 g ?_
      refine zw_iconst (v := (1 : Int32)) hX dX14_readSentence_40 (by decide) ?_
      refine zw_iadd hX dX14_readSentence_41 ?_
      obtain ⟨S21, g, h⟩ := zb_some h
      refine zw_putv hX zl_X14_131 zt_14_10 dX14_readSentence_42 rfl rfl g ?_
      refine zw_aload_n hX dX14_readSentence_45 rfl ?_
      obtain ⟨_, gi, h⟩ := zb_some h
      obtain ⟨r24, g, h⟩ := zb_some h
      refine zc_Vv (as := []) hX gi (zt_X14_readAct (d := d - 1) (by omega) g) zl_X14_178 rfl dX14_readSentence_46 ⟨rfl, rfl, Nat.le_of_ble_eq_true rfl⟩ ⟨by omega, by omega⟩ ?_
      refine zw_goto (tgt := 113) hX dX14_readSentence_49 (by decide) ?_
      obtain rfl := Option.some.inj h
      exact zw_vret hX hr dX14_readSentence_113 ⟨rfl, rfl⟩
  · rw [if_pos c8] at h
    refine zw_aload_n hX dX14_readSentence_11 rfl ?_
    refine zw_dup hX dX14_readSentence_12 rfl ?_
    obtain ⟨v25, g, h⟩ := zb_some h
    refine zw_geti hX zl_X14_131 dX14_readSentence_13 g ?_
    refine zw_iconst (v := (1 : Int32)) hX dX14_readSentence_16 (by decide) ?_
    refine zw_iadd hX dX14_readSentence_17 ?_
    obtain ⟨S26, g, h⟩ := zb_some h
    refine zw_putv hX zl_X14_131 zt_14_10 dX14_readSentence_18 rfl rfl g ?_
    refine zw_aload_n hX dX14_readSentence_21 rfl ?_
    obtain ⟨_, gi, h⟩ := zb_some h
    obtain ⟨r29, g, h⟩ := zb_some h
    refine zc_Vv (as := []) hX gi (zt_X14_readZone (d := d - 1) (by omega) g) zl_X14_175 rfl dX14_readSentence_22 ⟨rfl, rfl, Nat.le_of_ble_eq_true rfl⟩ ⟨by omega, by omega⟩ ?_
    refine zw_goto (tgt := 113) hX dX14_readSentence_25 (by decide) ?_
    obtain rfl := Option.some.inj h
    exact zw_vret hX hr dX14_readSentence_113 ⟨rfl, rfl⟩
def zf_X14_rests (N : Nat) (a0 : Nat) (i1 : Int32) (S : zm_S) : Option (Unit × zm_S) := (zg_r S a0 14 26).bind (fun b1 => (zs_i S b1 i1 (0 : Int32)).bind (fun S2 => (zg_r S2 a0 14 27).bind (fun b3 => (zs_i S2 b3 i1 (-1 : Int32)).bind (fun S4 => (zg_r S4 a0 14 28).bind (fun b5 => (zs_z S4 b5 i1 (0 : Int32)).bind (fun S6 => (zg_r S6 a0 14 29).bind (fun b7 => (zs_z S6 b7 i1 (0 : Int32)).bind (fun S8 => some ((), S8)))))))))
set_option maxHeartbeats 4000000 in
set_option maxRecDepth 100000 in
theorem zt_X14_rests {l : Launch} {V : zm_V} {N : Nat} {S : zm_S} {out : (Unit × zm_S)} {d : Nat} {a0 : Nat} {i1 : Int32} (hd : 1 ≤ d) (h : zf_X14_rests N a0 i1 S = some out) : zm_Met l zk_E V yX14_rests (.code yX14_rests cX14_rests 2 none) d [.ref a0, .int i1] S 0 0 (zo_v out) zo_x := by
  refine zm_of (by decide +kernel) (Nat.le_of_ble_eq_true rfl) ?_
  intro p e R s m args below meth c hRR hX hr hxt
  have hR : R.frames = d ∧ R.locals = 64 * d := by rw [hRR]; exact ⟨rfl, rfl⟩
  have hX : zm_X p R s m args meth c RX14 "rests" cX14_rests 2 zk_E V 0 0 := hX
  unfold zf_X14_rests at h
  refine zw_sub (lv' := [(0, .ref a0), (1, .int i1)]) (List.forall_mem_cons.mpr ⟨rfl, (List.forall_mem_cons.mpr ⟨rfl, zs_nil⟩)⟩) ?_
  refine zw_aload_n hX dX14_rests_0 rfl ?_
  obtain ⟨b1, g, h⟩ := zb_some h
  refine zw_getr hX zl_X14_65 dX14_rests_1 g ?_
  refine zw_iload_n hX dX14_rests_4 rfl ?_
  refine zw_iconst (v := (0 : Int32)) hX dX14_rests_5 (by decide) ?_
  obtain ⟨S2, g, h⟩ := zb_some h
  refine zw_si hX dX14_rests_6 g ?_
  refine zw_aload_n hX dX14_rests_7 rfl ?_
  obtain ⟨b3, g, h⟩ := zb_some h
  refine zw_getr hX zl_X14_68 dX14_rests_8 g ?_
  refine zw_iload_n hX dX14_rests_11 rfl ?_
  refine zw_iconst (v := (-1 : Int32)) hX dX14_rests_12 (by decide) ?_
  obtain ⟨S4, g, h⟩ := zb_some h
  refine zw_si hX dX14_rests_13 g ?_
  refine zw_aload_n hX dX14_rests_14 rfl ?_
  obtain ⟨b5, g, h⟩ := zb_some h
  refine zw_getr hX zl_X14_71 dX14_rests_15 g ?_
  refine zw_iload_n hX dX14_rests_18 rfl ?_
  refine zw_iconst (v := (0 : Int32)) hX dX14_rests_19 (by decide) ?_
  obtain ⟨S6, g, h⟩ := zb_some h
  refine zw_sz hX dX14_rests_20 g ?_
  refine zw_aload_n hX dX14_rests_21 rfl ?_
  obtain ⟨b7, g, h⟩ := zb_some h
  refine zw_getr hX zl_X14_74 dX14_rests_22 g ?_
  refine zw_iload_n hX dX14_rests_25 rfl ?_
  refine zw_iconst (v := (0 : Int32)) hX dX14_rests_26 (by decide) ?_
  obtain ⟨S8, g, h⟩ := zb_some h
  refine zw_sz hX dX14_rests_27 g ?_
  obtain rfl := Option.some.inj h
  exact zw_vret hX hr dX14_rests_28 ⟨rfl, rfl⟩
def zf_X14_adopt_L55 (N : Nat) : Nat → Nat → Int32 → Int32 → zm_S → Option ((Unit × zm_S) ⊕ ((Unit) × zm_S))
  | 0, _, _, _, _ => none
  | n + 1, a0, i1, i2, S => if (12 : Int32) ≤ i2 then some (.inr ((), S)) else (zg_r S a0 14 15).bind (fun b13 => (zg_r S a0 14 15).bind (fun b14 => (za_x S 0 b14 (((240 : Int32) + ((12 : Int32) * i1)) + i2)).bind (fun v15 => (zs_i S b13 (((12 : Int32) * i1) + i2) v15).bind (fun S16 => zf_X14_adopt_L55 N n a0 i1 (i2 + (1 : Int32)) S16))))
set_option maxHeartbeats 4000000 in
set_option maxRecDepth 100000 in
theorem zt_X14_adopt_L55 {p : Program} {l : Launch} {e : Env} {R : Room} {s : State} {m : MethodId} {args : Array Value} {below : List Frame} {meth : Method} {c : Code} {V : zm_V} {mc ms d rc rs : Nat} (hX : zm_X p R s m args meth c RX14 "adopt" cX14_adopt 3 zk_E V mc ms) (hr : meth.sig.returnType = none) (hR : R.frames = d ∧ R.locals = 64 * d) (hd : 2 ≤ d) {N : Nat} {res : (Unit × zm_S) ⊕ ((Unit) × zm_S)} {out : (Unit × zm_S)} (a0 : Nat) (i1 : Int32) (hf : ∀ o, res = .inl o → o = out) (hk : ∀ (S' : zm_S), res = .inr ((), S') → zw p l e R s m args below meth c (vx_MQ below (zm_Qc zk_E V (zo_v out)) (zm_XC zk_E V zo_x) args s mc ms (fun q => V.2.2.2.1 ≤ q)) 3 zk_E V mc ms 93 [(0, .ref a0), (1, .int i1)] [] S' rc rs) : ∀ (n : Nat) (i2 : Int32) (S : zm_S), zf_X14_adopt_L55 N n a0 i1 i2 S = some res → zw p l e R s m args below meth c (vx_MQ below (zm_Qc zk_E V (zo_v out)) (zm_XC zk_E V zo_x) args s mc ms (fun q => V.2.2.2.1 ≤ q)) 3 zk_E V mc ms 55 [(0, .ref a0), (1, .int i1), (2, .int i2)] [] S rc rs := by
  intro n
  induction n with
  | zero => intro i2 S h; cases h
  | succ n ih =>
    intro i2 S h
    rw [zf_X14_adopt_L55] at h
    refine zw_iload_n hX dX14_adopt_55 rfl ?_
    refine zw_bipush (v := (12 : Int32)) hX dX14_adopt_56 (by decide) ?_
    refine zw_icmp_ge (tgt := 93) hX dX14_adopt_58 (by decide) (fun c58 => ?_) (fun c58 => ?_)
    · rw [if_pos c58] at h
      refine zw_sub (lv' := [(0, .ref a0), (1, .int i1)]) (List.forall_mem_cons.mpr ⟨rfl, (List.forall_mem_cons.mpr ⟨rfl, zs_nil⟩)⟩) ?_
      exact hk  _ (Option.some.inj h).symm
    · rw [if_neg c58] at h
      refine zw_aload_n hX dX14_adopt_61 rfl ?_
      obtain ⟨b13, g, h⟩ := zb_some h
      refine zw_getr hX zl_X14_38 dX14_adopt_62 g ?_
      refine zw_bipush (v := (12 : Int32)) hX dX14_adopt_65 (by decide) ?_
      refine zw_iload_n hX dX14_adopt_67 rfl ?_
      refine zw_imul hX dX14_adopt_68 ?_
      refine zw_iload_n hX dX14_adopt_69 rfl ?_
      refine zw_iadd hX dX14_adopt_70 ?_
      refine zw_aload_n hX dX14_adopt_71 rfl ?_
      obtain ⟨b14, g, h⟩ := zb_some h
      refine zw_getr hX zl_X14_38 dX14_adopt_72 g ?_
      refine zw_sipush (v := (240 : Int32)) hX dX14_adopt_75 (by decide) ?_
      refine zw_bipush (v := (12 : Int32)) hX dX14_adopt_78 (by decide) ?_
      refine zw_iload_n hX dX14_adopt_80 rfl ?_
      refine zw_imul hX dX14_adopt_81 ?_
      refine zw_iadd hX dX14_adopt_82 ?_
      refine zw_iload_n hX dX14_adopt_83 rfl ?_
      refine zw_iadd hX dX14_adopt_84 ?_
      obtain ⟨v15, g, h⟩ := zb_some h
      refine zw_xi hX dX14_adopt_85 g ?_
      obtain ⟨S16, g, h⟩ := zb_some h
      refine zw_si hX dX14_adopt_86 g ?_
      refine zw_iinc (v := (i2 + (1 : Int32))) hX dX14_adopt_87 rfl rfl (by decide) ?_
      refine zw_goto (tgt := 55) hX dX14_adopt_90 (by decide) ?_
      refine zw_sub (lv' := [(0, .ref a0), (1, .int i1), (2, .int (i2 + (1 : Int32)))]) (List.forall_mem_cons.mpr ⟨rfl, (List.forall_mem_cons.mpr ⟨rfl, (List.forall_mem_cons.mpr ⟨rfl, zs_nil⟩)⟩)⟩) ?_
      exact ih _ _ h
def zf_X14_adopt_L2 (N : Nat) : Nat → Nat → Int32 → zm_S → Option ((Unit × zm_S) ⊕ ((Unit) × zm_S))
  | 0, _, _, _ => none
  | n + 1, a0, i1, S => if (20 : Int32) ≤ i1 then some (.inr ((), S)) else (zg_r S a0 14 12).bind (fun b1 => (zg_r S a0 14 12).bind (fun b2 => (za_x S 2 b2 ((20 : Int32) + i1)).bind (fun v3 => (zs_z S b1 i1 v3).bind (fun S4 => (zg_r S4 a0 14 13).bind (fun b5 => (zg_r S4 a0 14 13).bind (fun b6 => (za_x S4 0 b6 ((20 : Int32) + i1)).bind (fun v7 => (zs_i S4 b5 i1 v7).bind (fun S8 => (zg_r S8 a0 14 14).bind (fun b9 => (zg_r S8 a0 14 14).bind (fun b10 => (za_x S8 0 b10 ((20 : Int32) + i1)).bind (fun v11 => (zs_i S8 b9 i1 v11).bind (fun S12 => (zf_X14_adopt_L55 N N a0 i1 (0 : Int32) S12).bind (fun r => match r with | .inl o => some (.inl o) | .inr (_, S17) => (zg_r S17 a0 14 16).bind (fun b18 => (zg_r S17 a0 14 16).bind (fun b19 => (za_x S17 2 b19 ((20 : Int32) + i1)).bind (fun v20 => (zs_z S17 b18 i1 v20).bind (fun S21 => (zg_r S21 a0 14 17).bind (fun b22 => (zg_r S21 a0 14 17).bind (fun b23 => (za_x S21 0 b23 ((20 : Int32) + i1)).bind (fun v24 => (zs_i S21 b22 i1 v24).bind (fun S25 => (zg_r S25 a0 14 18).bind (fun b26 => (zg_r S25 a0 14 18).bind (fun b27 => (za_x S25 0 b27 ((20 : Int32) + i1)).bind (fun v28 => (zs_i S25 b26 i1 v28).bind (fun S29 => (zg_r S29 a0 14 19).bind (fun b30 => (zg_r S29 a0 14 19).bind (fun b31 => (za_x S29 0 b31 ((20 : Int32) + i1)).bind (fun v32 => (zs_i S29 b30 i1 v32).bind (fun S33 => (zg_r S33 a0 14 20).bind (fun b34 => (zg_r S33 a0 14 20).bind (fun b35 => (za_x S33 2 b35 ((20 : Int32) + i1)).bind (fun v36 => (zs_z S33 b34 i1 v36).bind (fun S37 => (zi S37 a0 14).bind (fun _ => (zf_X14_rests N a0 i1 S37).bind (fun r40 => zf_X14_adopt_L2 N n a0 (i1 + (1 : Int32)) r40.2)))))))))))))))))))))))))))))))))))
set_option maxHeartbeats 4000000 in
set_option maxRecDepth 100000 in
theorem zt_X14_adopt_L2 {p : Program} {l : Launch} {e : Env} {R : Room} {s : State} {m : MethodId} {args : Array Value} {below : List Frame} {meth : Method} {c : Code} {V : zm_V} {mc ms d rc rs : Nat} (hX : zm_X p R s m args meth c RX14 "adopt" cX14_adopt 3 zk_E V mc ms) (hr : meth.sig.returnType = none) (hR : R.frames = d ∧ R.locals = 64 * d) (hd : 2 ≤ d) {N : Nat} {res : (Unit × zm_S) ⊕ ((Unit) × zm_S)} {out : (Unit × zm_S)} (a0 : Nat) (hf : ∀ o, res = .inl o → o = out) (hk : ∀ (S' : zm_S), res = .inr ((), S') → zw p l e R s m args below meth c (vx_MQ below (zm_Qc zk_E V (zo_v out)) (zm_XC zk_E V zo_x) args s mc ms (fun q => V.2.2.2.1 ≤ q)) 3 zk_E V mc ms 179 [(0, .ref a0)] [] S' rc rs) : ∀ (n : Nat) (i1 : Int32) (S : zm_S), zf_X14_adopt_L2 N n a0 i1 S = some res → zw p l e R s m args below meth c (vx_MQ below (zm_Qc zk_E V (zo_v out)) (zm_XC zk_E V zo_x) args s mc ms (fun q => V.2.2.2.1 ≤ q)) 3 zk_E V mc ms 2 [(0, .ref a0), (1, .int i1)] [] S rc rs := by
  intro n
  induction n with
  | zero => intro i1 S h; cases h
  | succ n ih =>
    intro i1 S h
    rw [zf_X14_adopt_L2] at h
    refine zw_iload_n hX dX14_adopt_2 rfl ?_
    refine zw_bipush (v := (20 : Int32)) hX dX14_adopt_3 (by decide) ?_
    refine zw_icmp_ge (tgt := 179) hX dX14_adopt_5 (by decide) (fun c5 => ?_) (fun c5 => ?_)
    · rw [if_pos c5] at h
      refine zw_sub (lv' := [(0, .ref a0)]) (List.forall_mem_cons.mpr ⟨rfl, zs_nil⟩) ?_
      exact hk  _ (Option.some.inj h).symm
    · rw [if_neg c5] at h
      refine zw_aload_n hX dX14_adopt_8 rfl ?_
      obtain ⟨b1, g, h⟩ := zb_some h
      refine zw_getr hX zl_X14_29 dX14_adopt_9 g ?_
      refine zw_iload_n hX dX14_adopt_12 rfl ?_
      refine zw_aload_n hX dX14_adopt_13 rfl ?_
      obtain ⟨b2, g, h⟩ := zb_some h
      refine zw_getr hX zl_X14_29 dX14_adopt_14 g ?_
      refine zw_bipush (v := (20 : Int32)) hX dX14_adopt_17 (by decide) ?_
      refine zw_iload_n hX dX14_adopt_19 rfl ?_
      refine zw_iadd hX dX14_adopt_20 ?_
      obtain ⟨v3, g, h⟩ := zb_some h
      refine zw_xz hX dX14_adopt_21 g ?_
      obtain ⟨S4, g, h⟩ := zb_some h
      refine zw_sz hX dX14_adopt_22 g ?_
      refine zw_aload_n hX dX14_adopt_23 rfl ?_
      obtain ⟨b5, g, h⟩ := zb_some h
      refine zw_getr hX zl_X14_32 dX14_adopt_24 g ?_
      refine zw_iload_n hX dX14_adopt_27 rfl ?_
      refine zw_aload_n hX dX14_adopt_28 rfl ?_
      obtain ⟨b6, g, h⟩ := zb_some h
      refine zw_getr hX zl_X14_32 dX14_adopt_29 g ?_
      refine zw_bipush (v := (20 : Int32)) hX dX14_adopt_32 (by decide) ?_
      refine zw_iload_n hX dX14_adopt_34 rfl ?_
      refine zw_iadd hX dX14_adopt_35 ?_
      obtain ⟨v7, g, h⟩ := zb_some h
      refine zw_xi hX dX14_adopt_36 g ?_
      obtain ⟨S8, g, h⟩ := zb_some h
      refine zw_si hX dX14_adopt_37 g ?_
      refine zw_aload_n hX dX14_adopt_38 rfl ?_
      obtain ⟨b9, g, h⟩ := zb_some h
      refine zw_getr hX zl_X14_35 dX14_adopt_39 g ?_
      refine zw_iload_n hX dX14_adopt_42 rfl ?_
      refine zw_aload_n hX dX14_adopt_43 rfl ?_
      obtain ⟨b10, g, h⟩ := zb_some h
      refine zw_getr hX zl_X14_35 dX14_adopt_44 g ?_
      refine zw_bipush (v := (20 : Int32)) hX dX14_adopt_47 (by decide) ?_
      refine zw_iload_n hX dX14_adopt_49 rfl ?_
      refine zw_iadd hX dX14_adopt_50 ?_
      obtain ⟨v11, g, h⟩ := zb_some h
      refine zw_xi hX dX14_adopt_51 g ?_
      obtain ⟨S12, g, h⟩ := zb_some h
      refine zw_si hX dX14_adopt_52 g ?_
      refine zw_iconst (v := (0 : Int32)) hX dX14_adopt_53 (by decide) ?_
      refine zw_istore_n hX dX14_adopt_54 (by decide) ?_
      obtain ⟨r, g, h⟩ := zb_some h
      refine zw_sub (lv' := [(0, .ref a0), (1, .int i1), (2, .int (0 : Int32))]) (List.forall_mem_cons.mpr ⟨rfl, (List.forall_mem_cons.mpr ⟨rfl, (List.forall_mem_cons.mpr ⟨rfl, zs_nil⟩)⟩)⟩) ?_
      refine zt_X14_adopt_L55 hX hr hR hd (res := r) (out := out) a0 i1 ?_ ?_ N _ _ g
      · intro o ho
        subst ho
        exact hf _ (Option.some.inj h).symm
      · intro  S17 hx
        subst hx
        try dsimp only at h
        refine zw_aload_n hX dX14_adopt_93 rfl ?_
        obtain ⟨b18, g, h⟩ := zb_some h
        refine zw_getr hX zl_X14_41 dX14_adopt_94 g ?_
        refine zw_iload_n hX dX14_adopt_97 rfl ?_
        refine zw_aload_n hX dX14_adopt_98 rfl ?_
        obtain ⟨b19, g, h⟩ := zb_some h
        refine zw_getr hX zl_X14_41 dX14_adopt_99 g ?_
        refine zw_bipush (v := (20 : Int32)) hX dX14_adopt_102 (by decide) ?_
        refine zw_iload_n hX dX14_adopt_104 rfl ?_
        refine zw_iadd hX dX14_adopt_105 ?_
        obtain ⟨v20, g, h⟩ := zb_some h
        refine zw_xz hX dX14_adopt_106 g ?_
        obtain ⟨S21, g, h⟩ := zb_some h
        refine zw_sz hX dX14_adopt_107 g ?_
        refine zw_aload_n hX dX14_adopt_108 rfl ?_
        obtain ⟨b22, g, h⟩ := zb_some h
        refine zw_getr hX zl_X14_44 dX14_adopt_109 g ?_
        refine zw_iload_n hX dX14_adopt_112 rfl ?_
        refine zw_aload_n hX dX14_adopt_113 rfl ?_
        obtain ⟨b23, g, h⟩ := zb_some h
        refine zw_getr hX zl_X14_44 dX14_adopt_114 g ?_
        refine zw_bipush (v := (20 : Int32)) hX dX14_adopt_117 (by decide) ?_
        refine zw_iload_n hX dX14_adopt_119 rfl ?_
        refine zw_iadd hX dX14_adopt_120 ?_
        obtain ⟨v24, g, h⟩ := zb_some h
        refine zw_xi hX dX14_adopt_121 g ?_
        obtain ⟨S25, g, h⟩ := zb_some h
        refine zw_si hX dX14_adopt_122 g ?_
        refine zw_aload_n hX dX14_adopt_123 rfl ?_
        obtain ⟨b26, g, h⟩ := zb_some h
        refine zw_getr hX zl_X14_47 dX14_adopt_124 g ?_
        refine zw_iload_n hX dX14_adopt_127 rfl ?_
        refine zw_aload_n hX dX14_adopt_128 rfl ?_
        obtain ⟨b27, g, h⟩ := zb_some h
        refine zw_getr hX zl_X14_47 dX14_adopt_129 g ?_
        refine zw_bipush (v := (20 : Int32)) hX dX14_adopt_132 (by decide) ?_
        refine zw_iload_n hX dX14_adopt_134 rfl ?_
        refine zw_iadd hX dX14_adopt_135 ?_
        obtain ⟨v28, g, h⟩ := zb_some h
        refine zw_xi hX dX14_adopt_136 g ?_
        obtain ⟨S29, g, h⟩ := zb_some h
        refine zw_si hX dX14_adopt_137 g ?_
        refine zw_aload_n hX dX14_adopt_138 rfl ?_
        obtain ⟨b30, g, h⟩ := zb_some h
        refine zw_getr hX zl_X14_50 dX14_adopt_139 g ?_
        refine zw_iload_n hX dX14_adopt_142 rfl ?_
        refine zw_aload_n hX dX14_adopt_143 rfl ?_
        obtain ⟨b31, g, h⟩ := zb_some h
        refine zw_getr hX zl_X14_50 dX14_adopt_144 g ?_
        refine zw_bipush (v := (20 : Int32)) hX dX14_adopt_147 (by decide) ?_
        refine zw_iload_n hX dX14_adopt_149 rfl ?_
        refine zw_iadd hX dX14_adopt_150 ?_
        obtain ⟨v32, g, h⟩ := zb_some h
        refine zw_xi hX dX14_adopt_151 g ?_
        obtain ⟨S33, g, h⟩ := zb_some h
        refine zw_si hX dX14_adopt_152 g ?_
        refine zw_aload_n hX dX14_adopt_153 rfl ?_
        obtain ⟨b34, g, h⟩ := zb_some h
        refine zw_getr hX zl_X14_53 dX14_adopt_154 g ?_
        refine zw_iload_n hX dX14_adopt_157 rfl ?_
        refine zw_aload_n hX dX14_adopt_158 rfl ?_
        obtain ⟨b35, g, h⟩ := zb_some h
        refine zw_getr hX zl_X14_53 dX14_adopt_159 g ?_
        refine zw_bipush (v := (20 : Int32)) hX dX14_adopt_162 (by decide) ?_
        refine zw_iload_n hX dX14_adopt_164 rfl ?_
        refine zw_iadd hX dX14_adopt_165 ?_
        obtain ⟨v36, g, h⟩ := zb_some h
        refine zw_xz hX dX14_adopt_166 g ?_
        obtain ⟨S37, g, h⟩ := zb_some h
        refine zw_sz hX dX14_adopt_167 g ?_
        refine zw_aload_n hX dX14_adopt_168 rfl ?_
        refine zw_iload_n hX dX14_adopt_169 rfl ?_
        obtain ⟨_, gi, h⟩ := zb_some h
        obtain ⟨r40, g, h⟩ := zb_some h
        refine zc_Vv (as := [.int i1]) hX gi (zt_X14_rests (d := d - 1) (by omega) g) zl_X14_199 rfl dX14_adopt_170 ⟨rfl, rfl, Nat.le_of_ble_eq_true rfl⟩ ⟨by omega, by omega⟩ ?_
        refine zw_iinc (v := (i1 + (1 : Int32))) hX dX14_adopt_173 rfl rfl (by decide) ?_
        refine zw_goto (tgt := 2) hX dX14_adopt_176 (by decide) ?_
        refine zw_sub (lv' := [(0, .ref a0), (1, .int (i1 + (1 : Int32)))]) (List.forall_mem_cons.mpr ⟨rfl, (List.forall_mem_cons.mpr ⟨rfl, zs_nil⟩)⟩) ?_
        exact ih _ _ h
def zf_X14_adopt_L189 (N : Nat) : Nat → Nat → Int32 → zm_S → Option ((Unit × zm_S) ⊕ ((Unit) × zm_S))
  | 0, _, _, _ => none
  | n + 1, a0, i1, S => (zg_i S a0 14 21).bind (fun v44 => if v44 ≤ i1 then some (.inr ((), S)) else (zg_r S a0 14 23).bind (fun b45 => (zg_r S a0 14 23).bind (fun b46 => (za_x S 0 b46 ((50 : Int32) + i1)).bind (fun v47 => (zs_i S b45 i1 v47).bind (fun S48 => (zg_r S48 a0 14 24).bind (fun b49 => (zg_r S48 a0 14 24).bind (fun b50 => (za_x S48 0 b50 ((50 : Int32) + i1)).bind (fun v51 => (zs_i S48 b49 i1 v51).bind (fun S52 => (zg_r S52 a0 14 25).bind (fun b53 => (zg_r S52 a0 14 25).bind (fun b54 => (za_x S52 0 b54 ((50 : Int32) + i1)).bind (fun v55 => (zs_i S52 b53 i1 v55).bind (fun S56 => zf_X14_adopt_L189 N n a0 (i1 + (1 : Int32)) S56)))))))))))))
set_option maxHeartbeats 4000000 in
set_option maxRecDepth 100000 in
theorem zt_X14_adopt_L189 {p : Program} {l : Launch} {e : Env} {R : Room} {s : State} {m : MethodId} {args : Array Value} {below : List Frame} {meth : Method} {c : Code} {V : zm_V} {mc ms d rc rs : Nat} (hX : zm_X p R s m args meth c RX14 "adopt" cX14_adopt 3 zk_E V mc ms) (hr : meth.sig.returnType = none) (hR : R.frames = d ∧ R.locals = 64 * d) (hd : 2 ≤ d) {N : Nat} {res : (Unit × zm_S) ⊕ ((Unit) × zm_S)} {out : (Unit × zm_S)} (a0 : Nat) (hf : ∀ o, res = .inl o → o = out) (hk : ∀ (S' : zm_S), res = .inr ((), S') → zw p l e R s m args below meth c (vx_MQ below (zm_Qc zk_E V (zo_v out)) (zm_XC zk_E V zo_x) args s mc ms (fun q => V.2.2.2.1 ≤ q)) 3 zk_E V mc ms 248 [] [] S' rc rs) : ∀ (n : Nat) (i1 : Int32) (S : zm_S), zf_X14_adopt_L189 N n a0 i1 S = some res → zw p l e R s m args below meth c (vx_MQ below (zm_Qc zk_E V (zo_v out)) (zm_XC zk_E V zo_x) args s mc ms (fun q => V.2.2.2.1 ≤ q)) 3 zk_E V mc ms 189 [(0, .ref a0), (1, .int i1)] [] S rc rs := by
  intro n
  induction n with
  | zero => intro i1 S h; cases h
  | succ n ih =>
    intro i1 S h
    rw [zf_X14_adopt_L189] at h
    refine zw_iload_n hX dX14_adopt_189 rfl ?_
    refine zw_aload_n hX dX14_adopt_190 rfl ?_
    obtain ⟨v44, g, h⟩ := zb_some h
    refine zw_geti hX zl_X14_196 dX14_adopt_191 g ?_
    refine zw_icmp_ge (tgt := 248) hX dX14_adopt_194 (by decide) (fun c194 => ?_) (fun c194 => ?_)
    · rw [if_pos c194] at h
      refine zw_sub (lv' := []) zs_nil ?_
      exact hk  _ (Option.some.inj h).symm
    · rw [if_neg c194] at h
      refine zw_aload_n hX dX14_adopt_197 rfl ?_
      obtain ⟨b45, g, h⟩ := zb_some h
      refine zw_getr hX zl_X14_56 dX14_adopt_198 g ?_
      refine zw_iload_n hX dX14_adopt_201 rfl ?_
      refine zw_aload_n hX dX14_adopt_202 rfl ?_
      obtain ⟨b46, g, h⟩ := zb_some h
      refine zw_getr hX zl_X14_56 dX14_adopt_203 g ?_
      refine zw_bipush (v := (50 : Int32)) hX dX14_adopt_206 (by decide) ?_
      refine zw_iload_n hX dX14_adopt_208 rfl ?_
      refine zw_iadd hX dX14_adopt_209 ?_
      obtain ⟨v47, g, h⟩ := zb_some h
      refine zw_xi hX dX14_adopt_210 g ?_
      obtain ⟨S48, g, h⟩ := zb_some h
      refine zw_si hX dX14_adopt_211 g ?_
      refine zw_aload_n hX dX14_adopt_212 rfl ?_
      obtain ⟨b49, g, h⟩ := zb_some h
      refine zw_getr hX zl_X14_59 dX14_adopt_213 g ?_
      refine zw_iload_n hX dX14_adopt_216 rfl ?_
      refine zw_aload_n hX dX14_adopt_217 rfl ?_
      obtain ⟨b50, g, h⟩ := zb_some h
      refine zw_getr hX zl_X14_59 dX14_adopt_218 g ?_
      refine zw_bipush (v := (50 : Int32)) hX dX14_adopt_221 (by decide) ?_
      refine zw_iload_n hX dX14_adopt_223 rfl ?_
      refine zw_iadd hX dX14_adopt_224 ?_
      obtain ⟨v51, g, h⟩ := zb_some h
      refine zw_xi hX dX14_adopt_225 g ?_
      obtain ⟨S52, g, h⟩ := zb_some h
      refine zw_si hX dX14_adopt_226 g ?_
      refine zw_aload_n hX dX14_adopt_227 rfl ?_
      obtain ⟨b53, g, h⟩ := zb_some h
      refine zw_getr hX zl_X14_62 dX14_adopt_228 g ?_
      refine zw_iload_n hX dX14_adopt_231 rfl ?_
      refine zw_aload_n hX dX14_adopt_232 rfl ?_
      obtain ⟨b54, g, h⟩ := zb_some h
      refine zw_getr hX zl_X14_62 dX14_adopt_233 g ?_
      refine zw_bipush (v := (50 : Int32)) hX dX14_adopt_236 (by decide) ?_
      refine zw_iload_n hX dX14_adopt_238 rfl ?_
      refine zw_iadd hX dX14_adopt_239 ?_
      obtain ⟨v55, g, h⟩ := zb_some h
      refine zw_xi hX dX14_adopt_240 g ?_
      obtain ⟨S56, g, h⟩ := zb_some h
      refine zw_si hX dX14_adopt_241 g ?_
      refine zw_iinc (v := (i1 + (1 : Int32))) hX dX14_adopt_242 rfl rfl (by decide) ?_
      refine zw_goto (tgt := 189) hX dX14_adopt_245 (by decide) ?_
      refine zw_sub (lv' := [(0, .ref a0), (1, .int (i1 + (1 : Int32)))]) (List.forall_mem_cons.mpr ⟨rfl, (List.forall_mem_cons.mpr ⟨rfl, zs_nil⟩)⟩) ?_
      exact ih _ _ h
def zf_X14_adopt (N : Nat) (a0 : Nat) (S : zm_S) : Option (Unit × zm_S) := (zf_X14_adopt_L2 N N a0 (0 : Int32) S).bind (fun r => match r with | .inl o => some o | .inr (_, S41) => (zg_i S41 a0 14 22).bind (fun v42 => (zp S41 a0 14 21 (.int v42)).bind (fun S43 => (zf_X14_adopt_L189 N N a0 (0 : Int32) S43).bind (fun r => match r with | .inl o => some o | .inr (_, S57) => some ((), S57)))))
set_option maxHeartbeats 4000000 in
set_option maxRecDepth 100000 in
theorem zt_X14_adopt {l : Launch} {V : zm_V} {N : Nat} {S : zm_S} {out : (Unit × zm_S)} {d : Nat} {a0 : Nat} (hd : 2 ≤ d) (h : zf_X14_adopt N a0 S = some out) : zm_Met l zk_E V yX14_adopt (.code yX14_adopt cX14_adopt 3 none) d [.ref a0] S 0 0 (zo_v out) zo_x := by
  refine zm_of (by decide +kernel) (Nat.le_of_ble_eq_true rfl) ?_
  intro p e R s m args below meth c hRR hX hr hxt
  have hR : R.frames = d ∧ R.locals = 64 * d := by rw [hRR]; exact ⟨rfl, rfl⟩
  have hX : zm_X p R s m args meth c RX14 "adopt" cX14_adopt 3 zk_E V 0 0 := hX
  unfold zf_X14_adopt at h
  refine zw_sub (lv' := [(0, .ref a0)]) (List.forall_mem_cons.mpr ⟨rfl, zs_nil⟩) ?_
  refine zw_iconst (v := (0 : Int32)) hX dX14_adopt_0 (by decide) ?_
  refine zw_istore_n hX dX14_adopt_1 (by decide) ?_
  obtain ⟨r, g, h⟩ := zb_some h
  refine zw_sub (lv' := [(0, .ref a0), (1, .int (0 : Int32))]) (List.forall_mem_cons.mpr ⟨rfl, (List.forall_mem_cons.mpr ⟨rfl, zs_nil⟩)⟩) ?_
  refine zt_X14_adopt_L2 hX hr hR hd (res := r) (out := out) a0 ?_ ?_ N _ _ g
  · intro o ho
    subst ho
    exact Option.some.inj h
  · intro  S41 hx
    subst hx
    try dsimp only at h
    refine zw_aload_n hX dX14_adopt_179 rfl ?_
    refine zw_aload_n hX dX14_adopt_180 rfl ?_
    obtain ⟨v42, g, h⟩ := zb_some h
    refine zw_geti hX zl_X14_172 dX14_adopt_181 g ?_
    obtain ⟨S43, g, h⟩ := zb_some h
    refine zw_putv hX zl_X14_196 zt_14_21 dX14_adopt_184 rfl rfl g ?_
    refine zw_iconst (v := (0 : Int32)) hX dX14_adopt_187 (by decide) ?_
    refine zw_istore_n hX dX14_adopt_188 (by decide) ?_
    obtain ⟨r, g, h⟩ := zb_some h
    refine zw_sub (lv' := [(0, .ref a0), (1, .int (0 : Int32))]) (List.forall_mem_cons.mpr ⟨rfl, (List.forall_mem_cons.mpr ⟨rfl, zs_nil⟩)⟩) ?_
    refine zt_X14_adopt_L189 hX hr hR hd (res := r) (out := out) a0 ?_ ?_ N _ _ g
    · intro o ho
      subst ho
      exact Option.some.inj h
    · intro  S57 hx
      subst hx
      try dsimp only at h
      obtain rfl := Option.some.inj h
      exact zw_vret hX hr dX14_adopt_248 ⟨rfl, rfl⟩
def zf_X14_read_L22 (N : Nat) : Nat → Nat → Int32 → zm_S → Option ((Int32 × zm_S) ⊕ ((Unit) × zm_S))
  | 0, _, _, _ => none
  | n + 1, a0, i1, S => if (40 : Int32) ≤ i1 then some (.inr ((), S)) else (zg_r S a0 14 12).bind (fun b7 => (zs_z S b7 i1 (0 : Int32)).bind (fun S8 => (zg_r S8 a0 14 16).bind (fun b9 => (zs_z S8 b9 i1 (0 : Int32)).bind (fun S10 => zf_X14_read_L22 N n a0 (i1 + (1 : Int32)) S10))))
set_option maxHeartbeats 4000000 in
set_option maxRecDepth 100000 in
theorem zt_X14_read_L22 {p : Program} {l : Launch} {e : Env} {R : Room} {s : State} {m : MethodId} {args : Array Value} {below : List Frame} {meth : Method} {c : Code} {V : zm_V} {mc ms d rc rs : Nat} (hX : zm_X p R s m args meth c RX14 "read" cX14_read 2 zk_E V mc ms) (hr : meth.sig.returnType = (some .int)) (hR : R.frames = d ∧ R.locals = 64 * d) (hd : 6 ≤ d) {N : Nat} {res : (Int32 × zm_S) ⊕ ((Unit) × zm_S)} {out : (Int32 × zm_S)} (a0 : Nat) (hf : ∀ o, res = .inl o → o = out) (hk : ∀ (S' : zm_S), res = .inr ((), S') → zw p l e R s m args below meth c (vx_MQ below (zm_Qc zk_E V (zo_i out)) (zm_XC zk_E V zo_x) args s mc ms (fun q => V.2.2.2.1 ≤ q)) 2 zk_E V mc ms 48 [(0, .ref a0)] [] S' rc rs) : ∀ (n : Nat) (i1 : Int32) (S : zm_S), zf_X14_read_L22 N n a0 i1 S = some res → zw p l e R s m args below meth c (vx_MQ below (zm_Qc zk_E V (zo_i out)) (zm_XC zk_E V zo_x) args s mc ms (fun q => V.2.2.2.1 ≤ q)) 2 zk_E V mc ms 22 [(0, .ref a0), (1, .int i1)] [] S rc rs := by
  intro n
  induction n with
  | zero => intro i1 S h; cases h
  | succ n ih =>
    intro i1 S h
    rw [zf_X14_read_L22] at h
    refine zw_iload_n hX dX14_read_22 rfl ?_
    refine zw_bipush (v := (40 : Int32)) hX dX14_read_23 (by decide) ?_
    refine zw_icmp_ge (tgt := 48) hX dX14_read_25 (by decide) (fun c25 => ?_) (fun c25 => ?_)
    · rw [if_pos c25] at h
      refine zw_sub (lv' := [(0, .ref a0)]) (List.forall_mem_cons.mpr ⟨rfl, zs_nil⟩) ?_
      exact hk  _ (Option.some.inj h).symm
    · rw [if_neg c25] at h
      refine zw_aload_n hX dX14_read_28 rfl ?_
      obtain ⟨b7, g, h⟩ := zb_some h
      refine zw_getr hX zl_X14_29 dX14_read_29 g ?_
      refine zw_iload_n hX dX14_read_32 rfl ?_
      refine zw_iconst (v := (0 : Int32)) hX dX14_read_33 (by decide) ?_
      obtain ⟨S8, g, h⟩ := zb_some h
      refine zw_sz hX dX14_read_34 g ?_
      refine zw_aload_n hX dX14_read_35 rfl ?_
      obtain ⟨b9, g, h⟩ := zb_some h
      refine zw_getr hX zl_X14_41 dX14_read_36 g ?_
      refine zw_iload_n hX dX14_read_39 rfl ?_
      refine zw_iconst (v := (0 : Int32)) hX dX14_read_40 (by decide) ?_
      obtain ⟨S10, g, h⟩ := zb_some h
      refine zw_sz hX dX14_read_41 g ?_
      refine zw_iinc (v := (i1 + (1 : Int32))) hX dX14_read_42 rfl rfl (by decide) ?_
      refine zw_goto (tgt := 22) hX dX14_read_45 (by decide) ?_
      refine zw_sub (lv' := [(0, .ref a0), (1, .int (i1 + (1 : Int32)))]) (List.forall_mem_cons.mpr ⟨rfl, (List.forall_mem_cons.mpr ⟨rfl, zs_nil⟩)⟩) ?_
      exact ih _ _ h
def zf_X14_read_L48 (N : Nat) : Nat → Nat → zm_S → Option ((Int32 × zm_S) ⊕ ((Unit) × zm_S))
  | 0, _, _ => none
  | n + 1, a0, S => (zg_i S a0 14 10).bind (fun v12 => (zg_i S a0 14 7).bind (fun v13 => if v13 ≤ v12 then some (.inr ((), S)) else (zg_i S a0 14 11).bind (fun v14 => if 0 ≤ v14 then some (.inr ((), S)) else (zi S a0 14).bind (fun _ => (zf_X14_readSentence N a0 S).bind (fun r17 => zf_X14_read_L48 N n a0 r17.2)))))
set_option maxHeartbeats 4000000 in
set_option maxRecDepth 100000 in
theorem zt_X14_read_L48 {p : Program} {l : Launch} {e : Env} {R : Room} {s : State} {m : MethodId} {args : Array Value} {below : List Frame} {meth : Method} {c : Code} {V : zm_V} {mc ms d rc rs : Nat} (hX : zm_X p R s m args meth c RX14 "read" cX14_read 2 zk_E V mc ms) (hr : meth.sig.returnType = (some .int)) (hR : R.frames = d ∧ R.locals = 64 * d) (hd : 6 ≤ d) {N : Nat} {res : (Int32 × zm_S) ⊕ ((Unit) × zm_S)} {out : (Int32 × zm_S)} (a0 : Nat) (hf : ∀ o, res = .inl o → o = out) (hk : ∀ (S' : zm_S), res = .inr ((), S') → zw p l e R s m args below meth c (vx_MQ below (zm_Qc zk_E V (zo_i out)) (zm_XC zk_E V zo_x) args s mc ms (fun q => V.2.2.2.1 ≤ q)) 2 zk_E V mc ms 73 [(0, .ref a0)] [] S' rc rs) : ∀ (n : Nat)  (S : zm_S), zf_X14_read_L48 N n a0 S = some res → zw p l e R s m args below meth c (vx_MQ below (zm_Qc zk_E V (zo_i out)) (zm_XC zk_E V zo_x) args s mc ms (fun q => V.2.2.2.1 ≤ q)) 2 zk_E V mc ms 48 [(0, .ref a0)] [] S rc rs := by
  intro n
  induction n with
  | zero => intro  S h; cases h
  | succ n ih =>
    intro  S h
    rw [zf_X14_read_L48] at h
    refine zw_aload_n hX dX14_read_48 rfl ?_
    obtain ⟨v12, g, h⟩ := zb_some h
    refine zw_geti hX zl_X14_131 dX14_read_49 g ?_
    refine zw_aload_n hX dX14_read_52 rfl ?_
    obtain ⟨v13, g, h⟩ := zb_some h
    refine zw_geti hX zl_X14_125 dX14_read_53 g ?_
    refine zw_icmp_ge (tgt := 73) hX dX14_read_56 (by decide) (fun c56 => ?_) (fun c56 => ?_)
    · rw [if_pos c56] at h
      refine zw_sub (lv' := [(0, .ref a0)]) (List.forall_mem_cons.mpr ⟨rfl, zs_nil⟩) ?_
      exact hk  _ (Option.some.inj h).symm
    · rw [if_neg c56] at h
      refine zw_aload_n hX dX14_read_59 rfl ?_
      obtain ⟨v14, g, h⟩ := zb_some h
      refine zw_geti hX zl_X14_134 dX14_read_60 g ?_
      refine zw_if_ge (tgt := 73) hX dX14_read_63 (by decide) (fun c63 => ?_) (fun c63 => ?_)
      · rw [if_pos c63] at h
        refine zw_sub (lv' := [(0, .ref a0)]) (List.forall_mem_cons.mpr ⟨rfl, zs_nil⟩) ?_
        exact hk  _ (Option.some.inj h).symm
      · rw [if_neg c63] at h
        refine zw_aload_n hX dX14_read_66 rfl ?_
        obtain ⟨_, gi, h⟩ := zb_some h
        obtain ⟨r17, g, h⟩ := zb_some h
        refine zc_Vv (as := []) hX gi (zt_X14_readSentence (d := d - 1) (by omega) g) zl_X14_190 rfl dX14_read_67 ⟨rfl, rfl, Nat.le_of_ble_eq_true rfl⟩ ⟨by omega, by omega⟩ ?_
        refine zw_goto (tgt := 48) hX dX14_read_70 (by decide) ?_
        refine zw_sub (lv' := [(0, .ref a0)]) (List.forall_mem_cons.mpr ⟨rfl, zs_nil⟩) ?_
        exact ih  _ h
def zf_X14_read_J73 (N : Nat) (a0 : Nat) (S : zm_S) : Option (Int32 × zm_S) := (zg_i S a0 14 11).bind (fun v19 => if v19 < 0 then (zi S a0 14).bind (fun _ => (zf_X14_adopt N a0 S).bind (fun r22 => (zg_i r22.2 a0 14 21).bind (fun v23 => some (v23, r22.2)))) else (zg_i S a0 14 11).bind (fun v24 => some (((-1 : Int32) - v24), S)))
set_option maxHeartbeats 4000000 in
set_option maxRecDepth 100000 in
theorem zt_X14_read_J73 {p : Program} {l : Launch} {e : Env} {R : Room} {s : State} {m : MethodId} {args : Array Value} {below : List Frame} {meth : Method} {c : Code} {V : zm_V} {mc ms d rc rs : Nat} (hX : zm_X p R s m args meth c RX14 "read" cX14_read 2 zk_E V mc ms) (hr : meth.sig.returnType = (some .int)) (hR : R.frames = d ∧ R.locals = 64 * d) (hd : 6 ≤ d) {N : Nat} {a0 : Nat} {out : (Int32 × zm_S)} {S : zm_S} (h : zf_X14_read_J73 N a0 S = some out) : zw p l e R s m args below meth c (vx_MQ below (zm_Qc zk_E V (zo_i out)) (zm_XC zk_E V zo_x) args s mc ms (fun q => V.2.2.2.1 ≤ q)) 2 zk_E V mc ms 73 [(0, .ref a0)] [] S rc rs := by
  unfold zf_X14_read_J73 at h
  refine zw_aload_n hX dX14_read_73 rfl ?_
  obtain ⟨v19, g, h⟩ := zb_some h
  refine zw_geti hX zl_X14_134 dX14_read_74 g ?_
  refine zw_if_lt (tgt := 87) hX dX14_read_77 (by decide) (fun c77 => ?_) (fun c77 => ?_)
  · rw [if_pos c77] at h
    refine zw_aload_n hX dX14_read_87 rfl ?_
    obtain ⟨_, gi, h⟩ := zb_some h
    obtain ⟨r22, g, h⟩ := zb_some h
    refine zc_Vv (as := []) hX gi (zt_X14_adopt (d := d - 1) (by omega) g) zl_X14_193 rfl dX14_read_88 ⟨rfl, rfl, Nat.le_of_ble_eq_true rfl⟩ ⟨by omega, by omega⟩ ?_
    refine zw_aload_n hX dX14_read_91 rfl ?_
    obtain ⟨v23, g, h⟩ := zb_some h
    refine zw_geti hX zl_X14_196 dX14_read_92 g ?_
    obtain rfl := Option.some.inj h
    exact zw_iret hX hr dX14_read_95 rfl ⟨rfl, rfl⟩
  · rw [if_neg c77] at h
    refine zw_iconst (v := (-1 : Int32)) hX dX14_read_80 (by decide) ?_
    refine zw_aload_n hX dX14_read_81 rfl ?_
    obtain ⟨v24, g, h⟩ := zb_some h
    refine zw_geti hX zl_X14_134 dX14_read_82 g ?_
    refine zw_isub hX dX14_read_85 ?_
    obtain rfl := Option.some.inj h
    exact zw_iret hX hr dX14_read_86 rfl ⟨rfl, rfl⟩
def zf_X14_read (N : Nat) (a0 : Nat) (S : zm_S) : Option (Int32 × zm_S) := (zi S a0 14).bind (fun _ => (zf_X14_list N a0 S).bind (fun r3 => (zp r3.2 a0 14 10 (.int (0 : Int32))).bind (fun S4 => (zp S4 a0 14 11 (.int (-1 : Int32))).bind (fun S5 => (zp S5 a0 14 22 (.int (0 : Int32))).bind (fun S6 => (zf_X14_read_L22 N N a0 (20 : Int32) S6).bind (fun r => match r with | .inl o => some o | .inr (_, S11) => (zf_X14_read_L48 N N a0 S11).bind (fun r => match r with | .inl o => some o | .inr (_, S18) => zf_X14_read_J73 N a0 S18)))))))
set_option maxHeartbeats 4000000 in
set_option maxRecDepth 100000 in
theorem zt_X14_read {l : Launch} {V : zm_V} {N : Nat} {S : zm_S} {out : (Int32 × zm_S)} {d : Nat} {a0 : Nat} (hd : 6 ≤ d) (h : zf_X14_read N a0 S = some out) : zm_Met l zk_E V yX14_read (.code yX14_read cX14_read 2 (some .int)) d [.ref a0] S 0 0 (zo_i out) zo_x := by
  refine zm_of (by decide +kernel) (Nat.le_of_ble_eq_true rfl) ?_
  intro p e R s m args below meth c hRR hX hr hxt
  have hR : R.frames = d ∧ R.locals = 64 * d := by rw [hRR]; exact ⟨rfl, rfl⟩
  have hX : zm_X p R s m args meth c RX14 "read" cX14_read 2 zk_E V 0 0 := hX
  unfold zf_X14_read at h
  refine zw_sub (lv' := [(0, .ref a0)]) (List.forall_mem_cons.mpr ⟨rfl, zs_nil⟩) ?_
  refine zw_aload_n hX dX14_read_0 rfl ?_
  obtain ⟨_, gi, h⟩ := zb_some h
  obtain ⟨r3, g, h⟩ := zb_some h
  refine zc_Vv (as := []) hX gi (zt_X14_list (d := d - 1) (by omega) g) zl_X14_187 rfl dX14_read_1 ⟨rfl, rfl, Nat.le_of_ble_eq_true rfl⟩ ⟨by omega, by omega⟩ ?_
  refine zw_aload_n hX dX14_read_4 rfl ?_
  refine zw_iconst (v := (0 : Int32)) hX dX14_read_5 (by decide) ?_
  obtain ⟨S4, g, h⟩ := zb_some h
  refine zw_putv hX zl_X14_131 zt_14_10 dX14_read_6 rfl rfl g ?_
  refine zw_aload_n hX dX14_read_9 rfl ?_
  refine zw_iconst (v := (-1 : Int32)) hX dX14_read_10 (by decide) ?_
  obtain ⟨S5, g, h⟩ := zb_some h
  refine zw_putv hX zl_X14_134 zt_14_11 dX14_read_11 rfl rfl g ?_
  refine zw_aload_n hX dX14_read_14 rfl ?_
  refine zw_iconst (v := (0 : Int32)) hX dX14_read_15 (by decide) ?_
  obtain ⟨S6, g, h⟩ := zb_some h
  refine zw_putv hX zl_X14_172 zt_14_22 dX14_read_16 rfl rfl g ?_
  refine zw_bipush (v := (20 : Int32)) hX dX14_read_19 (by decide) ?_
  refine zw_istore_n hX dX14_read_21 (by decide) ?_
  obtain ⟨r, g, h⟩ := zb_some h
  refine zw_sub (lv' := [(0, .ref a0), (1, .int (20 : Int32))]) (List.forall_mem_cons.mpr ⟨rfl, (List.forall_mem_cons.mpr ⟨rfl, zs_nil⟩)⟩) ?_
  refine zt_X14_read_L22 hX hr hR hd (res := r) (out := out) a0 ?_ ?_ N _ _ g
  · intro o ho
    subst ho
    exact Option.some.inj h
  · intro  S11 hx
    subst hx
    try dsimp only at h
    obtain ⟨r, g, h⟩ := zb_some h
    refine zw_sub (lv' := [(0, .ref a0)]) (List.forall_mem_cons.mpr ⟨rfl, zs_nil⟩) ?_
    refine zt_X14_read_L48 hX hr hR hd (res := r) (out := out) a0 ?_ ?_ N  _ g
    · intro o ho
      subst ho
      exact Option.some.inj h
    · intro  S18 hx
      subst hx
      try dsimp only at h
      refine zw_sub (lv' := [(0, .ref a0)]) (List.forall_mem_cons.mpr ⟨rfl, zs_nil⟩) ?_
      exact zt_X14_read_J73 hX hr hR hd h
def zf_X14_counts (N : Nat) (a0 : Nat) (i1 : Int32) (S : zm_S) : Option (Int32 × zm_S) := (zg_r S a0 14 3).bind (fun b1 => (za_x S 2 b1 i1).bind (fun v2 => if v2 = 0 then (zg_i S a0 14 1).bind (fun v3 => (zg_r S a0 14 4).bind (fun b4 => (za_x S 0 b4 i1).bind (fun v5 => if v3 < v5 then some ((0 : Int32), S) else some ((1 : Int32), S)))) else some ((0 : Int32), S)))
set_option maxHeartbeats 4000000 in
set_option maxRecDepth 100000 in
theorem zt_X14_counts {l : Launch} {V : zm_V} {N : Nat} {S : zm_S} {out : (Int32 × zm_S)} {d : Nat} {a0 : Nat} {i1 : Int32} (hd : 1 ≤ d) (h : zf_X14_counts N a0 i1 S = some out) : zm_Met l zk_E V yX14_counts (.code yX14_counts cX14_counts 2 (some .boolean)) d [.ref a0, .int i1] S 0 0 (zo_i out) zo_x := by
  refine zm_of (by decide +kernel) (Nat.le_of_ble_eq_true rfl) ?_
  intro p e R s m args below meth c hRR hX hr hxt
  have hR : R.frames = d ∧ R.locals = 64 * d := by rw [hRR]; exact ⟨rfl, rfl⟩
  have hX : zm_X p R s m args meth c RX14 "counts" cX14_counts 2 zk_E V 0 0 := hX
  unfold zf_X14_counts at h
  refine zw_sub (lv' := [(0, .ref a0), (1, .int i1)]) (List.forall_mem_cons.mpr ⟨rfl, (List.forall_mem_cons.mpr ⟨rfl, zs_nil⟩)⟩) ?_
  refine zw_aload_n hX dX14_counts_0 rfl ?_
  obtain ⟨b1, g, h⟩ := zb_some h
  refine zw_getr hX zl_X14_13 dX14_counts_1 g ?_
  refine zw_iload_n hX dX14_counts_4 rfl ?_
  obtain ⟨v2, g, h⟩ := zb_some h
  refine zw_xz hX dX14_counts_5 g ?_
  refine zw_if_ne (tgt := 26) hX dX14_counts_6 (by decide) (fun c6 => ?_) (fun c6 => ?_)
  · rw [if_neg c6] at h
    refine zw_iconst (v := (0 : Int32)) hX dX14_counts_26 (by decide) ?_
    obtain rfl := Option.some.inj h
    exact zw_iret hX hr dX14_counts_27 rfl ⟨rfl, rfl⟩
  · rw [if_pos c6] at h
    refine zw_aload_n hX dX14_counts_9 rfl ?_
    obtain ⟨v3, g, h⟩ := zb_some h
    refine zw_geti hX zl_X14_202 dX14_counts_10 g ?_
    refine zw_aload_n hX dX14_counts_13 rfl ?_
    obtain ⟨b4, g, h⟩ := zb_some h
    refine zw_getr hX zl_X14_17 dX14_counts_14 g ?_
    refine zw_iload_n hX dX14_counts_17 rfl ?_
    obtain ⟨v5, g, h⟩ := zb_some h
    refine zw_xi hX dX14_counts_18 g ?_
    refine zw_icmp_lt (tgt := 26) hX dX14_counts_19 (by decide) (fun c19 => ?_) (fun c19 => ?_)
    · rw [if_pos c19] at h
      refine zw_iconst (v := (0 : Int32)) hX dX14_counts_26 (by decide) ?_
      obtain rfl := Option.some.inj h
      exact zw_iret hX hr dX14_counts_27 rfl ⟨rfl, rfl⟩
    · rw [if_neg c19] at h
      refine zw_iconst (v := (1 : Int32)) hX dX14_counts_22 (by decide) ?_
      refine zw_goto (tgt := 27) hX dX14_counts_23 (by decide) ?_
      obtain rfl := Option.some.inj h
      exact zw_iret hX hr dX14_counts_27 rfl ⟨rfl, rfl⟩
def zf_X14_ofZone_J61 (N : Nat) (k : Nat → Int32 → Int32 → Int32 → Int32 → zm_S → Option ((Int32 × zm_S) ⊕ ((Int32) × zm_S))) (a0 : Nat) (i1 : Int32) (i2 : Int32) (i4 : Int32) (t0 : Int32) (t1 : Int32) (S : zm_S) : Option ((Int32 × zm_S) ⊕ ((Int32) × zm_S)) := k a0 i1 i2 (t0 + t1) (i4 + (1 : Int32)) S
set_option maxHeartbeats 4000000 in
set_option maxRecDepth 100000 in
theorem zt_X14_ofZone_J61 {p : Program} {l : Launch} {e : Env} {R : Room} {s : State} {m : MethodId} {args : Array Value} {below : List Frame} {meth : Method} {c : Code} {V : zm_V} {mc ms d rc rs : Nat} (hX : zm_X p R s m args meth c RX14 "ofZone" cX14_ofZone 6 zk_E V mc ms) (hr : meth.sig.returnType = (some .int)) (hR : R.frames = d ∧ R.locals = 64 * d) (hd : 2 ≤ d) {N : Nat} {k : Nat → Int32 → Int32 → Int32 → Int32 → zm_S → Option ((Int32 × zm_S) ⊕ ((Int32) × zm_S))} {a0 : Nat} {i1 : Int32} {i2 : Int32} {i4 : Int32} {t0 : Int32} {t1 : Int32} {res : (Int32 × zm_S) ⊕ ((Int32) × zm_S)} {out : (Int32 × zm_S)}   (hf : ∀ o, res = .inl o → o = out) (hk : ∀ (x3 : Int32) (S' : zm_S), res = .inr (x3, S') → zw p l e R s m args below meth c (vx_MQ below (zm_Qc zk_E V (zo_i out)) (zm_XC zk_E V zo_x) args s mc ms (fun q => V.2.2.2.1 ≤ q)) 6 zk_E V mc ms 69 [(3, .int x3)] [] S' rc rs) (hrec : ∀ (i3' : Int32) (i4' : Int32) (S : zm_S), k a0 i1 i2 i3' i4' S = some res → zw p l e R s m args below meth c (vx_MQ below (zm_Qc zk_E V (zo_i out)) (zm_XC zk_E V zo_x) args s mc ms (fun q => V.2.2.2.1 ≤ q)) 6 zk_E V mc ms 5 [(0, .ref a0), (1, .int i1), (2, .int i2), (3, .int i3'), (4, .int i4')] [] S rc rs) {S : zm_S} (h : zf_X14_ofZone_J61 N k a0 i1 i2 i4 t0 t1 S = some res) : zw p l e R s m args below meth c (vx_MQ below (zm_Qc zk_E V (zo_i out)) (zm_XC zk_E V zo_x) args s mc ms (fun q => V.2.2.2.1 ≤ q)) 6 zk_E V mc ms 61 [(0, .ref a0), (1, .int i1), (2, .int i2), (4, .int i4)] [.int t1, .int t0] S rc rs := by
  unfold zf_X14_ofZone_J61 at h
  refine zw_iadd hX dX14_ofZone_61 ?_
  refine zw_istore_n hX dX14_ofZone_62 (by decide) ?_
  refine zw_iinc (v := (i4 + (1 : Int32))) hX dX14_ofZone_63 rfl rfl (by decide) ?_
  refine zw_goto (tgt := 5) hX dX14_ofZone_66 (by decide) ?_
  refine zw_sub (lv' := [(0, .ref a0), (1, .int i1), (2, .int i2), (3, .int (t0 + t1)), (4, .int (i4 + (1 : Int32)))]) (List.forall_mem_cons.mpr ⟨rfl, (List.forall_mem_cons.mpr ⟨rfl, (List.forall_mem_cons.mpr ⟨rfl, (List.forall_mem_cons.mpr ⟨rfl, (List.forall_mem_cons.mpr ⟨rfl, zs_nil⟩)⟩)⟩)⟩)⟩) ?_
  exact hrec _ _ _ h
def zf_X14_ofZone_J60 (N : Nat) (k : Nat → Int32 → Int32 → Int32 → Int32 → zm_S → Option ((Int32 × zm_S) ⊕ ((Int32) × zm_S))) (a0 : Nat) (i1 : Int32) (i2 : Int32) (i4 : Int32) (t0 : Int32) (S : zm_S) : Option ((Int32 × zm_S) ⊕ ((Int32) × zm_S)) := zf_X14_ofZone_J61 N (k) a0 i1 i2 i4 t0 (0 : Int32) S
set_option maxHeartbeats 4000000 in
set_option maxRecDepth 100000 in
theorem zt_X14_ofZone_J60 {p : Program} {l : Launch} {e : Env} {R : Room} {s : State} {m : MethodId} {args : Array Value} {below : List Frame} {meth : Method} {c : Code} {V : zm_V} {mc ms d rc rs : Nat} (hX : zm_X p R s m args meth c RX14 "ofZone" cX14_ofZone 6 zk_E V mc ms) (hr : meth.sig.returnType = (some .int)) (hR : R.frames = d ∧ R.locals = 64 * d) (hd : 2 ≤ d) {N : Nat} {k : Nat → Int32 → Int32 → Int32 → Int32 → zm_S → Option ((Int32 × zm_S) ⊕ ((Int32) × zm_S))} {a0 : Nat} {i1 : Int32} {i2 : Int32} {i4 : Int32} {t0 : Int32} {res : (Int32 × zm_S) ⊕ ((Int32) × zm_S)} {out : (Int32 × zm_S)}   (hf : ∀ o, res = .inl o → o = out) (hk : ∀ (x3 : Int32) (S' : zm_S), res = .inr (x3, S') → zw p l e R s m args below meth c (vx_MQ below (zm_Qc zk_E V (zo_i out)) (zm_XC zk_E V zo_x) args s mc ms (fun q => V.2.2.2.1 ≤ q)) 6 zk_E V mc ms 69 [(3, .int x3)] [] S' rc rs) (hrec : ∀ (i3' : Int32) (i4' : Int32) (S : zm_S), k a0 i1 i2 i3' i4' S = some res → zw p l e R s m args below meth c (vx_MQ below (zm_Qc zk_E V (zo_i out)) (zm_XC zk_E V zo_x) args s mc ms (fun q => V.2.2.2.1 ≤ q)) 6 zk_E V mc ms 5 [(0, .ref a0), (1, .int i1), (2, .int i2), (3, .int i3'), (4, .int i4')] [] S rc rs) {S : zm_S} (h : zf_X14_ofZone_J60 N k a0 i1 i2 i4 t0 S = some res) : zw p l e R s m args below meth c (vx_MQ below (zm_Qc zk_E V (zo_i out)) (zm_XC zk_E V zo_x) args s mc ms (fun q => V.2.2.2.1 ≤ q)) 6 zk_E V mc ms 60 [(0, .ref a0), (1, .int i1), (2, .int i2), (4, .int i4)] [.int t0] S rc rs := by
  unfold zf_X14_ofZone_J60 at h
  refine zw_iconst (v := (0 : Int32)) hX dX14_ofZone_60 (by decide) ?_
  refine zw_sub (lv' := [(0, .ref a0), (1, .int i1), (2, .int i2), (4, .int i4)]) (List.forall_mem_cons.mpr ⟨rfl, (List.forall_mem_cons.mpr ⟨rfl, (List.forall_mem_cons.mpr ⟨rfl, (List.forall_mem_cons.mpr ⟨rfl, zs_nil⟩)⟩)⟩)⟩) ?_
  exact zt_X14_ofZone_J61 hX hr hR hd hf hk hrec h
def zf_X14_ofZone_J56 (N : Nat) (k : Nat → Int32 → Int32 → Int32 → Int32 → zm_S → Option ((Int32 × zm_S) ⊕ ((Int32) × zm_S))) (a0 : Nat) (i1 : Int32) (i2 : Int32) (i4 : Int32) (t0 : Int32) (S : zm_S) : Option ((Int32 × zm_S) ⊕ ((Int32) × zm_S)) := zf_X14_ofZone_J61 N (k) a0 i1 i2 i4 t0 (1 : Int32) S
set_option maxHeartbeats 4000000 in
set_option maxRecDepth 100000 in
theorem zt_X14_ofZone_J56 {p : Program} {l : Launch} {e : Env} {R : Room} {s : State} {m : MethodId} {args : Array Value} {below : List Frame} {meth : Method} {c : Code} {V : zm_V} {mc ms d rc rs : Nat} (hX : zm_X p R s m args meth c RX14 "ofZone" cX14_ofZone 6 zk_E V mc ms) (hr : meth.sig.returnType = (some .int)) (hR : R.frames = d ∧ R.locals = 64 * d) (hd : 2 ≤ d) {N : Nat} {k : Nat → Int32 → Int32 → Int32 → Int32 → zm_S → Option ((Int32 × zm_S) ⊕ ((Int32) × zm_S))} {a0 : Nat} {i1 : Int32} {i2 : Int32} {i4 : Int32} {t0 : Int32} {res : (Int32 × zm_S) ⊕ ((Int32) × zm_S)} {out : (Int32 × zm_S)}   (hf : ∀ o, res = .inl o → o = out) (hk : ∀ (x3 : Int32) (S' : zm_S), res = .inr (x3, S') → zw p l e R s m args below meth c (vx_MQ below (zm_Qc zk_E V (zo_i out)) (zm_XC zk_E V zo_x) args s mc ms (fun q => V.2.2.2.1 ≤ q)) 6 zk_E V mc ms 69 [(3, .int x3)] [] S' rc rs) (hrec : ∀ (i3' : Int32) (i4' : Int32) (S : zm_S), k a0 i1 i2 i3' i4' S = some res → zw p l e R s m args below meth c (vx_MQ below (zm_Qc zk_E V (zo_i out)) (zm_XC zk_E V zo_x) args s mc ms (fun q => V.2.2.2.1 ≤ q)) 6 zk_E V mc ms 5 [(0, .ref a0), (1, .int i1), (2, .int i2), (3, .int i3'), (4, .int i4')] [] S rc rs) {S : zm_S} (h : zf_X14_ofZone_J56 N k a0 i1 i2 i4 t0 S = some res) : zw p l e R s m args below meth c (vx_MQ below (zm_Qc zk_E V (zo_i out)) (zm_XC zk_E V zo_x) args s mc ms (fun q => V.2.2.2.1 ≤ q)) 6 zk_E V mc ms 56 [(0, .ref a0), (1, .int i1), (2, .int i2), (4, .int i4)] [.int t0] S rc rs := by
  unfold zf_X14_ofZone_J56 at h
  refine zw_iconst (v := (1 : Int32)) hX dX14_ofZone_56 (by decide) ?_
  refine zw_goto (tgt := 61) hX dX14_ofZone_57 (by decide) ?_
  refine zw_sub (lv' := [(0, .ref a0), (1, .int i1), (2, .int i2), (4, .int i4)]) (List.forall_mem_cons.mpr ⟨rfl, (List.forall_mem_cons.mpr ⟨rfl, (List.forall_mem_cons.mpr ⟨rfl, (List.forall_mem_cons.mpr ⟨rfl, zs_nil⟩)⟩)⟩)⟩) ?_
  exact zt_X14_ofZone_J61 hX hr hR hd hf hk hrec h
def zf_X14_ofZone_L5 (N : Nat) : Nat → Nat → Int32 → Int32 → Int32 → Int32 → zm_S → Option ((Int32 × zm_S) ⊕ ((Int32) × zm_S))
  | 0, _, _, _, _, _, _ => none
  | n + 1, a0, i1, i2, i3, i4, S => (zg_r S a0 14 14).bind (fun b1 => (za_x S 0 b1 i1).bind (fun v2 => if v2 ≤ i4 then some (.inr (i3, S)) else (zg_r S a0 14 15).bind (fun b3 => (za_x S 0 b3 (((12 : Int32) * i1) + i4)).bind (fun v4 => (zi S a0 14).bind (fun _ => (zf_X14_counts N a0 v4 S).bind (fun r7 => if r7.1 = 0 then zf_X14_ofZone_J60 N (zf_X14_ofZone_L5 N n) a0 i1 i2 i4 i3 r7.2 else if i2 = 0 then zf_X14_ofZone_J56 N (zf_X14_ofZone_L5 N n) a0 i1 i2 i4 i3 r7.2 else (zg_r r7.2 a0 14 2).bind (fun b8 => (za_x r7.2 0 b8 v4).bind (fun v9 => if v9 < (50 : Int32) then zf_X14_ofZone_J60 N (zf_X14_ofZone_L5 N n) a0 i1 i2 i4 i3 r7.2 else zf_X14_ofZone_J56 N (zf_X14_ofZone_L5 N n) a0 i1 i2 i4 i3 r7.2))))))))
set_option maxHeartbeats 4000000 in
set_option maxRecDepth 100000 in
theorem zt_X14_ofZone_L5 {p : Program} {l : Launch} {e : Env} {R : Room} {s : State} {m : MethodId} {args : Array Value} {below : List Frame} {meth : Method} {c : Code} {V : zm_V} {mc ms d rc rs : Nat} (hX : zm_X p R s m args meth c RX14 "ofZone" cX14_ofZone 6 zk_E V mc ms) (hr : meth.sig.returnType = (some .int)) (hR : R.frames = d ∧ R.locals = 64 * d) (hd : 2 ≤ d) {N : Nat} {res : (Int32 × zm_S) ⊕ ((Int32) × zm_S)} {out : (Int32 × zm_S)} (a0 : Nat) (i1 : Int32) (i2 : Int32) (hf : ∀ o, res = .inl o → o = out) (hk : ∀ (x3 : Int32) (S' : zm_S), res = .inr (x3, S') → zw p l e R s m args below meth c (vx_MQ below (zm_Qc zk_E V (zo_i out)) (zm_XC zk_E V zo_x) args s mc ms (fun q => V.2.2.2.1 ≤ q)) 6 zk_E V mc ms 69 [(3, .int x3)] [] S' rc rs) : ∀ (n : Nat) (i3 : Int32) (i4 : Int32) (S : zm_S), zf_X14_ofZone_L5 N n a0 i1 i2 i3 i4 S = some res → zw p l e R s m args below meth c (vx_MQ below (zm_Qc zk_E V (zo_i out)) (zm_XC zk_E V zo_x) args s mc ms (fun q => V.2.2.2.1 ≤ q)) 6 zk_E V mc ms 5 [(0, .ref a0), (1, .int i1), (2, .int i2), (3, .int i3), (4, .int i4)] [] S rc rs := by
  intro n
  induction n with
  | zero => intro i3 i4 S h; cases h
  | succ n ih =>
    intro i3 i4 S h
    rw [zf_X14_ofZone_L5] at h
    refine zw_iload hX dX14_ofZone_5 rfl ?_
    refine zw_aload_n hX dX14_ofZone_7 rfl ?_
    obtain ⟨b1, g, h⟩ := zb_some h
    refine zw_getr hX zl_X14_35 dX14_ofZone_8 g ?_
    refine zw_iload_n hX dX14_ofZone_11 rfl ?_
    obtain ⟨v2, g, h⟩ := zb_some h
    refine zw_xi hX dX14_ofZone_12 g ?_
    refine zw_icmp_ge (tgt := 69) hX dX14_ofZone_13 (by decide) (fun c13 => ?_) (fun c13 => ?_)
    · rw [if_pos c13] at h
      refine zw_sub (lv' := [(3, .int i3)]) (List.forall_mem_cons.mpr ⟨rfl, zs_nil⟩) ?_
      exact hk _ _ (Option.some.inj h).symm
    · rw [if_neg c13] at h
      refine zw_aload_n hX dX14_ofZone_16 rfl ?_
      obtain ⟨b3, g, h⟩ := zb_some h
      refine zw_getr hX zl_X14_38 dX14_ofZone_17 g ?_
      refine zw_bipush (v := (12 : Int32)) hX dX14_ofZone_20 (by decide) ?_
      refine zw_iload_n hX dX14_ofZone_22 rfl ?_
      refine zw_imul hX dX14_ofZone_23 ?_
      refine zw_iload hX dX14_ofZone_24 rfl ?_
      refine zw_iadd hX dX14_ofZone_26 ?_
      obtain ⟨v4, g, h⟩ := zb_some h
      refine zw_xi hX dX14_ofZone_27 g ?_
      refine zw_istore hX dX14_ofZone_28 (by decide) ?_
      refine zw_iload_n hX dX14_ofZone_30 rfl ?_
      refine zw_aload_n hX dX14_ofZone_31 rfl ?_
      refine zw_iload hX dX14_ofZone_32 rfl ?_
      obtain ⟨_, gi, h⟩ := zb_some h
      obtain ⟨r7, g, h⟩ := zb_some h
      refine zc_Vi (as := [.int v4]) hX gi (zt_X14_counts (d := d - 1) (by omega) g) zl_X14_205 rfl dX14_ofZone_34 ⟨rfl, rfl, Nat.le_of_ble_eq_true rfl⟩ ⟨by omega, by omega⟩ ?_
      refine zw_if_eq (tgt := 60) hX dX14_ofZone_37 (by decide) (fun c37 => ?_) (fun c37 => ?_)
      · rw [if_pos c37] at h
        refine zw_sub (lv' := [(0, .ref a0), (1, .int i1), (2, .int i2), (4, .int i4)]) (List.forall_mem_cons.mpr ⟨rfl, (List.forall_mem_cons.mpr ⟨rfl, (List.forall_mem_cons.mpr ⟨rfl, (List.forall_mem_cons.mpr ⟨rfl, zs_nil⟩)⟩)⟩)⟩) ?_
        exact zt_X14_ofZone_J60 hX hr hR hd hf hk ih h
      · rw [if_neg c37] at h
        refine zw_iload_n hX dX14_ofZone_40 rfl ?_
        refine zw_if_eq (tgt := 56) hX dX14_ofZone_41 (by decide) (fun c41 => ?_) (fun c41 => ?_)
        · rw [if_pos c41] at h
          refine zw_sub (lv' := [(0, .ref a0), (1, .int i1), (2, .int i2), (4, .int i4)]) (List.forall_mem_cons.mpr ⟨rfl, (List.forall_mem_cons.mpr ⟨rfl, (List.forall_mem_cons.mpr ⟨rfl, (List.forall_mem_cons.mpr ⟨rfl, zs_nil⟩)⟩)⟩)⟩) ?_
          exact zt_X14_ofZone_J56 hX hr hR hd hf hk ih h
        · rw [if_neg c41] at h
          refine zw_aload_n hX dX14_ofZone_44 rfl ?_
          obtain ⟨b8, g, h⟩ := zb_some h
          refine zw_getr hX zl_X14_7 dX14_ofZone_45 g ?_
          refine zw_iload hX dX14_ofZone_48 rfl ?_
          obtain ⟨v9, g, h⟩ := zb_some h
          refine zw_xi hX dX14_ofZone_50 g ?_
          refine zw_bipush (v := (50 : Int32)) hX dX14_ofZone_51 (by decide) ?_
          refine zw_icmp_lt (tgt := 60) hX dX14_ofZone_53 (by decide) (fun c53 => ?_) (fun c53 => ?_)
          · rw [if_pos c53] at h
            refine zw_sub (lv' := [(0, .ref a0), (1, .int i1), (2, .int i2), (4, .int i4)]) (List.forall_mem_cons.mpr ⟨rfl, (List.forall_mem_cons.mpr ⟨rfl, (List.forall_mem_cons.mpr ⟨rfl, (List.forall_mem_cons.mpr ⟨rfl, zs_nil⟩)⟩)⟩)⟩) ?_
            exact zt_X14_ofZone_J60 hX hr hR hd hf hk ih h
          · rw [if_neg c53] at h
            refine zw_sub (lv' := [(0, .ref a0), (1, .int i1), (2, .int i2), (4, .int i4)]) (List.forall_mem_cons.mpr ⟨rfl, (List.forall_mem_cons.mpr ⟨rfl, (List.forall_mem_cons.mpr ⟨rfl, (List.forall_mem_cons.mpr ⟨rfl, zs_nil⟩)⟩)⟩)⟩) ?_
            exact zt_X14_ofZone_J56 hX hr hR hd hf hk ih h
def zf_X14_ofZone (N : Nat) (a0 : Nat) (i1 : Int32) (i2 : Int32) (S : zm_S) : Option (Int32 × zm_S) := (zf_X14_ofZone_L5 N N a0 i1 i2 (0 : Int32) (0 : Int32) S).bind (fun r => match r with | .inl o => some o | .inr (v11, S10) => some (v11, S10))
set_option maxHeartbeats 4000000 in
set_option maxRecDepth 100000 in
theorem zt_X14_ofZone {l : Launch} {V : zm_V} {N : Nat} {S : zm_S} {out : (Int32 × zm_S)} {d : Nat} {a0 : Nat} {i1 : Int32} {i2 : Int32} (hd : 2 ≤ d) (h : zf_X14_ofZone N a0 i1 i2 S = some out) : zm_Met l zk_E V yX14_ofZone (.code yX14_ofZone cX14_ofZone 6 (some .int)) d [.ref a0, .int i1, .int i2] S 0 0 (zo_i out) zo_x := by
  refine zm_of (by decide +kernel) (Nat.le_of_ble_eq_true rfl) ?_
  intro p e R s m args below meth c hRR hX hr hxt
  have hR : R.frames = d ∧ R.locals = 64 * d := by rw [hRR]; exact ⟨rfl, rfl⟩
  have hX : zm_X p R s m args meth c RX14 "ofZone" cX14_ofZone 6 zk_E V 0 0 := hX
  unfold zf_X14_ofZone at h
  refine zw_sub (lv' := [(0, .ref a0), (1, .int i1), (2, .int i2)]) (List.forall_mem_cons.mpr ⟨rfl, (List.forall_mem_cons.mpr ⟨rfl, (List.forall_mem_cons.mpr ⟨rfl, zs_nil⟩)⟩)⟩) ?_
  refine zw_iconst (v := (0 : Int32)) hX dX14_ofZone_0 (by decide) ?_
  refine zw_istore_n hX dX14_ofZone_1 (by decide) ?_
  refine zw_iconst (v := (0 : Int32)) hX dX14_ofZone_2 (by decide) ?_
  refine zw_istore hX dX14_ofZone_3 (by decide) ?_
  obtain ⟨r, g, h⟩ := zb_some h
  refine zw_sub (lv' := [(0, .ref a0), (1, .int i1), (2, .int i2), (3, .int (0 : Int32)), (4, .int (0 : Int32))]) (List.forall_mem_cons.mpr ⟨rfl, (List.forall_mem_cons.mpr ⟨rfl, (List.forall_mem_cons.mpr ⟨rfl, (List.forall_mem_cons.mpr ⟨rfl, (List.forall_mem_cons.mpr ⟨rfl, zs_nil⟩)⟩)⟩)⟩)⟩) ?_
  refine zt_X14_ofZone_L5 hX hr hR hd (res := r) (out := out) a0 i1 i2 ?_ ?_ N _ _ _ g
  · intro o ho
    subst ho
    exact Option.some.inj h
  · intro v11 S10 hx
    subst hx
    try dsimp only at h
    refine zw_iload_n hX dX14_ofZone_69 rfl ?_
    obtain rfl := Option.some.inj h
    exact zw_iret hX hr dX14_ofZone_70 rfl ⟨rfl, rfl⟩
def zf_X14_isOn (N : Nat) (a0 : Nat) (i1 : Int32) (S : zm_S) : Option (Int32 × zm_S) := (zi S a0 14).bind (fun _ => (zf_X14_ofZone N a0 i1 (1 : Int32) S).bind (fun r3 => (zg_r r3.2 a0 14 13).bind (fun b4 => (za_x r3.2 0 b4 i1).bind (fun v5 => if r3.1 < v5 then some ((0 : Int32), r3.2) else some ((1 : Int32), r3.2)))))
set_option maxHeartbeats 4000000 in
set_option maxRecDepth 100000 in
theorem zt_X14_isOn {l : Launch} {V : zm_V} {N : Nat} {S : zm_S} {out : (Int32 × zm_S)} {d : Nat} {a0 : Nat} {i1 : Int32} (hd : 3 ≤ d) (h : zf_X14_isOn N a0 i1 S = some out) : zm_Met l zk_E V yX14_isOn (.code yX14_isOn cX14_isOn 2 (some .boolean)) d [.ref a0, .int i1] S 0 0 (zo_i out) zo_x := by
  refine zm_of (by decide +kernel) (Nat.le_of_ble_eq_true rfl) ?_
  intro p e R s m args below meth c hRR hX hr hxt
  have hR : R.frames = d ∧ R.locals = 64 * d := by rw [hRR]; exact ⟨rfl, rfl⟩
  have hX : zm_X p R s m args meth c RX14 "isOn" cX14_isOn 2 zk_E V 0 0 := hX
  unfold zf_X14_isOn at h
  refine zw_sub (lv' := [(0, .ref a0), (1, .int i1)]) (List.forall_mem_cons.mpr ⟨rfl, (List.forall_mem_cons.mpr ⟨rfl, zs_nil⟩)⟩) ?_
  refine zw_aload_n hX dX14_isOn_0 rfl ?_
  refine zw_iload_n hX dX14_isOn_1 rfl ?_
  refine zw_iconst (v := (1 : Int32)) hX dX14_isOn_2 (by decide) ?_
  obtain ⟨_, gi, h⟩ := zb_some h
  obtain ⟨r3, g, h⟩ := zb_some h
  refine zc_Vi (as := [.int i1, .int (1 : Int32)]) hX gi (zt_X14_ofZone (d := d - 1) (by omega) g) zl_X14_208 rfl dX14_isOn_3 ⟨rfl, rfl, Nat.le_of_ble_eq_true rfl⟩ ⟨by omega, by omega⟩ ?_
  refine zw_aload_n hX dX14_isOn_6 rfl ?_
  obtain ⟨b4, g, h⟩ := zb_some h
  refine zw_getr hX zl_X14_32 dX14_isOn_7 g ?_
  refine zw_iload_n hX dX14_isOn_10 rfl ?_
  obtain ⟨v5, g, h⟩ := zb_some h
  refine zw_xi hX dX14_isOn_11 g ?_
  refine zw_icmp_lt (tgt := 19) hX dX14_isOn_12 (by decide) (fun c12 => ?_) (fun c12 => ?_)
  · rw [if_pos c12] at h
    refine zw_iconst (v := (0 : Int32)) hX dX14_isOn_19 (by decide) ?_
    obtain rfl := Option.some.inj h
    exact zw_iret hX hr dX14_isOn_20 rfl ⟨rfl, rfl⟩
  · rw [if_neg c12] at h
    refine zw_iconst (v := (1 : Int32)) hX dX14_isOn_15 (by decide) ?_
    refine zw_goto (tgt := 20) hX dX14_isOn_16 (by decide) ?_
    obtain rfl := Option.some.inj h
    exact zw_iret hX hr dX14_isOn_20 rfl ⟨rfl, rfl⟩
def zf_X14_isSure (N : Nat) (a0 : Nat) (i1 : Int32) (S : zm_S) : Option (Int32 × zm_S) := (zi S a0 14).bind (fun _ => (zf_X14_ofZone N a0 i1 (0 : Int32) S).bind (fun r3 => if r3.1 ≤ 0 then some ((0 : Int32), r3.2) else (zi r3.2 a0 14).bind (fun _ => (zf_X14_ofZone N a0 i1 (1 : Int32) r3.2).bind (fun r6 => if r6.1 = r3.1 then some ((1 : Int32), r6.2) else some ((0 : Int32), r6.2)))))
set_option maxHeartbeats 4000000 in
set_option maxRecDepth 100000 in
theorem zt_X14_isSure {l : Launch} {V : zm_V} {N : Nat} {S : zm_S} {out : (Int32 × zm_S)} {d : Nat} {a0 : Nat} {i1 : Int32} (hd : 3 ≤ d) (h : zf_X14_isSure N a0 i1 S = some out) : zm_Met l zk_E V yX14_isSure (.code yX14_isSure cX14_isSure 3 (some .boolean)) d [.ref a0, .int i1] S 0 0 (zo_i out) zo_x := by
  refine zm_of (by decide +kernel) (Nat.le_of_ble_eq_true rfl) ?_
  intro p e R s m args below meth c hRR hX hr hxt
  have hR : R.frames = d ∧ R.locals = 64 * d := by rw [hRR]; exact ⟨rfl, rfl⟩
  have hX : zm_X p R s m args meth c RX14 "isSure" cX14_isSure 3 zk_E V 0 0 := hX
  unfold zf_X14_isSure at h
  refine zw_sub (lv' := [(0, .ref a0), (1, .int i1)]) (List.forall_mem_cons.mpr ⟨rfl, (List.forall_mem_cons.mpr ⟨rfl, zs_nil⟩)⟩) ?_
  refine zw_aload_n hX dX14_isSure_0 rfl ?_
  refine zw_iload_n hX dX14_isSure_1 rfl ?_
  refine zw_iconst (v := (0 : Int32)) hX dX14_isSure_2 (by decide) ?_
  obtain ⟨_, gi, h⟩ := zb_some h
  obtain ⟨r3, g, h⟩ := zb_some h
  refine zc_Vi (as := [.int i1, .int (0 : Int32)]) hX gi (zt_X14_ofZone (d := d - 1) (by omega) g) zl_X14_208 rfl dX14_isSure_3 ⟨rfl, rfl, Nat.le_of_ble_eq_true rfl⟩ ⟨by omega, by omega⟩ ?_
  refine zw_istore_n hX dX14_isSure_6 (by decide) ?_
  refine zw_iload_n hX dX14_isSure_7 rfl ?_
  refine zw_if_le (tgt := 25) hX dX14_isSure_8 (by decide) (fun c8 => ?_) (fun c8 => ?_)
  · rw [if_pos c8] at h
    refine zw_iconst (v := (0 : Int32)) hX dX14_isSure_25 (by decide) ?_
    obtain rfl := Option.some.inj h
    exact zw_iret hX hr dX14_isSure_26 rfl ⟨rfl, rfl⟩
  · rw [if_neg c8] at h
    refine zw_aload_n hX dX14_isSure_11 rfl ?_
    refine zw_iload_n hX dX14_isSure_12 rfl ?_
    refine zw_iconst (v := (1 : Int32)) hX dX14_isSure_13 (by decide) ?_
    obtain ⟨_, gi, h⟩ := zb_some h
    obtain ⟨r6, g, h⟩ := zb_some h
    refine zc_Vi (as := [.int i1, .int (1 : Int32)]) hX gi (zt_X14_ofZone (d := d - 1) (by omega) g) zl_X14_208 rfl dX14_isSure_14 ⟨rfl, rfl, Nat.le_of_ble_eq_true rfl⟩ ⟨by omega, by omega⟩ ?_
    refine zw_iload_n hX dX14_isSure_17 rfl ?_
    refine zw_icmp_ne (tgt := 25) hX dX14_isSure_18 (by decide) (fun c18 => ?_) (fun c18 => ?_)
    · rw [if_neg c18] at h
      refine zw_iconst (v := (0 : Int32)) hX dX14_isSure_25 (by decide) ?_
      obtain rfl := Option.some.inj h
      exact zw_iret hX hr dX14_isSure_26 rfl ⟨rfl, rfl⟩
    · rw [if_pos c18] at h
      refine zw_iconst (v := (1 : Int32)) hX dX14_isSure_21 (by decide) ?_
      refine zw_goto (tgt := 26) hX dX14_isSure_22 (by decide) ?_
      obtain rfl := Option.some.inj h
      exact zw_iret hX hr dX14_isSure_26 rfl ⟨rfl, rfl⟩
def zf_X14_isMet (N : Nat) (a0 : Nat) (i1 : Int32) (S : zm_S) : Option (Int32 × zm_S) := (zg_r S a0 14 23).bind (fun b1 => (za_x S 0 b1 i1).bind (fun v2 => (zi S a0 14).bind (fun _ => (zf_X14_isOn N a0 v2 S).bind (fun r5 => if r5.1 = 0 then some ((0 : Int32), r5.2) else (zg_r r5.2 a0 14 24).bind (fun b6 => (za_x r5.2 0 b6 i1).bind (fun v7 => if v7 < 0 then some ((1 : Int32), r5.2) else (zg_r r5.2 a0 14 24).bind (fun b8 => (za_x r5.2 0 b8 i1).bind (fun v9 => (zi r5.2 a0 14).bind (fun _ => (zf_X14_isOn N a0 v9 r5.2).bind (fun r12 => if r12.1 = 0 then some ((0 : Int32), r12.2) else some ((1 : Int32), r12.2)))))))))))
set_option maxHeartbeats 4000000 in
set_option maxRecDepth 100000 in
theorem zt_X14_isMet {l : Launch} {V : zm_V} {N : Nat} {S : zm_S} {out : (Int32 × zm_S)} {d : Nat} {a0 : Nat} {i1 : Int32} (hd : 4 ≤ d) (h : zf_X14_isMet N a0 i1 S = some out) : zm_Met l zk_E V yX14_isMet (.code yX14_isMet cX14_isMet 2 (some .boolean)) d [.ref a0, .int i1] S 0 0 (zo_i out) zo_x := by
  refine zm_of (by decide +kernel) (Nat.le_of_ble_eq_true rfl) ?_
  intro p e R s m args below meth c hRR hX hr hxt
  have hR : R.frames = d ∧ R.locals = 64 * d := by rw [hRR]; exact ⟨rfl, rfl⟩
  have hX : zm_X p R s m args meth c RX14 "isMet" cX14_isMet 2 zk_E V 0 0 := hX
  unfold zf_X14_isMet at h
  refine zw_sub (lv' := [(0, .ref a0), (1, .int i1)]) (List.forall_mem_cons.mpr ⟨rfl, (List.forall_mem_cons.mpr ⟨rfl, zs_nil⟩)⟩) ?_
  refine zw_aload_n hX dX14_isMet_0 rfl ?_
  refine zw_aload_n hX dX14_isMet_1 rfl ?_
  obtain ⟨b1, g, h⟩ := zb_some h
  refine zw_getr hX zl_X14_56 dX14_isMet_2 g ?_
  refine zw_iload_n hX dX14_isMet_5 rfl ?_
  obtain ⟨v2, g, h⟩ := zb_some h
  refine zw_xi hX dX14_isMet_6 g ?_
  obtain ⟨_, gi, h⟩ := zb_some h
  obtain ⟨r5, g, h⟩ := zb_some h
  refine zc_Vi (as := [.int v2]) hX gi (zt_X14_isOn (d := d - 1) (by omega) g) zl_X14_212 rfl dX14_isMet_7 ⟨rfl, rfl, Nat.le_of_ble_eq_true rfl⟩ ⟨by omega, by omega⟩ ?_
  refine zw_if_eq (tgt := 39) hX dX14_isMet_10 (by decide) (fun c10 => ?_) (fun c10 => ?_)
  · rw [if_pos c10] at h
    refine zw_iconst (v := (0 : Int32)) hX dX14_isMet_39 (by decide) ?_
    obtain rfl := Option.some.inj h
    exact zw_iret hX hr dX14_isMet_40 rfl ⟨rfl, rfl⟩
  · rw [if_neg c10] at h
    refine zw_aload_n hX dX14_isMet_13 rfl ?_
    obtain ⟨b6, g, h⟩ := zb_some h
    refine zw_getr hX zl_X14_59 dX14_isMet_14 g ?_
    refine zw_iload_n hX dX14_isMet_17 rfl ?_
    obtain ⟨v7, g, h⟩ := zb_some h
    refine zw_xi hX dX14_isMet_18 g ?_
    refine zw_if_lt (tgt := 35) hX dX14_isMet_19 (by decide) (fun c19 => ?_) (fun c19 => ?_)
    · rw [if_pos c19] at h
      refine zw_iconst (v := (1 : Int32)) hX dX14_isMet_35 (by decide) ?_
      refine zw_goto (tgt := 40) hX dX14_isMet_36 (by decide) ?_
      obtain rfl := Option.some.inj h
      exact zw_iret hX hr dX14_isMet_40 rfl ⟨rfl, rfl⟩
    · rw [if_neg c19] at h
      refine zw_aload_n hX dX14_isMet_22 rfl ?_
      refine zw_aload_n hX dX14_isMet_23 rfl ?_
      obtain ⟨b8, g, h⟩ := zb_some h
      refine zw_getr hX zl_X14_59 dX14_isMet_24 g ?_
      refine zw_iload_n hX dX14_isMet_27 rfl ?_
      obtain ⟨v9, g, h⟩ := zb_some h
      refine zw_xi hX dX14_isMet_28 g ?_
      obtain ⟨_, gi, h⟩ := zb_some h
      obtain ⟨r12, g, h⟩ := zb_some h
      refine zc_Vi (as := [.int v9]) hX gi (zt_X14_isOn (d := d - 1) (by omega) g) zl_X14_212 rfl dX14_isMet_29 ⟨rfl, rfl, Nat.le_of_ble_eq_true rfl⟩ ⟨by omega, by omega⟩ ?_
      refine zw_if_eq (tgt := 39) hX dX14_isMet_32 (by decide) (fun c32 => ?_) (fun c32 => ?_)
      · rw [if_pos c32] at h
        refine zw_iconst (v := (0 : Int32)) hX dX14_isMet_39 (by decide) ?_
        obtain rfl := Option.some.inj h
        exact zw_iret hX hr dX14_isMet_40 rfl ⟨rfl, rfl⟩
      · rw [if_neg c32] at h
        refine zw_iconst (v := (1 : Int32)) hX dX14_isMet_35 (by decide) ?_
        refine zw_goto (tgt := 40) hX dX14_isMet_36 (by decide) ?_
        obtain rfl := Option.some.inj h
        exact zw_iret hX hr dX14_isMet_40 rfl ⟨rfl, rfl⟩
def zf_X14_isCalled_J112 (N : Nat) (k : Nat → Int32 → Int32 → Int32 → Int32 → zm_S → Option ((Int32 × zm_S) ⊕ ((Int32) × zm_S))) (a0 : Nat) (i1 : Int32) (i2 : Int32) (i4 : Int32) (S : zm_S) : Option ((Int32 × zm_S) ⊕ ((Int32) × zm_S)) := k a0 i1 i2 (1 : Int32) (i4 + (1 : Int32)) S
set_option maxHeartbeats 4000000 in
set_option maxRecDepth 100000 in
theorem zt_X14_isCalled_J112 {p : Program} {l : Launch} {e : Env} {R : Room} {s : State} {m : MethodId} {args : Array Value} {below : List Frame} {meth : Method} {c : Code} {V : zm_V} {mc ms d rc rs : Nat} (hX : zm_X p R s m args meth c RX14 "isCalled" cX14_isCalled 7 zk_E V mc ms) (hr : meth.sig.returnType = (some .boolean)) (hR : R.frames = d ∧ R.locals = 64 * d) (hd : 5 ≤ d) {N : Nat} {k : Nat → Int32 → Int32 → Int32 → Int32 → zm_S → Option ((Int32 × zm_S) ⊕ ((Int32) × zm_S))} {a0 : Nat} {i1 : Int32} {i2 : Int32} {i4 : Int32} {res : (Int32 × zm_S) ⊕ ((Int32) × zm_S)} {out : (Int32 × zm_S)}   (hf : ∀ o, res = .inl o → o = out) (hk : ∀ (x3 : Int32) (S' : zm_S), res = .inr (x3, S') → zw p l e R s m args below meth c (vx_MQ below (zm_Qc zk_E V (zo_i out)) (zm_XC zk_E V zo_x) args s mc ms (fun q => V.2.2.2.1 ≤ q)) 7 zk_E V mc ms 124 [(3, .int x3)] [] S' rc rs) (hrec : ∀ (i3' : Int32) (i4' : Int32) (S : zm_S), k a0 i1 i2 i3' i4' S = some res → zw p l e R s m args below meth c (vx_MQ below (zm_Qc zk_E V (zo_i out)) (zm_XC zk_E V zo_x) args s mc ms (fun q => V.2.2.2.1 ≤ q)) 7 zk_E V mc ms 5 [(0, .ref a0), (1, .int i1), (2, .int i2), (3, .int i3'), (4, .int i4')] [] S rc rs) {S : zm_S} (h : zf_X14_isCalled_J112 N k a0 i1 i2 i4 S = some res) : zw p l e R s m args below meth c (vx_MQ below (zm_Qc zk_E V (zo_i out)) (zm_XC zk_E V zo_x) args s mc ms (fun q => V.2.2.2.1 ≤ q)) 7 zk_E V mc ms 112 [(0, .ref a0), (1, .int i1), (2, .int i2), (4, .int i4)] [] S rc rs := by
  unfold zf_X14_isCalled_J112 at h
  refine zw_iconst (v := (1 : Int32)) hX dX14_isCalled_112 (by decide) ?_
  refine zw_goto (tgt := 117) hX dX14_isCalled_113 (by decide) ?_
  refine zw_istore_n hX dX14_isCalled_117 (by decide) ?_
  refine zw_iinc (v := (i4 + (1 : Int32))) hX dX14_isCalled_118 rfl rfl (by decide) ?_
  refine zw_goto (tgt := 5) hX dX14_isCalled_121 (by decide) ?_
  refine zw_sub (lv' := [(0, .ref a0), (1, .int i1), (2, .int i2), (3, .int (1 : Int32)), (4, .int (i4 + (1 : Int32)))]) (List.forall_mem_cons.mpr ⟨rfl, (List.forall_mem_cons.mpr ⟨rfl, (List.forall_mem_cons.mpr ⟨rfl, (List.forall_mem_cons.mpr ⟨rfl, (List.forall_mem_cons.mpr ⟨rfl, zs_nil⟩)⟩)⟩)⟩)⟩) ?_
  exact hrec _ _ _ h
def zf_X14_isCalled_J116 (N : Nat) (k : Nat → Int32 → Int32 → Int32 → Int32 → zm_S → Option ((Int32 × zm_S) ⊕ ((Int32) × zm_S))) (a0 : Nat) (i1 : Int32) (i2 : Int32) (i4 : Int32) (S : zm_S) : Option ((Int32 × zm_S) ⊕ ((Int32) × zm_S)) := k a0 i1 i2 (0 : Int32) (i4 + (1 : Int32)) S
set_option maxHeartbeats 4000000 in
set_option maxRecDepth 100000 in
theorem zt_X14_isCalled_J116 {p : Program} {l : Launch} {e : Env} {R : Room} {s : State} {m : MethodId} {args : Array Value} {below : List Frame} {meth : Method} {c : Code} {V : zm_V} {mc ms d rc rs : Nat} (hX : zm_X p R s m args meth c RX14 "isCalled" cX14_isCalled 7 zk_E V mc ms) (hr : meth.sig.returnType = (some .boolean)) (hR : R.frames = d ∧ R.locals = 64 * d) (hd : 5 ≤ d) {N : Nat} {k : Nat → Int32 → Int32 → Int32 → Int32 → zm_S → Option ((Int32 × zm_S) ⊕ ((Int32) × zm_S))} {a0 : Nat} {i1 : Int32} {i2 : Int32} {i4 : Int32} {res : (Int32 × zm_S) ⊕ ((Int32) × zm_S)} {out : (Int32 × zm_S)}   (hf : ∀ o, res = .inl o → o = out) (hk : ∀ (x3 : Int32) (S' : zm_S), res = .inr (x3, S') → zw p l e R s m args below meth c (vx_MQ below (zm_Qc zk_E V (zo_i out)) (zm_XC zk_E V zo_x) args s mc ms (fun q => V.2.2.2.1 ≤ q)) 7 zk_E V mc ms 124 [(3, .int x3)] [] S' rc rs) (hrec : ∀ (i3' : Int32) (i4' : Int32) (S : zm_S), k a0 i1 i2 i3' i4' S = some res → zw p l e R s m args below meth c (vx_MQ below (zm_Qc zk_E V (zo_i out)) (zm_XC zk_E V zo_x) args s mc ms (fun q => V.2.2.2.1 ≤ q)) 7 zk_E V mc ms 5 [(0, .ref a0), (1, .int i1), (2, .int i2), (3, .int i3'), (4, .int i4')] [] S rc rs) {S : zm_S} (h : zf_X14_isCalled_J116 N k a0 i1 i2 i4 S = some res) : zw p l e R s m args below meth c (vx_MQ below (zm_Qc zk_E V (zo_i out)) (zm_XC zk_E V zo_x) args s mc ms (fun q => V.2.2.2.1 ≤ q)) 7 zk_E V mc ms 116 [(0, .ref a0), (1, .int i1), (2, .int i2), (4, .int i4)] [] S rc rs := by
  unfold zf_X14_isCalled_J116 at h
  refine zw_iconst (v := (0 : Int32)) hX dX14_isCalled_116 (by decide) ?_
  refine zw_istore_n hX dX14_isCalled_117 (by decide) ?_
  refine zw_iinc (v := (i4 + (1 : Int32))) hX dX14_isCalled_118 rfl rfl (by decide) ?_
  refine zw_goto (tgt := 5) hX dX14_isCalled_121 (by decide) ?_
  refine zw_sub (lv' := [(0, .ref a0), (1, .int i1), (2, .int i2), (3, .int (0 : Int32)), (4, .int (i4 + (1 : Int32)))]) (List.forall_mem_cons.mpr ⟨rfl, (List.forall_mem_cons.mpr ⟨rfl, (List.forall_mem_cons.mpr ⟨rfl, (List.forall_mem_cons.mpr ⟨rfl, (List.forall_mem_cons.mpr ⟨rfl, zs_nil⟩)⟩)⟩)⟩)⟩) ?_
  exact hrec _ _ _ h
def zf_X14_isCalled_J89 (N : Nat) (k : Nat → Int32 → Int32 → Int32 → Int32 → zm_S → Option ((Int32 × zm_S) ⊕ ((Int32) × zm_S))) (a0 : Nat) (i1 : Int32) (i2 : Int32) (i3 : Int32) (i4 : Int32) (i5 : Int32) (t0 : Int32) (S : zm_S) : Option ((Int32 × zm_S) ⊕ ((Int32) × zm_S)) := if i3 = 0 then if i2 = 0 then if i5 = 0 then zf_X14_isCalled_J116 N (k) a0 i1 i2 i4 S else zf_X14_isCalled_J112 N (k) a0 i1 i2 i4 S else if t0 = 0 then zf_X14_isCalled_J116 N (k) a0 i1 i2 i4 S else zf_X14_isCalled_J112 N (k) a0 i1 i2 i4 S else zf_X14_isCalled_J112 N (k) a0 i1 i2 i4 S
set_option maxHeartbeats 4000000 in
set_option maxRecDepth 100000 in
theorem zt_X14_isCalled_J89 {p : Program} {l : Launch} {e : Env} {R : Room} {s : State} {m : MethodId} {args : Array Value} {below : List Frame} {meth : Method} {c : Code} {V : zm_V} {mc ms d rc rs : Nat} (hX : zm_X p R s m args meth c RX14 "isCalled" cX14_isCalled 7 zk_E V mc ms) (hr : meth.sig.returnType = (some .boolean)) (hR : R.frames = d ∧ R.locals = 64 * d) (hd : 5 ≤ d) {N : Nat} {k : Nat → Int32 → Int32 → Int32 → Int32 → zm_S → Option ((Int32 × zm_S) ⊕ ((Int32) × zm_S))} {a0 : Nat} {i1 : Int32} {i2 : Int32} {i3 : Int32} {i4 : Int32} {i5 : Int32} {t0 : Int32} {res : (Int32 × zm_S) ⊕ ((Int32) × zm_S)} {out : (Int32 × zm_S)}   (hf : ∀ o, res = .inl o → o = out) (hk : ∀ (x3 : Int32) (S' : zm_S), res = .inr (x3, S') → zw p l e R s m args below meth c (vx_MQ below (zm_Qc zk_E V (zo_i out)) (zm_XC zk_E V zo_x) args s mc ms (fun q => V.2.2.2.1 ≤ q)) 7 zk_E V mc ms 124 [(3, .int x3)] [] S' rc rs) (hrec : ∀ (i3' : Int32) (i4' : Int32) (S : zm_S), k a0 i1 i2 i3' i4' S = some res → zw p l e R s m args below meth c (vx_MQ below (zm_Qc zk_E V (zo_i out)) (zm_XC zk_E V zo_x) args s mc ms (fun q => V.2.2.2.1 ≤ q)) 7 zk_E V mc ms 5 [(0, .ref a0), (1, .int i1), (2, .int i2), (3, .int i3'), (4, .int i4')] [] S rc rs) {S : zm_S} (h : zf_X14_isCalled_J89 N k a0 i1 i2 i3 i4 i5 t0 S = some res) : zw p l e R s m args below meth c (vx_MQ below (zm_Qc zk_E V (zo_i out)) (zm_XC zk_E V zo_x) args s mc ms (fun q => V.2.2.2.1 ≤ q)) 7 zk_E V mc ms 89 [(0, .ref a0), (1, .int i1), (2, .int i2), (3, .int i3), (4, .int i4), (5, .int i5)] [.int t0] S rc rs := by
  unfold zf_X14_isCalled_J89 at h
  refine zw_istore hX dX14_isCalled_89 (by decide) ?_
  refine zw_iload_n hX dX14_isCalled_91 rfl ?_
  refine zw_if_ne (tgt := 112) hX dX14_isCalled_92 (by decide) (fun c92 => ?_) (fun c92 => ?_)
  · rw [if_neg c92] at h
    refine zw_sub (lv' := [(0, .ref a0), (1, .int i1), (2, .int i2), (4, .int i4)]) (List.forall_mem_cons.mpr ⟨rfl, (List.forall_mem_cons.mpr ⟨rfl, (List.forall_mem_cons.mpr ⟨rfl, (List.forall_mem_cons.mpr ⟨rfl, zs_nil⟩)⟩)⟩)⟩) ?_
    exact zt_X14_isCalled_J112 hX hr hR hd hf hk hrec h
  · rw [if_pos c92] at h
    refine zw_iload_n hX dX14_isCalled_95 rfl ?_
    refine zw_if_eq (tgt := 107) hX dX14_isCalled_96 (by decide) (fun c96 => ?_) (fun c96 => ?_)
    · rw [if_pos c96] at h
      refine zw_iload hX dX14_isCalled_107 rfl ?_
      refine zw_if_eq (tgt := 116) hX dX14_isCalled_109 (by decide) (fun c109 => ?_) (fun c109 => ?_)
      · rw [if_pos c109] at h
        refine zw_sub (lv' := [(0, .ref a0), (1, .int i1), (2, .int i2), (4, .int i4)]) (List.forall_mem_cons.mpr ⟨rfl, (List.forall_mem_cons.mpr ⟨rfl, (List.forall_mem_cons.mpr ⟨rfl, (List.forall_mem_cons.mpr ⟨rfl, zs_nil⟩)⟩)⟩)⟩) ?_
        exact zt_X14_isCalled_J116 hX hr hR hd hf hk hrec h
      · rw [if_neg c109] at h
        refine zw_sub (lv' := [(0, .ref a0), (1, .int i1), (2, .int i2), (4, .int i4)]) (List.forall_mem_cons.mpr ⟨rfl, (List.forall_mem_cons.mpr ⟨rfl, (List.forall_mem_cons.mpr ⟨rfl, (List.forall_mem_cons.mpr ⟨rfl, zs_nil⟩)⟩)⟩)⟩) ?_
        exact zt_X14_isCalled_J112 hX hr hR hd hf hk hrec h
    · rw [if_neg c96] at h
      refine zw_iload hX dX14_isCalled_99 rfl ?_
      refine zw_if_eq (tgt := 116) hX dX14_isCalled_101 (by decide) (fun c101 => ?_) (fun c101 => ?_)
      · rw [if_pos c101] at h
        refine zw_sub (lv' := [(0, .ref a0), (1, .int i1), (2, .int i2), (4, .int i4)]) (List.forall_mem_cons.mpr ⟨rfl, (List.forall_mem_cons.mpr ⟨rfl, (List.forall_mem_cons.mpr ⟨rfl, (List.forall_mem_cons.mpr ⟨rfl, zs_nil⟩)⟩)⟩)⟩) ?_
        exact zt_X14_isCalled_J116 hX hr hR hd hf hk hrec h
      · rw [if_neg c101] at h
        refine zw_goto (tgt := 112) hX dX14_isCalled_104 (by decide) ?_
        refine zw_sub (lv' := [(0, .ref a0), (1, .int i1), (2, .int i2), (4, .int i4)]) (List.forall_mem_cons.mpr ⟨rfl, (List.forall_mem_cons.mpr ⟨rfl, (List.forall_mem_cons.mpr ⟨rfl, (List.forall_mem_cons.mpr ⟨rfl, zs_nil⟩)⟩)⟩)⟩) ?_
        exact zt_X14_isCalled_J112 hX hr hR hd hf hk hrec h
def zf_X14_isCalled_J88 (N : Nat) (k : Nat → Int32 → Int32 → Int32 → Int32 → zm_S → Option ((Int32 × zm_S) ⊕ ((Int32) × zm_S))) (a0 : Nat) (i1 : Int32) (i2 : Int32) (i3 : Int32) (i4 : Int32) (i5 : Int32) (S : zm_S) : Option ((Int32 × zm_S) ⊕ ((Int32) × zm_S)) := zf_X14_isCalled_J89 N (k) a0 i1 i2 i3 i4 i5 (0 : Int32) S
set_option maxHeartbeats 4000000 in
set_option maxRecDepth 100000 in
theorem zt_X14_isCalled_J88 {p : Program} {l : Launch} {e : Env} {R : Room} {s : State} {m : MethodId} {args : Array Value} {below : List Frame} {meth : Method} {c : Code} {V : zm_V} {mc ms d rc rs : Nat} (hX : zm_X p R s m args meth c RX14 "isCalled" cX14_isCalled 7 zk_E V mc ms) (hr : meth.sig.returnType = (some .boolean)) (hR : R.frames = d ∧ R.locals = 64 * d) (hd : 5 ≤ d) {N : Nat} {k : Nat → Int32 → Int32 → Int32 → Int32 → zm_S → Option ((Int32 × zm_S) ⊕ ((Int32) × zm_S))} {a0 : Nat} {i1 : Int32} {i2 : Int32} {i3 : Int32} {i4 : Int32} {i5 : Int32} {res : (Int32 × zm_S) ⊕ ((Int32) × zm_S)} {out : (Int32 × zm_S)}   (hf : ∀ o, res = .inl o → o = out) (hk : ∀ (x3 : Int32) (S' : zm_S), res = .inr (x3, S') → zw p l e R s m args below meth c (vx_MQ below (zm_Qc zk_E V (zo_i out)) (zm_XC zk_E V zo_x) args s mc ms (fun q => V.2.2.2.1 ≤ q)) 7 zk_E V mc ms 124 [(3, .int x3)] [] S' rc rs) (hrec : ∀ (i3' : Int32) (i4' : Int32) (S : zm_S), k a0 i1 i2 i3' i4' S = some res → zw p l e R s m args below meth c (vx_MQ below (zm_Qc zk_E V (zo_i out)) (zm_XC zk_E V zo_x) args s mc ms (fun q => V.2.2.2.1 ≤ q)) 7 zk_E V mc ms 5 [(0, .ref a0), (1, .int i1), (2, .int i2), (3, .int i3'), (4, .int i4')] [] S rc rs) {S : zm_S} (h : zf_X14_isCalled_J88 N k a0 i1 i2 i3 i4 i5 S = some res) : zw p l e R s m args below meth c (vx_MQ below (zm_Qc zk_E V (zo_i out)) (zm_XC zk_E V zo_x) args s mc ms (fun q => V.2.2.2.1 ≤ q)) 7 zk_E V mc ms 88 [(0, .ref a0), (1, .int i1), (2, .int i2), (3, .int i3), (4, .int i4), (5, .int i5)] [] S rc rs := by
  unfold zf_X14_isCalled_J88 at h
  refine zw_iconst (v := (0 : Int32)) hX dX14_isCalled_88 (by decide) ?_
  refine zw_sub (lv' := [(0, .ref a0), (1, .int i1), (2, .int i2), (3, .int i3), (4, .int i4), (5, .int i5)]) (List.forall_mem_cons.mpr ⟨rfl, (List.forall_mem_cons.mpr ⟨rfl, (List.forall_mem_cons.mpr ⟨rfl, (List.forall_mem_cons.mpr ⟨rfl, (List.forall_mem_cons.mpr ⟨rfl, (List.forall_mem_cons.mpr ⟨rfl, zs_nil⟩)⟩)⟩)⟩)⟩)⟩) ?_
  exact zt_X14_isCalled_J89 hX hr hR hd hf hk hrec h
def zf_X14_isCalled_J84 (N : Nat) (k : Nat → Int32 → Int32 → Int32 → Int32 → zm_S → Option ((Int32 × zm_S) ⊕ ((Int32) × zm_S))) (a0 : Nat) (i1 : Int32) (i2 : Int32) (i3 : Int32) (i4 : Int32) (i5 : Int32) (S : zm_S) : Option ((Int32 × zm_S) ⊕ ((Int32) × zm_S)) := zf_X14_isCalled_J89 N (k) a0 i1 i2 i3 i4 i5 (1 : Int32) S
set_option maxHeartbeats 4000000 in
set_option maxRecDepth 100000 in
theorem zt_X14_isCalled_J84 {p : Program} {l : Launch} {e : Env} {R : Room} {s : State} {m : MethodId} {args : Array Value} {below : List Frame} {meth : Method} {c : Code} {V : zm_V} {mc ms d rc rs : Nat} (hX : zm_X p R s m args meth c RX14 "isCalled" cX14_isCalled 7 zk_E V mc ms) (hr : meth.sig.returnType = (some .boolean)) (hR : R.frames = d ∧ R.locals = 64 * d) (hd : 5 ≤ d) {N : Nat} {k : Nat → Int32 → Int32 → Int32 → Int32 → zm_S → Option ((Int32 × zm_S) ⊕ ((Int32) × zm_S))} {a0 : Nat} {i1 : Int32} {i2 : Int32} {i3 : Int32} {i4 : Int32} {i5 : Int32} {res : (Int32 × zm_S) ⊕ ((Int32) × zm_S)} {out : (Int32 × zm_S)}   (hf : ∀ o, res = .inl o → o = out) (hk : ∀ (x3 : Int32) (S' : zm_S), res = .inr (x3, S') → zw p l e R s m args below meth c (vx_MQ below (zm_Qc zk_E V (zo_i out)) (zm_XC zk_E V zo_x) args s mc ms (fun q => V.2.2.2.1 ≤ q)) 7 zk_E V mc ms 124 [(3, .int x3)] [] S' rc rs) (hrec : ∀ (i3' : Int32) (i4' : Int32) (S : zm_S), k a0 i1 i2 i3' i4' S = some res → zw p l e R s m args below meth c (vx_MQ below (zm_Qc zk_E V (zo_i out)) (zm_XC zk_E V zo_x) args s mc ms (fun q => V.2.2.2.1 ≤ q)) 7 zk_E V mc ms 5 [(0, .ref a0), (1, .int i1), (2, .int i2), (3, .int i3'), (4, .int i4')] [] S rc rs) {S : zm_S} (h : zf_X14_isCalled_J84 N k a0 i1 i2 i3 i4 i5 S = some res) : zw p l e R s m args below meth c (vx_MQ below (zm_Qc zk_E V (zo_i out)) (zm_XC zk_E V zo_x) args s mc ms (fun q => V.2.2.2.1 ≤ q)) 7 zk_E V mc ms 84 [(0, .ref a0), (1, .int i1), (2, .int i2), (3, .int i3), (4, .int i4), (5, .int i5)] [] S rc rs := by
  unfold zf_X14_isCalled_J84 at h
  refine zw_iconst (v := (1 : Int32)) hX dX14_isCalled_84 (by decide) ?_
  refine zw_goto (tgt := 89) hX dX14_isCalled_85 (by decide) ?_
  refine zw_sub (lv' := [(0, .ref a0), (1, .int i1), (2, .int i2), (3, .int i3), (4, .int i4), (5, .int i5)]) (List.forall_mem_cons.mpr ⟨rfl, (List.forall_mem_cons.mpr ⟨rfl, (List.forall_mem_cons.mpr ⟨rfl, (List.forall_mem_cons.mpr ⟨rfl, (List.forall_mem_cons.mpr ⟨rfl, (List.forall_mem_cons.mpr ⟨rfl, zs_nil⟩)⟩)⟩)⟩)⟩)⟩) ?_
  exact zt_X14_isCalled_J89 hX hr hR hd hf hk hrec h
def zf_X14_isCalled_J39 (N : Nat) (k : Nat → Int32 → Int32 → Int32 → Int32 → zm_S → Option ((Int32 × zm_S) ⊕ ((Int32) × zm_S))) (a0 : Nat) (i1 : Int32) (i2 : Int32) (i3 : Int32) (i4 : Int32) (t0 : Int32) (S : zm_S) : Option ((Int32 × zm_S) ⊕ ((Int32) × zm_S)) := if t0 = 0 then zf_X14_isCalled_J88 N (k) a0 i1 i2 i3 i4 t0 S else (zg_r S a0 14 23).bind (fun b4 => (za_x S 0 b4 i4).bind (fun v5 => (zi S a0 14).bind (fun _ => (zf_X14_isSure N a0 v5 S).bind (fun r8 => if r8.1 = 0 then (zg_r r8.2 a0 14 24).bind (fun b9 => (za_x r8.2 0 b9 i4).bind (fun v10 => if v10 < 0 then zf_X14_isCalled_J88 N (k) a0 i1 i2 i3 i4 t0 r8.2 else (zg_r r8.2 a0 14 24).bind (fun b11 => (za_x r8.2 0 b11 i4).bind (fun v12 => (zi r8.2 a0 14).bind (fun _ => (zf_X14_isSure N a0 v12 r8.2).bind (fun r15 => if r15.1 = 0 then zf_X14_isCalled_J88 N (k) a0 i1 i2 i3 i4 t0 r15.2 else zf_X14_isCalled_J84 N (k) a0 i1 i2 i3 i4 t0 r15.2)))))) else zf_X14_isCalled_J84 N (k) a0 i1 i2 i3 i4 t0 r8.2))))
set_option maxHeartbeats 4000000 in
set_option maxRecDepth 100000 in
theorem zt_X14_isCalled_J39 {p : Program} {l : Launch} {e : Env} {R : Room} {s : State} {m : MethodId} {args : Array Value} {below : List Frame} {meth : Method} {c : Code} {V : zm_V} {mc ms d rc rs : Nat} (hX : zm_X p R s m args meth c RX14 "isCalled" cX14_isCalled 7 zk_E V mc ms) (hr : meth.sig.returnType = (some .boolean)) (hR : R.frames = d ∧ R.locals = 64 * d) (hd : 5 ≤ d) {N : Nat} {k : Nat → Int32 → Int32 → Int32 → Int32 → zm_S → Option ((Int32 × zm_S) ⊕ ((Int32) × zm_S))} {a0 : Nat} {i1 : Int32} {i2 : Int32} {i3 : Int32} {i4 : Int32} {t0 : Int32} {res : (Int32 × zm_S) ⊕ ((Int32) × zm_S)} {out : (Int32 × zm_S)}   (hf : ∀ o, res = .inl o → o = out) (hk : ∀ (x3 : Int32) (S' : zm_S), res = .inr (x3, S') → zw p l e R s m args below meth c (vx_MQ below (zm_Qc zk_E V (zo_i out)) (zm_XC zk_E V zo_x) args s mc ms (fun q => V.2.2.2.1 ≤ q)) 7 zk_E V mc ms 124 [(3, .int x3)] [] S' rc rs) (hrec : ∀ (i3' : Int32) (i4' : Int32) (S : zm_S), k a0 i1 i2 i3' i4' S = some res → zw p l e R s m args below meth c (vx_MQ below (zm_Qc zk_E V (zo_i out)) (zm_XC zk_E V zo_x) args s mc ms (fun q => V.2.2.2.1 ≤ q)) 7 zk_E V mc ms 5 [(0, .ref a0), (1, .int i1), (2, .int i2), (3, .int i3'), (4, .int i4')] [] S rc rs) {S : zm_S} (h : zf_X14_isCalled_J39 N k a0 i1 i2 i3 i4 t0 S = some res) : zw p l e R s m args below meth c (vx_MQ below (zm_Qc zk_E V (zo_i out)) (zm_XC zk_E V zo_x) args s mc ms (fun q => V.2.2.2.1 ≤ q)) 7 zk_E V mc ms 39 [(0, .ref a0), (1, .int i1), (2, .int i2), (3, .int i3), (4, .int i4)] [.int t0] S rc rs := by
  unfold zf_X14_isCalled_J39 at h
  refine zw_istore hX dX14_isCalled_39 (by decide) ?_
  refine zw_iload hX dX14_isCalled_41 rfl ?_
  refine zw_if_eq (tgt := 88) hX dX14_isCalled_43 (by decide) (fun c43 => ?_) (fun c43 => ?_)
  · rw [if_pos c43] at h
    refine zw_sub (lv' := [(0, .ref a0), (1, .int i1), (2, .int i2), (3, .int i3), (4, .int i4), (5, .int t0)]) (List.forall_mem_cons.mpr ⟨rfl, (List.forall_mem_cons.mpr ⟨rfl, (List.forall_mem_cons.mpr ⟨rfl, (List.forall_mem_cons.mpr ⟨rfl, (List.forall_mem_cons.mpr ⟨rfl, (List.forall_mem_cons.mpr ⟨rfl, zs_nil⟩)⟩)⟩)⟩)⟩)⟩) ?_
    exact zt_X14_isCalled_J88 hX hr hR hd hf hk hrec h
  · rw [if_neg c43] at h
    refine zw_aload_n hX dX14_isCalled_46 rfl ?_
    refine zw_aload_n hX dX14_isCalled_47 rfl ?_
    obtain ⟨b4, g, h⟩ := zb_some h
    refine zw_getr hX zl_X14_56 dX14_isCalled_48 g ?_
    refine zw_iload hX dX14_isCalled_51 rfl ?_
    obtain ⟨v5, g, h⟩ := zb_some h
    refine zw_xi hX dX14_isCalled_53 g ?_
    obtain ⟨_, gi, h⟩ := zb_some h
    obtain ⟨r8, g, h⟩ := zb_some h
    refine zc_Vi (as := [.int v5]) hX gi (zt_X14_isSure (d := d - 1) (by omega) g) zl_X14_218 rfl dX14_isCalled_54 ⟨rfl, rfl, Nat.le_of_ble_eq_true rfl⟩ ⟨by omega, by omega⟩ ?_
    refine zw_if_ne (tgt := 84) hX dX14_isCalled_57 (by decide) (fun c57 => ?_) (fun c57 => ?_)
    · rw [if_neg c57] at h
      refine zw_sub (lv' := [(0, .ref a0), (1, .int i1), (2, .int i2), (3, .int i3), (4, .int i4), (5, .int t0)]) (List.forall_mem_cons.mpr ⟨rfl, (List.forall_mem_cons.mpr ⟨rfl, (List.forall_mem_cons.mpr ⟨rfl, (List.forall_mem_cons.mpr ⟨rfl, (List.forall_mem_cons.mpr ⟨rfl, (List.forall_mem_cons.mpr ⟨rfl, zs_nil⟩)⟩)⟩)⟩)⟩)⟩) ?_
      exact zt_X14_isCalled_J84 hX hr hR hd hf hk hrec h
    · rw [if_pos c57] at h
      refine zw_aload_n hX dX14_isCalled_60 rfl ?_
      obtain ⟨b9, g, h⟩ := zb_some h
      refine zw_getr hX zl_X14_59 dX14_isCalled_61 g ?_
      refine zw_iload hX dX14_isCalled_64 rfl ?_
      obtain ⟨v10, g, h⟩ := zb_some h
      refine zw_xi hX dX14_isCalled_66 g ?_
      refine zw_if_lt (tgt := 88) hX dX14_isCalled_67 (by decide) (fun c67 => ?_) (fun c67 => ?_)
      · rw [if_pos c67] at h
        refine zw_sub (lv' := [(0, .ref a0), (1, .int i1), (2, .int i2), (3, .int i3), (4, .int i4), (5, .int t0)]) (List.forall_mem_cons.mpr ⟨rfl, (List.forall_mem_cons.mpr ⟨rfl, (List.forall_mem_cons.mpr ⟨rfl, (List.forall_mem_cons.mpr ⟨rfl, (List.forall_mem_cons.mpr ⟨rfl, (List.forall_mem_cons.mpr ⟨rfl, zs_nil⟩)⟩)⟩)⟩)⟩)⟩) ?_
        exact zt_X14_isCalled_J88 hX hr hR hd hf hk hrec h
      · rw [if_neg c67] at h
        refine zw_aload_n hX dX14_isCalled_70 rfl ?_
        refine zw_aload_n hX dX14_isCalled_71 rfl ?_
        obtain ⟨b11, g, h⟩ := zb_some h
        refine zw_getr hX zl_X14_59 dX14_isCalled_72 g ?_
        refine zw_iload hX dX14_isCalled_75 rfl ?_
        obtain ⟨v12, g, h⟩ := zb_some h
        refine zw_xi hX dX14_isCalled_77 g ?_
        obtain ⟨_, gi, h⟩ := zb_some h
        obtain ⟨r15, g, h⟩ := zb_some h
        refine zc_Vi (as := [.int v12]) hX gi (zt_X14_isSure (d := d - 1) (by omega) g) zl_X14_218 rfl dX14_isCalled_78 ⟨rfl, rfl, Nat.le_of_ble_eq_true rfl⟩ ⟨by omega, by omega⟩ ?_
        refine zw_if_eq (tgt := 88) hX dX14_isCalled_81 (by decide) (fun c81 => ?_) (fun c81 => ?_)
        · rw [if_pos c81] at h
          refine zw_sub (lv' := [(0, .ref a0), (1, .int i1), (2, .int i2), (3, .int i3), (4, .int i4), (5, .int t0)]) (List.forall_mem_cons.mpr ⟨rfl, (List.forall_mem_cons.mpr ⟨rfl, (List.forall_mem_cons.mpr ⟨rfl, (List.forall_mem_cons.mpr ⟨rfl, (List.forall_mem_cons.mpr ⟨rfl, (List.forall_mem_cons.mpr ⟨rfl, zs_nil⟩)⟩)⟩)⟩)⟩)⟩) ?_
          exact zt_X14_isCalled_J88 hX hr hR hd hf hk hrec h
        · rw [if_neg c81] at h
          refine zw_sub (lv' := [(0, .ref a0), (1, .int i1), (2, .int i2), (3, .int i3), (4, .int i4), (5, .int t0)]) (List.forall_mem_cons.mpr ⟨rfl, (List.forall_mem_cons.mpr ⟨rfl, (List.forall_mem_cons.mpr ⟨rfl, (List.forall_mem_cons.mpr ⟨rfl, (List.forall_mem_cons.mpr ⟨rfl, (List.forall_mem_cons.mpr ⟨rfl, zs_nil⟩)⟩)⟩)⟩)⟩)⟩) ?_
          exact zt_X14_isCalled_J84 hX hr hR hd hf hk hrec h
def zf_X14_isCalled_J38 (N : Nat) (k : Nat → Int32 → Int32 → Int32 → Int32 → zm_S → Option ((Int32 × zm_S) ⊕ ((Int32) × zm_S))) (a0 : Nat) (i1 : Int32) (i2 : Int32) (i3 : Int32) (i4 : Int32) (S : zm_S) : Option ((Int32 × zm_S) ⊕ ((Int32) × zm_S)) := zf_X14_isCalled_J39 N (k) a0 i1 i2 i3 i4 (0 : Int32) S
set_option maxHeartbeats 4000000 in
set_option maxRecDepth 100000 in
theorem zt_X14_isCalled_J38 {p : Program} {l : Launch} {e : Env} {R : Room} {s : State} {m : MethodId} {args : Array Value} {below : List Frame} {meth : Method} {c : Code} {V : zm_V} {mc ms d rc rs : Nat} (hX : zm_X p R s m args meth c RX14 "isCalled" cX14_isCalled 7 zk_E V mc ms) (hr : meth.sig.returnType = (some .boolean)) (hR : R.frames = d ∧ R.locals = 64 * d) (hd : 5 ≤ d) {N : Nat} {k : Nat → Int32 → Int32 → Int32 → Int32 → zm_S → Option ((Int32 × zm_S) ⊕ ((Int32) × zm_S))} {a0 : Nat} {i1 : Int32} {i2 : Int32} {i3 : Int32} {i4 : Int32} {res : (Int32 × zm_S) ⊕ ((Int32) × zm_S)} {out : (Int32 × zm_S)}   (hf : ∀ o, res = .inl o → o = out) (hk : ∀ (x3 : Int32) (S' : zm_S), res = .inr (x3, S') → zw p l e R s m args below meth c (vx_MQ below (zm_Qc zk_E V (zo_i out)) (zm_XC zk_E V zo_x) args s mc ms (fun q => V.2.2.2.1 ≤ q)) 7 zk_E V mc ms 124 [(3, .int x3)] [] S' rc rs) (hrec : ∀ (i3' : Int32) (i4' : Int32) (S : zm_S), k a0 i1 i2 i3' i4' S = some res → zw p l e R s m args below meth c (vx_MQ below (zm_Qc zk_E V (zo_i out)) (zm_XC zk_E V zo_x) args s mc ms (fun q => V.2.2.2.1 ≤ q)) 7 zk_E V mc ms 5 [(0, .ref a0), (1, .int i1), (2, .int i2), (3, .int i3'), (4, .int i4')] [] S rc rs) {S : zm_S} (h : zf_X14_isCalled_J38 N k a0 i1 i2 i3 i4 S = some res) : zw p l e R s m args below meth c (vx_MQ below (zm_Qc zk_E V (zo_i out)) (zm_XC zk_E V zo_x) args s mc ms (fun q => V.2.2.2.1 ≤ q)) 7 zk_E V mc ms 38 [(0, .ref a0), (1, .int i1), (2, .int i2), (3, .int i3), (4, .int i4)] [] S rc rs := by
  unfold zf_X14_isCalled_J38 at h
  refine zw_iconst (v := (0 : Int32)) hX dX14_isCalled_38 (by decide) ?_
  refine zw_sub (lv' := [(0, .ref a0), (1, .int i1), (2, .int i2), (3, .int i3), (4, .int i4)]) (List.forall_mem_cons.mpr ⟨rfl, (List.forall_mem_cons.mpr ⟨rfl, (List.forall_mem_cons.mpr ⟨rfl, (List.forall_mem_cons.mpr ⟨rfl, (List.forall_mem_cons.mpr ⟨rfl, zs_nil⟩)⟩)⟩)⟩)⟩) ?_
  exact zt_X14_isCalled_J39 hX hr hR hd hf hk hrec h
def zf_X14_isCalled_L5 (N : Nat) : Nat → Nat → Int32 → Int32 → Int32 → Int32 → zm_S → Option ((Int32 × zm_S) ⊕ ((Int32) × zm_S))
  | 0, _, _, _, _, _, _ => none
  | n + 1, a0, i1, i2, i3, i4, S => (zg_i S a0 14 21).bind (fun v1 => if v1 ≤ i4 then some (.inr (i3, S)) else (zg_r S a0 14 25).bind (fun b2 => (za_x S 0 b2 i4).bind (fun v3 => if v3 = i1 then (zi S a0 14).bind (fun _ => (zf_X14_isMet N a0 i4 S).bind (fun r18 => if r18.1 = 0 then zf_X14_isCalled_J38 N (zf_X14_isCalled_L5 N n) a0 i1 i2 i3 i4 r18.2 else zf_X14_isCalled_J39 N (zf_X14_isCalled_L5 N n) a0 i1 i2 i3 i4 (1 : Int32) r18.2)) else zf_X14_isCalled_J38 N (zf_X14_isCalled_L5 N n) a0 i1 i2 i3 i4 S)))
set_option maxHeartbeats 4000000 in
set_option maxRecDepth 100000 in
theorem zt_X14_isCalled_L5 {p : Program} {l : Launch} {e : Env} {R : Room} {s : State} {m : MethodId} {args : Array Value} {below : List Frame} {meth : Method} {c : Code} {V : zm_V} {mc ms d rc rs : Nat} (hX : zm_X p R s m args meth c RX14 "isCalled" cX14_isCalled 7 zk_E V mc ms) (hr : meth.sig.returnType = (some .boolean)) (hR : R.frames = d ∧ R.locals = 64 * d) (hd : 5 ≤ d) {N : Nat} {res : (Int32 × zm_S) ⊕ ((Int32) × zm_S)} {out : (Int32 × zm_S)} (a0 : Nat) (i1 : Int32) (i2 : Int32) (hf : ∀ o, res = .inl o → o = out) (hk : ∀ (x3 : Int32) (S' : zm_S), res = .inr (x3, S') → zw p l e R s m args below meth c (vx_MQ below (zm_Qc zk_E V (zo_i out)) (zm_XC zk_E V zo_x) args s mc ms (fun q => V.2.2.2.1 ≤ q)) 7 zk_E V mc ms 124 [(3, .int x3)] [] S' rc rs) : ∀ (n : Nat) (i3 : Int32) (i4 : Int32) (S : zm_S), zf_X14_isCalled_L5 N n a0 i1 i2 i3 i4 S = some res → zw p l e R s m args below meth c (vx_MQ below (zm_Qc zk_E V (zo_i out)) (zm_XC zk_E V zo_x) args s mc ms (fun q => V.2.2.2.1 ≤ q)) 7 zk_E V mc ms 5 [(0, .ref a0), (1, .int i1), (2, .int i2), (3, .int i3), (4, .int i4)] [] S rc rs := by
  intro n
  induction n with
  | zero => intro i3 i4 S h; cases h
  | succ n ih =>
    intro i3 i4 S h
    rw [zf_X14_isCalled_L5] at h
    refine zw_iload hX dX14_isCalled_5 rfl ?_
    refine zw_aload_n hX dX14_isCalled_7 rfl ?_
    obtain ⟨v1, g, h⟩ := zb_some h
    refine zw_geti hX zl_X14_196 dX14_isCalled_8 g ?_
    refine zw_icmp_ge (tgt := 124) hX dX14_isCalled_11 (by decide) (fun c11 => ?_) (fun c11 => ?_)
    · rw [if_pos c11] at h
      refine zw_sub (lv' := [(3, .int i3)]) (List.forall_mem_cons.mpr ⟨rfl, zs_nil⟩) ?_
      exact hk _ _ (Option.some.inj h).symm
    · rw [if_neg c11] at h
      refine zw_aload_n hX dX14_isCalled_14 rfl ?_
      obtain ⟨b2, g, h⟩ := zb_some h
      refine zw_getr hX zl_X14_62 dX14_isCalled_15 g ?_
      refine zw_iload hX dX14_isCalled_18 rfl ?_
      obtain ⟨v3, g, h⟩ := zb_some h
      refine zw_xi hX dX14_isCalled_20 g ?_
      refine zw_iload_n hX dX14_isCalled_21 rfl ?_
      refine zw_icmp_ne (tgt := 38) hX dX14_isCalled_22 (by decide) (fun c22 => ?_) (fun c22 => ?_)
      · rw [if_neg c22] at h
        refine zw_sub (lv' := [(0, .ref a0), (1, .int i1), (2, .int i2), (3, .int i3), (4, .int i4)]) (List.forall_mem_cons.mpr ⟨rfl, (List.forall_mem_cons.mpr ⟨rfl, (List.forall_mem_cons.mpr ⟨rfl, (List.forall_mem_cons.mpr ⟨rfl, (List.forall_mem_cons.mpr ⟨rfl, zs_nil⟩)⟩)⟩)⟩)⟩) ?_
        exact zt_X14_isCalled_J38 hX hr hR hd hf hk ih h
      · rw [if_pos c22] at h
        refine zw_aload_n hX dX14_isCalled_25 rfl ?_
        refine zw_iload hX dX14_isCalled_26 rfl ?_
        obtain ⟨_, gi, h⟩ := zb_some h
        obtain ⟨r18, g, h⟩ := zb_some h
        refine zc_Vi (as := [.int i4]) hX gi (zt_X14_isMet (d := d - 1) (by omega) g) zl_X14_215 rfl dX14_isCalled_28 ⟨rfl, rfl, Nat.le_of_ble_eq_true rfl⟩ ⟨by omega, by omega⟩ ?_
        refine zw_if_eq (tgt := 38) hX dX14_isCalled_31 (by decide) (fun c31 => ?_) (fun c31 => ?_)
        · rw [if_pos c31] at h
          refine zw_sub (lv' := [(0, .ref a0), (1, .int i1), (2, .int i2), (3, .int i3), (4, .int i4)]) (List.forall_mem_cons.mpr ⟨rfl, (List.forall_mem_cons.mpr ⟨rfl, (List.forall_mem_cons.mpr ⟨rfl, (List.forall_mem_cons.mpr ⟨rfl, (List.forall_mem_cons.mpr ⟨rfl, zs_nil⟩)⟩)⟩)⟩)⟩) ?_
          exact zt_X14_isCalled_J38 hX hr hR hd hf hk ih h
        · rw [if_neg c31] at h
          refine zw_iconst (v := (1 : Int32)) hX dX14_isCalled_34 (by decide) ?_
          refine zw_goto (tgt := 39) hX dX14_isCalled_35 (by decide) ?_
          refine zw_sub (lv' := [(0, .ref a0), (1, .int i1), (2, .int i2), (3, .int i3), (4, .int i4)]) (List.forall_mem_cons.mpr ⟨rfl, (List.forall_mem_cons.mpr ⟨rfl, (List.forall_mem_cons.mpr ⟨rfl, (List.forall_mem_cons.mpr ⟨rfl, (List.forall_mem_cons.mpr ⟨rfl, zs_nil⟩)⟩)⟩)⟩)⟩) ?_
          exact zt_X14_isCalled_J39 hX hr hR hd hf hk ih h
def zf_X14_isCalled (N : Nat) (a0 : Nat) (i1 : Int32) (i2 : Int32) (S : zm_S) : Option (Int32 × zm_S) := (zf_X14_isCalled_L5 N N a0 i1 i2 (0 : Int32) (0 : Int32) S).bind (fun r => match r with | .inl o => some o | .inr (v20, S19) => if v20 = 0 ∨ v20 = 1 then some (v20, S19) else none)
set_option maxHeartbeats 4000000 in
set_option maxRecDepth 100000 in
theorem zt_X14_isCalled {l : Launch} {V : zm_V} {N : Nat} {S : zm_S} {out : (Int32 × zm_S)} {d : Nat} {a0 : Nat} {i1 : Int32} {i2 : Int32} (hd : 5 ≤ d) (h : zf_X14_isCalled N a0 i1 i2 S = some out) : zm_Met l zk_E V yX14_isCalled (.code yX14_isCalled cX14_isCalled 7 (some .boolean)) d [.ref a0, .int i1, .int i2] S 0 0 (zo_i out) zo_x := by
  refine zm_of (by decide +kernel) (Nat.le_of_ble_eq_true rfl) ?_
  intro p e R s m args below meth c hRR hX hr hxt
  have hR : R.frames = d ∧ R.locals = 64 * d := by rw [hRR]; exact ⟨rfl, rfl⟩
  have hX : zm_X p R s m args meth c RX14 "isCalled" cX14_isCalled 7 zk_E V 0 0 := hX
  unfold zf_X14_isCalled at h
  refine zw_sub (lv' := [(0, .ref a0), (1, .int i1), (2, .int i2)]) (List.forall_mem_cons.mpr ⟨rfl, (List.forall_mem_cons.mpr ⟨rfl, (List.forall_mem_cons.mpr ⟨rfl, zs_nil⟩)⟩)⟩) ?_
  refine zw_iconst (v := (0 : Int32)) hX dX14_isCalled_0 (by decide) ?_
  refine zw_istore_n hX dX14_isCalled_1 (by decide) ?_
  refine zw_iconst (v := (0 : Int32)) hX dX14_isCalled_2 (by decide) ?_
  refine zw_istore hX dX14_isCalled_3 (by decide) ?_
  obtain ⟨r, g, h⟩ := zb_some h
  refine zw_sub (lv' := [(0, .ref a0), (1, .int i1), (2, .int i2), (3, .int (0 : Int32)), (4, .int (0 : Int32))]) (List.forall_mem_cons.mpr ⟨rfl, (List.forall_mem_cons.mpr ⟨rfl, (List.forall_mem_cons.mpr ⟨rfl, (List.forall_mem_cons.mpr ⟨rfl, (List.forall_mem_cons.mpr ⟨rfl, zs_nil⟩)⟩)⟩)⟩)⟩) ?_
  refine zt_X14_isCalled_L5 hX hr hR hd (res := r) (out := out) a0 i1 i2 ?_ ?_ N _ _ _ g
  · intro o ho
    subst ho
    exact Option.some.inj h
  · intro v20 S19 hx
    subst hx
    try dsimp only at h
    refine zw_iload_n hX dX14_isCalled_124 rfl ?_
    by_cases cz : v20 = 0 ∨ v20 = 1
    · rw [if_pos cz] at h
      obtain rfl := Option.some.inj h
      exact zw_iret hX hr dX14_isCalled_125 (zn_z cz) ⟨rfl, rfl⟩
    · rw [if_neg cz] at h
      cases h
def zf_X14_tell_J75 (N : Nat) (a0 : Nat) (i1 : Int32) (i2 : Int32) (S : zm_S) : Option (Unit × zm_S) := (zg_r S a0 14 31).bind (fun b2 => (zg_i S a0 14 30).bind (fun v3 => (zg_i S a0 14 1).bind (fun v4 => (zs_i S b2 v3 v4).bind (fun S5 => (zg_r S5 a0 14 32).bind (fun b6 => (zg_i S5 a0 14 30).bind (fun v7 => (zs_i S5 b6 v7 i1).bind (fun S8 => (zg_r S8 a0 14 33).bind (fun b9 => (zg_i S8 a0 14 30).bind (fun v10 => (zs_i S8 b9 v10 i2).bind (fun S11 => (zg_i S11 a0 14 30).bind (fun v12 => (zp S11 a0 14 30 (.int (v12 + (1 : Int32)))).bind (fun S13 => some ((), S13)))))))))))))
set_option maxHeartbeats 4000000 in
set_option maxRecDepth 100000 in
theorem zt_X14_tell_J75 {p : Program} {l : Launch} {e : Env} {R : Room} {s : State} {m : MethodId} {args : Array Value} {below : List Frame} {meth : Method} {c : Code} {V : zm_V} {mc ms d rc rs : Nat} (hX : zm_X p R s m args meth c RX14 "tell" cX14_tell 4 zk_E V mc ms) (hr : meth.sig.returnType = none) (hR : R.frames = d ∧ R.locals = 64 * d) (hd : 1 ≤ d) {N : Nat} {a0 : Nat} {i1 : Int32} {i2 : Int32} {out : (Unit × zm_S)} {S : zm_S} (h : zf_X14_tell_J75 N a0 i1 i2 S = some out) : zw p l e R s m args below meth c (vx_MQ below (zm_Qc zk_E V (zo_v out)) (zm_XC zk_E V zo_x) args s mc ms (fun q => V.2.2.2.1 ≤ q)) 4 zk_E V mc ms 75 [(0, .ref a0), (1, .int i1), (2, .int i2)] [] S rc rs := by
  unfold zf_X14_tell_J75 at h
  refine zw_aload_n hX dX14_tell_75 rfl ?_
  obtain ⟨b2, g, h⟩ := zb_some h
  refine zw_getr hX zl_X14_77 dX14_tell_76 g ?_
  refine zw_aload_n hX dX14_tell_79 rfl ?_
  obtain ⟨v3, g, h⟩ := zb_some h
  refine zw_geti hX zl_X14_221 dX14_tell_80 g ?_
  refine zw_aload_n hX dX14_tell_83 rfl ?_
  obtain ⟨v4, g, h⟩ := zb_some h
  refine zw_geti hX zl_X14_202 dX14_tell_84 g ?_
  obtain ⟨S5, g, h⟩ := zb_some h
  refine zw_si hX dX14_tell_87 g ?_
  refine zw_aload_n hX dX14_tell_88 rfl ?_
  obtain ⟨b6, g, h⟩ := zb_some h
  refine zw_getr hX zl_X14_80 dX14_tell_89 g ?_
  refine zw_aload_n hX dX14_tell_92 rfl ?_
  obtain ⟨v7, g, h⟩ := zb_some h
  refine zw_geti hX zl_X14_221 dX14_tell_93 g ?_
  refine zw_iload_n hX dX14_tell_96 rfl ?_
  obtain ⟨S8, g, h⟩ := zb_some h
  refine zw_si hX dX14_tell_97 g ?_
  refine zw_aload_n hX dX14_tell_98 rfl ?_
  obtain ⟨b9, g, h⟩ := zb_some h
  refine zw_getr hX zl_X14_83 dX14_tell_99 g ?_
  refine zw_aload_n hX dX14_tell_102 rfl ?_
  obtain ⟨v10, g, h⟩ := zb_some h
  refine zw_geti hX zl_X14_221 dX14_tell_103 g ?_
  refine zw_iload_n hX dX14_tell_106 rfl ?_
  obtain ⟨S11, g, h⟩ := zb_some h
  refine zw_si hX dX14_tell_107 g ?_
  refine zw_aload_n hX dX14_tell_108 rfl ?_
  refine zw_dup hX dX14_tell_109 rfl ?_
  obtain ⟨v12, g, h⟩ := zb_some h
  refine zw_geti hX zl_X14_221 dX14_tell_110 g ?_
  refine zw_iconst (v := (1 : Int32)) hX dX14_tell_113 (by decide) ?_
  refine zw_iadd hX dX14_tell_114 ?_
  obtain ⟨S13, g, h⟩ := zb_some h
  refine zw_putv hX zl_X14_221 zt_14_30 dX14_tell_115 rfl rfl g ?_
  obtain rfl := Option.some.inj h
  exact zw_vret hX hr dX14_tell_118 ⟨rfl, rfl⟩
def zf_X14_tell_L11 (N : Nat) : Nat → Nat → Int32 → Int32 → Int32 → zm_S → Option ((Unit × zm_S) ⊕ ((Unit) × zm_S))
  | 0, _, _, _, _, _ => none
  | n + 1, a0, i1, i2, i3, S => if (60 : Int32) ≤ i3 then some (.inr ((), S)) else (zg_r S a0 14 31).bind (fun b14 => (zg_r S a0 14 31).bind (fun b15 => (za_x S 0 b15 i3).bind (fun v16 => (zs_i S b14 (i3 - (1 : Int32)) v16).bind (fun S17 => (zg_r S17 a0 14 32).bind (fun b18 => (zg_r S17 a0 14 32).bind (fun b19 => (za_x S17 0 b19 i3).bind (fun v20 => (zs_i S17 b18 (i3 - (1 : Int32)) v20).bind (fun S21 => (zg_r S21 a0 14 33).bind (fun b22 => (zg_r S21 a0 14 33).bind (fun b23 => (za_x S21 0 b23 i3).bind (fun v24 => (zs_i S21 b22 (i3 - (1 : Int32)) v24).bind (fun S25 => zf_X14_tell_L11 N n a0 i1 i2 (i3 + (1 : Int32)) S25))))))))))))
set_option maxHeartbeats 4000000 in
set_option maxRecDepth 100000 in
theorem zt_X14_tell_L11 {p : Program} {l : Launch} {e : Env} {R : Room} {s : State} {m : MethodId} {args : Array Value} {below : List Frame} {meth : Method} {c : Code} {V : zm_V} {mc ms d rc rs : Nat} (hX : zm_X p R s m args meth c RX14 "tell" cX14_tell 4 zk_E V mc ms) (hr : meth.sig.returnType = none) (hR : R.frames = d ∧ R.locals = 64 * d) (hd : 1 ≤ d) {N : Nat} {res : (Unit × zm_S) ⊕ ((Unit) × zm_S)} {out : (Unit × zm_S)} (a0 : Nat) (i1 : Int32) (i2 : Int32) (hf : ∀ o, res = .inl o → o = out) (hk : ∀ (S' : zm_S), res = .inr ((), S') → zw p l e R s m args below meth c (vx_MQ below (zm_Qc zk_E V (zo_v out)) (zm_XC zk_E V zo_x) args s mc ms (fun q => V.2.2.2.1 ≤ q)) 4 zk_E V mc ms 65 [(0, .ref a0), (1, .int i1), (2, .int i2)] [] S' rc rs) : ∀ (n : Nat) (i3 : Int32) (S : zm_S), zf_X14_tell_L11 N n a0 i1 i2 i3 S = some res → zw p l e R s m args below meth c (vx_MQ below (zm_Qc zk_E V (zo_v out)) (zm_XC zk_E V zo_x) args s mc ms (fun q => V.2.2.2.1 ≤ q)) 4 zk_E V mc ms 11 [(0, .ref a0), (1, .int i1), (2, .int i2), (3, .int i3)] [] S rc rs := by
  intro n
  induction n with
  | zero => intro i3 S h; cases h
  | succ n ih =>
    intro i3 S h
    rw [zf_X14_tell_L11] at h
    refine zw_iload_n hX dX14_tell_11 rfl ?_
    refine zw_bipush (v := (60 : Int32)) hX dX14_tell_12 (by decide) ?_
    refine zw_icmp_ge (tgt := 65) hX dX14_tell_14 (by decide) (fun c14 => ?_) (fun c14 => ?_)
    · rw [if_pos c14] at h
      refine zw_sub (lv' := [(0, .ref a0), (1, .int i1), (2, .int i2)]) (List.forall_mem_cons.mpr ⟨rfl, (List.forall_mem_cons.mpr ⟨rfl, (List.forall_mem_cons.mpr ⟨rfl, zs_nil⟩)⟩)⟩) ?_
      exact hk  _ (Option.some.inj h).symm
    · rw [if_neg c14] at h
      refine zw_aload_n hX dX14_tell_17 rfl ?_
      obtain ⟨b14, g, h⟩ := zb_some h
      refine zw_getr hX zl_X14_77 dX14_tell_18 g ?_
      refine zw_iload_n hX dX14_tell_21 rfl ?_
      refine zw_iconst (v := (1 : Int32)) hX dX14_tell_22 (by decide) ?_
      refine zw_isub hX dX14_tell_23 ?_
      refine zw_aload_n hX dX14_tell_24 rfl ?_
      obtain ⟨b15, g, h⟩ := zb_some h
      refine zw_getr hX zl_X14_77 dX14_tell_25 g ?_
      refine zw_iload_n hX dX14_tell_28 rfl ?_
      obtain ⟨v16, g, h⟩ := zb_some h
      refine zw_xi hX dX14_tell_29 g ?_
      obtain ⟨S17, g, h⟩ := zb_some h
      refine zw_si hX dX14_tell_30 g ?_
      refine zw_aload_n hX dX14_tell_31 rfl ?_
      obtain ⟨b18, g, h⟩ := zb_some h
      refine zw_getr hX zl_X14_80 dX14_tell_32 g ?_
      refine zw_iload_n hX dX14_tell_35 rfl ?_
      refine zw_iconst (v := (1 : Int32)) hX dX14_tell_36 (by decide) ?_
      refine zw_isub hX dX14_tell_37 ?_
      refine zw_aload_n hX dX14_tell_38 rfl ?_
      obtain ⟨b19, g, h⟩ := zb_some h
      refine zw_getr hX zl_X14_80 dX14_tell_39 g ?_
      refine zw_iload_n hX dX14_tell_42 rfl ?_
      obtain ⟨v20, g, h⟩ := zb_some h
      refine zw_xi hX dX14_tell_43 g ?_
      obtain ⟨S21, g, h⟩ := zb_some h
      refine zw_si hX dX14_tell_44 g ?_
      refine zw_aload_n hX dX14_tell_45 rfl ?_
      obtain ⟨b22, g, h⟩ := zb_some h
      refine zw_getr hX zl_X14_83 dX14_tell_46 g ?_
      refine zw_iload_n hX dX14_tell_49 rfl ?_
      refine zw_iconst (v := (1 : Int32)) hX dX14_tell_50 (by decide) ?_
      refine zw_isub hX dX14_tell_51 ?_
      refine zw_aload_n hX dX14_tell_52 rfl ?_
      obtain ⟨b23, g, h⟩ := zb_some h
      refine zw_getr hX zl_X14_83 dX14_tell_53 g ?_
      refine zw_iload_n hX dX14_tell_56 rfl ?_
      obtain ⟨v24, g, h⟩ := zb_some h
      refine zw_xi hX dX14_tell_57 g ?_
      obtain ⟨S25, g, h⟩ := zb_some h
      refine zw_si hX dX14_tell_58 g ?_
      refine zw_iinc (v := (i3 + (1 : Int32))) hX dX14_tell_59 rfl rfl (by decide) ?_
      refine zw_goto (tgt := 11) hX dX14_tell_62 (by decide) ?_
      refine zw_sub (lv' := [(0, .ref a0), (1, .int i1), (2, .int i2), (3, .int (i3 + (1 : Int32)))]) (List.forall_mem_cons.mpr ⟨rfl, (List.forall_mem_cons.mpr ⟨rfl, (List.forall_mem_cons.mpr ⟨rfl, (List.forall_mem_cons.mpr ⟨rfl, zs_nil⟩)⟩)⟩)⟩) ?_
      exact ih _ _ h
def zf_X14_tell (N : Nat) (a0 : Nat) (i1 : Int32) (i2 : Int32) (S : zm_S) : Option (Unit × zm_S) := (zg_i S a0 14 30).bind (fun v1 => if v1 = (60 : Int32) then (zf_X14_tell_L11 N N a0 i1 i2 (1 : Int32) S).bind (fun r => match r with | .inl o => some o | .inr (_, S26) => (zg_i S26 a0 14 30).bind (fun v27 => (zp S26 a0 14 30 (.int (v27 - (1 : Int32)))).bind (fun S28 => zf_X14_tell_J75 N a0 i1 i2 S28))) else zf_X14_tell_J75 N a0 i1 i2 S)
set_option maxHeartbeats 4000000 in
set_option maxRecDepth 100000 in
theorem zt_X14_tell {l : Launch} {V : zm_V} {N : Nat} {S : zm_S} {out : (Unit × zm_S)} {d : Nat} {a0 : Nat} {i1 : Int32} {i2 : Int32} (hd : 1 ≤ d) (h : zf_X14_tell N a0 i1 i2 S = some out) : zm_Met l zk_E V yX14_tell (.code yX14_tell cX14_tell 4 none) d [.ref a0, .int i1, .int i2] S 0 0 (zo_v out) zo_x := by
  refine zm_of (by decide +kernel) (Nat.le_of_ble_eq_true rfl) ?_
  intro p e R s m args below meth c hRR hX hr hxt
  have hR : R.frames = d ∧ R.locals = 64 * d := by rw [hRR]; exact ⟨rfl, rfl⟩
  have hX : zm_X p R s m args meth c RX14 "tell" cX14_tell 4 zk_E V 0 0 := hX
  unfold zf_X14_tell at h
  refine zw_sub (lv' := [(0, .ref a0), (1, .int i1), (2, .int i2)]) (List.forall_mem_cons.mpr ⟨rfl, (List.forall_mem_cons.mpr ⟨rfl, (List.forall_mem_cons.mpr ⟨rfl, zs_nil⟩)⟩)⟩) ?_
  refine zw_aload_n hX dX14_tell_0 rfl ?_
  obtain ⟨v1, g, h⟩ := zb_some h
  refine zw_geti hX zl_X14_221 dX14_tell_1 g ?_
  refine zw_bipush (v := (60 : Int32)) hX dX14_tell_4 (by decide) ?_
  refine zw_icmp_ne (tgt := 75) hX dX14_tell_6 (by decide) (fun c6 => ?_) (fun c6 => ?_)
  · rw [if_neg c6] at h
    refine zw_sub (lv' := [(0, .ref a0), (1, .int i1), (2, .int i2)]) (List.forall_mem_cons.mpr ⟨rfl, (List.forall_mem_cons.mpr ⟨rfl, (List.forall_mem_cons.mpr ⟨rfl, zs_nil⟩)⟩)⟩) ?_
    exact zt_X14_tell_J75 hX hr hR hd h
  · rw [if_pos c6] at h
    refine zw_iconst (v := (1 : Int32)) hX dX14_tell_9 (by decide) ?_
    refine zw_istore_n hX dX14_tell_10 (by decide) ?_
    obtain ⟨r, g, h⟩ := zb_some h
    refine zw_sub (lv' := [(0, .ref a0), (1, .int i1), (2, .int i2), (3, .int (1 : Int32))]) (List.forall_mem_cons.mpr ⟨rfl, (List.forall_mem_cons.mpr ⟨rfl, (List.forall_mem_cons.mpr ⟨rfl, (List.forall_mem_cons.mpr ⟨rfl, zs_nil⟩)⟩)⟩)⟩) ?_
    refine zt_X14_tell_L11 hX hr hR hd (res := r) (out := out) a0 i1 i2 ?_ ?_ N _ _ g
    · intro o ho
      subst ho
      exact Option.some.inj h
    · intro  S26 hx
      subst hx
      try dsimp only at h
      refine zw_aload_n hX dX14_tell_65 rfl ?_
      refine zw_dup hX dX14_tell_66 rfl ?_
      obtain ⟨v27, g, h⟩ := zb_some h
      refine zw_geti hX zl_X14_221 dX14_tell_67 g ?_
      refine zw_iconst (v := (1 : Int32)) hX dX14_tell_70 (by decide) ?_
      refine zw_isub hX dX14_tell_71 ?_
      obtain ⟨S28, g, h⟩ := zb_some h
      refine zw_putv hX zl_X14_221 zt_14_30 dX14_tell_72 rfl rfl g ?_
      refine zw_sub (lv' := [(0, .ref a0), (1, .int i1), (2, .int i2)]) (List.forall_mem_cons.mpr ⟨rfl, (List.forall_mem_cons.mpr ⟨rfl, (List.forall_mem_cons.mpr ⟨rfl, zs_nil⟩)⟩)⟩) ?_
      exact zt_X14_tell_J75 hX hr hR hd h
def zf_X14_rankedOne_J86 (N : Nat) (k : Nat → Int32 → Int32 → Int32 → Int32 → zm_S → Option ((Int32 × zm_S) ⊕ ((Int32) × zm_S))) (a0 : Nat) (i1 : Int32) (i2 : Int32) (i4 : Int32) (t0 : Int32) (t1 : Int32) (S : zm_S) : Option ((Int32 × zm_S) ⊕ ((Int32) × zm_S)) := k a0 i1 i2 (t0 + t1) (i4 + (1 : Int32)) S
set_option maxHeartbeats 4000000 in
set_option maxRecDepth 100000 in
theorem zt_X14_rankedOne_J86 {p : Program} {l : Launch} {e : Env} {R : Room} {s : State} {m : MethodId} {args : Array Value} {below : List Frame} {meth : Method} {c : Code} {V : zm_V} {mc ms d rc rs : Nat} (hX : zm_X p R s m args meth c RX14 "rankedOne" cX14_rankedOne 6 zk_E V mc ms) (hr : meth.sig.returnType = (some .int)) (hR : R.frames = d ∧ R.locals = 64 * d) (hd : 1 ≤ d) {N : Nat} {k : Nat → Int32 → Int32 → Int32 → Int32 → zm_S → Option ((Int32 × zm_S) ⊕ ((Int32) × zm_S))} {a0 : Nat} {i1 : Int32} {i2 : Int32} {i4 : Int32} {t0 : Int32} {t1 : Int32} {res : (Int32 × zm_S) ⊕ ((Int32) × zm_S)} {out : (Int32 × zm_S)}   (hf : ∀ o, res = .inl o → o = out) (hk : ∀ (x3 : Int32) (S' : zm_S), res = .inr (x3, S') → zw p l e R s m args below meth c (vx_MQ below (zm_Qc zk_E V (zo_i out)) (zm_XC zk_E V zo_x) args s mc ms (fun q => V.2.2.2.1 ≤ q)) 6 zk_E V mc ms 94 [(0, .ref a0), (1, .int i1), (2, .int i2), (3, .int x3)] [] S' rc rs) (hrec : ∀ (i3' : Int32) (i4' : Int32) (S : zm_S), k a0 i1 i2 i3' i4' S = some res → zw p l e R s m args below meth c (vx_MQ below (zm_Qc zk_E V (zo_i out)) (zm_XC zk_E V zo_x) args s mc ms (fun q => V.2.2.2.1 ≤ q)) 6 zk_E V mc ms 13 [(0, .ref a0), (1, .int i1), (2, .int i2), (3, .int i3'), (4, .int i4')] [] S rc rs) {S : zm_S} (h : zf_X14_rankedOne_J86 N k a0 i1 i2 i4 t0 t1 S = some res) : zw p l e R s m args below meth c (vx_MQ below (zm_Qc zk_E V (zo_i out)) (zm_XC zk_E V zo_x) args s mc ms (fun q => V.2.2.2.1 ≤ q)) 6 zk_E V mc ms 86 [(0, .ref a0), (1, .int i1), (2, .int i2), (4, .int i4)] [.int t1, .int t0] S rc rs := by
  unfold zf_X14_rankedOne_J86 at h
  refine zw_iadd hX dX14_rankedOne_86 ?_
  refine zw_istore_n hX dX14_rankedOne_87 (by decide) ?_
  refine zw_iinc (v := (i4 + (1 : Int32))) hX dX14_rankedOne_88 rfl rfl (by decide) ?_
  refine zw_goto (tgt := 13) hX dX14_rankedOne_91 (by decide) ?_
  refine zw_sub (lv' := [(0, .ref a0), (1, .int i1), (2, .int i2), (3, .int (t0 + t1)), (4, .int (i4 + (1 : Int32)))]) (List.forall_mem_cons.mpr ⟨rfl, (List.forall_mem_cons.mpr ⟨rfl, (List.forall_mem_cons.mpr ⟨rfl, (List.forall_mem_cons.mpr ⟨rfl, (List.forall_mem_cons.mpr ⟨rfl, zs_nil⟩)⟩)⟩)⟩)⟩) ?_
  exact hrec _ _ _ h
def zf_X14_rankedOne_J85 (N : Nat) (k : Nat → Int32 → Int32 → Int32 → Int32 → zm_S → Option ((Int32 × zm_S) ⊕ ((Int32) × zm_S))) (a0 : Nat) (i1 : Int32) (i2 : Int32) (i4 : Int32) (t0 : Int32) (S : zm_S) : Option ((Int32 × zm_S) ⊕ ((Int32) × zm_S)) := zf_X14_rankedOne_J86 N (k) a0 i1 i2 i4 t0 (0 : Int32) S
set_option maxHeartbeats 4000000 in
set_option maxRecDepth 100000 in
theorem zt_X14_rankedOne_J85 {p : Program} {l : Launch} {e : Env} {R : Room} {s : State} {m : MethodId} {args : Array Value} {below : List Frame} {meth : Method} {c : Code} {V : zm_V} {mc ms d rc rs : Nat} (hX : zm_X p R s m args meth c RX14 "rankedOne" cX14_rankedOne 6 zk_E V mc ms) (hr : meth.sig.returnType = (some .int)) (hR : R.frames = d ∧ R.locals = 64 * d) (hd : 1 ≤ d) {N : Nat} {k : Nat → Int32 → Int32 → Int32 → Int32 → zm_S → Option ((Int32 × zm_S) ⊕ ((Int32) × zm_S))} {a0 : Nat} {i1 : Int32} {i2 : Int32} {i4 : Int32} {t0 : Int32} {res : (Int32 × zm_S) ⊕ ((Int32) × zm_S)} {out : (Int32 × zm_S)}   (hf : ∀ o, res = .inl o → o = out) (hk : ∀ (x3 : Int32) (S' : zm_S), res = .inr (x3, S') → zw p l e R s m args below meth c (vx_MQ below (zm_Qc zk_E V (zo_i out)) (zm_XC zk_E V zo_x) args s mc ms (fun q => V.2.2.2.1 ≤ q)) 6 zk_E V mc ms 94 [(0, .ref a0), (1, .int i1), (2, .int i2), (3, .int x3)] [] S' rc rs) (hrec : ∀ (i3' : Int32) (i4' : Int32) (S : zm_S), k a0 i1 i2 i3' i4' S = some res → zw p l e R s m args below meth c (vx_MQ below (zm_Qc zk_E V (zo_i out)) (zm_XC zk_E V zo_x) args s mc ms (fun q => V.2.2.2.1 ≤ q)) 6 zk_E V mc ms 13 [(0, .ref a0), (1, .int i1), (2, .int i2), (3, .int i3'), (4, .int i4')] [] S rc rs) {S : zm_S} (h : zf_X14_rankedOne_J85 N k a0 i1 i2 i4 t0 S = some res) : zw p l e R s m args below meth c (vx_MQ below (zm_Qc zk_E V (zo_i out)) (zm_XC zk_E V zo_x) args s mc ms (fun q => V.2.2.2.1 ≤ q)) 6 zk_E V mc ms 85 [(0, .ref a0), (1, .int i1), (2, .int i2), (4, .int i4)] [.int t0] S rc rs := by
  unfold zf_X14_rankedOne_J85 at h
  refine zw_iconst (v := (0 : Int32)) hX dX14_rankedOne_85 (by decide) ?_
  refine zw_sub (lv' := [(0, .ref a0), (1, .int i1), (2, .int i2), (4, .int i4)]) (List.forall_mem_cons.mpr ⟨rfl, (List.forall_mem_cons.mpr ⟨rfl, (List.forall_mem_cons.mpr ⟨rfl, (List.forall_mem_cons.mpr ⟨rfl, zs_nil⟩)⟩)⟩)⟩) ?_
  exact zt_X14_rankedOne_J86 hX hr hR hd hf hk hrec h
def zf_X14_rankedOne_J63 (N : Nat) (k : Nat → Int32 → Int32 → Int32 → Int32 → zm_S → Option ((Int32 × zm_S) ⊕ ((Int32) × zm_S))) (a0 : Nat) (i1 : Int32) (i2 : Int32) (i3 : Int32) (i4 : Int32) (t0 : Int32) (S : zm_S) : Option ((Int32 × zm_S) ⊕ ((Int32) × zm_S)) := (zg_r S a0 14 16).bind (fun b5 => (za_x S 2 b5 i4).bind (fun v6 => if v6 = 0 then zf_X14_rankedOne_J85 N (k) a0 i1 i2 i4 i3 S else if t0 = 0 then zf_X14_rankedOne_J85 N (k) a0 i1 i2 i4 i3 S else zf_X14_rankedOne_J86 N (k) a0 i1 i2 i4 i3 (1 : Int32) S))
set_option maxHeartbeats 4000000 in
set_option maxRecDepth 100000 in
theorem zt_X14_rankedOne_J63 {p : Program} {l : Launch} {e : Env} {R : Room} {s : State} {m : MethodId} {args : Array Value} {below : List Frame} {meth : Method} {c : Code} {V : zm_V} {mc ms d rc rs : Nat} (hX : zm_X p R s m args meth c RX14 "rankedOne" cX14_rankedOne 6 zk_E V mc ms) (hr : meth.sig.returnType = (some .int)) (hR : R.frames = d ∧ R.locals = 64 * d) (hd : 1 ≤ d) {N : Nat} {k : Nat → Int32 → Int32 → Int32 → Int32 → zm_S → Option ((Int32 × zm_S) ⊕ ((Int32) × zm_S))} {a0 : Nat} {i1 : Int32} {i2 : Int32} {i3 : Int32} {i4 : Int32} {t0 : Int32} {res : (Int32 × zm_S) ⊕ ((Int32) × zm_S)} {out : (Int32 × zm_S)}   (hf : ∀ o, res = .inl o → o = out) (hk : ∀ (x3 : Int32) (S' : zm_S), res = .inr (x3, S') → zw p l e R s m args below meth c (vx_MQ below (zm_Qc zk_E V (zo_i out)) (zm_XC zk_E V zo_x) args s mc ms (fun q => V.2.2.2.1 ≤ q)) 6 zk_E V mc ms 94 [(0, .ref a0), (1, .int i1), (2, .int i2), (3, .int x3)] [] S' rc rs) (hrec : ∀ (i3' : Int32) (i4' : Int32) (S : zm_S), k a0 i1 i2 i3' i4' S = some res → zw p l e R s m args below meth c (vx_MQ below (zm_Qc zk_E V (zo_i out)) (zm_XC zk_E V zo_x) args s mc ms (fun q => V.2.2.2.1 ≤ q)) 6 zk_E V mc ms 13 [(0, .ref a0), (1, .int i1), (2, .int i2), (3, .int i3'), (4, .int i4')] [] S rc rs) {S : zm_S} (h : zf_X14_rankedOne_J63 N k a0 i1 i2 i3 i4 t0 S = some res) : zw p l e R s m args below meth c (vx_MQ below (zm_Qc zk_E V (zo_i out)) (zm_XC zk_E V zo_x) args s mc ms (fun q => V.2.2.2.1 ≤ q)) 6 zk_E V mc ms 63 [(0, .ref a0), (1, .int i1), (2, .int i2), (3, .int i3), (4, .int i4)] [.int t0] S rc rs := by
  unfold zf_X14_rankedOne_J63 at h
  refine zw_istore hX dX14_rankedOne_63 (by decide) ?_
  refine zw_iload_n hX dX14_rankedOne_65 rfl ?_
  refine zw_aload_n hX dX14_rankedOne_66 rfl ?_
  obtain ⟨b5, g, h⟩ := zb_some h
  refine zw_getr hX zl_X14_41 dX14_rankedOne_67 g ?_
  refine zw_iload hX dX14_rankedOne_70 rfl ?_
  obtain ⟨v6, g, h⟩ := zb_some h
  refine zw_xz hX dX14_rankedOne_72 g ?_
  refine zw_if_eq (tgt := 85) hX dX14_rankedOne_73 (by decide) (fun c73 => ?_) (fun c73 => ?_)
  · rw [if_pos c73] at h
    refine zw_sub (lv' := [(0, .ref a0), (1, .int i1), (2, .int i2), (4, .int i4)]) (List.forall_mem_cons.mpr ⟨rfl, (List.forall_mem_cons.mpr ⟨rfl, (List.forall_mem_cons.mpr ⟨rfl, (List.forall_mem_cons.mpr ⟨rfl, zs_nil⟩)⟩)⟩)⟩) ?_
    exact zt_X14_rankedOne_J85 hX hr hR hd hf hk hrec h
  · rw [if_neg c73] at h
    refine zw_iload hX dX14_rankedOne_76 rfl ?_
    refine zw_if_eq (tgt := 85) hX dX14_rankedOne_78 (by decide) (fun c78 => ?_) (fun c78 => ?_)
    · rw [if_pos c78] at h
      refine zw_sub (lv' := [(0, .ref a0), (1, .int i1), (2, .int i2), (4, .int i4)]) (List.forall_mem_cons.mpr ⟨rfl, (List.forall_mem_cons.mpr ⟨rfl, (List.forall_mem_cons.mpr ⟨rfl, (List.forall_mem_cons.mpr ⟨rfl, zs_nil⟩)⟩)⟩)⟩) ?_
      exact zt_X14_rankedOne_J85 hX hr hR hd hf hk hrec h
    · rw [if_neg c78] at h
      refine zw_iconst (v := (1 : Int32)) hX dX14_rankedOne_81 (by decide) ?_
      refine zw_goto (tgt := 86) hX dX14_rankedOne_82 (by decide) ?_
      refine zw_sub (lv' := [(0, .ref a0), (1, .int i1), (2, .int i2), (4, .int i4)]) (List.forall_mem_cons.mpr ⟨rfl, (List.forall_mem_cons.mpr ⟨rfl, (List.forall_mem_cons.mpr ⟨rfl, (List.forall_mem_cons.mpr ⟨rfl, zs_nil⟩)⟩)⟩)⟩) ?_
      exact zt_X14_rankedOne_J86 hX hr hR hd hf hk hrec h
def zf_X14_rankedOne_J58 (N : Nat) (k : Nat → Int32 → Int32 → Int32 → Int32 → zm_S → Option ((Int32 × zm_S) ⊕ ((Int32) × zm_S))) (a0 : Nat) (i1 : Int32) (i2 : Int32) (i3 : Int32) (i4 : Int32) (S : zm_S) : Option ((Int32 × zm_S) ⊕ ((Int32) × zm_S)) := zf_X14_rankedOne_J63 N (k) a0 i1 i2 i3 i4 (1 : Int32) S
set_option maxHeartbeats 4000000 in
set_option maxRecDepth 100000 in
theorem zt_X14_rankedOne_J58 {p : Program} {l : Launch} {e : Env} {R : Room} {s : State} {m : MethodId} {args : Array Value} {below : List Frame} {meth : Method} {c : Code} {V : zm_V} {mc ms d rc rs : Nat} (hX : zm_X p R s m args meth c RX14 "rankedOne" cX14_rankedOne 6 zk_E V mc ms) (hr : meth.sig.returnType = (some .int)) (hR : R.frames = d ∧ R.locals = 64 * d) (hd : 1 ≤ d) {N : Nat} {k : Nat → Int32 → Int32 → Int32 → Int32 → zm_S → Option ((Int32 × zm_S) ⊕ ((Int32) × zm_S))} {a0 : Nat} {i1 : Int32} {i2 : Int32} {i3 : Int32} {i4 : Int32} {res : (Int32 × zm_S) ⊕ ((Int32) × zm_S)} {out : (Int32 × zm_S)}   (hf : ∀ o, res = .inl o → o = out) (hk : ∀ (x3 : Int32) (S' : zm_S), res = .inr (x3, S') → zw p l e R s m args below meth c (vx_MQ below (zm_Qc zk_E V (zo_i out)) (zm_XC zk_E V zo_x) args s mc ms (fun q => V.2.2.2.1 ≤ q)) 6 zk_E V mc ms 94 [(0, .ref a0), (1, .int i1), (2, .int i2), (3, .int x3)] [] S' rc rs) (hrec : ∀ (i3' : Int32) (i4' : Int32) (S : zm_S), k a0 i1 i2 i3' i4' S = some res → zw p l e R s m args below meth c (vx_MQ below (zm_Qc zk_E V (zo_i out)) (zm_XC zk_E V zo_x) args s mc ms (fun q => V.2.2.2.1 ≤ q)) 6 zk_E V mc ms 13 [(0, .ref a0), (1, .int i1), (2, .int i2), (3, .int i3'), (4, .int i4')] [] S rc rs) {S : zm_S} (h : zf_X14_rankedOne_J58 N k a0 i1 i2 i3 i4 S = some res) : zw p l e R s m args below meth c (vx_MQ below (zm_Qc zk_E V (zo_i out)) (zm_XC zk_E V zo_x) args s mc ms (fun q => V.2.2.2.1 ≤ q)) 6 zk_E V mc ms 58 [(0, .ref a0), (1, .int i1), (2, .int i2), (3, .int i3), (4, .int i4)] [] S rc rs := by
  unfold zf_X14_rankedOne_J58 at h
  refine zw_iconst (v := (1 : Int32)) hX dX14_rankedOne_58 (by decide) ?_
  refine zw_goto (tgt := 63) hX dX14_rankedOne_59 (by decide) ?_
  refine zw_sub (lv' := [(0, .ref a0), (1, .int i1), (2, .int i2), (3, .int i3), (4, .int i4)]) (List.forall_mem_cons.mpr ⟨rfl, (List.forall_mem_cons.mpr ⟨rfl, (List.forall_mem_cons.mpr ⟨rfl, (List.forall_mem_cons.mpr ⟨rfl, (List.forall_mem_cons.mpr ⟨rfl, zs_nil⟩)⟩)⟩)⟩)⟩) ?_
  exact zt_X14_rankedOne_J63 hX hr hR hd hf hk hrec h
def zf_X14_rankedOne_J62 (N : Nat) (k : Nat → Int32 → Int32 → Int32 → Int32 → zm_S → Option ((Int32 × zm_S) ⊕ ((Int32) × zm_S))) (a0 : Nat) (i1 : Int32) (i2 : Int32) (i3 : Int32) (i4 : Int32) (S : zm_S) : Option ((Int32 × zm_S) ⊕ ((Int32) × zm_S)) := zf_X14_rankedOne_J63 N (k) a0 i1 i2 i3 i4 (0 : Int32) S
set_option maxHeartbeats 4000000 in
set_option maxRecDepth 100000 in
theorem zt_X14_rankedOne_J62 {p : Program} {l : Launch} {e : Env} {R : Room} {s : State} {m : MethodId} {args : Array Value} {below : List Frame} {meth : Method} {c : Code} {V : zm_V} {mc ms d rc rs : Nat} (hX : zm_X p R s m args meth c RX14 "rankedOne" cX14_rankedOne 6 zk_E V mc ms) (hr : meth.sig.returnType = (some .int)) (hR : R.frames = d ∧ R.locals = 64 * d) (hd : 1 ≤ d) {N : Nat} {k : Nat → Int32 → Int32 → Int32 → Int32 → zm_S → Option ((Int32 × zm_S) ⊕ ((Int32) × zm_S))} {a0 : Nat} {i1 : Int32} {i2 : Int32} {i3 : Int32} {i4 : Int32} {res : (Int32 × zm_S) ⊕ ((Int32) × zm_S)} {out : (Int32 × zm_S)}   (hf : ∀ o, res = .inl o → o = out) (hk : ∀ (x3 : Int32) (S' : zm_S), res = .inr (x3, S') → zw p l e R s m args below meth c (vx_MQ below (zm_Qc zk_E V (zo_i out)) (zm_XC zk_E V zo_x) args s mc ms (fun q => V.2.2.2.1 ≤ q)) 6 zk_E V mc ms 94 [(0, .ref a0), (1, .int i1), (2, .int i2), (3, .int x3)] [] S' rc rs) (hrec : ∀ (i3' : Int32) (i4' : Int32) (S : zm_S), k a0 i1 i2 i3' i4' S = some res → zw p l e R s m args below meth c (vx_MQ below (zm_Qc zk_E V (zo_i out)) (zm_XC zk_E V zo_x) args s mc ms (fun q => V.2.2.2.1 ≤ q)) 6 zk_E V mc ms 13 [(0, .ref a0), (1, .int i1), (2, .int i2), (3, .int i3'), (4, .int i4')] [] S rc rs) {S : zm_S} (h : zf_X14_rankedOne_J62 N k a0 i1 i2 i3 i4 S = some res) : zw p l e R s m args below meth c (vx_MQ below (zm_Qc zk_E V (zo_i out)) (zm_XC zk_E V zo_x) args s mc ms (fun q => V.2.2.2.1 ≤ q)) 6 zk_E V mc ms 62 [(0, .ref a0), (1, .int i1), (2, .int i2), (3, .int i3), (4, .int i4)] [] S rc rs := by
  unfold zf_X14_rankedOne_J62 at h
  refine zw_iconst (v := (0 : Int32)) hX dX14_rankedOne_62 (by decide) ?_
  refine zw_sub (lv' := [(0, .ref a0), (1, .int i1), (2, .int i2), (3, .int i3), (4, .int i4)]) (List.forall_mem_cons.mpr ⟨rfl, (List.forall_mem_cons.mpr ⟨rfl, (List.forall_mem_cons.mpr ⟨rfl, (List.forall_mem_cons.mpr ⟨rfl, (List.forall_mem_cons.mpr ⟨rfl, zs_nil⟩)⟩)⟩)⟩)⟩) ?_
  exact zt_X14_rankedOne_J63 hX hr hR hd hf hk hrec h
def zf_X14_rankedOne_L13 (N : Nat) : Nat → Nat → Int32 → Int32 → Int32 → Int32 → zm_S → Option ((Int32 × zm_S) ⊕ ((Int32) × zm_S))
  | 0, _, _, _, _, _, _ => none
  | n + 1, a0, i1, i2, i3, i4, S => if (20 : Int32) ≤ i4 then some (.inr (i3, S)) else (zg_r S a0 14 18).bind (fun b1 => (za_x S 0 b1 i4).bind (fun v2 => (zg_r S a0 14 18).bind (fun b3 => (za_x S 0 b3 i2).bind (fun v4 => if v4 < v2 then zf_X14_rankedOne_J58 N (zf_X14_rankedOne_L13 N n) a0 i1 i2 i3 i4 S else (zg_r S a0 14 18).bind (fun b7 => (za_x S 0 b7 i4).bind (fun v8 => (zg_r S a0 14 18).bind (fun b9 => (za_x S 0 b9 i2).bind (fun v10 => if v8 = v10 then if i2 ≤ i4 then zf_X14_rankedOne_J62 N (zf_X14_rankedOne_L13 N n) a0 i1 i2 i3 i4 S else zf_X14_rankedOne_J58 N (zf_X14_rankedOne_L13 N n) a0 i1 i2 i3 i4 S else zf_X14_rankedOne_J62 N (zf_X14_rankedOne_L13 N n) a0 i1 i2 i3 i4 S))))))))
set_option maxHeartbeats 4000000 in
set_option maxRecDepth 100000 in
theorem zt_X14_rankedOne_L13 {p : Program} {l : Launch} {e : Env} {R : Room} {s : State} {m : MethodId} {args : Array Value} {below : List Frame} {meth : Method} {c : Code} {V : zm_V} {mc ms d rc rs : Nat} (hX : zm_X p R s m args meth c RX14 "rankedOne" cX14_rankedOne 6 zk_E V mc ms) (hr : meth.sig.returnType = (some .int)) (hR : R.frames = d ∧ R.locals = 64 * d) (hd : 1 ≤ d) {N : Nat} {res : (Int32 × zm_S) ⊕ ((Int32) × zm_S)} {out : (Int32 × zm_S)} (a0 : Nat) (i1 : Int32) (i2 : Int32) (hf : ∀ o, res = .inl o → o = out) (hk : ∀ (x3 : Int32) (S' : zm_S), res = .inr (x3, S') → zw p l e R s m args below meth c (vx_MQ below (zm_Qc zk_E V (zo_i out)) (zm_XC zk_E V zo_x) args s mc ms (fun q => V.2.2.2.1 ≤ q)) 6 zk_E V mc ms 94 [(0, .ref a0), (1, .int i1), (2, .int i2), (3, .int x3)] [] S' rc rs) : ∀ (n : Nat) (i3 : Int32) (i4 : Int32) (S : zm_S), zf_X14_rankedOne_L13 N n a0 i1 i2 i3 i4 S = some res → zw p l e R s m args below meth c (vx_MQ below (zm_Qc zk_E V (zo_i out)) (zm_XC zk_E V zo_x) args s mc ms (fun q => V.2.2.2.1 ≤ q)) 6 zk_E V mc ms 13 [(0, .ref a0), (1, .int i1), (2, .int i2), (3, .int i3), (4, .int i4)] [] S rc rs := by
  intro n
  induction n with
  | zero => intro i3 i4 S h; cases h
  | succ n ih =>
    intro i3 i4 S h
    rw [zf_X14_rankedOne_L13] at h
    refine zw_iload hX dX14_rankedOne_13 rfl ?_
    refine zw_bipush (v := (20 : Int32)) hX dX14_rankedOne_15 (by decide) ?_
    refine zw_icmp_ge (tgt := 94) hX dX14_rankedOne_17 (by decide) (fun c17 => ?_) (fun c17 => ?_)
    · rw [if_pos c17] at h
      refine zw_sub (lv' := [(0, .ref a0), (1, .int i1), (2, .int i2), (3, .int i3)]) (List.forall_mem_cons.mpr ⟨rfl, (List.forall_mem_cons.mpr ⟨rfl, (List.forall_mem_cons.mpr ⟨rfl, (List.forall_mem_cons.mpr ⟨rfl, zs_nil⟩)⟩)⟩)⟩) ?_
      exact hk _ _ (Option.some.inj h).symm
    · rw [if_neg c17] at h
      refine zw_aload_n hX dX14_rankedOne_20 rfl ?_
      obtain ⟨b1, g, h⟩ := zb_some h
      refine zw_getr hX zl_X14_47 dX14_rankedOne_21 g ?_
      refine zw_iload hX dX14_rankedOne_24 rfl ?_
      obtain ⟨v2, g, h⟩ := zb_some h
      refine zw_xi hX dX14_rankedOne_26 g ?_
      refine zw_aload_n hX dX14_rankedOne_27 rfl ?_
      obtain ⟨b3, g, h⟩ := zb_some h
      refine zw_getr hX zl_X14_47 dX14_rankedOne_28 g ?_
      refine zw_iload_n hX dX14_rankedOne_31 rfl ?_
      obtain ⟨v4, g, h⟩ := zb_some h
      refine zw_xi hX dX14_rankedOne_32 g ?_
      refine zw_icmp_gt (tgt := 58) hX dX14_rankedOne_33 (by decide) (fun c33 => ?_) (fun c33 => ?_)
      · rw [if_pos c33] at h
        refine zw_sub (lv' := [(0, .ref a0), (1, .int i1), (2, .int i2), (3, .int i3), (4, .int i4)]) (List.forall_mem_cons.mpr ⟨rfl, (List.forall_mem_cons.mpr ⟨rfl, (List.forall_mem_cons.mpr ⟨rfl, (List.forall_mem_cons.mpr ⟨rfl, (List.forall_mem_cons.mpr ⟨rfl, zs_nil⟩)⟩)⟩)⟩)⟩) ?_
        exact zt_X14_rankedOne_J58 hX hr hR hd hf hk ih h
      · rw [if_neg c33] at h
        refine zw_aload_n hX dX14_rankedOne_36 rfl ?_
        obtain ⟨b7, g, h⟩ := zb_some h
        refine zw_getr hX zl_X14_47 dX14_rankedOne_37 g ?_
        refine zw_iload hX dX14_rankedOne_40 rfl ?_
        obtain ⟨v8, g, h⟩ := zb_some h
        refine zw_xi hX dX14_rankedOne_42 g ?_
        refine zw_aload_n hX dX14_rankedOne_43 rfl ?_
        obtain ⟨b9, g, h⟩ := zb_some h
        refine zw_getr hX zl_X14_47 dX14_rankedOne_44 g ?_
        refine zw_iload_n hX dX14_rankedOne_47 rfl ?_
        obtain ⟨v10, g, h⟩ := zb_some h
        refine zw_xi hX dX14_rankedOne_48 g ?_
        refine zw_icmp_ne (tgt := 62) hX dX14_rankedOne_49 (by decide) (fun c49 => ?_) (fun c49 => ?_)
        · rw [if_neg c49] at h
          refine zw_sub (lv' := [(0, .ref a0), (1, .int i1), (2, .int i2), (3, .int i3), (4, .int i4)]) (List.forall_mem_cons.mpr ⟨rfl, (List.forall_mem_cons.mpr ⟨rfl, (List.forall_mem_cons.mpr ⟨rfl, (List.forall_mem_cons.mpr ⟨rfl, (List.forall_mem_cons.mpr ⟨rfl, zs_nil⟩)⟩)⟩)⟩)⟩) ?_
          exact zt_X14_rankedOne_J62 hX hr hR hd hf hk ih h
        · rw [if_pos c49] at h
          refine zw_iload hX dX14_rankedOne_52 rfl ?_
          refine zw_iload_n hX dX14_rankedOne_54 rfl ?_
          refine zw_icmp_ge (tgt := 62) hX dX14_rankedOne_55 (by decide) (fun c55 => ?_) (fun c55 => ?_)
          · rw [if_pos c55] at h
            refine zw_sub (lv' := [(0, .ref a0), (1, .int i1), (2, .int i2), (3, .int i3), (4, .int i4)]) (List.forall_mem_cons.mpr ⟨rfl, (List.forall_mem_cons.mpr ⟨rfl, (List.forall_mem_cons.mpr ⟨rfl, (List.forall_mem_cons.mpr ⟨rfl, (List.forall_mem_cons.mpr ⟨rfl, zs_nil⟩)⟩)⟩)⟩)⟩) ?_
            exact zt_X14_rankedOne_J62 hX hr hR hd hf hk ih h
          · rw [if_neg c55] at h
            refine zw_sub (lv' := [(0, .ref a0), (1, .int i1), (2, .int i2), (3, .int i3), (4, .int i4)]) (List.forall_mem_cons.mpr ⟨rfl, (List.forall_mem_cons.mpr ⟨rfl, (List.forall_mem_cons.mpr ⟨rfl, (List.forall_mem_cons.mpr ⟨rfl, (List.forall_mem_cons.mpr ⟨rfl, zs_nil⟩)⟩)⟩)⟩)⟩) ?_
            exact zt_X14_rankedOne_J58 hX hr hR hd hf hk ih h
def zf_X14_rankedOne_L2 (N : Nat) : Nat → Nat → Int32 → Int32 → zm_S → Option ((Int32 × zm_S) ⊕ ((Unit) × zm_S))
  | 0, _, _, _, _ => none
  | n + 1, a0, i1, i2, S => if (20 : Int32) ≤ i2 then some (.inr ((), S)) else (zf_X14_rankedOne_L13 N N a0 i1 i2 (0 : Int32) (0 : Int32) S).bind (fun r => match r with | .inl o => some (.inl o) | .inr (v12, S11) => (zg_r S11 a0 14 16).bind (fun b13 => (za_x S11 2 b13 i2).bind (fun v14 => if v14 = 0 then zf_X14_rankedOne_L2 N n a0 i1 (i2 + (1 : Int32)) S11 else if v12 = i1 then some (.inl (i2, S11)) else zf_X14_rankedOne_L2 N n a0 i1 (i2 + (1 : Int32)) S11)))
set_option maxHeartbeats 4000000 in
set_option maxRecDepth 100000 in
theorem zt_X14_rankedOne_L2 {p : Program} {l : Launch} {e : Env} {R : Room} {s : State} {m : MethodId} {args : Array Value} {below : List Frame} {meth : Method} {c : Code} {V : zm_V} {mc ms d rc rs : Nat} (hX : zm_X p R s m args meth c RX14 "rankedOne" cX14_rankedOne 6 zk_E V mc ms) (hr : meth.sig.returnType = (some .int)) (hR : R.frames = d ∧ R.locals = 64 * d) (hd : 1 ≤ d) {N : Nat} {res : (Int32 × zm_S) ⊕ ((Unit) × zm_S)} {out : (Int32 × zm_S)} (a0 : Nat) (i1 : Int32) (hf : ∀ o, res = .inl o → o = out) (hk : ∀ (S' : zm_S), res = .inr ((), S') → zw p l e R s m args below meth c (vx_MQ below (zm_Qc zk_E V (zo_i out)) (zm_XC zk_E V zo_x) args s mc ms (fun q => V.2.2.2.1 ≤ q)) 6 zk_E V mc ms 116 [] [] S' rc rs) : ∀ (n : Nat) (i2 : Int32) (S : zm_S), zf_X14_rankedOne_L2 N n a0 i1 i2 S = some res → zw p l e R s m args below meth c (vx_MQ below (zm_Qc zk_E V (zo_i out)) (zm_XC zk_E V zo_x) args s mc ms (fun q => V.2.2.2.1 ≤ q)) 6 zk_E V mc ms 2 [(0, .ref a0), (1, .int i1), (2, .int i2)] [] S rc rs := by
  intro n
  induction n with
  | zero => intro i2 S h; cases h
  | succ n ih =>
    intro i2 S h
    rw [zf_X14_rankedOne_L2] at h
    refine zw_iload_n hX dX14_rankedOne_2 rfl ?_
    refine zw_bipush (v := (20 : Int32)) hX dX14_rankedOne_3 (by decide) ?_
    refine zw_icmp_ge (tgt := 116) hX dX14_rankedOne_5 (by decide) (fun c5 => ?_) (fun c5 => ?_)
    · rw [if_pos c5] at h
      refine zw_sub (lv' := []) zs_nil ?_
      exact hk  _ (Option.some.inj h).symm
    · rw [if_neg c5] at h
      refine zw_iconst (v := (0 : Int32)) hX dX14_rankedOne_8 (by decide) ?_
      refine zw_istore_n hX dX14_rankedOne_9 (by decide) ?_
      refine zw_iconst (v := (0 : Int32)) hX dX14_rankedOne_10 (by decide) ?_
      refine zw_istore hX dX14_rankedOne_11 (by decide) ?_
      obtain ⟨r, g, h⟩ := zb_some h
      refine zw_sub (lv' := [(0, .ref a0), (1, .int i1), (2, .int i2), (3, .int (0 : Int32)), (4, .int (0 : Int32))]) (List.forall_mem_cons.mpr ⟨rfl, (List.forall_mem_cons.mpr ⟨rfl, (List.forall_mem_cons.mpr ⟨rfl, (List.forall_mem_cons.mpr ⟨rfl, (List.forall_mem_cons.mpr ⟨rfl, zs_nil⟩)⟩)⟩)⟩)⟩) ?_
      refine zt_X14_rankedOne_L13 hX hr hR hd (res := r) (out := out) a0 i1 i2 ?_ ?_ N _ _ _ g
      · intro o ho
        subst ho
        exact hf _ (Option.some.inj h).symm
      · intro v12 S11 hx
        subst hx
        try dsimp only at h
        refine zw_aload_n hX dX14_rankedOne_94 rfl ?_
        obtain ⟨b13, g, h⟩ := zb_some h
        refine zw_getr hX zl_X14_41 dX14_rankedOne_95 g ?_
        refine zw_iload_n hX dX14_rankedOne_98 rfl ?_
        obtain ⟨v14, g, h⟩ := zb_some h
        refine zw_xz hX dX14_rankedOne_99 g ?_
        refine zw_if_eq (tgt := 110) hX dX14_rankedOne_100 (by decide) (fun c100 => ?_) (fun c100 => ?_)
        · rw [if_pos c100] at h
          refine zw_iinc (v := (i2 + (1 : Int32))) hX dX14_rankedOne_110 rfl rfl (by decide) ?_
          refine zw_goto (tgt := 2) hX dX14_rankedOne_113 (by decide) ?_
          refine zw_sub (lv' := [(0, .ref a0), (1, .int i1), (2, .int (i2 + (1 : Int32)))]) (List.forall_mem_cons.mpr ⟨rfl, (List.forall_mem_cons.mpr ⟨rfl, (List.forall_mem_cons.mpr ⟨rfl, zs_nil⟩)⟩)⟩) ?_
          exact ih _ _ h
        · rw [if_neg c100] at h
          refine zw_iload_n hX dX14_rankedOne_103 rfl ?_
          refine zw_iload_n hX dX14_rankedOne_104 rfl ?_
          refine zw_icmp_ne (tgt := 110) hX dX14_rankedOne_105 (by decide) (fun c105 => ?_) (fun c105 => ?_)
          · rw [if_neg c105] at h
            refine zw_iinc (v := (i2 + (1 : Int32))) hX dX14_rankedOne_110 rfl rfl (by decide) ?_
            refine zw_goto (tgt := 2) hX dX14_rankedOne_113 (by decide) ?_
            refine zw_sub (lv' := [(0, .ref a0), (1, .int i1), (2, .int (i2 + (1 : Int32)))]) (List.forall_mem_cons.mpr ⟨rfl, (List.forall_mem_cons.mpr ⟨rfl, (List.forall_mem_cons.mpr ⟨rfl, zs_nil⟩)⟩)⟩) ?_
            exact ih _ _ h
          · rw [if_pos c105] at h
            refine zw_iload_n hX dX14_rankedOne_108 rfl ?_
            have hz := hf _ (Option.some.inj h).symm
            subst hz
            exact zw_iret hX hr dX14_rankedOne_109 rfl ⟨rfl, rfl⟩
def zf_X14_rankedOne (N : Nat) (a0 : Nat) (i1 : Int32) (S : zm_S) : Option (Int32 × zm_S) := (zf_X14_rankedOne_L2 N N a0 i1 (0 : Int32) S).bind (fun r => match r with | .inl o => some o | .inr (_, S15) => some ((-1 : Int32), S15))
set_option maxHeartbeats 4000000 in
set_option maxRecDepth 100000 in
theorem zt_X14_rankedOne {l : Launch} {V : zm_V} {N : Nat} {S : zm_S} {out : (Int32 × zm_S)} {d : Nat} {a0 : Nat} {i1 : Int32} (hd : 1 ≤ d) (h : zf_X14_rankedOne N a0 i1 S = some out) : zm_Met l zk_E V yX14_rankedOne (.code yX14_rankedOne cX14_rankedOne 6 (some .int)) d [.ref a0, .int i1] S 0 0 (zo_i out) zo_x := by
  refine zm_of (by decide +kernel) (Nat.le_of_ble_eq_true rfl) ?_
  intro p e R s m args below meth c hRR hX hr hxt
  have hR : R.frames = d ∧ R.locals = 64 * d := by rw [hRR]; exact ⟨rfl, rfl⟩
  have hX : zm_X p R s m args meth c RX14 "rankedOne" cX14_rankedOne 6 zk_E V 0 0 := hX
  unfold zf_X14_rankedOne at h
  refine zw_sub (lv' := [(0, .ref a0), (1, .int i1)]) (List.forall_mem_cons.mpr ⟨rfl, (List.forall_mem_cons.mpr ⟨rfl, zs_nil⟩)⟩) ?_
  refine zw_iconst (v := (0 : Int32)) hX dX14_rankedOne_0 (by decide) ?_
  refine zw_istore_n hX dX14_rankedOne_1 (by decide) ?_
  obtain ⟨r, g, h⟩ := zb_some h
  refine zw_sub (lv' := [(0, .ref a0), (1, .int i1), (2, .int (0 : Int32))]) (List.forall_mem_cons.mpr ⟨rfl, (List.forall_mem_cons.mpr ⟨rfl, (List.forall_mem_cons.mpr ⟨rfl, zs_nil⟩)⟩)⟩) ?_
  refine zt_X14_rankedOne_L2 hX hr hR hd (res := r) (out := out) a0 i1 ?_ ?_ N _ _ g
  · intro o ho
    subst ho
    exact Option.some.inj h
  · intro  S15 hx
    subst hx
    try dsimp only at h
    refine zw_iconst (v := (-1 : Int32)) hX dX14_rankedOne_116 (by decide) ?_
    obtain rfl := Option.some.inj h
    exact zw_iret hX hr dX14_rankedOne_117 rfl ⟨rfl, rfl⟩
def zf_X14_go_J151 (N : Nat) (a0 : Nat) (i1 : Int32) (S : zm_S) : Option (Int32 × zm_S) := (zi S a0 14).bind (fun _ => (zf_X14_rests N a0 i1 S).bind (fun r15 => (zg_r r15.2 a0 14 26).bind (fun b16 => (zs_i r15.2 b16 i1 (2 : Int32)).bind (fun S17 => (zi S17 a0 14).bind (fun _ => (zf_X14_tell N a0 i1 (1 : Int32) S17).bind (fun r20 => some ((1 : Int32), r20.2)))))))
set_option maxHeartbeats 4000000 in
set_option maxRecDepth 100000 in
theorem zt_X14_go_J151 {p : Program} {l : Launch} {e : Env} {R : Room} {s : State} {m : MethodId} {args : Array Value} {below : List Frame} {meth : Method} {c : Code} {V : zm_V} {mc ms d rc rs : Nat} (hX : zm_X p R s m args meth c RX14 "go" cX14_go 3 zk_E V mc ms) (hr : meth.sig.returnType = (some .int)) (hR : R.frames = d ∧ R.locals = 64 * d) (hd : 6 ≤ d) {N : Nat} {a0 : Nat} {i1 : Int32} {out : (Int32 × zm_S)} {S : zm_S} (h : zf_X14_go_J151 N a0 i1 S = some out) : zw p l e R s m args below meth c (vx_MQ below (zm_Qc zk_E V (zo_i out)) (zm_XC zk_E V zo_x) args s mc ms (fun q => V.2.2.2.1 ≤ q)) 3 zk_E V mc ms 151 [(0, .ref a0), (1, .int i1)] [] S rc rs := by
  unfold zf_X14_go_J151 at h
  refine zw_aload_n hX dX14_go_151 rfl ?_
  refine zw_iload_n hX dX14_go_152 rfl ?_
  obtain ⟨_, gi, h⟩ := zb_some h
  obtain ⟨r15, g, h⟩ := zb_some h
  refine zc_Vv (as := [.int i1]) hX gi (zt_X14_rests (d := d - 1) (by omega) g) zl_X14_199 rfl dX14_go_153 ⟨rfl, rfl, Nat.le_of_ble_eq_true rfl⟩ ⟨by omega, by omega⟩ ?_
  refine zw_aload_n hX dX14_go_156 rfl ?_
  obtain ⟨b16, g, h⟩ := zb_some h
  refine zw_getr hX zl_X14_65 dX14_go_157 g ?_
  refine zw_iload_n hX dX14_go_160 rfl ?_
  refine zw_iconst (v := (2 : Int32)) hX dX14_go_161 (by decide) ?_
  obtain ⟨S17, g, h⟩ := zb_some h
  refine zw_si hX dX14_go_162 g ?_
  refine zw_aload_n hX dX14_go_163 rfl ?_
  refine zw_iload_n hX dX14_go_164 rfl ?_
  refine zw_iconst (v := (1 : Int32)) hX dX14_go_165 (by decide) ?_
  obtain ⟨_, gi, h⟩ := zb_some h
  obtain ⟨r20, g, h⟩ := zb_some h
  refine zc_Vv (as := [.int i1, .int (1 : Int32)]) hX gi (zt_X14_tell (d := d - 1) (by omega) g) zl_X14_228 rfl dX14_go_166 ⟨rfl, rfl, Nat.le_of_ble_eq_true rfl⟩ ⟨by omega, by omega⟩ ?_
  refine zw_iconst (v := (1 : Int32)) hX dX14_go_169 (by decide) ?_
  obtain rfl := Option.some.inj h
  exact zw_iret hX hr dX14_go_170 rfl ⟨rfl, rfl⟩
def zf_X14_go_J111 (N : Nat) (a0 : Nat) (i1 : Int32) (S : zm_S) : Option (Int32 × zm_S) := (zg_i S a0 14 1).bind (fun v8 => (zg_r S a0 14 27).bind (fun b9 => (za_x S 0 b9 i1).bind (fun v10 => (zg_r S a0 14 19).bind (fun b11 => (za_x S 0 b11 i1).bind (fun v12 => if (v10 + v12) ≤ v8 then zf_X14_go_J151 N a0 i1 S else (zg_r S a0 14 29).bind (fun b21 => (za_x S 2 b21 i1).bind (fun v22 => if v22 = 0 then (zi S a0 14).bind (fun _ => (zf_X14_isCalled N a0 i1 (1 : Int32) S).bind (fun r25 => if r25.1 = 0 then some ((-1 : Int32), r25.2) else zf_X14_go_J151 N a0 i1 r25.2)) else zf_X14_go_J151 N a0 i1 S)))))))
set_option maxHeartbeats 4000000 in
set_option maxRecDepth 100000 in
theorem zt_X14_go_J111 {p : Program} {l : Launch} {e : Env} {R : Room} {s : State} {m : MethodId} {args : Array Value} {below : List Frame} {meth : Method} {c : Code} {V : zm_V} {mc ms d rc rs : Nat} (hX : zm_X p R s m args meth c RX14 "go" cX14_go 3 zk_E V mc ms) (hr : meth.sig.returnType = (some .int)) (hR : R.frames = d ∧ R.locals = 64 * d) (hd : 6 ≤ d) {N : Nat} {a0 : Nat} {i1 : Int32} {out : (Int32 × zm_S)} {S : zm_S} (h : zf_X14_go_J111 N a0 i1 S = some out) : zw p l e R s m args below meth c (vx_MQ below (zm_Qc zk_E V (zo_i out)) (zm_XC zk_E V zo_x) args s mc ms (fun q => V.2.2.2.1 ≤ q)) 3 zk_E V mc ms 111 [(0, .ref a0), (1, .int i1)] [] S rc rs := by
  unfold zf_X14_go_J111 at h
  refine zw_aload_n hX dX14_go_111 rfl ?_
  obtain ⟨v8, g, h⟩ := zb_some h
  refine zw_geti hX zl_X14_202 dX14_go_112 g ?_
  refine zw_aload_n hX dX14_go_115 rfl ?_
  obtain ⟨b9, g, h⟩ := zb_some h
  refine zw_getr hX zl_X14_68 dX14_go_116 g ?_
  refine zw_iload_n hX dX14_go_119 rfl ?_
  obtain ⟨v10, g, h⟩ := zb_some h
  refine zw_xi hX dX14_go_120 g ?_
  refine zw_aload_n hX dX14_go_121 rfl ?_
  obtain ⟨b11, g, h⟩ := zb_some h
  refine zw_getr hX zl_X14_50 dX14_go_122 g ?_
  refine zw_iload_n hX dX14_go_125 rfl ?_
  obtain ⟨v12, g, h⟩ := zb_some h
  refine zw_xi hX dX14_go_126 g ?_
  refine zw_iadd hX dX14_go_127 ?_
  refine zw_icmp_ge (tgt := 151) hX dX14_go_128 (by decide) (fun c128 => ?_) (fun c128 => ?_)
  · rw [if_pos c128] at h
    refine zw_sub (lv' := [(0, .ref a0), (1, .int i1)]) (List.forall_mem_cons.mpr ⟨rfl, (List.forall_mem_cons.mpr ⟨rfl, zs_nil⟩)⟩) ?_
    exact zt_X14_go_J151 hX hr hR hd h
  · rw [if_neg c128] at h
    refine zw_aload_n hX dX14_go_131 rfl ?_
    obtain ⟨b21, g, h⟩ := zb_some h
    refine zw_getr hX zl_X14_74 dX14_go_132 g ?_
    refine zw_iload_n hX dX14_go_135 rfl ?_
    obtain ⟨v22, g, h⟩ := zb_some h
    refine zw_xz hX dX14_go_136 g ?_
    refine zw_if_ne (tgt := 151) hX dX14_go_137 (by decide) (fun c137 => ?_) (fun c137 => ?_)
    · rw [if_neg c137] at h
      refine zw_sub (lv' := [(0, .ref a0), (1, .int i1)]) (List.forall_mem_cons.mpr ⟨rfl, (List.forall_mem_cons.mpr ⟨rfl, zs_nil⟩)⟩) ?_
      exact zt_X14_go_J151 hX hr hR hd h
    · rw [if_pos c137] at h
      refine zw_aload_n hX dX14_go_140 rfl ?_
      refine zw_iload_n hX dX14_go_141 rfl ?_
      refine zw_iconst (v := (1 : Int32)) hX dX14_go_142 (by decide) ?_
      obtain ⟨_, gi, h⟩ := zb_some h
      obtain ⟨r25, g, h⟩ := zb_some h
      refine zc_Vi (as := [.int i1, .int (1 : Int32)]) hX gi (zt_X14_isCalled (d := d - 1) (by omega) g) zl_X14_224 rfl dX14_go_143 ⟨rfl, rfl, Nat.le_of_ble_eq_true rfl⟩ ⟨by omega, by omega⟩ ?_
      refine zw_if_ne (tgt := 151) hX dX14_go_146 (by decide) (fun c146 => ?_) (fun c146 => ?_)
      · rw [if_neg c146] at h
        refine zw_sub (lv' := [(0, .ref a0), (1, .int i1)]) (List.forall_mem_cons.mpr ⟨rfl, (List.forall_mem_cons.mpr ⟨rfl, zs_nil⟩)⟩) ?_
        exact zt_X14_go_J151 hX hr hR hd h
      · rw [if_pos c146] at h
        refine zw_iconst (v := (-1 : Int32)) hX dX14_go_149 (by decide) ?_
        obtain rfl := Option.some.inj h
        exact zw_iret hX hr dX14_go_150 rfl ⟨rfl, rfl⟩
def zf_X14_go_J63 (N : Nat) (i2 : Int32) (S : zm_S) : Option (Int32 × zm_S) := if i2 = 0 then some ((-1 : Int32), S) else some ((0 : Int32), S)
set_option maxHeartbeats 4000000 in
set_option maxRecDepth 100000 in
theorem zt_X14_go_J63 {p : Program} {l : Launch} {e : Env} {R : Room} {s : State} {m : MethodId} {args : Array Value} {below : List Frame} {meth : Method} {c : Code} {V : zm_V} {mc ms d rc rs : Nat} (hX : zm_X p R s m args meth c RX14 "go" cX14_go 3 zk_E V mc ms) (hr : meth.sig.returnType = (some .int)) (hR : R.frames = d ∧ R.locals = 64 * d) (hd : 6 ≤ d) {N : Nat} {i2 : Int32} {out : (Int32 × zm_S)} {S : zm_S} (h : zf_X14_go_J63 N i2 S = some out) : zw p l e R s m args below meth c (vx_MQ below (zm_Qc zk_E V (zo_i out)) (zm_XC zk_E V zo_x) args s mc ms (fun q => V.2.2.2.1 ≤ q)) 3 zk_E V mc ms 63 [(2, .int i2)] [] S rc rs := by
  unfold zf_X14_go_J63 at h
  refine zw_iload_n hX dX14_go_63 rfl ?_
  refine zw_if_eq (tgt := 71) hX dX14_go_64 (by decide) (fun c64 => ?_) (fun c64 => ?_)
  · rw [if_pos c64] at h
    refine zw_iconst (v := (-1 : Int32)) hX dX14_go_71 (by decide) ?_
    obtain rfl := Option.some.inj h
    exact zw_iret hX hr dX14_go_72 rfl ⟨rfl, rfl⟩
  · rw [if_neg c64] at h
    refine zw_iconst (v := (0 : Int32)) hX dX14_go_67 (by decide) ?_
    refine zw_goto (tgt := 72) hX dX14_go_68 (by decide) ?_
    obtain rfl := Option.some.inj h
    exact zw_iret hX hr dX14_go_72 rfl ⟨rfl, rfl⟩
def zf_X14_go_J58 (N : Nat) (a0 : Nat) (i1 : Int32) (i2 : Int32) (S : zm_S) : Option (Int32 × zm_S) := (zi S a0 14).bind (fun _ => (zf_X14_rests N a0 i1 S).bind (fun r35 => zf_X14_go_J63 N i2 r35.2))
set_option maxHeartbeats 4000000 in
set_option maxRecDepth 100000 in
theorem zt_X14_go_J58 {p : Program} {l : Launch} {e : Env} {R : Room} {s : State} {m : MethodId} {args : Array Value} {below : List Frame} {meth : Method} {c : Code} {V : zm_V} {mc ms d rc rs : Nat} (hX : zm_X p R s m args meth c RX14 "go" cX14_go 3 zk_E V mc ms) (hr : meth.sig.returnType = (some .int)) (hR : R.frames = d ∧ R.locals = 64 * d) (hd : 6 ≤ d) {N : Nat} {a0 : Nat} {i1 : Int32} {i2 : Int32} {out : (Int32 × zm_S)} {S : zm_S} (h : zf_X14_go_J58 N a0 i1 i2 S = some out) : zw p l e R s m args below meth c (vx_MQ below (zm_Qc zk_E V (zo_i out)) (zm_XC zk_E V zo_x) args s mc ms (fun q => V.2.2.2.1 ≤ q)) 3 zk_E V mc ms 58 [(0, .ref a0), (1, .int i1), (2, .int i2)] [] S rc rs := by
  unfold zf_X14_go_J58 at h
  refine zw_aload_n hX dX14_go_58 rfl ?_
  refine zw_iload_n hX dX14_go_59 rfl ?_
  obtain ⟨_, gi, h⟩ := zb_some h
  obtain ⟨r35, g, h⟩ := zb_some h
  refine zc_Vv (as := [.int i1]) hX gi (zt_X14_rests (d := d - 1) (by omega) g) zl_X14_199 rfl dX14_go_60 ⟨rfl, rfl, Nat.le_of_ble_eq_true rfl⟩ ⟨by omega, by omega⟩ ?_
  refine zw_sub (lv' := [(2, .int i2)]) (List.forall_mem_cons.mpr ⟨rfl, zs_nil⟩) ?_
  exact zt_X14_go_J63 hX hr hR hd h
def zf_X14_go_J44 (N : Nat) (a0 : Nat) (i1 : Int32) (i2 : Int32) (S : zm_S) : Option (Int32 × zm_S) := if i2 = 0 then (zg_r S a0 14 26).bind (fun b36 => (za_x S 0 b36 i1).bind (fun v37 => if v37 = (1 : Int32) then zf_X14_go_J58 N a0 i1 i2 S else zf_X14_go_J63 N i2 S)) else zf_X14_go_J58 N a0 i1 i2 S
set_option maxHeartbeats 4000000 in
set_option maxRecDepth 100000 in
theorem zt_X14_go_J44 {p : Program} {l : Launch} {e : Env} {R : Room} {s : State} {m : MethodId} {args : Array Value} {below : List Frame} {meth : Method} {c : Code} {V : zm_V} {mc ms d rc rs : Nat} (hX : zm_X p R s m args meth c RX14 "go" cX14_go 3 zk_E V mc ms) (hr : meth.sig.returnType = (some .int)) (hR : R.frames = d ∧ R.locals = 64 * d) (hd : 6 ≤ d) {N : Nat} {a0 : Nat} {i1 : Int32} {i2 : Int32} {out : (Int32 × zm_S)} {S : zm_S} (h : zf_X14_go_J44 N a0 i1 i2 S = some out) : zw p l e R s m args below meth c (vx_MQ below (zm_Qc zk_E V (zo_i out)) (zm_XC zk_E V zo_x) args s mc ms (fun q => V.2.2.2.1 ≤ q)) 3 zk_E V mc ms 44 [(0, .ref a0), (1, .int i1), (2, .int i2)] [] S rc rs := by
  unfold zf_X14_go_J44 at h
  refine zw_iload_n hX dX14_go_44 rfl ?_
  refine zw_if_ne (tgt := 58) hX dX14_go_45 (by decide) (fun c45 => ?_) (fun c45 => ?_)
  · rw [if_neg c45] at h
    refine zw_sub (lv' := [(0, .ref a0), (1, .int i1), (2, .int i2)]) (List.forall_mem_cons.mpr ⟨rfl, (List.forall_mem_cons.mpr ⟨rfl, (List.forall_mem_cons.mpr ⟨rfl, zs_nil⟩)⟩)⟩) ?_
    exact zt_X14_go_J58 hX hr hR hd h
  · rw [if_pos c45] at h
    refine zw_aload_n hX dX14_go_48 rfl ?_
    obtain ⟨b36, g, h⟩ := zb_some h
    refine zw_getr hX zl_X14_65 dX14_go_49 g ?_
    refine zw_iload_n hX dX14_go_52 rfl ?_
    obtain ⟨v37, g, h⟩ := zb_some h
    refine zw_xi hX dX14_go_53 g ?_
    refine zw_iconst (v := (1 : Int32)) hX dX14_go_54 (by decide) ?_
    refine zw_icmp_ne (tgt := 63) hX dX14_go_55 (by decide) (fun c55 => ?_) (fun c55 => ?_)
    · rw [if_neg c55] at h
      refine zw_sub (lv' := [(2, .int i2)]) (List.forall_mem_cons.mpr ⟨rfl, zs_nil⟩) ?_
      exact zt_X14_go_J63 hX hr hR hd h
    · rw [if_pos c55] at h
      refine zw_sub (lv' := [(0, .ref a0), (1, .int i1), (2, .int i2)]) (List.forall_mem_cons.mpr ⟨rfl, (List.forall_mem_cons.mpr ⟨rfl, (List.forall_mem_cons.mpr ⟨rfl, zs_nil⟩)⟩)⟩) ?_
      exact zt_X14_go_J58 hX hr hR hd h
def zf_X14_go_J33 (N : Nat) (a0 : Nat) (i1 : Int32) (t0 : Int32) (S : zm_S) : Option (Int32 × zm_S) := if t0 = 0 then zf_X14_go_J44 N a0 i1 t0 S else (zi S a0 14).bind (fun _ => (zf_X14_tell N a0 i1 (0 : Int32) S).bind (fun r40 => zf_X14_go_J44 N a0 i1 t0 r40.2))
set_option maxHeartbeats 4000000 in
set_option maxRecDepth 100000 in
theorem zt_X14_go_J33 {p : Program} {l : Launch} {e : Env} {R : Room} {s : State} {m : MethodId} {args : Array Value} {below : List Frame} {meth : Method} {c : Code} {V : zm_V} {mc ms d rc rs : Nat} (hX : zm_X p R s m args meth c RX14 "go" cX14_go 3 zk_E V mc ms) (hr : meth.sig.returnType = (some .int)) (hR : R.frames = d ∧ R.locals = 64 * d) (hd : 6 ≤ d) {N : Nat} {a0 : Nat} {i1 : Int32} {t0 : Int32} {out : (Int32 × zm_S)} {S : zm_S} (h : zf_X14_go_J33 N a0 i1 t0 S = some out) : zw p l e R s m args below meth c (vx_MQ below (zm_Qc zk_E V (zo_i out)) (zm_XC zk_E V zo_x) args s mc ms (fun q => V.2.2.2.1 ≤ q)) 3 zk_E V mc ms 33 [(0, .ref a0), (1, .int i1)] [.int t0] S rc rs := by
  unfold zf_X14_go_J33 at h
  refine zw_istore_n hX dX14_go_33 (by decide) ?_
  refine zw_iload_n hX dX14_go_34 rfl ?_
  refine zw_if_eq (tgt := 44) hX dX14_go_35 (by decide) (fun c35 => ?_) (fun c35 => ?_)
  · rw [if_pos c35] at h
    refine zw_sub (lv' := [(0, .ref a0), (1, .int i1), (2, .int t0)]) (List.forall_mem_cons.mpr ⟨rfl, (List.forall_mem_cons.mpr ⟨rfl, (List.forall_mem_cons.mpr ⟨rfl, zs_nil⟩)⟩)⟩) ?_
    exact zt_X14_go_J44 hX hr hR hd h
  · rw [if_neg c35] at h
    refine zw_aload_n hX dX14_go_38 rfl ?_
    refine zw_iload_n hX dX14_go_39 rfl ?_
    refine zw_iconst (v := (0 : Int32)) hX dX14_go_40 (by decide) ?_
    obtain ⟨_, gi, h⟩ := zb_some h
    obtain ⟨r40, g, h⟩ := zb_some h
    refine zc_Vv (as := [.int i1, .int (0 : Int32)]) hX gi (zt_X14_tell (d := d - 1) (by omega) g) zl_X14_228 rfl dX14_go_41 ⟨rfl, rfl, Nat.le_of_ble_eq_true rfl⟩ ⟨by omega, by omega⟩ ?_
    refine zw_sub (lv' := [(0, .ref a0), (1, .int i1), (2, .int t0)]) (List.forall_mem_cons.mpr ⟨rfl, (List.forall_mem_cons.mpr ⟨rfl, (List.forall_mem_cons.mpr ⟨rfl, zs_nil⟩)⟩)⟩) ?_
    exact zt_X14_go_J44 hX hr hR hd h
def zf_X14_go_J32 (N : Nat) (a0 : Nat) (i1 : Int32) (S : zm_S) : Option (Int32 × zm_S) := zf_X14_go_J33 N a0 i1 (0 : Int32) S
set_option maxHeartbeats 4000000 in
set_option maxRecDepth 100000 in
theorem zt_X14_go_J32 {p : Program} {l : Launch} {e : Env} {R : Room} {s : State} {m : MethodId} {args : Array Value} {below : List Frame} {meth : Method} {c : Code} {V : zm_V} {mc ms d rc rs : Nat} (hX : zm_X p R s m args meth c RX14 "go" cX14_go 3 zk_E V mc ms) (hr : meth.sig.returnType = (some .int)) (hR : R.frames = d ∧ R.locals = 64 * d) (hd : 6 ≤ d) {N : Nat} {a0 : Nat} {i1 : Int32} {out : (Int32 × zm_S)} {S : zm_S} (h : zf_X14_go_J32 N a0 i1 S = some out) : zw p l e R s m args below meth c (vx_MQ below (zm_Qc zk_E V (zo_i out)) (zm_XC zk_E V zo_x) args s mc ms (fun q => V.2.2.2.1 ≤ q)) 3 zk_E V mc ms 32 [(0, .ref a0), (1, .int i1)] [] S rc rs := by
  unfold zf_X14_go_J32 at h
  refine zw_iconst (v := (0 : Int32)) hX dX14_go_32 (by decide) ?_
  refine zw_sub (lv' := [(0, .ref a0), (1, .int i1)]) (List.forall_mem_cons.mpr ⟨rfl, (List.forall_mem_cons.mpr ⟨rfl, zs_nil⟩)⟩) ?_
  exact zt_X14_go_J33 hX hr hR hd h
def zf_X14_go (N : Nat) (a0 : Nat) (i1 : Int32) (S : zm_S) : Option (Int32 × zm_S) := (zi S a0 14).bind (fun _ => (zf_X14_isCalled N a0 i1 (0 : Int32) S).bind (fun r3 => if r3.1 = 0 then (zg_r r3.2 a0 14 26).bind (fun b31 => (za_x r3.2 0 b31 i1).bind (fun v32 => if v32 = (2 : Int32) then (zg_r r3.2 a0 14 20).bind (fun b41 => (za_x r3.2 2 b41 i1).bind (fun v42 => if v42 = 0 then zf_X14_go_J33 N a0 i1 (1 : Int32) r3.2 else zf_X14_go_J32 N a0 i1 r3.2)) else zf_X14_go_J32 N a0 i1 r3.2)) else (zg_r r3.2 a0 14 26).bind (fun b4 => (za_x r3.2 0 b4 i1).bind (fun v5 => if v5 = (2 : Int32) then some ((-1 : Int32), r3.2) else (zg_r r3.2 a0 14 26).bind (fun b6 => (za_x r3.2 0 b6 i1).bind (fun v7 => if v7 = 0 then (zg_r r3.2 a0 14 26).bind (fun b26 => (zs_i r3.2 b26 i1 (1 : Int32)).bind (fun S27 => (zg_r S27 a0 14 27).bind (fun b28 => (zg_i S27 a0 14 1).bind (fun v29 => (zs_i S27 b28 i1 v29).bind (fun S30 => zf_X14_go_J111 N a0 i1 S30))))) else zf_X14_go_J111 N a0 i1 r3.2))))))
set_option maxHeartbeats 4000000 in
set_option maxRecDepth 100000 in
theorem zt_X14_go {l : Launch} {V : zm_V} {N : Nat} {S : zm_S} {out : (Int32 × zm_S)} {d : Nat} {a0 : Nat} {i1 : Int32} (hd : 6 ≤ d) (h : zf_X14_go N a0 i1 S = some out) : zm_Met l zk_E V yX14_go (.code yX14_go cX14_go 3 (some .int)) d [.ref a0, .int i1] S 0 0 (zo_i out) zo_x := by
  refine zm_of (by decide +kernel) (Nat.le_of_ble_eq_true rfl) ?_
  intro p e R s m args below meth c hRR hX hr hxt
  have hR : R.frames = d ∧ R.locals = 64 * d := by rw [hRR]; exact ⟨rfl, rfl⟩
  have hX : zm_X p R s m args meth c RX14 "go" cX14_go 3 zk_E V 0 0 := hX
  unfold zf_X14_go at h
  refine zw_sub (lv' := [(0, .ref a0), (1, .int i1)]) (List.forall_mem_cons.mpr ⟨rfl, (List.forall_mem_cons.mpr ⟨rfl, zs_nil⟩)⟩) ?_
  refine zw_aload_n hX dX14_go_0 rfl ?_
  refine zw_iload_n hX dX14_go_1 rfl ?_
  refine zw_iconst (v := (0 : Int32)) hX dX14_go_2 (by decide) ?_
  obtain ⟨_, gi, h⟩ := zb_some h
  obtain ⟨r3, g, h⟩ := zb_some h
  refine zc_Vi (as := [.int i1, .int (0 : Int32)]) hX gi (zt_X14_isCalled (d := d - 1) (by omega) g) zl_X14_224 rfl dX14_go_3 ⟨rfl, rfl, Nat.le_of_ble_eq_true rfl⟩ ⟨by omega, by omega⟩ ?_
  refine zw_if_ne (tgt := 73) hX dX14_go_6 (by decide) (fun c6 => ?_) (fun c6 => ?_)
  · rw [if_neg c6] at h
    refine zw_aload_n hX dX14_go_73 rfl ?_
    obtain ⟨b4, g, h⟩ := zb_some h
    refine zw_getr hX zl_X14_65 dX14_go_74 g ?_
    refine zw_iload_n hX dX14_go_77 rfl ?_
    obtain ⟨v5, g, h⟩ := zb_some h
    refine zw_xi hX dX14_go_78 g ?_
    refine zw_iconst (v := (2 : Int32)) hX dX14_go_79 (by decide) ?_
    refine zw_icmp_ne (tgt := 85) hX dX14_go_80 (by decide) (fun c80 => ?_) (fun c80 => ?_)
    · rw [if_neg c80] at h
      refine zw_aload_n hX dX14_go_85 rfl ?_
      obtain ⟨b6, g, h⟩ := zb_some h
      refine zw_getr hX zl_X14_65 dX14_go_86 g ?_
      refine zw_iload_n hX dX14_go_89 rfl ?_
      obtain ⟨v7, g, h⟩ := zb_some h
      refine zw_xi hX dX14_go_90 g ?_
      refine zw_if_ne (tgt := 111) hX dX14_go_91 (by decide) (fun c91 => ?_) (fun c91 => ?_)
      · rw [if_neg c91] at h
        refine zw_sub (lv' := [(0, .ref a0), (1, .int i1)]) (List.forall_mem_cons.mpr ⟨rfl, (List.forall_mem_cons.mpr ⟨rfl, zs_nil⟩)⟩) ?_
        exact zt_X14_go_J111 hX hr hR hd h
      · rw [if_pos c91] at h
        refine zw_aload_n hX dX14_go_94 rfl ?_
        obtain ⟨b26, g, h⟩ := zb_some h
        refine zw_getr hX zl_X14_65 dX14_go_95 g ?_
        refine zw_iload_n hX dX14_go_98 rfl ?_
        refine zw_iconst (v := (1 : Int32)) hX dX14_go_99 (by decide) ?_
        obtain ⟨S27, g, h⟩ := zb_some h
        refine zw_si hX dX14_go_100 g ?_
        refine zw_aload_n hX dX14_go_101 rfl ?_
        obtain ⟨b28, g, h⟩ := zb_some h
        refine zw_getr hX zl_X14_68 dX14_go_102 g ?_
        refine zw_iload_n hX dX14_go_105 rfl ?_
        refine zw_aload_n hX dX14_go_106 rfl ?_
        obtain ⟨v29, g, h⟩ := zb_some h
        refine zw_geti hX zl_X14_202 dX14_go_107 g ?_
        obtain ⟨S30, g, h⟩ := zb_some h
        refine zw_si hX dX14_go_110 g ?_
        refine zw_sub (lv' := [(0, .ref a0), (1, .int i1)]) (List.forall_mem_cons.mpr ⟨rfl, (List.forall_mem_cons.mpr ⟨rfl, zs_nil⟩)⟩) ?_
        exact zt_X14_go_J111 hX hr hR hd h
    · rw [if_pos c80] at h
      refine zw_iconst (v := (-1 : Int32)) hX dX14_go_83 (by decide) ?_
      obtain rfl := Option.some.inj h
      exact zw_iret hX hr dX14_go_84 rfl ⟨rfl, rfl⟩
  · rw [if_pos c6] at h
    refine zw_aload_n hX dX14_go_9 rfl ?_
    obtain ⟨b31, g, h⟩ := zb_some h
    refine zw_getr hX zl_X14_65 dX14_go_10 g ?_
    refine zw_iload_n hX dX14_go_13 rfl ?_
    obtain ⟨v32, g, h⟩ := zb_some h
    refine zw_xi hX dX14_go_14 g ?_
    refine zw_iconst (v := (2 : Int32)) hX dX14_go_15 (by decide) ?_
    refine zw_icmp_ne (tgt := 32) hX dX14_go_16 (by decide) (fun c16 => ?_) (fun c16 => ?_)
    · rw [if_neg c16] at h
      refine zw_sub (lv' := [(0, .ref a0), (1, .int i1)]) (List.forall_mem_cons.mpr ⟨rfl, (List.forall_mem_cons.mpr ⟨rfl, zs_nil⟩)⟩) ?_
      exact zt_X14_go_J32 hX hr hR hd h
    · rw [if_pos c16] at h
      refine zw_aload_n hX dX14_go_19 rfl ?_
      obtain ⟨b41, g, h⟩ := zb_some h
      refine zw_getr hX zl_X14_53 dX14_go_20 g ?_
      refine zw_iload_n hX dX14_go_23 rfl ?_
      obtain ⟨v42, g, h⟩ := zb_some h
      refine zw_xz hX dX14_go_24 g ?_
      refine zw_if_ne (tgt := 32) hX dX14_go_25 (by decide) (fun c25 => ?_) (fun c25 => ?_)
      · rw [if_neg c25] at h
        refine zw_sub (lv' := [(0, .ref a0), (1, .int i1)]) (List.forall_mem_cons.mpr ⟨rfl, (List.forall_mem_cons.mpr ⟨rfl, zs_nil⟩)⟩) ?_
        exact zt_X14_go_J32 hX hr hR hd h
      · rw [if_pos c25] at h
        refine zw_iconst (v := (1 : Int32)) hX dX14_go_28 (by decide) ?_
        refine zw_goto (tgt := 33) hX dX14_go_29 (by decide) ?_
        refine zw_sub (lv' := [(0, .ref a0), (1, .int i1)]) (List.forall_mem_cons.mpr ⟨rfl, (List.forall_mem_cons.mpr ⟨rfl, zs_nil⟩)⟩) ?_
        exact zt_X14_go_J33 hX hr hR hd h
def zf_X14_resets (N : Nat) (a0 : Nat) (i1 : Int32) (S : zm_S) : Option (Int32 × zm_S) := (zg_r S a0 14 20).bind (fun b1 => (za_x S 2 b1 i1).bind (fun v2 => if v2 = 0 then some ((0 : Int32), S) else (zg_r S a0 14 26).bind (fun b3 => (za_x S 0 b3 i1).bind (fun v4 => if v4 = (2 : Int32) then (zi S a0 14).bind (fun _ => (zf_X14_isCalled N a0 i1 (0 : Int32) S).bind (fun r7 => if r7.1 = 0 then (zi r7.2 a0 14).bind (fun _ => (zf_X14_rests N a0 i1 r7.2).bind (fun r10 => (zi r10.2 a0 14).bind (fun _ => (zf_X14_tell N a0 i1 (0 : Int32) r10.2).bind (fun r13 => some ((1 : Int32), r13.2))))) else some ((0 : Int32), r7.2))) else some ((0 : Int32), S)))))
set_option maxHeartbeats 4000000 in
set_option maxRecDepth 100000 in
theorem zt_X14_resets {l : Launch} {V : zm_V} {N : Nat} {S : zm_S} {out : (Int32 × zm_S)} {d : Nat} {a0 : Nat} {i1 : Int32} (hd : 6 ≤ d) (h : zf_X14_resets N a0 i1 S = some out) : zm_Met l zk_E V yX14_resets (.code yX14_resets cX14_resets 2 (some .boolean)) d [.ref a0, .int i1] S 0 0 (zo_i out) zo_x := by
  refine zm_of (by decide +kernel) (Nat.le_of_ble_eq_true rfl) ?_
  intro p e R s m args below meth c hRR hX hr hxt
  have hR : R.frames = d ∧ R.locals = 64 * d := by rw [hRR]; exact ⟨rfl, rfl⟩
  have hX : zm_X p R s m args meth c RX14 "resets" cX14_resets 2 zk_E V 0 0 := hX
  unfold zf_X14_resets at h
  refine zw_sub (lv' := [(0, .ref a0), (1, .int i1)]) (List.forall_mem_cons.mpr ⟨rfl, (List.forall_mem_cons.mpr ⟨rfl, zs_nil⟩)⟩) ?_
  refine zw_aload_n hX dX14_resets_0 rfl ?_
  obtain ⟨b1, g, h⟩ := zb_some h
  refine zw_getr hX zl_X14_53 dX14_resets_1 g ?_
  refine zw_iload_n hX dX14_resets_4 rfl ?_
  obtain ⟨v2, g, h⟩ := zb_some h
  refine zw_xz hX dX14_resets_5 g ?_
  refine zw_if_eq (tgt := 28) hX dX14_resets_6 (by decide) (fun c6 => ?_) (fun c6 => ?_)
  · rw [if_pos c6] at h
    refine zw_iconst (v := (0 : Int32)) hX dX14_resets_28 (by decide) ?_
    obtain rfl := Option.some.inj h
    exact zw_iret hX hr dX14_resets_29 rfl ⟨rfl, rfl⟩
  · rw [if_neg c6] at h
    refine zw_aload_n hX dX14_resets_9 rfl ?_
    obtain ⟨b3, g, h⟩ := zb_some h
    refine zw_getr hX zl_X14_65 dX14_resets_10 g ?_
    refine zw_iload_n hX dX14_resets_13 rfl ?_
    obtain ⟨v4, g, h⟩ := zb_some h
    refine zw_xi hX dX14_resets_14 g ?_
    refine zw_iconst (v := (2 : Int32)) hX dX14_resets_15 (by decide) ?_
    refine zw_icmp_ne (tgt := 28) hX dX14_resets_16 (by decide) (fun c16 => ?_) (fun c16 => ?_)
    · rw [if_neg c16] at h
      refine zw_iconst (v := (0 : Int32)) hX dX14_resets_28 (by decide) ?_
      obtain rfl := Option.some.inj h
      exact zw_iret hX hr dX14_resets_29 rfl ⟨rfl, rfl⟩
    · rw [if_pos c16] at h
      refine zw_aload_n hX dX14_resets_19 rfl ?_
      refine zw_iload_n hX dX14_resets_20 rfl ?_
      refine zw_iconst (v := (0 : Int32)) hX dX14_resets_21 (by decide) ?_
      obtain ⟨_, gi, h⟩ := zb_some h
      obtain ⟨r7, g, h⟩ := zb_some h
      refine zc_Vi (as := [.int i1, .int (0 : Int32)]) hX gi (zt_X14_isCalled (d := d - 1) (by omega) g) zl_X14_224 rfl dX14_resets_22 ⟨rfl, rfl, Nat.le_of_ble_eq_true rfl⟩ ⟨by omega, by omega⟩ ?_
      refine zw_if_eq (tgt := 30) hX dX14_resets_25 (by decide) (fun c25 => ?_) (fun c25 => ?_)
      · rw [if_pos c25] at h
        refine zw_aload_n hX dX14_resets_30 rfl ?_
        refine zw_iload_n hX dX14_resets_31 rfl ?_
        obtain ⟨_, gi, h⟩ := zb_some h
        obtain ⟨r10, g, h⟩ := zb_some h
        refine zc_Vv (as := [.int i1]) hX gi (zt_X14_rests (d := d - 1) (by omega) g) zl_X14_199 rfl dX14_resets_32 ⟨rfl, rfl, Nat.le_of_ble_eq_true rfl⟩ ⟨by omega, by omega⟩ ?_
        refine zw_aload_n hX dX14_resets_35 rfl ?_
        refine zw_iload_n hX dX14_resets_36 rfl ?_
        refine zw_iconst (v := (0 : Int32)) hX dX14_resets_37 (by decide) ?_
        obtain ⟨_, gi, h⟩ := zb_some h
        obtain ⟨r13, g, h⟩ := zb_some h
        refine zc_Vv (as := [.int i1, .int (0 : Int32)]) hX gi (zt_X14_tell (d := d - 1) (by omega) g) zl_X14_228 rfl dX14_resets_38 ⟨rfl, rfl, Nat.le_of_ble_eq_true rfl⟩ ⟨by omega, by omega⟩ ?_
        refine zw_iconst (v := (1 : Int32)) hX dX14_resets_41 (by decide) ?_
        obtain rfl := Option.some.inj h
        exact zw_iret hX hr dX14_resets_42 rfl ⟨rfl, rfl⟩
      · rw [if_neg c25] at h
        refine zw_iconst (v := (0 : Int32)) hX dX14_resets_28 (by decide) ?_
        obtain rfl := Option.some.inj h
        exact zw_iret hX hr dX14_resets_29 rfl ⟨rfl, rfl⟩
def zf_X14_attend_J113 (N : Nat) (k : Nat → Int32 → Int32 → Int32 → zm_S → Option ((Int32 × zm_S) ⊕ ((Int32) × zm_S))) (a0 : Nat) (i1 : Int32) (i3 : Int32) (t0 : Int32) (t1 : Int32) (S : zm_S) : Option ((Int32 × zm_S) ⊕ ((Int32) × zm_S)) := k a0 i1 (t0 + t1) (i3 + (1 : Int32)) S
set_option maxHeartbeats 4000000 in
set_option maxRecDepth 100000 in
theorem zt_X14_attend_J113 {p : Program} {l : Launch} {e : Env} {R : Room} {s : State} {m : MethodId} {args : Array Value} {below : List Frame} {meth : Method} {c : Code} {V : zm_V} {mc ms d rc rs : Nat} (hX : zm_X p R s m args meth c RX14 "attend" cX14_attend 5 zk_E V mc ms) (hr : meth.sig.returnType = (some .int)) (hR : R.frames = d ∧ R.locals = 64 * d) (hd : 1 ≤ d) {N : Nat} {k : Nat → Int32 → Int32 → Int32 → zm_S → Option ((Int32 × zm_S) ⊕ ((Int32) × zm_S))} {a0 : Nat} {i1 : Int32} {i3 : Int32} {t0 : Int32} {t1 : Int32} {res : (Int32 × zm_S) ⊕ ((Int32) × zm_S)} {out : (Int32 × zm_S)}   (hf : ∀ o, res = .inl o → o = out) (hk : ∀ (x2 : Int32) (S' : zm_S), res = .inr (x2, S') → zw p l e R s m args below meth c (vx_MQ below (zm_Qc zk_E V (zo_i out)) (zm_XC zk_E V zo_x) args s mc ms (fun q => V.2.2.2.1 ≤ q)) 5 zk_E V mc ms 121 [(2, .int x2)] [] S' rc rs) (hrec : ∀ (i2' : Int32) (i3' : Int32) (S : zm_S), k a0 i1 i2' i3' S = some res → zw p l e R s m args below meth c (vx_MQ below (zm_Qc zk_E V (zo_i out)) (zm_XC zk_E V zo_x) args s mc ms (fun q => V.2.2.2.1 ≤ q)) 5 zk_E V mc ms 4 [(0, .ref a0), (1, .int i1), (2, .int i2'), (3, .int i3')] [] S rc rs) {S : zm_S} (h : zf_X14_attend_J113 N k a0 i1 i3 t0 t1 S = some res) : zw p l e R s m args below meth c (vx_MQ below (zm_Qc zk_E V (zo_i out)) (zm_XC zk_E V zo_x) args s mc ms (fun q => V.2.2.2.1 ≤ q)) 5 zk_E V mc ms 113 [(0, .ref a0), (1, .int i1), (3, .int i3)] [.int t1, .int t0] S rc rs := by
  unfold zf_X14_attend_J113 at h
  refine zw_iadd hX dX14_attend_113 ?_
  refine zw_istore_n hX dX14_attend_114 (by decide) ?_
  refine zw_iinc (v := (i3 + (1 : Int32))) hX dX14_attend_115 rfl rfl (by decide) ?_
  refine zw_goto (tgt := 4) hX dX14_attend_118 (by decide) ?_
  refine zw_sub (lv' := [(0, .ref a0), (1, .int i1), (2, .int (t0 + t1)), (3, .int (i3 + (1 : Int32)))]) (List.forall_mem_cons.mpr ⟨rfl, (List.forall_mem_cons.mpr ⟨rfl, (List.forall_mem_cons.mpr ⟨rfl, (List.forall_mem_cons.mpr ⟨rfl, zs_nil⟩)⟩)⟩)⟩) ?_
  exact hrec _ _ _ h
def zf_X14_attend_J102 (N : Nat) (k : Nat → Int32 → Int32 → Int32 → zm_S → Option ((Int32 × zm_S) ⊕ ((Int32) × zm_S))) (a0 : Nat) (i1 : Int32) (i2 : Int32) (i3 : Int32) (i4 : Int32) (S : zm_S) : Option ((Int32 × zm_S) ⊕ ((Int32) × zm_S)) := if i4 = 0 then zf_X14_attend_J113 N (k) a0 i1 i3 i2 (0 : Int32) S else zf_X14_attend_J113 N (k) a0 i1 i3 i2 (1 : Int32) S
set_option maxHeartbeats 4000000 in
set_option maxRecDepth 100000 in
theorem zt_X14_attend_J102 {p : Program} {l : Launch} {e : Env} {R : Room} {s : State} {m : MethodId} {args : Array Value} {below : List Frame} {meth : Method} {c : Code} {V : zm_V} {mc ms d rc rs : Nat} (hX : zm_X p R s m args meth c RX14 "attend" cX14_attend 5 zk_E V mc ms) (hr : meth.sig.returnType = (some .int)) (hR : R.frames = d ∧ R.locals = 64 * d) (hd : 1 ≤ d) {N : Nat} {k : Nat → Int32 → Int32 → Int32 → zm_S → Option ((Int32 × zm_S) ⊕ ((Int32) × zm_S))} {a0 : Nat} {i1 : Int32} {i2 : Int32} {i3 : Int32} {i4 : Int32} {res : (Int32 × zm_S) ⊕ ((Int32) × zm_S)} {out : (Int32 × zm_S)}   (hf : ∀ o, res = .inl o → o = out) (hk : ∀ (x2 : Int32) (S' : zm_S), res = .inr (x2, S') → zw p l e R s m args below meth c (vx_MQ below (zm_Qc zk_E V (zo_i out)) (zm_XC zk_E V zo_x) args s mc ms (fun q => V.2.2.2.1 ≤ q)) 5 zk_E V mc ms 121 [(2, .int x2)] [] S' rc rs) (hrec : ∀ (i2' : Int32) (i3' : Int32) (S : zm_S), k a0 i1 i2' i3' S = some res → zw p l e R s m args below meth c (vx_MQ below (zm_Qc zk_E V (zo_i out)) (zm_XC zk_E V zo_x) args s mc ms (fun q => V.2.2.2.1 ≤ q)) 5 zk_E V mc ms 4 [(0, .ref a0), (1, .int i1), (2, .int i2'), (3, .int i3')] [] S rc rs) {S : zm_S} (h : zf_X14_attend_J102 N k a0 i1 i2 i3 i4 S = some res) : zw p l e R s m args below meth c (vx_MQ below (zm_Qc zk_E V (zo_i out)) (zm_XC zk_E V zo_x) args s mc ms (fun q => V.2.2.2.1 ≤ q)) 5 zk_E V mc ms 102 [(0, .ref a0), (1, .int i1), (2, .int i2), (3, .int i3), (4, .int i4)] [] S rc rs := by
  unfold zf_X14_attend_J102 at h
  refine zw_iload_n hX dX14_attend_102 rfl ?_
  refine zw_iload hX dX14_attend_103 rfl ?_
  refine zw_if_eq (tgt := 112) hX dX14_attend_105 (by decide) (fun c105 => ?_) (fun c105 => ?_)
  · rw [if_pos c105] at h
    refine zw_iconst (v := (0 : Int32)) hX dX14_attend_112 (by decide) ?_
    refine zw_sub (lv' := [(0, .ref a0), (1, .int i1), (3, .int i3)]) (List.forall_mem_cons.mpr ⟨rfl, (List.forall_mem_cons.mpr ⟨rfl, (List.forall_mem_cons.mpr ⟨rfl, zs_nil⟩)⟩)⟩) ?_
    exact zt_X14_attend_J113 hX hr hR hd hf hk hrec h
  · rw [if_neg c105] at h
    refine zw_iconst (v := (1 : Int32)) hX dX14_attend_108 (by decide) ?_
    refine zw_goto (tgt := 113) hX dX14_attend_109 (by decide) ?_
    refine zw_sub (lv' := [(0, .ref a0), (1, .int i1), (3, .int i3)]) (List.forall_mem_cons.mpr ⟨rfl, (List.forall_mem_cons.mpr ⟨rfl, (List.forall_mem_cons.mpr ⟨rfl, zs_nil⟩)⟩)⟩) ?_
    exact zt_X14_attend_J113 hX hr hR hd hf hk hrec h
def zf_X14_attend_J90 (N : Nat) (k : Nat → Int32 → Int32 → Int32 → zm_S → Option ((Int32 × zm_S) ⊕ ((Int32) × zm_S))) (a0 : Nat) (i1 : Int32) (i2 : Int32) (i3 : Int32) (i4 : Int32) (S : zm_S) : Option ((Int32 × zm_S) ⊕ ((Int32) × zm_S)) := if i4 = 0 then zf_X14_attend_J102 N (k) a0 i1 i2 i3 i4 S else (zg_r S a0 14 29).bind (fun b3 => (zs_z S b3 i3 (1 : Int32)).bind (fun S4 => zf_X14_attend_J102 N (k) a0 i1 i2 i3 i4 S4))
set_option maxHeartbeats 4000000 in
set_option maxRecDepth 100000 in
theorem zt_X14_attend_J90 {p : Program} {l : Launch} {e : Env} {R : Room} {s : State} {m : MethodId} {args : Array Value} {below : List Frame} {meth : Method} {c : Code} {V : zm_V} {mc ms d rc rs : Nat} (hX : zm_X p R s m args meth c RX14 "attend" cX14_attend 5 zk_E V mc ms) (hr : meth.sig.returnType = (some .int)) (hR : R.frames = d ∧ R.locals = 64 * d) (hd : 1 ≤ d) {N : Nat} {k : Nat → Int32 → Int32 → Int32 → zm_S → Option ((Int32 × zm_S) ⊕ ((Int32) × zm_S))} {a0 : Nat} {i1 : Int32} {i2 : Int32} {i3 : Int32} {i4 : Int32} {res : (Int32 × zm_S) ⊕ ((Int32) × zm_S)} {out : (Int32 × zm_S)}   (hf : ∀ o, res = .inl o → o = out) (hk : ∀ (x2 : Int32) (S' : zm_S), res = .inr (x2, S') → zw p l e R s m args below meth c (vx_MQ below (zm_Qc zk_E V (zo_i out)) (zm_XC zk_E V zo_x) args s mc ms (fun q => V.2.2.2.1 ≤ q)) 5 zk_E V mc ms 121 [(2, .int x2)] [] S' rc rs) (hrec : ∀ (i2' : Int32) (i3' : Int32) (S : zm_S), k a0 i1 i2' i3' S = some res → zw p l e R s m args below meth c (vx_MQ below (zm_Qc zk_E V (zo_i out)) (zm_XC zk_E V zo_x) args s mc ms (fun q => V.2.2.2.1 ≤ q)) 5 zk_E V mc ms 4 [(0, .ref a0), (1, .int i1), (2, .int i2'), (3, .int i3')] [] S rc rs) {S : zm_S} (h : zf_X14_attend_J90 N k a0 i1 i2 i3 i4 S = some res) : zw p l e R s m args below meth c (vx_MQ below (zm_Qc zk_E V (zo_i out)) (zm_XC zk_E V zo_x) args s mc ms (fun q => V.2.2.2.1 ≤ q)) 5 zk_E V mc ms 90 [(0, .ref a0), (1, .int i1), (2, .int i2), (3, .int i3), (4, .int i4)] [] S rc rs := by
  unfold zf_X14_attend_J90 at h
  refine zw_iload hX dX14_attend_90 rfl ?_
  refine zw_if_eq (tgt := 102) hX dX14_attend_92 (by decide) (fun c92 => ?_) (fun c92 => ?_)
  · rw [if_pos c92] at h
    refine zw_sub (lv' := [(0, .ref a0), (1, .int i1), (2, .int i2), (3, .int i3), (4, .int i4)]) (List.forall_mem_cons.mpr ⟨rfl, (List.forall_mem_cons.mpr ⟨rfl, (List.forall_mem_cons.mpr ⟨rfl, (List.forall_mem_cons.mpr ⟨rfl, (List.forall_mem_cons.mpr ⟨rfl, zs_nil⟩)⟩)⟩)⟩)⟩) ?_
    exact zt_X14_attend_J102 hX hr hR hd hf hk hrec h
  · rw [if_neg c92] at h
    refine zw_aload_n hX dX14_attend_95 rfl ?_
    obtain ⟨b3, g, h⟩ := zb_some h
    refine zw_getr hX zl_X14_74 dX14_attend_96 g ?_
    refine zw_iload_n hX dX14_attend_99 rfl ?_
    refine zw_iconst (v := (1 : Int32)) hX dX14_attend_100 (by decide) ?_
    obtain ⟨S4, g, h⟩ := zb_some h
    refine zw_sz hX dX14_attend_101 g ?_
    refine zw_sub (lv' := [(0, .ref a0), (1, .int i1), (2, .int i2), (3, .int i3), (4, .int i4)]) (List.forall_mem_cons.mpr ⟨rfl, (List.forall_mem_cons.mpr ⟨rfl, (List.forall_mem_cons.mpr ⟨rfl, (List.forall_mem_cons.mpr ⟨rfl, (List.forall_mem_cons.mpr ⟨rfl, zs_nil⟩)⟩)⟩)⟩)⟩) ?_
    exact zt_X14_attend_J102 hX hr hR hd hf hk hrec h
def zf_X14_attend_J59 (N : Nat) (k : Nat → Int32 → Int32 → Int32 → zm_S → Option ((Int32 × zm_S) ⊕ ((Int32) × zm_S))) (a0 : Nat) (i1 : Int32) (i2 : Int32) (i3 : Int32) (t0 : Int32) (S : zm_S) : Option ((Int32 × zm_S) ⊕ ((Int32) × zm_S)) := if t0 = 0 then zf_X14_attend_J90 N (k) a0 i1 i2 i3 t0 S else if i1 = 0 then (zg_r S a0 14 27).bind (fun b5 => (zg_i S a0 14 1).bind (fun v6 => (zs_i S b5 i3 v6).bind (fun S7 => (zg_r S7 a0 14 28).bind (fun b8 => (zs_z S7 b8 i3 (1 : Int32)).bind (fun S9 => zf_X14_attend_J102 N (k) a0 i1 i2 i3 t0 S9))))) else zf_X14_attend_J90 N (k) a0 i1 i2 i3 t0 S
set_option maxHeartbeats 4000000 in
set_option maxRecDepth 100000 in
theorem zt_X14_attend_J59 {p : Program} {l : Launch} {e : Env} {R : Room} {s : State} {m : MethodId} {args : Array Value} {below : List Frame} {meth : Method} {c : Code} {V : zm_V} {mc ms d rc rs : Nat} (hX : zm_X p R s m args meth c RX14 "attend" cX14_attend 5 zk_E V mc ms) (hr : meth.sig.returnType = (some .int)) (hR : R.frames = d ∧ R.locals = 64 * d) (hd : 1 ≤ d) {N : Nat} {k : Nat → Int32 → Int32 → Int32 → zm_S → Option ((Int32 × zm_S) ⊕ ((Int32) × zm_S))} {a0 : Nat} {i1 : Int32} {i2 : Int32} {i3 : Int32} {t0 : Int32} {res : (Int32 × zm_S) ⊕ ((Int32) × zm_S)} {out : (Int32 × zm_S)}   (hf : ∀ o, res = .inl o → o = out) (hk : ∀ (x2 : Int32) (S' : zm_S), res = .inr (x2, S') → zw p l e R s m args below meth c (vx_MQ below (zm_Qc zk_E V (zo_i out)) (zm_XC zk_E V zo_x) args s mc ms (fun q => V.2.2.2.1 ≤ q)) 5 zk_E V mc ms 121 [(2, .int x2)] [] S' rc rs) (hrec : ∀ (i2' : Int32) (i3' : Int32) (S : zm_S), k a0 i1 i2' i3' S = some res → zw p l e R s m args below meth c (vx_MQ below (zm_Qc zk_E V (zo_i out)) (zm_XC zk_E V zo_x) args s mc ms (fun q => V.2.2.2.1 ≤ q)) 5 zk_E V mc ms 4 [(0, .ref a0), (1, .int i1), (2, .int i2'), (3, .int i3')] [] S rc rs) {S : zm_S} (h : zf_X14_attend_J59 N k a0 i1 i2 i3 t0 S = some res) : zw p l e R s m args below meth c (vx_MQ below (zm_Qc zk_E V (zo_i out)) (zm_XC zk_E V zo_x) args s mc ms (fun q => V.2.2.2.1 ≤ q)) 5 zk_E V mc ms 59 [(0, .ref a0), (1, .int i1), (2, .int i2), (3, .int i3)] [.int t0] S rc rs := by
  unfold zf_X14_attend_J59 at h
  refine zw_istore hX dX14_attend_59 (by decide) ?_
  refine zw_iload hX dX14_attend_61 rfl ?_
  refine zw_if_eq (tgt := 90) hX dX14_attend_63 (by decide) (fun c63 => ?_) (fun c63 => ?_)
  · rw [if_pos c63] at h
    refine zw_sub (lv' := [(0, .ref a0), (1, .int i1), (2, .int i2), (3, .int i3), (4, .int t0)]) (List.forall_mem_cons.mpr ⟨rfl, (List.forall_mem_cons.mpr ⟨rfl, (List.forall_mem_cons.mpr ⟨rfl, (List.forall_mem_cons.mpr ⟨rfl, (List.forall_mem_cons.mpr ⟨rfl, zs_nil⟩)⟩)⟩)⟩)⟩) ?_
    exact zt_X14_attend_J90 hX hr hR hd hf hk hrec h
  · rw [if_neg c63] at h
    refine zw_iload_n hX dX14_attend_66 rfl ?_
    refine zw_if_ne (tgt := 90) hX dX14_attend_67 (by decide) (fun c67 => ?_) (fun c67 => ?_)
    · rw [if_neg c67] at h
      refine zw_sub (lv' := [(0, .ref a0), (1, .int i1), (2, .int i2), (3, .int i3), (4, .int t0)]) (List.forall_mem_cons.mpr ⟨rfl, (List.forall_mem_cons.mpr ⟨rfl, (List.forall_mem_cons.mpr ⟨rfl, (List.forall_mem_cons.mpr ⟨rfl, (List.forall_mem_cons.mpr ⟨rfl, zs_nil⟩)⟩)⟩)⟩)⟩) ?_
      exact zt_X14_attend_J90 hX hr hR hd hf hk hrec h
    · rw [if_pos c67] at h
      refine zw_aload_n hX dX14_attend_70 rfl ?_
      obtain ⟨b5, g, h⟩ := zb_some h
      refine zw_getr hX zl_X14_68 dX14_attend_71 g ?_
      refine zw_iload_n hX dX14_attend_74 rfl ?_
      refine zw_aload_n hX dX14_attend_75 rfl ?_
      obtain ⟨v6, g, h⟩ := zb_some h
      refine zw_geti hX zl_X14_202 dX14_attend_76 g ?_
      obtain ⟨S7, g, h⟩ := zb_some h
      refine zw_si hX dX14_attend_79 g ?_
      refine zw_aload_n hX dX14_attend_80 rfl ?_
      obtain ⟨b8, g, h⟩ := zb_some h
      refine zw_getr hX zl_X14_71 dX14_attend_81 g ?_
      refine zw_iload_n hX dX14_attend_84 rfl ?_
      refine zw_iconst (v := (1 : Int32)) hX dX14_attend_85 (by decide) ?_
      obtain ⟨S9, g, h⟩ := zb_some h
      refine zw_sz hX dX14_attend_86 g ?_
      refine zw_goto (tgt := 102) hX dX14_attend_87 (by decide) ?_
      refine zw_sub (lv' := [(0, .ref a0), (1, .int i1), (2, .int i2), (3, .int i3), (4, .int t0)]) (List.forall_mem_cons.mpr ⟨rfl, (List.forall_mem_cons.mpr ⟨rfl, (List.forall_mem_cons.mpr ⟨rfl, (List.forall_mem_cons.mpr ⟨rfl, (List.forall_mem_cons.mpr ⟨rfl, zs_nil⟩)⟩)⟩)⟩)⟩) ?_
      exact zt_X14_attend_J102 hX hr hR hd hf hk hrec h
def zf_X14_attend_J58 (N : Nat) (k : Nat → Int32 → Int32 → Int32 → zm_S → Option ((Int32 × zm_S) ⊕ ((Int32) × zm_S))) (a0 : Nat) (i1 : Int32) (i2 : Int32) (i3 : Int32) (S : zm_S) : Option ((Int32 × zm_S) ⊕ ((Int32) × zm_S)) := zf_X14_attend_J59 N (k) a0 i1 i2 i3 (0 : Int32) S
set_option maxHeartbeats 4000000 in
set_option maxRecDepth 100000 in
theorem zt_X14_attend_J58 {p : Program} {l : Launch} {e : Env} {R : Room} {s : State} {m : MethodId} {args : Array Value} {below : List Frame} {meth : Method} {c : Code} {V : zm_V} {mc ms d rc rs : Nat} (hX : zm_X p R s m args meth c RX14 "attend" cX14_attend 5 zk_E V mc ms) (hr : meth.sig.returnType = (some .int)) (hR : R.frames = d ∧ R.locals = 64 * d) (hd : 1 ≤ d) {N : Nat} {k : Nat → Int32 → Int32 → Int32 → zm_S → Option ((Int32 × zm_S) ⊕ ((Int32) × zm_S))} {a0 : Nat} {i1 : Int32} {i2 : Int32} {i3 : Int32} {res : (Int32 × zm_S) ⊕ ((Int32) × zm_S)} {out : (Int32 × zm_S)}   (hf : ∀ o, res = .inl o → o = out) (hk : ∀ (x2 : Int32) (S' : zm_S), res = .inr (x2, S') → zw p l e R s m args below meth c (vx_MQ below (zm_Qc zk_E V (zo_i out)) (zm_XC zk_E V zo_x) args s mc ms (fun q => V.2.2.2.1 ≤ q)) 5 zk_E V mc ms 121 [(2, .int x2)] [] S' rc rs) (hrec : ∀ (i2' : Int32) (i3' : Int32) (S : zm_S), k a0 i1 i2' i3' S = some res → zw p l e R s m args below meth c (vx_MQ below (zm_Qc zk_E V (zo_i out)) (zm_XC zk_E V zo_x) args s mc ms (fun q => V.2.2.2.1 ≤ q)) 5 zk_E V mc ms 4 [(0, .ref a0), (1, .int i1), (2, .int i2'), (3, .int i3')] [] S rc rs) {S : zm_S} (h : zf_X14_attend_J58 N k a0 i1 i2 i3 S = some res) : zw p l e R s m args below meth c (vx_MQ below (zm_Qc zk_E V (zo_i out)) (zm_XC zk_E V zo_x) args s mc ms (fun q => V.2.2.2.1 ≤ q)) 5 zk_E V mc ms 58 [(0, .ref a0), (1, .int i1), (2, .int i2), (3, .int i3)] [] S rc rs := by
  unfold zf_X14_attend_J58 at h
  refine zw_iconst (v := (0 : Int32)) hX dX14_attend_58 (by decide) ?_
  refine zw_sub (lv' := [(0, .ref a0), (1, .int i1), (2, .int i2), (3, .int i3)]) (List.forall_mem_cons.mpr ⟨rfl, (List.forall_mem_cons.mpr ⟨rfl, (List.forall_mem_cons.mpr ⟨rfl, (List.forall_mem_cons.mpr ⟨rfl, zs_nil⟩)⟩)⟩)⟩) ?_
  exact zt_X14_attend_J59 hX hr hR hd hf hk hrec h
def zf_X14_attend_J54 (N : Nat) (k : Nat → Int32 → Int32 → Int32 → zm_S → Option ((Int32 × zm_S) ⊕ ((Int32) × zm_S))) (a0 : Nat) (i1 : Int32) (i2 : Int32) (i3 : Int32) (S : zm_S) : Option ((Int32 × zm_S) ⊕ ((Int32) × zm_S)) := zf_X14_attend_J59 N (k) a0 i1 i2 i3 (1 : Int32) S
set_option maxHeartbeats 4000000 in
set_option maxRecDepth 100000 in
theorem zt_X14_attend_J54 {p : Program} {l : Launch} {e : Env} {R : Room} {s : State} {m : MethodId} {args : Array Value} {below : List Frame} {meth : Method} {c : Code} {V : zm_V} {mc ms d rc rs : Nat} (hX : zm_X p R s m args meth c RX14 "attend" cX14_attend 5 zk_E V mc ms) (hr : meth.sig.returnType = (some .int)) (hR : R.frames = d ∧ R.locals = 64 * d) (hd : 1 ≤ d) {N : Nat} {k : Nat → Int32 → Int32 → Int32 → zm_S → Option ((Int32 × zm_S) ⊕ ((Int32) × zm_S))} {a0 : Nat} {i1 : Int32} {i2 : Int32} {i3 : Int32} {res : (Int32 × zm_S) ⊕ ((Int32) × zm_S)} {out : (Int32 × zm_S)}   (hf : ∀ o, res = .inl o → o = out) (hk : ∀ (x2 : Int32) (S' : zm_S), res = .inr (x2, S') → zw p l e R s m args below meth c (vx_MQ below (zm_Qc zk_E V (zo_i out)) (zm_XC zk_E V zo_x) args s mc ms (fun q => V.2.2.2.1 ≤ q)) 5 zk_E V mc ms 121 [(2, .int x2)] [] S' rc rs) (hrec : ∀ (i2' : Int32) (i3' : Int32) (S : zm_S), k a0 i1 i2' i3' S = some res → zw p l e R s m args below meth c (vx_MQ below (zm_Qc zk_E V (zo_i out)) (zm_XC zk_E V zo_x) args s mc ms (fun q => V.2.2.2.1 ≤ q)) 5 zk_E V mc ms 4 [(0, .ref a0), (1, .int i1), (2, .int i2'), (3, .int i3')] [] S rc rs) {S : zm_S} (h : zf_X14_attend_J54 N k a0 i1 i2 i3 S = some res) : zw p l e R s m args below meth c (vx_MQ below (zm_Qc zk_E V (zo_i out)) (zm_XC zk_E V zo_x) args s mc ms (fun q => V.2.2.2.1 ≤ q)) 5 zk_E V mc ms 54 [(0, .ref a0), (1, .int i1), (2, .int i2), (3, .int i3)] [] S rc rs := by
  unfold zf_X14_attend_J54 at h
  refine zw_iconst (v := (1 : Int32)) hX dX14_attend_54 (by decide) ?_
  refine zw_goto (tgt := 59) hX dX14_attend_55 (by decide) ?_
  refine zw_sub (lv' := [(0, .ref a0), (1, .int i1), (2, .int i2), (3, .int i3)]) (List.forall_mem_cons.mpr ⟨rfl, (List.forall_mem_cons.mpr ⟨rfl, (List.forall_mem_cons.mpr ⟨rfl, (List.forall_mem_cons.mpr ⟨rfl, zs_nil⟩)⟩)⟩)⟩) ?_
  exact zt_X14_attend_J59 hX hr hR hd hf hk hrec h
def zf_X14_attend_L4 (N : Nat) : Nat → Nat → Int32 → Int32 → Int32 → zm_S → Option ((Int32 × zm_S) ⊕ ((Int32) × zm_S))
  | 0, _, _, _, _, _ => none
  | n + 1, a0, i1, i2, i3, S => if (20 : Int32) ≤ i3 then some (.inr (i2, S)) else (zg_r S a0 14 16).bind (fun b1 => (za_x S 2 b1 i3).bind (fun v2 => if v2 = 0 then zf_X14_attend_J58 N (zf_X14_attend_L4 N n) a0 i1 i2 i3 S else (zg_r S a0 14 26).bind (fun b10 => (za_x S 0 b10 i3).bind (fun v11 => if v11 = (1 : Int32) then if i1 = 0 then (zg_r S a0 14 28).bind (fun b14 => (za_x S 2 b14 i3).bind (fun v15 => if v15 = 0 then zf_X14_attend_J54 N (zf_X14_attend_L4 N n) a0 i1 i2 i3 S else zf_X14_attend_J58 N (zf_X14_attend_L4 N n) a0 i1 i2 i3 S)) else (zg_r S a0 14 29).bind (fun b12 => (za_x S 2 b12 i3).bind (fun v13 => if v13 = 0 then zf_X14_attend_J54 N (zf_X14_attend_L4 N n) a0 i1 i2 i3 S else zf_X14_attend_J58 N (zf_X14_attend_L4 N n) a0 i1 i2 i3 S)) else zf_X14_attend_J58 N (zf_X14_attend_L4 N n) a0 i1 i2 i3 S))))
set_option maxHeartbeats 4000000 in
set_option maxRecDepth 100000 in
theorem zt_X14_attend_L4 {p : Program} {l : Launch} {e : Env} {R : Room} {s : State} {m : MethodId} {args : Array Value} {below : List Frame} {meth : Method} {c : Code} {V : zm_V} {mc ms d rc rs : Nat} (hX : zm_X p R s m args meth c RX14 "attend" cX14_attend 5 zk_E V mc ms) (hr : meth.sig.returnType = (some .int)) (hR : R.frames = d ∧ R.locals = 64 * d) (hd : 1 ≤ d) {N : Nat} {res : (Int32 × zm_S) ⊕ ((Int32) × zm_S)} {out : (Int32 × zm_S)} (a0 : Nat) (i1 : Int32) (hf : ∀ o, res = .inl o → o = out) (hk : ∀ (x2 : Int32) (S' : zm_S), res = .inr (x2, S') → zw p l e R s m args below meth c (vx_MQ below (zm_Qc zk_E V (zo_i out)) (zm_XC zk_E V zo_x) args s mc ms (fun q => V.2.2.2.1 ≤ q)) 5 zk_E V mc ms 121 [(2, .int x2)] [] S' rc rs) : ∀ (n : Nat) (i2 : Int32) (i3 : Int32) (S : zm_S), zf_X14_attend_L4 N n a0 i1 i2 i3 S = some res → zw p l e R s m args below meth c (vx_MQ below (zm_Qc zk_E V (zo_i out)) (zm_XC zk_E V zo_x) args s mc ms (fun q => V.2.2.2.1 ≤ q)) 5 zk_E V mc ms 4 [(0, .ref a0), (1, .int i1), (2, .int i2), (3, .int i3)] [] S rc rs := by
  intro n
  induction n with
  | zero => intro i2 i3 S h; cases h
  | succ n ih =>
    intro i2 i3 S h
    rw [zf_X14_attend_L4] at h
    refine zw_iload_n hX dX14_attend_4 rfl ?_
    refine zw_bipush (v := (20 : Int32)) hX dX14_attend_5 (by decide) ?_
    refine zw_icmp_ge (tgt := 121) hX dX14_attend_7 (by decide) (fun c7 => ?_) (fun c7 => ?_)
    · rw [if_pos c7] at h
      refine zw_sub (lv' := [(2, .int i2)]) (List.forall_mem_cons.mpr ⟨rfl, zs_nil⟩) ?_
      exact hk _ _ (Option.some.inj h).symm
    · rw [if_neg c7] at h
      refine zw_aload_n hX dX14_attend_10 rfl ?_
      obtain ⟨b1, g, h⟩ := zb_some h
      refine zw_getr hX zl_X14_41 dX14_attend_11 g ?_
      refine zw_iload_n hX dX14_attend_14 rfl ?_
      obtain ⟨v2, g, h⟩ := zb_some h
      refine zw_xz hX dX14_attend_15 g ?_
      refine zw_if_eq (tgt := 58) hX dX14_attend_16 (by decide) (fun c16 => ?_) (fun c16 => ?_)
      · rw [if_pos c16] at h
        refine zw_sub (lv' := [(0, .ref a0), (1, .int i1), (2, .int i2), (3, .int i3)]) (List.forall_mem_cons.mpr ⟨rfl, (List.forall_mem_cons.mpr ⟨rfl, (List.forall_mem_cons.mpr ⟨rfl, (List.forall_mem_cons.mpr ⟨rfl, zs_nil⟩)⟩)⟩)⟩) ?_
        exact zt_X14_attend_J58 hX hr hR hd hf hk ih h
      · rw [if_neg c16] at h
        refine zw_aload_n hX dX14_attend_19 rfl ?_
        obtain ⟨b10, g, h⟩ := zb_some h
        refine zw_getr hX zl_X14_65 dX14_attend_20 g ?_
        refine zw_iload_n hX dX14_attend_23 rfl ?_
        obtain ⟨v11, g, h⟩ := zb_some h
        refine zw_xi hX dX14_attend_24 g ?_
        refine zw_iconst (v := (1 : Int32)) hX dX14_attend_25 (by decide) ?_
        refine zw_icmp_ne (tgt := 58) hX dX14_attend_26 (by decide) (fun c26 => ?_) (fun c26 => ?_)
        · rw [if_neg c26] at h
          refine zw_sub (lv' := [(0, .ref a0), (1, .int i1), (2, .int i2), (3, .int i3)]) (List.forall_mem_cons.mpr ⟨rfl, (List.forall_mem_cons.mpr ⟨rfl, (List.forall_mem_cons.mpr ⟨rfl, (List.forall_mem_cons.mpr ⟨rfl, zs_nil⟩)⟩)⟩)⟩) ?_
          exact zt_X14_attend_J58 hX hr hR hd hf hk ih h
        · rw [if_pos c26] at h
          refine zw_iload_n hX dX14_attend_29 rfl ?_
          refine zw_if_ne (tgt := 45) hX dX14_attend_30 (by decide) (fun c30 => ?_) (fun c30 => ?_)
          · rw [if_neg c30] at h
            refine zw_aload_n hX dX14_attend_45 rfl ?_
            obtain ⟨b12, g, h⟩ := zb_some h
            refine zw_getr hX zl_X14_74 dX14_attend_46 g ?_
            refine zw_iload_n hX dX14_attend_49 rfl ?_
            obtain ⟨v13, g, h⟩ := zb_some h
            refine zw_xz hX dX14_attend_50 g ?_
            refine zw_if_ne (tgt := 58) hX dX14_attend_51 (by decide) (fun c51 => ?_) (fun c51 => ?_)
            · rw [if_neg c51] at h
              refine zw_sub (lv' := [(0, .ref a0), (1, .int i1), (2, .int i2), (3, .int i3)]) (List.forall_mem_cons.mpr ⟨rfl, (List.forall_mem_cons.mpr ⟨rfl, (List.forall_mem_cons.mpr ⟨rfl, (List.forall_mem_cons.mpr ⟨rfl, zs_nil⟩)⟩)⟩)⟩) ?_
              exact zt_X14_attend_J58 hX hr hR hd hf hk ih h
            · rw [if_pos c51] at h
              refine zw_sub (lv' := [(0, .ref a0), (1, .int i1), (2, .int i2), (3, .int i3)]) (List.forall_mem_cons.mpr ⟨rfl, (List.forall_mem_cons.mpr ⟨rfl, (List.forall_mem_cons.mpr ⟨rfl, (List.forall_mem_cons.mpr ⟨rfl, zs_nil⟩)⟩)⟩)⟩) ?_
              exact zt_X14_attend_J54 hX hr hR hd hf hk ih h
          · rw [if_pos c30] at h
            refine zw_aload_n hX dX14_attend_33 rfl ?_
            obtain ⟨b14, g, h⟩ := zb_some h
            refine zw_getr hX zl_X14_71 dX14_attend_34 g ?_
            refine zw_iload_n hX dX14_attend_37 rfl ?_
            obtain ⟨v15, g, h⟩ := zb_some h
            refine zw_xz hX dX14_attend_38 g ?_
            refine zw_if_eq (tgt := 54) hX dX14_attend_39 (by decide) (fun c39 => ?_) (fun c39 => ?_)
            · rw [if_pos c39] at h
              refine zw_sub (lv' := [(0, .ref a0), (1, .int i1), (2, .int i2), (3, .int i3)]) (List.forall_mem_cons.mpr ⟨rfl, (List.forall_mem_cons.mpr ⟨rfl, (List.forall_mem_cons.mpr ⟨rfl, (List.forall_mem_cons.mpr ⟨rfl, zs_nil⟩)⟩)⟩)⟩) ?_
              exact zt_X14_attend_J54 hX hr hR hd hf hk ih h
            · rw [if_neg c39] at h
              refine zw_goto (tgt := 58) hX dX14_attend_42 (by decide) ?_
              refine zw_sub (lv' := [(0, .ref a0), (1, .int i1), (2, .int i2), (3, .int i3)]) (List.forall_mem_cons.mpr ⟨rfl, (List.forall_mem_cons.mpr ⟨rfl, (List.forall_mem_cons.mpr ⟨rfl, (List.forall_mem_cons.mpr ⟨rfl, zs_nil⟩)⟩)⟩)⟩) ?_
              exact zt_X14_attend_J58 hX hr hR hd hf hk ih h
def zf_X14_attend (N : Nat) (a0 : Nat) (i1 : Int32) (S : zm_S) : Option (Int32 × zm_S) := (zf_X14_attend_L4 N N a0 i1 (0 : Int32) (0 : Int32) S).bind (fun r => match r with | .inl o => some o | .inr (v17, S16) => some (v17, S16))
set_option maxHeartbeats 4000000 in
set_option maxRecDepth 100000 in
theorem zt_X14_attend {l : Launch} {V : zm_V} {N : Nat} {S : zm_S} {out : (Int32 × zm_S)} {d : Nat} {a0 : Nat} {i1 : Int32} (hd : 1 ≤ d) (h : zf_X14_attend N a0 i1 S = some out) : zm_Met l zk_E V yX14_attend (.code yX14_attend cX14_attend 5 (some .int)) d [.ref a0, .int i1] S 0 0 (zo_i out) zo_x := by
  refine zm_of (by decide +kernel) (Nat.le_of_ble_eq_true rfl) ?_
  intro p e R s m args below meth c hRR hX hr hxt
  have hR : R.frames = d ∧ R.locals = 64 * d := by rw [hRR]; exact ⟨rfl, rfl⟩
  have hX : zm_X p R s m args meth c RX14 "attend" cX14_attend 5 zk_E V 0 0 := hX
  unfold zf_X14_attend at h
  refine zw_sub (lv' := [(0, .ref a0), (1, .int i1)]) (List.forall_mem_cons.mpr ⟨rfl, (List.forall_mem_cons.mpr ⟨rfl, zs_nil⟩)⟩) ?_
  refine zw_iconst (v := (0 : Int32)) hX dX14_attend_0 (by decide) ?_
  refine zw_istore_n hX dX14_attend_1 (by decide) ?_
  refine zw_iconst (v := (0 : Int32)) hX dX14_attend_2 (by decide) ?_
  refine zw_istore_n hX dX14_attend_3 (by decide) ?_
  obtain ⟨r, g, h⟩ := zb_some h
  refine zw_sub (lv' := [(0, .ref a0), (1, .int i1), (2, .int (0 : Int32)), (3, .int (0 : Int32))]) (List.forall_mem_cons.mpr ⟨rfl, (List.forall_mem_cons.mpr ⟨rfl, (List.forall_mem_cons.mpr ⟨rfl, (List.forall_mem_cons.mpr ⟨rfl, zs_nil⟩)⟩)⟩)⟩) ?_
  refine zt_X14_attend_L4 hX hr hR hd (res := r) (out := out) a0 i1 ?_ ?_ N _ _ _ g
  · intro o ho
    subst ho
    exact Option.some.inj h
  · intro v17 S16 hx
    subst hx
    try dsimp only at h
    refine zw_iload_n hX dX14_attend_121 rfl ?_
    obtain rfl := Option.some.inj h
    exact zw_iret hX hr dX14_attend_122 rfl ⟨rfl, rfl⟩
