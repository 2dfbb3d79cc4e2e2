/-! ===== functions of methods, by program (wip/whole/tools/gen11.py) ===== -/
theorem dX15_operation_0 : decode cX15_operation 0 = .ok (.iload_n 0, 1) := by decide +kernel
theorem dX15_operation_1 : decode cX15_operation 1 = .ok (.bipush 43, 2) := by decide +kernel
theorem dX15_operation_3 : decode cX15_operation 3 = .ok (.if_icmp .ne 7, 3) := by decide +kernel
theorem dX15_operation_10 : decode cX15_operation 10 = .ok (.iload_n 0, 1) := by decide +kernel
theorem dX15_operation_11 : decode cX15_operation 11 = .ok (.bipush 45, 2) := by decide +kernel
theorem dX15_operation_13 : decode cX15_operation 13 = .ok (.if_icmp .ne 7, 3) := by decide +kernel
theorem dX15_operation_20 : decode cX15_operation 20 = .ok (.iload_n 0, 1) := by decide +kernel
theorem dX15_operation_21 : decode cX15_operation 21 = .ok (.bipush 42, 2) := by decide +kernel
theorem dX15_operation_23 : decode cX15_operation 23 = .ok (.if_icmp .ne 7, 3) := by decide +kernel
theorem dX15_operation_30 : decode cX15_operation 30 = .ok (.iload_n 0, 1) := by decide +kernel
theorem dX15_operation_31 : decode cX15_operation 31 = .ok (.bipush 47, 2) := by decide +kernel
theorem dX15_operation_33 : decode cX15_operation 33 = .ok (.if_icmp .ne 7, 3) := by decide +kernel
theorem dX15_operation_40 : decode cX15_operation 40 = .ok (.iconst 0, 1) := by decide +kernel
theorem dX15_operation_41 : decode cX15_operation 41 = .ok (.ireturn, 1) := by decide +kernel
theorem dX15_operation_36 : decode cX15_operation 36 = .ok (.iconst 5, 1) := by decide +kernel
theorem dX15_operation_37 : decode cX15_operation 37 = .ok (.goto 4, 3) := by decide +kernel
theorem dX15_operation_26 : decode cX15_operation 26 = .ok (.iconst 4, 1) := by decide +kernel
theorem dX15_operation_27 : decode cX15_operation 27 = .ok (.goto 14, 3) := by decide +kernel
theorem dX15_operation_16 : decode cX15_operation 16 = .ok (.iconst 3, 1) := by decide +kernel
theorem dX15_operation_17 : decode cX15_operation 17 = .ok (.goto 24, 3) := by decide +kernel
theorem dX15_operation_6 : decode cX15_operation 6 = .ok (.iconst 2, 1) := by decide +kernel
theorem dX15_operation_7 : decode cX15_operation 7 = .ok (.goto 34, 3) := by decide +kernel
theorem dX15_side_0 : decode cX15_side 0 = .ok (.iconst 0, 1) := by decide +kernel
theorem dX15_side_1 : decode cX15_side 1 = .ok (.istore_n 1, 1) := by decide +kernel
theorem dX15_side_2 : decode cX15_side 2 = .ok (.iconst 1, 1) := by decide +kernel
theorem dX15_side_3 : decode cX15_side 3 = .ok (.istore_n 2, 1) := by decide +kernel
theorem dX15_side_4 : decode cX15_side 4 = .ok (.iconst 1, 1) := by decide +kernel
theorem dX15_side_5 : decode cX15_side 5 = .ok (.istore_n 3, 1) := by decide +kernel
theorem dX15_side_6 : decode cX15_side 6 = .ok (.iconst 1, 1) := by decide +kernel
theorem dX15_side_7 : decode cX15_side 7 = .ok (.istore 4, 2) := by decide +kernel
theorem dX15_side_9 : decode cX15_side 9 = .ok (.aload_n 0, 1) := by decide +kernel
theorem dX15_side_10 : decode cX15_side 10 = .ok (.iconst 0, 1) := by decide +kernel
theorem dX15_side_11 : decode cX15_side 11 = .ok (.putfield 137, 3) := by decide +kernel
theorem dX15_side_14 : decode cX15_side 14 = .ok (.iload 4, 2) := by decide +kernel
theorem dX15_side_16 : decode cX15_side 16 = .ok (.ifCond .eq 299, 3) := by decide +kernel
theorem dX15_side_19 : decode cX15_side 19 = .ok (.aload_n 0, 1) := by decide +kernel
theorem dX15_side_20 : decode cX15_side 20 = .ok (.getfield 121, 3) := by decide +kernel
theorem dX15_side_23 : decode cX15_side 23 = .ok (.ifCond .ne 292, 3) := by decide +kernel
theorem dX15_side_26 : decode cX15_side 26 = .ok (.aload_n 0, 1) := by decide +kernel
theorem dX15_side_27 : decode cX15_side 27 = .ok (.getfield 99, 3) := by decide +kernel
theorem dX15_side_30 : decode cX15_side 30 = .ok (.invokestatic 144, 3) := by decide +kernel
theorem dX15_side_33 : decode cX15_side 33 = .ok (.istore 5, 2) := by decide +kernel
theorem dX15_side_35 : decode cX15_side 35 = .ok (.iload_n 3, 1) := by decide +kernel
theorem dX15_side_36 : decode cX15_side 36 = .ok (.ifCond .eq 52, 3) := by decide +kernel
theorem dX15_side_88 : decode cX15_side 88 = .ok (.iload_n 3, 1) := by decide +kernel
theorem dX15_side_89 : decode cX15_side 89 = .ok (.ifCond .eq 60, 3) := by decide +kernel
theorem dX15_side_149 : decode cX15_side 149 = .ok (.iload_n 3, 1) := by decide +kernel
theorem dX15_side_150 : decode cX15_side 150 = .ok (.ifCond .eq 54, 3) := by decide +kernel
theorem dX15_side_204 : decode cX15_side 204 = .ok (.iload 5, 2) := by decide +kernel
theorem dX15_side_206 : decode cX15_side 206 = .ok (.ifCond .le 51, 3) := by decide +kernel
theorem dX15_side_257 : decode cX15_side 257 = .ok (.aload_n 0, 1) := by decide +kernel
theorem dX15_side_258 : decode cX15_side 258 = .ok (.getfield 99, 3) := by decide +kernel
theorem dX15_side_261 : decode cX15_side 261 = .ok (.bipush 41, 2) := by decide +kernel
theorem dX15_side_263 : decode cX15_side 263 = .ok (.if_icmp .ne 33, 3) := by decide +kernel
theorem dX15_side_296 : decode cX15_side 296 = .ok (.aload_n 0, 1) := by decide +kernel
theorem dX15_side_297 : decode cX15_side 297 = .ok (.iload_n 1, 1) := by decide +kernel
theorem dX15_side_298 : decode cX15_side 298 = .ok (.ifCond .le 7, 3) := by decide +kernel
theorem dX15_side_305 : decode cX15_side 305 = .ok (.iconst 0, 1) := by decide +kernel
theorem dX15_side_306 : decode cX15_side 306 = .ok (.putfield 121, 3) := by decide +kernel
theorem dX15_side_309 : decode cX15_side 309 = .ok (.iconst 0, 1) := by decide +kernel
theorem dX15_side_310 : decode cX15_side 310 = .ok (.istore 4, 2) := by decide +kernel
theorem dX15_side_312 : decode cX15_side 312 = .ok (.goto (-298), 3) := by decide +kernel
theorem dX15_side_301 : decode cX15_side 301 = .ok (.iconst 1, 1) := by decide +kernel
theorem dX15_side_302 : decode cX15_side 302 = .ok (.goto 4, 3) := by decide +kernel
theorem dX15_side_266 : decode cX15_side 266 = .ok (.iload_n 1, 1) := by decide +kernel
theorem dX15_side_267 : decode cX15_side 267 = .ok (.ifCond .le 29, 3) := by decide +kernel
theorem dX15_side_270 : decode cX15_side 270 = .ok (.aload_n 0, 1) := by decide +kernel
theorem dX15_side_271 : decode cX15_side 271 = .ok (.iconst 1, 1) := by decide +kernel
theorem dX15_side_272 : decode cX15_side 272 = .ok (.invokevirtual 151, 3) := by decide +kernel
theorem dX15_side_275 : decode cX15_side 275 = .ok (.aload_n 0, 1) := by decide +kernel
theorem dX15_side_276 : decode cX15_side 276 = .ok (.dup, 1) := by decide +kernel
theorem dX15_side_277 : decode cX15_side 277 = .ok (.getfield 137, 3) := by decide +kernel
theorem dX15_side_280 : decode cX15_side 280 = .ok (.iconst 1, 1) := by decide +kernel
theorem dX15_side_281 : decode cX15_side 281 = .ok (.isub, 1) := by decide +kernel
theorem dX15_side_282 : decode cX15_side 282 = .ok (.putfield 137, 3) := by decide +kernel
theorem dX15_side_285 : decode cX15_side 285 = .ok (.iinc 1 (-1), 3) := by decide +kernel
theorem dX15_side_288 : decode cX15_side 288 = .ok (.aload_n 0, 1) := by decide +kernel
theorem dX15_side_289 : decode cX15_side 289 = .ok (.iconst 1, 1) := by decide +kernel
theorem dX15_side_290 : decode cX15_side 290 = .ok (.invokevirtual 147, 3) := by decide +kernel
theorem dX15_side_293 : decode cX15_side 293 = .ok (.goto 19, 3) := by decide +kernel
theorem dX15_side_209 : decode cX15_side 209 = .ok (.aload_n 0, 1) := by decide +kernel
theorem dX15_side_210 : decode cX15_side 210 = .ok (.iload 5, 2) := by decide +kernel
theorem dX15_side_212 : decode cX15_side 212 = .ok (.iconst 3, 1) := by decide +kernel
theorem dX15_side_213 : decode cX15_side 213 = .ok (.if_icmp .le 7, 3) := by decide +kernel
theorem dX15_side_220 : decode cX15_side 220 = .ok (.iconst 1, 1) := by decide +kernel
theorem dX15_side_221 : decode cX15_side 221 = .ok (.invokevirtual 151, 3) := by decide +kernel
theorem dX15_side_224 : decode cX15_side 224 = .ok (.aload_n 0, 1) := by decide +kernel
theorem dX15_side_225 : decode cX15_side 225 = .ok (.getfield 75, 3) := by decide +kernel
theorem dX15_side_228 : decode cX15_side 228 = .ok (.aload_n 0, 1) := by decide +kernel
theorem dX15_side_229 : decode cX15_side 229 = .ok (.getfield 137, 3) := by decide +kernel
theorem dX15_side_232 : decode cX15_side 232 = .ok (.iload 5, 2) := by decide +kernel
theorem dX15_side_234 : decode cX15_side 234 = .ok (.iastore, 1) := by decide +kernel
theorem dX15_side_235 : decode cX15_side 235 = .ok (.aload_n 0, 1) := by decide +kernel
theorem dX15_side_236 : decode cX15_side 236 = .ok (.dup, 1) := by decide +kernel
theorem dX15_side_237 : decode cX15_side 237 = .ok (.getfield 137, 3) := by decide +kernel
theorem dX15_side_240 : decode cX15_side 240 = .ok (.iconst 1, 1) := by decide +kernel
theorem dX15_side_241 : decode cX15_side 241 = .ok (.iadd, 1) := by decide +kernel
theorem dX15_side_242 : decode cX15_side 242 = .ok (.putfield 137, 3) := by decide +kernel
theorem dX15_side_245 : decode cX15_side 245 = .ok (.iconst 1, 1) := by decide +kernel
theorem dX15_side_246 : decode cX15_side 246 = .ok (.istore_n 3, 1) := by decide +kernel
theorem dX15_side_247 : decode cX15_side 247 = .ok (.iconst 0, 1) := by decide +kernel
theorem dX15_side_248 : decode cX15_side 248 = .ok (.istore_n 2, 1) := by decide +kernel
theorem dX15_side_249 : decode cX15_side 249 = .ok (.aload_n 0, 1) := by decide +kernel
theorem dX15_side_250 : decode cX15_side 250 = .ok (.iconst 1, 1) := by decide +kernel
theorem dX15_side_251 : decode cX15_side 251 = .ok (.invokevirtual 147, 3) := by decide +kernel
theorem dX15_side_254 : decode cX15_side 254 = .ok (.goto 58, 3) := by decide +kernel
theorem dX15_side_216 : decode cX15_side 216 = .ok (.iconst 2, 1) := by decide +kernel
theorem dX15_side_217 : decode cX15_side 217 = .ok (.goto 4, 3) := by decide +kernel
theorem dX15_side_153 : decode cX15_side 153 = .ok (.aload_n 0, 1) := by decide +kernel
theorem dX15_side_154 : decode cX15_side 154 = .ok (.aload_n 0, 1) := by decide +kernel
theorem dX15_side_155 : decode cX15_side 155 = .ok (.getfield 99, 3) := by decide +kernel
theorem dX15_side_158 : decode cX15_side 158 = .ok (.iconst 1, 1) := by decide +kernel
theorem dX15_side_159 : decode cX15_side 159 = .ok (.if_icmp .ne 7, 3) := by decide +kernel
theorem dX15_side_166 : decode cX15_side 166 = .ok (.iconst 1, 1) := by decide +kernel
theorem dX15_side_167 : decode cX15_side 167 = .ok (.aload_n 0, 1) := by decide +kernel
theorem dX15_side_168 : decode cX15_side 168 = .ok (.getfield 102, 3) := by decide +kernel
theorem dX15_side_171 : decode cX15_side 171 = .ok (.invokevirtual 140, 3) := by decide +kernel
theorem dX15_side_174 : decode cX15_side 174 = .ok (.iconst 0, 1) := by decide +kernel
theorem dX15_side_175 : decode cX15_side 175 = .ok (.istore_n 3, 1) := by decide +kernel
theorem dX15_side_176 : decode cX15_side 176 = .ok (.aload_n 0, 1) := by decide +kernel
theorem dX15_side_177 : decode cX15_side 177 = .ok (.aload_n 0, 1) := by decide +kernel
theorem dX15_side_178 : decode cX15_side 178 = .ok (.getfield 99, 3) := by decide +kernel
theorem dX15_side_181 : decode cX15_side 181 = .ok (.iconst 1, 1) := by decide +kernel
theorem dX15_side_182 : decode cX15_side 182 = .ok (.if_icmp .eq 11, 3) := by decide +kernel
theorem dX15_side_193 : decode cX15_side 193 = .ok (.iconst 1, 1) := by decide +kernel
theorem dX15_side_194 : decode cX15_side 194 = .ok (.goto 4, 3) := by decide +kernel
theorem dX15_side_198 : decode cX15_side 198 = .ok (.invokevirtual 147, 3) := by decide +kernel
theorem dX15_side_201 : decode cX15_side 201 = .ok (.goto 111, 3) := by decide +kernel
theorem dX15_side_185 : decode cX15_side 185 = .ok (.aload_n 0, 1) := by decide +kernel
theorem dX15_side_186 : decode cX15_side 186 = .ok (.getfield 99, 3) := by decide +kernel
theorem dX15_side_189 : decode cX15_side 189 = .ok (.iconst 2, 1) := by decide +kernel
theorem dX15_side_190 : decode cX15_side 190 = .ok (.if_icmp .ne 7, 3) := by decide +kernel
theorem dX15_side_197 : decode cX15_side 197 = .ok (.iconst 0, 1) := by decide +kernel
theorem dX15_side_162 : decode cX15_side 162 = .ok (.iconst 0, 1) := by decide +kernel
theorem dX15_side_163 : decode cX15_side 163 = .ok (.goto 4, 3) := by decide +kernel
theorem dX15_side_92 : decode cX15_side 92 = .ok (.aload_n 0, 1) := by decide +kernel
theorem dX15_side_93 : decode cX15_side 93 = .ok (.getfield 99, 3) := by decide +kernel
theorem dX15_side_96 : decode cX15_side 96 = .ok (.bipush 40, 2) := by decide +kernel
theorem dX15_side_98 : decode cX15_side 98 = .ok (.if_icmp .ne 51, 3) := by decide +kernel
theorem dX15_side_101 : decode cX15_side 101 = .ok (.aload_n 0, 1) := by decide +kernel
theorem dX15_side_102 : decode cX15_side 102 = .ok (.iload_n 1, 1) := by decide +kernel
theorem dX15_side_103 : decode cX15_side 103 = .ok (.bipush 8, 2) := by decide +kernel
theorem dX15_side_105 : decode cX15_side 105 = .ok (.if_icmp .ne 7, 3) := by decide +kernel
theorem dX15_side_112 : decode cX15_side 112 = .ok (.iconst 0, 1) := by decide +kernel
theorem dX15_side_113 : decode cX15_side 113 = .ok (.putfield 121, 3) := by decide +kernel
theorem dX15_side_116 : decode cX15_side 116 = .ok (.iinc 1 1, 3) := by decide +kernel
theorem dX15_side_119 : decode cX15_side 119 = .ok (.aload_n 0, 1) := by decide +kernel
theorem dX15_side_120 : decode cX15_side 120 = .ok (.getfield 75, 3) := by decide +kernel
theorem dX15_side_123 : decode cX15_side 123 = .ok (.aload_n 0, 1) := by decide +kernel
theorem dX15_side_124 : decode cX15_side 124 = .ok (.getfield 137, 3) := by decide +kernel
theorem dX15_side_127 : decode cX15_side 127 = .ok (.iconst 1, 1) := by decide +kernel
theorem dX15_side_128 : decode cX15_side 128 = .ok (.iastore, 1) := by decide +kernel
theorem dX15_side_129 : decode cX15_side 129 = .ok (.aload_n 0, 1) := by decide +kernel
theorem dX15_side_130 : decode cX15_side 130 = .ok (.dup, 1) := by decide +kernel
theorem dX15_side_131 : decode cX15_side 131 = .ok (.getfield 137, 3) := by decide +kernel
theorem dX15_side_134 : decode cX15_side 134 = .ok (.iconst 1, 1) := by decide +kernel
theorem dX15_side_135 : decode cX15_side 135 = .ok (.iadd, 1) := by decide +kernel
theorem dX15_side_136 : decode cX15_side 136 = .ok (.putfield 137, 3) := by decide +kernel
theorem dX15_side_139 : decode cX15_side 139 = .ok (.iconst 1, 1) := by decide +kernel
theorem dX15_side_140 : decode cX15_side 140 = .ok (.istore_n 2, 1) := by decide +kernel
theorem dX15_side_141 : decode cX15_side 141 = .ok (.aload_n 0, 1) := by decide +kernel
theorem dX15_side_142 : decode cX15_side 142 = .ok (.iconst 1, 1) := by decide +kernel
theorem dX15_side_143 : decode cX15_side 143 = .ok (.invokevirtual 147, 3) := by decide +kernel
theorem dX15_side_146 : decode cX15_side 146 = .ok (.goto 166, 3) := by decide +kernel
theorem dX15_side_108 : decode cX15_side 108 = .ok (.iconst 1, 1) := by decide +kernel
theorem dX15_side_109 : decode cX15_side 109 = .ok (.goto 4, 3) := by decide +kernel
theorem dX15_side_39 : decode cX15_side 39 = .ok (.iload_n 2, 1) := by decide +kernel
theorem dX15_side_40 : decode cX15_side 40 = .ok (.ifCond .eq 48, 3) := by decide +kernel
theorem dX15_side_43 : decode cX15_side 43 = .ok (.aload_n 0, 1) := by decide +kernel
theorem dX15_side_44 : decode cX15_side 44 = .ok (.getfield 99, 3) := by decide +kernel
theorem dX15_side_47 : decode cX15_side 47 = .ok (.bipush 45, 2) := by decide +kernel
theorem dX15_side_49 : decode cX15_side 49 = .ok (.if_icmp .ne 39, 3) := by decide +kernel
theorem dX15_side_52 : decode cX15_side 52 = .ok (.aload_n 0, 1) := by decide +kernel
theorem dX15_side_53 : decode cX15_side 53 = .ok (.iconst 0, 1) := by decide +kernel
theorem dX15_side_54 : decode cX15_side 54 = .ok (.lconst 0, 1) := by decide +kernel
theorem dX15_side_55 : decode cX15_side 55 = .ok (.invokevirtual 140, 3) := by decide +kernel
theorem dX15_side_58 : decode cX15_side 58 = .ok (.aload_n 0, 1) := by decide +kernel
theorem dX15_side_59 : decode cX15_side 59 = .ok (.getfield 75, 3) := by decide +kernel
theorem dX15_side_62 : decode cX15_side 62 = .ok (.aload_n 0, 1) := by decide +kernel
theorem dX15_side_63 : decode cX15_side 63 = .ok (.getfield 137, 3) := by decide +kernel
theorem dX15_side_66 : decode cX15_side 66 = .ok (.iconst 3, 1) := by decide +kernel
theorem dX15_side_67 : decode cX15_side 67 = .ok (.iastore, 1) := by decide +kernel
theorem dX15_side_68 : decode cX15_side 68 = .ok (.aload_n 0, 1) := by decide +kernel
theorem dX15_side_69 : decode cX15_side 69 = .ok (.dup, 1) := by decide +kernel
theorem dX15_side_70 : decode cX15_side 70 = .ok (.getfield 137, 3) := by decide +kernel
theorem dX15_side_73 : decode cX15_side 73 = .ok (.iconst 1, 1) := by decide +kernel
theorem dX15_side_74 : decode cX15_side 74 = .ok (.iadd, 1) := by decide +kernel
theorem dX15_side_75 : decode cX15_side 75 = .ok (.putfield 137, 3) := by decide +kernel
theorem dX15_side_78 : decode cX15_side 78 = .ok (.iconst 0, 1) := by decide +kernel
theorem dX15_side_79 : decode cX15_side 79 = .ok (.istore_n 2, 1) := by decide +kernel
theorem dX15_side_80 : decode cX15_side 80 = .ok (.aload_n 0, 1) := by decide +kernel
theorem dX15_side_81 : decode cX15_side 81 = .ok (.iconst 1, 1) := by decide +kernel
theorem dX15_side_82 : decode cX15_side 82 = .ok (.invokevirtual 147, 3) := by decide +kernel
theorem dX15_side_85 : decode cX15_side 85 = .ok (.goto 227, 3) := by decide +kernel
theorem dX15_side_315 : decode cX15_side 315 = .ok (.aload_n 0, 1) := by decide +kernel
theorem dX15_side_316 : decode cX15_side 316 = .ok (.iconst 1, 1) := by decide +kernel
theorem dX15_side_317 : decode cX15_side 317 = .ok (.invokevirtual 151, 3) := by decide +kernel
theorem dX15_side_320 : decode cX15_side 320 = .ok (.return_, 1) := by decide +kernel
theorem dX15_relation_0 : decode cX15_relation 0 = .ok (.iload_n 0, 1) := by decide +kernel
theorem dX15_relation_1 : decode cX15_relation 1 = .ok (.bipush 60, 2) := by decide +kernel
theorem dX15_relation_3 : decode cX15_relation 3 = .ok (.if_icmp .ne 7, 3) := by decide +kernel
theorem dX15_relation_10 : decode cX15_relation 10 = .ok (.iload_n 0, 1) := by decide +kernel
theorem dX15_relation_11 : decode cX15_relation 11 = .ok (.sipush 316, 3) := by decide +kernel
theorem dX15_relation_14 : decode cX15_relation 14 = .ok (.if_icmp .ne 7, 3) := by decide +kernel
theorem dX15_relation_21 : decode cX15_relation 21 = .ok (.iload_n 0, 1) := by decide +kernel
theorem dX15_relation_22 : decode cX15_relation 22 = .ok (.bipush 61, 2) := by decide +kernel
theorem dX15_relation_24 : decode cX15_relation 24 = .ok (.if_icmp .ne 7, 3) := by decide +kernel
theorem dX15_relation_31 : decode cX15_relation 31 = .ok (.iload_n 0, 1) := by decide +kernel
theorem dX15_relation_32 : decode cX15_relation 32 = .ok (.sipush 318, 3) := by decide +kernel
theorem dX15_relation_35 : decode cX15_relation 35 = .ok (.if_icmp .ne 7, 3) := by decide +kernel
theorem dX15_relation_42 : decode cX15_relation 42 = .ok (.iload_n 0, 1) := by decide +kernel
theorem dX15_relation_43 : decode cX15_relation 43 = .ok (.bipush 62, 2) := by decide +kernel
theorem dX15_relation_45 : decode cX15_relation 45 = .ok (.if_icmp .ne 7, 3) := by decide +kernel
theorem dX15_relation_52 : decode cX15_relation 52 = .ok (.iconst (-1), 1) := by decide +kernel
theorem dX15_relation_53 : decode cX15_relation 53 = .ok (.ireturn, 1) := by decide +kernel
theorem dX15_relation_48 : decode cX15_relation 48 = .ok (.iconst 4, 1) := by decide +kernel
theorem dX15_relation_49 : decode cX15_relation 49 = .ok (.goto 4, 3) := by decide +kernel
theorem dX15_relation_38 : decode cX15_relation 38 = .ok (.iconst 3, 1) := by decide +kernel
theorem dX15_relation_39 : decode cX15_relation 39 = .ok (.goto 14, 3) := by decide +kernel
theorem dX15_relation_27 : decode cX15_relation 27 = .ok (.iconst 2, 1) := by decide +kernel
theorem dX15_relation_28 : decode cX15_relation 28 = .ok (.goto 25, 3) := by decide +kernel
theorem dX15_relation_17 : decode cX15_relation 17 = .ok (.iconst 1, 1) := by decide +kernel
theorem dX15_relation_18 : decode cX15_relation 18 = .ok (.goto 35, 3) := by decide +kernel
theorem dX15_relation_6 : decode cX15_relation 6 = .ok (.iconst 0, 1) := by decide +kernel
theorem dX15_relation_7 : decode cX15_relation 7 = .ok (.goto 46, 3) := by decide +kernel
theorem dX15_clause_0 : decode cX15_clause 0 = .ok (.bipush 60, 2) := by decide +kernel
theorem dX15_clause_2 : decode cX15_clause 2 = .ok (.aload_n 0, 1) := by decide +kernel
theorem dX15_clause_3 : decode cX15_clause 3 = .ok (.getfield 155, 3) := by decide +kernel
theorem dX15_clause_6 : decode cX15_clause 6 = .ok (.iadd, 1) := by decide +kernel
theorem dX15_clause_7 : decode cX15_clause 7 = .ok (.istore_n 1, 1) := by decide +kernel
theorem dX15_clause_8 : decode cX15_clause 8 = .ok (.aload_n 0, 1) := by decide +kernel
theorem dX15_clause_9 : decode cX15_clause 9 = .ok (.dup, 1) := by decide +kernel
theorem dX15_clause_10 : decode cX15_clause 10 = .ok (.getfield 155, 3) := by decide +kernel
theorem dX15_clause_13 : decode cX15_clause 13 = .ok (.iconst 1, 1) := by decide +kernel
theorem dX15_clause_14 : decode cX15_clause 14 = .ok (.iadd, 1) := by decide +kernel
theorem dX15_clause_15 : decode cX15_clause 15 = .ok (.putfield 155, 3) := by decide +kernel
theorem dX15_clause_18 : decode cX15_clause 18 = .ok (.aload_n 0, 1) := by decide +kernel
theorem dX15_clause_19 : decode cX15_clause 19 = .ok (.getfield 32, 3) := by decide +kernel
theorem dX15_clause_22 : decode cX15_clause 22 = .ok (.iload_n 1, 1) := by decide +kernel
theorem dX15_clause_23 : decode cX15_clause 23 = .ok (.aload_n 0, 1) := by decide +kernel
theorem dX15_clause_24 : decode cX15_clause 24 = .ok (.getfield 134, 3) := by decide +kernel
theorem dX15_clause_27 : decode cX15_clause 27 = .ok (.iastore, 1) := by decide +kernel
theorem dX15_clause_28 : decode cX15_clause 28 = .ok (.aload_n 0, 1) := by decide +kernel
theorem dX15_clause_29 : decode cX15_clause 29 = .ok (.invokevirtual 158, 3) := by decide +kernel
theorem dX15_clause_32 : decode cX15_clause 32 = .ok (.aload_n 0, 1) := by decide +kernel
theorem dX15_clause_33 : decode cX15_clause 33 = .ok (.getfield 35, 3) := by decide +kernel
theorem dX15_clause_36 : decode cX15_clause 36 = .ok (.iload_n 1, 1) := by decide +kernel
theorem dX15_clause_37 : decode cX15_clause 37 = .ok (.aload_n 0, 1) := by decide +kernel
theorem dX15_clause_38 : decode cX15_clause 38 = .ok (.getfield 134, 3) := by decide +kernel
theorem dX15_clause_41 : decode cX15_clause 41 = .ok (.iastore, 1) := by decide +kernel
theorem dX15_clause_42 : decode cX15_clause 42 = .ok (.aload_n 0, 1) := by decide +kernel
theorem dX15_clause_43 : decode cX15_clause 43 = .ok (.getfield 41, 3) := by decide +kernel
theorem dX15_clause_46 : decode cX15_clause 46 = .ok (.iload_n 1, 1) := by decide +kernel
theorem dX15_clause_47 : decode cX15_clause 47 = .ok (.aload_n 0, 1) := by decide +kernel
theorem dX15_clause_48 : decode cX15_clause 48 = .ok (.getfield 99, 3) := by decide +kernel
theorem dX15_clause_51 : decode cX15_clause 51 = .ok (.invokestatic 161, 3) := by decide +kernel
theorem dX15_clause_54 : decode cX15_clause 54 = .ok (.iastore, 1) := by decide +kernel
theorem dX15_clause_55 : decode cX15_clause 55 = .ok (.aload_n 0, 1) := by decide +kernel
theorem dX15_clause_56 : decode cX15_clause 56 = .ok (.aload_n 0, 1) := by decide +kernel
theorem dX15_clause_57 : decode cX15_clause 57 = .ok (.getfield 121, 3) := by decide +kernel
theorem dX15_clause_60 : decode cX15_clause 60 = .ok (.ifCond .ne 17, 3) := by decide +kernel
theorem dX15_clause_77 : decode cX15_clause 77 = .ok (.iconst 0, 1) := by decide +kernel
theorem dX15_clause_78 : decode cX15_clause 78 = .ok (.invokevirtual 147, 3) := by decide +kernel
theorem dX15_clause_81 : decode cX15_clause 81 = .ok (.aload_n 0, 1) := by decide +kernel
theorem dX15_clause_82 : decode cX15_clause 82 = .ok (.getfield 121, 3) := by decide +kernel
theorem dX15_clause_85 : decode cX15_clause 85 = .ok (.ifCond .ne 7, 3) := by decide +kernel
theorem dX15_clause_92 : decode cX15_clause 92 = .ok (.aload_n 0, 1) := by decide +kernel
theorem dX15_clause_93 : decode cX15_clause 93 = .ok (.getfield 38, 3) := by decide +kernel
theorem dX15_clause_96 : decode cX15_clause 96 = .ok (.iload_n 1, 1) := by decide +kernel
theorem dX15_clause_97 : decode cX15_clause 97 = .ok (.aload_n 0, 1) := by decide +kernel
theorem dX15_clause_98 : decode cX15_clause 98 = .ok (.getfield 134, 3) := by decide +kernel
theorem dX15_clause_101 : decode cX15_clause 101 = .ok (.iastore, 1) := by decide +kernel
theorem dX15_clause_102 : decode cX15_clause 102 = .ok (.return_, 1) := by decide +kernel
theorem dX15_clause_88 : decode cX15_clause 88 = .ok (.aload_n 0, 1) := by decide +kernel
theorem dX15_clause_89 : decode cX15_clause 89 = .ok (.invokevirtual 158, 3) := by decide +kernel
theorem dX15_clause_63 : decode cX15_clause 63 = .ok (.aload_n 0, 1) := by decide +kernel
theorem dX15_clause_64 : decode cX15_clause 64 = .ok (.getfield 99, 3) := by decide +kernel
theorem dX15_clause_67 : decode cX15_clause 67 = .ok (.invokestatic 161, 3) := by decide +kernel
theorem dX15_clause_70 : decode cX15_clause 70 = .ok (.ifCond .lt 7, 3) := by decide +kernel
theorem dX15_clause_73 : decode cX15_clause 73 = .ok (.iconst 1, 1) := by decide +kernel
theorem dX15_clause_74 : decode cX15_clause 74 = .ok (.goto 4, 3) := by decide +kernel
theorem dX15_isNew_0 : decode cX15_isNew 0 = .ok (.iconst 1, 1) := by decide +kernel
theorem dX15_isNew_1 : decode cX15_isNew 1 = .ok (.istore_n 3, 1) := by decide +kernel
theorem dX15_isNew_2 : decode cX15_isNew 2 = .ok (.iconst 0, 1) := by decide +kernel
theorem dX15_isNew_3 : decode cX15_isNew 3 = .ok (.istore 4, 2) := by decide +kernel
theorem dX15_isNew_5 : decode cX15_isNew 5 = .ok (.iload 4, 2) := by decide +kernel
theorem dX15_isNew_7 : decode cX15_isNew 7 = .ok (.aload_n 0, 1) := by decide +kernel
theorem dX15_isNew_8 : decode cX15_isNew 8 = .ok (.getfield 164, 3) := by decide +kernel
theorem dX15_isNew_11 : decode cX15_isNew 11 = .ok (.if_icmp .ge 34, 3) := by decide +kernel
theorem dX15_isNew_14 : decode cX15_isNew 14 = .ok (.iload_n 3, 1) := by decide +kernel
theorem dX15_isNew_15 : decode cX15_isNew 15 = .ok (.ifCond .eq 22, 3) := by decide +kernel
theorem dX15_isNew_37 : decode cX15_isNew 37 = .ok (.iconst 0, 1) := by decide +kernel
theorem dX15_isNew_38 : decode cX15_isNew 38 = .ok (.istore_n 3, 1) := by decide +kernel
theorem dX15_isNew_39 : decode cX15_isNew 39 = .ok (.iinc 4 1, 3) := by decide +kernel
theorem dX15_isNew_42 : decode cX15_isNew 42 = .ok (.goto (-37), 3) := by decide +kernel
theorem dX15_isNew_18 : decode cX15_isNew 18 = .ok (.aload_n 0, 1) := by decide +kernel
theorem dX15_isNew_19 : decode cX15_isNew 19 = .ok (.getfield 20, 3) := by decide +kernel
theorem dX15_isNew_22 : decode cX15_isNew 22 = .ok (.bipush 12, 2) := by decide +kernel
theorem dX15_isNew_24 : decode cX15_isNew 24 = .ok (.iload 4, 2) := by decide +kernel
theorem dX15_isNew_26 : decode cX15_isNew 26 = .ok (.iadd, 1) := by decide +kernel
theorem dX15_isNew_27 : decode cX15_isNew 27 = .ok (.laload, 1) := by decide +kernel
theorem dX15_isNew_28 : decode cX15_isNew 28 = .ok (.lload_n 1, 1) := by decide +kernel
theorem dX15_isNew_29 : decode cX15_isNew 29 = .ok (.lcmp, 1) := by decide +kernel
theorem dX15_isNew_30 : decode cX15_isNew 30 = .ok (.ifCond .eq 7, 3) := by decide +kernel
theorem dX15_isNew_33 : decode cX15_isNew 33 = .ok (.iconst 1, 1) := by decide +kernel
theorem dX15_isNew_34 : decode cX15_isNew 34 = .ok (.goto 4, 3) := by decide +kernel
theorem dX15_isNew_45 : decode cX15_isNew 45 = .ok (.iload_n 3, 1) := by decide +kernel
theorem dX15_isNew_46 : decode cX15_isNew 46 = .ok (.ireturn, 1) := by decide +kernel
theorem dX15_rule_0 : decode cX15_rule 0 = .ok (.aload_n 0, 1) := by decide +kernel
theorem dX15_rule_1 : decode cX15_rule 1 = .ok (.aload_n 0, 1) := by decide +kernel
theorem dX15_rule_2 : decode cX15_rule 2 = .ok (.getfield 121, 3) := by decide +kernel
theorem dX15_rule_5 : decode cX15_rule 5 = .ok (.ifCond .ne 31, 3) := by decide +kernel
theorem dX15_rule_36 : decode cX15_rule 36 = .ok (.iconst 1, 1) := by decide +kernel
theorem dX15_rule_37 : decode cX15_rule 37 = .ok (.goto 4, 3) := by decide +kernel
theorem dX15_rule_41 : decode cX15_rule 41 = .ok (.putfield 121, 3) := by decide +kernel
theorem dX15_rule_44 : decode cX15_rule 44 = .ok (.aload_n 0, 1) := by decide +kernel
theorem dX15_rule_45 : decode cX15_rule 45 = .ok (.getfield 121, 3) := by decide +kernel
theorem dX15_rule_48 : decode cX15_rule 48 = .ok (.ifCond .eq 4, 3) := by decide +kernel
theorem dX15_rule_52 : decode cX15_rule 52 = .ok (.bipush 12, 2) := by decide +kernel
theorem dX15_rule_54 : decode cX15_rule 54 = .ok (.aload_n 0, 1) := by decide +kernel
theorem dX15_rule_55 : decode cX15_rule 55 = .ok (.getfield 164, 3) := by decide +kernel
theorem dX15_rule_58 : decode cX15_rule 58 = .ok (.iadd, 1) := by decide +kernel
theorem dX15_rule_59 : decode cX15_rule 59 = .ok (.istore_n 1, 1) := by decide +kernel
theorem dX15_rule_60 : decode cX15_rule 60 = .ok (.aload_n 0, 1) := by decide +kernel
theorem dX15_rule_61 : decode cX15_rule 61 = .ok (.dup, 1) := by decide +kernel
theorem dX15_rule_62 : decode cX15_rule 62 = .ok (.getfield 164, 3) := by decide +kernel
theorem dX15_rule_65 : decode cX15_rule 65 = .ok (.iconst 1, 1) := by decide +kernel
theorem dX15_rule_66 : decode cX15_rule 66 = .ok (.iadd, 1) := by decide +kernel
theorem dX15_rule_67 : decode cX15_rule 67 = .ok (.putfield 164, 3) := by decide +kernel
theorem dX15_rule_70 : decode cX15_rule 70 = .ok (.aload_n 0, 1) := by decide +kernel
theorem dX15_rule_71 : decode cX15_rule 71 = .ok (.getfield 20, 3) := by decide +kernel
theorem dX15_rule_74 : decode cX15_rule 74 = .ok (.iload_n 1, 1) := by decide +kernel
theorem dX15_rule_75 : decode cX15_rule 75 = .ok (.aload_n 0, 1) := by decide +kernel
theorem dX15_rule_76 : decode cX15_rule 76 = .ok (.getfield 102, 3) := by decide +kernel
theorem dX15_rule_79 : decode cX15_rule 79 = .ok (.lastore, 1) := by decide +kernel
theorem dX15_rule_80 : decode cX15_rule 80 = .ok (.aload_n 0, 1) := by decide +kernel
theorem dX15_rule_81 : decode cX15_rule 81 = .ok (.getfield 23, 3) := by decide +kernel
theorem dX15_rule_84 : decode cX15_rule 84 = .ok (.iload_n 1, 1) := by decide +kernel
theorem dX15_rule_85 : decode cX15_rule 85 = .ok (.aload_n 0, 1) := by decide +kernel
theorem dX15_rule_86 : decode cX15_rule 86 = .ok (.getfield 155, 3) := by decide +kernel
theorem dX15_rule_89 : decode cX15_rule 89 = .ok (.iastore, 1) := by decide +kernel
theorem dX15_rule_90 : decode cX15_rule 90 = .ok (.aload_n 0, 1) := by decide +kernel
theorem dX15_rule_91 : decode cX15_rule 91 = .ok (.getfield 26, 3) := by decide +kernel
theorem dX15_rule_94 : decode cX15_rule 94 = .ok (.iload_n 1, 1) := by decide +kernel
theorem dX15_rule_95 : decode cX15_rule 95 = .ok (.iconst 0, 1) := by decide +kernel
theorem dX15_rule_96 : decode cX15_rule 96 = .ok (.iastore, 1) := by decide +kernel
theorem dX15_rule_97 : decode cX15_rule 97 = .ok (.aload_n 0, 1) := by decide +kernel
theorem dX15_rule_98 : decode cX15_rule 98 = .ok (.getfield 29, 3) := by decide +kernel
theorem dX15_rule_101 : decode cX15_rule 101 = .ok (.iload_n 1, 1) := by decide +kernel
theorem dX15_rule_102 : decode cX15_rule 102 = .ok (.iconst 0, 1) := by decide +kernel
theorem dX15_rule_103 : decode cX15_rule 103 = .ok (.iastore, 1) := by decide +kernel
theorem dX15_rule_104 : decode cX15_rule 104 = .ok (.aload_n 0, 1) := by decide +kernel
theorem dX15_rule_105 : decode cX15_rule 105 = .ok (.iconst 1, 1) := by decide +kernel
theorem dX15_rule_106 : decode cX15_rule 106 = .ok (.invokevirtual 147, 3) := by decide +kernel
theorem dX15_rule_109 : decode cX15_rule 109 = .ok (.aload_n 0, 1) := by decide +kernel
theorem dX15_rule_110 : decode cX15_rule 110 = .ok (.aload_n 0, 1) := by decide +kernel
theorem dX15_rule_111 : decode cX15_rule 111 = .ok (.getfield 99, 3) := by decide +kernel
theorem dX15_rule_114 : decode cX15_rule 114 = .ok (.bipush 58, 2) := by decide +kernel
theorem dX15_rule_116 : decode cX15_rule 116 = .ok (.if_icmp .ne 7, 3) := by decide +kernel
theorem dX15_rule_123 : decode cX15_rule 123 = .ok (.iconst 0, 1) := by decide +kernel
theorem dX15_rule_124 : decode cX15_rule 124 = .ok (.invokevirtual 147, 3) := by decide +kernel
theorem dX15_rule_127 : decode cX15_rule 127 = .ok (.aload_n 0, 1) := by decide +kernel
theorem dX15_rule_128 : decode cX15_rule 128 = .ok (.getfield 121, 3) := by decide +kernel
theorem dX15_rule_131 : decode cX15_rule 131 = .ok (.ifCond .ne 7, 3) := by decide +kernel
theorem dX15_rule_138 : decode cX15_rule 138 = .ok (.aload_n 0, 1) := by decide +kernel
theorem dX15_rule_139 : decode cX15_rule 139 = .ok (.getfield 121, 3) := by decide +kernel
theorem dX15_rule_142 : decode cX15_rule 142 = .ok (.ifCond .ne 41, 3) := by decide +kernel
theorem dX15_rule_145 : decode cX15_rule 145 = .ok (.aload_n 0, 1) := by decide +kernel
theorem dX15_rule_146 : decode cX15_rule 146 = .ok (.getfield 99, 3) := by decide +kernel
theorem dX15_rule_149 : decode cX15_rule 149 = .ok (.bipush 33, 2) := by decide +kernel
theorem dX15_rule_151 : decode cX15_rule 151 = .ok (.if_icmp .ne 32, 3) := by decide +kernel
theorem dX15_rule_154 : decode cX15_rule 154 = .ok (.aload_n 0, 1) := by decide +kernel
theorem dX15_rule_155 : decode cX15_rule 155 = .ok (.iconst 1, 1) := by decide +kernel
theorem dX15_rule_156 : decode cX15_rule 156 = .ok (.invokevirtual 147, 3) := by decide +kernel
theorem dX15_rule_159 : decode cX15_rule 159 = .ok (.aload_n 0, 1) := by decide +kernel
theorem dX15_rule_160 : decode cX15_rule 160 = .ok (.getfield 121, 3) := by decide +kernel
theorem dX15_rule_163 : decode cX15_rule 163 = .ok (.ifCond .ne (-25), 3) := by decide +kernel
theorem dX15_rule_166 : decode cX15_rule 166 = .ok (.aload_n 0, 1) := by decide +kernel
theorem dX15_rule_167 : decode cX15_rule 167 = .ok (.getfield 26, 3) := by decide +kernel
theorem dX15_rule_170 : decode cX15_rule 170 = .ok (.iload_n 1, 1) := by decide +kernel
theorem dX15_rule_171 : decode cX15_rule 171 = .ok (.dup2, 1) := by decide +kernel
theorem dX15_rule_172 : decode cX15_rule 172 = .ok (.iaload, 1) := by decide +kernel
theorem dX15_rule_173 : decode cX15_rule 173 = .ok (.iconst 1, 1) := by decide +kernel
theorem dX15_rule_174 : decode cX15_rule 174 = .ok (.iadd, 1) := by decide +kernel
theorem dX15_rule_175 : decode cX15_rule 175 = .ok (.iastore, 1) := by decide +kernel
theorem dX15_rule_176 : decode cX15_rule 176 = .ok (.aload_n 0, 1) := by decide +kernel
theorem dX15_rule_177 : decode cX15_rule 177 = .ok (.invokevirtual 171, 3) := by decide +kernel
theorem dX15_rule_180 : decode cX15_rule 180 = .ok (.goto (-42), 3) := by decide +kernel
theorem dX15_rule_183 : decode cX15_rule 183 = .ok (.aload_n 0, 1) := by decide +kernel
theorem dX15_rule_184 : decode cX15_rule 184 = .ok (.getfield 121, 3) := by decide +kernel
theorem dX15_rule_187 : decode cX15_rule 187 = .ok (.ifCond .ne 45, 3) := by decide +kernel
theorem dX15_rule_232 : decode cX15_rule 232 = .ok (.return_, 1) := by decide +kernel
theorem dX15_rule_190 : decode cX15_rule 190 = .ok (.aload_n 0, 1) := by decide +kernel
theorem dX15_rule_191 : decode cX15_rule 191 = .ok (.getfield 99, 3) := by decide +kernel
theorem dX15_rule_194 : decode cX15_rule 194 = .ok (.bipush 64, 2) := by decide +kernel
theorem dX15_rule_196 : decode cX15_rule 196 = .ok (.if_icmp .ne 36, 3) := by decide +kernel
theorem dX15_rule_199 : decode cX15_rule 199 = .ok (.aload_n 0, 1) := by decide +kernel
theorem dX15_rule_200 : decode cX15_rule 200 = .ok (.iconst 1, 1) := by decide +kernel
theorem dX15_rule_201 : decode cX15_rule 201 = .ok (.invokevirtual 147, 3) := by decide +kernel
theorem dX15_rule_204 : decode cX15_rule 204 = .ok (.aload_n 0, 1) := by decide +kernel
theorem dX15_rule_205 : decode cX15_rule 205 = .ok (.getfield 29, 3) := by decide +kernel
theorem dX15_rule_208 : decode cX15_rule 208 = .ok (.iload_n 1, 1) := by decide +kernel
theorem dX15_rule_209 : decode cX15_rule 209 = .ok (.aload_n 0, 1) := by decide +kernel
theorem dX15_rule_210 : decode cX15_rule 210 = .ok (.getfield 102, 3) := by decide +kernel
theorem dX15_rule_213 : decode cX15_rule 213 = .ok (.l2i, 1) := by decide +kernel
theorem dX15_rule_214 : decode cX15_rule 214 = .ok (.iastore, 1) := by decide +kernel
theorem dX15_rule_215 : decode cX15_rule 215 = .ok (.aload_n 0, 1) := by decide +kernel
theorem dX15_rule_216 : decode cX15_rule 216 = .ok (.aload_n 0, 1) := by decide +kernel
theorem dX15_rule_217 : decode cX15_rule 217 = .ok (.getfield 99, 3) := by decide +kernel
theorem dX15_rule_220 : decode cX15_rule 220 = .ok (.iconst 1, 1) := by decide +kernel
theorem dX15_rule_221 : decode cX15_rule 221 = .ok (.if_icmp .ne 7, 3) := by decide +kernel
theorem dX15_rule_228 : decode cX15_rule 228 = .ok (.iconst 0, 1) := by decide +kernel
theorem dX15_rule_229 : decode cX15_rule 229 = .ok (.invokevirtual 147, 3) := by decide +kernel
theorem dX15_rule_224 : decode cX15_rule 224 = .ok (.iconst 1, 1) := by decide +kernel
theorem dX15_rule_225 : decode cX15_rule 225 = .ok (.goto 4, 3) := by decide +kernel
theorem dX15_rule_134 : decode cX15_rule 134 = .ok (.aload_n 0, 1) := by decide +kernel
theorem dX15_rule_135 : decode cX15_rule 135 = .ok (.invokevirtual 171, 3) := by decide +kernel
theorem dX15_rule_119 : decode cX15_rule 119 = .ok (.iconst 1, 1) := by decide +kernel
theorem dX15_rule_120 : decode cX15_rule 120 = .ok (.goto 4, 3) := by decide +kernel
theorem dX15_rule_51 : decode cX15_rule 51 = .ok (.return_, 1) := by decide +kernel
theorem dX15_rule_8 : decode cX15_rule 8 = .ok (.aload_n 0, 1) := by decide +kernel
theorem dX15_rule_9 : decode cX15_rule 9 = .ok (.getfield 99, 3) := by decide +kernel
theorem dX15_rule_12 : decode cX15_rule 12 = .ok (.iconst 2, 1) := by decide +kernel
theorem dX15_rule_13 : decode cX15_rule 13 = .ok (.if_icmp .ne 23, 3) := by decide +kernel
theorem dX15_rule_16 : decode cX15_rule 16 = .ok (.aload_n 0, 1) := by decide +kernel
theorem dX15_rule_17 : decode cX15_rule 17 = .ok (.getfield 164, 3) := by decide +kernel
theorem dX15_rule_20 : decode cX15_rule 20 = .ok (.bipush 12, 2) := by decide +kernel
theorem dX15_rule_22 : decode cX15_rule 22 = .ok (.if_icmp .eq 14, 3) := by decide +kernel
theorem dX15_rule_25 : decode cX15_rule 25 = .ok (.aload_n 0, 1) := by decide +kernel
theorem dX15_rule_26 : decode cX15_rule 26 = .ok (.aload_n 0, 1) := by decide +kernel
theorem dX15_rule_27 : decode cX15_rule 27 = .ok (.getfield 102, 3) := by decide +kernel
theorem dX15_rule_30 : decode cX15_rule 30 = .ok (.invokevirtual 167, 3) := by decide +kernel
theorem dX15_rule_33 : decode cX15_rule 33 = .ok (.ifCond .ne 7, 3) := by decide +kernel
theorem dX15_rule_40 : decode cX15_rule 40 = .ok (.iconst 0, 1) := by decide +kernel
theorem dX15_adopt_0 : decode cX15_adopt 0 = .ok (.aload_n 0, 1) := by decide +kernel
theorem dX15_adopt_1 : decode cX15_adopt 1 = .ok (.aload_n 0, 1) := by decide +kernel
theorem dX15_adopt_2 : decode cX15_adopt 2 = .ok (.getfield 164, 3) := by decide +kernel
theorem dX15_adopt_5 : decode cX15_adopt 5 = .ok (.putfield 174, 3) := by decide +kernel
theorem dX15_adopt_8 : decode cX15_adopt 8 = .ok (.aload_n 0, 1) := by decide +kernel
theorem dX15_adopt_9 : decode cX15_adopt 9 = .ok (.aload_n 0, 1) := by decide +kernel
theorem dX15_adopt_10 : decode cX15_adopt 10 = .ok (.getfield 155, 3) := by decide +kernel
theorem dX15_adopt_13 : decode cX15_adopt 13 = .ok (.putfield 177, 3) := by decide +kernel
theorem dX15_adopt_16 : decode cX15_adopt 16 = .ok (.aload_n 0, 1) := by decide +kernel
theorem dX15_adopt_17 : decode cX15_adopt 17 = .ok (.aload_n 0, 1) := by decide +kernel
theorem dX15_adopt_18 : decode cX15_adopt 18 = .ok (.getfield 134, 3) := by decide +kernel
theorem dX15_adopt_21 : decode cX15_adopt 21 = .ok (.putfield 180, 3) := by decide +kernel
theorem dX15_adopt_24 : decode cX15_adopt 24 = .ok (.iconst 0, 1) := by decide +kernel
theorem dX15_adopt_25 : decode cX15_adopt 25 = .ok (.istore_n 1, 1) := by decide +kernel
theorem dX15_adopt_26 : decode cX15_adopt 26 = .ok (.iload_n 1, 1) := by decide +kernel
theorem dX15_adopt_27 : decode cX15_adopt 27 = .ok (.aload_n 0, 1) := by decide +kernel
theorem dX15_adopt_28 : decode cX15_adopt 28 = .ok (.getfield 174, 3) := by decide +kernel
theorem dX15_adopt_31 : decode cX15_adopt 31 = .ok (.if_icmp .ge 69, 3) := by decide +kernel
theorem dX15_adopt_34 : decode cX15_adopt 34 = .ok (.aload_n 0, 1) := by decide +kernel
theorem dX15_adopt_35 : decode cX15_adopt 35 = .ok (.getfield 20, 3) := by decide +kernel
theorem dX15_adopt_38 : decode cX15_adopt 38 = .ok (.iload_n 1, 1) := by decide +kernel
theorem dX15_adopt_39 : decode cX15_adopt 39 = .ok (.aload_n 0, 1) := by decide +kernel
theorem dX15_adopt_40 : decode cX15_adopt 40 = .ok (.getfield 20, 3) := by decide +kernel
theorem dX15_adopt_43 : decode cX15_adopt 43 = .ok (.bipush 12, 2) := by decide +kernel
theorem dX15_adopt_45 : decode cX15_adopt 45 = .ok (.iload_n 1, 1) := by decide +kernel
theorem dX15_adopt_46 : decode cX15_adopt 46 = .ok (.iadd, 1) := by decide +kernel
theorem dX15_adopt_47 : decode cX15_adopt 47 = .ok (.laload, 1) := by decide +kernel
theorem dX15_adopt_48 : decode cX15_adopt 48 = .ok (.lastore, 1) := by decide +kernel
theorem dX15_adopt_49 : decode cX15_adopt 49 = .ok (.aload_n 0, 1) := by decide +kernel
theorem dX15_adopt_50 : decode cX15_adopt 50 = .ok (.getfield 23, 3) := by decide +kernel
theorem dX15_adopt_53 : decode cX15_adopt 53 = .ok (.iload_n 1, 1) := by decide +kernel
theorem dX15_adopt_54 : decode cX15_adopt 54 = .ok (.aload_n 0, 1) := by decide +kernel
theorem dX15_adopt_55 : decode cX15_adopt 55 = .ok (.getfield 23, 3) := by decide +kernel
theorem dX15_adopt_58 : decode cX15_adopt 58 = .ok (.bipush 12, 2) := by decide +kernel
theorem dX15_adopt_60 : decode cX15_adopt 60 = .ok (.iload_n 1, 1) := by decide +kernel
theorem dX15_adopt_61 : decode cX15_adopt 61 = .ok (.iadd, 1) := by decide +kernel
theorem dX15_adopt_62 : decode cX15_adopt 62 = .ok (.iaload, 1) := by decide +kernel
theorem dX15_adopt_63 : decode cX15_adopt 63 = .ok (.iastore, 1) := by decide +kernel
theorem dX15_adopt_64 : decode cX15_adopt 64 = .ok (.aload_n 0, 1) := by decide +kernel
theorem dX15_adopt_65 : decode cX15_adopt 65 = .ok (.getfield 26, 3) := by decide +kernel
theorem dX15_adopt_68 : decode cX15_adopt 68 = .ok (.iload_n 1, 1) := by decide +kernel
theorem dX15_adopt_69 : decode cX15_adopt 69 = .ok (.aload_n 0, 1) := by decide +kernel
theorem dX15_adopt_70 : decode cX15_adopt 70 = .ok (.getfield 26, 3) := by decide +kernel
theorem dX15_adopt_73 : decode cX15_adopt 73 = .ok (.bipush 12, 2) := by decide +kernel
theorem dX15_adopt_75 : decode cX15_adopt 75 = .ok (.iload_n 1, 1) := by decide +kernel
theorem dX15_adopt_76 : decode cX15_adopt 76 = .ok (.iadd, 1) := by decide +kernel
theorem dX15_adopt_77 : decode cX15_adopt 77 = .ok (.iaload, 1) := by decide +kernel
theorem dX15_adopt_78 : decode cX15_adopt 78 = .ok (.iastore, 1) := by decide +kernel
theorem dX15_adopt_79 : decode cX15_adopt 79 = .ok (.aload_n 0, 1) := by decide +kernel
theorem dX15_adopt_80 : decode cX15_adopt 80 = .ok (.getfield 29, 3) := by decide +kernel
theorem dX15_adopt_83 : decode cX15_adopt 83 = .ok (.iload_n 1, 1) := by decide +kernel
theorem dX15_adopt_84 : decode cX15_adopt 84 = .ok (.aload_n 0, 1) := by decide +kernel
theorem dX15_adopt_85 : decode cX15_adopt 85 = .ok (.getfield 29, 3) := by decide +kernel
theorem dX15_adopt_88 : decode cX15_adopt 88 = .ok (.bipush 12, 2) := by decide +kernel
theorem dX15_adopt_90 : decode cX15_adopt 90 = .ok (.iload_n 1, 1) := by decide +kernel
theorem dX15_adopt_91 : decode cX15_adopt 91 = .ok (.iadd, 1) := by decide +kernel
theorem dX15_adopt_92 : decode cX15_adopt 92 = .ok (.iaload, 1) := by decide +kernel
theorem dX15_adopt_93 : decode cX15_adopt 93 = .ok (.iastore, 1) := by decide +kernel
theorem dX15_adopt_94 : decode cX15_adopt 94 = .ok (.iinc 1 1, 3) := by decide +kernel
theorem dX15_adopt_97 : decode cX15_adopt 97 = .ok (.goto (-71), 3) := by decide +kernel
theorem dX15_adopt_100 : decode cX15_adopt 100 = .ok (.iconst 0, 1) := by decide +kernel
theorem dX15_adopt_101 : decode cX15_adopt 101 = .ok (.istore_n 1, 1) := by decide +kernel
theorem dX15_adopt_102 : decode cX15_adopt 102 = .ok (.iload_n 1, 1) := by decide +kernel
theorem dX15_adopt_103 : decode cX15_adopt 103 = .ok (.aload_n 0, 1) := by decide +kernel
theorem dX15_adopt_104 : decode cX15_adopt 104 = .ok (.getfield 177, 3) := by decide +kernel
theorem dX15_adopt_107 : decode cX15_adopt 107 = .ok (.if_icmp .ge 69, 3) := by decide +kernel
theorem dX15_adopt_110 : decode cX15_adopt 110 = .ok (.aload_n 0, 1) := by decide +kernel
theorem dX15_adopt_111 : decode cX15_adopt 111 = .ok (.getfield 32, 3) := by decide +kernel
theorem dX15_adopt_114 : decode cX15_adopt 114 = .ok (.iload_n 1, 1) := by decide +kernel
theorem dX15_adopt_115 : decode cX15_adopt 115 = .ok (.aload_n 0, 1) := by decide +kernel
theorem dX15_adopt_116 : decode cX15_adopt 116 = .ok (.getfield 32, 3) := by decide +kernel
theorem dX15_adopt_119 : decode cX15_adopt 119 = .ok (.bipush 60, 2) := by decide +kernel
theorem dX15_adopt_121 : decode cX15_adopt 121 = .ok (.iload_n 1, 1) := by decide +kernel
theorem dX15_adopt_122 : decode cX15_adopt 122 = .ok (.iadd, 1) := by decide +kernel
theorem dX15_adopt_123 : decode cX15_adopt 123 = .ok (.iaload, 1) := by decide +kernel
theorem dX15_adopt_124 : decode cX15_adopt 124 = .ok (.iastore, 1) := by decide +kernel
theorem dX15_adopt_125 : decode cX15_adopt 125 = .ok (.aload_n 0, 1) := by decide +kernel
theorem dX15_adopt_126 : decode cX15_adopt 126 = .ok (.getfield 35, 3) := by decide +kernel
theorem dX15_adopt_129 : decode cX15_adopt 129 = .ok (.iload_n 1, 1) := by decide +kernel
theorem dX15_adopt_130 : decode cX15_adopt 130 = .ok (.aload_n 0, 1) := by decide +kernel
theorem dX15_adopt_131 : decode cX15_adopt 131 = .ok (.getfield 35, 3) := by decide +kernel
theorem dX15_adopt_134 : decode cX15_adopt 134 = .ok (.bipush 60, 2) := by decide +kernel
theorem dX15_adopt_136 : decode cX15_adopt 136 = .ok (.iload_n 1, 1) := by decide +kernel
theorem dX15_adopt_137 : decode cX15_adopt 137 = .ok (.iadd, 1) := by decide +kernel
theorem dX15_adopt_138 : decode cX15_adopt 138 = .ok (.iaload, 1) := by decide +kernel
theorem dX15_adopt_139 : decode cX15_adopt 139 = .ok (.iastore, 1) := by decide +kernel
theorem dX15_adopt_140 : decode cX15_adopt 140 = .ok (.aload_n 0, 1) := by decide +kernel
theorem dX15_adopt_141 : decode cX15_adopt 141 = .ok (.getfield 38, 3) := by decide +kernel
theorem dX15_adopt_144 : decode cX15_adopt 144 = .ok (.iload_n 1, 1) := by decide +kernel
theorem dX15_adopt_145 : decode cX15_adopt 145 = .ok (.aload_n 0, 1) := by decide +kernel
theorem dX15_adopt_146 : decode cX15_adopt 146 = .ok (.getfield 38, 3) := by decide +kernel
theorem dX15_adopt_149 : decode cX15_adopt 149 = .ok (.bipush 60, 2) := by decide +kernel
theorem dX15_adopt_151 : decode cX15_adopt 151 = .ok (.iload_n 1, 1) := by decide +kernel
theorem dX15_adopt_152 : decode cX15_adopt 152 = .ok (.iadd, 1) := by decide +kernel
theorem dX15_adopt_153 : decode cX15_adopt 153 = .ok (.iaload, 1) := by decide +kernel
theorem dX15_adopt_154 : decode cX15_adopt 154 = .ok (.iastore, 1) := by decide +kernel
theorem dX15_adopt_155 : decode cX15_adopt 155 = .ok (.aload_n 0, 1) := by decide +kernel
theorem dX15_adopt_156 : decode cX15_adopt 156 = .ok (.getfield 41, 3) := by decide +kernel
theorem dX15_adopt_159 : decode cX15_adopt 159 = .ok (.iload_n 1, 1) := by decide +kernel
theorem dX15_adopt_160 : decode cX15_adopt 160 = .ok (.aload_n 0, 1) := by decide +kernel
theorem dX15_adopt_161 : decode cX15_adopt 161 = .ok (.getfield 41, 3) := by decide +kernel
theorem dX15_adopt_164 : decode cX15_adopt 164 = .ok (.bipush 60, 2) := by decide +kernel
theorem dX15_adopt_166 : decode cX15_adopt 166 = .ok (.iload_n 1, 1) := by decide +kernel
theorem dX15_adopt_167 : decode cX15_adopt 167 = .ok (.iadd, 1) := by decide +kernel
theorem dX15_adopt_168 : decode cX15_adopt 168 = .ok (.iaload, 1) := by decide +kernel
theorem dX15_adopt_169 : decode cX15_adopt 169 = .ok (.iastore, 1) := by decide +kernel
theorem dX15_adopt_170 : decode cX15_adopt 170 = .ok (.iinc 1 1, 3) := by decide +kernel
theorem dX15_adopt_173 : decode cX15_adopt 173 = .ok (.goto (-71), 3) := by decide +kernel
theorem dX15_adopt_176 : decode cX15_adopt 176 = .ok (.iconst 0, 1) := by decide +kernel
theorem dX15_adopt_177 : decode cX15_adopt 177 = .ok (.istore_n 1, 1) := by decide +kernel
theorem dX15_adopt_178 : decode cX15_adopt 178 = .ok (.iload_n 1, 1) := by decide +kernel
theorem dX15_adopt_179 : decode cX15_adopt 179 = .ok (.aload_n 0, 1) := by decide +kernel
theorem dX15_adopt_180 : decode cX15_adopt 180 = .ok (.getfield 180, 3) := by decide +kernel
theorem dX15_adopt_183 : decode cX15_adopt 183 = .ok (.if_icmp .ge 41, 3) := by decide +kernel
theorem dX15_adopt_186 : decode cX15_adopt 186 = .ok (.aload_n 0, 1) := by decide +kernel
theorem dX15_adopt_187 : decode cX15_adopt 187 = .ok (.getfield 44, 3) := by decide +kernel
theorem dX15_adopt_190 : decode cX15_adopt 190 = .ok (.iload_n 1, 1) := by decide +kernel
theorem dX15_adopt_191 : decode cX15_adopt 191 = .ok (.aload_n 0, 1) := by decide +kernel
theorem dX15_adopt_192 : decode cX15_adopt 192 = .ok (.getfield 44, 3) := by decide +kernel
theorem dX15_adopt_195 : decode cX15_adopt 195 = .ok (.sipush 400, 3) := by decide +kernel
theorem dX15_adopt_198 : decode cX15_adopt 198 = .ok (.iload_n 1, 1) := by decide +kernel
theorem dX15_adopt_199 : decode cX15_adopt 199 = .ok (.iadd, 1) := by decide +kernel
theorem dX15_adopt_200 : decode cX15_adopt 200 = .ok (.iaload, 1) := by decide +kernel
theorem dX15_adopt_201 : decode cX15_adopt 201 = .ok (.iastore, 1) := by decide +kernel
theorem dX15_adopt_202 : decode cX15_adopt 202 = .ok (.aload_n 0, 1) := by decide +kernel
theorem dX15_adopt_203 : decode cX15_adopt 203 = .ok (.getfield 47, 3) := by decide +kernel
theorem dX15_adopt_206 : decode cX15_adopt 206 = .ok (.iload_n 1, 1) := by decide +kernel
theorem dX15_adopt_207 : decode cX15_adopt 207 = .ok (.aload_n 0, 1) := by decide +kernel
theorem dX15_adopt_208 : decode cX15_adopt 208 = .ok (.getfield 47, 3) := by decide +kernel
theorem dX15_adopt_211 : decode cX15_adopt 211 = .ok (.sipush 400, 3) := by decide +kernel
theorem dX15_adopt_214 : decode cX15_adopt 214 = .ok (.iload_n 1, 1) := by decide +kernel
theorem dX15_adopt_215 : decode cX15_adopt 215 = .ok (.iadd, 1) := by decide +kernel
theorem dX15_adopt_216 : decode cX15_adopt 216 = .ok (.laload, 1) := by decide +kernel
theorem dX15_adopt_217 : decode cX15_adopt 217 = .ok (.lastore, 1) := by decide +kernel
theorem dX15_adopt_218 : decode cX15_adopt 218 = .ok (.iinc 1 1, 3) := by decide +kernel
theorem dX15_adopt_221 : decode cX15_adopt 221 = .ok (.goto (-43), 3) := by decide +kernel
theorem dX15_adopt_224 : decode cX15_adopt 224 = .ok (.return_, 1) := by decide +kernel
theorem dX15_read_0 : decode cX15_read 0 = .ok (.aload_n 0, 1) := by decide +kernel
theorem dX15_read_1 : decode cX15_read 1 = .ok (.iconst 0, 1) := by decide +kernel
theorem dX15_read_2 : decode cX15_read 2 = .ok (.putfield 93, 3) := by decide +kernel
theorem dX15_read_5 : decode cX15_read 5 = .ok (.aload_n 0, 1) := by decide +kernel
theorem dX15_read_6 : decode cX15_read 6 = .ok (.iconst 0, 1) := by decide +kernel
theorem dX15_read_7 : decode cX15_read 7 = .ok (.putfield 106, 3) := by decide +kernel
theorem dX15_read_10 : decode cX15_read 10 = .ok (.aload_n 0, 1) := by decide +kernel
theorem dX15_read_11 : decode cX15_read 11 = .ok (.iconst 0, 1) := by decide +kernel
theorem dX15_read_12 : decode cX15_read 12 = .ok (.putfield 121, 3) := by decide +kernel
theorem dX15_read_15 : decode cX15_read 15 = .ok (.aload_n 0, 1) := by decide +kernel
theorem dX15_read_16 : decode cX15_read 16 = .ok (.iconst 0, 1) := by decide +kernel
theorem dX15_read_17 : decode cX15_read 17 = .ok (.putfield 164, 3) := by decide +kernel
theorem dX15_read_20 : decode cX15_read 20 = .ok (.aload_n 0, 1) := by decide +kernel
theorem dX15_read_21 : decode cX15_read 21 = .ok (.iconst 0, 1) := by decide +kernel
theorem dX15_read_22 : decode cX15_read 22 = .ok (.putfield 155, 3) := by decide +kernel
theorem dX15_read_25 : decode cX15_read 25 = .ok (.aload_n 0, 1) := by decide +kernel
theorem dX15_read_26 : decode cX15_read 26 = .ok (.iconst 0, 1) := by decide +kernel
theorem dX15_read_27 : decode cX15_read 27 = .ok (.putfield 134, 3) := by decide +kernel
theorem dX15_read_30 : decode cX15_read 30 = .ok (.aload_n 0, 1) := by decide +kernel
theorem dX15_read_31 : decode cX15_read 31 = .ok (.invokevirtual 131, 3) := by decide +kernel
theorem dX15_read_34 : decode cX15_read 34 = .ok (.aload_n 0, 1) := by decide +kernel
theorem dX15_read_35 : decode cX15_read 35 = .ok (.invokevirtual 183, 3) := by decide +kernel
theorem dX15_read_38 : decode cX15_read 38 = .ok (.aload_n 0, 1) := by decide +kernel
theorem dX15_read_39 : decode cX15_read 39 = .ok (.getfield 121, 3) := by decide +kernel
theorem dX15_read_42 : decode cX15_read 42 = .ok (.ifCond .ne 49, 3) := by decide +kernel
theorem dX15_read_45 : decode cX15_read 45 = .ok (.aload_n 0, 1) := by decide +kernel
theorem dX15_read_46 : decode cX15_read 46 = .ok (.getfield 99, 3) := by decide +kernel
theorem dX15_read_49 : decode cX15_read 49 = .ok (.ifCond .eq 42, 3) := by decide +kernel
theorem dX15_read_52 : decode cX15_read 52 = .ok (.aload_n 0, 1) := by decide +kernel
theorem dX15_read_53 : decode cX15_read 53 = .ok (.aload_n 0, 1) := by decide +kernel
theorem dX15_read_54 : decode cX15_read 54 = .ok (.getfield 99, 3) := by decide +kernel
theorem dX15_read_57 : decode cX15_read 57 = .ok (.bipush 59, 2) := by decide +kernel
theorem dX15_read_59 : decode cX15_read 59 = .ok (.if_icmp .ne 7, 3) := by decide +kernel
theorem dX15_read_66 : decode cX15_read 66 = .ok (.iconst 0, 1) := by decide +kernel
theorem dX15_read_67 : decode cX15_read 67 = .ok (.invokevirtual 147, 3) := by decide +kernel
theorem dX15_read_70 : decode cX15_read 70 = .ok (.aload_n 0, 1) := by decide +kernel
theorem dX15_read_71 : decode cX15_read 71 = .ok (.getfield 121, 3) := by decide +kernel
theorem dX15_read_74 : decode cX15_read 74 = .ok (.ifCond .ne (-36), 3) := by decide +kernel
theorem dX15_read_77 : decode cX15_read 77 = .ok (.aload_n 0, 1) := by decide +kernel
theorem dX15_read_78 : decode cX15_read 78 = .ok (.getfield 99, 3) := by decide +kernel
theorem dX15_read_81 : decode cX15_read 81 = .ok (.ifCond .eq (-43), 3) := by decide +kernel
theorem dX15_read_84 : decode cX15_read 84 = .ok (.aload_n 0, 1) := by decide +kernel
theorem dX15_read_85 : decode cX15_read 85 = .ok (.invokevirtual 183, 3) := by decide +kernel
theorem dX15_read_88 : decode cX15_read 88 = .ok (.goto (-50), 3) := by decide +kernel
theorem dX15_read_62 : decode cX15_read 62 = .ok (.iconst 1, 1) := by decide +kernel
theorem dX15_read_63 : decode cX15_read 63 = .ok (.goto 4, 3) := by decide +kernel
theorem dX15_read_91 : decode cX15_read 91 = .ok (.aload_n 0, 1) := by decide +kernel
theorem dX15_read_92 : decode cX15_read 92 = .ok (.getfield 121, 3) := by decide +kernel
theorem dX15_read_95 : decode cX15_read 95 = .ok (.ifCond .eq 10, 3) := by decide +kernel
theorem dX15_read_105 : decode cX15_read 105 = .ok (.aload_n 0, 1) := by decide +kernel
theorem dX15_read_106 : decode cX15_read 106 = .ok (.invokevirtual 186, 3) := by decide +kernel
theorem dX15_read_109 : decode cX15_read 109 = .ok (.aload_n 0, 1) := by decide +kernel
theorem dX15_read_110 : decode cX15_read 110 = .ok (.iconst 0, 1) := by decide +kernel
theorem dX15_read_111 : decode cX15_read 111 = .ok (.putfield 90, 3) := by decide +kernel
theorem dX15_read_114 : decode cX15_read 114 = .ok (.aload_n 0, 1) := by decide +kernel
theorem dX15_read_115 : decode cX15_read 115 = .ok (.iconst (-1), 1) := by decide +kernel
theorem dX15_read_116 : decode cX15_read 116 = .ok (.putfield 50, 3) := by decide +kernel
theorem dX15_read_119 : decode cX15_read 119 = .ok (.aload_n 0, 1) := by decide +kernel
theorem dX15_read_120 : decode cX15_read 120 = .ok (.getfield 174, 3) := by decide +kernel
theorem dX15_read_123 : decode cX15_read 123 = .ok (.ireturn, 1) := by decide +kernel
theorem dX15_read_98 : decode cX15_read 98 = .ok (.iconst (-1), 1) := by decide +kernel
theorem dX15_read_99 : decode cX15_read 99 = .ok (.aload_n 0, 1) := by decide +kernel
theorem dX15_read_100 : decode cX15_read 100 = .ok (.getfield 96, 3) := by decide +kernel
theorem dX15_read_103 : decode cX15_read 103 = .ok (.isub, 1) := by decide +kernel
theorem dX15_read_104 : decode cX15_read 104 = .ok (.ireturn, 1) := by decide +kernel
theorem dX15_isName_0 : decode cX15_isName 0 = .ok (.iconst 1, 1) := by decide +kernel
theorem dX15_isName_1 : decode cX15_isName 1 = .ok (.istore_n 2, 1) := by decide +kernel
theorem dX15_isName_2 : decode cX15_isName 2 = .ok (.iconst 0, 1) := by decide +kernel
theorem dX15_isName_3 : decode cX15_isName 3 = .ok (.istore_n 3, 1) := by decide +kernel
theorem dX15_isName_4 : decode cX15_isName 4 = .ok (.bipush 7, 2) := by decide +kernel
theorem dX15_isName_6 : decode cX15_isName 6 = .ok (.istore 4, 2) := by decide +kernel
theorem dX15_isName_8 : decode cX15_isName 8 = .ok (.iload 4, 2) := by decide +kernel
theorem dX15_isName_10 : decode cX15_isName 10 = .ok (.ifCond .lt 59, 3) := by decide +kernel
theorem dX15_isName_13 : decode cX15_isName 13 = .ok (.lload_n 0, 1) := by decide +kernel
theorem dX15_isName_14 : decode cX15_isName 14 = .ok (.iload 4, 2) := by decide +kernel
theorem dX15_isName_16 : decode cX15_isName 16 = .ok (.invokestatic 86, 3) := by decide +kernel
theorem dX15_isName_19 : decode cX15_isName 19 = .ok (.istore 5, 2) := by decide +kernel
theorem dX15_isName_21 : decode cX15_isName 21 = .ok (.iload_n 2, 1) := by decide +kernel
theorem dX15_isName_22 : decode cX15_isName 22 = .ok (.ifCond .eq 24, 3) := by decide +kernel
theorem dX15_isName_46 : decode cX15_isName 46 = .ok (.iconst 0, 1) := by decide +kernel
theorem dX15_isName_47 : decode cX15_isName 47 = .ok (.istore_n 2, 1) := by decide +kernel
theorem dX15_isName_48 : decode cX15_isName 48 = .ok (.iload_n 3, 1) := by decide +kernel
theorem dX15_isName_49 : decode cX15_isName 49 = .ok (.ifCond .ne 8, 3) := by decide +kernel
theorem dX15_isName_57 : decode cX15_isName 57 = .ok (.iconst 1, 1) := by decide +kernel
theorem dX15_isName_58 : decode cX15_isName 58 = .ok (.goto 4, 3) := by decide +kernel
theorem dX15_isName_62 : decode cX15_isName 62 = .ok (.istore_n 3, 1) := by decide +kernel
theorem dX15_isName_63 : decode cX15_isName 63 = .ok (.iinc 4 (-1), 3) := by decide +kernel
theorem dX15_isName_66 : decode cX15_isName 66 = .ok (.goto (-58), 3) := by decide +kernel
theorem dX15_isName_52 : decode cX15_isName 52 = .ok (.iload 5, 2) := by decide +kernel
theorem dX15_isName_54 : decode cX15_isName 54 = .ok (.ifCond .le 7, 3) := by decide +kernel
theorem dX15_isName_61 : decode cX15_isName 61 = .ok (.iconst 0, 1) := by decide +kernel
theorem dX15_isName_25 : decode cX15_isName 25 = .ok (.iload 5, 2) := by decide +kernel
theorem dX15_isName_27 : decode cX15_isName 27 = .ok (.invokestatic 125, 3) := by decide +kernel
theorem dX15_isName_30 : decode cX15_isName 30 = .ok (.ifCond .ne 12, 3) := by decide +kernel
theorem dX15_isName_42 : decode cX15_isName 42 = .ok (.iconst 1, 1) := by decide +kernel
theorem dX15_isName_43 : decode cX15_isName 43 = .ok (.goto 4, 3) := by decide +kernel
theorem dX15_isName_33 : decode cX15_isName 33 = .ok (.iload 5, 2) := by decide +kernel
theorem dX15_isName_35 : decode cX15_isName 35 = .ok (.ifCond .ne 11, 3) := by decide +kernel
theorem dX15_isName_38 : decode cX15_isName 38 = .ok (.iload_n 3, 1) := by decide +kernel
theorem dX15_isName_39 : decode cX15_isName 39 = .ok (.ifCond .ne 7, 3) := by decide +kernel
theorem dX15_isName_69 : decode cX15_isName 69 = .ok (.iload_n 2, 1) := by decide +kernel
theorem dX15_isName_70 : decode cX15_isName 70 = .ok (.ifCond .eq 11, 3) := by decide +kernel
theorem dX15_isName_81 : decode cX15_isName 81 = .ok (.iconst 0, 1) := by decide +kernel
theorem dX15_isName_82 : decode cX15_isName 82 = .ok (.ireturn, 1) := by decide +kernel
theorem dX15_isName_73 : decode cX15_isName 73 = .ok (.iload_n 3, 1) := by decide +kernel
theorem dX15_isName_74 : decode cX15_isName 74 = .ok (.ifCond .eq 7, 3) := by decide +kernel
theorem dX15_isName_77 : decode cX15_isName 77 = .ok (.iconst 1, 1) := by decide +kernel
theorem dX15_isName_78 : decode cX15_isName 78 = .ok (.goto 4, 3) := by decide +kernel
theorem dX15_factOf_0 : decode cX15_factOf 0 = .ok (.iconst (-1), 1) := by decide +kernel
theorem dX15_factOf_1 : decode cX15_factOf 1 = .ok (.istore_n 3, 1) := by decide +kernel
theorem dX15_factOf_2 : decode cX15_factOf 2 = .ok (.iconst 0, 1) := by decide +kernel
theorem dX15_factOf_3 : decode cX15_factOf 3 = .ok (.istore 4, 2) := by decide +kernel
theorem dX15_factOf_5 : decode cX15_factOf 5 = .ok (.iload 4, 2) := by decide +kernel
theorem dX15_factOf_7 : decode cX15_factOf 7 = .ok (.aload_n 0, 1) := by decide +kernel
theorem dX15_factOf_8 : decode cX15_factOf 8 = .ok (.getfield 189, 3) := by decide +kernel
theorem dX15_factOf_11 : decode cX15_factOf 11 = .ok (.if_icmp .ge 28, 3) := by decide +kernel
theorem dX15_factOf_14 : decode cX15_factOf 14 = .ok (.aload_n 0, 1) := by decide +kernel
theorem dX15_factOf_15 : decode cX15_factOf 15 = .ok (.getfield 13, 3) := by decide +kernel
theorem dX15_factOf_18 : decode cX15_factOf 18 = .ok (.iload 4, 2) := by decide +kernel
theorem dX15_factOf_20 : decode cX15_factOf 20 = .ok (.laload, 1) := by decide +kernel
theorem dX15_factOf_21 : decode cX15_factOf 21 = .ok (.lload_n 1, 1) := by decide +kernel
theorem dX15_factOf_22 : decode cX15_factOf 22 = .ok (.lcmp, 1) := by decide +kernel
theorem dX15_factOf_23 : decode cX15_factOf 23 = .ok (.ifCond .ne 8, 3) := by decide +kernel
theorem dX15_factOf_31 : decode cX15_factOf 31 = .ok (.iload_n 3, 1) := by decide +kernel
theorem dX15_factOf_32 : decode cX15_factOf 32 = .ok (.istore_n 3, 1) := by decide +kernel
theorem dX15_factOf_33 : decode cX15_factOf 33 = .ok (.iinc 4 1, 3) := by decide +kernel
theorem dX15_factOf_36 : decode cX15_factOf 36 = .ok (.goto (-31), 3) := by decide +kernel
theorem dX15_factOf_26 : decode cX15_factOf 26 = .ok (.iload 4, 2) := by decide +kernel
theorem dX15_factOf_28 : decode cX15_factOf 28 = .ok (.goto 4, 3) := by decide +kernel
theorem dX15_factOf_39 : decode cX15_factOf 39 = .ok (.iload_n 3, 1) := by decide +kernel
theorem dX15_factOf_40 : decode cX15_factOf 40 = .ok (.ireturn, 1) := by decide +kernel
theorem dX15_fact_0 : decode cX15_fact 0 = .ok (.aload_n 0, 1) := by decide +kernel
theorem dX15_fact_1 : decode cX15_fact 1 = .ok (.lload_n 1, 1) := by decide +kernel
theorem dX15_fact_2 : decode cX15_fact 2 = .ok (.invokevirtual 192, 3) := by decide +kernel
theorem dX15_fact_5 : decode cX15_fact 5 = .ok (.istore 4, 2) := by decide +kernel
theorem dX15_fact_7 : decode cX15_fact 7 = .ok (.iload 4, 2) := by decide +kernel
theorem dX15_fact_9 : decode cX15_fact 9 = .ok (.ifCond .ge 9, 3) := by decide +kernel
theorem dX15_fact_18 : decode cX15_fact 18 = .ok (.aload_n 0, 1) := by decide +kernel
theorem dX15_fact_19 : decode cX15_fact 19 = .ok (.getfield 17, 3) := by decide +kernel
theorem dX15_fact_22 : decode cX15_fact 22 = .ok (.iload 4, 2) := by decide +kernel
theorem dX15_fact_24 : decode cX15_fact 24 = .ok (.iaload, 1) := by decide +kernel
theorem dX15_fact_25 : decode cX15_fact 25 = .ok (.i2l, 1) := by decide +kernel
theorem dX15_fact_26 : decode cX15_fact 26 = .ok (.lstore 5, 2) := by decide +kernel
theorem dX15_fact_28 : decode cX15_fact 28 = .ok (.iload 4, 2) := by decide +kernel
theorem dX15_fact_30 : decode cX15_fact 30 = .ok (.ifCond .ge 19, 3) := by decide +kernel
theorem dX15_fact_49 : decode cX15_fact 49 = .ok (.aload_n 0, 1) := by decide +kernel
theorem dX15_fact_50 : decode cX15_fact 50 = .ok (.getfield 13, 3) := by decide +kernel
theorem dX15_fact_53 : decode cX15_fact 53 = .ok (.iload 4, 2) := by decide +kernel
theorem dX15_fact_55 : decode cX15_fact 55 = .ok (.lload_n 1, 1) := by decide +kernel
theorem dX15_fact_56 : decode cX15_fact 56 = .ok (.lastore, 1) := by decide +kernel
theorem dX15_fact_57 : decode cX15_fact 57 = .ok (.aload_n 0, 1) := by decide +kernel
theorem dX15_fact_58 : decode cX15_fact 58 = .ok (.getfield 17, 3) := by decide +kernel
theorem dX15_fact_61 : decode cX15_fact 61 = .ok (.iload 4, 2) := by decide +kernel
theorem dX15_fact_63 : decode cX15_fact 63 = .ok (.iload_n 3, 1) := by decide +kernel
theorem dX15_fact_64 : decode cX15_fact 64 = .ok (.iastore, 1) := by decide +kernel
theorem dX15_fact_65 : decode cX15_fact 65 = .ok (.lload 5, 2) := by decide +kernel
theorem dX15_fact_67 : decode cX15_fact 67 = .ok (.lreturn, 1) := by decide +kernel
theorem dX15_fact_33 : decode cX15_fact 33 = .ok (.aload_n 0, 1) := by decide +kernel
theorem dX15_fact_34 : decode cX15_fact 34 = .ok (.getfield 189, 3) := by decide +kernel
theorem dX15_fact_37 : decode cX15_fact 37 = .ok (.istore 4, 2) := by decide +kernel
theorem dX15_fact_39 : decode cX15_fact 39 = .ok (.aload_n 0, 1) := by decide +kernel
theorem dX15_fact_40 : decode cX15_fact 40 = .ok (.dup, 1) := by decide +kernel
theorem dX15_fact_41 : decode cX15_fact 41 = .ok (.getfield 189, 3) := by decide +kernel
theorem dX15_fact_44 : decode cX15_fact 44 = .ok (.iconst 1, 1) := by decide +kernel
theorem dX15_fact_45 : decode cX15_fact 45 = .ok (.iadd, 1) := by decide +kernel
theorem dX15_fact_46 : decode cX15_fact 46 = .ok (.putfield 189, 3) := by decide +kernel
theorem dX15_fact_12 : decode cX15_fact 12 = .ok (.ldc2_w 196, 3) := by decide +kernel
theorem dX15_fact_15 : decode cX15_fact 15 = .ok (.goto 11, 3) := by decide +kernel
theorem dX15_opens_0 : decode cX15_opens 0 = .ok (.aload_n 0, 1) := by decide +kernel
theorem dX15_opens_1 : decode cX15_opens 1 = .ok (.getfield 198, 3) := by decide +kernel
theorem dX15_opens_4 : decode cX15_opens 4 = .ok (.ifCond .ne 13, 3) := by decide +kernel
theorem dX15_opens_17 : decode cX15_opens 17 = .ok (.return_, 1) := by decide +kernel
theorem dX15_opens_7 : decode cX15_opens 7 = .ok (.aload_n 0, 1) := by decide +kernel
theorem dX15_opens_8 : decode cX15_opens 8 = .ok (.iload_n 1, 1) := by decide +kernel
theorem dX15_opens_9 : decode cX15_opens 9 = .ok (.putfield 198, 3) := by decide +kernel
theorem dX15_opens_12 : decode cX15_opens 12 = .ok (.aload_n 0, 1) := by decide +kernel
theorem dX15_opens_13 : decode cX15_opens 13 = .ok (.lload_n 2, 1) := by decide +kernel
theorem dX15_opens_14 : decode cX15_opens 14 = .ok (.putfield 201, 3) := by decide +kernel
theorem dX15_times_0 : decode cX15_times 0 = .ok (.lload_n 1, 1) := by decide +kernel
theorem dX15_times_1 : decode cX15_times 1 = .ok (.lload_n 3, 1) := by decide +kernel
theorem dX15_times_2 : decode cX15_times 2 = .ok (.lmul, 1) := by decide +kernel
theorem dX15_times_3 : decode cX15_times 3 = .ok (.lstore 5, 2) := by decide +kernel
theorem dX15_times_5 : decode cX15_times 5 = .ok (.lload_n 1, 1) := by decide +kernel
theorem dX15_times_6 : decode cX15_times 6 = .ok (.lconst 0, 1) := by decide +kernel
theorem dX15_times_7 : decode cX15_times 7 = .ok (.lcmp, 1) := by decide +kernel
theorem dX15_times_8 : decode cX15_times 8 = .ok (.ifCond .eq 33, 3) := by decide +kernel
theorem dX15_times_41 : decode cX15_times 41 = .ok (.lload 5, 2) := by decide +kernel
theorem dX15_times_43 : decode cX15_times 43 = .ok (.lreturn, 1) := by decide +kernel
theorem dX15_times_11 : decode cX15_times 11 = .ok (.lload_n 3, 1) := by decide +kernel
theorem dX15_times_12 : decode cX15_times 12 = .ok (.lconst 0, 1) := by decide +kernel
theorem dX15_times_13 : decode cX15_times 13 = .ok (.lcmp, 1) := by decide +kernel
theorem dX15_times_14 : decode cX15_times 14 = .ok (.ifCond .eq 27, 3) := by decide +kernel
theorem dX15_times_17 : decode cX15_times 17 = .ok (.lload 5, 2) := by decide +kernel
theorem dX15_times_19 : decode cX15_times 19 = .ok (.lload_n 3, 1) := by decide +kernel
theorem dX15_times_20 : decode cX15_times 20 = .ok (.ldiv, 1) := by decide +kernel
theorem dX15_times_21 : decode cX15_times 21 = .ok (.lload_n 1, 1) := by decide +kernel
theorem dX15_times_22 : decode cX15_times 22 = .ok (.lcmp, 1) := by decide +kernel
theorem dX15_times_23 : decode cX15_times 23 = .ok (.ifCond .ne 12, 3) := by decide +kernel
theorem dX15_times_35 : decode cX15_times 35 = .ok (.aload_n 0, 1) := by decide +kernel
theorem dX15_times_36 : decode cX15_times 36 = .ok (.iconst 2, 1) := by decide +kernel
theorem dX15_times_37 : decode cX15_times 37 = .ok (.lconst 0, 1) := by decide +kernel
theorem dX15_times_38 : decode cX15_times 38 = .ok (.invokevirtual 204, 3) := by decide +kernel
theorem dX15_times_26 : decode cX15_times 26 = .ok (.lload 5, 2) := by decide +kernel
theorem dX15_times_28 : decode cX15_times 28 = .ok (.lload_n 1, 1) := by decide +kernel
theorem dX15_times_29 : decode cX15_times 29 = .ok (.ldiv, 1) := by decide +kernel
theorem dX15_times_30 : decode cX15_times 30 = .ok (.lload_n 3, 1) := by decide +kernel
theorem dX15_times_31 : decode cX15_times 31 = .ok (.lcmp, 1) := by decide +kernel
theorem dX15_times_32 : decode cX15_times 32 = .ok (.ifCond .eq 9, 3) := by decide +kernel
theorem dX15_plus_0 : decode cX15_plus 0 = .ok (.iload 5, 2) := by decide +kernel
theorem dX15_plus_2 : decode cX15_plus 2 = .ok (.ifCond .eq 9, 3) := by decide +kernel
theorem dX15_plus_11 : decode cX15_plus 11 = .ok (.lload_n 1, 1) := by decide +kernel
theorem dX15_plus_12 : decode cX15_plus 12 = .ok (.lload_n 3, 1) := by decide +kernel
theorem dX15_plus_13 : decode cX15_plus 13 = .ok (.ladd, 1) := by decide +kernel
theorem dX15_plus_14 : decode cX15_plus 14 = .ok (.lstore 6, 2) := by decide +kernel
theorem dX15_plus_16 : decode cX15_plus 16 = .ok (.iload 5, 2) := by decide +kernel
theorem dX15_plus_18 : decode cX15_plus 18 = .ok (.ifCond .eq 62, 3) := by decide +kernel
theorem dX15_plus_80 : decode cX15_plus 80 = .ok (.lload_n 1, 1) := by decide +kernel
theorem dX15_plus_81 : decode cX15_plus 81 = .ok (.lconst 0, 1) := by decide +kernel
theorem dX15_plus_82 : decode cX15_plus 82 = .ok (.lcmp, 1) := by decide +kernel
theorem dX15_plus_83 : decode cX15_plus 83 = .ok (.ifCond .ge 7, 3) := by decide +kernel
theorem dX15_plus_90 : decode cX15_plus 90 = .ok (.iconst 0, 1) := by decide +kernel
theorem dX15_plus_91 : decode cX15_plus 91 = .ok (.lload_n 3, 1) := by decide +kernel
theorem dX15_plus_92 : decode cX15_plus 92 = .ok (.lconst 0, 1) := by decide +kernel
theorem dX15_plus_93 : decode cX15_plus 93 = .ok (.lcmp, 1) := by decide +kernel
theorem dX15_plus_94 : decode cX15_plus 94 = .ok (.ifCond .ge 7, 3) := by decide +kernel
theorem dX15_plus_101 : decode cX15_plus 101 = .ok (.iconst 0, 1) := by decide +kernel
theorem dX15_plus_102 : decode cX15_plus 102 = .ok (.if_icmp .ne 33, 3) := by decide +kernel
theorem dX15_plus_135 : decode cX15_plus 135 = .ok (.iconst 0, 1) := by decide +kernel
theorem dX15_plus_136 : decode cX15_plus 136 = .ok (.istore 8, 2) := by decide +kernel
theorem dX15_plus_138 : decode cX15_plus 138 = .ok (.iload 8, 2) := by decide +kernel
theorem dX15_plus_140 : decode cX15_plus 140 = .ok (.ifCond .eq 9, 3) := by decide +kernel
theorem dX15_plus_149 : decode cX15_plus 149 = .ok (.lload 6, 2) := by decide +kernel
theorem dX15_plus_151 : decode cX15_plus 151 = .ok (.lreturn, 1) := by decide +kernel
theorem dX15_plus_143 : decode cX15_plus 143 = .ok (.aload_n 0, 1) := by decide +kernel
theorem dX15_plus_144 : decode cX15_plus 144 = .ok (.iconst 2, 1) := by decide +kernel
theorem dX15_plus_145 : decode cX15_plus 145 = .ok (.lconst 0, 1) := by decide +kernel
theorem dX15_plus_146 : decode cX15_plus 146 = .ok (.invokevirtual 204, 3) := by decide +kernel
theorem dX15_plus_105 : decode cX15_plus 105 = .ok (.lload 6, 2) := by decide +kernel
theorem dX15_plus_107 : decode cX15_plus 107 = .ok (.lconst 0, 1) := by decide +kernel
theorem dX15_plus_108 : decode cX15_plus 108 = .ok (.lcmp, 1) := by decide +kernel
theorem dX15_plus_109 : decode cX15_plus 109 = .ok (.ifCond .ge 7, 3) := by decide +kernel
theorem dX15_plus_116 : decode cX15_plus 116 = .ok (.iconst 0, 1) := by decide +kernel
theorem dX15_plus_117 : decode cX15_plus 117 = .ok (.lload_n 1, 1) := by decide +kernel
theorem dX15_plus_118 : decode cX15_plus 118 = .ok (.lconst 0, 1) := by decide +kernel
theorem dX15_plus_119 : decode cX15_plus 119 = .ok (.lcmp, 1) := by decide +kernel
theorem dX15_plus_120 : decode cX15_plus 120 = .ok (.ifCond .ge 7, 3) := by decide +kernel
theorem dX15_plus_127 : decode cX15_plus 127 = .ok (.iconst 0, 1) := by decide +kernel
theorem dX15_plus_128 : decode cX15_plus 128 = .ok (.if_icmp .eq 7, 3) := by decide +kernel
theorem dX15_plus_131 : decode cX15_plus 131 = .ok (.iconst 1, 1) := by decide +kernel
theorem dX15_plus_132 : decode cX15_plus 132 = .ok (.goto 4, 3) := by decide +kernel
theorem dX15_plus_123 : decode cX15_plus 123 = .ok (.iconst 1, 1) := by decide +kernel
theorem dX15_plus_124 : decode cX15_plus 124 = .ok (.goto 4, 3) := by decide +kernel
theorem dX15_plus_112 : decode cX15_plus 112 = .ok (.iconst 1, 1) := by decide +kernel
theorem dX15_plus_113 : decode cX15_plus 113 = .ok (.goto 4, 3) := by decide +kernel
theorem dX15_plus_97 : decode cX15_plus 97 = .ok (.iconst 1, 1) := by decide +kernel
theorem dX15_plus_98 : decode cX15_plus 98 = .ok (.goto 4, 3) := by decide +kernel
theorem dX15_plus_86 : decode cX15_plus 86 = .ok (.iconst 1, 1) := by decide +kernel
theorem dX15_plus_87 : decode cX15_plus 87 = .ok (.goto 4, 3) := by decide +kernel
theorem dX15_plus_21 : decode cX15_plus 21 = .ok (.lload_n 1, 1) := by decide +kernel
theorem dX15_plus_22 : decode cX15_plus 22 = .ok (.lconst 0, 1) := by decide +kernel
theorem dX15_plus_23 : decode cX15_plus 23 = .ok (.lcmp, 1) := by decide +kernel
theorem dX15_plus_24 : decode cX15_plus 24 = .ok (.ifCond .ge 7, 3) := by decide +kernel
theorem dX15_plus_31 : decode cX15_plus 31 = .ok (.iconst 0, 1) := by decide +kernel
theorem dX15_plus_32 : decode cX15_plus 32 = .ok (.lload_n 3, 1) := by decide +kernel
theorem dX15_plus_33 : decode cX15_plus 33 = .ok (.lconst 0, 1) := by decide +kernel
theorem dX15_plus_34 : decode cX15_plus 34 = .ok (.lcmp, 1) := by decide +kernel
theorem dX15_plus_35 : decode cX15_plus 35 = .ok (.ifCond .ge 7, 3) := by decide +kernel
theorem dX15_plus_42 : decode cX15_plus 42 = .ok (.iconst 0, 1) := by decide +kernel
theorem dX15_plus_43 : decode cX15_plus 43 = .ok (.if_icmp .eq 33, 3) := by decide +kernel
theorem dX15_plus_76 : decode cX15_plus 76 = .ok (.iconst 0, 1) := by decide +kernel
theorem dX15_plus_77 : decode cX15_plus 77 = .ok (.goto 59, 3) := by decide +kernel
theorem dX15_plus_46 : decode cX15_plus 46 = .ok (.lload 6, 2) := by decide +kernel
theorem dX15_plus_48 : decode cX15_plus 48 = .ok (.lconst 0, 1) := by decide +kernel
theorem dX15_plus_49 : decode cX15_plus 49 = .ok (.lcmp, 1) := by decide +kernel
theorem dX15_plus_50 : decode cX15_plus 50 = .ok (.ifCond .ge 7, 3) := by decide +kernel
theorem dX15_plus_57 : decode cX15_plus 57 = .ok (.iconst 0, 1) := by decide +kernel
theorem dX15_plus_58 : decode cX15_plus 58 = .ok (.lload_n 1, 1) := by decide +kernel
theorem dX15_plus_59 : decode cX15_plus 59 = .ok (.lconst 0, 1) := by decide +kernel
theorem dX15_plus_60 : decode cX15_plus 60 = .ok (.lcmp, 1) := by decide +kernel
theorem dX15_plus_61 : decode cX15_plus 61 = .ok (.ifCond .ge 7, 3) := by decide +kernel
theorem dX15_plus_68 : decode cX15_plus 68 = .ok (.iconst 0, 1) := by decide +kernel
theorem dX15_plus_69 : decode cX15_plus 69 = .ok (.if_icmp .eq 7, 3) := by decide +kernel
theorem dX15_plus_72 : decode cX15_plus 72 = .ok (.iconst 1, 1) := by decide +kernel
theorem dX15_plus_73 : decode cX15_plus 73 = .ok (.goto 63, 3) := by decide +kernel
theorem dX15_plus_64 : decode cX15_plus 64 = .ok (.iconst 1, 1) := by decide +kernel
theorem dX15_plus_65 : decode cX15_plus 65 = .ok (.goto 4, 3) := by decide +kernel
theorem dX15_plus_53 : decode cX15_plus 53 = .ok (.iconst 1, 1) := by decide +kernel
theorem dX15_plus_54 : decode cX15_plus 54 = .ok (.goto 4, 3) := by decide +kernel
theorem dX15_plus_38 : decode cX15_plus 38 = .ok (.iconst 1, 1) := by decide +kernel
theorem dX15_plus_39 : decode cX15_plus 39 = .ok (.goto 4, 3) := by decide +kernel
theorem dX15_plus_27 : decode cX15_plus 27 = .ok (.iconst 1, 1) := by decide +kernel
theorem dX15_plus_28 : decode cX15_plus 28 = .ok (.goto 4, 3) := by decide +kernel
theorem dX15_plus_5 : decode cX15_plus 5 = .ok (.lload_n 1, 1) := by decide +kernel
theorem dX15_plus_6 : decode cX15_plus 6 = .ok (.lload_n 3, 1) := by decide +kernel
theorem dX15_plus_7 : decode cX15_plus 7 = .ok (.lsub, 1) := by decide +kernel
theorem dX15_plus_8 : decode cX15_plus 8 = .ok (.goto 6, 3) := by decide +kernel
theorem dX15_push_0 : decode cX15_push 0 = .ok (.lload_n 1, 1) := by decide +kernel
theorem dX15_push_1 : decode cX15_push 1 = .ok (.lstore 5, 2) := by decide +kernel
theorem dX15_push_3 : decode cX15_push 3 = .ok (.lload_n 3, 1) := by decide +kernel
theorem dX15_push_4 : decode cX15_push 4 = .ok (.lstore 7, 2) := by decide +kernel
theorem dX15_push_6 : decode cX15_push 6 = .ok (.lload 7, 2) := by decide +kernel
theorem dX15_push_8 : decode cX15_push 8 = .ok (.lconst 0, 1) := by decide +kernel
theorem dX15_push_9 : decode cX15_push 9 = .ok (.lcmp, 1) := by decide +kernel
theorem dX15_push_10 : decode cX15_push 10 = .ok (.ifCond .eq 21, 3) := by decide +kernel
theorem dX15_push_13 : decode cX15_push 13 = .ok (.lload 5, 2) := by decide +kernel
theorem dX15_push_15 : decode cX15_push 15 = .ok (.lload 7, 2) := by decide +kernel
theorem dX15_push_17 : decode cX15_push 17 = .ok (.lrem, 1) := by decide +kernel
theorem dX15_push_18 : decode cX15_push 18 = .ok (.lstore 9, 2) := by decide +kernel
theorem dX15_push_20 : decode cX15_push 20 = .ok (.lload 7, 2) := by decide +kernel
theorem dX15_push_22 : decode cX15_push 22 = .ok (.lstore 5, 2) := by decide +kernel
theorem dX15_push_24 : decode cX15_push 24 = .ok (.lload 9, 2) := by decide +kernel
theorem dX15_push_26 : decode cX15_push 26 = .ok (.lstore 7, 2) := by decide +kernel
theorem dX15_push_28 : decode cX15_push 28 = .ok (.goto (-22), 3) := by decide +kernel
theorem dX15_push_31 : decode cX15_push 31 = .ok (.lload 5, 2) := by decide +kernel
theorem dX15_push_33 : decode cX15_push 33 = .ok (.lconst 0, 1) := by decide +kernel
theorem dX15_push_34 : decode cX15_push 34 = .ok (.lcmp, 1) := by decide +kernel
theorem dX15_push_35 : decode cX15_push 35 = .ok (.ifCond .ge 9, 3) := by decide +kernel
theorem dX15_push_44 : decode cX15_push 44 = .ok (.lload 5, 2) := by decide +kernel
theorem dX15_push_46 : decode cX15_push 46 = .ok (.lstore 9, 2) := by decide +kernel
theorem dX15_push_48 : decode cX15_push 48 = .ok (.lload 9, 2) := by decide +kernel
theorem dX15_push_50 : decode cX15_push 50 = .ok (.lconst 0, 1) := by decide +kernel
theorem dX15_push_51 : decode cX15_push 51 = .ok (.lcmp, 1) := by decide +kernel
theorem dX15_push_52 : decode cX15_push 52 = .ok (.ifCond .eq 119, 3) := by decide +kernel
theorem dX15_push_171 : decode cX15_push 171 = .ok (.aload_n 0, 1) := by decide +kernel
theorem dX15_push_172 : decode cX15_push 172 = .ok (.dup, 1) := by decide +kernel
theorem dX15_push_173 : decode cX15_push 173 = .ok (.getfield 207, 3) := by decide +kernel
theorem dX15_push_176 : decode cX15_push 176 = .ok (.iconst 1, 1) := by decide +kernel
theorem dX15_push_177 : decode cX15_push 177 = .ok (.iadd, 1) := by decide +kernel
theorem dX15_push_178 : decode cX15_push 178 = .ok (.putfield 207, 3) := by decide +kernel
theorem dX15_push_181 : decode cX15_push 181 = .ok (.return_, 1) := by decide +kernel
theorem dX15_push_55 : decode cX15_push 55 = .ok (.aload_n 0, 1) := by decide +kernel
theorem dX15_push_56 : decode cX15_push 56 = .ok (.getfield 78, 3) := by decide +kernel
theorem dX15_push_59 : decode cX15_push 59 = .ok (.aload_n 0, 1) := by decide +kernel
theorem dX15_push_60 : decode cX15_push 60 = .ok (.getfield 207, 3) := by decide +kernel
theorem dX15_push_63 : decode cX15_push 63 = .ok (.lload_n 1, 1) := by decide +kernel
theorem dX15_push_64 : decode cX15_push 64 = .ok (.lload 9, 2) := by decide +kernel
theorem dX15_push_66 : decode cX15_push 66 = .ok (.ldiv, 1) := by decide +kernel
theorem dX15_push_67 : decode cX15_push 67 = .ok (.lastore, 1) := by decide +kernel
theorem dX15_push_68 : decode cX15_push 68 = .ok (.aload_n 0, 1) := by decide +kernel
theorem dX15_push_69 : decode cX15_push 69 = .ok (.getfield 81, 3) := by decide +kernel
theorem dX15_push_72 : decode cX15_push 72 = .ok (.aload_n 0, 1) := by decide +kernel
theorem dX15_push_73 : decode cX15_push 73 = .ok (.getfield 207, 3) := by decide +kernel
theorem dX15_push_76 : decode cX15_push 76 = .ok (.lload_n 3, 1) := by decide +kernel
theorem dX15_push_77 : decode cX15_push 77 = .ok (.lload 9, 2) := by decide +kernel
theorem dX15_push_79 : decode cX15_push 79 = .ok (.ldiv, 1) := by decide +kernel
theorem dX15_push_80 : decode cX15_push 80 = .ok (.lastore, 1) := by decide +kernel
theorem dX15_push_81 : decode cX15_push 81 = .ok (.aload_n 0, 1) := by decide +kernel
theorem dX15_push_82 : decode cX15_push 82 = .ok (.getfield 81, 3) := by decide +kernel
theorem dX15_push_85 : decode cX15_push 85 = .ok (.aload_n 0, 1) := by decide +kernel
theorem dX15_push_86 : decode cX15_push 86 = .ok (.getfield 207, 3) := by decide +kernel
theorem dX15_push_89 : decode cX15_push 89 = .ok (.laload, 1) := by decide +kernel
theorem dX15_push_90 : decode cX15_push 90 = .ok (.lconst 0, 1) := by decide +kernel
theorem dX15_push_91 : decode cX15_push 91 = .ok (.lcmp, 1) := by decide +kernel
theorem dX15_push_92 : decode cX15_push 92 = .ok (.ifCond .ge 79, 3) := by decide +kernel
theorem dX15_push_95 : decode cX15_push 95 = .ok (.aload_n 0, 1) := by decide +kernel
theorem dX15_push_96 : decode cX15_push 96 = .ok (.getfield 78, 3) := by decide +kernel
theorem dX15_push_99 : decode cX15_push 99 = .ok (.aload_n 0, 1) := by decide +kernel
theorem dX15_push_100 : decode cX15_push 100 = .ok (.getfield 207, 3) := by decide +kernel
theorem dX15_push_103 : decode cX15_push 103 = .ok (.laload, 1) := by decide +kernel
theorem dX15_push_104 : decode cX15_push 104 = .ok (.ldc2_w 210, 3) := by decide +kernel
theorem dX15_push_107 : decode cX15_push 107 = .ok (.lcmp, 1) := by decide +kernel
theorem dX15_push_108 : decode cX15_push 108 = .ok (.ifCond .eq 19, 3) := by decide +kernel
theorem dX15_push_127 : decode cX15_push 127 = .ok (.aload_n 0, 1) := by decide +kernel
theorem dX15_push_128 : decode cX15_push 128 = .ok (.iconst 2, 1) := by decide +kernel
theorem dX15_push_129 : decode cX15_push 129 = .ok (.lconst 0, 1) := by decide +kernel
theorem dX15_push_130 : decode cX15_push 130 = .ok (.invokevirtual 204, 3) := by decide +kernel
theorem dX15_push_133 : decode cX15_push 133 = .ok (.aload_n 0, 1) := by decide +kernel
theorem dX15_push_134 : decode cX15_push 134 = .ok (.getfield 78, 3) := by decide +kernel
theorem dX15_push_137 : decode cX15_push 137 = .ok (.aload_n 0, 1) := by decide +kernel
theorem dX15_push_138 : decode cX15_push 138 = .ok (.getfield 207, 3) := by decide +kernel
theorem dX15_push_141 : decode cX15_push 141 = .ok (.aload_n 0, 1) := by decide +kernel
theorem dX15_push_142 : decode cX15_push 142 = .ok (.getfield 78, 3) := by decide +kernel
theorem dX15_push_145 : decode cX15_push 145 = .ok (.aload_n 0, 1) := by decide +kernel
theorem dX15_push_146 : decode cX15_push 146 = .ok (.getfield 207, 3) := by decide +kernel
theorem dX15_push_149 : decode cX15_push 149 = .ok (.laload, 1) := by decide +kernel
theorem dX15_push_150 : decode cX15_push 150 = .ok (.lneg, 1) := by decide +kernel
theorem dX15_push_151 : decode cX15_push 151 = .ok (.lastore, 1) := by decide +kernel
theorem dX15_push_152 : decode cX15_push 152 = .ok (.aload_n 0, 1) := by decide +kernel
theorem dX15_push_153 : decode cX15_push 153 = .ok (.getfield 81, 3) := by decide +kernel
theorem dX15_push_156 : decode cX15_push 156 = .ok (.aload_n 0, 1) := by decide +kernel
theorem dX15_push_157 : decode cX15_push 157 = .ok (.getfield 207, 3) := by decide +kernel
theorem dX15_push_160 : decode cX15_push 160 = .ok (.aload_n 0, 1) := by decide +kernel
theorem dX15_push_161 : decode cX15_push 161 = .ok (.getfield 81, 3) := by decide +kernel
theorem dX15_push_164 : decode cX15_push 164 = .ok (.aload_n 0, 1) := by decide +kernel
theorem dX15_push_165 : decode cX15_push 165 = .ok (.getfield 207, 3) := by decide +kernel
theorem dX15_push_168 : decode cX15_push 168 = .ok (.laload, 1) := by decide +kernel
theorem dX15_push_169 : decode cX15_push 169 = .ok (.lneg, 1) := by decide +kernel
theorem dX15_push_170 : decode cX15_push 170 = .ok (.lastore, 1) := by decide +kernel
theorem dX15_push_111 : decode cX15_push 111 = .ok (.aload_n 0, 1) := by decide +kernel
theorem dX15_push_112 : decode cX15_push 112 = .ok (.getfield 81, 3) := by decide +kernel
theorem dX15_push_115 : decode cX15_push 115 = .ok (.aload_n 0, 1) := by decide +kernel
theorem dX15_push_116 : decode cX15_push 116 = .ok (.getfield 207, 3) := by decide +kernel
theorem dX15_push_119 : decode cX15_push 119 = .ok (.laload, 1) := by decide +kernel
theorem dX15_push_120 : decode cX15_push 120 = .ok (.ldc2_w 210, 3) := by decide +kernel
theorem dX15_push_123 : decode cX15_push 123 = .ok (.lcmp, 1) := by decide +kernel
theorem dX15_push_124 : decode cX15_push 124 = .ok (.ifCond .ne 9, 3) := by decide +kernel
theorem dX15_push_38 : decode cX15_push 38 = .ok (.lload 5, 2) := by decide +kernel
theorem dX15_push_40 : decode cX15_push 40 = .ok (.lneg, 1) := by decide +kernel
theorem dX15_push_41 : decode cX15_push 41 = .ok (.goto 5, 3) := by decide +kernel
theorem dX15_operate_0 : decode cX15_operate 0 = .ok (.aload_n 0, 1) := by decide +kernel
theorem dX15_operate_1 : decode cX15_operate 1 = .ok (.dup, 1) := by decide +kernel
theorem dX15_operate_2 : decode cX15_operate 2 = .ok (.getfield 207, 3) := by decide +kernel
theorem dX15_operate_5 : decode cX15_operate 5 = .ok (.iconst 2, 1) := by decide +kernel
theorem dX15_operate_6 : decode cX15_operate 6 = .ok (.isub, 1) := by decide +kernel
theorem dX15_operate_7 : decode cX15_operate 7 = .ok (.putfield 207, 3) := by decide +kernel
theorem dX15_operate_10 : decode cX15_operate 10 = .ok (.aload_n 0, 1) := by decide +kernel
theorem dX15_operate_11 : decode cX15_operate 11 = .ok (.getfield 78, 3) := by decide +kernel
theorem dX15_operate_14 : decode cX15_operate 14 = .ok (.aload_n 0, 1) := by decide +kernel
theorem dX15_operate_15 : decode cX15_operate 15 = .ok (.getfield 207, 3) := by decide +kernel
theorem dX15_operate_18 : decode cX15_operate 18 = .ok (.laload, 1) := by decide +kernel
theorem dX15_operate_19 : decode cX15_operate 19 = .ok (.lstore_n 2, 1) := by decide +kernel
theorem dX15_operate_20 : decode cX15_operate 20 = .ok (.aload_n 0, 1) := by decide +kernel
theorem dX15_operate_21 : decode cX15_operate 21 = .ok (.getfield 81, 3) := by decide +kernel
theorem dX15_operate_24 : decode cX15_operate 24 = .ok (.aload_n 0, 1) := by decide +kernel
theorem dX15_operate_25 : decode cX15_operate 25 = .ok (.getfield 207, 3) := by decide +kernel
theorem dX15_operate_28 : decode cX15_operate 28 = .ok (.laload, 1) := by decide +kernel
theorem dX15_operate_29 : decode cX15_operate 29 = .ok (.lstore 4, 2) := by decide +kernel
theorem dX15_operate_31 : decode cX15_operate 31 = .ok (.aload_n 0, 1) := by decide +kernel
theorem dX15_operate_32 : decode cX15_operate 32 = .ok (.getfield 78, 3) := by decide +kernel
theorem dX15_operate_35 : decode cX15_operate 35 = .ok (.aload_n 0, 1) := by decide +kernel
theorem dX15_operate_36 : decode cX15_operate 36 = .ok (.getfield 207, 3) := by decide +kernel
theorem dX15_operate_39 : decode cX15_operate 39 = .ok (.iconst 1, 1) := by decide +kernel
theorem dX15_operate_40 : decode cX15_operate 40 = .ok (.iadd, 1) := by decide +kernel
theorem dX15_operate_41 : decode cX15_operate 41 = .ok (.laload, 1) := by decide +kernel
theorem dX15_operate_42 : decode cX15_operate 42 = .ok (.lstore 6, 2) := by decide +kernel
theorem dX15_operate_44 : decode cX15_operate 44 = .ok (.aload_n 0, 1) := by decide +kernel
theorem dX15_operate_45 : decode cX15_operate 45 = .ok (.getfield 81, 3) := by decide +kernel
theorem dX15_operate_48 : decode cX15_operate 48 = .ok (.aload_n 0, 1) := by decide +kernel
theorem dX15_operate_49 : decode cX15_operate 49 = .ok (.getfield 207, 3) := by decide +kernel
theorem dX15_operate_52 : decode cX15_operate 52 = .ok (.iconst 1, 1) := by decide +kernel
theorem dX15_operate_53 : decode cX15_operate 53 = .ok (.iadd, 1) := by decide +kernel
theorem dX15_operate_54 : decode cX15_operate 54 = .ok (.laload, 1) := by decide +kernel
theorem dX15_operate_55 : decode cX15_operate 55 = .ok (.lstore 8, 2) := by decide +kernel
theorem dX15_operate_57 : decode cX15_operate 57 = .ok (.iload_n 1, 1) := by decide +kernel
theorem dX15_operate_58 : decode cX15_operate 58 = .ok (.iconst 5, 1) := by decide +kernel
theorem dX15_operate_59 : decode cX15_operate 59 = .ok (.if_icmp .ne 25, 3) := by decide +kernel
theorem dX15_operate_84 : decode cX15_operate 84 = .ok (.iload_n 1, 1) := by decide +kernel
theorem dX15_operate_85 : decode cX15_operate 85 = .ok (.iconst 3, 1) := by decide +kernel
theorem dX15_operate_86 : decode cX15_operate 86 = .ok (.if_icmp .le 45, 3) := by decide +kernel
theorem dX15_operate_131 : decode cX15_operate 131 = .ok (.aload_n 0, 1) := by decide +kernel
theorem dX15_operate_132 : decode cX15_operate 132 = .ok (.aload_n 0, 1) := by decide +kernel
theorem dX15_operate_133 : decode cX15_operate 133 = .ok (.aload_n 0, 1) := by decide +kernel
theorem dX15_operate_134 : decode cX15_operate 134 = .ok (.lload_n 2, 1) := by decide +kernel
theorem dX15_operate_135 : decode cX15_operate 135 = .ok (.lload 8, 2) := by decide +kernel
theorem dX15_operate_137 : decode cX15_operate 137 = .ok (.invokevirtual 216, 3) := by decide +kernel
theorem dX15_operate_140 : decode cX15_operate 140 = .ok (.aload_n 0, 1) := by decide +kernel
theorem dX15_operate_141 : decode cX15_operate 141 = .ok (.lload 6, 2) := by decide +kernel
theorem dX15_operate_143 : decode cX15_operate 143 = .ok (.lload 4, 2) := by decide +kernel
theorem dX15_operate_145 : decode cX15_operate 145 = .ok (.invokevirtual 216, 3) := by decide +kernel
theorem dX15_operate_148 : decode cX15_operate 148 = .ok (.iload_n 1, 1) := by decide +kernel
theorem dX15_operate_149 : decode cX15_operate 149 = .ok (.iconst 3, 1) := by decide +kernel
theorem dX15_operate_150 : decode cX15_operate 150 = .ok (.if_icmp .ne 7, 3) := by decide +kernel
theorem dX15_operate_157 : decode cX15_operate 157 = .ok (.iconst 0, 1) := by decide +kernel
theorem dX15_operate_158 : decode cX15_operate 158 = .ok (.invokevirtual 220, 3) := by decide +kernel
theorem dX15_operate_161 : decode cX15_operate 161 = .ok (.aload_n 0, 1) := by decide +kernel
theorem dX15_operate_162 : decode cX15_operate 162 = .ok (.lload 4, 2) := by decide +kernel
theorem dX15_operate_164 : decode cX15_operate 164 = .ok (.lload 8, 2) := by decide +kernel
theorem dX15_operate_166 : decode cX15_operate 166 = .ok (.invokevirtual 216, 3) := by decide +kernel
theorem dX15_operate_169 : decode cX15_operate 169 = .ok (.invokevirtual 212, 3) := by decide +kernel
theorem dX15_operate_172 : decode cX15_operate 172 = .ok (.return_, 1) := by decide +kernel
theorem dX15_operate_153 : decode cX15_operate 153 = .ok (.iconst 1, 1) := by decide +kernel
theorem dX15_operate_154 : decode cX15_operate 154 = .ok (.goto 4, 3) := by decide +kernel
theorem dX15_operate_89 : decode cX15_operate 89 = .ok (.aload_n 0, 1) := by decide +kernel
theorem dX15_operate_90 : decode cX15_operate 90 = .ok (.aload_n 0, 1) := by decide +kernel
theorem dX15_operate_91 : decode cX15_operate 91 = .ok (.lload_n 2, 1) := by decide +kernel
theorem dX15_operate_92 : decode cX15_operate 92 = .ok (.iload_n 1, 1) := by decide +kernel
theorem dX15_operate_93 : decode cX15_operate 93 = .ok (.iconst 4, 1) := by decide +kernel
theorem dX15_operate_94 : decode cX15_operate 94 = .ok (.if_icmp .ne 8, 3) := by decide +kernel
theorem dX15_operate_102 : decode cX15_operate 102 = .ok (.lload 8, 2) := by decide +kernel
theorem dX15_operate_104 : decode cX15_operate 104 = .ok (.invokevirtual 216, 3) := by decide +kernel
theorem dX15_operate_107 : decode cX15_operate 107 = .ok (.aload_n 0, 1) := by decide +kernel
theorem dX15_operate_108 : decode cX15_operate 108 = .ok (.lload 4, 2) := by decide +kernel
theorem dX15_operate_110 : decode cX15_operate 110 = .ok (.iload_n 1, 1) := by decide +kernel
theorem dX15_operate_111 : decode cX15_operate 111 = .ok (.iconst 4, 1) := by decide +kernel
theorem dX15_operate_112 : decode cX15_operate 112 = .ok (.if_icmp .ne 8, 3) := by decide +kernel
theorem dX15_operate_120 : decode cX15_operate 120 = .ok (.lload 6, 2) := by decide +kernel
theorem dX15_operate_122 : decode cX15_operate 122 = .ok (.invokevirtual 216, 3) := by decide +kernel
theorem dX15_operate_125 : decode cX15_operate 125 = .ok (.invokevirtual 212, 3) := by decide +kernel
theorem dX15_operate_128 : decode cX15_operate 128 = .ok (.goto 44, 3) := by decide +kernel
theorem dX15_operate_115 : decode cX15_operate 115 = .ok (.lload 8, 2) := by decide +kernel
theorem dX15_operate_117 : decode cX15_operate 117 = .ok (.goto 5, 3) := by decide +kernel
theorem dX15_operate_97 : decode cX15_operate 97 = .ok (.lload 6, 2) := by decide +kernel
theorem dX15_operate_99 : decode cX15_operate 99 = .ok (.goto 5, 3) := by decide +kernel
theorem dX15_operate_62 : decode cX15_operate 62 = .ok (.lload 6, 2) := by decide +kernel
theorem dX15_operate_64 : decode cX15_operate 64 = .ok (.lconst 0, 1) := by decide +kernel
theorem dX15_operate_65 : decode cX15_operate 65 = .ok (.lcmp, 1) := by decide +kernel
theorem dX15_operate_66 : decode cX15_operate 66 = .ok (.ifCond .ne 18, 3) := by decide +kernel
theorem dX15_operate_69 : decode cX15_operate 69 = .ok (.aload_n 0, 1) := by decide +kernel
theorem dX15_operate_70 : decode cX15_operate 70 = .ok (.iconst 3, 1) := by decide +kernel
theorem dX15_operate_71 : decode cX15_operate 71 = .ok (.lconst 0, 1) := by decide +kernel
theorem dX15_operate_72 : decode cX15_operate 72 = .ok (.invokevirtual 204, 3) := by decide +kernel
theorem dX15_operate_75 : decode cX15_operate 75 = .ok (.aload_n 0, 1) := by decide +kernel
theorem dX15_operate_76 : decode cX15_operate 76 = .ok (.lconst 0, 1) := by decide +kernel
theorem dX15_operate_77 : decode cX15_operate 77 = .ok (.lconst 1, 1) := by decide +kernel
theorem dX15_operate_78 : decode cX15_operate 78 = .ok (.invokevirtual 212, 3) := by decide +kernel
theorem dX15_operate_81 : decode cX15_operate 81 = .ok (.goto 91, 3) := by decide +kernel
theorem dX15_reckon_0 : decode cX15_reckon 0 = .ok (.aload_n 0, 1) := by decide +kernel
theorem dX15_reckon_1 : decode cX15_reckon 1 = .ok (.iconst 0, 1) := by decide +kernel
theorem dX15_reckon_2 : decode cX15_reckon 2 = .ok (.putfield 207, 3) := by decide +kernel
theorem dX15_reckon_5 : decode cX15_reckon 5 = .ok (.iload_n 1, 1) := by decide +kernel
theorem dX15_reckon_6 : decode cX15_reckon 6 = .ok (.istore_n 3, 1) := by decide +kernel
theorem dX15_reckon_7 : decode cX15_reckon 7 = .ok (.iload_n 3, 1) := by decide +kernel
theorem dX15_reckon_8 : decode cX15_reckon 8 = .ok (.iload_n 2, 1) := by decide +kernel
theorem dX15_reckon_9 : decode cX15_reckon 9 = .ok (.if_icmp .ge 106, 3) := by decide +kernel
theorem dX15_reckon_12 : decode cX15_reckon 12 = .ok (.aload_n 0, 1) := by decide +kernel
theorem dX15_reckon_13 : decode cX15_reckon 13 = .ok (.getfield 198, 3) := by decide +kernel
theorem dX15_reckon_16 : decode cX15_reckon 16 = .ok (.ifCond .ne 99, 3) := by decide +kernel
theorem dX15_reckon_19 : decode cX15_reckon 19 = .ok (.aload_n 0, 1) := by decide +kernel
theorem dX15_reckon_20 : decode cX15_reckon 20 = .ok (.getfield 44, 3) := by decide +kernel
theorem dX15_reckon_23 : decode cX15_reckon 23 = .ok (.iload_n 3, 1) := by decide +kernel
theorem dX15_reckon_24 : decode cX15_reckon 24 = .ok (.iaload, 1) := by decide +kernel
theorem dX15_reckon_25 : decode cX15_reckon 25 = .ok (.ifCond .ne 17, 3) := by decide +kernel
theorem dX15_reckon_42 : decode cX15_reckon 42 = .ok (.aload_n 0, 1) := by decide +kernel
theorem dX15_reckon_43 : decode cX15_reckon 43 = .ok (.getfield 44, 3) := by decide +kernel
theorem dX15_reckon_46 : decode cX15_reckon 46 = .ok (.iload_n 3, 1) := by decide +kernel
theorem dX15_reckon_47 : decode cX15_reckon 47 = .ok (.iaload, 1) := by decide +kernel
theorem dX15_reckon_48 : decode cX15_reckon 48 = .ok (.iconst 1, 1) := by decide +kernel
theorem dX15_reckon_49 : decode cX15_reckon 49 = .ok (.if_icmp .ne 50, 3) := by decide +kernel
theorem dX15_reckon_99 : decode cX15_reckon 99 = .ok (.aload_n 0, 1) := by decide +kernel
theorem dX15_reckon_100 : decode cX15_reckon 100 = .ok (.aload_n 0, 1) := by decide +kernel
theorem dX15_reckon_101 : decode cX15_reckon 101 = .ok (.getfield 44, 3) := by decide +kernel
theorem dX15_reckon_104 : decode cX15_reckon 104 = .ok (.iload_n 3, 1) := by decide +kernel
theorem dX15_reckon_105 : decode cX15_reckon 105 = .ok (.iaload, 1) := by decide +kernel
theorem dX15_reckon_106 : decode cX15_reckon 106 = .ok (.invokevirtual 224, 3) := by decide +kernel
theorem dX15_reckon_109 : decode cX15_reckon 109 = .ok (.iinc 3 1, 3) := by decide +kernel
theorem dX15_reckon_112 : decode cX15_reckon 112 = .ok (.goto (-105), 3) := by decide +kernel
theorem dX15_reckon_52 : decode cX15_reckon 52 = .ok (.aload_n 0, 1) := by decide +kernel
theorem dX15_reckon_53 : decode cX15_reckon 53 = .ok (.aload_n 0, 1) := by decide +kernel
theorem dX15_reckon_54 : decode cX15_reckon 54 = .ok (.getfield 47, 3) := by decide +kernel
theorem dX15_reckon_57 : decode cX15_reckon 57 = .ok (.iload_n 3, 1) := by decide +kernel
theorem dX15_reckon_58 : decode cX15_reckon 58 = .ok (.laload, 1) := by decide +kernel
theorem dX15_reckon_59 : decode cX15_reckon 59 = .ok (.invokevirtual 192, 3) := by decide +kernel
theorem dX15_reckon_62 : decode cX15_reckon 62 = .ok (.istore 4, 2) := by decide +kernel
theorem dX15_reckon_64 : decode cX15_reckon 64 = .ok (.iload 4, 2) := by decide +kernel
theorem dX15_reckon_66 : decode cX15_reckon 66 = .ok (.ifCond .ge 17, 3) := by decide +kernel
theorem dX15_reckon_83 : decode cX15_reckon 83 = .ok (.aload_n 0, 1) := by decide +kernel
theorem dX15_reckon_84 : decode cX15_reckon 84 = .ok (.aload_n 0, 1) := by decide +kernel
theorem dX15_reckon_85 : decode cX15_reckon 85 = .ok (.getfield 17, 3) := by decide +kernel
theorem dX15_reckon_88 : decode cX15_reckon 88 = .ok (.iload 4, 2) := by decide +kernel
theorem dX15_reckon_90 : decode cX15_reckon 90 = .ok (.iaload, 1) := by decide +kernel
theorem dX15_reckon_91 : decode cX15_reckon 91 = .ok (.i2l, 1) := by decide +kernel
theorem dX15_reckon_92 : decode cX15_reckon 92 = .ok (.lconst 1, 1) := by decide +kernel
theorem dX15_reckon_93 : decode cX15_reckon 93 = .ok (.invokevirtual 212, 3) := by decide +kernel
theorem dX15_reckon_96 : decode cX15_reckon 96 = .ok (.goto 13, 3) := by decide +kernel
theorem dX15_reckon_69 : decode cX15_reckon 69 = .ok (.aload_n 0, 1) := by decide +kernel
theorem dX15_reckon_70 : decode cX15_reckon 70 = .ok (.iconst 1, 1) := by decide +kernel
theorem dX15_reckon_71 : decode cX15_reckon 71 = .ok (.aload_n 0, 1) := by decide +kernel
theorem dX15_reckon_72 : decode cX15_reckon 72 = .ok (.getfield 47, 3) := by decide +kernel
theorem dX15_reckon_75 : decode cX15_reckon 75 = .ok (.iload_n 3, 1) := by decide +kernel
theorem dX15_reckon_76 : decode cX15_reckon 76 = .ok (.laload, 1) := by decide +kernel
theorem dX15_reckon_77 : decode cX15_reckon 77 = .ok (.invokevirtual 204, 3) := by decide +kernel
theorem dX15_reckon_80 : decode cX15_reckon 80 = .ok (.goto 16, 3) := by decide +kernel
theorem dX15_reckon_28 : decode cX15_reckon 28 = .ok (.aload_n 0, 1) := by decide +kernel
theorem dX15_reckon_29 : decode cX15_reckon 29 = .ok (.aload_n 0, 1) := by decide +kernel
theorem dX15_reckon_30 : decode cX15_reckon 30 = .ok (.getfield 47, 3) := by decide +kernel
theorem dX15_reckon_33 : decode cX15_reckon 33 = .ok (.iload_n 3, 1) := by decide +kernel
theorem dX15_reckon_34 : decode cX15_reckon 34 = .ok (.laload, 1) := by decide +kernel
theorem dX15_reckon_35 : decode cX15_reckon 35 = .ok (.lconst 1, 1) := by decide +kernel
theorem dX15_reckon_36 : decode cX15_reckon 36 = .ok (.invokevirtual 212, 3) := by decide +kernel
theorem dX15_reckon_39 : decode cX15_reckon 39 = .ok (.goto 70, 3) := by decide +kernel
theorem dX15_reckon_115 : decode cX15_reckon 115 = .ok (.return_, 1) := by decide +kernel
theorem dX15_holds_0 : decode cX15_holds 0 = .ok (.aload_n 0, 1) := by decide +kernel
theorem dX15_holds_1 : decode cX15_holds 1 = .ok (.aload_n 0, 1) := by decide +kernel
theorem dX15_holds_2 : decode cX15_holds 2 = .ok (.getfield 32, 3) := by decide +kernel
theorem dX15_holds_5 : decode cX15_holds 5 = .ok (.iload_n 1, 1) := by decide +kernel
theorem dX15_holds_6 : decode cX15_holds 6 = .ok (.iaload, 1) := by decide +kernel
theorem dX15_holds_7 : decode cX15_holds 7 = .ok (.aload_n 0, 1) := by decide +kernel
theorem dX15_holds_8 : decode cX15_holds 8 = .ok (.getfield 35, 3) := by decide +kernel
theorem dX15_holds_11 : decode cX15_holds 11 = .ok (.iload_n 1, 1) := by decide +kernel
theorem dX15_holds_12 : decode cX15_holds 12 = .ok (.iaload, 1) := by decide +kernel
theorem dX15_holds_13 : decode cX15_holds 13 = .ok (.invokevirtual 227, 3) := by decide +kernel
theorem dX15_holds_16 : decode cX15_holds 16 = .ok (.aload_n 0, 1) := by decide +kernel
theorem dX15_holds_17 : decode cX15_holds 17 = .ok (.getfield 198, 3) := by decide +kernel
theorem dX15_holds_20 : decode cX15_holds 20 = .ok (.ifCond .le 5, 3) := by decide +kernel
theorem dX15_holds_25 : decode cX15_holds 25 = .ok (.aload_n 0, 1) := by decide +kernel
theorem dX15_holds_26 : decode cX15_holds 26 = .ok (.aload_n 0, 1) := by decide +kernel
theorem dX15_holds_27 : decode cX15_holds 27 = .ok (.getfield 78, 3) := by decide +kernel
theorem dX15_holds_30 : decode cX15_holds 30 = .ok (.iconst 0, 1) := by decide +kernel
theorem dX15_holds_31 : decode cX15_holds 31 = .ok (.laload, 1) := by decide +kernel
theorem dX15_holds_32 : decode cX15_holds 32 = .ok (.putfield 231, 3) := by decide +kernel
theorem dX15_holds_35 : decode cX15_holds 35 = .ok (.aload_n 0, 1) := by decide +kernel
theorem dX15_holds_36 : decode cX15_holds 36 = .ok (.aload_n 0, 1) := by decide +kernel
theorem dX15_holds_37 : decode cX15_holds 37 = .ok (.getfield 81, 3) := by decide +kernel
theorem dX15_holds_40 : decode cX15_holds 40 = .ok (.iconst 0, 1) := by decide +kernel
theorem dX15_holds_41 : decode cX15_holds 41 = .ok (.laload, 1) := by decide +kernel
theorem dX15_holds_42 : decode cX15_holds 42 = .ok (.putfield 234, 3) := by decide +kernel
theorem dX15_holds_45 : decode cX15_holds 45 = .ok (.iload_n 2, 1) := by decide +kernel
theorem dX15_holds_46 : decode cX15_holds 46 = .ok (.ifCond .lt 23, 3) := by decide +kernel
theorem dX15_holds_69 : decode cX15_holds 69 = .ok (.aload_n 0, 1) := by decide +kernel
theorem dX15_holds_70 : decode cX15_holds 70 = .ok (.aload_n 0, 1) := by decide +kernel
theorem dX15_holds_71 : decode cX15_holds 71 = .ok (.getfield 35, 3) := by decide +kernel
theorem dX15_holds_74 : decode cX15_holds 74 = .ok (.iload_n 1, 1) := by decide +kernel
theorem dX15_holds_75 : decode cX15_holds 75 = .ok (.iaload, 1) := by decide +kernel
theorem dX15_holds_76 : decode cX15_holds 76 = .ok (.aload_n 0, 1) := by decide +kernel
theorem dX15_holds_77 : decode cX15_holds 77 = .ok (.getfield 38, 3) := by decide +kernel
theorem dX15_holds_80 : decode cX15_holds 80 = .ok (.iload_n 1, 1) := by decide +kernel
theorem dX15_holds_81 : decode cX15_holds 81 = .ok (.iaload, 1) := by decide +kernel
theorem dX15_holds_82 : decode cX15_holds 82 = .ok (.invokevirtual 227, 3) := by decide +kernel
theorem dX15_holds_85 : decode cX15_holds 85 = .ok (.aload_n 0, 1) := by decide +kernel
theorem dX15_holds_86 : decode cX15_holds 86 = .ok (.getfield 198, 3) := by decide +kernel
theorem dX15_holds_89 : decode cX15_holds 89 = .ok (.ifCond .le 5, 3) := by decide +kernel
theorem dX15_holds_94 : decode cX15_holds 94 = .ok (.iload_n 2, 1) := by decide +kernel
theorem dX15_holds_95 : decode cX15_holds 95 = .ok (.ifCond .lt 27, 3) := by decide +kernel
theorem dX15_holds_122 : decode cX15_holds 122 = .ok (.aload_n 0, 1) := by decide +kernel
theorem dX15_holds_123 : decode cX15_holds 123 = .ok (.aload_n 0, 1) := by decide +kernel
theorem dX15_holds_124 : decode cX15_holds 124 = .ok (.getfield 231, 3) := by decide +kernel
theorem dX15_holds_127 : decode cX15_holds 127 = .ok (.aload_n 0, 1) := by decide +kernel
theorem dX15_holds_128 : decode cX15_holds 128 = .ok (.getfield 81, 3) := by decide +kernel
theorem dX15_holds_131 : decode cX15_holds 131 = .ok (.iconst 0, 1) := by decide +kernel
theorem dX15_holds_132 : decode cX15_holds 132 = .ok (.laload, 1) := by decide +kernel
theorem dX15_holds_133 : decode cX15_holds 133 = .ok (.invokevirtual 216, 3) := by decide +kernel
theorem dX15_holds_136 : decode cX15_holds 136 = .ok (.lstore_n 3, 1) := by decide +kernel
theorem dX15_holds_137 : decode cX15_holds 137 = .ok (.aload_n 0, 1) := by decide +kernel
theorem dX15_holds_138 : decode cX15_holds 138 = .ok (.aload_n 0, 1) := by decide +kernel
theorem dX15_holds_139 : decode cX15_holds 139 = .ok (.getfield 78, 3) := by decide +kernel
theorem dX15_holds_142 : decode cX15_holds 142 = .ok (.iconst 0, 1) := by decide +kernel
theorem dX15_holds_143 : decode cX15_holds 143 = .ok (.laload, 1) := by decide +kernel
theorem dX15_holds_144 : decode cX15_holds 144 = .ok (.aload_n 0, 1) := by decide +kernel
theorem dX15_holds_145 : decode cX15_holds 145 = .ok (.getfield 234, 3) := by decide +kernel
theorem dX15_holds_148 : decode cX15_holds 148 = .ok (.invokevirtual 216, 3) := by decide +kernel
theorem dX15_holds_151 : decode cX15_holds 151 = .ok (.lstore 5, 2) := by decide +kernel
theorem dX15_holds_153 : decode cX15_holds 153 = .ok (.aload_n 0, 1) := by decide +kernel
theorem dX15_holds_154 : decode cX15_holds 154 = .ok (.getfield 198, 3) := by decide +kernel
theorem dX15_holds_157 : decode cX15_holds 157 = .ok (.ifCond .le 5, 3) := by decide +kernel
theorem dX15_holds_162 : decode cX15_holds 162 = .ok (.aload_n 0, 1) := by decide +kernel
theorem dX15_holds_163 : decode cX15_holds 163 = .ok (.getfield 41, 3) := by decide +kernel
theorem dX15_holds_166 : decode cX15_holds 166 = .ok (.iload_n 1, 1) := by decide +kernel
theorem dX15_holds_167 : decode cX15_holds 167 = .ok (.iaload, 1) := by decide +kernel
theorem dX15_holds_168 : decode cX15_holds 168 = .ok (.istore 7, 2) := by decide +kernel
theorem dX15_holds_170 : decode cX15_holds 170 = .ok (.iload 7, 2) := by decide +kernel
theorem dX15_holds_172 : decode cX15_holds 172 = .ok (.ifCond .ne 18, 3) := by decide +kernel
theorem dX15_holds_190 : decode cX15_holds 190 = .ok (.iload 7, 2) := by decide +kernel
theorem dX15_holds_192 : decode cX15_holds 192 = .ok (.iconst 1, 1) := by decide +kernel
theorem dX15_holds_193 : decode cX15_holds 193 = .ok (.if_icmp .ne 18, 3) := by decide +kernel
theorem dX15_holds_211 : decode cX15_holds 211 = .ok (.iload 7, 2) := by decide +kernel
theorem dX15_holds_213 : decode cX15_holds 213 = .ok (.iconst 2, 1) := by decide +kernel
theorem dX15_holds_214 : decode cX15_holds 214 = .ok (.if_icmp .ne 18, 3) := by decide +kernel
theorem dX15_holds_232 : decode cX15_holds 232 = .ok (.iload 7, 2) := by decide +kernel
theorem dX15_holds_234 : decode cX15_holds 234 = .ok (.iconst 3, 1) := by decide +kernel
theorem dX15_holds_235 : decode cX15_holds 235 = .ok (.if_icmp .ne 18, 3) := by decide +kernel
theorem dX15_holds_253 : decode cX15_holds 253 = .ok (.lload_n 3, 1) := by decide +kernel
theorem dX15_holds_254 : decode cX15_holds 254 = .ok (.lload 5, 2) := by decide +kernel
theorem dX15_holds_256 : decode cX15_holds 256 = .ok (.lcmp, 1) := by decide +kernel
theorem dX15_holds_257 : decode cX15_holds 257 = .ok (.ifCond .le 7, 3) := by decide +kernel
theorem dX15_holds_264 : decode cX15_holds 264 = .ok (.iconst 0, 1) := by decide +kernel
theorem dX15_holds_265 : decode cX15_holds 265 = .ok (.ireturn, 1) := by decide +kernel
theorem dX15_holds_260 : decode cX15_holds 260 = .ok (.iconst 1, 1) := by decide +kernel
theorem dX15_holds_261 : decode cX15_holds 261 = .ok (.goto 4, 3) := by decide +kernel
theorem dX15_holds_238 : decode cX15_holds 238 = .ok (.lload_n 3, 1) := by decide +kernel
theorem dX15_holds_239 : decode cX15_holds 239 = .ok (.lload 5, 2) := by decide +kernel
theorem dX15_holds_241 : decode cX15_holds 241 = .ok (.lcmp, 1) := by decide +kernel
theorem dX15_holds_242 : decode cX15_holds 242 = .ok (.ifCond .lt 7, 3) := by decide +kernel
theorem dX15_holds_249 : decode cX15_holds 249 = .ok (.iconst 0, 1) := by decide +kernel
theorem dX15_holds_250 : decode cX15_holds 250 = .ok (.goto 15, 3) := by decide +kernel
theorem dX15_holds_245 : decode cX15_holds 245 = .ok (.iconst 1, 1) := by decide +kernel
theorem dX15_holds_246 : decode cX15_holds 246 = .ok (.goto 19, 3) := by decide +kernel
theorem dX15_holds_217 : decode cX15_holds 217 = .ok (.lload_n 3, 1) := by decide +kernel
theorem dX15_holds_218 : decode cX15_holds 218 = .ok (.lload 5, 2) := by decide +kernel
theorem dX15_holds_220 : decode cX15_holds 220 = .ok (.lcmp, 1) := by decide +kernel
theorem dX15_holds_221 : decode cX15_holds 221 = .ok (.ifCond .ne 7, 3) := by decide +kernel
theorem dX15_holds_228 : decode cX15_holds 228 = .ok (.iconst 0, 1) := by decide +kernel
theorem dX15_holds_229 : decode cX15_holds 229 = .ok (.goto 36, 3) := by decide +kernel
theorem dX15_holds_224 : decode cX15_holds 224 = .ok (.iconst 1, 1) := by decide +kernel
theorem dX15_holds_225 : decode cX15_holds 225 = .ok (.goto 40, 3) := by decide +kernel
theorem dX15_holds_196 : decode cX15_holds 196 = .ok (.lload_n 3, 1) := by decide +kernel
theorem dX15_holds_197 : decode cX15_holds 197 = .ok (.lload 5, 2) := by decide +kernel
theorem dX15_holds_199 : decode cX15_holds 199 = .ok (.lcmp, 1) := by decide +kernel
theorem dX15_holds_200 : decode cX15_holds 200 = .ok (.ifCond .gt 7, 3) := by decide +kernel
theorem dX15_holds_207 : decode cX15_holds 207 = .ok (.iconst 0, 1) := by decide +kernel
theorem dX15_holds_208 : decode cX15_holds 208 = .ok (.goto 57, 3) := by decide +kernel
theorem dX15_holds_203 : decode cX15_holds 203 = .ok (.iconst 1, 1) := by decide +kernel
theorem dX15_holds_204 : decode cX15_holds 204 = .ok (.goto 61, 3) := by decide +kernel
theorem dX15_holds_175 : decode cX15_holds 175 = .ok (.lload_n 3, 1) := by decide +kernel
theorem dX15_holds_176 : decode cX15_holds 176 = .ok (.lload 5, 2) := by decide +kernel
theorem dX15_holds_178 : decode cX15_holds 178 = .ok (.lcmp, 1) := by decide +kernel
theorem dX15_holds_179 : decode cX15_holds 179 = .ok (.ifCond .ge 7, 3) := by decide +kernel
theorem dX15_holds_186 : decode cX15_holds 186 = .ok (.iconst 0, 1) := by decide +kernel
theorem dX15_holds_187 : decode cX15_holds 187 = .ok (.goto 78, 3) := by decide +kernel
theorem dX15_holds_182 : decode cX15_holds 182 = .ok (.iconst 1, 1) := by decide +kernel
theorem dX15_holds_183 : decode cX15_holds 183 = .ok (.goto 82, 3) := by decide +kernel
theorem dX15_holds_160 : decode cX15_holds 160 = .ok (.iconst 0, 1) := by decide +kernel
theorem dX15_holds_161 : decode cX15_holds 161 = .ok (.ireturn, 1) := by decide +kernel
theorem dX15_holds_98 : decode cX15_holds 98 = .ok (.aload_n 0, 1) := by decide +kernel
theorem dX15_holds_99 : decode cX15_holds 99 = .ok (.getfield 63, 3) := by decide +kernel
theorem dX15_holds_102 : decode cX15_holds 102 = .ok (.iload_n 2, 1) := by decide +kernel
theorem dX15_holds_103 : decode cX15_holds 103 = .ok (.aload_n 0, 1) := by decide +kernel
theorem dX15_holds_104 : decode cX15_holds 104 = .ok (.getfield 78, 3) := by decide +kernel
theorem dX15_holds_107 : decode cX15_holds 107 = .ok (.iconst 0, 1) := by decide +kernel
theorem dX15_holds_108 : decode cX15_holds 108 = .ok (.laload, 1) := by decide +kernel
theorem dX15_holds_109 : decode cX15_holds 109 = .ok (.lastore, 1) := by decide +kernel
theorem dX15_holds_110 : decode cX15_holds 110 = .ok (.aload_n 0, 1) := by decide +kernel
theorem dX15_holds_111 : decode cX15_holds 111 = .ok (.getfield 66, 3) := by decide +kernel
theorem dX15_holds_114 : decode cX15_holds 114 = .ok (.iload_n 2, 1) := by decide +kernel
theorem dX15_holds_115 : decode cX15_holds 115 = .ok (.aload_n 0, 1) := by decide +kernel
theorem dX15_holds_116 : decode cX15_holds 116 = .ok (.getfield 81, 3) := by decide +kernel
theorem dX15_holds_119 : decode cX15_holds 119 = .ok (.iconst 0, 1) := by decide +kernel
theorem dX15_holds_120 : decode cX15_holds 120 = .ok (.laload, 1) := by decide +kernel
theorem dX15_holds_121 : decode cX15_holds 121 = .ok (.lastore, 1) := by decide +kernel
theorem dX15_holds_92 : decode cX15_holds 92 = .ok (.iconst 0, 1) := by decide +kernel
theorem dX15_holds_93 : decode cX15_holds 93 = .ok (.ireturn, 1) := by decide +kernel
theorem dX15_holds_49 : decode cX15_holds 49 = .ok (.aload_n 0, 1) := by decide +kernel
theorem dX15_holds_50 : decode cX15_holds 50 = .ok (.getfield 57, 3) := by decide +kernel
theorem dX15_holds_53 : decode cX15_holds 53 = .ok (.iload_n 2, 1) := by decide +kernel
theorem dX15_holds_54 : decode cX15_holds 54 = .ok (.aload_n 0, 1) := by decide +kernel
theorem dX15_holds_55 : decode cX15_holds 55 = .ok (.getfield 231, 3) := by decide +kernel
theorem dX15_holds_58 : decode cX15_holds 58 = .ok (.lastore, 1) := by decide +kernel
theorem dX15_holds_59 : decode cX15_holds 59 = .ok (.aload_n 0, 1) := by decide +kernel
theorem dX15_holds_60 : decode cX15_holds 60 = .ok (.getfield 60, 3) := by decide +kernel
theorem dX15_holds_63 : decode cX15_holds 63 = .ok (.iload_n 2, 1) := by decide +kernel
theorem dX15_holds_64 : decode cX15_holds 64 = .ok (.aload_n 0, 1) := by decide +kernel
theorem dX15_holds_65 : decode cX15_holds 65 = .ok (.getfield 234, 3) := by decide +kernel
theorem dX15_holds_68 : decode cX15_holds 68 = .ok (.lastore, 1) := by decide +kernel
theorem dX15_holds_23 : decode cX15_holds 23 = .ok (.iconst 0, 1) := by decide +kernel
theorem dX15_holds_24 : decode cX15_holds 24 = .ok (.ireturn, 1) := by decide +kernel
theorem zl_X15_144 : zm_L zk_E RX15 144 yX15_operation (.code yX15_operation cX15_operation 1 (some .int)) 1 ∧ Cond.static yX15_operation ∈ zk_E.2.2.1 := ⟨⟨zk_b18 52 (by decide +kernel) rfl, zk_b1 15 (by decide +kernel) rfl, zk_b18 50 (by decide +kernel) rfl, by decide +kernel, by decide +kernel, by decide +kernel⟩, zk_b18 51 (by decide +kernel) rfl⟩
theorem zl_X15_151 : zm_L zk_E RX15 151 yX15_unpile (.code yX15_unpile cX15_unpile 2 none) 1 ∧ Cond.instanceMethod yX15_unpile ∈ zk_E.2.2.1 ∧ Cond.selects yX15_unpile.cls yX15_unpile yX15_unpile ∈ zk_E.2.2.1 := ⟨⟨zk_b18 60 (by decide +kernel) rfl, zk_b1 15 (by decide +kernel) rfl, zk_b18 57 (by decide +kernel) rfl, by decide +kernel, by decide +kernel, by decide +kernel⟩, zk_b18 59 (by decide +kernel) rfl, zk_s13 (q := (yX15_unpile, 44)) 13 (by decide +kernel)⟩
theorem zl_X15_147 : zm_L zk_E RX15 147 yX15_take (.code yX15_take cX15_take 2 none) 1 ∧ Cond.instanceMethod yX15_take ∈ zk_E.2.2.1 ∧ Cond.selects yX15_take.cls yX15_take yX15_take ∈ zk_E.2.2.1 := ⟨⟨zk_b18 41 (by decide +kernel) rfl, zk_b1 15 (by decide +kernel) rfl, zk_b18 38 (by decide +kernel) rfl, by decide +kernel, by decide +kernel, by decide +kernel⟩, zk_b18 40 (by decide +kernel) rfl, zk_s13 (q := (yX15_take, 44)) 9 (by decide +kernel)⟩
theorem zl_X15_155 : zm_F zk_E RX15 155 15 33 := ⟨RX15, TX15, 44, rfl, zk_i15, by decide, zk_b14 8 (by decide +kernel) rfl⟩
theorem zt_15_33 : zm_T zk_E RX15 15 33 .int false := ⟨RX15, TX15, 44, tyX15, rfl, tyX15_ok, nmX15, rfl, rfl, rfl⟩
theorem zl_X15_158 : zm_L zk_E RX15 158 yX15_side (.code yX15_side cX15_side 6 none) 0 ∧ Cond.instanceMethod yX15_side ∈ zk_E.2.2.1 ∧ Cond.selects yX15_side.cls yX15_side yX15_side ∈ zk_E.2.2.1 := ⟨⟨zk_b18 49 (by decide +kernel) rfl, zk_b1 15 (by decide +kernel) rfl, zk_b18 46 (by decide +kernel) rfl, by decide +kernel, by decide +kernel, by decide +kernel⟩, zk_b18 48 (by decide +kernel) rfl, zk_s13 (q := (yX15_side, 44)) 11 (by decide +kernel)⟩
theorem zl_X15_161 : zm_L zk_E RX15 161 yX15_relation (.code yX15_relation cX15_relation 1 (some .int)) 1 ∧ Cond.static yX15_relation ∈ zk_E.2.2.1 := ⟨⟨zk_b18 63 (by decide +kernel) rfl, zk_b1 15 (by decide +kernel) rfl, zk_b18 61 (by decide +kernel) rfl, by decide +kernel, by decide +kernel, by decide +kernel⟩, zk_b18 62 (by decide +kernel) rfl⟩
theorem zl_X15_164 : zm_F zk_E RX15 164 15 32 := ⟨RX15, TX15, 44, rfl, zk_i15, by decide, zk_b14 7 (by decide +kernel) rfl⟩
theorem zt_15_32 : zm_T zk_E RX15 15 32 .int false := ⟨RX15, TX15, 44, tyX15, rfl, tyX15_ok, nmX15, rfl, rfl, rfl⟩
theorem zl_X15_171 : zm_L zk_E RX15 171 yX15_clause (.code yX15_clause cX15_clause 2 none) 0 ∧ Cond.instanceMethod yX15_clause ∈ zk_E.2.2.1 ∧ Cond.selects yX15_clause.cls yX15_clause yX15_clause ∈ zk_E.2.2.1 := ⟨⟨zk_b18 45 (by decide +kernel) rfl, zk_b1 15 (by decide +kernel) rfl, zk_b18 42 (by decide +kernel) rfl, by decide +kernel, by decide +kernel, by decide +kernel⟩, zk_b18 44 (by decide +kernel) rfl, zk_s13 (q := (yX15_clause, 44)) 10 (by decide +kernel)⟩
theorem zl_X15_167 : zm_L zk_E RX15 167 yX15_isNew (.code yX15_isNew cX15_isNew 5 (some .boolean)) 1 ∧ Cond.instanceMethod yX15_isNew ∈ zk_E.2.2.1 ∧ Cond.selects yX15_isNew.cls yX15_isNew yX15_isNew ∈ zk_E.2.2.1 := ⟨⟨zk_b18 37 (by decide +kernel) rfl, zk_b1 15 (by decide +kernel) rfl, zk_b18 34 (by decide +kernel) rfl, by decide +kernel, by decide +kernel, by decide +kernel⟩, zk_b18 36 (by decide +kernel) rfl, zk_s13 (q := (yX15_isNew, 44)) 8 (by decide +kernel)⟩
theorem zl_X15_174 : zm_F zk_E RX15 174 15 5 := ⟨RX15, TX15, 44, rfl, zk_i15, by decide, zk_b13 217 (by decide +kernel) rfl⟩
theorem zt_15_5 : zm_T zk_E RX15 15 5 .int false := ⟨RX15, TX15, 44, tyX15, rfl, tyX15_ok, nmX15, rfl, rfl, rfl⟩
theorem zl_X15_177 : zm_F zk_E RX15 177 15 10 := ⟨RX15, TX15, 44, rfl, zk_i15, by decide, zk_b13 223 (by decide +kernel) rfl⟩
theorem zt_15_10 : zm_T zk_E RX15 15 10 .int false := ⟨RX15, TX15, 44, tyX15, rfl, tyX15_ok, nmX15, rfl, rfl, rfl⟩
theorem zl_X15_180 : zm_F zk_E RX15 180 15 15 := ⟨RX15, TX15, 44, rfl, zk_i15, by decide, zk_b13 228 (by decide +kernel) rfl⟩
theorem zt_15_15 : zm_T zk_E RX15 15 15 .int false := ⟨RX15, TX15, 44, tyX15, rfl, tyX15_ok, nmX15, rfl, rfl, rfl⟩
theorem zl_X15_183 : zm_L zk_E RX15 183 yX15_rule (.code yX15_rule cX15_rule 2 none) 0 ∧ Cond.instanceMethod yX15_rule ∈ zk_E.2.2.1 ∧ Cond.selects yX15_rule.cls yX15_rule yX15_rule ∈ zk_E.2.2.1 := ⟨⟨zk_b18 33 (by decide +kernel) rfl, zk_b1 15 (by decide +kernel) rfl, zk_b18 30 (by decide +kernel) rfl, by decide +kernel, by decide +kernel, by decide +kernel⟩, zk_b18 32 (by decide +kernel) rfl, zk_s13 (q := (yX15_rule, 44)) 7 (by decide +kernel)⟩
theorem zl_X15_186 : zm_L zk_E RX15 186 yX15_adopt (.code yX15_adopt cX15_adopt 2 none) 0 ∧ Cond.instanceMethod yX15_adopt ∈ zk_E.2.2.1 ∧ Cond.selects yX15_adopt.cls yX15_adopt yX15_adopt ∈ zk_E.2.2.1 := ⟨⟨zk_b18 67 (by decide +kernel) rfl, zk_b1 15 (by decide +kernel) rfl, zk_b18 64 (by decide +kernel) rfl, by decide +kernel, by decide +kernel, by decide +kernel⟩, zk_b18 66 (by decide +kernel) rfl, zk_s13 (q := (yX15_adopt, 44)) 14 (by decide +kernel)⟩
theorem zl_X15_189 : zm_F zk_E RX15 189 15 2 := ⟨RX15, TX15, 44, rfl, zk_i15, by decide, zk_b13 213 (by decide +kernel) rfl⟩
theorem zl_X15_192 : zm_L zk_E RX15 192 yX15_factOf (.code yX15_factOf cX15_factOf 5 (some .int)) 1 ∧ Cond.instanceMethod yX15_factOf ∈ zk_E.2.2.1 ∧ Cond.selects yX15_factOf.cls yX15_factOf yX15_factOf ∈ zk_E.2.2.1 := ⟨⟨zk_b18 84 (by decide +kernel) rfl, zk_b1 15 (by decide +kernel) rfl, zk_b18 89 (by decide +kernel) rfl, by decide +kernel, by decide +kernel, by decide +kernel⟩, zk_b18 82 (by decide +kernel) rfl, zk_b18 83 (by decide +kernel) rfl⟩
theorem zt_15_2 : zm_T zk_E RX15 15 2 .int false := ⟨RX15, TX15, 44, tyX15, rfl, tyX15_ok, nmX15, rfl, rfl, rfl⟩
theorem zl_X15_196 : Cond.constantLong RX15 196 (1000000000000 : Int64) ∈ zk_E.2.2.1 := zk_b18 90 (by decide +kernel) rfl
theorem zl_X15_198 : zm_F zk_E RX15 198 15 40 := ⟨RX15, TX15, 44, rfl, zk_i15, by decide, zk_b14 15 (by decide +kernel) rfl⟩
theorem zt_15_40 : zm_T zk_E RX15 15 40 .int false := ⟨RX15, TX15, 44, tyX15, rfl, tyX15_ok, nmX15, rfl, rfl, rfl⟩
theorem zl_X15_201 : zm_F zk_E RX15 201 15 41 := ⟨RX15, TX15, 44, rfl, zk_i15, by decide, zk_b14 16 (by decide +kernel) rfl⟩
theorem zt_15_41 : zm_T zk_E RX15 15 41 .long false := ⟨RX15, TX15, 44, tyX15, rfl, tyX15_ok, nmX15, rfl, rfl, rfl⟩
theorem zl_X15_204 : zm_L zk_E RX15 204 yX15_opens (.code yX15_opens cX15_opens 4 none) 2 ∧ Cond.instanceMethod yX15_opens ∈ zk_E.2.2.1 ∧ Cond.selects yX15_opens.cls yX15_opens yX15_opens ∈ zk_E.2.2.1 := ⟨⟨zk_b18 127 (by decide +kernel) rfl, zk_b1 15 (by decide +kernel) rfl, zk_b18 124 (by decide +kernel) rfl, by decide +kernel, by decide +kernel, by decide +kernel⟩, zk_b18 126 (by decide +kernel) rfl, zk_s14 (q := (yX15_opens, 44)) 4 (by decide +kernel)⟩
theorem zl_X15_207 : zm_F zk_E RX15 207 15 39 := ⟨RX15, TX15, 44, rfl, zk_i15, by decide, zk_b14 14 (by decide +kernel) rfl⟩
theorem zt_15_39 : zm_T zk_E RX15 15 39 .int false := ⟨RX15, TX15, 44, tyX15, rfl, tyX15_ok, nmX15, rfl, rfl, rfl⟩
theorem zl_X15_210 : Cond.constantLong RX15 210 (-9223372036854775808 : Int64) ∈ zk_E.2.2.1 := zk_b18 123 (by decide +kernel) rfl
theorem zl_X15_216 : zm_L zk_E RX15 216 yX15_times (.code yX15_times cX15_times 7 (some .long)) 2 ∧ Cond.instanceMethod yX15_times ∈ zk_E.2.2.1 ∧ Cond.selects yX15_times.cls yX15_times yX15_times ∈ zk_E.2.2.1 := ⟨⟨zk_b18 135 (by decide +kernel) rfl, zk_b1 15 (by decide +kernel) rfl, zk_b18 132 (by decide +kernel) rfl, by decide +kernel, by decide +kernel, by decide +kernel⟩, zk_b18 134 (by decide +kernel) rfl, zk_s14 (q := (yX15_times, 44)) 6 (by decide +kernel)⟩
theorem zl_X15_220 : zm_L zk_E RX15 220 yX15_plus (.code yX15_plus cX15_plus 9 (some .long)) 3 ∧ Cond.instanceMethod yX15_plus ∈ zk_E.2.2.1 ∧ Cond.selects yX15_plus.cls yX15_plus yX15_plus ∈ zk_E.2.2.1 := ⟨⟨zk_b18 139 (by decide +kernel) rfl, zk_b1 15 (by decide +kernel) rfl, zk_b18 136 (by decide +kernel) rfl, by decide +kernel, by decide +kernel, by decide +kernel⟩, zk_b18 138 (by decide +kernel) rfl, zk_s14 (q := (yX15_plus, 44)) 7 (by decide +kernel)⟩
theorem zl_X15_212 : zm_L zk_E RX15 212 yX15_push (.code yX15_push cX15_push 11 none) 2 ∧ Cond.instanceMethod yX15_push ∈ zk_E.2.2.1 ∧ Cond.selects yX15_push.cls yX15_push yX15_push ∈ zk_E.2.2.1 := ⟨⟨zk_b18 122 (by decide +kernel) rfl, zk_b1 15 (by decide +kernel) rfl, zk_b18 119 (by decide +kernel) rfl, by decide +kernel, by decide +kernel, by decide +kernel⟩, zk_b18 121 (by decide +kernel) rfl, zk_s14 (q := (yX15_push, 44)) 3 (by decide +kernel)⟩
theorem zl_X15_224 : zm_L zk_E RX15 224 yX15_operate (.code yX15_operate cX15_operate 10 none) 1 ∧ Cond.instanceMethod yX15_operate ∈ zk_E.2.2.1 ∧ Cond.selects yX15_operate.cls yX15_operate yX15_operate ∈ zk_E.2.2.1 := ⟨⟨zk_b18 131 (by decide +kernel) rfl, zk_b1 15 (by decide +kernel) rfl, zk_b18 128 (by decide +kernel) rfl, by decide +kernel, by decide +kernel, by decide +kernel⟩, zk_b18 130 (by decide +kernel) rfl, zk_s14 (q := (yX15_operate, 44)) 5 (by decide +kernel)⟩
theorem zl_X15_227 : zm_L zk_E RX15 227 yX15_reckon (.code yX15_reckon cX15_reckon 5 none) 2 ∧ Cond.instanceMethod yX15_reckon ∈ zk_E.2.2.1 ∧ Cond.selects yX15_reckon.cls yX15_reckon yX15_reckon ∈ zk_E.2.2.1 := ⟨⟨zk_b18 118 (by decide +kernel) rfl, zk_b1 15 (by decide +kernel) rfl, zk_b18 115 (by decide +kernel) rfl, by decide +kernel, by decide +kernel, by decide +kernel⟩, zk_b18 117 (by decide +kernel) rfl, zk_s14 (q := (yX15_reckon, 44)) 2 (by decide +kernel)⟩
theorem zl_X15_231 : zm_F zk_E RX15 231 15 42 := ⟨RX15, TX15, 44, rfl, zk_i15, by decide, zk_b14 17 (by decide +kernel) rfl⟩
theorem zt_15_42 : zm_T zk_E RX15 15 42 .long false := ⟨RX15, TX15, 44, tyX15, rfl, tyX15_ok, nmX15, rfl, rfl, rfl⟩
theorem zl_X15_234 : zm_F zk_E RX15 234 15 43 := ⟨RX15, TX15, 44, rfl, zk_i15, by decide, zk_b14 18 (by decide +kernel) rfl⟩
theorem zt_15_43 : zm_T zk_E RX15 15 43 .long false := ⟨RX15, TX15, 44, tyX15, rfl, tyX15_ok, nmX15, rfl, rfl, rfl⟩
set_option maxHeartbeats 4000000 in
set_option maxRecDepth 100000 in
theorem zt_X15_operation {l : Launch} {V : zm_V} {N : Nat} {S : zm_S} {out : (Int32 × zm_S)} {d : Nat} {i0 : Int32} (hd : 1 ≤ d) (h : zf_X15_operation N i0 S = some out) : zm_Met l zk_E V yX15_operation (.code yX15_operation cX15_operation 1 (some .int)) d [.int i0] S 0 0 (zo_i out) zo_x := by
  refine zm_of (by decide +kernel) (Nat.le_of_ble_eq_true rfl) ?_
  intro p e R s m args below meth c hRR hX hr hxt
  have hR : R.frames = d ∧ R.locals = 64 * d := by rw [hRR]; exact ⟨rfl, rfl⟩
  have hX : zm_X p R s m args meth c RX15 "operation" cX15_operation 1 zk_E V 0 0 := hX
  unfold zf_X15_operation at h
  refine zw_sub (lv' := [(0, .int i0)]) (List.forall_mem_cons.mpr ⟨rfl, zs_nil⟩) ?_
  refine zw_iload_n hX dX15_operation_0 rfl ?_
  refine zw_bipush (v := (43 : Int32)) hX dX15_operation_1 (by decide) ?_
  refine zw_icmp_ne (tgt := 10) hX dX15_operation_3 (by decide) (fun c3 => ?_) (fun c3 => ?_)
  · rw [if_neg c3] at h
    refine zw_iload_n hX dX15_operation_10 rfl ?_
    refine zw_bipush (v := (45 : Int32)) hX dX15_operation_11 (by decide) ?_
    refine zw_icmp_ne (tgt := 20) hX dX15_operation_13 (by decide) (fun c13 => ?_) (fun c13 => ?_)
    · rw [if_neg c13] at h
      refine zw_iload_n hX dX15_operation_20 rfl ?_
      refine zw_bipush (v := (42 : Int32)) hX dX15_operation_21 (by decide) ?_
      refine zw_icmp_ne (tgt := 30) hX dX15_operation_23 (by decide) (fun c23 => ?_) (fun c23 => ?_)
      · rw [if_neg c23] at h
        refine zw_iload_n hX dX15_operation_30 rfl ?_
        refine zw_bipush (v := (47 : Int32)) hX dX15_operation_31 (by decide) ?_
        refine zw_icmp_ne (tgt := 40) hX dX15_operation_33 (by decide) (fun c33 => ?_) (fun c33 => ?_)
        · rw [if_neg c33] at h
          refine zw_iconst (v := (0 : Int32)) hX dX15_operation_40 (by decide) ?_
          obtain rfl := Option.some.inj h
          exact zw_iret hX hr dX15_operation_41 rfl ⟨rfl, rfl⟩
        · rw [if_pos c33] at h
          refine zw_iconst (v := (5 : Int32)) hX dX15_operation_36 (by decide) ?_
          refine zw_goto (tgt := 41) hX dX15_operation_37 (by decide) ?_
          obtain rfl := Option.some.inj h
          exact zw_iret hX hr dX15_operation_41 rfl ⟨rfl, rfl⟩
      · rw [if_pos c23] at h
        refine zw_iconst (v := (4 : Int32)) hX dX15_operation_26 (by decide) ?_
        refine zw_goto (tgt := 41) hX dX15_operation_27 (by decide) ?_
        obtain rfl := Option.some.inj h
        exact zw_iret hX hr dX15_operation_41 rfl ⟨rfl, rfl⟩
    · rw [if_pos c13] at h
      refine zw_iconst (v := (3 : Int32)) hX dX15_operation_16 (by decide) ?_
      refine zw_goto (tgt := 41) hX dX15_operation_17 (by decide) ?_
      obtain rfl := Option.some.inj h
      exact zw_iret hX hr dX15_operation_41 rfl ⟨rfl, rfl⟩
  · rw [if_pos c3] at h
    refine zw_iconst (v := (2 : Int32)) hX dX15_operation_6 (by decide) ?_
    refine zw_goto (tgt := 41) hX dX15_operation_7 (by decide) ?_
    obtain rfl := Option.some.inj h
    exact zw_iret hX hr dX15_operation_41 rfl ⟨rfl, rfl⟩
set_option maxHeartbeats 4000000 in
set_option maxRecDepth 100000 in
theorem zt_X15_side_J306 {p : Program} {l : Launch} {e : Env} {R : Room} {s : State} {m : MethodId} {args : Array Value} {below : List Frame} {meth : Method} {c : Code} {V : zm_V} {mc ms d rc rs : Nat} (hX : zm_X p R s m args meth c RX15 "side" cX15_side 6 zk_E V mc ms) (hr : meth.sig.returnType = none) (hR : R.frames = d ∧ R.locals = 64 * d) (hd : 4 ≤ d) {N : Nat} {k : Nat → Int32 → Int32 → Int32 → Int32 → zm_S → Option ((Unit × zm_S) ⊕ ((Unit) × zm_S))} {a0 : Nat} {i1 : Int32} {i2 : Int32} {i3 : Int32} {t0 : Nat} {t1 : Int32} {res : (Unit × zm_S) ⊕ ((Unit) × zm_S)} {out : (Unit × zm_S)}   (hf : ∀ o, res = .inl o → o = out) (hk : ∀ (S' : zm_S), res = .inr ((), S') → zw p l e R s m args below meth c (vx_MQ below (zm_Qc zk_E V (zo_v out)) (zm_XC zk_E V zo_x) args s mc ms (fun q => V.2.2.2.1 ≤ q)) 6 zk_E V mc ms 315 [(0, .ref a0)] [] S' rc rs) (hrec : ∀ (i1' : Int32) (i2' : Int32) (i3' : Int32) (i4' : Int32) (S : zm_S), k a0 i1' i2' i3' i4' S = some res → zw p l e R s m args below meth c (vx_MQ below (zm_Qc zk_E V (zo_v out)) (zm_XC zk_E V zo_x) args s mc ms (fun q => V.2.2.2.1 ≤ q)) 6 zk_E V mc ms 14 [(0, .ref a0), (1, .int i1'), (2, .int i2'), (3, .int i3'), (4, .int i4')] [] S rc rs) {S : zm_S} (h : zf_X15_side_J306 N k a0 i1 i2 i3 t0 t1 S = some res) : zw p l e R s m args below meth c (vx_MQ below (zm_Qc zk_E V (zo_v out)) (zm_XC zk_E V zo_x) args s mc ms (fun q => V.2.2.2.1 ≤ q)) 6 zk_E V mc ms 306 [(0, .ref a0), (1, .int i1), (2, .int i2), (3, .int i3)] [.int t1, .ref t0] S rc rs := by
  unfold zf_X15_side_J306 at h
  obtain ⟨S7, g, h⟩ := zb_some h
  obtain ⟨gz, g⟩ := zp_z_spec g
  refine zw_putv hX zl_X15_121 zt_15_31 dX15_side_306 (zn_z gz) (zf_z gz) g ?_
  refine zw_iconst (v := (0 : Int32)) hX dX15_side_309 (by decide) ?_
  refine zw_istore hX dX15_side_310 (by decide) ?_
  refine zw_goto (tgt := 14) hX dX15_side_312 (by decide) ?_
  refine zw_sub (lv' := [(0, .ref a0), (1, .int i1), (2, .int i2), (3, .int i3), (4, .int (0 : Int32))]) (List.forall_mem_cons.mpr ⟨rfl, (List.forall_mem_cons.mpr ⟨rfl, (List.forall_mem_cons.mpr ⟨rfl, (List.forall_mem_cons.mpr ⟨rfl, (List.forall_mem_cons.mpr ⟨rfl, zs_nil⟩)⟩)⟩)⟩)⟩) ?_
  exact hrec _ _ _ _ _ h
set_option maxHeartbeats 4000000 in
set_option maxRecDepth 100000 in
theorem zt_X15_side_J296 {p : Program} {l : Launch} {e : Env} {R : Room} {s : State} {m : MethodId} {args : Array Value} {below : List Frame} {meth : Method} {c : Code} {V : zm_V} {mc ms d rc rs : Nat} (hX : zm_X p R s m args meth c RX15 "side" cX15_side 6 zk_E V mc ms) (hr : meth.sig.returnType = none) (hR : R.frames = d ∧ R.locals = 64 * d) (hd : 4 ≤ d) {N : Nat} {k : Nat → Int32 → Int32 → Int32 → Int32 → zm_S → Option ((Unit × zm_S) ⊕ ((Unit) × zm_S))} {a0 : Nat} {i1 : Int32} {i2 : Int32} {i3 : Int32} {res : (Unit × zm_S) ⊕ ((Unit) × zm_S)} {out : (Unit × zm_S)}   (hf : ∀ o, res = .inl o → o = out) (hk : ∀ (S' : zm_S), res = .inr ((), S') → zw p l e R s m args below meth c (vx_MQ below (zm_Qc zk_E V (zo_v out)) (zm_XC zk_E V zo_x) args s mc ms (fun q => V.2.2.2.1 ≤ q)) 6 zk_E V mc ms 315 [(0, .ref a0)] [] S' rc rs) (hrec : ∀ (i1' : Int32) (i2' : Int32) (i3' : Int32) (i4' : Int32) (S : zm_S), k a0 i1' i2' i3' i4' S = some res → zw p l e R s m args below meth c (vx_MQ below (zm_Qc zk_E V (zo_v out)) (zm_XC zk_E V zo_x) args s mc ms (fun q => V.2.2.2.1 ≤ q)) 6 zk_E V mc ms 14 [(0, .ref a0), (1, .int i1'), (2, .int i2'), (3, .int i3'), (4, .int i4')] [] S rc rs) {S : zm_S} (h : zf_X15_side_J296 N k a0 i1 i2 i3 S = some res) : zw p l e R s m args below meth c (vx_MQ below (zm_Qc zk_E V (zo_v out)) (zm_XC zk_E V zo_x) args s mc ms (fun q => V.2.2.2.1 ≤ q)) 6 zk_E V mc ms 296 [(0, .ref a0), (1, .int i1), (2, .int i2), (3, .int i3)] [] S rc rs := by
  unfold zf_X15_side_J296 at h
  refine zw_aload_n hX dX15_side_296 rfl ?_
  refine zw_iload_n hX dX15_side_297 rfl ?_
  refine zw_if_le (tgt := 305) hX dX15_side_298 (by decide) (fun c298 => ?_) (fun c298 => ?_)
  · rw [if_pos c298] at h
    refine zw_iconst (v := (0 : Int32)) hX dX15_side_305 (by decide) ?_
    refine zw_sub (lv' := [(0, .ref a0), (1, .int i1), (2, .int i2), (3, .int i3)]) (List.forall_mem_cons.mpr ⟨rfl, (List.forall_mem_cons.mpr ⟨rfl, (List.forall_mem_cons.mpr ⟨rfl, (List.forall_mem_cons.mpr ⟨rfl, zs_nil⟩)⟩)⟩)⟩) ?_
    exact zt_X15_side_J306 hX hr hR hd hf hk hrec h
  · rw [if_neg c298] at h
    refine zw_iconst (v := (1 : Int32)) hX dX15_side_301 (by decide) ?_
    refine zw_goto (tgt := 306) hX dX15_side_302 (by decide) ?_
    refine zw_sub (lv' := [(0, .ref a0), (1, .int i1), (2, .int i2), (3, .int i3)]) (List.forall_mem_cons.mpr ⟨rfl, (List.forall_mem_cons.mpr ⟨rfl, (List.forall_mem_cons.mpr ⟨rfl, (List.forall_mem_cons.mpr ⟨rfl, zs_nil⟩)⟩)⟩)⟩) ?_
    exact zt_X15_side_J306 hX hr hR hd hf hk hrec h
set_option maxHeartbeats 4000000 in
set_option maxRecDepth 100000 in
theorem zt_X15_side_J221 {p : Program} {l : Launch} {e : Env} {R : Room} {s : State} {m : MethodId} {args : Array Value} {below : List Frame} {meth : Method} {c : Code} {V : zm_V} {mc ms d rc rs : Nat} (hX : zm_X p R s m args meth c RX15 "side" cX15_side 6 zk_E V mc ms) (hr : meth.sig.returnType = none) (hR : R.frames = d ∧ R.locals = 64 * d) (hd : 4 ≤ d) {N : Nat} {k : Nat → Int32 → Int32 → Int32 → Int32 → zm_S → Option ((Unit × zm_S) ⊕ ((Unit) × zm_S))} {a0 : Nat} {i1 : Int32} {i4 : Int32} {i5 : Int32} {t0 : Nat} {t1 : Int32} {res : (Unit × zm_S) ⊕ ((Unit) × zm_S)} {out : (Unit × zm_S)}   (hf : ∀ o, res = .inl o → o = out) (hk : ∀ (S' : zm_S), res = .inr ((), S') → zw p l e R s m args below meth c (vx_MQ below (zm_Qc zk_E V (zo_v out)) (zm_XC zk_E V zo_x) args s mc ms (fun q => V.2.2.2.1 ≤ q)) 6 zk_E V mc ms 315 [(0, .ref a0)] [] S' rc rs) (hrec : ∀ (i1' : Int32) (i2' : Int32) (i3' : Int32) (i4' : Int32) (S : zm_S), k a0 i1' i2' i3' i4' S = some res → zw p l e R s m args below meth c (vx_MQ below (zm_Qc zk_E V (zo_v out)) (zm_XC zk_E V zo_x) args s mc ms (fun q => V.2.2.2.1 ≤ q)) 6 zk_E V mc ms 14 [(0, .ref a0), (1, .int i1'), (2, .int i2'), (3, .int i3'), (4, .int i4')] [] S rc rs) {S : zm_S} (h : zf_X15_side_J221 N k a0 i1 i4 i5 t0 t1 S = some res) : zw p l e R s m args below meth c (vx_MQ below (zm_Qc zk_E V (zo_v out)) (zm_XC zk_E V zo_x) args s mc ms (fun q => V.2.2.2.1 ≤ q)) 6 zk_E V mc ms 221 [(0, .ref a0), (1, .int i1), (4, .int i4), (5, .int i5)] [.int t1, .ref t0] S rc rs := by
  unfold zf_X15_side_J221 at h
  obtain ⟨_, gi, h⟩ := zb_some h
  obtain ⟨r15, g, h⟩ := zb_some h
  refine zc_Vv (as := [.int t1]) hX gi (zt_X15_unpile (d := d - 1) (by omega) g) zl_X15_151 rfl dX15_side_221 ⟨rfl, rfl, Nat.le_of_ble_eq_true rfl⟩ ⟨by omega, by omega⟩ ?_
  refine zw_aload_n hX dX15_side_224 rfl ?_
  obtain ⟨b16, g, h⟩ := zb_some h
  refine zw_getr hX zl_X15_75 dX15_side_225 g ?_
  refine zw_aload_n hX dX15_side_228 rfl ?_
  obtain ⟨v17, g, h⟩ := zb_some h
  refine zw_geti hX zl_X15_137 dX15_side_229 g ?_
  refine zw_iload hX dX15_side_232 rfl ?_
  obtain ⟨S18, g, h⟩ := zb_some h
  refine zw_si hX dX15_side_234 g ?_
  refine zw_aload_n hX dX15_side_235 rfl ?_
  refine zw_dup hX dX15_side_236 rfl ?_
  obtain ⟨v19, g, h⟩ := zb_some h
  refine zw_geti hX zl_X15_137 dX15_side_237 g ?_
  refine zw_iconst (v := (1 : Int32)) hX dX15_side_240 (by decide) ?_
  refine zw_iadd hX dX15_side_241 ?_
  obtain ⟨S20, g, h⟩ := zb_some h
  refine zw_putv hX zl_X15_137 zt_15_36 dX15_side_242 rfl rfl g ?_
  refine zw_iconst (v := (1 : Int32)) hX dX15_side_245 (by decide) ?_
  refine zw_istore_n hX dX15_side_246 (by decide) ?_
  refine zw_iconst (v := (0 : Int32)) hX dX15_side_247 (by decide) ?_
  refine zw_istore_n hX dX15_side_248 (by decide) ?_
  refine zw_aload_n hX dX15_side_249 rfl ?_
  refine zw_iconst (v := (1 : Int32)) hX dX15_side_250 (by decide) ?_
  obtain ⟨_, gi, h⟩ := zb_some h
  obtain ⟨r22, g, h⟩ := zb_some h
  refine zc_Vv (as := [.int (1 : Int32)]) hX gi (zt_X15_take (d := d - 1) (by omega) g) zl_X15_147 rfl dX15_side_251 ⟨rfl, rfl, Nat.le_of_ble_eq_true rfl⟩ ⟨by omega, by omega⟩ ?_
  refine zw_goto (tgt := 312) hX dX15_side_254 (by decide) ?_
  refine zw_goto (tgt := 14) hX dX15_side_312 (by decide) ?_
  refine zw_sub (lv' := [(0, .ref a0), (1, .int i1), (2, .int (0 : Int32)), (3, .int (1 : Int32)), (4, .int i4)]) (List.forall_mem_cons.mpr ⟨rfl, (List.forall_mem_cons.mpr ⟨rfl, (List.forall_mem_cons.mpr ⟨rfl, (List.forall_mem_cons.mpr ⟨rfl, (List.forall_mem_cons.mpr ⟨rfl, zs_nil⟩)⟩)⟩)⟩)⟩) ?_
  exact hrec _ _ _ _ _ h
set_option maxHeartbeats 4000000 in
set_option maxRecDepth 100000 in
theorem zt_X15_side_J193 {p : Program} {l : Launch} {e : Env} {R : Room} {s : State} {m : MethodId} {args : Array Value} {below : List Frame} {meth : Method} {c : Code} {V : zm_V} {mc ms d rc rs : Nat} (hX : zm_X p R s m args meth c RX15 "side" cX15_side 6 zk_E V mc ms) (hr : meth.sig.returnType = none) (hR : R.frames = d ∧ R.locals = 64 * d) (hd : 4 ≤ d) {N : Nat} {k : Nat → Int32 → Int32 → Int32 → Int32 → zm_S → Option ((Unit × zm_S) ⊕ ((Unit) × zm_S))} {a0 : Nat} {i1 : Int32} {i2 : Int32} {i3 : Int32} {i4 : Int32} {t0 : Nat} {res : (Unit × zm_S) ⊕ ((Unit) × zm_S)} {out : (Unit × zm_S)}   (hf : ∀ o, res = .inl o → o = out) (hk : ∀ (S' : zm_S), res = .inr ((), S') → zw p l e R s m args below meth c (vx_MQ below (zm_Qc zk_E V (zo_v out)) (zm_XC zk_E V zo_x) args s mc ms (fun q => V.2.2.2.1 ≤ q)) 6 zk_E V mc ms 315 [(0, .ref a0)] [] S' rc rs) (hrec : ∀ (i1' : Int32) (i2' : Int32) (i3' : Int32) (i4' : Int32) (S : zm_S), k a0 i1' i2' i3' i4' S = some res → zw p l e R s m args below meth c (vx_MQ below (zm_Qc zk_E V (zo_v out)) (zm_XC zk_E V zo_x) args s mc ms (fun q => V.2.2.2.1 ≤ q)) 6 zk_E V mc ms 14 [(0, .ref a0), (1, .int i1'), (2, .int i2'), (3, .int i3'), (4, .int i4')] [] S rc rs) {S : zm_S} (h : zf_X15_side_J193 N k a0 i1 i2 i3 i4 t0 S = some res) : zw p l e R s m args below meth c (vx_MQ below (zm_Qc zk_E V (zo_v out)) (zm_XC zk_E V zo_x) args s mc ms (fun q => V.2.2.2.1 ≤ q)) 6 zk_E V mc ms 193 [(0, .ref a0), (1, .int i1), (2, .int i2), (3, .int i3), (4, .int i4)] [.ref t0] S rc rs := by
  unfold zf_X15_side_J193 at h
  refine zw_iconst (v := (1 : Int32)) hX dX15_side_193 (by decide) ?_
  refine zw_goto (tgt := 198) hX dX15_side_194 (by decide) ?_
  obtain ⟨_, gi, h⟩ := zb_some h
  obtain ⟨r29, g, h⟩ := zb_some h
  refine zc_Vv (as := [.int (1 : Int32)]) hX gi (zt_X15_take (d := d - 1) (by omega) g) zl_X15_147 rfl dX15_side_198 ⟨rfl, rfl, Nat.le_of_ble_eq_true rfl⟩ ⟨by omega, by omega⟩ ?_
  refine zw_goto (tgt := 312) hX dX15_side_201 (by decide) ?_
  refine zw_goto (tgt := 14) hX dX15_side_312 (by decide) ?_
  refine zw_sub (lv' := [(0, .ref a0), (1, .int i1), (2, .int i2), (3, .int i3), (4, .int i4)]) (List.forall_mem_cons.mpr ⟨rfl, (List.forall_mem_cons.mpr ⟨rfl, (List.forall_mem_cons.mpr ⟨rfl, (List.forall_mem_cons.mpr ⟨rfl, (List.forall_mem_cons.mpr ⟨rfl, zs_nil⟩)⟩)⟩)⟩)⟩) ?_
  exact hrec _ _ _ _ _ h
set_option maxHeartbeats 4000000 in
set_option maxRecDepth 100000 in
theorem zt_X15_side_J167 {p : Program} {l : Launch} {e : Env} {R : Room} {s : State} {m : MethodId} {args : Array Value} {below : List Frame} {meth : Method} {c : Code} {V : zm_V} {mc ms d rc rs : Nat} (hX : zm_X p R s m args meth c RX15 "side" cX15_side 6 zk_E V mc ms) (hr : meth.sig.returnType = none) (hR : R.frames = d ∧ R.locals = 64 * d) (hd : 4 ≤ d) {N : Nat} {k : Nat → Int32 → Int32 → Int32 → Int32 → zm_S → Option ((Unit × zm_S) ⊕ ((Unit) × zm_S))} {a0 : Nat} {i1 : Int32} {i2 : Int32} {i4 : Int32} {t0 : Nat} {t1 : Int32} {res : (Unit × zm_S) ⊕ ((Unit) × zm_S)} {out : (Unit × zm_S)}   (hf : ∀ o, res = .inl o → o = out) (hk : ∀ (S' : zm_S), res = .inr ((), S') → zw p l e R s m args below meth c (vx_MQ below (zm_Qc zk_E V (zo_v out)) (zm_XC zk_E V zo_x) args s mc ms (fun q => V.2.2.2.1 ≤ q)) 6 zk_E V mc ms 315 [(0, .ref a0)] [] S' rc rs) (hrec : ∀ (i1' : Int32) (i2' : Int32) (i3' : Int32) (i4' : Int32) (S : zm_S), k a0 i1' i2' i3' i4' S = some res → zw p l e R s m args below meth c (vx_MQ below (zm_Qc zk_E V (zo_v out)) (zm_XC zk_E V zo_x) args s mc ms (fun q => V.2.2.2.1 ≤ q)) 6 zk_E V mc ms 14 [(0, .ref a0), (1, .int i1'), (2, .int i2'), (3, .int i3'), (4, .int i4')] [] S rc rs) {S : zm_S} (h : zf_X15_side_J167 N k a0 i1 i2 i4 t0 t1 S = some res) : zw p l e R s m args below meth c (vx_MQ below (zm_Qc zk_E V (zo_v out)) (zm_XC zk_E V zo_x) args s mc ms (fun q => V.2.2.2.1 ≤ q)) 6 zk_E V mc ms 167 [(0, .ref a0), (1, .int i1), (2, .int i2), (4, .int i4)] [.int t1, .ref t0] S rc rs := by
  unfold zf_X15_side_J167 at h
  refine zw_aload_n hX dX15_side_167 rfl ?_
  obtain ⟨w24, g, h⟩ := zb_some h
  refine zw_getl hX zl_X15_102 dX15_side_168 g ?_
  obtain ⟨_, gi, h⟩ := zb_some h
  obtain ⟨r26, g, h⟩ := zb_some h
  refine zc_Vv (as := [.int t1, .long w24]) hX gi (zt_X15_emit (d := d - 1) (by omega) g) zl_X15_140 rfl dX15_side_171 ⟨rfl, rfl, Nat.le_of_ble_eq_true rfl⟩ ⟨by omega, by omega⟩ ?_
  refine zw_iconst (v := (0 : Int32)) hX dX15_side_174 (by decide) ?_
  refine zw_istore_n hX dX15_side_175 (by decide) ?_
  refine zw_aload_n hX dX15_side_176 rfl ?_
  refine zw_aload_n hX dX15_side_177 rfl ?_
  obtain ⟨v27, g, h⟩ := zb_some h
  refine zw_geti hX zl_X15_99 dX15_side_178 g ?_
  refine zw_iconst (v := (1 : Int32)) hX dX15_side_181 (by decide) ?_
  refine zw_icmp_eq (tgt := 193) hX dX15_side_182 (by decide) (fun c182 => ?_) (fun c182 => ?_)
  · rw [if_pos c182] at h
    refine zw_sub (lv' := [(0, .ref a0), (1, .int i1), (2, .int i2), (3, .int (0 : Int32)), (4, .int i4)]) (List.forall_mem_cons.mpr ⟨rfl, (List.forall_mem_cons.mpr ⟨rfl, (List.forall_mem_cons.mpr ⟨rfl, (List.forall_mem_cons.mpr ⟨rfl, (List.forall_mem_cons.mpr ⟨rfl, zs_nil⟩)⟩)⟩)⟩)⟩) ?_
    exact zt_X15_side_J193 hX hr hR hd hf hk hrec h
  · rw [if_neg c182] at h
    refine zw_aload_n hX dX15_side_185 rfl ?_
    obtain ⟨v30, g, h⟩ := zb_some h
    refine zw_geti hX zl_X15_99 dX15_side_186 g ?_
    refine zw_iconst (v := (2 : Int32)) hX dX15_side_189 (by decide) ?_
    refine zw_icmp_ne (tgt := 197) hX dX15_side_190 (by decide) (fun c190 => ?_) (fun c190 => ?_)
    · rw [if_neg c190] at h
      refine zw_iconst (v := (0 : Int32)) hX dX15_side_197 (by decide) ?_
      obtain ⟨_, gi, h⟩ := zb_some h
      obtain ⟨r32, g, h⟩ := zb_some h
      refine zc_Vv (as := [.int (0 : Int32)]) hX gi (zt_X15_take (d := d - 1) (by omega) g) zl_X15_147 rfl dX15_side_198 ⟨rfl, rfl, Nat.le_of_ble_eq_true rfl⟩ ⟨by omega, by omega⟩ ?_
      refine zw_goto (tgt := 312) hX dX15_side_201 (by decide) ?_
      refine zw_goto (tgt := 14) hX dX15_side_312 (by decide) ?_
      refine zw_sub (lv' := [(0, .ref a0), (1, .int i1), (2, .int i2), (3, .int (0 : Int32)), (4, .int i4)]) (List.forall_mem_cons.mpr ⟨rfl, (List.forall_mem_cons.mpr ⟨rfl, (List.forall_mem_cons.mpr ⟨rfl, (List.forall_mem_cons.mpr ⟨rfl, (List.forall_mem_cons.mpr ⟨rfl, zs_nil⟩)⟩)⟩)⟩)⟩) ?_
      exact hrec _ _ _ _ _ h
    · rw [if_pos c190] at h
      refine zw_sub (lv' := [(0, .ref a0), (1, .int i1), (2, .int i2), (3, .int (0 : Int32)), (4, .int i4)]) (List.forall_mem_cons.mpr ⟨rfl, (List.forall_mem_cons.mpr ⟨rfl, (List.forall_mem_cons.mpr ⟨rfl, (List.forall_mem_cons.mpr ⟨rfl, (List.forall_mem_cons.mpr ⟨rfl, zs_nil⟩)⟩)⟩)⟩)⟩) ?_
      exact zt_X15_side_J193 hX hr hR hd hf hk hrec h
set_option maxHeartbeats 4000000 in
set_option maxRecDepth 100000 in
theorem zt_X15_side_J149 {p : Program} {l : Launch} {e : Env} {R : Room} {s : State} {m : MethodId} {args : Array Value} {below : List Frame} {meth : Method} {c : Code} {V : zm_V} {mc ms d rc rs : Nat} (hX : zm_X p R s m args meth c RX15 "side" cX15_side 6 zk_E V mc ms) (hr : meth.sig.returnType = none) (hR : R.frames = d ∧ R.locals = 64 * d) (hd : 4 ≤ d) {N : Nat} {k : Nat → Int32 → Int32 → Int32 → Int32 → zm_S → Option ((Unit × zm_S) ⊕ ((Unit) × zm_S))} {a0 : Nat} {i1 : Int32} {i2 : Int32} {i3 : Int32} {i4 : Int32} {i5 : Int32} {res : (Unit × zm_S) ⊕ ((Unit) × zm_S)} {out : (Unit × zm_S)}   (hf : ∀ o, res = .inl o → o = out) (hk : ∀ (S' : zm_S), res = .inr ((), S') → zw p l e R s m args below meth c (vx_MQ below (zm_Qc zk_E V (zo_v out)) (zm_XC zk_E V zo_x) args s mc ms (fun q => V.2.2.2.1 ≤ q)) 6 zk_E V mc ms 315 [(0, .ref a0)] [] S' rc rs) (hrec : ∀ (i1' : Int32) (i2' : Int32) (i3' : Int32) (i4' : Int32) (S : zm_S), k a0 i1' i2' i3' i4' S = some res → zw p l e R s m args below meth c (vx_MQ below (zm_Qc zk_E V (zo_v out)) (zm_XC zk_E V zo_x) args s mc ms (fun q => V.2.2.2.1 ≤ q)) 6 zk_E V mc ms 14 [(0, .ref a0), (1, .int i1'), (2, .int i2'), (3, .int i3'), (4, .int i4')] [] S rc rs) {S : zm_S} (h : zf_X15_side_J149 N k a0 i1 i2 i3 i4 i5 S = some res) : zw p l e R s m args below meth c (vx_MQ below (zm_Qc zk_E V (zo_v out)) (zm_XC zk_E V zo_x) args s mc ms (fun q => V.2.2.2.1 ≤ q)) 6 zk_E V mc ms 149 [(0, .ref a0), (1, .int i1), (2, .int i2), (3, .int i3), (4, .int i4), (5, .int i5)] [] S rc rs := by
  unfold zf_X15_side_J149 at h
  refine zw_iload_n hX dX15_side_149 rfl ?_
  refine zw_if_eq (tgt := 204) hX dX15_side_150 (by decide) (fun c150 => ?_) (fun c150 => ?_)
  · rw [if_pos c150] at h
    refine zw_iload hX dX15_side_204 rfl ?_
    refine zw_if_le (tgt := 257) hX dX15_side_206 (by decide) (fun c206 => ?_) (fun c206 => ?_)
    · rw [if_pos c206] at h
      refine zw_aload_n hX dX15_side_257 rfl ?_
      obtain ⟨v6, g, h⟩ := zb_some h
      refine zw_geti hX zl_X15_99 dX15_side_258 g ?_
      refine zw_bipush (v := (41 : Int32)) hX dX15_side_261 (by decide) ?_
      refine zw_icmp_ne (tgt := 296) hX dX15_side_263 (by decide) (fun c263 => ?_) (fun c263 => ?_)
      · rw [if_neg c263] at h
        refine zw_sub (lv' := [(0, .ref a0), (1, .int i1), (2, .int i2), (3, .int i3)]) (List.forall_mem_cons.mpr ⟨rfl, (List.forall_mem_cons.mpr ⟨rfl, (List.forall_mem_cons.mpr ⟨rfl, (List.forall_mem_cons.mpr ⟨rfl, zs_nil⟩)⟩)⟩)⟩) ?_
        exact zt_X15_side_J296 hX hr hR hd hf hk hrec h
      · rw [if_pos c263] at h
        refine zw_iload_n hX dX15_side_266 rfl ?_
        refine zw_if_le (tgt := 296) hX dX15_side_267 (by decide) (fun c267 => ?_) (fun c267 => ?_)
        · rw [if_pos c267] at h
          refine zw_sub (lv' := [(0, .ref a0), (1, .int i1), (2, .int i2), (3, .int i3)]) (List.forall_mem_cons.mpr ⟨rfl, (List.forall_mem_cons.mpr ⟨rfl, (List.forall_mem_cons.mpr ⟨rfl, (List.forall_mem_cons.mpr ⟨rfl, zs_nil⟩)⟩)⟩)⟩) ?_
          exact zt_X15_side_J296 hX hr hR hd hf hk hrec h
        · rw [if_neg c267] at h
          refine zw_aload_n hX dX15_side_270 rfl ?_
          refine zw_iconst (v := (1 : Int32)) hX dX15_side_271 (by decide) ?_
          obtain ⟨_, gi, h⟩ := zb_some h
          obtain ⟨r9, g, h⟩ := zb_some h
          refine zc_Vv (as := [.int (1 : Int32)]) hX gi (zt_X15_unpile (d := d - 1) (by omega) g) zl_X15_151 rfl dX15_side_272 ⟨rfl, rfl, Nat.le_of_ble_eq_true rfl⟩ ⟨by omega, by omega⟩ ?_
          refine zw_aload_n hX dX15_side_275 rfl ?_
          refine zw_dup hX dX15_side_276 rfl ?_
          obtain ⟨v10, g, h⟩ := zb_some h
          refine zw_geti hX zl_X15_137 dX15_side_277 g ?_
          refine zw_iconst (v := (1 : Int32)) hX dX15_side_280 (by decide) ?_
          refine zw_isub hX dX15_side_281 ?_
          obtain ⟨S11, g, h⟩ := zb_some h
          refine zw_putv hX zl_X15_137 zt_15_36 dX15_side_282 rfl rfl g ?_
          refine zw_iinc (v := (i1 + (-1 : Int32))) hX dX15_side_285 rfl rfl (by decide) ?_
          refine zw_aload_n hX dX15_side_288 rfl ?_
          refine zw_iconst (v := (1 : Int32)) hX dX15_side_289 (by decide) ?_
          obtain ⟨_, gi, h⟩ := zb_some h
          obtain ⟨r13, g, h⟩ := zb_some h
          refine zc_Vv (as := [.int (1 : Int32)]) hX gi (zt_X15_take (d := d - 1) (by omega) g) zl_X15_147 rfl dX15_side_290 ⟨rfl, rfl, Nat.le_of_ble_eq_true rfl⟩ ⟨by omega, by omega⟩ ?_
          refine zw_goto (tgt := 312) hX dX15_side_293 (by decide) ?_
          refine zw_goto (tgt := 14) hX dX15_side_312 (by decide) ?_
          refine zw_sub (lv' := [(0, .ref a0), (1, .int (i1 + (-1 : Int32))), (2, .int i2), (3, .int i3), (4, .int i4)]) (List.forall_mem_cons.mpr ⟨rfl, (List.forall_mem_cons.mpr ⟨rfl, (List.forall_mem_cons.mpr ⟨rfl, (List.forall_mem_cons.mpr ⟨rfl, (List.forall_mem_cons.mpr ⟨rfl, zs_nil⟩)⟩)⟩)⟩)⟩) ?_
          exact hrec _ _ _ _ _ h
    · rw [if_neg c206] at h
      refine zw_aload_n hX dX15_side_209 rfl ?_
      refine zw_iload hX dX15_side_210 rfl ?_
      refine zw_iconst (v := (3 : Int32)) hX dX15_side_212 (by decide) ?_
      refine zw_icmp_le (tgt := 220) hX dX15_side_213 (by decide) (fun c213 => ?_) (fun c213 => ?_)
      · rw [if_pos c213] at h
        refine zw_iconst (v := (1 : Int32)) hX dX15_side_220 (by decide) ?_
        refine zw_sub (lv' := [(0, .ref a0), (1, .int i1), (4, .int i4), (5, .int i5)]) (List.forall_mem_cons.mpr ⟨rfl, (List.forall_mem_cons.mpr ⟨rfl, (List.forall_mem_cons.mpr ⟨rfl, (List.forall_mem_cons.mpr ⟨rfl, zs_nil⟩)⟩)⟩)⟩) ?_
        exact zt_X15_side_J221 hX hr hR hd hf hk hrec h
      · rw [if_neg c213] at h
        refine zw_iconst (v := (2 : Int32)) hX dX15_side_216 (by decide) ?_
        refine zw_goto (tgt := 221) hX dX15_side_217 (by decide) ?_
        refine zw_sub (lv' := [(0, .ref a0), (1, .int i1), (4, .int i4), (5, .int i5)]) (List.forall_mem_cons.mpr ⟨rfl, (List.forall_mem_cons.mpr ⟨rfl, (List.forall_mem_cons.mpr ⟨rfl, (List.forall_mem_cons.mpr ⟨rfl, zs_nil⟩)⟩)⟩)⟩) ?_
        exact zt_X15_side_J221 hX hr hR hd hf hk hrec h
  · rw [if_neg c150] at h
    refine zw_aload_n hX dX15_side_153 rfl ?_
    refine zw_aload_n hX dX15_side_154 rfl ?_
    obtain ⟨v23, g, h⟩ := zb_some h
    refine zw_geti hX zl_X15_99 dX15_side_155 g ?_
    refine zw_iconst (v := (1 : Int32)) hX dX15_side_158 (by decide) ?_
    refine zw_icmp_ne (tgt := 166) hX dX15_side_159 (by decide) (fun c159 => ?_) (fun c159 => ?_)
    · rw [if_neg c159] at h
      refine zw_iconst (v := (1 : Int32)) hX dX15_side_166 (by decide) ?_
      refine zw_sub (lv' := [(0, .ref a0), (1, .int i1), (2, .int i2), (4, .int i4)]) (List.forall_mem_cons.mpr ⟨rfl, (List.forall_mem_cons.mpr ⟨rfl, (List.forall_mem_cons.mpr ⟨rfl, (List.forall_mem_cons.mpr ⟨rfl, zs_nil⟩)⟩)⟩)⟩) ?_
      exact zt_X15_side_J167 hX hr hR hd hf hk hrec h
    · rw [if_pos c159] at h
      refine zw_iconst (v := (0 : Int32)) hX dX15_side_162 (by decide) ?_
      refine zw_goto (tgt := 167) hX dX15_side_163 (by decide) ?_
      refine zw_sub (lv' := [(0, .ref a0), (1, .int i1), (2, .int i2), (4, .int i4)]) (List.forall_mem_cons.mpr ⟨rfl, (List.forall_mem_cons.mpr ⟨rfl, (List.forall_mem_cons.mpr ⟨rfl, (List.forall_mem_cons.mpr ⟨rfl, zs_nil⟩)⟩)⟩)⟩) ?_
      exact zt_X15_side_J167 hX hr hR hd hf hk hrec h
set_option maxHeartbeats 4000000 in
set_option maxRecDepth 100000 in
theorem zt_X15_side_J113 {p : Program} {l : Launch} {e : Env} {R : Room} {s : State} {m : MethodId} {args : Array Value} {below : List Frame} {meth : Method} {c : Code} {V : zm_V} {mc ms d rc rs : Nat} (hX : zm_X p R s m args meth c RX15 "side" cX15_side 6 zk_E V mc ms) (hr : meth.sig.returnType = none) (hR : R.frames = d ∧ R.locals = 64 * d) (hd : 4 ≤ d) {N : Nat} {k : Nat → Int32 → Int32 → Int32 → Int32 → zm_S → Option ((Unit × zm_S) ⊕ ((Unit) × zm_S))} {a0 : Nat} {i1 : Int32} {i3 : Int32} {i4 : Int32} {t0 : Nat} {t1 : Int32} {res : (Unit × zm_S) ⊕ ((Unit) × zm_S)} {out : (Unit × zm_S)}   (hf : ∀ o, res = .inl o → o = out) (hk : ∀ (S' : zm_S), res = .inr ((), S') → zw p l e R s m args below meth c (vx_MQ below (zm_Qc zk_E V (zo_v out)) (zm_XC zk_E V zo_x) args s mc ms (fun q => V.2.2.2.1 ≤ q)) 6 zk_E V mc ms 315 [(0, .ref a0)] [] S' rc rs) (hrec : ∀ (i1' : Int32) (i2' : Int32) (i3' : Int32) (i4' : Int32) (S : zm_S), k a0 i1' i2' i3' i4' S = some res → zw p l e R s m args below meth c (vx_MQ below (zm_Qc zk_E V (zo_v out)) (zm_XC zk_E V zo_x) args s mc ms (fun q => V.2.2.2.1 ≤ q)) 6 zk_E V mc ms 14 [(0, .ref a0), (1, .int i1'), (2, .int i2'), (3, .int i3'), (4, .int i4')] [] S rc rs) {S : zm_S} (h : zf_X15_side_J113 N k a0 i1 i3 i4 t0 t1 S = some res) : zw p l e R s m args below meth c (vx_MQ below (zm_Qc zk_E V (zo_v out)) (zm_XC zk_E V zo_x) args s mc ms (fun q => V.2.2.2.1 ≤ q)) 6 zk_E V mc ms 113 [(0, .ref a0), (1, .int i1), (3, .int i3), (4, .int i4)] [.int t1, .ref t0] S rc rs := by
  unfold zf_X15_side_J113 at h
  obtain ⟨S34, g, h⟩ := zb_some h
  obtain ⟨gz, g⟩ := zp_z_spec g
  refine zw_putv hX zl_X15_121 zt_15_31 dX15_side_113 (zn_z gz) (zf_z gz) g ?_
  refine zw_iinc (v := (i1 + (1 : Int32))) hX dX15_side_116 rfl rfl (by decide) ?_
  refine zw_aload_n hX dX15_side_119 rfl ?_
  obtain ⟨b35, g, h⟩ := zb_some h
  refine zw_getr hX zl_X15_75 dX15_side_120 g ?_
  refine zw_aload_n hX dX15_side_123 rfl ?_
  obtain ⟨v36, g, h⟩ := zb_some h
  refine zw_geti hX zl_X15_137 dX15_side_124 g ?_
  refine zw_iconst (v := (1 : Int32)) hX dX15_side_127 (by decide) ?_
  obtain ⟨S37, g, h⟩ := zb_some h
  refine zw_si hX dX15_side_128 g ?_
  refine zw_aload_n hX dX15_side_129 rfl ?_
  refine zw_dup hX dX15_side_130 rfl ?_
  obtain ⟨v38, g, h⟩ := zb_some h
  refine zw_geti hX zl_X15_137 dX15_side_131 g ?_
  refine zw_iconst (v := (1 : Int32)) hX dX15_side_134 (by decide) ?_
  refine zw_iadd hX dX15_side_135 ?_
  obtain ⟨S39, g, h⟩ := zb_some h
  refine zw_putv hX zl_X15_137 zt_15_36 dX15_side_136 rfl rfl g ?_
  refine zw_iconst (v := (1 : Int32)) hX dX15_side_139 (by decide) ?_
  refine zw_istore_n hX dX15_side_140 (by decide) ?_
  refine zw_aload_n hX dX15_side_141 rfl ?_
  refine zw_iconst (v := (1 : Int32)) hX dX15_side_142 (by decide) ?_
  obtain ⟨_, gi, h⟩ := zb_some h
  obtain ⟨r41, g, h⟩ := zb_some h
  refine zc_Vv (as := [.int (1 : Int32)]) hX gi (zt_X15_take (d := d - 1) (by omega) g) zl_X15_147 rfl dX15_side_143 ⟨rfl, rfl, Nat.le_of_ble_eq_true rfl⟩ ⟨by omega, by omega⟩ ?_
  refine zw_goto (tgt := 312) hX dX15_side_146 (by decide) ?_
  refine zw_goto (tgt := 14) hX dX15_side_312 (by decide) ?_
  refine zw_sub (lv' := [(0, .ref a0), (1, .int (i1 + (1 : Int32))), (2, .int (1 : Int32)), (3, .int i3), (4, .int i4)]) (List.forall_mem_cons.mpr ⟨rfl, (List.forall_mem_cons.mpr ⟨rfl, (List.forall_mem_cons.mpr ⟨rfl, (List.forall_mem_cons.mpr ⟨rfl, (List.forall_mem_cons.mpr ⟨rfl, zs_nil⟩)⟩)⟩)⟩)⟩) ?_
  exact hrec _ _ _ _ _ h
set_option maxHeartbeats 4000000 in
set_option maxRecDepth 100000 in
theorem zt_X15_side_J88 {p : Program} {l : Launch} {e : Env} {R : Room} {s : State} {m : MethodId} {args : Array Value} {below : List Frame} {meth : Method} {c : Code} {V : zm_V} {mc ms d rc rs : Nat} (hX : zm_X p R s m args meth c RX15 "side" cX15_side 6 zk_E V mc ms) (hr : meth.sig.returnType = none) (hR : R.frames = d ∧ R.locals = 64 * d) (hd : 4 ≤ d) {N : Nat} {k : Nat → Int32 → Int32 → Int32 → Int32 → zm_S → Option ((Unit × zm_S) ⊕ ((Unit) × zm_S))} {a0 : Nat} {i1 : Int32} {i2 : Int32} {i3 : Int32} {i4 : Int32} {i5 : Int32} {res : (Unit × zm_S) ⊕ ((Unit) × zm_S)} {out : (Unit × zm_S)}   (hf : ∀ o, res = .inl o → o = out) (hk : ∀ (S' : zm_S), res = .inr ((), S') → zw p l e R s m args below meth c (vx_MQ below (zm_Qc zk_E V (zo_v out)) (zm_XC zk_E V zo_x) args s mc ms (fun q => V.2.2.2.1 ≤ q)) 6 zk_E V mc ms 315 [(0, .ref a0)] [] S' rc rs) (hrec : ∀ (i1' : Int32) (i2' : Int32) (i3' : Int32) (i4' : Int32) (S : zm_S), k a0 i1' i2' i3' i4' S = some res → zw p l e R s m args below meth c (vx_MQ below (zm_Qc zk_E V (zo_v out)) (zm_XC zk_E V zo_x) args s mc ms (fun q => V.2.2.2.1 ≤ q)) 6 zk_E V mc ms 14 [(0, .ref a0), (1, .int i1'), (2, .int i2'), (3, .int i3'), (4, .int i4')] [] S rc rs) {S : zm_S} (h : zf_X15_side_J88 N k a0 i1 i2 i3 i4 i5 S = some res) : zw p l e R s m args below meth c (vx_MQ below (zm_Qc zk_E V (zo_v out)) (zm_XC zk_E V zo_x) args s mc ms (fun q => V.2.2.2.1 ≤ q)) 6 zk_E V mc ms 88 [(0, .ref a0), (1, .int i1), (2, .int i2), (3, .int i3), (4, .int i4), (5, .int i5)] [] S rc rs := by
  unfold zf_X15_side_J88 at h
  refine zw_iload_n hX dX15_side_88 rfl ?_
  refine zw_if_eq (tgt := 149) hX dX15_side_89 (by decide) (fun c89 => ?_) (fun c89 => ?_)
  · rw [if_pos c89] at h
    refine zw_sub (lv' := [(0, .ref a0), (1, .int i1), (2, .int i2), (3, .int i3), (4, .int i4), (5, .int i5)]) (List.forall_mem_cons.mpr ⟨rfl, (List.forall_mem_cons.mpr ⟨rfl, (List.forall_mem_cons.mpr ⟨rfl, (List.forall_mem_cons.mpr ⟨rfl, (List.forall_mem_cons.mpr ⟨rfl, (List.forall_mem_cons.mpr ⟨rfl, zs_nil⟩)⟩)⟩)⟩)⟩)⟩) ?_
    exact zt_X15_side_J149 hX hr hR hd hf hk hrec h
  · rw [if_neg c89] at h
    refine zw_aload_n hX dX15_side_92 rfl ?_
    obtain ⟨v33, g, h⟩ := zb_some h
    refine zw_geti hX zl_X15_99 dX15_side_93 g ?_
    refine zw_bipush (v := (40 : Int32)) hX dX15_side_96 (by decide) ?_
    refine zw_icmp_ne (tgt := 149) hX dX15_side_98 (by decide) (fun c98 => ?_) (fun c98 => ?_)
    · rw [if_neg c98] at h
      refine zw_sub (lv' := [(0, .ref a0), (1, .int i1), (2, .int i2), (3, .int i3), (4, .int i4), (5, .int i5)]) (List.forall_mem_cons.mpr ⟨rfl, (List.forall_mem_cons.mpr ⟨rfl, (List.forall_mem_cons.mpr ⟨rfl, (List.forall_mem_cons.mpr ⟨rfl, (List.forall_mem_cons.mpr ⟨rfl, (List.forall_mem_cons.mpr ⟨rfl, zs_nil⟩)⟩)⟩)⟩)⟩)⟩) ?_
      exact zt_X15_side_J149 hX hr hR hd hf hk hrec h
    · rw [if_pos c98] at h
      refine zw_aload_n hX dX15_side_101 rfl ?_
      refine zw_iload_n hX dX15_side_102 rfl ?_
      refine zw_bipush (v := (8 : Int32)) hX dX15_side_103 (by decide) ?_
      refine zw_icmp_ne (tgt := 112) hX dX15_side_105 (by decide) (fun c105 => ?_) (fun c105 => ?_)
      · rw [if_neg c105] at h
        refine zw_iconst (v := (0 : Int32)) hX dX15_side_112 (by decide) ?_
        refine zw_sub (lv' := [(0, .ref a0), (1, .int i1), (3, .int i3), (4, .int i4)]) (List.forall_mem_cons.mpr ⟨rfl, (List.forall_mem_cons.mpr ⟨rfl, (List.forall_mem_cons.mpr ⟨rfl, (List.forall_mem_cons.mpr ⟨rfl, zs_nil⟩)⟩)⟩)⟩) ?_
        exact zt_X15_side_J113 hX hr hR hd hf hk hrec h
      · rw [if_pos c105] at h
        refine zw_iconst (v := (1 : Int32)) hX dX15_side_108 (by decide) ?_
        refine zw_goto (tgt := 113) hX dX15_side_109 (by decide) ?_
        refine zw_sub (lv' := [(0, .ref a0), (1, .int i1), (3, .int i3), (4, .int i4)]) (List.forall_mem_cons.mpr ⟨rfl, (List.forall_mem_cons.mpr ⟨rfl, (List.forall_mem_cons.mpr ⟨rfl, (List.forall_mem_cons.mpr ⟨rfl, zs_nil⟩)⟩)⟩)⟩) ?_
        exact zt_X15_side_J113 hX hr hR hd hf hk hrec h
set_option maxHeartbeats 4000000 in
set_option maxRecDepth 100000 in
theorem zt_X15_side_L14 {p : Program} {l : Launch} {e : Env} {R : Room} {s : State} {m : MethodId} {args : Array Value} {below : List Frame} {meth : Method} {c : Code} {V : zm_V} {mc ms d rc rs : Nat} (hX : zm_X p R s m args meth c RX15 "side" cX15_side 6 zk_E V mc ms) (hr : meth.sig.returnType = none) (hR : R.frames = d ∧ R.locals = 64 * d) (hd : 4 ≤ d) {N : Nat} {res : (Unit × zm_S) ⊕ ((Unit) × zm_S)} {out : (Unit × zm_S)} (a0 : Nat) (hf : ∀ o, res = .inl o → o = out) (hk : ∀ (S' : zm_S), res = .inr ((), S') → zw p l e R s m args below meth c (vx_MQ below (zm_Qc zk_E V (zo_v out)) (zm_XC zk_E V zo_x) args s mc ms (fun q => V.2.2.2.1 ≤ q)) 6 zk_E V mc ms 315 [(0, .ref a0)] [] S' rc rs) : ∀ (n : Nat) (i1 : Int32) (i2 : Int32) (i3 : Int32) (i4 : Int32) (S : zm_S), zf_X15_side_L14 N n a0 i1 i2 i3 i4 S = some res → zw p l e R s m args below meth c (vx_MQ below (zm_Qc zk_E V (zo_v out)) (zm_XC zk_E V zo_x) args s mc ms (fun q => V.2.2.2.1 ≤ q)) 6 zk_E V mc ms 14 [(0, .ref a0), (1, .int i1), (2, .int i2), (3, .int i3), (4, .int i4)] [] S rc rs := by
  intro n
  induction n with
  | zero => intro i1 i2 i3 i4 S h; cases h
  | succ n ih =>
    intro i1 i2 i3 i4 S h
    rw [zf_X15_side_L14] at h
    refine zw_iload hX dX15_side_14 rfl ?_
    refine zw_if_eq (tgt := 315) hX dX15_side_16 (by decide) (fun c16 => ?_) (fun c16 => ?_)
    · rw [if_pos c16] at h
      refine zw_sub (lv' := [(0, .ref a0)]) (List.forall_mem_cons.mpr ⟨rfl, zs_nil⟩) ?_
      exact hk  _ (Option.some.inj h).symm
    · rw [if_neg c16] at h
      refine zw_aload_n hX dX15_side_19 rfl ?_
      obtain ⟨v2, g, h⟩ := zb_some h
      refine zw_geti hX zl_X15_121 dX15_side_20 g ?_
      refine zw_if_ne (tgt := 315) hX dX15_side_23 (by decide) (fun c23 => ?_) (fun c23 => ?_)
      · rw [if_neg c23] at h
        refine zw_sub (lv' := [(0, .ref a0)]) (List.forall_mem_cons.mpr ⟨rfl, zs_nil⟩) ?_
        exact hk  _ (Option.some.inj h).symm
      · rw [if_pos c23] at h
        refine zw_aload_n hX dX15_side_26 rfl ?_
        obtain ⟨v3, g, h⟩ := zb_some h
        refine zw_geti hX zl_X15_99 dX15_side_27 g ?_
        obtain ⟨r5, g, h⟩ := zb_some h
        refine zc_Si (as := [.int v3]) hX (zt_X15_operation (d := d - 1) (by omega) g) zl_X15_144 dX15_side_30 ⟨rfl, rfl, Nat.le_of_ble_eq_true rfl⟩ ⟨by omega, by omega⟩ ?_
        refine zw_istore hX dX15_side_33 (by decide) ?_
        refine zw_iload_n hX dX15_side_35 rfl ?_
        refine zw_if_eq (tgt := 88) hX dX15_side_36 (by decide) (fun c36 => ?_) (fun c36 => ?_)
        · rw [if_pos c36] at h
          refine zw_sub (lv' := [(0, .ref a0), (1, .int i1), (2, .int i2), (3, .int i3), (4, .int i4), (5, .int r5.1)]) (List.forall_mem_cons.mpr ⟨rfl, (List.forall_mem_cons.mpr ⟨rfl, (List.forall_mem_cons.mpr ⟨rfl, (List.forall_mem_cons.mpr ⟨rfl, (List.forall_mem_cons.mpr ⟨rfl, (List.forall_mem_cons.mpr ⟨rfl, zs_nil⟩)⟩)⟩)⟩)⟩)⟩) ?_
          exact zt_X15_side_J88 hX hr hR hd hf hk ih h
        · rw [if_neg c36] at h
          refine zw_iload_n hX dX15_side_39 rfl ?_
          refine zw_if_eq (tgt := 88) hX dX15_side_40 (by decide) (fun c40 => ?_) (fun c40 => ?_)
          · rw [if_pos c40] at h
            refine zw_sub (lv' := [(0, .ref a0), (1, .int i1), (2, .int i2), (3, .int i3), (4, .int i4), (5, .int r5.1)]) (List.forall_mem_cons.mpr ⟨rfl, (List.forall_mem_cons.mpr ⟨rfl, (List.forall_mem_cons.mpr ⟨rfl, (List.forall_mem_cons.mpr ⟨rfl, (List.forall_mem_cons.mpr ⟨rfl, (List.forall_mem_cons.mpr ⟨rfl, zs_nil⟩)⟩)⟩)⟩)⟩)⟩) ?_
            exact zt_X15_side_J88 hX hr hR hd hf hk ih h
          · rw [if_neg c40] at h
            refine zw_aload_n hX dX15_side_43 rfl ?_
            obtain ⟨v42, g, h⟩ := zb_some h
            refine zw_geti hX zl_X15_99 dX15_side_44 g ?_
            refine zw_bipush (v := (45 : Int32)) hX dX15_side_47 (by decide) ?_
            refine zw_icmp_ne (tgt := 88) hX dX15_side_49 (by decide) (fun c49 => ?_) (fun c49 => ?_)
            · rw [if_neg c49] at h
              refine zw_sub (lv' := [(0, .ref a0), (1, .int i1), (2, .int i2), (3, .int i3), (4, .int i4), (5, .int r5.1)]) (List.forall_mem_cons.mpr ⟨rfl, (List.forall_mem_cons.mpr ⟨rfl, (List.forall_mem_cons.mpr ⟨rfl, (List.forall_mem_cons.mpr ⟨rfl, (List.forall_mem_cons.mpr ⟨rfl, (List.forall_mem_cons.mpr ⟨rfl, zs_nil⟩)⟩)⟩)⟩)⟩)⟩) ?_
              exact zt_X15_side_J88 hX hr hR hd hf hk ih h
            · rw [if_pos c49] at h
              refine zw_aload_n hX dX15_side_52 rfl ?_
              refine zw_iconst (v := (0 : Int32)) hX dX15_side_53 (by decide) ?_
              refine zw_lconst (v := (0 : Int64)) hX dX15_side_54 (by decide) ?_
              obtain ⟨_, gi, h⟩ := zb_some h
              obtain ⟨r44, g, h⟩ := zb_some h
              refine zc_Vv (as := [.int (0 : Int32), .long (0 : Int64)]) hX gi (zt_X15_emit (d := d - 1) (by omega) g) zl_X15_140 rfl dX15_side_55 ⟨rfl, rfl, Nat.le_of_ble_eq_true rfl⟩ ⟨by omega, by omega⟩ ?_
              refine zw_aload_n hX dX15_side_58 rfl ?_
              obtain ⟨b45, g, h⟩ := zb_some h
              refine zw_getr hX zl_X15_75 dX15_side_59 g ?_
              refine zw_aload_n hX dX15_side_62 rfl ?_
              obtain ⟨v46, g, h⟩ := zb_some h
              refine zw_geti hX zl_X15_137 dX15_side_63 g ?_
              refine zw_iconst (v := (3 : Int32)) hX dX15_side_66 (by decide) ?_
              obtain ⟨S47, g, h⟩ := zb_some h
              refine zw_si hX dX15_side_67 g ?_
              refine zw_aload_n hX dX15_side_68 rfl ?_
              refine zw_dup hX dX15_side_69 rfl ?_
              obtain ⟨v48, g, h⟩ := zb_some h
              refine zw_geti hX zl_X15_137 dX15_side_70 g ?_
              refine zw_iconst (v := (1 : Int32)) hX dX15_side_73 (by decide) ?_
              refine zw_iadd hX dX15_side_74 ?_
              obtain ⟨S49, g, h⟩ := zb_some h
              refine zw_putv hX zl_X15_137 zt_15_36 dX15_side_75 rfl rfl g ?_
              refine zw_iconst (v := (0 : Int32)) hX dX15_side_78 (by decide) ?_
              refine zw_istore_n hX dX15_side_79 (by decide) ?_
              refine zw_aload_n hX dX15_side_80 rfl ?_
              refine zw_iconst (v := (1 : Int32)) hX dX15_side_81 (by decide) ?_
              obtain ⟨_, gi, h⟩ := zb_some h
              obtain ⟨r51, g, h⟩ := zb_some h
              refine zc_Vv (as := [.int (1 : Int32)]) hX gi (zt_X15_take (d := d - 1) (by omega) g) zl_X15_147 rfl dX15_side_82 ⟨rfl, rfl, Nat.le_of_ble_eq_true rfl⟩ ⟨by omega, by omega⟩ ?_
              refine zw_goto (tgt := 312) hX dX15_side_85 (by decide) ?_
              refine zw_goto (tgt := 14) hX dX15_side_312 (by decide) ?_
              refine zw_sub (lv' := [(0, .ref a0), (1, .int i1), (2, .int (0 : Int32)), (3, .int i3), (4, .int i4)]) (List.forall_mem_cons.mpr ⟨rfl, (List.forall_mem_cons.mpr ⟨rfl, (List.forall_mem_cons.mpr ⟨rfl, (List.forall_mem_cons.mpr ⟨rfl, (List.forall_mem_cons.mpr ⟨rfl, zs_nil⟩)⟩)⟩)⟩)⟩) ?_
              exact ih _ _ _ _ _ h
set_option maxHeartbeats 4000000 in
set_option maxRecDepth 100000 in
theorem zt_X15_side_J315 {p : Program} {l : Launch} {e : Env} {R : Room} {s : State} {m : MethodId} {args : Array Value} {below : List Frame} {meth : Method} {c : Code} {V : zm_V} {mc ms d rc rs : Nat} (hX : zm_X p R s m args meth c RX15 "side" cX15_side 6 zk_E V mc ms) (hr : meth.sig.returnType = none) (hR : R.frames = d ∧ R.locals = 64 * d) (hd : 4 ≤ d) {N : Nat} {a0 : Nat} {out : (Unit × zm_S)} {S : zm_S} (h : zf_X15_side_J315 N a0 S = some out) : zw p l e R s m args below meth c (vx_MQ below (zm_Qc zk_E V (zo_v out)) (zm_XC zk_E V zo_x) args s mc ms (fun q => V.2.2.2.1 ≤ q)) 6 zk_E V mc ms 315 [(0, .ref a0)] [] S rc rs := by
  unfold zf_X15_side_J315 at h
  refine zw_aload_n hX dX15_side_315 rfl ?_
  refine zw_iconst (v := (1 : Int32)) hX dX15_side_316 (by decide) ?_
  obtain ⟨_, gi, h⟩ := zb_some h
  obtain ⟨r54, g, h⟩ := zb_some h
  refine zc_Vv (as := [.int (1 : Int32)]) hX gi (zt_X15_unpile (d := d - 1) (by omega) g) zl_X15_151 rfl dX15_side_317 ⟨rfl, rfl, Nat.le_of_ble_eq_true rfl⟩ ⟨by omega, by omega⟩ ?_
  obtain rfl := Option.some.inj h
  exact zw_vret hX hr dX15_side_320 ⟨rfl, rfl⟩
set_option maxHeartbeats 4000000 in
set_option maxRecDepth 100000 in
theorem zt_X15_side {l : Launch} {V : zm_V} {N : Nat} {S : zm_S} {out : (Unit × zm_S)} {d : Nat} {a0 : Nat} (hd : 4 ≤ d) (h : zf_X15_side N a0 S = some out) : zm_Met l zk_E V yX15_side (.code yX15_side cX15_side 6 none) d [.ref a0] S 0 0 (zo_v out) zo_x := by
  refine zm_of (by decide +kernel) (Nat.le_of_ble_eq_true rfl) ?_
  intro p e R s m args below meth c hRR hX hr hxt
  have hR : R.frames = d ∧ R.locals = 64 * d := by rw [hRR]; exact ⟨rfl, rfl⟩
  have hX : zm_X p R s m args meth c RX15 "side" cX15_side 6 zk_E V 0 0 := hX
  unfold zf_X15_side at h
  refine zw_sub (lv' := [(0, .ref a0)]) (List.forall_mem_cons.mpr ⟨rfl, zs_nil⟩) ?_
  refine zw_iconst (v := (0 : Int32)) hX dX15_side_0 (by decide) ?_
  refine zw_istore_n hX dX15_side_1 (by decide) ?_
  refine zw_iconst (v := (1 : Int32)) hX dX15_side_2 (by decide) ?_
  refine zw_istore_n hX dX15_side_3 (by decide) ?_
  refine zw_iconst (v := (1 : Int32)) hX dX15_side_4 (by decide) ?_
  refine zw_istore_n hX dX15_side_5 (by decide) ?_
  refine zw_iconst (v := (1 : Int32)) hX dX15_side_6 (by decide) ?_
  refine zw_istore hX dX15_side_7 (by decide) ?_
  refine zw_aload_n hX dX15_side_9 rfl ?_
  refine zw_iconst (v := (0 : Int32)) hX dX15_side_10 (by decide) ?_
  obtain ⟨S1, g, h⟩ := zb_some h
  refine zw_putv hX zl_X15_137 zt_15_36 dX15_side_11 rfl rfl g ?_
  obtain ⟨r, g, h⟩ := zb_some h
  refine zw_sub (lv' := [(0, .ref a0), (1, .int (0 : Int32)), (2, .int (1 : Int32)), (3, .int (1 : Int32)), (4, .int (1 : Int32))]) (List.forall_mem_cons.mpr ⟨rfl, (List.forall_mem_cons.mpr ⟨rfl, (List.forall_mem_cons.mpr ⟨rfl, (List.forall_mem_cons.mpr ⟨rfl, (List.forall_mem_cons.mpr ⟨rfl, zs_nil⟩)⟩)⟩)⟩)⟩) ?_
  refine zt_X15_side_L14 hX hr hR hd (res := r) (out := out) a0 ?_ ?_ N _ _ _ _ _ g
  · intro o ho
    subst ho
    exact Option.some.inj h
  · intro  S52 hx
    subst hx
    try dsimp only at h
    refine zw_sub (lv' := [(0, .ref a0)]) (List.forall_mem_cons.mpr ⟨rfl, zs_nil⟩) ?_
    exact zt_X15_side_J315 hX hr hR hd h
set_option maxHeartbeats 4000000 in
set_option maxRecDepth 100000 in
theorem zt_X15_relation {l : Launch} {V : zm_V} {N : Nat} {S : zm_S} {out : (Int32 × zm_S)} {d : Nat} {i0 : Int32} (hd : 1 ≤ d) (h : zf_X15_relation N i0 S = some out) : zm_Met l zk_E V yX15_relation (.code yX15_relation cX15_relation 1 (some .int)) d [.int i0] S 0 0 (zo_i out) zo_x := by
  refine zm_of (by decide +kernel) (Nat.le_of_ble_eq_true rfl) ?_
  intro p e R s m args below meth c hRR hX hr hxt
  have hR : R.frames = d ∧ R.locals = 64 * d := by rw [hRR]; exact ⟨rfl, rfl⟩
  have hX : zm_X p R s m args meth c RX15 "relation" cX15_relation 1 zk_E V 0 0 := hX
  unfold zf_X15_relation at h
  refine zw_sub (lv' := [(0, .int i0)]) (List.forall_mem_cons.mpr ⟨rfl, zs_nil⟩) ?_
  refine zw_iload_n hX dX15_relation_0 rfl ?_
  refine zw_bipush (v := (60 : Int32)) hX dX15_relation_1 (by decide) ?_
  refine zw_icmp_ne (tgt := 10) hX dX15_relation_3 (by decide) (fun c3 => ?_) (fun c3 => ?_)
  · rw [if_neg c3] at h
    refine zw_iload_n hX dX15_relation_10 rfl ?_
    refine zw_sipush (v := (316 : Int32)) hX dX15_relation_11 (by decide) ?_
    refine zw_icmp_ne (tgt := 21) hX dX15_relation_14 (by decide) (fun c14 => ?_) (fun c14 => ?_)
    · rw [if_neg c14] at h
      refine zw_iload_n hX dX15_relation_21 rfl ?_
      refine zw_bipush (v := (61 : Int32)) hX dX15_relation_22 (by decide) ?_
      refine zw_icmp_ne (tgt := 31) hX dX15_relation_24 (by decide) (fun c24 => ?_) (fun c24 => ?_)
      · rw [if_neg c24] at h
        refine zw_iload_n hX dX15_relation_31 rfl ?_
        refine zw_sipush (v := (318 : Int32)) hX dX15_relation_32 (by decide) ?_
        refine zw_icmp_ne (tgt := 42) hX dX15_relation_35 (by decide) (fun c35 => ?_) (fun c35 => ?_)
        · rw [if_neg c35] at h
          refine zw_iload_n hX dX15_relation_42 rfl ?_
          refine zw_bipush (v := (62 : Int32)) hX dX15_relation_43 (by decide) ?_
          refine zw_icmp_ne (tgt := 52) hX dX15_relation_45 (by decide) (fun c45 => ?_) (fun c45 => ?_)
          · rw [if_neg c45] at h
            refine zw_iconst (v := (-1 : Int32)) hX dX15_relation_52 (by decide) ?_
            obtain rfl := Option.some.inj h
            exact zw_iret hX hr dX15_relation_53 rfl ⟨rfl, rfl⟩
          · rw [if_pos c45] at h
            refine zw_iconst (v := (4 : Int32)) hX dX15_relation_48 (by decide) ?_
            refine zw_goto (tgt := 53) hX dX15_relation_49 (by decide) ?_
            obtain rfl := Option.some.inj h
            exact zw_iret hX hr dX15_relation_53 rfl ⟨rfl, rfl⟩
        · rw [if_pos c35] at h
          refine zw_iconst (v := (3 : Int32)) hX dX15_relation_38 (by decide) ?_
          refine zw_goto (tgt := 53) hX dX15_relation_39 (by decide) ?_
          obtain rfl := Option.some.inj h
          exact zw_iret hX hr dX15_relation_53 rfl ⟨rfl, rfl⟩
      · rw [if_pos c24] at h
        refine zw_iconst (v := (2 : Int32)) hX dX15_relation_27 (by decide) ?_
        refine zw_goto (tgt := 53) hX dX15_relation_28 (by decide) ?_
        obtain rfl := Option.some.inj h
        exact zw_iret hX hr dX15_relation_53 rfl ⟨rfl, rfl⟩
    · rw [if_pos c14] at h
      refine zw_iconst (v := (1 : Int32)) hX dX15_relation_17 (by decide) ?_
      refine zw_goto (tgt := 53) hX dX15_relation_18 (by decide) ?_
      obtain rfl := Option.some.inj h
      exact zw_iret hX hr dX15_relation_53 rfl ⟨rfl, rfl⟩
  · rw [if_pos c3] at h
    refine zw_iconst (v := (0 : Int32)) hX dX15_relation_6 (by decide) ?_
    refine zw_goto (tgt := 53) hX dX15_relation_7 (by decide) ?_
    obtain rfl := Option.some.inj h
    exact zw_iret hX hr dX15_relation_53 rfl ⟨rfl, rfl⟩
set_option maxHeartbeats 4000000 in
set_option maxRecDepth 100000 in
theorem zt_X15_clause_J92 {p : Program} {l : Launch} {e : Env} {R : Room} {s : State} {m : MethodId} {args : Array Value} {below : List Frame} {meth : Method} {c : Code} {V : zm_V} {mc ms d rc rs : Nat} (hX : zm_X p R s m args meth c RX15 "clause" cX15_clause 2 zk_E V mc ms) (hr : meth.sig.returnType = none) (hR : R.frames = d ∧ R.locals = 64 * d) (hd : 5 ≤ d) {N : Nat} {a0 : Nat} {i1 : Int32} {out : (Unit × zm_S)} {S : zm_S} (h : zf_X15_clause_J92 N a0 i1 S = some out) : zw p l e R s m args below meth c (vx_MQ below (zm_Qc zk_E V (zo_v out)) (zm_XC zk_E V zo_x) args s mc ms (fun q => V.2.2.2.1 ≤ q)) 2 zk_E V mc ms 92 [(0, .ref a0), (1, .int i1)] [] S rc rs := by
  unfold zf_X15_clause_J92 at h
  refine zw_aload_n hX dX15_clause_92 rfl ?_
  obtain ⟨b21, g, h⟩ := zb_some h
  refine zw_getr hX zl_X15_38 dX15_clause_93 g ?_
  refine zw_iload_n hX dX15_clause_96 rfl ?_
  refine zw_aload_n hX dX15_clause_97 rfl ?_
  obtain ⟨v22, g, h⟩ := zb_some h
  refine zw_geti hX zl_X15_134 dX15_clause_98 g ?_
  obtain ⟨S23, g, h⟩ := zb_some h
  refine zw_si hX dX15_clause_101 g ?_
  obtain rfl := Option.some.inj h
  exact zw_vret hX hr dX15_clause_102 ⟨rfl, rfl⟩
set_option maxHeartbeats 4000000 in
set_option maxRecDepth 100000 in
theorem zt_X15_clause_J78 {p : Program} {l : Launch} {e : Env} {R : Room} {s : State} {m : MethodId} {args : Array Value} {below : List Frame} {meth : Method} {c : Code} {V : zm_V} {mc ms d rc rs : Nat} (hX : zm_X p R s m args meth c RX15 "clause" cX15_clause 2 zk_E V mc ms) (hr : meth.sig.returnType = none) (hR : R.frames = d ∧ R.locals = 64 * d) (hd : 5 ≤ d) {N : Nat} {a0 : Nat} {i1 : Int32} {t0 : Nat} {t1 : Int32} {out : (Unit × zm_S)} {S : zm_S} (h : zf_X15_clause_J78 N a0 i1 t0 t1 S = some out) : zw p l e R s m args below meth c (vx_MQ below (zm_Qc zk_E V (zo_v out)) (zm_XC zk_E V zo_x) args s mc ms (fun q => V.2.2.2.1 ≤ q)) 2 zk_E V mc ms 78 [(0, .ref a0), (1, .int i1)] [.int t1, .ref t0] S rc rs := by
  unfold zf_X15_clause_J78 at h
  obtain ⟨_, gi, h⟩ := zb_some h
  obtain ⟨r19, g, h⟩ := zb_some h
  refine zc_Vv (as := [.int t1]) hX gi (zt_X15_take (d := d - 1) (by omega) g) zl_X15_147 rfl dX15_clause_78 ⟨rfl, rfl, Nat.le_of_ble_eq_true rfl⟩ ⟨by omega, by omega⟩ ?_
  refine zw_aload_n hX dX15_clause_81 rfl ?_
  obtain ⟨v20, g, h⟩ := zb_some h
  refine zw_geti hX zl_X15_121 dX15_clause_82 g ?_
  refine zw_if_ne (tgt := 92) hX dX15_clause_85 (by decide) (fun c85 => ?_) (fun c85 => ?_)
  · rw [if_neg c85] at h
    refine zw_sub (lv' := [(0, .ref a0), (1, .int i1)]) (List.forall_mem_cons.mpr ⟨rfl, (List.forall_mem_cons.mpr ⟨rfl, zs_nil⟩)⟩) ?_
    exact zt_X15_clause_J92 hX hr hR hd h
  · rw [if_pos c85] at h
    refine zw_aload_n hX dX15_clause_88 rfl ?_
    obtain ⟨_, gi, h⟩ := zb_some h
    obtain ⟨r25, g, h⟩ := zb_some h
    refine zc_Vv (as := []) hX gi (zt_X15_side (d := d - 1) (by omega) g) zl_X15_158 rfl dX15_clause_89 ⟨rfl, rfl, Nat.le_of_ble_eq_true rfl⟩ ⟨by omega, by omega⟩ ?_
    refine zw_sub (lv' := [(0, .ref a0), (1, .int i1)]) (List.forall_mem_cons.mpr ⟨rfl, (List.forall_mem_cons.mpr ⟨rfl, zs_nil⟩)⟩) ?_
    exact zt_X15_clause_J92 hX hr hR hd h
set_option maxHeartbeats 4000000 in
set_option maxRecDepth 100000 in
theorem zt_X15_clause_J77 {p : Program} {l : Launch} {e : Env} {R : Room} {s : State} {m : MethodId} {args : Array Value} {below : List Frame} {meth : Method} {c : Code} {V : zm_V} {mc ms d rc rs : Nat} (hX : zm_X p R s m args meth c RX15 "clause" cX15_clause 2 zk_E V mc ms) (hr : meth.sig.returnType = none) (hR : R.frames = d ∧ R.locals = 64 * d) (hd : 5 ≤ d) {N : Nat} {a0 : Nat} {i1 : Int32} {t0 : Nat} {out : (Unit × zm_S)} {S : zm_S} (h : zf_X15_clause_J77 N a0 i1 t0 S = some out) : zw p l e R s m args below meth c (vx_MQ below (zm_Qc zk_E V (zo_v out)) (zm_XC zk_E V zo_x) args s mc ms (fun q => V.2.2.2.1 ≤ q)) 2 zk_E V mc ms 77 [(0, .ref a0), (1, .int i1)] [.ref t0] S rc rs := by
  unfold zf_X15_clause_J77 at h
  refine zw_iconst (v := (0 : Int32)) hX dX15_clause_77 (by decide) ?_
  refine zw_sub (lv' := [(0, .ref a0), (1, .int i1)]) (List.forall_mem_cons.mpr ⟨rfl, (List.forall_mem_cons.mpr ⟨rfl, zs_nil⟩)⟩) ?_
  exact zt_X15_clause_J78 hX hr hR hd h
set_option maxHeartbeats 4000000 in
set_option maxRecDepth 100000 in
theorem zt_X15_clause {l : Launch} {V : zm_V} {N : Nat} {S : zm_S} {out : (Unit × zm_S)} {d : Nat} {a0 : Nat} (hd : 5 ≤ d) (h : zf_X15_clause N a0 S = some out) : zm_Met l zk_E V yX15_clause (.code yX15_clause cX15_clause 2 none) d [.ref a0] S 0 0 (zo_v out) zo_x := by
  refine zm_of (by decide +kernel) (Nat.le_of_ble_eq_true rfl) ?_
  intro p e R s m args below meth c hRR hX hr hxt
  have hR : R.frames = d ∧ R.locals = 64 * d := by rw [hRR]; exact ⟨rfl, rfl⟩
  have hX : zm_X p R s m args meth c RX15 "clause" cX15_clause 2 zk_E V 0 0 := hX
  unfold zf_X15_clause at h
  refine zw_sub (lv' := [(0, .ref a0)]) (List.forall_mem_cons.mpr ⟨rfl, zs_nil⟩) ?_
  refine zw_bipush (v := (60 : Int32)) hX dX15_clause_0 (by decide) ?_
  refine zw_aload_n hX dX15_clause_2 rfl ?_
  obtain ⟨v1, g, h⟩ := zb_some h
  refine zw_geti hX zl_X15_155 dX15_clause_3 g ?_
  refine zw_iadd hX dX15_clause_6 ?_
  refine zw_istore_n hX dX15_clause_7 (by decide) ?_
  refine zw_aload_n hX dX15_clause_8 rfl ?_
  refine zw_dup hX dX15_clause_9 rfl ?_
  obtain ⟨v2, g, h⟩ := zb_some h
  refine zw_geti hX zl_X15_155 dX15_clause_10 g ?_
  refine zw_iconst (v := (1 : Int32)) hX dX15_clause_13 (by decide) ?_
  refine zw_iadd hX dX15_clause_14 ?_
  obtain ⟨S3, g, h⟩ := zb_some h
  refine zw_putv hX zl_X15_155 zt_15_33 dX15_clause_15 rfl rfl g ?_
  refine zw_aload_n hX dX15_clause_18 rfl ?_
  obtain ⟨b4, g, h⟩ := zb_some h
  refine zw_getr hX zl_X15_32 dX15_clause_19 g ?_
  refine zw_iload_n hX dX15_clause_22 rfl ?_
  refine zw_aload_n hX dX15_clause_23 rfl ?_
  obtain ⟨v5, g, h⟩ := zb_some h
  refine zw_geti hX zl_X15_134 dX15_clause_24 g ?_
  obtain ⟨S6, g, h⟩ := zb_some h
  refine zw_si hX dX15_clause_27 g ?_
  refine zw_aload_n hX dX15_clause_28 rfl ?_
  obtain ⟨_, gi, h⟩ := zb_some h
  obtain ⟨r8, g, h⟩ := zb_some h
  refine zc_Vv (as := []) hX gi (zt_X15_side (d := d - 1) (by omega) g) zl_X15_158 rfl dX15_clause_29 ⟨rfl, rfl, Nat.le_of_ble_eq_true rfl⟩ ⟨by omega, by omega⟩ ?_
  refine zw_aload_n hX dX15_clause_32 rfl ?_
  obtain ⟨b9, g, h⟩ := zb_some h
  refine zw_getr hX zl_X15_35 dX15_clause_33 g ?_
  refine zw_iload_n hX dX15_clause_36 rfl ?_
  refine zw_aload_n hX dX15_clause_37 rfl ?_
  obtain ⟨v10, g, h⟩ := zb_some h
  refine zw_geti hX zl_X15_134 dX15_clause_38 g ?_
  obtain ⟨S11, g, h⟩ := zb_some h
  refine zw_si hX dX15_clause_41 g ?_
  refine zw_aload_n hX dX15_clause_42 rfl ?_
  obtain ⟨b12, g, h⟩ := zb_some h
  refine zw_getr hX zl_X15_41 dX15_clause_43 g ?_
  refine zw_iload_n hX dX15_clause_46 rfl ?_
  refine zw_aload_n hX dX15_clause_47 rfl ?_
  obtain ⟨v13, g, h⟩ := zb_some h
  refine zw_geti hX zl_X15_99 dX15_clause_48 g ?_
  obtain ⟨r15, g, h⟩ := zb_some h
  refine zc_Si (as := [.int v13]) hX (zt_X15_relation (d := d - 1) (by omega) g) zl_X15_161 dX15_clause_51 ⟨rfl, rfl, Nat.le_of_ble_eq_true rfl⟩ ⟨by omega, by omega⟩ ?_
  obtain ⟨S16, g, h⟩ := zb_some h
  refine zw_si hX dX15_clause_54 g ?_
  refine zw_aload_n hX dX15_clause_55 rfl ?_
  refine zw_aload_n hX dX15_clause_56 rfl ?_
  obtain ⟨v17, g, h⟩ := zb_some h
  refine zw_geti hX zl_X15_121 dX15_clause_57 g ?_
  refine zw_if_ne (tgt := 77) hX dX15_clause_60 (by decide) (fun c60 => ?_) (fun c60 => ?_)
  · rw [if_neg c60] at h
    refine zw_sub (lv' := [(0, .ref a0), (1, .int ((60 : Int32) + v1))]) (List.forall_mem_cons.mpr ⟨rfl, (List.forall_mem_cons.mpr ⟨rfl, zs_nil⟩)⟩) ?_
    exact zt_X15_clause_J77 hX hr hR hd h
  · rw [if_pos c60] at h
    refine zw_aload_n hX dX15_clause_63 rfl ?_
    obtain ⟨v26, g, h⟩ := zb_some h
    refine zw_geti hX zl_X15_99 dX15_clause_64 g ?_
    obtain ⟨r28, g, h⟩ := zb_some h
    refine zc_Si (as := [.int v26]) hX (zt_X15_relation (d := d - 1) (by omega) g) zl_X15_161 dX15_clause_67 ⟨rfl, rfl, Nat.le_of_ble_eq_true rfl⟩ ⟨by omega, by omega⟩ ?_
    refine zw_if_lt (tgt := 77) hX dX15_clause_70 (by decide) (fun c70 => ?_) (fun c70 => ?_)
    · rw [if_pos c70] at h
      refine zw_sub (lv' := [(0, .ref a0), (1, .int ((60 : Int32) + v1))]) (List.forall_mem_cons.mpr ⟨rfl, (List.forall_mem_cons.mpr ⟨rfl, zs_nil⟩)⟩) ?_
      exact zt_X15_clause_J77 hX hr hR hd h
    · rw [if_neg c70] at h
      refine zw_iconst (v := (1 : Int32)) hX dX15_clause_73 (by decide) ?_
      refine zw_goto (tgt := 78) hX dX15_clause_74 (by decide) ?_
      refine zw_sub (lv' := [(0, .ref a0), (1, .int ((60 : Int32) + v1))]) (List.forall_mem_cons.mpr ⟨rfl, (List.forall_mem_cons.mpr ⟨rfl, zs_nil⟩)⟩) ?_
      exact zt_X15_clause_J78 hX hr hR hd h
set_option maxHeartbeats 4000000 in
set_option maxRecDepth 100000 in
theorem zt_X15_isNew_J37 {p : Program} {l : Launch} {e : Env} {R : Room} {s : State} {m : MethodId} {args : Array Value} {below : List Frame} {meth : Method} {c : Code} {V : zm_V} {mc ms d rc rs : Nat} (hX : zm_X p R s m args meth c RX15 "isNew" cX15_isNew 5 zk_E V mc ms) (hr : meth.sig.returnType = (some .boolean)) (hR : R.frames = d ∧ R.locals = 64 * d) (hd : 1 ≤ d) {N : Nat} {k : Nat → Int64 → Int32 → Int32 → zm_S → Option ((Int32 × zm_S) ⊕ ((Int32) × zm_S))} {a0 : Nat} {j1 : Int64} {i4 : Int32} {res : (Int32 × zm_S) ⊕ ((Int32) × zm_S)} {out : (Int32 × zm_S)}   (hf : ∀ o, res = .inl o → o = out) (hk : ∀ (x3 : Int32) (S' : zm_S), res = .inr (x3, S') → zw p l e R s m args below meth c (vx_MQ below (zm_Qc zk_E V (zo_i out)) (zm_XC zk_E V zo_x) args s mc ms (fun q => V.2.2.2.1 ≤ q)) 5 zk_E V mc ms 45 [(3, .int x3)] [] S' rc rs) (hrec : ∀ (i3' : Int32) (i4' : Int32) (S : zm_S), k a0 j1 i3' i4' S = some res → zw p l e R s m args below meth c (vx_MQ below (zm_Qc zk_E V (zo_i out)) (zm_XC zk_E V zo_x) args s mc ms (fun q => V.2.2.2.1 ≤ q)) 5 zk_E V mc ms 5 [(0, .ref a0), (1, .long j1), (3, .int i3'), (4, .int i4')] [] S rc rs) {S : zm_S} (h : zf_X15_isNew_J37 N k a0 j1 i4 S = some res) : zw p l e R s m args below meth c (vx_MQ below (zm_Qc zk_E V (zo_i out)) (zm_XC zk_E V zo_x) args s mc ms (fun q => V.2.2.2.1 ≤ q)) 5 zk_E V mc ms 37 [(0, .ref a0), (1, .long j1), (4, .int i4)] [] S rc rs := by
  unfold zf_X15_isNew_J37 at h
  refine zw_iconst (v := (0 : Int32)) hX dX15_isNew_37 (by decide) ?_
  refine zw_istore_n hX dX15_isNew_38 (by decide) ?_
  refine zw_iinc (v := (i4 + (1 : Int32))) hX dX15_isNew_39 rfl rfl (by decide) ?_
  refine zw_goto (tgt := 5) hX dX15_isNew_42 (by decide) ?_
  refine zw_sub (lv' := [(0, .ref a0), (1, .long j1), (3, .int (0 : Int32)), (4, .int (i4 + (1 : Int32)))]) (List.forall_mem_cons.mpr ⟨rfl, (List.forall_mem_cons.mpr ⟨rfl, (List.forall_mem_cons.mpr ⟨rfl, (List.forall_mem_cons.mpr ⟨rfl, zs_nil⟩)⟩)⟩)⟩) ?_
  exact hrec _ _ _ h
set_option maxHeartbeats 4000000 in
set_option maxRecDepth 100000 in
theorem zt_X15_isNew_L5 {p : Program} {l : Launch} {e : Env} {R : Room} {s : State} {m : MethodId} {args : Array Value} {below : List Frame} {meth : Method} {c : Code} {V : zm_V} {mc ms d rc rs : Nat} (hX : zm_X p R s m args meth c RX15 "isNew" cX15_isNew 5 zk_E V mc ms) (hr : meth.sig.returnType = (some .boolean)) (hR : R.frames = d ∧ R.locals = 64 * d) (hd : 1 ≤ d) {N : Nat} {res : (Int32 × zm_S) ⊕ ((Int32) × zm_S)} {out : (Int32 × zm_S)} (a0 : Nat) (j1 : Int64) (hf : ∀ o, res = .inl o → o = out) (hk : ∀ (x3 : Int32) (S' : zm_S), res = .inr (x3, S') → zw p l e R s m args below meth c (vx_MQ below (zm_Qc zk_E V (zo_i out)) (zm_XC zk_E V zo_x) args s mc ms (fun q => V.2.2.2.1 ≤ q)) 5 zk_E V mc ms 45 [(3, .int x3)] [] S' rc rs) : ∀ (n : Nat) (i3 : Int32) (i4 : Int32) (S : zm_S), zf_X15_isNew_L5 N n a0 j1 i3 i4 S = some res → zw p l e R s m args below meth c (vx_MQ below (zm_Qc zk_E V (zo_i out)) (zm_XC zk_E V zo_x) args s mc ms (fun q => V.2.2.2.1 ≤ q)) 5 zk_E V mc ms 5 [(0, .ref a0), (1, .long j1), (3, .int i3), (4, .int i4)] [] S rc rs := by
  intro n
  induction n with
  | zero => intro i3 i4 S h; cases h
  | succ n ih =>
    intro i3 i4 S h
    rw [zf_X15_isNew_L5] at h
    refine zw_iload hX dX15_isNew_5 rfl ?_
    refine zw_aload_n hX dX15_isNew_7 rfl ?_
    obtain ⟨v1, g, h⟩ := zb_some h
    refine zw_geti hX zl_X15_164 dX15_isNew_8 g ?_
    refine zw_icmp_ge (tgt := 45) hX dX15_isNew_11 (by decide) (fun c11 => ?_) (fun c11 => ?_)
    · rw [if_pos c11] at h
      refine zw_sub (lv' := [(3, .int i3)]) (List.forall_mem_cons.mpr ⟨rfl, zs_nil⟩) ?_
      exact hk _ _ (Option.some.inj h).symm
    · rw [if_neg c11] at h
      refine zw_iload_n hX dX15_isNew_14 rfl ?_
      refine zw_if_eq (tgt := 37) hX dX15_isNew_15 (by decide) (fun c15 => ?_) (fun c15 => ?_)
      · rw [if_pos c15] at h
        refine zw_sub (lv' := [(0, .ref a0), (1, .long j1), (4, .int i4)]) (List.forall_mem_cons.mpr ⟨rfl, (List.forall_mem_cons.mpr ⟨rfl, (List.forall_mem_cons.mpr ⟨rfl, zs_nil⟩)⟩)⟩) ?_
        exact zt_X15_isNew_J37 hX hr hR hd hf hk ih h
      · rw [if_neg c15] at h
        refine zw_aload_n hX dX15_isNew_18 rfl ?_
        obtain ⟨b2, g, h⟩ := zb_some h
        refine zw_getr hX zl_X15_20 dX15_isNew_19 g ?_
        refine zw_bipush (v := (12 : Int32)) hX dX15_isNew_22 (by decide) ?_
        refine zw_iload hX dX15_isNew_24 rfl ?_
        refine zw_iadd hX dX15_isNew_26 ?_
        obtain ⟨w3, g, h⟩ := zb_some h
        refine zw_xl hX dX15_isNew_27 g ?_
        refine zw_lload_n hX dX15_isNew_28 rfl ?_
        refine zw_lcmp hX dX15_isNew_29 ?_
        refine zw_if_eq (tgt := 37) hX dX15_isNew_30 (by decide) (fun c30 => ?_) (fun c30 => ?_)
        · rw [if_pos c30] at h
          refine zw_sub (lv' := [(0, .ref a0), (1, .long j1), (4, .int i4)]) (List.forall_mem_cons.mpr ⟨rfl, (List.forall_mem_cons.mpr ⟨rfl, (List.forall_mem_cons.mpr ⟨rfl, zs_nil⟩)⟩)⟩) ?_
          exact zt_X15_isNew_J37 hX hr hR hd hf hk ih h
        · rw [if_neg c30] at h
          refine zw_iconst (v := (1 : Int32)) hX dX15_isNew_33 (by decide) ?_
          refine zw_goto (tgt := 38) hX dX15_isNew_34 (by decide) ?_
          refine zw_istore_n hX dX15_isNew_38 (by decide) ?_
          refine zw_iinc (v := (i4 + (1 : Int32))) hX dX15_isNew_39 rfl rfl (by decide) ?_
          refine zw_goto (tgt := 5) hX dX15_isNew_42 (by decide) ?_
          refine zw_sub (lv' := [(0, .ref a0), (1, .long j1), (3, .int (1 : Int32)), (4, .int (i4 + (1 : Int32)))]) (List.forall_mem_cons.mpr ⟨rfl, (List.forall_mem_cons.mpr ⟨rfl, (List.forall_mem_cons.mpr ⟨rfl, (List.forall_mem_cons.mpr ⟨rfl, zs_nil⟩)⟩)⟩)⟩) ?_
          exact ih _ _ _ h
set_option maxHeartbeats 4000000 in
set_option maxRecDepth 100000 in
theorem zt_X15_isNew {l : Launch} {V : zm_V} {N : Nat} {S : zm_S} {out : (Int32 × zm_S)} {d : Nat} {a0 : Nat} {j1 : Int64} (hd : 1 ≤ d) (h : zf_X15_isNew N a0 j1 S = some out) : zm_Met l zk_E V yX15_isNew (.code yX15_isNew cX15_isNew 5 (some .boolean)) d [.ref a0, .long j1] S 0 0 (zo_i out) zo_x := by
  refine zm_of (by decide +kernel) (Nat.le_of_ble_eq_true rfl) ?_
  intro p e R s m args below meth c hRR hX hr hxt
  have hR : R.frames = d ∧ R.locals = 64 * d := by rw [hRR]; exact ⟨rfl, rfl⟩
  have hX : zm_X p R s m args meth c RX15 "isNew" cX15_isNew 5 zk_E V 0 0 := hX
  unfold zf_X15_isNew at h
  refine zw_sub (lv' := [(0, .ref a0), (1, .long j1)]) (List.forall_mem_cons.mpr ⟨rfl, (List.forall_mem_cons.mpr ⟨rfl, zs_nil⟩)⟩) ?_
  refine zw_iconst (v := (1 : Int32)) hX dX15_isNew_0 (by decide) ?_
  refine zw_istore_n hX dX15_isNew_1 (by decide) ?_
  refine zw_iconst (v := (0 : Int32)) hX dX15_isNew_2 (by decide) ?_
  refine zw_istore hX dX15_isNew_3 (by decide) ?_
  obtain ⟨r, g, h⟩ := zb_some h
  refine zw_sub (lv' := [(0, .ref a0), (1, .long j1), (3, .int (1 : Int32)), (4, .int (0 : Int32))]) (List.forall_mem_cons.mpr ⟨rfl, (List.forall_mem_cons.mpr ⟨rfl, (List.forall_mem_cons.mpr ⟨rfl, (List.forall_mem_cons.mpr ⟨rfl, zs_nil⟩)⟩)⟩)⟩) ?_
  refine zt_X15_isNew_L5 hX hr hR hd (res := r) (out := out) a0 j1 ?_ ?_ N _ _ _ g
  · intro o ho
    subst ho
    exact Option.some.inj h
  · intro v5 S4 hx
    subst hx
    try dsimp only at h
    refine zw_iload_n hX dX15_isNew_45 rfl ?_
    by_cases cz : v5 = 0 ∨ v5 = 1
    · rw [if_pos cz] at h
      obtain rfl := Option.some.inj h
      exact zw_iret hX hr dX15_isNew_46 (zn_z cz) ⟨rfl, rfl⟩
    · rw [if_neg cz] at h
      cases h
set_option maxHeartbeats 4000000 in
set_option maxRecDepth 100000 in
theorem zt_X15_rule_L138 {p : Program} {l : Launch} {e : Env} {R : Room} {s : State} {m : MethodId} {args : Array Value} {below : List Frame} {meth : Method} {c : Code} {V : zm_V} {mc ms d rc rs : Nat} (hX : zm_X p R s m args meth c RX15 "rule" cX15_rule 2 zk_E V mc ms) (hr : meth.sig.returnType = none) (hR : R.frames = d ∧ R.locals = 64 * d) (hd : 6 ≤ d) {N : Nat} {res : (Unit × zm_S) ⊕ ((Unit) × zm_S)} {out : (Unit × zm_S)} (a0 : Nat) (i1 : Int32) (hf : ∀ o, res = .inl o → o = out) (hk : ∀ (S' : zm_S), res = .inr ((), S') → zw p l e R s m args below meth c (vx_MQ below (zm_Qc zk_E V (zo_v out)) (zm_XC zk_E V zo_x) args s mc ms (fun q => V.2.2.2.1 ≤ q)) 2 zk_E V mc ms 183 [(0, .ref a0), (1, .int i1)] [] S' rc rs) : ∀ (n : Nat)  (S : zm_S), zf_X15_rule_L138 N n a0 i1 S = some res → zw p l e R s m args below meth c (vx_MQ below (zm_Qc zk_E V (zo_v out)) (zm_XC zk_E V zo_x) args s mc ms (fun q => V.2.2.2.1 ≤ q)) 2 zk_E V mc ms 138 [(0, .ref a0), (1, .int i1)] [] S rc rs := by
  intro n
  induction n with
  | zero => intro  S h; cases h
  | succ n ih =>
    intro  S h
    rw [zf_X15_rule_L138] at h
    refine zw_aload_n hX dX15_rule_138 rfl ?_
    obtain ⟨v23, g, h⟩ := zb_some h
    refine zw_geti hX zl_X15_121 dX15_rule_139 g ?_
    refine zw_if_ne (tgt := 183) hX dX15_rule_142 (by decide) (fun c142 => ?_) (fun c142 => ?_)
    · rw [if_neg c142] at h
      refine zw_sub (lv' := [(0, .ref a0), (1, .int i1)]) (List.forall_mem_cons.mpr ⟨rfl, (List.forall_mem_cons.mpr ⟨rfl, zs_nil⟩)⟩) ?_
      exact hk  _ (Option.some.inj h).symm
    · rw [if_pos c142] at h
      refine zw_aload_n hX dX15_rule_145 rfl ?_
      obtain ⟨v24, g, h⟩ := zb_some h
      refine zw_geti hX zl_X15_99 dX15_rule_146 g ?_
      refine zw_bipush (v := (33 : Int32)) hX dX15_rule_149 (by decide) ?_
      refine zw_icmp_ne (tgt := 183) hX dX15_rule_151 (by decide) (fun c151 => ?_) (fun c151 => ?_)
      · rw [if_neg c151] at h
        refine zw_sub (lv' := [(0, .ref a0), (1, .int i1)]) (List.forall_mem_cons.mpr ⟨rfl, (List.forall_mem_cons.mpr ⟨rfl, zs_nil⟩)⟩) ?_
        exact hk  _ (Option.some.inj h).symm
      · rw [if_pos c151] at h
        refine zw_aload_n hX dX15_rule_154 rfl ?_
        refine zw_iconst (v := (1 : Int32)) hX dX15_rule_155 (by decide) ?_
        obtain ⟨_, gi, h⟩ := zb_some h
        obtain ⟨r26, g, h⟩ := zb_some h
        refine zc_Vv (as := [.int (1 : Int32)]) hX gi (zt_X15_take (d := d - 1) (by omega) g) zl_X15_147 rfl dX15_rule_156 ⟨rfl, rfl, Nat.le_of_ble_eq_true rfl⟩ ⟨by omega, by omega⟩ ?_
        refine zw_aload_n hX dX15_rule_159 rfl ?_
        obtain ⟨v27, g, h⟩ := zb_some h
        refine zw_geti hX zl_X15_121 dX15_rule_160 g ?_
        refine zw_if_ne (tgt := 138) hX dX15_rule_163 (by decide) (fun c163 => ?_) (fun c163 => ?_)
        · rw [if_neg c163] at h
          refine zw_sub (lv' := [(0, .ref a0), (1, .int i1)]) (List.forall_mem_cons.mpr ⟨rfl, (List.forall_mem_cons.mpr ⟨rfl, zs_nil⟩)⟩) ?_
          exact ih  _ h
        · rw [if_pos c163] at h
          refine zw_aload_n hX dX15_rule_166 rfl ?_
          obtain ⟨b28, g, h⟩ := zb_some h
          refine zw_getr hX zl_X15_26 dX15_rule_167 g ?_
          refine zw_iload_n hX dX15_rule_170 rfl ?_
          refine zw_dup2 hX dX15_rule_171 rfl rfl ?_
          obtain ⟨v29, g, h⟩ := zb_some h
          refine zw_xi hX dX15_rule_172 g ?_
          refine zw_iconst (v := (1 : Int32)) hX dX15_rule_173 (by decide) ?_
          refine zw_iadd hX dX15_rule_174 ?_
          obtain ⟨S30, g, h⟩ := zb_some h
          refine zw_si hX dX15_rule_175 g ?_
          refine zw_aload_n hX dX15_rule_176 rfl ?_
          obtain ⟨_, gi, h⟩ := zb_some h
          obtain ⟨r32, g, h⟩ := zb_some h
          refine zc_Vv (as := []) hX gi (zt_X15_clause (d := d - 1) (by omega) g) zl_X15_171 rfl dX15_rule_177 ⟨rfl, rfl, Nat.le_of_ble_eq_true rfl⟩ ⟨by omega, by omega⟩ ?_
          refine zw_goto (tgt := 138) hX dX15_rule_180 (by decide) ?_
          refine zw_sub (lv' := [(0, .ref a0), (1, .int i1)]) (List.forall_mem_cons.mpr ⟨rfl, (List.forall_mem_cons.mpr ⟨rfl, zs_nil⟩)⟩) ?_
          exact ih  _ h
set_option maxHeartbeats 4000000 in
set_option maxRecDepth 100000 in
theorem zt_X15_rule_J183 {p : Program} {l : Launch} {e : Env} {R : Room} {s : State} {m : MethodId} {args : Array Value} {below : List Frame} {meth : Method} {c : Code} {V : zm_V} {mc ms d rc rs : Nat} (hX : zm_X p R s m args meth c RX15 "rule" cX15_rule 2 zk_E V mc ms) (hr : meth.sig.returnType = none) (hR : R.frames = d ∧ R.locals = 64 * d) (hd : 6 ≤ d) {N : Nat} {a0 : Nat} {i1 : Int32} {out : (Unit × zm_S)} {S : zm_S} (h : zf_X15_rule_J183 N a0 i1 S = some out) : zw p l e R s m args below meth c (vx_MQ below (zm_Qc zk_E V (zo_v out)) (zm_XC zk_E V zo_x) args s mc ms (fun q => V.2.2.2.1 ≤ q)) 2 zk_E V mc ms 183 [(0, .ref a0), (1, .int i1)] [] S rc rs := by
  unfold zf_X15_rule_J183 at h
  refine zw_aload_n hX dX15_rule_183 rfl ?_
  obtain ⟨v34, g, h⟩ := zb_some h
  refine zw_geti hX zl_X15_121 dX15_rule_184 g ?_
  refine zw_if_ne (tgt := 232) hX dX15_rule_187 (by decide) (fun c187 => ?_) (fun c187 => ?_)
  · rw [if_neg c187] at h
    obtain rfl := Option.some.inj h
    exact zw_vret hX hr dX15_rule_232 ⟨rfl, rfl⟩
  · rw [if_pos c187] at h
    refine zw_aload_n hX dX15_rule_190 rfl ?_
    obtain ⟨v35, g, h⟩ := zb_some h
    refine zw_geti hX zl_X15_99 dX15_rule_191 g ?_
    refine zw_bipush (v := (64 : Int32)) hX dX15_rule_194 (by decide) ?_
    refine zw_icmp_ne (tgt := 232) hX dX15_rule_196 (by decide) (fun c196 => ?_) (fun c196 => ?_)
    · rw [if_neg c196] at h
      obtain rfl := Option.some.inj h
      exact zw_vret hX hr dX15_rule_232 ⟨rfl, rfl⟩
    · rw [if_pos c196] at h
      refine zw_aload_n hX dX15_rule_199 rfl ?_
      refine zw_iconst (v := (1 : Int32)) hX dX15_rule_200 (by decide) ?_
      obtain ⟨_, gi, h⟩ := zb_some h
      obtain ⟨r37, g, h⟩ := zb_some h
      refine zc_Vv (as := [.int (1 : Int32)]) hX gi (zt_X15_take (d := d - 1) (by omega) g) zl_X15_147 rfl dX15_rule_201 ⟨rfl, rfl, Nat.le_of_ble_eq_true rfl⟩ ⟨by omega, by omega⟩ ?_
      refine zw_aload_n hX dX15_rule_204 rfl ?_
      obtain ⟨b38, g, h⟩ := zb_some h
      refine zw_getr hX zl_X15_29 dX15_rule_205 g ?_
      refine zw_iload_n hX dX15_rule_208 rfl ?_
      refine zw_aload_n hX dX15_rule_209 rfl ?_
      obtain ⟨w39, g, h⟩ := zb_some h
      refine zw_getl hX zl_X15_102 dX15_rule_210 g ?_
      refine zw_l2i hX dX15_rule_213 ?_
      obtain ⟨S40, g, h⟩ := zb_some h
      refine zw_si hX dX15_rule_214 g ?_
      refine zw_aload_n hX dX15_rule_215 rfl ?_
      refine zw_aload_n hX dX15_rule_216 rfl ?_
      obtain ⟨v41, g, h⟩ := zb_some h
      refine zw_geti hX zl_X15_99 dX15_rule_217 g ?_
      refine zw_iconst (v := (1 : Int32)) hX dX15_rule_220 (by decide) ?_
      refine zw_icmp_ne (tgt := 228) hX dX15_rule_221 (by decide) (fun c221 => ?_) (fun c221 => ?_)
      · rw [if_neg c221] at h
        refine zw_iconst (v := (0 : Int32)) hX dX15_rule_228 (by decide) ?_
        obtain ⟨_, gi, h⟩ := zb_some h
        obtain ⟨r43, g, h⟩ := zb_some h
        refine zc_Vv (as := [.int (0 : Int32)]) hX gi (zt_X15_take (d := d - 1) (by omega) g) zl_X15_147 rfl dX15_rule_229 ⟨rfl, rfl, Nat.le_of_ble_eq_true rfl⟩ ⟨by omega, by omega⟩ ?_
        obtain rfl := Option.some.inj h
        exact zw_vret hX hr dX15_rule_232 ⟨rfl, rfl⟩
      · rw [if_pos c221] at h
        refine zw_iconst (v := (1 : Int32)) hX dX15_rule_224 (by decide) ?_
        refine zw_goto (tgt := 229) hX dX15_rule_225 (by decide) ?_
        obtain ⟨_, gi, h⟩ := zb_some h
        obtain ⟨r45, g, h⟩ := zb_some h
        refine zc_Vv (as := [.int (1 : Int32)]) hX gi (zt_X15_take (d := d - 1) (by omega) g) zl_X15_147 rfl dX15_rule_229 ⟨rfl, rfl, Nat.le_of_ble_eq_true rfl⟩ ⟨by omega, by omega⟩ ?_
        obtain rfl := Option.some.inj h
        exact zw_vret hX hr dX15_rule_232 ⟨rfl, rfl⟩
set_option maxHeartbeats 4000000 in
set_option maxRecDepth 100000 in
theorem zt_X15_rule_J124 {p : Program} {l : Launch} {e : Env} {R : Room} {s : State} {m : MethodId} {args : Array Value} {below : List Frame} {meth : Method} {c : Code} {V : zm_V} {mc ms d rc rs : Nat} (hX : zm_X p R s m args meth c RX15 "rule" cX15_rule 2 zk_E V mc ms) (hr : meth.sig.returnType = none) (hR : R.frames = d ∧ R.locals = 64 * d) (hd : 6 ≤ d) {N : Nat} {a0 : Nat} {i1 : Int32} {t0 : Nat} {t1 : Int32} {out : (Unit × zm_S)} {S : zm_S} (h : zf_X15_rule_J124 N a0 i1 t0 t1 S = some out) : zw p l e R s m args below meth c (vx_MQ below (zm_Qc zk_E V (zo_v out)) (zm_XC zk_E V zo_x) args s mc ms (fun q => V.2.2.2.1 ≤ q)) 2 zk_E V mc ms 124 [(0, .ref a0), (1, .int i1)] [.int t1, .ref t0] S rc rs := by
  unfold zf_X15_rule_J124 at h
  obtain ⟨_, gi, h⟩ := zb_some h
  obtain ⟨r21, g, h⟩ := zb_some h
  refine zc_Vv (as := [.int t1]) hX gi (zt_X15_take (d := d - 1) (by omega) g) zl_X15_147 rfl dX15_rule_124 ⟨rfl, rfl, Nat.le_of_ble_eq_true rfl⟩ ⟨by omega, by omega⟩ ?_
  refine zw_aload_n hX dX15_rule_127 rfl ?_
  obtain ⟨v22, g, h⟩ := zb_some h
  refine zw_geti hX zl_X15_121 dX15_rule_128 g ?_
  refine zw_if_ne (tgt := 138) hX dX15_rule_131 (by decide) (fun c131 => ?_) (fun c131 => ?_)
  · rw [if_neg c131] at h
    obtain ⟨r, g, h⟩ := zb_some h
    refine zw_sub (lv' := [(0, .ref a0), (1, .int i1)]) (List.forall_mem_cons.mpr ⟨rfl, (List.forall_mem_cons.mpr ⟨rfl, zs_nil⟩)⟩) ?_
    refine zt_X15_rule_L138 hX hr hR hd (res := r) (out := out) a0 i1 ?_ ?_ N  _ g
    · intro o ho
      subst ho
      exact Option.some.inj h
    · intro  S33 hx
      subst hx
      try dsimp only at h
      refine zw_sub (lv' := [(0, .ref a0), (1, .int i1)]) (List.forall_mem_cons.mpr ⟨rfl, (List.forall_mem_cons.mpr ⟨rfl, zs_nil⟩)⟩) ?_
      exact zt_X15_rule_J183 hX hr hR hd h
  · rw [if_pos c131] at h
    refine zw_aload_n hX dX15_rule_134 rfl ?_
    obtain ⟨_, gi, h⟩ := zb_some h
    obtain ⟨r47, g, h⟩ := zb_some h
    refine zc_Vv (as := []) hX gi (zt_X15_clause (d := d - 1) (by omega) g) zl_X15_171 rfl dX15_rule_135 ⟨rfl, rfl, Nat.le_of_ble_eq_true rfl⟩ ⟨by omega, by omega⟩ ?_
    obtain ⟨r, g, h⟩ := zb_some h
    refine zw_sub (lv' := [(0, .ref a0), (1, .int i1)]) (List.forall_mem_cons.mpr ⟨rfl, (List.forall_mem_cons.mpr ⟨rfl, zs_nil⟩)⟩) ?_
    refine zt_X15_rule_L138 hX hr hR hd (res := r) (out := out) a0 i1 ?_ ?_ N  _ g
    · intro o ho
      subst ho
      exact Option.some.inj h
    · intro  S48 hx
      subst hx
      try dsimp only at h
      refine zw_sub (lv' := [(0, .ref a0), (1, .int i1)]) (List.forall_mem_cons.mpr ⟨rfl, (List.forall_mem_cons.mpr ⟨rfl, zs_nil⟩)⟩) ?_
      exact zt_X15_rule_J183 hX hr hR hd h
set_option maxHeartbeats 4000000 in
set_option maxRecDepth 100000 in
theorem zt_X15_rule_J41 {p : Program} {l : Launch} {e : Env} {R : Room} {s : State} {m : MethodId} {args : Array Value} {below : List Frame} {meth : Method} {c : Code} {V : zm_V} {mc ms d rc rs : Nat} (hX : zm_X p R s m args meth c RX15 "rule" cX15_rule 2 zk_E V mc ms) (hr : meth.sig.returnType = none) (hR : R.frames = d ∧ R.locals = 64 * d) (hd : 6 ≤ d) {N : Nat} {a0 : Nat} {t0 : Nat} {t1 : Int32} {out : (Unit × zm_S)} {S : zm_S} (h : zf_X15_rule_J41 N a0 t0 t1 S = some out) : zw p l e R s m args below meth c (vx_MQ below (zm_Qc zk_E V (zo_v out)) (zm_XC zk_E V zo_x) args s mc ms (fun q => V.2.2.2.1 ≤ q)) 2 zk_E V mc ms 41 [(0, .ref a0)] [.int t1, .ref t0] S rc rs := by
  unfold zf_X15_rule_J41 at h
  obtain ⟨S2, g, h⟩ := zb_some h
  obtain ⟨gz, g⟩ := zp_z_spec g
  refine zw_putv hX zl_X15_121 zt_15_31 dX15_rule_41 (zn_z gz) (zf_z gz) g ?_
  refine zw_aload_n hX dX15_rule_44 rfl ?_
  obtain ⟨v3, g, h⟩ := zb_some h
  refine zw_geti hX zl_X15_121 dX15_rule_45 g ?_
  refine zw_if_eq (tgt := 52) hX dX15_rule_48 (by decide) (fun c48 => ?_) (fun c48 => ?_)
  · rw [if_pos c48] at h
    refine zw_bipush (v := (12 : Int32)) hX dX15_rule_52 (by decide) ?_
    refine zw_aload_n hX dX15_rule_54 rfl ?_
    obtain ⟨v4, g, h⟩ := zb_some h
    refine zw_geti hX zl_X15_164 dX15_rule_55 g ?_
    refine zw_iadd hX dX15_rule_58 ?_
    refine zw_istore_n hX dX15_rule_59 (by decide) ?_
    refine zw_aload_n hX dX15_rule_60 rfl ?_
    refine zw_dup hX dX15_rule_61 rfl ?_
    obtain ⟨v5, g, h⟩ := zb_some h
    refine zw_geti hX zl_X15_164 dX15_rule_62 g ?_
    refine zw_iconst (v := (1 : Int32)) hX dX15_rule_65 (by decide) ?_
    refine zw_iadd hX dX15_rule_66 ?_
    obtain ⟨S6, g, h⟩ := zb_some h
    refine zw_putv hX zl_X15_164 zt_15_32 dX15_rule_67 rfl rfl g ?_
    refine zw_aload_n hX dX15_rule_70 rfl ?_
    obtain ⟨b7, g, h⟩ := zb_some h
    refine zw_getr hX zl_X15_20 dX15_rule_71 g ?_
    refine zw_iload_n hX dX15_rule_74 rfl ?_
    refine zw_aload_n hX dX15_rule_75 rfl ?_
    obtain ⟨w8, g, h⟩ := zb_some h
    refine zw_getl hX zl_X15_102 dX15_rule_76 g ?_
    obtain ⟨S9, g, h⟩ := zb_some h
    refine zw_sl hX dX15_rule_79 g ?_
    refine zw_aload_n hX dX15_rule_80 rfl ?_
    obtain ⟨b10, g, h⟩ := zb_some h
    refine zw_getr hX zl_X15_23 dX15_rule_81 g ?_
    refine zw_iload_n hX dX15_rule_84 rfl ?_
    refine zw_aload_n hX dX15_rule_85 rfl ?_
    obtain ⟨v11, g, h⟩ := zb_some h
    refine zw_geti hX zl_X15_155 dX15_rule_86 g ?_
    obtain ⟨S12, g, h⟩ := zb_some h
    refine zw_si hX dX15_rule_89 g ?_
    refine zw_aload_n hX dX15_rule_90 rfl ?_
    obtain ⟨b13, g, h⟩ := zb_some h
    refine zw_getr hX zl_X15_26 dX15_rule_91 g ?_
    refine zw_iload_n hX dX15_rule_94 rfl ?_
    refine zw_iconst (v := (0 : Int32)) hX dX15_rule_95 (by decide) ?_
    obtain ⟨S14, g, h⟩ := zb_some h
    refine zw_si hX dX15_rule_96 g ?_
    refine zw_aload_n hX dX15_rule_97 rfl ?_
    obtain ⟨b15, g, h⟩ := zb_some h
    refine zw_getr hX zl_X15_29 dX15_rule_98 g ?_
    refine zw_iload_n hX dX15_rule_101 rfl ?_
    refine zw_iconst (v := (0 : Int32)) hX dX15_rule_102 (by decide) ?_
    obtain ⟨S16, g, h⟩ := zb_some h
    refine zw_si hX dX15_rule_103 g ?_
    refine zw_aload_n hX dX15_rule_104 rfl ?_
    refine zw_iconst (v := (1 : Int32)) hX dX15_rule_105 (by decide) ?_
    obtain ⟨_, gi, h⟩ := zb_some h
    obtain ⟨r18, g, h⟩ := zb_some h
    refine zc_Vv (as := [.int (1 : Int32)]) hX gi (zt_X15_take (d := d - 1) (by omega) g) zl_X15_147 rfl dX15_rule_106 ⟨rfl, rfl, Nat.le_of_ble_eq_true rfl⟩ ⟨by omega, by omega⟩ ?_
    refine zw_aload_n hX dX15_rule_109 rfl ?_
    refine zw_aload_n hX dX15_rule_110 rfl ?_
    obtain ⟨v19, g, h⟩ := zb_some h
    refine zw_geti hX zl_X15_99 dX15_rule_111 g ?_
    refine zw_bipush (v := (58 : Int32)) hX dX15_rule_114 (by decide) ?_
    refine zw_icmp_ne (tgt := 123) hX dX15_rule_116 (by decide) (fun c116 => ?_) (fun c116 => ?_)
    · rw [if_neg c116] at h
      refine zw_iconst (v := (0 : Int32)) hX dX15_rule_123 (by decide) ?_
      refine zw_sub (lv' := [(0, .ref a0), (1, .int ((12 : Int32) + v4))]) (List.forall_mem_cons.mpr ⟨rfl, (List.forall_mem_cons.mpr ⟨rfl, zs_nil⟩)⟩) ?_
      exact zt_X15_rule_J124 hX hr hR hd h
    · rw [if_pos c116] at h
      refine zw_iconst (v := (1 : Int32)) hX dX15_rule_119 (by decide) ?_
      refine zw_goto (tgt := 124) hX dX15_rule_120 (by decide) ?_
      refine zw_sub (lv' := [(0, .ref a0), (1, .int ((12 : Int32) + v4))]) (List.forall_mem_cons.mpr ⟨rfl, (List.forall_mem_cons.mpr ⟨rfl, zs_nil⟩)⟩) ?_
      exact zt_X15_rule_J124 hX hr hR hd h
  · rw [if_neg c48] at h
    obtain rfl := Option.some.inj h
    exact zw_vret hX hr dX15_rule_51 ⟨rfl, rfl⟩
set_option maxHeartbeats 4000000 in
set_option maxRecDepth 100000 in
theorem zt_X15_rule_J36 {p : Program} {l : Launch} {e : Env} {R : Room} {s : State} {m : MethodId} {args : Array Value} {below : List Frame} {meth : Method} {c : Code} {V : zm_V} {mc ms d rc rs : Nat} (hX : zm_X p R s m args meth c RX15 "rule" cX15_rule 2 zk_E V mc ms) (hr : meth.sig.returnType = none) (hR : R.frames = d ∧ R.locals = 64 * d) (hd : 6 ≤ d) {N : Nat} {a0 : Nat} {t0 : Nat} {out : (Unit × zm_S)} {S : zm_S} (h : zf_X15_rule_J36 N a0 t0 S = some out) : zw p l e R s m args below meth c (vx_MQ below (zm_Qc zk_E V (zo_v out)) (zm_XC zk_E V zo_x) args s mc ms (fun q => V.2.2.2.1 ≤ q)) 2 zk_E V mc ms 36 [(0, .ref a0)] [.ref t0] S rc rs := by
  unfold zf_X15_rule_J36 at h
  refine zw_iconst (v := (1 : Int32)) hX dX15_rule_36 (by decide) ?_
  refine zw_goto (tgt := 41) hX dX15_rule_37 (by decide) ?_
  refine zw_sub (lv' := [(0, .ref a0)]) (List.forall_mem_cons.mpr ⟨rfl, zs_nil⟩) ?_
  exact zt_X15_rule_J41 hX hr hR hd h
set_option maxHeartbeats 4000000 in
set_option maxRecDepth 100000 in
theorem zt_X15_rule {l : Launch} {V : zm_V} {N : Nat} {S : zm_S} {out : (Unit × zm_S)} {d : Nat} {a0 : Nat} (hd : 6 ≤ d) (h : zf_X15_rule N a0 S = some out) : zm_Met l zk_E V yX15_rule (.code yX15_rule cX15_rule 2 none) d [.ref a0] S 0 0 (zo_v out) zo_x := by
  refine zm_of (by decide +kernel) (Nat.le_of_ble_eq_true rfl) ?_
  intro p e R s m args below meth c hRR hX hr hxt
  have hR : R.frames = d ∧ R.locals = 64 * d := by rw [hRR]; exact ⟨rfl, rfl⟩
  have hX : zm_X p R s m args meth c RX15 "rule" cX15_rule 2 zk_E V 0 0 := hX
  unfold zf_X15_rule at h
  refine zw_sub (lv' := [(0, .ref a0)]) (List.forall_mem_cons.mpr ⟨rfl, zs_nil⟩) ?_
  refine zw_aload_n hX dX15_rule_0 rfl ?_
  refine zw_aload_n hX dX15_rule_1 rfl ?_
  obtain ⟨v1, g, h⟩ := zb_some h
  refine zw_geti hX zl_X15_121 dX15_rule_2 g ?_
  refine zw_if_ne (tgt := 36) hX dX15_rule_5 (by decide) (fun c5 => ?_) (fun c5 => ?_)
  · rw [if_neg c5] at h
    refine zw_sub (lv' := [(0, .ref a0)]) (List.forall_mem_cons.mpr ⟨rfl, zs_nil⟩) ?_
    exact zt_X15_rule_J36 hX hr hR hd h
  · rw [if_pos c5] at h
    refine zw_aload_n hX dX15_rule_8 rfl ?_
    obtain ⟨v49, g, h⟩ := zb_some h
    refine zw_geti hX zl_X15_99 dX15_rule_9 g ?_
    refine zw_iconst (v := (2 : Int32)) hX dX15_rule_12 (by decide) ?_
    refine zw_icmp_ne (tgt := 36) hX dX15_rule_13 (by decide) (fun c13 => ?_) (fun c13 => ?_)
    · rw [if_neg c13] at h
      refine zw_sub (lv' := [(0, .ref a0)]) (List.forall_mem_cons.mpr ⟨rfl, zs_nil⟩) ?_
      exact zt_X15_rule_J36 hX hr hR hd h
    · rw [if_pos c13] at h
      refine zw_aload_n hX dX15_rule_16 rfl ?_
      obtain ⟨v50, g, h⟩ := zb_some h
      refine zw_geti hX zl_X15_164 dX15_rule_17 g ?_
      refine zw_bipush (v := (12 : Int32)) hX dX15_rule_20 (by decide) ?_
      refine zw_icmp_eq (tgt := 36) hX dX15_rule_22 (by decide) (fun c22 => ?_) (fun c22 => ?_)
      · rw [if_pos c22] at h
        refine zw_sub (lv' := [(0, .ref a0)]) (List.forall_mem_cons.mpr ⟨rfl, zs_nil⟩) ?_
        exact zt_X15_rule_J36 hX hr hR hd h
      · rw [if_neg c22] at h
        refine zw_aload_n hX dX15_rule_25 rfl ?_
        refine zw_aload_n hX dX15_rule_26 rfl ?_
        obtain ⟨w51, g, h⟩ := zb_some h
        refine zw_getl hX zl_X15_102 dX15_rule_27 g ?_
        obtain ⟨_, gi, h⟩ := zb_some h
        obtain ⟨r53, g, h⟩ := zb_some h
        refine zc_Vi (as := [.long w51]) hX gi (zt_X15_isNew (d := d - 1) (by omega) g) zl_X15_167 rfl dX15_rule_30 ⟨rfl, rfl, Nat.le_of_ble_eq_true rfl⟩ ⟨by omega, by omega⟩ ?_
        refine zw_if_ne (tgt := 40) hX dX15_rule_33 (by decide) (fun c33 => ?_) (fun c33 => ?_)
        · rw [if_neg c33] at h
          refine zw_iconst (v := (0 : Int32)) hX dX15_rule_40 (by decide) ?_
          refine zw_sub (lv' := [(0, .ref a0)]) (List.forall_mem_cons.mpr ⟨rfl, zs_nil⟩) ?_
          exact zt_X15_rule_J41 hX hr hR hd h
        · rw [if_pos c33] at h
          refine zw_sub (lv' := [(0, .ref a0)]) (List.forall_mem_cons.mpr ⟨rfl, zs_nil⟩) ?_
          exact zt_X15_rule_J36 hX hr hR hd h
set_option maxHeartbeats 4000000 in
set_option maxRecDepth 100000 in
theorem zt_X15_adopt_L26 {p : Program} {l : Launch} {e : Env} {R : Room} {s : State} {m : MethodId} {args : Array Value} {below : List Frame} {meth : Method} {c : Code} {V : zm_V} {mc ms d rc rs : Nat} (hX : zm_X p R s m args meth c RX15 "adopt" cX15_adopt 2 zk_E V mc ms) (hr : meth.sig.returnType = none) (hR : R.frames = d ∧ R.locals = 64 * d) (hd : 1 ≤ d) {N : Nat} {res : (Unit × zm_S) ⊕ ((Unit) × zm_S)} {out : (Unit × zm_S)} (a0 : Nat) (hf : ∀ o, res = .inl o → o = out) (hk : ∀ (S' : zm_S), res = .inr ((), S') → zw p l e R s m args below meth c (vx_MQ below (zm_Qc zk_E V (zo_v out)) (zm_XC zk_E V zo_x) args s mc ms (fun q => V.2.2.2.1 ≤ q)) 2 zk_E V mc ms 100 [(0, .ref a0)] [] S' rc rs) : ∀ (n : Nat) (i1 : Int32) (S : zm_S), zf_X15_adopt_L26 N n a0 i1 S = some res → zw p l e R s m args below meth c (vx_MQ below (zm_Qc zk_E V (zo_v out)) (zm_XC zk_E V zo_x) args s mc ms (fun q => V.2.2.2.1 ≤ q)) 2 zk_E V mc ms 26 [(0, .ref a0), (1, .int i1)] [] S rc rs := by
  intro n
  induction n with
  | zero => intro i1 S h; cases h
  | succ n ih =>
    intro i1 S h
    rw [zf_X15_adopt_L26] at h
    refine zw_iload_n hX dX15_adopt_26 rfl ?_
    refine zw_aload_n hX dX15_adopt_27 rfl ?_
    obtain ⟨v7, g, h⟩ := zb_some h
    refine zw_geti hX zl_X15_174 dX15_adopt_28 g ?_
    refine zw_icmp_ge (tgt := 100) hX dX15_adopt_31 (by decide) (fun c31 => ?_) (fun c31 => ?_)
    · rw [if_pos c31] at h
      refine zw_sub (lv' := [(0, .ref a0)]) (List.forall_mem_cons.mpr ⟨rfl, zs_nil⟩) ?_
      exact hk  _ (Option.some.inj h).symm
    · rw [if_neg c31] at h
      refine zw_aload_n hX dX15_adopt_34 rfl ?_
      obtain ⟨b8, g, h⟩ := zb_some h
      refine zw_getr hX zl_X15_20 dX15_adopt_35 g ?_
      refine zw_iload_n hX dX15_adopt_38 rfl ?_
      refine zw_aload_n hX dX15_adopt_39 rfl ?_
      obtain ⟨b9, g, h⟩ := zb_some h
      refine zw_getr hX zl_X15_20 dX15_adopt_40 g ?_
      refine zw_bipush (v := (12 : Int32)) hX dX15_adopt_43 (by decide) ?_
      refine zw_iload_n hX dX15_adopt_45 rfl ?_
      refine zw_iadd hX dX15_adopt_46 ?_
      obtain ⟨w10, g, h⟩ := zb_some h
      refine zw_xl hX dX15_adopt_47 g ?_
      obtain ⟨S11, g, h⟩ := zb_some h
      refine zw_sl hX dX15_adopt_48 g ?_
      refine zw_aload_n hX dX15_adopt_49 rfl ?_
      obtain ⟨b12, g, h⟩ := zb_some h
      refine zw_getr hX zl_X15_23 dX15_adopt_50 g ?_
      refine zw_iload_n hX dX15_adopt_53 rfl ?_
      refine zw_aload_n hX dX15_adopt_54 rfl ?_
      obtain ⟨b13, g, h⟩ := zb_some h
      refine zw_getr hX zl_X15_23 dX15_adopt_55 g ?_
      refine zw_bipush (v := (12 : Int32)) hX dX15_adopt_58 (by decide) ?_
      refine zw_iload_n hX dX15_adopt_60 rfl ?_
      refine zw_iadd hX dX15_adopt_61 ?_
      obtain ⟨v14, g, h⟩ := zb_some h
      refine zw_xi hX dX15_adopt_62 g ?_
      obtain ⟨S15, g, h⟩ := zb_some h
      refine zw_si hX dX15_adopt_63 g ?_
      refine zw_aload_n hX dX15_adopt_64 rfl ?_
      obtain ⟨b16, g, h⟩ := zb_some h
      refine zw_getr hX zl_X15_26 dX15_adopt_65 g ?_
      refine zw_iload_n hX dX15_adopt_68 rfl ?_
      refine zw_aload_n hX dX15_adopt_69 rfl ?_
      obtain ⟨b17, g, h⟩ := zb_some h
      refine zw_getr hX zl_X15_26 dX15_adopt_70 g ?_
      refine zw_bipush (v := (12 : Int32)) hX dX15_adopt_73 (by decide) ?_
      refine zw_iload_n hX dX15_adopt_75 rfl ?_
      refine zw_iadd hX dX15_adopt_76 ?_
      obtain ⟨v18, g, h⟩ := zb_some h
      refine zw_xi hX dX15_adopt_77 g ?_
      obtain ⟨S19, g, h⟩ := zb_some h
      refine zw_si hX dX15_adopt_78 g ?_
      refine zw_aload_n hX dX15_adopt_79 rfl ?_
      obtain ⟨b20, g, h⟩ := zb_some h
      refine zw_getr hX zl_X15_29 dX15_adopt_80 g ?_
      refine zw_iload_n hX dX15_adopt_83 rfl ?_
      refine zw_aload_n hX dX15_adopt_84 rfl ?_
      obtain ⟨b21, g, h⟩ := zb_some h
      refine zw_getr hX zl_X15_29 dX15_adopt_85 g ?_
      refine zw_bipush (v := (12 : Int32)) hX dX15_adopt_88 (by decide) ?_
      refine zw_iload_n hX dX15_adopt_90 rfl ?_
      refine zw_iadd hX dX15_adopt_91 ?_
      obtain ⟨v22, g, h⟩ := zb_some h
      refine zw_xi hX dX15_adopt_92 g ?_
      obtain ⟨S23, g, h⟩ := zb_some h
      refine zw_si hX dX15_adopt_93 g ?_
      refine zw_iinc (v := (i1 + (1 : Int32))) hX dX15_adopt_94 rfl rfl (by decide) ?_
      refine zw_goto (tgt := 26) hX dX15_adopt_97 (by decide) ?_
      refine zw_sub (lv' := [(0, .ref a0), (1, .int (i1 + (1 : Int32)))]) (List.forall_mem_cons.mpr ⟨rfl, (List.forall_mem_cons.mpr ⟨rfl, zs_nil⟩)⟩) ?_
      exact ih _ _ h
set_option maxHeartbeats 4000000 in
set_option maxRecDepth 100000 in
theorem zt_X15_adopt_L102 {p : Program} {l : Launch} {e : Env} {R : Room} {s : State} {m : MethodId} {args : Array Value} {below : List Frame} {meth : Method} {c : Code} {V : zm_V} {mc ms d rc rs : Nat} (hX : zm_X p R s m args meth c RX15 "adopt" cX15_adopt 2 zk_E V mc ms) (hr : meth.sig.returnType = none) (hR : R.frames = d ∧ R.locals = 64 * d) (hd : 1 ≤ d) {N : Nat} {res : (Unit × zm_S) ⊕ ((Unit) × zm_S)} {out : (Unit × zm_S)} (a0 : Nat) (hf : ∀ o, res = .inl o → o = out) (hk : ∀ (S' : zm_S), res = .inr ((), S') → zw p l e R s m args below meth c (vx_MQ below (zm_Qc zk_E V (zo_v out)) (zm_XC zk_E V zo_x) args s mc ms (fun q => V.2.2.2.1 ≤ q)) 2 zk_E V mc ms 176 [(0, .ref a0)] [] S' rc rs) : ∀ (n : Nat) (i1 : Int32) (S : zm_S), zf_X15_adopt_L102 N n a0 i1 S = some res → zw p l e R s m args below meth c (vx_MQ below (zm_Qc zk_E V (zo_v out)) (zm_XC zk_E V zo_x) args s mc ms (fun q => V.2.2.2.1 ≤ q)) 2 zk_E V mc ms 102 [(0, .ref a0), (1, .int i1)] [] S rc rs := by
  intro n
  induction n with
  | zero => intro i1 S h; cases h
  | succ n ih =>
    intro i1 S h
    rw [zf_X15_adopt_L102] at h
    refine zw_iload_n hX dX15_adopt_102 rfl ?_
    refine zw_aload_n hX dX15_adopt_103 rfl ?_
    obtain ⟨v25, g, h⟩ := zb_some h
    refine zw_geti hX zl_X15_177 dX15_adopt_104 g ?_
    refine zw_icmp_ge (tgt := 176) hX dX15_adopt_107 (by decide) (fun c107 => ?_) (fun c107 => ?_)
    · rw [if_pos c107] at h
      refine zw_sub (lv' := [(0, .ref a0)]) (List.forall_mem_cons.mpr ⟨rfl, zs_nil⟩) ?_
      exact hk  _ (Option.some.inj h).symm
    · rw [if_neg c107] at h
      refine zw_aload_n hX dX15_adopt_110 rfl ?_
      obtain ⟨b26, g, h⟩ := zb_some h
      refine zw_getr hX zl_X15_32 dX15_adopt_111 g ?_
      refine zw_iload_n hX dX15_adopt_114 rfl ?_
      refine zw_aload_n hX dX15_adopt_115 rfl ?_
      obtain ⟨b27, g, h⟩ := zb_some h
      refine zw_getr hX zl_X15_32 dX15_adopt_116 g ?_
      refine zw_bipush (v := (60 : Int32)) hX dX15_adopt_119 (by decide) ?_
      refine zw_iload_n hX dX15_adopt_121 rfl ?_
      refine zw_iadd hX dX15_adopt_122 ?_
      obtain ⟨v28, g, h⟩ := zb_some h
      refine zw_xi hX dX15_adopt_123 g ?_
      obtain ⟨S29, g, h⟩ := zb_some h
      refine zw_si hX dX15_adopt_124 g ?_
      refine zw_aload_n hX dX15_adopt_125 rfl ?_
      obtain ⟨b30, g, h⟩ := zb_some h
      refine zw_getr hX zl_X15_35 dX15_adopt_126 g ?_
      refine zw_iload_n hX dX15_adopt_129 rfl ?_
      refine zw_aload_n hX dX15_adopt_130 rfl ?_
      obtain ⟨b31, g, h⟩ := zb_some h
      refine zw_getr hX zl_X15_35 dX15_adopt_131 g ?_
      refine zw_bipush (v := (60 : Int32)) hX dX15_adopt_134 (by decide) ?_
      refine zw_iload_n hX dX15_adopt_136 rfl ?_
      refine zw_iadd hX dX15_adopt_137 ?_
      obtain ⟨v32, g, h⟩ := zb_some h
      refine zw_xi hX dX15_adopt_138 g ?_
      obtain ⟨S33, g, h⟩ := zb_some h
      refine zw_si hX dX15_adopt_139 g ?_
      refine zw_aload_n hX dX15_adopt_140 rfl ?_
      obtain ⟨b34, g, h⟩ := zb_some h
      refine zw_getr hX zl_X15_38 dX15_adopt_141 g ?_
      refine zw_iload_n hX dX15_adopt_144 rfl ?_
      refine zw_aload_n hX dX15_adopt_145 rfl ?_
      obtain ⟨b35, g, h⟩ := zb_some h
      refine zw_getr hX zl_X15_38 dX15_adopt_146 g ?_
      refine zw_bipush (v := (60 : Int32)) hX dX15_adopt_149 (by decide) ?_
      refine zw_iload_n hX dX15_adopt_151 rfl ?_
      refine zw_iadd hX dX15_adopt_152 ?_
      obtain ⟨v36, g, h⟩ := zb_some h
      refine zw_xi hX dX15_adopt_153 g ?_
      obtain ⟨S37, g, h⟩ := zb_some h
      refine zw_si hX dX15_adopt_154 g ?_
      refine zw_aload_n hX dX15_adopt_155 rfl ?_
      obtain ⟨b38, g, h⟩ := zb_some h
      refine zw_getr hX zl_X15_41 dX15_adopt_156 g ?_
      refine zw_iload_n hX dX15_adopt_159 rfl ?_
      refine zw_aload_n hX dX15_adopt_160 rfl ?_
      obtain ⟨b39, g, h⟩ := zb_some h
      refine zw_getr hX zl_X15_41 dX15_adopt_161 g ?_
      refine zw_bipush (v := (60 : Int32)) hX dX15_adopt_164 (by decide) ?_
      refine zw_iload_n hX dX15_adopt_166 rfl ?_
      refine zw_iadd hX dX15_adopt_167 ?_
      obtain ⟨v40, g, h⟩ := zb_some h
      refine zw_xi hX dX15_adopt_168 g ?_
      obtain ⟨S41, g, h⟩ := zb_some h
      refine zw_si hX dX15_adopt_169 g ?_
      refine zw_iinc (v := (i1 + (1 : Int32))) hX dX15_adopt_170 rfl rfl (by decide) ?_
      refine zw_goto (tgt := 102) hX dX15_adopt_173 (by decide) ?_
      refine zw_sub (lv' := [(0, .ref a0), (1, .int (i1 + (1 : Int32)))]) (List.forall_mem_cons.mpr ⟨rfl, (List.forall_mem_cons.mpr ⟨rfl, zs_nil⟩)⟩) ?_
      exact ih _ _ h
set_option maxHeartbeats 4000000 in
set_option maxRecDepth 100000 in
theorem zt_X15_adopt_L178 {p : Program} {l : Launch} {e : Env} {R : Room} {s : State} {m : MethodId} {args : Array Value} {below : List Frame} {meth : Method} {c : Code} {V : zm_V} {mc ms d rc rs : Nat} (hX : zm_X p R s m args meth c RX15 "adopt" cX15_adopt 2 zk_E V mc ms) (hr : meth.sig.returnType = none) (hR : R.frames = d ∧ R.locals = 64 * d) (hd : 1 ≤ d) {N : Nat} {res : (Unit × zm_S) ⊕ ((Unit) × zm_S)} {out : (Unit × zm_S)} (a0 : Nat) (hf : ∀ o, res = .inl o → o = out) (hk : ∀ (S' : zm_S), res = .inr ((), S') → zw p l e R s m args below meth c (vx_MQ below (zm_Qc zk_E V (zo_v out)) (zm_XC zk_E V zo_x) args s mc ms (fun q => V.2.2.2.1 ≤ q)) 2 zk_E V mc ms 224 [] [] S' rc rs) : ∀ (n : Nat) (i1 : Int32) (S : zm_S), zf_X15_adopt_L178 N n a0 i1 S = some res → zw p l e R s m args below meth c (vx_MQ below (zm_Qc zk_E V (zo_v out)) (zm_XC zk_E V zo_x) args s mc ms (fun q => V.2.2.2.1 ≤ q)) 2 zk_E V mc ms 178 [(0, .ref a0), (1, .int i1)] [] S rc rs := by
  intro n
  induction n with
  | zero => intro i1 S h; cases h
  | succ n ih =>
    intro i1 S h
    rw [zf_X15_adopt_L178] at h
    refine zw_iload_n hX dX15_adopt_178 rfl ?_
    refine zw_aload_n hX dX15_adopt_179 rfl ?_
    obtain ⟨v43, g, h⟩ := zb_some h
    refine zw_geti hX zl_X15_180 dX15_adopt_180 g ?_
    refine zw_icmp_ge (tgt := 224) hX dX15_adopt_183 (by decide) (fun c183 => ?_) (fun c183 => ?_)
    · rw [if_pos c183] at h
      refine zw_sub (lv' := []) zs_nil ?_
      exact hk  _ (Option.some.inj h).symm
    · rw [if_neg c183] at h
      refine zw_aload_n hX dX15_adopt_186 rfl ?_
      obtain ⟨b44, g, h⟩ := zb_some h
      refine zw_getr hX zl_X15_44 dX15_adopt_187 g ?_
      refine zw_iload_n hX dX15_adopt_190 rfl ?_
      refine zw_aload_n hX dX15_adopt_191 rfl ?_
      obtain ⟨b45, g, h⟩ := zb_some h
      refine zw_getr hX zl_X15_44 dX15_adopt_192 g ?_
      refine zw_sipush (v := (400 : Int32)) hX dX15_adopt_195 (by decide) ?_
      refine zw_iload_n hX dX15_adopt_198 rfl ?_
      refine zw_iadd hX dX15_adopt_199 ?_
      obtain ⟨v46, g, h⟩ := zb_some h
      refine zw_xi hX dX15_adopt_200 g ?_
      obtain ⟨S47, g, h⟩ := zb_some h
      refine zw_si hX dX15_adopt_201 g ?_
      refine zw_aload_n hX dX15_adopt_202 rfl ?_
      obtain ⟨b48, g, h⟩ := zb_some h
      refine zw_getr hX zl_X15_47 dX15_adopt_203 g ?_
      refine zw_iload_n hX dX15_adopt_206 rfl ?_
      refine zw_aload_n hX dX15_adopt_207 rfl ?_
      obtain ⟨b49, g, h⟩ := zb_some h
      refine zw_getr hX zl_X15_47 dX15_adopt_208 g ?_
      refine zw_sipush (v := (400 : Int32)) hX dX15_adopt_211 (by decide) ?_
      refine zw_iload_n hX dX15_adopt_214 rfl ?_
      refine zw_iadd hX dX15_adopt_215 ?_
      obtain ⟨w50, g, h⟩ := zb_some h
      refine zw_xl hX dX15_adopt_216 g ?_
      obtain ⟨S51, g, h⟩ := zb_some h
      refine zw_sl hX dX15_adopt_217 g ?_
      refine zw_iinc (v := (i1 + (1 : Int32))) hX dX15_adopt_218 rfl rfl (by decide) ?_
      refine zw_goto (tgt := 178) hX dX15_adopt_221 (by decide) ?_
      refine zw_sub (lv' := [(0, .ref a0), (1, .int (i1 + (1 : Int32)))]) (List.forall_mem_cons.mpr ⟨rfl, (List.forall_mem_cons.mpr ⟨rfl, zs_nil⟩)⟩) ?_
      exact ih _ _ h
set_option maxHeartbeats 4000000 in
set_option maxRecDepth 100000 in
theorem zt_X15_adopt {l : Launch} {V : zm_V} {N : Nat} {S : zm_S} {out : (Unit × zm_S)} {d : Nat} {a0 : Nat} (hd : 1 ≤ d) (h : zf_X15_adopt N a0 S = some out) : zm_Met l zk_E V yX15_adopt (.code yX15_adopt cX15_adopt 2 none) d [.ref a0] S 0 0 (zo_v out) zo_x := by
  refine zm_of (by decide +kernel) (Nat.le_of_ble_eq_true rfl) ?_
  intro p e R s m args below meth c hRR hX hr hxt
  have hR : R.frames = d ∧ R.locals = 64 * d := by rw [hRR]; exact ⟨rfl, rfl⟩
  have hX : zm_X p R s m args meth c RX15 "adopt" cX15_adopt 2 zk_E V 0 0 := hX
  unfold zf_X15_adopt at h
  refine zw_sub (lv' := [(0, .ref a0)]) (List.forall_mem_cons.mpr ⟨rfl, zs_nil⟩) ?_
  refine zw_aload_n hX dX15_adopt_0 rfl ?_
  refine zw_aload_n hX dX15_adopt_1 rfl ?_
  obtain ⟨v1, g, h⟩ := zb_some h
  refine zw_geti hX zl_X15_164 dX15_adopt_2 g ?_
  obtain ⟨S2, g, h⟩ := zb_some h
  refine zw_putv hX zl_X15_174 zt_15_5 dX15_adopt_5 rfl rfl g ?_
  refine zw_aload_n hX dX15_adopt_8 rfl ?_
  refine zw_aload_n hX dX15_adopt_9 rfl ?_
  obtain ⟨v3, g, h⟩ := zb_some h
  refine zw_geti hX zl_X15_155 dX15_adopt_10 g ?_
  obtain ⟨S4, g, h⟩ := zb_some h
  refine zw_putv hX zl_X15_177 zt_15_10 dX15_adopt_13 rfl rfl g ?_
  refine zw_aload_n hX dX15_adopt_16 rfl ?_
  refine zw_aload_n hX dX15_adopt_17 rfl ?_
  obtain ⟨v5, g, h⟩ := zb_some h
  refine zw_geti hX zl_X15_134 dX15_adopt_18 g ?_
  obtain ⟨S6, g, h⟩ := zb_some h
  refine zw_putv hX zl_X15_180 zt_15_15 dX15_adopt_21 rfl rfl g ?_
  refine zw_iconst (v := (0 : Int32)) hX dX15_adopt_24 (by decide) ?_
  refine zw_istore_n hX dX15_adopt_25 (by decide) ?_
  obtain ⟨r, g, h⟩ := zb_some h
  refine zw_sub (lv' := [(0, .ref a0), (1, .int (0 : Int32))]) (List.forall_mem_cons.mpr ⟨rfl, (List.forall_mem_cons.mpr ⟨rfl, zs_nil⟩)⟩) ?_
  refine zt_X15_adopt_L26 hX hr hR hd (res := r) (out := out) a0 ?_ ?_ N _ _ g
  · intro o ho
    subst ho
    exact Option.some.inj h
  · intro  S24 hx
    subst hx
    try dsimp only at h
    refine zw_iconst (v := (0 : Int32)) hX dX15_adopt_100 (by decide) ?_
    refine zw_istore_n hX dX15_adopt_101 (by decide) ?_
    obtain ⟨r, g, h⟩ := zb_some h
    refine zw_sub (lv' := [(0, .ref a0), (1, .int (0 : Int32))]) (List.forall_mem_cons.mpr ⟨rfl, (List.forall_mem_cons.mpr ⟨rfl, zs_nil⟩)⟩) ?_
    refine zt_X15_adopt_L102 hX hr hR hd (res := r) (out := out) a0 ?_ ?_ N _ _ g
    · intro o ho
      subst ho
      exact Option.some.inj h
    · intro  S42 hx
      subst hx
      try dsimp only at h
      refine zw_iconst (v := (0 : Int32)) hX dX15_adopt_176 (by decide) ?_
      refine zw_istore_n hX dX15_adopt_177 (by decide) ?_
      obtain ⟨r, g, h⟩ := zb_some h
      refine zw_sub (lv' := [(0, .ref a0), (1, .int (0 : Int32))]) (List.forall_mem_cons.mpr ⟨rfl, (List.forall_mem_cons.mpr ⟨rfl, zs_nil⟩)⟩) ?_
      refine zt_X15_adopt_L178 hX hr hR hd (res := r) (out := out) a0 ?_ ?_ N _ _ g
      · intro o ho
        subst ho
        exact Option.some.inj h
      · intro  S52 hx
        subst hx
        try dsimp only at h
        obtain rfl := Option.some.inj h
        exact zw_vret hX hr dX15_adopt_224 ⟨rfl, rfl⟩
set_option maxHeartbeats 4000000 in
set_option maxRecDepth 100000 in
theorem zt_X15_read_J67 {p : Program} {l : Launch} {e : Env} {R : Room} {s : State} {m : MethodId} {args : Array Value} {below : List Frame} {meth : Method} {c : Code} {V : zm_V} {mc ms d rc rs : Nat} (hX : zm_X p R s m args meth c RX15 "read" cX15_read 1 zk_E V mc ms) (hr : meth.sig.returnType = (some .int)) (hR : R.frames = d ∧ R.locals = 64 * d) (hd : 7 ≤ d) {N : Nat} {k : Nat → zm_S → Option ((Int32 × zm_S) ⊕ ((Unit) × zm_S))} {a0 : Nat} {t0 : Nat} {t1 : Int32} {res : (Int32 × zm_S) ⊕ ((Unit) × zm_S)} {out : (Int32 × zm_S)}   (hf : ∀ o, res = .inl o → o = out) (hk : ∀ (S' : zm_S), res = .inr ((), S') → zw p l e R s m args below meth c (vx_MQ below (zm_Qc zk_E V (zo_i out)) (zm_XC zk_E V zo_x) args s mc ms (fun q => V.2.2.2.1 ≤ q)) 1 zk_E V mc ms 91 [(0, .ref a0)] [] S' rc rs) (hrec : ∀  (S : zm_S), k a0 S = some res → zw p l e R s m args below meth c (vx_MQ below (zm_Qc zk_E V (zo_i out)) (zm_XC zk_E V zo_x) args s mc ms (fun q => V.2.2.2.1 ≤ q)) 1 zk_E V mc ms 38 [(0, .ref a0)] [] S rc rs) {S : zm_S} (h : zf_X15_read_J67 N k a0 t0 t1 S = some res) : zw p l e R s m args below meth c (vx_MQ below (zm_Qc zk_E V (zo_i out)) (zm_XC zk_E V zo_x) args s mc ms (fun q => V.2.2.2.1 ≤ q)) 1 zk_E V mc ms 67 [(0, .ref a0)] [.int t1, .ref t0] S rc rs := by
  unfold zf_X15_read_J67 at h
  obtain ⟨_, gi, h⟩ := zb_some h
  obtain ⟨r15, g, h⟩ := zb_some h
  refine zc_Vv (as := [.int t1]) hX gi (zt_X15_take (d := d - 1) (by omega) g) zl_X15_147 rfl dX15_read_67 ⟨rfl, rfl, Nat.le_of_ble_eq_true rfl⟩ ⟨by omega, by omega⟩ ?_
  refine zw_aload_n hX dX15_read_70 rfl ?_
  obtain ⟨v16, g, h⟩ := zb_some h
  refine zw_geti hX zl_X15_121 dX15_read_71 g ?_
  refine zw_if_ne (tgt := 38) hX dX15_read_74 (by decide) (fun c74 => ?_) (fun c74 => ?_)
  · rw [if_neg c74] at h
    refine zw_sub (lv' := [(0, .ref a0)]) (List.forall_mem_cons.mpr ⟨rfl, zs_nil⟩) ?_
    exact hrec  _ h
  · rw [if_pos c74] at h
    refine zw_aload_n hX dX15_read_77 rfl ?_
    obtain ⟨v17, g, h⟩ := zb_some h
    refine zw_geti hX zl_X15_99 dX15_read_78 g ?_
    refine zw_if_eq (tgt := 38) hX dX15_read_81 (by decide) (fun c81 => ?_) (fun c81 => ?_)
    · rw [if_pos c81] at h
      refine zw_sub (lv' := [(0, .ref a0)]) (List.forall_mem_cons.mpr ⟨rfl, zs_nil⟩) ?_
      exact hrec  _ h
    · rw [if_neg c81] at h
      refine zw_aload_n hX dX15_read_84 rfl ?_
      obtain ⟨_, gi, h⟩ := zb_some h
      obtain ⟨r19, g, h⟩ := zb_some h
      refine zc_Vv (as := []) hX gi (zt_X15_rule (d := d - 1) (by omega) g) zl_X15_183 rfl dX15_read_85 ⟨rfl, rfl, Nat.le_of_ble_eq_true rfl⟩ ⟨by omega, by omega⟩ ?_
      refine zw_goto (tgt := 38) hX dX15_read_88 (by decide) ?_
      refine zw_sub (lv' := [(0, .ref a0)]) (List.forall_mem_cons.mpr ⟨rfl, zs_nil⟩) ?_
      exact hrec  _ h
set_option maxHeartbeats 4000000 in
set_option maxRecDepth 100000 in
theorem zt_X15_read_L38 {p : Program} {l : Launch} {e : Env} {R : Room} {s : State} {m : MethodId} {args : Array Value} {below : List Frame} {meth : Method} {c : Code} {V : zm_V} {mc ms d rc rs : Nat} (hX : zm_X p R s m args meth c RX15 "read" cX15_read 1 zk_E V mc ms) (hr : meth.sig.returnType = (some .int)) (hR : R.frames = d ∧ R.locals = 64 * d) (hd : 7 ≤ d) {N : Nat} {res : (Int32 × zm_S) ⊕ ((Unit) × zm_S)} {out : (Int32 × zm_S)} (a0 : Nat) (hf : ∀ o, res = .inl o → o = out) (hk : ∀ (S' : zm_S), res = .inr ((), S') → zw p l e R s m args below meth c (vx_MQ below (zm_Qc zk_E V (zo_i out)) (zm_XC zk_E V zo_x) args s mc ms (fun q => V.2.2.2.1 ≤ q)) 1 zk_E V mc ms 91 [(0, .ref a0)] [] S' rc rs) : ∀ (n : Nat)  (S : zm_S), zf_X15_read_L38 N n a0 S = some res → zw p l e R s m args below meth c (vx_MQ below (zm_Qc zk_E V (zo_i out)) (zm_XC zk_E V zo_x) args s mc ms (fun q => V.2.2.2.1 ≤ q)) 1 zk_E V mc ms 38 [(0, .ref a0)] [] S rc rs := by
  intro n
  induction n with
  | zero => intro  S h; cases h
  | succ n ih =>
    intro  S h
    rw [zf_X15_read_L38] at h
    refine zw_aload_n hX dX15_read_38 rfl ?_
    obtain ⟨v11, g, h⟩ := zb_some h
    refine zw_geti hX zl_X15_121 dX15_read_39 g ?_
    refine zw_if_ne (tgt := 91) hX dX15_read_42 (by decide) (fun c42 => ?_) (fun c42 => ?_)
    · rw [if_neg c42] at h
      refine zw_sub (lv' := [(0, .ref a0)]) (List.forall_mem_cons.mpr ⟨rfl, zs_nil⟩) ?_
      exact hk  _ (Option.some.inj h).symm
    · rw [if_pos c42] at h
      refine zw_aload_n hX dX15_read_45 rfl ?_
      obtain ⟨v12, g, h⟩ := zb_some h
      refine zw_geti hX zl_X15_99 dX15_read_46 g ?_
      refine zw_if_eq (tgt := 91) hX dX15_read_49 (by decide) (fun c49 => ?_) (fun c49 => ?_)
      · rw [if_pos c49] at h
        refine zw_sub (lv' := [(0, .ref a0)]) (List.forall_mem_cons.mpr ⟨rfl, zs_nil⟩) ?_
        exact hk  _ (Option.some.inj h).symm
      · rw [if_neg c49] at h
        refine zw_aload_n hX dX15_read_52 rfl ?_
        refine zw_aload_n hX dX15_read_53 rfl ?_
        obtain ⟨v13, g, h⟩ := zb_some h
        refine zw_geti hX zl_X15_99 dX15_read_54 g ?_
        refine zw_bipush (v := (59 : Int32)) hX dX15_read_57 (by decide) ?_
        refine zw_icmp_ne (tgt := 66) hX dX15_read_59 (by decide) (fun c59 => ?_) (fun c59 => ?_)
        · rw [if_neg c59] at h
          refine zw_iconst (v := (0 : Int32)) hX dX15_read_66 (by decide) ?_
          refine zw_sub (lv' := [(0, .ref a0)]) (List.forall_mem_cons.mpr ⟨rfl, zs_nil⟩) ?_
          exact zt_X15_read_J67 hX hr hR hd hf hk ih h
        · rw [if_pos c59] at h
          refine zw_iconst (v := (1 : Int32)) hX dX15_read_62 (by decide) ?_
          refine zw_goto (tgt := 67) hX dX15_read_63 (by decide) ?_
          refine zw_sub (lv' := [(0, .ref a0)]) (List.forall_mem_cons.mpr ⟨rfl, zs_nil⟩) ?_
          exact zt_X15_read_J67 hX hr hR hd hf hk ih h
set_option maxHeartbeats 4000000 in
set_option maxRecDepth 100000 in
theorem zt_X15_read_J91 {p : Program} {l : Launch} {e : Env} {R : Room} {s : State} {m : MethodId} {args : Array Value} {below : List Frame} {meth : Method} {c : Code} {V : zm_V} {mc ms d rc rs : Nat} (hX : zm_X p R s m args meth c RX15 "read" cX15_read 1 zk_E V mc ms) (hr : meth.sig.returnType = (some .int)) (hR : R.frames = d ∧ R.locals = 64 * d) (hd : 7 ≤ d) {N : Nat} {a0 : Nat} {out : (Int32 × zm_S)} {S : zm_S} (h : zf_X15_read_J91 N a0 S = some out) : zw p l e R s m args below meth c (vx_MQ below (zm_Qc zk_E V (zo_i out)) (zm_XC zk_E V zo_x) args s mc ms (fun q => V.2.2.2.1 ≤ q)) 1 zk_E V mc ms 91 [(0, .ref a0)] [] S rc rs := by
  unfold zf_X15_read_J91 at h
  refine zw_aload_n hX dX15_read_91 rfl ?_
  obtain ⟨v21, g, h⟩ := zb_some h
  refine zw_geti hX zl_X15_121 dX15_read_92 g ?_
  refine zw_if_eq (tgt := 105) hX dX15_read_95 (by decide) (fun c95 => ?_) (fun c95 => ?_)
  · rw [if_pos c95] at h
    refine zw_aload_n hX dX15_read_105 rfl ?_
    obtain ⟨_, gi, h⟩ := zb_some h
    obtain ⟨r23, g, h⟩ := zb_some h
    refine zc_Vv (as := []) hX gi (zt_X15_adopt (d := d - 1) (by omega) g) zl_X15_186 rfl dX15_read_106 ⟨rfl, rfl, Nat.le_of_ble_eq_true rfl⟩ ⟨by omega, by omega⟩ ?_
    refine zw_aload_n hX dX15_read_109 rfl ?_
    refine zw_iconst (v := (0 : Int32)) hX dX15_read_110 (by decide) ?_
    obtain ⟨S24, g, h⟩ := zb_some h
    refine zw_putv hX zl_X15_90 zt_15_1 dX15_read_111 rfl rfl g ?_
    refine zw_aload_n hX dX15_read_114 rfl ?_
    refine zw_iconst (v := (-1 : Int32)) hX dX15_read_115 (by decide) ?_
    obtain ⟨S25, g, h⟩ := zb_some h
    refine zw_putv hX zl_X15_50 zt_15_18 dX15_read_116 rfl rfl g ?_
    refine zw_aload_n hX dX15_read_119 rfl ?_
    obtain ⟨v26, g, h⟩ := zb_some h
    refine zw_geti hX zl_X15_174 dX15_read_120 g ?_
    obtain rfl := Option.some.inj h
    exact zw_iret hX hr dX15_read_123 rfl ⟨rfl, rfl⟩
  · rw [if_neg c95] at h
    refine zw_iconst (v := (-1 : Int32)) hX dX15_read_98 (by decide) ?_
    refine zw_aload_n hX dX15_read_99 rfl ?_
    obtain ⟨v27, g, h⟩ := zb_some h
    refine zw_geti hX zl_X15_96 dX15_read_100 g ?_
    refine zw_isub hX dX15_read_103 ?_
    obtain rfl := Option.some.inj h
    exact zw_iret hX hr dX15_read_104 rfl ⟨rfl, rfl⟩
set_option maxHeartbeats 4000000 in
set_option maxRecDepth 100000 in
theorem zt_X15_read {l : Launch} {V : zm_V} {N : Nat} {S : zm_S} {out : (Int32 × zm_S)} {d : Nat} {a0 : Nat} (hd : 7 ≤ d) (h : zf_X15_read N a0 S = some out) : zm_Met l zk_E V yX15_read (.code yX15_read cX15_read 1 (some .int)) d [.ref a0] S 0 0 (zo_i out) zo_x := by
  refine zm_of (by decide +kernel) (Nat.le_of_ble_eq_true rfl) ?_
  intro p e R s m args below meth c hRR hX hr hxt
  have hR : R.frames = d ∧ R.locals = 64 * d := by rw [hRR]; exact ⟨rfl, rfl⟩
  have hX : zm_X p R s m args meth c RX15 "read" cX15_read 1 zk_E V 0 0 := hX
  unfold zf_X15_read at h
  refine zw_sub (lv' := [(0, .ref a0)]) (List.forall_mem_cons.mpr ⟨rfl, zs_nil⟩) ?_
  refine zw_aload_n hX dX15_read_0 rfl ?_
  refine zw_iconst (v := (0 : Int32)) hX dX15_read_1 (by decide) ?_
  obtain ⟨S1, g, h⟩ := zb_some h
  refine zw_putv hX zl_X15_93 zt_15_27 dX15_read_2 rfl rfl g ?_
  refine zw_aload_n hX dX15_read_5 rfl ?_
  refine zw_iconst (v := (0 : Int32)) hX dX15_read_6 (by decide) ?_
  obtain ⟨S2, g, h⟩ := zb_some h
  refine zw_putv hX zl_X15_106 zt_15_30 dX15_read_7 rfl rfl g ?_
  refine zw_aload_n hX dX15_read_10 rfl ?_
  refine zw_iconst (v := (0 : Int32)) hX dX15_read_11 (by decide) ?_
  obtain ⟨S3, g, h⟩ := zb_some h
  refine zw_putv hX zl_X15_121 zt_15_31 dX15_read_12 rfl (by decide) g ?_
  refine zw_aload_n hX dX15_read_15 rfl ?_
  refine zw_iconst (v := (0 : Int32)) hX dX15_read_16 (by decide) ?_
  obtain ⟨S4, g, h⟩ := zb_some h
  refine zw_putv hX zl_X15_164 zt_15_32 dX15_read_17 rfl rfl g ?_
  refine zw_aload_n hX dX15_read_20 rfl ?_
  refine zw_iconst (v := (0 : Int32)) hX dX15_read_21 (by decide) ?_
  obtain ⟨S5, g, h⟩ := zb_some h
  refine zw_putv hX zl_X15_155 zt_15_33 dX15_read_22 rfl rfl g ?_
  refine zw_aload_n hX dX15_read_25 rfl ?_
  refine zw_iconst (v := (0 : Int32)) hX dX15_read_26 (by decide) ?_
  obtain ⟨S6, g, h⟩ := zb_some h
  refine zw_putv hX zl_X15_134 zt_15_34 dX15_read_27 rfl rfl g ?_
  refine zw_aload_n hX dX15_read_30 rfl ?_
  obtain ⟨_, gi, h⟩ := zb_some h
  obtain ⟨r8, g, h⟩ := zb_some h
  refine zc_Vv (as := []) hX gi (zt_X15_step (d := d - 1) (by omega) g) zl_X15_131 rfl dX15_read_31 ⟨rfl, rfl, Nat.le_of_ble_eq_true rfl⟩ ⟨by omega, by omega⟩ ?_
  refine zw_aload_n hX dX15_read_34 rfl ?_
  obtain ⟨_, gi, h⟩ := zb_some h
  obtain ⟨r10, g, h⟩ := zb_some h
  refine zc_Vv (as := []) hX gi (zt_X15_rule (d := d - 1) (by omega) g) zl_X15_183 rfl dX15_read_35 ⟨rfl, rfl, Nat.le_of_ble_eq_true rfl⟩ ⟨by omega, by omega⟩ ?_
  obtain ⟨r, g, h⟩ := zb_some h
  refine zw_sub (lv' := [(0, .ref a0)]) (List.forall_mem_cons.mpr ⟨rfl, zs_nil⟩) ?_
  refine zt_X15_read_L38 hX hr hR hd (res := r) (out := out) a0 ?_ ?_ N  _ g
  · intro o ho
    subst ho
    exact Option.some.inj h
  · intro  S20 hx
    subst hx
    try dsimp only at h
    refine zw_sub (lv' := [(0, .ref a0)]) (List.forall_mem_cons.mpr ⟨rfl, zs_nil⟩) ?_
    exact zt_X15_read_J91 hX hr hR hd h
set_option maxHeartbeats 4000000 in
set_option maxRecDepth 100000 in
theorem zt_X15_isName_J57 {p : Program} {l : Launch} {e : Env} {R : Room} {s : State} {m : MethodId} {args : Array Value} {below : List Frame} {meth : Method} {c : Code} {V : zm_V} {mc ms d rc rs : Nat} (hX : zm_X p R s m args meth c RX15 "isName" cX15_isName 6 zk_E V mc ms) (hr : meth.sig.returnType = (some .boolean)) (hR : R.frames = d ∧ R.locals = 64 * d) (hd : 2 ≤ d) {N : Nat} {k : Int64 → Int32 → Int32 → Int32 → zm_S → Option ((Int32 × zm_S) ⊕ ((Int32 × Int32) × zm_S))} {j0 : Int64} {i2 : Int32} {i4 : Int32} {res : (Int32 × zm_S) ⊕ ((Int32 × Int32) × zm_S)} {out : (Int32 × zm_S)}   (hf : ∀ o, res = .inl o → o = out) (hk : ∀ (x2 : Int32) (x3 : Int32) (S' : zm_S), res = .inr ((x2, x3), S') → zw p l e R s m args below meth c (vx_MQ below (zm_Qc zk_E V (zo_i out)) (zm_XC zk_E V zo_x) args s mc ms (fun q => V.2.2.2.1 ≤ q)) 6 zk_E V mc ms 69 [(2, .int x2), (3, .int x3)] [] S' rc rs) (hrec : ∀ (i2' : Int32) (i3' : Int32) (i4' : Int32) (S : zm_S), k j0 i2' i3' i4' S = some res → zw p l e R s m args below meth c (vx_MQ below (zm_Qc zk_E V (zo_i out)) (zm_XC zk_E V zo_x) args s mc ms (fun q => V.2.2.2.1 ≤ q)) 6 zk_E V mc ms 8 [(0, .long j0), (2, .int i2'), (3, .int i3'), (4, .int i4')] [] S rc rs) {S : zm_S} (h : zf_X15_isName_J57 N k j0 i2 i4 S = some res) : zw p l e R s m args below meth c (vx_MQ below (zm_Qc zk_E V (zo_i out)) (zm_XC zk_E V zo_x) args s mc ms (fun q => V.2.2.2.1 ≤ q)) 6 zk_E V mc ms 57 [(0, .long j0), (2, .int i2), (4, .int i4)] [] S rc rs := by
  unfold zf_X15_isName_J57 at h
  refine zw_iconst (v := (1 : Int32)) hX dX15_isName_57 (by decide) ?_
  refine zw_goto (tgt := 62) hX dX15_isName_58 (by decide) ?_
  refine zw_istore_n hX dX15_isName_62 (by decide) ?_
  refine zw_iinc (v := (i4 + (-1 : Int32))) hX dX15_isName_63 rfl rfl (by decide) ?_
  refine zw_goto (tgt := 8) hX dX15_isName_66 (by decide) ?_
  refine zw_sub (lv' := [(0, .long j0), (2, .int i2), (3, .int (1 : Int32)), (4, .int (i4 + (-1 : Int32)))]) (List.forall_mem_cons.mpr ⟨rfl, (List.forall_mem_cons.mpr ⟨rfl, (List.forall_mem_cons.mpr ⟨rfl, (List.forall_mem_cons.mpr ⟨rfl, zs_nil⟩)⟩)⟩)⟩) ?_
  exact hrec _ _ _ _ h
set_option maxHeartbeats 4000000 in
set_option maxRecDepth 100000 in
theorem zt_X15_isName_J47 {p : Program} {l : Launch} {e : Env} {R : Room} {s : State} {m : MethodId} {args : Array Value} {below : List Frame} {meth : Method} {c : Code} {V : zm_V} {mc ms d rc rs : Nat} (hX : zm_X p R s m args meth c RX15 "isName" cX15_isName 6 zk_E V mc ms) (hr : meth.sig.returnType = (some .boolean)) (hR : R.frames = d ∧ R.locals = 64 * d) (hd : 2 ≤ d) {N : Nat} {k : Int64 → Int32 → Int32 → Int32 → zm_S → Option ((Int32 × zm_S) ⊕ ((Int32 × Int32) × zm_S))} {j0 : Int64} {i3 : Int32} {i4 : Int32} {i5 : Int32} {t0 : Int32} {res : (Int32 × zm_S) ⊕ ((Int32 × Int32) × zm_S)} {out : (Int32 × zm_S)}   (hf : ∀ o, res = .inl o → o = out) (hk : ∀ (x2 : Int32) (x3 : Int32) (S' : zm_S), res = .inr ((x2, x3), S') → zw p l e R s m args below meth c (vx_MQ below (zm_Qc zk_E V (zo_i out)) (zm_XC zk_E V zo_x) args s mc ms (fun q => V.2.2.2.1 ≤ q)) 6 zk_E V mc ms 69 [(2, .int x2), (3, .int x3)] [] S' rc rs) (hrec : ∀ (i2' : Int32) (i3' : Int32) (i4' : Int32) (S : zm_S), k j0 i2' i3' i4' S = some res → zw p l e R s m args below meth c (vx_MQ below (zm_Qc zk_E V (zo_i out)) (zm_XC zk_E V zo_x) args s mc ms (fun q => V.2.2.2.1 ≤ q)) 6 zk_E V mc ms 8 [(0, .long j0), (2, .int i2'), (3, .int i3'), (4, .int i4')] [] S rc rs) {S : zm_S} (h : zf_X15_isName_J47 N k j0 i3 i4 i5 t0 S = some res) : zw p l e R s m args below meth c (vx_MQ below (zm_Qc zk_E V (zo_i out)) (zm_XC zk_E V zo_x) args s mc ms (fun q => V.2.2.2.1 ≤ q)) 6 zk_E V mc ms 47 [(0, .long j0), (3, .int i3), (4, .int i4), (5, .int i5)] [.int t0] S rc rs := by
  unfold zf_X15_isName_J47 at h
  refine zw_istore_n hX dX15_isName_47 (by decide) ?_
  refine zw_iload_n hX dX15_isName_48 rfl ?_
  refine zw_if_ne (tgt := 57) hX dX15_isName_49 (by decide) (fun c49 => ?_) (fun c49 => ?_)
  · rw [if_neg c49] at h
    refine zw_sub (lv' := [(0, .long j0), (2, .int t0), (4, .int i4)]) (List.forall_mem_cons.mpr ⟨rfl, (List.forall_mem_cons.mpr ⟨rfl, (List.forall_mem_cons.mpr ⟨rfl, zs_nil⟩)⟩)⟩) ?_
    exact zt_X15_isName_J57 hX hr hR hd hf hk hrec h
  · rw [if_pos c49] at h
    refine zw_iload hX dX15_isName_52 rfl ?_
    refine zw_if_le (tgt := 61) hX dX15_isName_54 (by decide) (fun c54 => ?_) (fun c54 => ?_)
    · rw [if_pos c54] at h
      refine zw_iconst (v := (0 : Int32)) hX dX15_isName_61 (by decide) ?_
      refine zw_istore_n hX dX15_isName_62 (by decide) ?_
      refine zw_iinc (v := (i4 + (-1 : Int32))) hX dX15_isName_63 rfl rfl (by decide) ?_
      refine zw_goto (tgt := 8) hX dX15_isName_66 (by decide) ?_
      refine zw_sub (lv' := [(0, .long j0), (2, .int t0), (3, .int (0 : Int32)), (4, .int (i4 + (-1 : Int32)))]) (List.forall_mem_cons.mpr ⟨rfl, (List.forall_mem_cons.mpr ⟨rfl, (List.forall_mem_cons.mpr ⟨rfl, (List.forall_mem_cons.mpr ⟨rfl, zs_nil⟩)⟩)⟩)⟩) ?_
      exact hrec _ _ _ _ h
    · rw [if_neg c54] at h
      refine zw_sub (lv' := [(0, .long j0), (2, .int t0), (4, .int i4)]) (List.forall_mem_cons.mpr ⟨rfl, (List.forall_mem_cons.mpr ⟨rfl, (List.forall_mem_cons.mpr ⟨rfl, zs_nil⟩)⟩)⟩) ?_
      exact zt_X15_isName_J57 hX hr hR hd hf hk hrec h
set_option maxHeartbeats 4000000 in
set_option maxRecDepth 100000 in
theorem zt_X15_isName_J46 {p : Program} {l : Launch} {e : Env} {R : Room} {s : State} {m : MethodId} {args : Array Value} {below : List Frame} {meth : Method} {c : Code} {V : zm_V} {mc ms d rc rs : Nat} (hX : zm_X p R s m args meth c RX15 "isName" cX15_isName 6 zk_E V mc ms) (hr : meth.sig.returnType = (some .boolean)) (hR : R.frames = d ∧ R.locals = 64 * d) (hd : 2 ≤ d) {N : Nat} {k : Int64 → Int32 → Int32 → Int32 → zm_S → Option ((Int32 × zm_S) ⊕ ((Int32 × Int32) × zm_S))} {j0 : Int64} {i3 : Int32} {i4 : Int32} {i5 : Int32} {res : (Int32 × zm_S) ⊕ ((Int32 × Int32) × zm_S)} {out : (Int32 × zm_S)}   (hf : ∀ o, res = .inl o → o = out) (hk : ∀ (x2 : Int32) (x3 : Int32) (S' : zm_S), res = .inr ((x2, x3), S') → zw p l e R s m args below meth c (vx_MQ below (zm_Qc zk_E V (zo_i out)) (zm_XC zk_E V zo_x) args s mc ms (fun q => V.2.2.2.1 ≤ q)) 6 zk_E V mc ms 69 [(2, .int x2), (3, .int x3)] [] S' rc rs) (hrec : ∀ (i2' : Int32) (i3' : Int32) (i4' : Int32) (S : zm_S), k j0 i2' i3' i4' S = some res → zw p l e R s m args below meth c (vx_MQ below (zm_Qc zk_E V (zo_i out)) (zm_XC zk_E V zo_x) args s mc ms (fun q => V.2.2.2.1 ≤ q)) 6 zk_E V mc ms 8 [(0, .long j0), (2, .int i2'), (3, .int i3'), (4, .int i4')] [] S rc rs) {S : zm_S} (h : zf_X15_isName_J46 N k j0 i3 i4 i5 S = some res) : zw p l e R s m args below meth c (vx_MQ below (zm_Qc zk_E V (zo_i out)) (zm_XC zk_E V zo_x) args s mc ms (fun q => V.2.2.2.1 ≤ q)) 6 zk_E V mc ms 46 [(0, .long j0), (3, .int i3), (4, .int i4), (5, .int i5)] [] S rc rs := by
  unfold zf_X15_isName_J46 at h
  refine zw_iconst (v := (0 : Int32)) hX dX15_isName_46 (by decide) ?_
  refine zw_sub (lv' := [(0, .long j0), (3, .int i3), (4, .int i4), (5, .int i5)]) (List.forall_mem_cons.mpr ⟨rfl, (List.forall_mem_cons.mpr ⟨rfl, (List.forall_mem_cons.mpr ⟨rfl, (List.forall_mem_cons.mpr ⟨rfl, zs_nil⟩)⟩)⟩)⟩) ?_
  exact zt_X15_isName_J47 hX hr hR hd hf hk hrec h
set_option maxHeartbeats 4000000 in
set_option maxRecDepth 100000 in
theorem zt_X15_isName_J42 {p : Program} {l : Launch} {e : Env} {R : Room} {s : State} {m : MethodId} {args : Array Value} {below : List Frame} {meth : Method} {c : Code} {V : zm_V} {mc ms d rc rs : Nat} (hX : zm_X p R s m args meth c RX15 "isName" cX15_isName 6 zk_E V mc ms) (hr : meth.sig.returnType = (some .boolean)) (hR : R.frames = d ∧ R.locals = 64 * d) (hd : 2 ≤ d) {N : Nat} {k : Int64 → Int32 → Int32 → Int32 → zm_S → Option ((Int32 × zm_S) ⊕ ((Int32 × Int32) × zm_S))} {j0 : Int64} {i3 : Int32} {i4 : Int32} {i5 : Int32} {res : (Int32 × zm_S) ⊕ ((Int32 × Int32) × zm_S)} {out : (Int32 × zm_S)}   (hf : ∀ o, res = .inl o → o = out) (hk : ∀ (x2 : Int32) (x3 : Int32) (S' : zm_S), res = .inr ((x2, x3), S') → zw p l e R s m args below meth c (vx_MQ below (zm_Qc zk_E V (zo_i out)) (zm_XC zk_E V zo_x) args s mc ms (fun q => V.2.2.2.1 ≤ q)) 6 zk_E V mc ms 69 [(2, .int x2), (3, .int x3)] [] S' rc rs) (hrec : ∀ (i2' : Int32) (i3' : Int32) (i4' : Int32) (S : zm_S), k j0 i2' i3' i4' S = some res → zw p l e R s m args below meth c (vx_MQ below (zm_Qc zk_E V (zo_i out)) (zm_XC zk_E V zo_x) args s mc ms (fun q => V.2.2.2.1 ≤ q)) 6 zk_E V mc ms 8 [(0, .long j0), (2, .int i2'), (3, .int i3'), (4, .int i4')] [] S rc rs) {S : zm_S} (h : zf_X15_isName_J42 N k j0 i3 i4 i5 S = some res) : zw p l e R s m args below meth c (vx_MQ below (zm_Qc zk_E V (zo_i out)) (zm_XC zk_E V zo_x) args s mc ms (fun q => V.2.2.2.1 ≤ q)) 6 zk_E V mc ms 42 [(0, .long j0), (3, .int i3), (4, .int i4), (5, .int i5)] [] S rc rs := by
  unfold zf_X15_isName_J42 at h
  refine zw_iconst (v := (1 : Int32)) hX dX15_isName_42 (by decide) ?_
  refine zw_goto (tgt := 47) hX dX15_isName_43 (by decide) ?_
  refine zw_sub (lv' := [(0, .long j0), (3, .int i3), (4, .int i4), (5, .int i5)]) (List.forall_mem_cons.mpr ⟨rfl, (List.forall_mem_cons.mpr ⟨rfl, (List.forall_mem_cons.mpr ⟨rfl, (List.forall_mem_cons.mpr ⟨rfl, zs_nil⟩)⟩)⟩)⟩) ?_
  exact zt_X15_isName_J47 hX hr hR hd hf hk hrec h
set_option maxHeartbeats 4000000 in
set_option maxRecDepth 100000 in
theorem zt_X15_isName_L8 {p : Program} {l : Launch} {e : Env} {R : Room} {s : State} {m : MethodId} {args : Array Value} {below : List Frame} {meth : Method} {c : Code} {V : zm_V} {mc ms d rc rs : Nat} (hX : zm_X p R s m args meth c RX15 "isName" cX15_isName 6 zk_E V mc ms) (hr : meth.sig.returnType = (some .boolean)) (hR : R.frames = d ∧ R.locals = 64 * d) (hd : 2 ≤ d) {N : Nat} {res : (Int32 × zm_S) ⊕ ((Int32 × Int32) × zm_S)} {out : (Int32 × zm_S)} (j0 : Int64) (hf : ∀ o, res = .inl o → o = out) (hk : ∀ (x2 : Int32) (x3 : Int32) (S' : zm_S), res = .inr ((x2, x3), S') → zw p l e R s m args below meth c (vx_MQ below (zm_Qc zk_E V (zo_i out)) (zm_XC zk_E V zo_x) args s mc ms (fun q => V.2.2.2.1 ≤ q)) 6 zk_E V mc ms 69 [(2, .int x2), (3, .int x3)] [] S' rc rs) : ∀ (n : Nat) (i2 : Int32) (i3 : Int32) (i4 : Int32) (S : zm_S), zf_X15_isName_L8 N n j0 i2 i3 i4 S = some res → zw p l e R s m args below meth c (vx_MQ below (zm_Qc zk_E V (zo_i out)) (zm_XC zk_E V zo_x) args s mc ms (fun q => V.2.2.2.1 ≤ q)) 6 zk_E V mc ms 8 [(0, .long j0), (2, .int i2), (3, .int i3), (4, .int i4)] [] S rc rs := by
  intro n
  induction n with
  | zero => intro i2 i3 i4 S h; cases h
  | succ n ih =>
    intro i2 i3 i4 S h
    rw [zf_X15_isName_L8] at h
    refine zw_iload hX dX15_isName_8 rfl ?_
    refine zw_if_lt (tgt := 69) hX dX15_isName_10 (by decide) (fun c10 => ?_) (fun c10 => ?_)
    · rw [if_pos c10] at h
      refine zw_sub (lv' := [(2, .int i2), (3, .int i3)]) (List.forall_mem_cons.mpr ⟨rfl, (List.forall_mem_cons.mpr ⟨rfl, zs_nil⟩)⟩) ?_
      exact hk _ _ _ (Option.some.inj h).symm
    · rw [if_neg c10] at h
      refine zw_lload_n hX dX15_isName_13 rfl ?_
      refine zw_iload hX dX15_isName_14 rfl ?_
      obtain ⟨r2, g, h⟩ := zb_some h
      refine zc_Si (as := [.long j0, .int i4]) hX (zt_X15_byteOf (d := d - 1) (by omega) g) zl_X15_86 dX15_isName_16 ⟨rfl, rfl, Nat.le_of_ble_eq_true rfl⟩ ⟨by omega, by omega⟩ ?_
      refine zw_istore hX dX15_isName_19 (by decide) ?_
      refine zw_iload_n hX dX15_isName_21 rfl ?_
      refine zw_if_eq (tgt := 46) hX dX15_isName_22 (by decide) (fun c22 => ?_) (fun c22 => ?_)
      · rw [if_pos c22] at h
        refine zw_sub (lv' := [(0, .long j0), (3, .int i3), (4, .int i4), (5, .int r2.1)]) (List.forall_mem_cons.mpr ⟨rfl, (List.forall_mem_cons.mpr ⟨rfl, (List.forall_mem_cons.mpr ⟨rfl, (List.forall_mem_cons.mpr ⟨rfl, zs_nil⟩)⟩)⟩)⟩) ?_
        exact zt_X15_isName_J46 hX hr hR hd hf hk ih h
      · rw [if_neg c22] at h
        refine zw_iload hX dX15_isName_25 rfl ?_
        obtain ⟨r4, g, h⟩ := zb_some h
        refine zc_Si (as := [.int r2.1]) hX (zt_X15_isLetter (d := d - 1) (by omega) g) zl_X15_125 dX15_isName_27 ⟨rfl, rfl, Nat.le_of_ble_eq_true rfl⟩ ⟨by omega, by omega⟩ ?_
        refine zw_if_ne (tgt := 42) hX dX15_isName_30 (by decide) (fun c30 => ?_) (fun c30 => ?_)
        · rw [if_neg c30] at h
          refine zw_sub (lv' := [(0, .long j0), (3, .int i3), (4, .int i4), (5, .int r2.1)]) (List.forall_mem_cons.mpr ⟨rfl, (List.forall_mem_cons.mpr ⟨rfl, (List.forall_mem_cons.mpr ⟨rfl, (List.forall_mem_cons.mpr ⟨rfl, zs_nil⟩)⟩)⟩)⟩) ?_
          exact zt_X15_isName_J42 hX hr hR hd hf hk ih h
        · rw [if_pos c30] at h
          refine zw_iload hX dX15_isName_33 rfl ?_
          refine zw_if_ne (tgt := 46) hX dX15_isName_35 (by decide) (fun c35 => ?_) (fun c35 => ?_)
          · rw [if_neg c35] at h
            refine zw_sub (lv' := [(0, .long j0), (3, .int i3), (4, .int i4), (5, .int r2.1)]) (List.forall_mem_cons.mpr ⟨rfl, (List.forall_mem_cons.mpr ⟨rfl, (List.forall_mem_cons.mpr ⟨rfl, (List.forall_mem_cons.mpr ⟨rfl, zs_nil⟩)⟩)⟩)⟩) ?_
            exact zt_X15_isName_J46 hX hr hR hd hf hk ih h
          · rw [if_pos c35] at h
            refine zw_iload_n hX dX15_isName_38 rfl ?_
            refine zw_if_ne (tgt := 46) hX dX15_isName_39 (by decide) (fun c39 => ?_) (fun c39 => ?_)
            · rw [if_neg c39] at h
              refine zw_sub (lv' := [(0, .long j0), (3, .int i3), (4, .int i4), (5, .int r2.1)]) (List.forall_mem_cons.mpr ⟨rfl, (List.forall_mem_cons.mpr ⟨rfl, (List.forall_mem_cons.mpr ⟨rfl, (List.forall_mem_cons.mpr ⟨rfl, zs_nil⟩)⟩)⟩)⟩) ?_
              exact zt_X15_isName_J46 hX hr hR hd hf hk ih h
            · rw [if_pos c39] at h
              refine zw_sub (lv' := [(0, .long j0), (3, .int i3), (4, .int i4), (5, .int r2.1)]) (List.forall_mem_cons.mpr ⟨rfl, (List.forall_mem_cons.mpr ⟨rfl, (List.forall_mem_cons.mpr ⟨rfl, (List.forall_mem_cons.mpr ⟨rfl, zs_nil⟩)⟩)⟩)⟩) ?_
              exact zt_X15_isName_J42 hX hr hR hd hf hk ih h
set_option maxHeartbeats 4000000 in
set_option maxRecDepth 100000 in
theorem zt_X15_isName {l : Launch} {V : zm_V} {N : Nat} {S : zm_S} {out : (Int32 × zm_S)} {d : Nat} {j0 : Int64} (hd : 2 ≤ d) (h : zf_X15_isName N j0 S = some out) : zm_Met l zk_E V yX15_isName (.code yX15_isName cX15_isName 6 (some .boolean)) d [.long j0] S 0 0 (zo_i out) zo_x := by
  refine zm_of (by decide +kernel) (Nat.le_of_ble_eq_true rfl) ?_
  intro p e R s m args below meth c hRR hX hr hxt
  have hR : R.frames = d ∧ R.locals = 64 * d := by rw [hRR]; exact ⟨rfl, rfl⟩
  have hX : zm_X p R s m args meth c RX15 "isName" cX15_isName 6 zk_E V 0 0 := hX
  unfold zf_X15_isName at h
  refine zw_sub (lv' := [(0, .long j0)]) (List.forall_mem_cons.mpr ⟨rfl, zs_nil⟩) ?_
  refine zw_iconst (v := (1 : Int32)) hX dX15_isName_0 (by decide) ?_
  refine zw_istore_n hX dX15_isName_1 (by decide) ?_
  refine zw_iconst (v := (0 : Int32)) hX dX15_isName_2 (by decide) ?_
  refine zw_istore_n hX dX15_isName_3 (by decide) ?_
  refine zw_bipush (v := (7 : Int32)) hX dX15_isName_4 (by decide) ?_
  refine zw_istore hX dX15_isName_6 (by decide) ?_
  obtain ⟨r, g, h⟩ := zb_some h
  refine zw_sub (lv' := [(0, .long j0), (2, .int (1 : Int32)), (3, .int (0 : Int32)), (4, .int (7 : Int32))]) (List.forall_mem_cons.mpr ⟨rfl, (List.forall_mem_cons.mpr ⟨rfl, (List.forall_mem_cons.mpr ⟨rfl, (List.forall_mem_cons.mpr ⟨rfl, zs_nil⟩)⟩)⟩)⟩) ?_
  refine zt_X15_isName_L8 hX hr hR hd (res := r) (out := out) j0 ?_ ?_ N _ _ _ _ g
  · intro o ho
    subst ho
    exact Option.some.inj h
  · intro v6 v7 S5 hx
    subst hx
    try dsimp only at h
    refine zw_iload_n hX dX15_isName_69 rfl ?_
    refine zw_if_eq (tgt := 81) hX dX15_isName_70 (by decide) (fun c70 => ?_) (fun c70 => ?_)
    · rw [if_pos c70] at h
      refine zw_iconst (v := (0 : Int32)) hX dX15_isName_81 (by decide) ?_
      obtain rfl := Option.some.inj h
      exact zw_iret hX hr dX15_isName_82 rfl ⟨rfl, rfl⟩
    · rw [if_neg c70] at h
      refine zw_iload_n hX dX15_isName_73 rfl ?_
      refine zw_if_eq (tgt := 81) hX dX15_isName_74 (by decide) (fun c74 => ?_) (fun c74 => ?_)
      · rw [if_pos c74] at h
        refine zw_iconst (v := (0 : Int32)) hX dX15_isName_81 (by decide) ?_
        obtain rfl := Option.some.inj h
        exact zw_iret hX hr dX15_isName_82 rfl ⟨rfl, rfl⟩
      · rw [if_neg c74] at h
        refine zw_iconst (v := (1 : Int32)) hX dX15_isName_77 (by decide) ?_
        refine zw_goto (tgt := 82) hX dX15_isName_78 (by decide) ?_
        obtain rfl := Option.some.inj h
        exact zw_iret hX hr dX15_isName_82 rfl ⟨rfl, rfl⟩
set_option maxHeartbeats 4000000 in
set_option maxRecDepth 100000 in
theorem zt_X15_factOf_L5 {p : Program} {l : Launch} {e : Env} {R : Room} {s : State} {m : MethodId} {args : Array Value} {below : List Frame} {meth : Method} {c : Code} {V : zm_V} {mc ms d rc rs : Nat} (hX : zm_X p R s m args meth c RX15 "factOf" cX15_factOf 5 zk_E V mc ms) (hr : meth.sig.returnType = (some .int)) (hR : R.frames = d ∧ R.locals = 64 * d) (hd : 1 ≤ d) {N : Nat} {res : (Int32 × zm_S) ⊕ ((Int32) × zm_S)} {out : (Int32 × zm_S)} (a0 : Nat) (j1 : Int64) (hf : ∀ o, res = .inl o → o = out) (hk : ∀ (x3 : Int32) (S' : zm_S), res = .inr (x3, S') → zw p l e R s m args below meth c (vx_MQ below (zm_Qc zk_E V (zo_i out)) (zm_XC zk_E V zo_x) args s mc ms (fun q => V.2.2.2.1 ≤ q)) 5 zk_E V mc ms 39 [(3, .int x3)] [] S' rc rs) : ∀ (n : Nat) (i3 : Int32) (i4 : Int32) (S : zm_S), zf_X15_factOf_L5 N n a0 j1 i3 i4 S = some res → zw p l e R s m args below meth c (vx_MQ below (zm_Qc zk_E V (zo_i out)) (zm_XC zk_E V zo_x) args s mc ms (fun q => V.2.2.2.1 ≤ q)) 5 zk_E V mc ms 5 [(0, .ref a0), (1, .long j1), (3, .int i3), (4, .int i4)] [] S rc rs := by
  intro n
  induction n with
  | zero => intro i3 i4 S h; cases h
  | succ n ih =>
    intro i3 i4 S h
    rw [zf_X15_factOf_L5] at h
    refine zw_iload hX dX15_factOf_5 rfl ?_
    refine zw_aload_n hX dX15_factOf_7 rfl ?_
    obtain ⟨v1, g, h⟩ := zb_some h
    refine zw_geti hX zl_X15_189 dX15_factOf_8 g ?_
    refine zw_icmp_ge (tgt := 39) hX dX15_factOf_11 (by decide) (fun c11 => ?_) (fun c11 => ?_)
    · rw [if_pos c11] at h
      refine zw_sub (lv' := [(3, .int i3)]) (List.forall_mem_cons.mpr ⟨rfl, zs_nil⟩) ?_
      exact hk _ _ (Option.some.inj h).symm
    · rw [if_neg c11] at h
      refine zw_aload_n hX dX15_factOf_14 rfl ?_
      obtain ⟨b2, g, h⟩ := zb_some h
      refine zw_getr hX zl_X15_13 dX15_factOf_15 g ?_
      refine zw_iload hX dX15_factOf_18 rfl ?_
      obtain ⟨w3, g, h⟩ := zb_some h
      refine zw_xl hX dX15_factOf_20 g ?_
      refine zw_lload_n hX dX15_factOf_21 rfl ?_
      refine zw_lcmp hX dX15_factOf_22 ?_
      refine zw_if_ne (tgt := 31) hX dX15_factOf_23 (by decide) (fun c23 => ?_) (fun c23 => ?_)
      · rw [if_neg c23] at h
        refine zw_iload_n hX dX15_factOf_31 rfl ?_
        refine zw_istore_n hX dX15_factOf_32 (by decide) ?_
        refine zw_iinc (v := (i4 + (1 : Int32))) hX dX15_factOf_33 rfl rfl (by decide) ?_
        refine zw_goto (tgt := 5) hX dX15_factOf_36 (by decide) ?_
        refine zw_sub (lv' := [(0, .ref a0), (1, .long j1), (3, .int i3), (4, .int (i4 + (1 : Int32)))]) (List.forall_mem_cons.mpr ⟨rfl, (List.forall_mem_cons.mpr ⟨rfl, (List.forall_mem_cons.mpr ⟨rfl, (List.forall_mem_cons.mpr ⟨rfl, zs_nil⟩)⟩)⟩)⟩) ?_
        exact ih _ _ _ h
      · rw [if_pos c23] at h
        refine zw_iload hX dX15_factOf_26 rfl ?_
        refine zw_goto (tgt := 32) hX dX15_factOf_28 (by decide) ?_
        refine zw_istore_n hX dX15_factOf_32 (by decide) ?_
        refine zw_iinc (v := (i4 + (1 : Int32))) hX dX15_factOf_33 rfl rfl (by decide) ?_
        refine zw_goto (tgt := 5) hX dX15_factOf_36 (by decide) ?_
        refine zw_sub (lv' := [(0, .ref a0), (1, .long j1), (3, .int i4), (4, .int (i4 + (1 : Int32)))]) (List.forall_mem_cons.mpr ⟨rfl, (List.forall_mem_cons.mpr ⟨rfl, (List.forall_mem_cons.mpr ⟨rfl, (List.forall_mem_cons.mpr ⟨rfl, zs_nil⟩)⟩)⟩)⟩) ?_
        exact ih _ _ _ h
set_option maxHeartbeats 4000000 in
set_option maxRecDepth 100000 in
theorem zt_X15_factOf {l : Launch} {V : zm_V} {N : Nat} {S : zm_S} {out : (Int32 × zm_S)} {d : Nat} {a0 : Nat} {j1 : Int64} (hd : 1 ≤ d) (h : zf_X15_factOf N a0 j1 S = some out) : zm_Met l zk_E V yX15_factOf (.code yX15_factOf cX15_factOf 5 (some .int)) d [.ref a0, .long j1] S 0 0 (zo_i out) zo_x := by
  refine zm_of (by decide +kernel) (Nat.le_of_ble_eq_true rfl) ?_
  intro p e R s m args below meth c hRR hX hr hxt
  have hR : R.frames = d ∧ R.locals = 64 * d := by rw [hRR]; exact ⟨rfl, rfl⟩
  have hX : zm_X p R s m args meth c RX15 "factOf" cX15_factOf 5 zk_E V 0 0 := hX
  unfold zf_X15_factOf at h
  refine zw_sub (lv' := [(0, .ref a0), (1, .long j1)]) (List.forall_mem_cons.mpr ⟨rfl, (List.forall_mem_cons.mpr ⟨rfl, zs_nil⟩)⟩) ?_
  refine zw_iconst (v := (-1 : Int32)) hX dX15_factOf_0 (by decide) ?_
  refine zw_istore_n hX dX15_factOf_1 (by decide) ?_
  refine zw_iconst (v := (0 : Int32)) hX dX15_factOf_2 (by decide) ?_
  refine zw_istore hX dX15_factOf_3 (by decide) ?_
  obtain ⟨r, g, h⟩ := zb_some h
  refine zw_sub (lv' := [(0, .ref a0), (1, .long j1), (3, .int (-1 : Int32)), (4, .int (0 : Int32))]) (List.forall_mem_cons.mpr ⟨rfl, (List.forall_mem_cons.mpr ⟨rfl, (List.forall_mem_cons.mpr ⟨rfl, (List.forall_mem_cons.mpr ⟨rfl, zs_nil⟩)⟩)⟩)⟩) ?_
  refine zt_X15_factOf_L5 hX hr hR hd (res := r) (out := out) a0 j1 ?_ ?_ N _ _ _ g
  · intro o ho
    subst ho
    exact Option.some.inj h
  · intro v5 S4 hx
    subst hx
    try dsimp only at h
    refine zw_iload_n hX dX15_factOf_39 rfl ?_
    obtain rfl := Option.some.inj h
    exact zw_iret hX hr dX15_factOf_40 rfl ⟨rfl, rfl⟩
set_option maxHeartbeats 4000000 in
set_option maxRecDepth 100000 in
theorem zt_X15_fact_J49 {p : Program} {l : Launch} {e : Env} {R : Room} {s : State} {m : MethodId} {args : Array Value} {below : List Frame} {meth : Method} {c : Code} {V : zm_V} {mc ms d rc rs : Nat} (hX : zm_X p R s m args meth c RX15 "fact" cX15_fact 7 zk_E V mc ms) (hr : meth.sig.returnType = (some .long)) (hR : R.frames = d ∧ R.locals = 64 * d) (hd : 2 ≤ d) {N : Nat} {a0 : Nat} {j1 : Int64} {i3 : Int32} {i4 : Int32} {j5 : Int64} {out : (Int64 × zm_S)} {S : zm_S} (h : zf_X15_fact_J49 N a0 j1 i3 i4 j5 S = some out) : zw p l e R s m args below meth c (vx_MQ below (zm_Qc zk_E V (zo_l out)) (zm_XC zk_E V zo_x) args s mc ms (fun q => V.2.2.2.1 ≤ q)) 7 zk_E V mc ms 49 [(0, .ref a0), (1, .long j1), (3, .int i3), (4, .int i4), (5, .long j5)] [] S rc rs := by
  unfold zf_X15_fact_J49 at h
  refine zw_aload_n hX dX15_fact_49 rfl ?_
  obtain ⟨b5, g, h⟩ := zb_some h
  refine zw_getr hX zl_X15_13 dX15_fact_50 g ?_
  refine zw_iload hX dX15_fact_53 rfl ?_
  refine zw_lload_n hX dX15_fact_55 rfl ?_
  obtain ⟨S6, g, h⟩ := zb_some h
  refine zw_sl hX dX15_fact_56 g ?_
  refine zw_aload_n hX dX15_fact_57 rfl ?_
  obtain ⟨b7, g, h⟩ := zb_some h
  refine zw_getr hX zl_X15_17 dX15_fact_58 g ?_
  refine zw_iload hX dX15_fact_61 rfl ?_
  refine zw_iload_n hX dX15_fact_63 rfl ?_
  obtain ⟨S8, g, h⟩ := zb_some h
  refine zw_si hX dX15_fact_64 g ?_
  refine zw_lload hX dX15_fact_65 rfl ?_
  obtain rfl := Option.some.inj h
  exact zw_lret hX hr dX15_fact_67 ⟨rfl, rfl⟩
set_option maxHeartbeats 4000000 in
set_option maxRecDepth 100000 in
theorem zt_X15_fact_J26 {p : Program} {l : Launch} {e : Env} {R : Room} {s : State} {m : MethodId} {args : Array Value} {below : List Frame} {meth : Method} {c : Code} {V : zm_V} {mc ms d rc rs : Nat} (hX : zm_X p R s m args meth c RX15 "fact" cX15_fact 7 zk_E V mc ms) (hr : meth.sig.returnType = (some .long)) (hR : R.frames = d ∧ R.locals = 64 * d) (hd : 2 ≤ d) {N : Nat} {a0 : Nat} {j1 : Int64} {i3 : Int32} {i4 : Int32} {t0 : Int64} {out : (Int64 × zm_S)} {S : zm_S} (h : zf_X15_fact_J26 N a0 j1 i3 i4 t0 S = some out) : zw p l e R s m args below meth c (vx_MQ below (zm_Qc zk_E V (zo_l out)) (zm_XC zk_E V zo_x) args s mc ms (fun q => V.2.2.2.1 ≤ q)) 7 zk_E V mc ms 26 [(0, .ref a0), (1, .long j1), (3, .int i3), (4, .int i4)] [.long t0] S rc rs := by
  unfold zf_X15_fact_J26 at h
  refine zw_lstore hX dX15_fact_26 (by decide) ?_
  refine zw_iload hX dX15_fact_28 rfl ?_
  refine zw_if_ge (tgt := 49) hX dX15_fact_30 (by decide) (fun c30 => ?_) (fun c30 => ?_)
  · rw [if_pos c30] at h
    refine zw_sub (lv' := [(0, .ref a0), (1, .long j1), (3, .int i3), (4, .int i4), (5, .long t0)]) (List.forall_mem_cons.mpr ⟨rfl, (List.forall_mem_cons.mpr ⟨rfl, (List.forall_mem_cons.mpr ⟨rfl, (List.forall_mem_cons.mpr ⟨rfl, (List.forall_mem_cons.mpr ⟨rfl, zs_nil⟩)⟩)⟩)⟩)⟩) ?_
    exact zt_X15_fact_J49 hX hr hR hd h
  · rw [if_neg c30] at h
    refine zw_aload_n hX dX15_fact_33 rfl ?_
    obtain ⟨v9, g, h⟩ := zb_some h
    refine zw_geti hX zl_X15_189 dX15_fact_34 g ?_
    refine zw_istore hX dX15_fact_37 (by decide) ?_
    refine zw_aload_n hX dX15_fact_39 rfl ?_
    refine zw_dup hX dX15_fact_40 rfl ?_
    obtain ⟨v10, g, h⟩ := zb_some h
    refine zw_geti hX zl_X15_189 dX15_fact_41 g ?_
    refine zw_iconst (v := (1 : Int32)) hX dX15_fact_44 (by decide) ?_
    refine zw_iadd hX dX15_fact_45 ?_
    obtain ⟨S11, g, h⟩ := zb_some h
    refine zw_putv hX zl_X15_189 zt_15_2 dX15_fact_46 rfl rfl g ?_
    refine zw_sub (lv' := [(0, .ref a0), (1, .long j1), (3, .int i3), (4, .int v9), (5, .long t0)]) (List.forall_mem_cons.mpr ⟨rfl, (List.forall_mem_cons.mpr ⟨rfl, (List.forall_mem_cons.mpr ⟨rfl, (List.forall_mem_cons.mpr ⟨rfl, (List.forall_mem_cons.mpr ⟨rfl, zs_nil⟩)⟩)⟩)⟩)⟩) ?_
    exact zt_X15_fact_J49 hX hr hR hd h
set_option maxHeartbeats 4000000 in
set_option maxRecDepth 100000 in
theorem zt_X15_fact {l : Launch} {V : zm_V} {N : Nat} {S : zm_S} {out : (Int64 × zm_S)} {d : Nat} {a0 : Nat} {j1 : Int64} {i3 : Int32} (hd : 2 ≤ d) (h : zf_X15_fact N a0 j1 i3 S = some out) : zm_Met l zk_E V yX15_fact (.code yX15_fact cX15_fact 7 (some .long)) d [.ref a0, .long j1, .int i3] S 0 0 (zo_l out) zo_x := by
  refine zm_of (by decide +kernel) (Nat.le_of_ble_eq_true rfl) ?_
  intro p e R s m args below meth c hRR hX hr hxt
  have hR : R.frames = d ∧ R.locals = 64 * d := by rw [hRR]; exact ⟨rfl, rfl⟩
  have hX : zm_X p R s m args meth c RX15 "fact" cX15_fact 7 zk_E V 0 0 := hX
  unfold zf_X15_fact at h
  refine zw_sub (lv' := [(0, .ref a0), (1, .long j1), (3, .int i3)]) (List.forall_mem_cons.mpr ⟨rfl, (List.forall_mem_cons.mpr ⟨rfl, (List.forall_mem_cons.mpr ⟨rfl, zs_nil⟩)⟩)⟩) ?_
  refine zw_aload_n hX dX15_fact_0 rfl ?_
  refine zw_lload_n hX dX15_fact_1 rfl ?_
  obtain ⟨_, gi, h⟩ := zb_some h
  obtain ⟨r2, g, h⟩ := zb_some h
  refine zc_Vi (as := [.long j1]) hX gi (zt_X15_factOf (d := d - 1) (by omega) g) zl_X15_192 rfl dX15_fact_2 ⟨rfl, rfl, Nat.le_of_ble_eq_true rfl⟩ ⟨by omega, by omega⟩ ?_
  refine zw_istore hX dX15_fact_5 (by decide) ?_
  refine zw_iload hX dX15_fact_7 rfl ?_
  refine zw_if_ge (tgt := 18) hX dX15_fact_9 (by decide) (fun c9 => ?_) (fun c9 => ?_)
  · rw [if_pos c9] at h
    refine zw_aload_n hX dX15_fact_18 rfl ?_
    obtain ⟨b3, g, h⟩ := zb_some h
    refine zw_getr hX zl_X15_17 dX15_fact_19 g ?_
    refine zw_iload hX dX15_fact_22 rfl ?_
    obtain ⟨v4, g, h⟩ := zb_some h
    refine zw_xi hX dX15_fact_24 g ?_
    refine zw_i2l hX dX15_fact_25 ?_
    refine zw_sub (lv' := [(0, .ref a0), (1, .long j1), (3, .int i3), (4, .int r2.1)]) (List.forall_mem_cons.mpr ⟨rfl, (List.forall_mem_cons.mpr ⟨rfl, (List.forall_mem_cons.mpr ⟨rfl, (List.forall_mem_cons.mpr ⟨rfl, zs_nil⟩)⟩)⟩)⟩) ?_
    exact zt_X15_fact_J26 hX hr hR hd h
  · rw [if_neg c9] at h
    refine zw_ldc2 (v := (1000000000000 : Int64)) hX dX15_fact_12 zl_X15_196 ?_
    refine zw_goto (tgt := 26) hX dX15_fact_15 (by decide) ?_
    refine zw_sub (lv' := [(0, .ref a0), (1, .long j1), (3, .int i3), (4, .int r2.1)]) (List.forall_mem_cons.mpr ⟨rfl, (List.forall_mem_cons.mpr ⟨rfl, (List.forall_mem_cons.mpr ⟨rfl, (List.forall_mem_cons.mpr ⟨rfl, zs_nil⟩)⟩)⟩)⟩) ?_
    exact zt_X15_fact_J26 hX hr hR hd h
set_option maxHeartbeats 4000000 in
set_option maxRecDepth 100000 in
theorem zt_X15_opens {l : Launch} {V : zm_V} {N : Nat} {S : zm_S} {out : (Unit × zm_S)} {d : Nat} {a0 : Nat} {i1 : Int32} {j2 : Int64} (hd : 1 ≤ d) (h : zf_X15_opens N a0 i1 j2 S = some out) : zm_Met l zk_E V yX15_opens (.code yX15_opens cX15_opens 4 none) d [.ref a0, .int i1, .long j2] S 0 0 (zo_v out) zo_x := by
  refine zm_of (by decide +kernel) (Nat.le_of_ble_eq_true rfl) ?_
  intro p e R s m args below meth c hRR hX hr hxt
  have hR : R.frames = d ∧ R.locals = 64 * d := by rw [hRR]; exact ⟨rfl, rfl⟩
  have hX : zm_X p R s m args meth c RX15 "opens" cX15_opens 4 zk_E V 0 0 := hX
  unfold zf_X15_opens at h
  refine zw_sub (lv' := [(0, .ref a0), (1, .int i1), (2, .long j2)]) (List.forall_mem_cons.mpr ⟨rfl, (List.forall_mem_cons.mpr ⟨rfl, (List.forall_mem_cons.mpr ⟨rfl, zs_nil⟩)⟩)⟩) ?_
  refine zw_aload_n hX dX15_opens_0 rfl ?_
  obtain ⟨v1, g, h⟩ := zb_some h
  refine zw_geti hX zl_X15_198 dX15_opens_1 g ?_
  refine zw_if_ne (tgt := 17) hX dX15_opens_4 (by decide) (fun c4 => ?_) (fun c4 => ?_)
  · rw [if_neg c4] at h
    obtain rfl := Option.some.inj h
    exact zw_vret hX hr dX15_opens_17 ⟨rfl, rfl⟩
  · rw [if_pos c4] at h
    refine zw_aload_n hX dX15_opens_7 rfl ?_
    refine zw_iload_n hX dX15_opens_8 rfl ?_
    obtain ⟨S2, g, h⟩ := zb_some h
    refine zw_putv hX zl_X15_198 zt_15_40 dX15_opens_9 rfl rfl g ?_
    refine zw_aload_n hX dX15_opens_12 rfl ?_
    refine zw_lload_n hX dX15_opens_13 rfl ?_
    obtain ⟨S3, g, h⟩ := zb_some h
    refine zw_putv hX zl_X15_201 zt_15_41 dX15_opens_14 rfl rfl g ?_
    obtain rfl := Option.some.inj h
    exact zw_vret hX hr dX15_opens_17 ⟨rfl, rfl⟩
set_option maxHeartbeats 4000000 in
set_option maxRecDepth 100000 in
theorem zt_X15_times_J35 {p : Program} {l : Launch} {e : Env} {R : Room} {s : State} {m : MethodId} {args : Array Value} {below : List Frame} {meth : Method} {c : Code} {V : zm_V} {mc ms d rc rs : Nat} (hX : zm_X p R s m args meth c RX15 "times" cX15_times 7 zk_E V mc ms) (hr : meth.sig.returnType = (some .long)) (hR : R.frames = d ∧ R.locals = 64 * d) (hd : 2 ≤ d) {N : Nat} {a0 : Nat} {j5 : Int64} {out : (Int64 × zm_S)} {S : zm_S} (h : zf_X15_times_J35 N a0 j5 S = some out) : zw p l e R s m args below meth c (vx_MQ below (zm_Qc zk_E V (zo_l out)) (zm_XC zk_E V zo_x) args s mc ms (fun q => V.2.2.2.1 ≤ q)) 7 zk_E V mc ms 35 [(0, .ref a0), (5, .long j5)] [] S rc rs := by
  unfold zf_X15_times_J35 at h
  refine zw_aload_n hX dX15_times_35 rfl ?_
  refine zw_iconst (v := (2 : Int32)) hX dX15_times_36 (by decide) ?_
  refine zw_lconst (v := (0 : Int64)) hX dX15_times_37 (by decide) ?_
  obtain ⟨_, gi, h⟩ := zb_some h
  obtain ⟨r2, g, h⟩ := zb_some h
  refine zc_Vv (as := [.int (2 : Int32), .long (0 : Int64)]) hX gi (zt_X15_opens (d := d - 1) (by omega) g) zl_X15_204 rfl dX15_times_38 ⟨rfl, rfl, Nat.le_of_ble_eq_true rfl⟩ ⟨by omega, by omega⟩ ?_
  refine zw_lload hX dX15_times_41 rfl ?_
  obtain rfl := Option.some.inj h
  exact zw_lret hX hr dX15_times_43 ⟨rfl, rfl⟩
set_option maxHeartbeats 4000000 in
set_option maxRecDepth 100000 in
theorem zt_X15_times {l : Launch} {V : zm_V} {N : Nat} {S : zm_S} {out : (Int64 × zm_S)} {d : Nat} {a0 : Nat} {j1 : Int64} {j3 : Int64} (hd : 2 ≤ d) (h : zf_X15_times N a0 j1 j3 S = some out) : zm_Met l zk_E V yX15_times (.code yX15_times cX15_times 7 (some .long)) d [.ref a0, .long j1, .long j3] S 0 0 (zo_l out) zo_x := by
  refine zm_of (by decide +kernel) (Nat.le_of_ble_eq_true rfl) ?_
  intro p e R s m args below meth c hRR hX hr hxt
  have hR : R.frames = d ∧ R.locals = 64 * d := by rw [hRR]; exact ⟨rfl, rfl⟩
  have hX : zm_X p R s m args meth c RX15 "times" cX15_times 7 zk_E V 0 0 := hX
  unfold zf_X15_times at h
  refine zw_sub (lv' := [(0, .ref a0), (1, .long j1), (3, .long j3)]) (List.forall_mem_cons.mpr ⟨rfl, (List.forall_mem_cons.mpr ⟨rfl, (List.forall_mem_cons.mpr ⟨rfl, zs_nil⟩)⟩)⟩) ?_
  refine zw_lload_n hX dX15_times_0 rfl ?_
  refine zw_lload_n hX dX15_times_1 rfl ?_
  refine zw_lmul hX dX15_times_2 ?_
  refine zw_lstore hX dX15_times_3 (by decide) ?_
  refine zw_lload_n hX dX15_times_5 rfl ?_
  refine zw_lconst (v := (0 : Int64)) hX dX15_times_6 (by decide) ?_
  refine zw_lcmp hX dX15_times_7 ?_
  refine zw_if_eq (tgt := 41) hX dX15_times_8 (by decide) (fun c8 => ?_) (fun c8 => ?_)
  · rw [if_pos c8] at h
    refine zw_lload hX dX15_times_41 rfl ?_
    obtain rfl := Option.some.inj h
    exact zw_lret hX hr dX15_times_43 ⟨rfl, rfl⟩
  · rw [if_neg c8] at h
    refine zw_lload_n hX dX15_times_11 rfl ?_
    refine zw_lconst (v := (0 : Int64)) hX dX15_times_12 (by decide) ?_
    refine zw_lcmp hX dX15_times_13 ?_
    refine zw_if_eq (tgt := 41) hX dX15_times_14 (by decide) (fun c14 => ?_) (fun c14 => ?_)
    · rw [if_pos c14] at h
      refine zw_lload hX dX15_times_41 rfl ?_
      obtain rfl := Option.some.inj h
      exact zw_lret hX hr dX15_times_43 ⟨rfl, rfl⟩
    · rw [if_neg c14] at h
      refine zw_lload hX dX15_times_17 rfl ?_
      refine zw_lload_n hX dX15_times_19 rfl ?_
      by_cases c0 : j3 = 0
      · rw [if_pos c0] at h
        cases h
      rw [if_neg c0] at h
      refine zw_ldiv hX dX15_times_20 c0 ?_
      refine zw_lload_n hX dX15_times_21 rfl ?_
      refine zw_lcmp hX dX15_times_22 ?_
      refine zw_if_ne (tgt := 35) hX dX15_times_23 (by decide) (fun c23 => ?_) (fun c23 => ?_)
      · rw [if_neg c23] at h
        refine zw_sub (lv' := [(0, .ref a0), (5, .long (j1 * j3))]) (List.forall_mem_cons.mpr ⟨rfl, (List.forall_mem_cons.mpr ⟨rfl, zs_nil⟩)⟩) ?_
        exact zt_X15_times_J35 hX hr hR hd h
      · rw [if_pos c23] at h
        refine zw_lload hX dX15_times_26 rfl ?_
        refine zw_lload_n hX dX15_times_28 rfl ?_
        by_cases c0 : j1 = 0
        · rw [if_pos c0] at h
          cases h
        rw [if_neg c0] at h
        refine zw_ldiv hX dX15_times_29 c0 ?_
        refine zw_lload_n hX dX15_times_30 rfl ?_
        refine zw_lcmp hX dX15_times_31 ?_
        refine zw_if_eq (tgt := 41) hX dX15_times_32 (by decide) (fun c32 => ?_) (fun c32 => ?_)
        · rw [if_pos c32] at h
          refine zw_lload hX dX15_times_41 rfl ?_
          obtain rfl := Option.some.inj h
          exact zw_lret hX hr dX15_times_43 ⟨rfl, rfl⟩
        · rw [if_neg c32] at h
          refine zw_sub (lv' := [(0, .ref a0), (5, .long (j1 * j3))]) (List.forall_mem_cons.mpr ⟨rfl, (List.forall_mem_cons.mpr ⟨rfl, zs_nil⟩)⟩) ?_
          exact zt_X15_times_J35 hX hr hR hd h
set_option maxHeartbeats 4000000 in
set_option maxRecDepth 100000 in
theorem zt_X15_plus_J136 {p : Program} {l : Launch} {e : Env} {R : Room} {s : State} {m : MethodId} {args : Array Value} {below : List Frame} {meth : Method} {c : Code} {V : zm_V} {mc ms d rc rs : Nat} (hX : zm_X p R s m args meth c RX15 "plus" cX15_plus 9 zk_E V mc ms) (hr : meth.sig.returnType = (some .long)) (hR : R.frames = d ∧ R.locals = 64 * d) (hd : 2 ≤ d) {N : Nat} {a0 : Nat} {j6 : Int64} {t0 : Int32} {out : (Int64 × zm_S)} {S : zm_S} (h : zf_X15_plus_J136 N a0 j6 t0 S = some out) : zw p l e R s m args below meth c (vx_MQ below (zm_Qc zk_E V (zo_l out)) (zm_XC zk_E V zo_x) args s mc ms (fun q => V.2.2.2.1 ≤ q)) 9 zk_E V mc ms 136 [(0, .ref a0), (6, .long j6)] [.int t0] S rc rs := by
  unfold zf_X15_plus_J136 at h
  refine zw_istore hX dX15_plus_136 (by decide) ?_
  refine zw_iload hX dX15_plus_138 rfl ?_
  refine zw_if_eq (tgt := 149) hX dX15_plus_140 (by decide) (fun c140 => ?_) (fun c140 => ?_)
  · rw [if_pos c140] at h
    refine zw_lload hX dX15_plus_149 rfl ?_
    obtain rfl := Option.some.inj h
    exact zw_lret hX hr dX15_plus_151 ⟨rfl, rfl⟩
  · rw [if_neg c140] at h
    refine zw_aload_n hX dX15_plus_143 rfl ?_
    refine zw_iconst (v := (2 : Int32)) hX dX15_plus_144 (by decide) ?_
    refine zw_lconst (v := (0 : Int64)) hX dX15_plus_145 (by decide) ?_
    obtain ⟨_, gi, h⟩ := zb_some h
    obtain ⟨r2, g, h⟩ := zb_some h
    refine zc_Vv (as := [.int (2 : Int32), .long (0 : Int64)]) hX gi (zt_X15_opens (d := d - 1) (by omega) g) zl_X15_204 rfl dX15_plus_146 ⟨rfl, rfl, Nat.le_of_ble_eq_true rfl⟩ ⟨by omega, by omega⟩ ?_
    refine zw_lload hX dX15_plus_149 rfl ?_
    obtain rfl := Option.some.inj h
    exact zw_lret hX hr dX15_plus_151 ⟨rfl, rfl⟩
set_option maxHeartbeats 4000000 in
set_option maxRecDepth 100000 in
theorem zt_X15_plus_J135 {p : Program} {l : Launch} {e : Env} {R : Room} {s : State} {m : MethodId} {args : Array Value} {below : List Frame} {meth : Method} {c : Code} {V : zm_V} {mc ms d rc rs : Nat} (hX : zm_X p R s m args meth c RX15 "plus" cX15_plus 9 zk_E V mc ms) (hr : meth.sig.returnType = (some .long)) (hR : R.frames = d ∧ R.locals = 64 * d) (hd : 2 ≤ d) {N : Nat} {a0 : Nat} {j6 : Int64} {out : (Int64 × zm_S)} {S : zm_S} (h : zf_X15_plus_J135 N a0 j6 S = some out) : zw p l e R s m args below meth c (vx_MQ below (zm_Qc zk_E V (zo_l out)) (zm_XC zk_E V zo_x) args s mc ms (fun q => V.2.2.2.1 ≤ q)) 9 zk_E V mc ms 135 [(0, .ref a0), (6, .long j6)] [] S rc rs := by
  unfold zf_X15_plus_J135 at h
  refine zw_iconst (v := (0 : Int32)) hX dX15_plus_135 (by decide) ?_
  refine zw_sub (lv' := [(0, .ref a0), (6, .long j6)]) (List.forall_mem_cons.mpr ⟨rfl, (List.forall_mem_cons.mpr ⟨rfl, zs_nil⟩)⟩) ?_
  exact zt_X15_plus_J136 hX hr hR hd h
set_option maxHeartbeats 4000000 in
set_option maxRecDepth 100000 in
theorem zt_X15_plus_J128 {p : Program} {l : Launch} {e : Env} {R : Room} {s : State} {m : MethodId} {args : Array Value} {below : List Frame} {meth : Method} {c : Code} {V : zm_V} {mc ms d rc rs : Nat} (hX : zm_X p R s m args meth c RX15 "plus" cX15_plus 9 zk_E V mc ms) (hr : meth.sig.returnType = (some .long)) (hR : R.frames = d ∧ R.locals = 64 * d) (hd : 2 ≤ d) {N : Nat} {a0 : Nat} {j6 : Int64} {t0 : Int32} {t1 : Int32} {out : (Int64 × zm_S)} {S : zm_S} (h : zf_X15_plus_J128 N a0 j6 t0 t1 S = some out) : zw p l e R s m args below meth c (vx_MQ below (zm_Qc zk_E V (zo_l out)) (zm_XC zk_E V zo_x) args s mc ms (fun q => V.2.2.2.1 ≤ q)) 9 zk_E V mc ms 128 [(0, .ref a0), (6, .long j6)] [.int t1, .int t0] S rc rs := by
  unfold zf_X15_plus_J128 at h
  refine zw_icmp_eq (tgt := 135) hX dX15_plus_128 (by decide) (fun c128 => ?_) (fun c128 => ?_)
  · rw [if_pos c128] at h
    refine zw_sub (lv' := [(0, .ref a0), (6, .long j6)]) (List.forall_mem_cons.mpr ⟨rfl, (List.forall_mem_cons.mpr ⟨rfl, zs_nil⟩)⟩) ?_
    exact zt_X15_plus_J135 hX hr hR hd h
  · rw [if_neg c128] at h
    refine zw_iconst (v := (1 : Int32)) hX dX15_plus_131 (by decide) ?_
    refine zw_goto (tgt := 136) hX dX15_plus_132 (by decide) ?_
    refine zw_sub (lv' := [(0, .ref a0), (6, .long j6)]) (List.forall_mem_cons.mpr ⟨rfl, (List.forall_mem_cons.mpr ⟨rfl, zs_nil⟩)⟩) ?_
    exact zt_X15_plus_J136 hX hr hR hd h
set_option maxHeartbeats 4000000 in
set_option maxRecDepth 100000 in
theorem zt_X15_plus_J117 {p : Program} {l : Launch} {e : Env} {R : Room} {s : State} {m : MethodId} {args : Array Value} {below : List Frame} {meth : Method} {c : Code} {V : zm_V} {mc ms d rc rs : Nat} (hX : zm_X p R s m args meth c RX15 "plus" cX15_plus 9 zk_E V mc ms) (hr : meth.sig.returnType = (some .long)) (hR : R.frames = d ∧ R.locals = 64 * d) (hd : 2 ≤ d) {N : Nat} {a0 : Nat} {j1 : Int64} {j6 : Int64} {t0 : Int32} {out : (Int64 × zm_S)} {S : zm_S} (h : zf_X15_plus_J117 N a0 j1 j6 t0 S = some out) : zw p l e R s m args below meth c (vx_MQ below (zm_Qc zk_E V (zo_l out)) (zm_XC zk_E V zo_x) args s mc ms (fun q => V.2.2.2.1 ≤ q)) 9 zk_E V mc ms 117 [(0, .ref a0), (1, .long j1), (6, .long j6)] [.int t0] S rc rs := by
  unfold zf_X15_plus_J117 at h
  refine zw_lload_n hX dX15_plus_117 rfl ?_
  refine zw_lconst (v := (0 : Int64)) hX dX15_plus_118 (by decide) ?_
  refine zw_lcmp hX dX15_plus_119 ?_
  refine zw_if_ge (tgt := 127) hX dX15_plus_120 (by decide) (fun c120 => ?_) (fun c120 => ?_)
  · rw [if_pos c120] at h
    refine zw_iconst (v := (0 : Int32)) hX dX15_plus_127 (by decide) ?_
    refine zw_sub (lv' := [(0, .ref a0), (6, .long j6)]) (List.forall_mem_cons.mpr ⟨rfl, (List.forall_mem_cons.mpr ⟨rfl, zs_nil⟩)⟩) ?_
    exact zt_X15_plus_J128 hX hr hR hd h
  · rw [if_neg c120] at h
    refine zw_iconst (v := (1 : Int32)) hX dX15_plus_123 (by decide) ?_
    refine zw_goto (tgt := 128) hX dX15_plus_124 (by decide) ?_
    refine zw_sub (lv' := [(0, .ref a0), (6, .long j6)]) (List.forall_mem_cons.mpr ⟨rfl, (List.forall_mem_cons.mpr ⟨rfl, zs_nil⟩)⟩) ?_
    exact zt_X15_plus_J128 hX hr hR hd h
set_option maxHeartbeats 4000000 in
set_option maxRecDepth 100000 in
theorem zt_X15_plus_J102 {p : Program} {l : Launch} {e : Env} {R : Room} {s : State} {m : MethodId} {args : Array Value} {below : List Frame} {meth : Method} {c : Code} {V : zm_V} {mc ms d rc rs : Nat} (hX : zm_X p R s m args meth c RX15 "plus" cX15_plus 9 zk_E V mc ms) (hr : meth.sig.returnType = (some .long)) (hR : R.frames = d ∧ R.locals = 64 * d) (hd : 2 ≤ d) {N : Nat} {a0 : Nat} {j1 : Int64} {j6 : Int64} {t0 : Int32} {t1 : Int32} {out : (Int64 × zm_S)} {S : zm_S} (h : zf_X15_plus_J102 N a0 j1 j6 t0 t1 S = some out) : zw p l e R s m args below meth c (vx_MQ below (zm_Qc zk_E V (zo_l out)) (zm_XC zk_E V zo_x) args s mc ms (fun q => V.2.2.2.1 ≤ q)) 9 zk_E V mc ms 102 [(0, .ref a0), (1, .long j1), (6, .long j6)] [.int t1, .int t0] S rc rs := by
  unfold zf_X15_plus_J102 at h
  refine zw_icmp_ne (tgt := 135) hX dX15_plus_102 (by decide) (fun c102 => ?_) (fun c102 => ?_)
  · rw [if_neg c102] at h
    refine zw_sub (lv' := [(0, .ref a0), (6, .long j6)]) (List.forall_mem_cons.mpr ⟨rfl, (List.forall_mem_cons.mpr ⟨rfl, zs_nil⟩)⟩) ?_
    exact zt_X15_plus_J135 hX hr hR hd h
  · rw [if_pos c102] at h
    refine zw_lload hX dX15_plus_105 rfl ?_
    refine zw_lconst (v := (0 : Int64)) hX dX15_plus_107 (by decide) ?_
    refine zw_lcmp hX dX15_plus_108 ?_
    refine zw_if_ge (tgt := 116) hX dX15_plus_109 (by decide) (fun c109 => ?_) (fun c109 => ?_)
    · rw [if_pos c109] at h
      refine zw_iconst (v := (0 : Int32)) hX dX15_plus_116 (by decide) ?_
      refine zw_sub (lv' := [(0, .ref a0), (1, .long j1), (6, .long j6)]) (List.forall_mem_cons.mpr ⟨rfl, (List.forall_mem_cons.mpr ⟨rfl, (List.forall_mem_cons.mpr ⟨rfl, zs_nil⟩)⟩)⟩) ?_
      exact zt_X15_plus_J117 hX hr hR hd h
    · rw [if_neg c109] at h
      refine zw_iconst (v := (1 : Int32)) hX dX15_plus_112 (by decide) ?_
      refine zw_goto (tgt := 117) hX dX15_plus_113 (by decide) ?_
      refine zw_sub (lv' := [(0, .ref a0), (1, .long j1), (6, .long j6)]) (List.forall_mem_cons.mpr ⟨rfl, (List.forall_mem_cons.mpr ⟨rfl, (List.forall_mem_cons.mpr ⟨rfl, zs_nil⟩)⟩)⟩) ?_
      exact zt_X15_plus_J117 hX hr hR hd h
set_option maxHeartbeats 4000000 in
set_option maxRecDepth 100000 in
theorem zt_X15_plus_J91 {p : Program} {l : Launch} {e : Env} {R : Room} {s : State} {m : MethodId} {args : Array Value} {below : List Frame} {meth : Method} {c : Code} {V : zm_V} {mc ms d rc rs : Nat} (hX : zm_X p R s m args meth c RX15 "plus" cX15_plus 9 zk_E V mc ms) (hr : meth.sig.returnType = (some .long)) (hR : R.frames = d ∧ R.locals = 64 * d) (hd : 2 ≤ d) {N : Nat} {a0 : Nat} {j1 : Int64} {j3 : Int64} {j6 : Int64} {t0 : Int32} {out : (Int64 × zm_S)} {S : zm_S} (h : zf_X15_plus_J91 N a0 j1 j3 j6 t0 S = some out) : zw p l e R s m args below meth c (vx_MQ below (zm_Qc zk_E V (zo_l out)) (zm_XC zk_E V zo_x) args s mc ms (fun q => V.2.2.2.1 ≤ q)) 9 zk_E V mc ms 91 [(0, .ref a0), (1, .long j1), (3, .long j3), (6, .long j6)] [.int t0] S rc rs := by
  unfold zf_X15_plus_J91 at h
  refine zw_lload_n hX dX15_plus_91 rfl ?_
  refine zw_lconst (v := (0 : Int64)) hX dX15_plus_92 (by decide) ?_
  refine zw_lcmp hX dX15_plus_93 ?_
  refine zw_if_ge (tgt := 101) hX dX15_plus_94 (by decide) (fun c94 => ?_) (fun c94 => ?_)
  · rw [if_pos c94] at h
    refine zw_iconst (v := (0 : Int32)) hX dX15_plus_101 (by decide) ?_
    refine zw_sub (lv' := [(0, .ref a0), (1, .long j1), (6, .long j6)]) (List.forall_mem_cons.mpr ⟨rfl, (List.forall_mem_cons.mpr ⟨rfl, (List.forall_mem_cons.mpr ⟨rfl, zs_nil⟩)⟩)⟩) ?_
    exact zt_X15_plus_J102 hX hr hR hd h
  · rw [if_neg c94] at h
    refine zw_iconst (v := (1 : Int32)) hX dX15_plus_97 (by decide) ?_
    refine zw_goto (tgt := 102) hX dX15_plus_98 (by decide) ?_
    refine zw_sub (lv' := [(0, .ref a0), (1, .long j1), (6, .long j6)]) (List.forall_mem_cons.mpr ⟨rfl, (List.forall_mem_cons.mpr ⟨rfl, (List.forall_mem_cons.mpr ⟨rfl, zs_nil⟩)⟩)⟩) ?_
    exact zt_X15_plus_J102 hX hr hR hd h
set_option maxHeartbeats 4000000 in
set_option maxRecDepth 100000 in
theorem zt_X15_plus_J76 {p : Program} {l : Launch} {e : Env} {R : Room} {s : State} {m : MethodId} {args : Array Value} {below : List Frame} {meth : Method} {c : Code} {V : zm_V} {mc ms d rc rs : Nat} (hX : zm_X p R s m args meth c RX15 "plus" cX15_plus 9 zk_E V mc ms) (hr : meth.sig.returnType = (some .long)) (hR : R.frames = d ∧ R.locals = 64 * d) (hd : 2 ≤ d) {N : Nat} {a0 : Nat} {j6 : Int64} {out : (Int64 × zm_S)} {S : zm_S} (h : zf_X15_plus_J76 N a0 j6 S = some out) : zw p l e R s m args below meth c (vx_MQ below (zm_Qc zk_E V (zo_l out)) (zm_XC zk_E V zo_x) args s mc ms (fun q => V.2.2.2.1 ≤ q)) 9 zk_E V mc ms 76 [(0, .ref a0), (6, .long j6)] [] S rc rs := by
  unfold zf_X15_plus_J76 at h
  refine zw_iconst (v := (0 : Int32)) hX dX15_plus_76 (by decide) ?_
  refine zw_goto (tgt := 136) hX dX15_plus_77 (by decide) ?_
  refine zw_sub (lv' := [(0, .ref a0), (6, .long j6)]) (List.forall_mem_cons.mpr ⟨rfl, (List.forall_mem_cons.mpr ⟨rfl, zs_nil⟩)⟩) ?_
  exact zt_X15_plus_J136 hX hr hR hd h
set_option maxHeartbeats 4000000 in
set_option maxRecDepth 100000 in
theorem zt_X15_plus_J69 {p : Program} {l : Launch} {e : Env} {R : Room} {s : State} {m : MethodId} {args : Array Value} {below : List Frame} {meth : Method} {c : Code} {V : zm_V} {mc ms d rc rs : Nat} (hX : zm_X p R s m args meth c RX15 "plus" cX15_plus 9 zk_E V mc ms) (hr : meth.sig.returnType = (some .long)) (hR : R.frames = d ∧ R.locals = 64 * d) (hd : 2 ≤ d) {N : Nat} {a0 : Nat} {j6 : Int64} {t0 : Int32} {t1 : Int32} {out : (Int64 × zm_S)} {S : zm_S} (h : zf_X15_plus_J69 N a0 j6 t0 t1 S = some out) : zw p l e R s m args below meth c (vx_MQ below (zm_Qc zk_E V (zo_l out)) (zm_XC zk_E V zo_x) args s mc ms (fun q => V.2.2.2.1 ≤ q)) 9 zk_E V mc ms 69 [(0, .ref a0), (6, .long j6)] [.int t1, .int t0] S rc rs := by
  unfold zf_X15_plus_J69 at h
  refine zw_icmp_eq (tgt := 76) hX dX15_plus_69 (by decide) (fun c69 => ?_) (fun c69 => ?_)
  · rw [if_pos c69] at h
    refine zw_sub (lv' := [(0, .ref a0), (6, .long j6)]) (List.forall_mem_cons.mpr ⟨rfl, (List.forall_mem_cons.mpr ⟨rfl, zs_nil⟩)⟩) ?_
    exact zt_X15_plus_J76 hX hr hR hd h
  · rw [if_neg c69] at h
    refine zw_iconst (v := (1 : Int32)) hX dX15_plus_72 (by decide) ?_
    refine zw_goto (tgt := 136) hX dX15_plus_73 (by decide) ?_
    refine zw_sub (lv' := [(0, .ref a0), (6, .long j6)]) (List.forall_mem_cons.mpr ⟨rfl, (List.forall_mem_cons.mpr ⟨rfl, zs_nil⟩)⟩) ?_
    exact zt_X15_plus_J136 hX hr hR hd h
set_option maxHeartbeats 4000000 in
set_option maxRecDepth 100000 in
theorem zt_X15_plus_J58 {p : Program} {l : Launch} {e : Env} {R : Room} {s : State} {m : MethodId} {args : Array Value} {below : List Frame} {meth : Method} {c : Code} {V : zm_V} {mc ms d rc rs : Nat} (hX : zm_X p R s m args meth c RX15 "plus" cX15_plus 9 zk_E V mc ms) (hr : meth.sig.returnType = (some .long)) (hR : R.frames = d ∧ R.locals = 64 * d) (hd : 2 ≤ d) {N : Nat} {a0 : Nat} {j1 : Int64} {j6 : Int64} {t0 : Int32} {out : (Int64 × zm_S)} {S : zm_S} (h : zf_X15_plus_J58 N a0 j1 j6 t0 S = some out) : zw p l e R s m args below meth c (vx_MQ below (zm_Qc zk_E V (zo_l out)) (zm_XC zk_E V zo_x) args s mc ms (fun q => V.2.2.2.1 ≤ q)) 9 zk_E V mc ms 58 [(0, .ref a0), (1, .long j1), (6, .long j6)] [.int t0] S rc rs := by
  unfold zf_X15_plus_J58 at h
  refine zw_lload_n hX dX15_plus_58 rfl ?_
  refine zw_lconst (v := (0 : Int64)) hX dX15_plus_59 (by decide) ?_
  refine zw_lcmp hX dX15_plus_60 ?_
  refine zw_if_ge (tgt := 68) hX dX15_plus_61 (by decide) (fun c61 => ?_) (fun c61 => ?_)
  · rw [if_pos c61] at h
    refine zw_iconst (v := (0 : Int32)) hX dX15_plus_68 (by decide) ?_
    refine zw_sub (lv' := [(0, .ref a0), (6, .long j6)]) (List.forall_mem_cons.mpr ⟨rfl, (List.forall_mem_cons.mpr ⟨rfl, zs_nil⟩)⟩) ?_
    exact zt_X15_plus_J69 hX hr hR hd h
  · rw [if_neg c61] at h
    refine zw_iconst (v := (1 : Int32)) hX dX15_plus_64 (by decide) ?_
    refine zw_goto (tgt := 69) hX dX15_plus_65 (by decide) ?_
    refine zw_sub (lv' := [(0, .ref a0), (6, .long j6)]) (List.forall_mem_cons.mpr ⟨rfl, (List.forall_mem_cons.mpr ⟨rfl, zs_nil⟩)⟩) ?_
    exact zt_X15_plus_J69 hX hr hR hd h
set_option maxHeartbeats 4000000 in
set_option maxRecDepth 100000 in
theorem zt_X15_plus_J43 {p : Program} {l : Launch} {e : Env} {R : Room} {s : State} {m : MethodId} {args : Array Value} {below : List Frame} {meth : Method} {c : Code} {V : zm_V} {mc ms d rc rs : Nat} (hX : zm_X p R s m args meth c RX15 "plus" cX15_plus 9 zk_E V mc ms) (hr : meth.sig.returnType = (some .long)) (hR : R.frames = d ∧ R.locals = 64 * d) (hd : 2 ≤ d) {N : Nat} {a0 : Nat} {j1 : Int64} {j6 : Int64} {t0 : Int32} {t1 : Int32} {out : (Int64 × zm_S)} {S : zm_S} (h : zf_X15_plus_J43 N a0 j1 j6 t0 t1 S = some out) : zw p l e R s m args below meth c (vx_MQ below (zm_Qc zk_E V (zo_l out)) (zm_XC zk_E V zo_x) args s mc ms (fun q => V.2.2.2.1 ≤ q)) 9 zk_E V mc ms 43 [(0, .ref a0), (1, .long j1), (6, .long j6)] [.int t1, .int t0] S rc rs := by
  unfold zf_X15_plus_J43 at h
  refine zw_icmp_eq (tgt := 76) hX dX15_plus_43 (by decide) (fun c43 => ?_) (fun c43 => ?_)
  · rw [if_pos c43] at h
    refine zw_sub (lv' := [(0, .ref a0), (6, .long j6)]) (List.forall_mem_cons.mpr ⟨rfl, (List.forall_mem_cons.mpr ⟨rfl, zs_nil⟩)⟩) ?_
    exact zt_X15_plus_J76 hX hr hR hd h
  · rw [if_neg c43] at h
    refine zw_lload hX dX15_plus_46 rfl ?_
    refine zw_lconst (v := (0 : Int64)) hX dX15_plus_48 (by decide) ?_
    refine zw_lcmp hX dX15_plus_49 ?_
    refine zw_if_ge (tgt := 57) hX dX15_plus_50 (by decide) (fun c50 => ?_) (fun c50 => ?_)
    · rw [if_pos c50] at h
      refine zw_iconst (v := (0 : Int32)) hX dX15_plus_57 (by decide) ?_
      refine zw_sub (lv' := [(0, .ref a0), (1, .long j1), (6, .long j6)]) (List.forall_mem_cons.mpr ⟨rfl, (List.forall_mem_cons.mpr ⟨rfl, (List.forall_mem_cons.mpr ⟨rfl, zs_nil⟩)⟩)⟩) ?_
      exact zt_X15_plus_J58 hX hr hR hd h
    · rw [if_neg c50] at h
      refine zw_iconst (v := (1 : Int32)) hX dX15_plus_53 (by decide) ?_
      refine zw_goto (tgt := 58) hX dX15_plus_54 (by decide) ?_
      refine zw_sub (lv' := [(0, .ref a0), (1, .long j1), (6, .long j6)]) (List.forall_mem_cons.mpr ⟨rfl, (List.forall_mem_cons.mpr ⟨rfl, (List.forall_mem_cons.mpr ⟨rfl, zs_nil⟩)⟩)⟩) ?_
      exact zt_X15_plus_J58 hX hr hR hd h
set_option maxHeartbeats 4000000 in
set_option maxRecDepth 100000 in
theorem zt_X15_plus_J32 {p : Program} {l : Launch} {e : Env} {R : Room} {s : State} {m : MethodId} {args : Array Value} {below : List Frame} {meth : Method} {c : Code} {V : zm_V} {mc ms d rc rs : Nat} (hX : zm_X p R s m args meth c RX15 "plus" cX15_plus 9 zk_E V mc ms) (hr : meth.sig.returnType = (some .long)) (hR : R.frames = d ∧ R.locals = 64 * d) (hd : 2 ≤ d) {N : Nat} {a0 : Nat} {j1 : Int64} {j3 : Int64} {j6 : Int64} {t0 : Int32} {out : (Int64 × zm_S)} {S : zm_S} (h : zf_X15_plus_J32 N a0 j1 j3 j6 t0 S = some out) : zw p l e R s m args below meth c (vx_MQ below (zm_Qc zk_E V (zo_l out)) (zm_XC zk_E V zo_x) args s mc ms (fun q => V.2.2.2.1 ≤ q)) 9 zk_E V mc ms 32 [(0, .ref a0), (1, .long j1), (3, .long j3), (6, .long j6)] [.int t0] S rc rs := by
  unfold zf_X15_plus_J32 at h
  refine zw_lload_n hX dX15_plus_32 rfl ?_
  refine zw_lconst (v := (0 : Int64)) hX dX15_plus_33 (by decide) ?_
  refine zw_lcmp hX dX15_plus_34 ?_
  refine zw_if_ge (tgt := 42) hX dX15_plus_35 (by decide) (fun c35 => ?_) (fun c35 => ?_)
  · rw [if_pos c35] at h
    refine zw_iconst (v := (0 : Int32)) hX dX15_plus_42 (by decide) ?_
    refine zw_sub (lv' := [(0, .ref a0), (1, .long j1), (6, .long j6)]) (List.forall_mem_cons.mpr ⟨rfl, (List.forall_mem_cons.mpr ⟨rfl, (List.forall_mem_cons.mpr ⟨rfl, zs_nil⟩)⟩)⟩) ?_
    exact zt_X15_plus_J43 hX hr hR hd h
  · rw [if_neg c35] at h
    refine zw_iconst (v := (1 : Int32)) hX dX15_plus_38 (by decide) ?_
    refine zw_goto (tgt := 43) hX dX15_plus_39 (by decide) ?_
    refine zw_sub (lv' := [(0, .ref a0), (1, .long j1), (6, .long j6)]) (List.forall_mem_cons.mpr ⟨rfl, (List.forall_mem_cons.mpr ⟨rfl, (List.forall_mem_cons.mpr ⟨rfl, zs_nil⟩)⟩)⟩) ?_
    exact zt_X15_plus_J43 hX hr hR hd h
set_option maxHeartbeats 4000000 in
set_option maxRecDepth 100000 in
theorem zt_X15_plus_J14 {p : Program} {l : Launch} {e : Env} {R : Room} {s : State} {m : MethodId} {args : Array Value} {below : List Frame} {meth : Method} {c : Code} {V : zm_V} {mc ms d rc rs : Nat} (hX : zm_X p R s m args meth c RX15 "plus" cX15_plus 9 zk_E V mc ms) (hr : meth.sig.returnType = (some .long)) (hR : R.frames = d ∧ R.locals = 64 * d) (hd : 2 ≤ d) {N : Nat} {a0 : Nat} {j1 : Int64} {j3 : Int64} {i5 : Int32} {t0 : Int64} {out : (Int64 × zm_S)} {S : zm_S} (h : zf_X15_plus_J14 N a0 j1 j3 i5 t0 S = some out) : zw p l e R s m args below meth c (vx_MQ below (zm_Qc zk_E V (zo_l out)) (zm_XC zk_E V zo_x) args s mc ms (fun q => V.2.2.2.1 ≤ q)) 9 zk_E V mc ms 14 [(0, .ref a0), (1, .long j1), (3, .long j3), (5, .int i5)] [.long t0] S rc rs := by
  unfold zf_X15_plus_J14 at h
  refine zw_lstore hX dX15_plus_14 (by decide) ?_
  refine zw_iload hX dX15_plus_16 rfl ?_
  refine zw_if_eq (tgt := 80) hX dX15_plus_18 (by decide) (fun c18 => ?_) (fun c18 => ?_)
  · rw [if_pos c18] at h
    refine zw_lload_n hX dX15_plus_80 rfl ?_
    refine zw_lconst (v := (0 : Int64)) hX dX15_plus_81 (by decide) ?_
    refine zw_lcmp hX dX15_plus_82 ?_
    refine zw_if_ge (tgt := 90) hX dX15_plus_83 (by decide) (fun c83 => ?_) (fun c83 => ?_)
    · rw [if_pos c83] at h
      refine zw_iconst (v := (0 : Int32)) hX dX15_plus_90 (by decide) ?_
      refine zw_sub (lv' := [(0, .ref a0), (1, .long j1), (3, .long j3), (6, .long t0)]) (List.forall_mem_cons.mpr ⟨rfl, (List.forall_mem_cons.mpr ⟨rfl, (List.forall_mem_cons.mpr ⟨rfl, (List.forall_mem_cons.mpr ⟨rfl, zs_nil⟩)⟩)⟩)⟩) ?_
      exact zt_X15_plus_J91 hX hr hR hd h
    · rw [if_neg c83] at h
      refine zw_iconst (v := (1 : Int32)) hX dX15_plus_86 (by decide) ?_
      refine zw_goto (tgt := 91) hX dX15_plus_87 (by decide) ?_
      refine zw_sub (lv' := [(0, .ref a0), (1, .long j1), (3, .long j3), (6, .long t0)]) (List.forall_mem_cons.mpr ⟨rfl, (List.forall_mem_cons.mpr ⟨rfl, (List.forall_mem_cons.mpr ⟨rfl, (List.forall_mem_cons.mpr ⟨rfl, zs_nil⟩)⟩)⟩)⟩) ?_
      exact zt_X15_plus_J91 hX hr hR hd h
  · rw [if_neg c18] at h
    refine zw_lload_n hX dX15_plus_21 rfl ?_
    refine zw_lconst (v := (0 : Int64)) hX dX15_plus_22 (by decide) ?_
    refine zw_lcmp hX dX15_plus_23 ?_
    refine zw_if_ge (tgt := 31) hX dX15_plus_24 (by decide) (fun c24 => ?_) (fun c24 => ?_)
    · rw [if_pos c24] at h
      refine zw_iconst (v := (0 : Int32)) hX dX15_plus_31 (by decide) ?_
      refine zw_sub (lv' := [(0, .ref a0), (1, .long j1), (3, .long j3), (6, .long t0)]) (List.forall_mem_cons.mpr ⟨rfl, (List.forall_mem_cons.mpr ⟨rfl, (List.forall_mem_cons.mpr ⟨rfl, (List.forall_mem_cons.mpr ⟨rfl, zs_nil⟩)⟩)⟩)⟩) ?_
      exact zt_X15_plus_J32 hX hr hR hd h
    · rw [if_neg c24] at h
      refine zw_iconst (v := (1 : Int32)) hX dX15_plus_27 (by decide) ?_
      refine zw_goto (tgt := 32) hX dX15_plus_28 (by decide) ?_
      refine zw_sub (lv' := [(0, .ref a0), (1, .long j1), (3, .long j3), (6, .long t0)]) (List.forall_mem_cons.mpr ⟨rfl, (List.forall_mem_cons.mpr ⟨rfl, (List.forall_mem_cons.mpr ⟨rfl, (List.forall_mem_cons.mpr ⟨rfl, zs_nil⟩)⟩)⟩)⟩) ?_
      exact zt_X15_plus_J32 hX hr hR hd h
set_option maxHeartbeats 4000000 in
set_option maxRecDepth 100000 in
theorem zt_X15_plus {l : Launch} {V : zm_V} {N : Nat} {S : zm_S} {out : (Int64 × zm_S)} {d : Nat} {a0 : Nat} {j1 : Int64} {j3 : Int64} {i5 : Int32} (hd : 2 ≤ d) (h : zf_X15_plus N a0 j1 j3 i5 S = some out) : zm_Met l zk_E V yX15_plus (.code yX15_plus cX15_plus 9 (some .long)) d [.ref a0, .long j1, .long j3, .int i5] S 0 0 (zo_l out) zo_x := by
  refine zm_of (by decide +kernel) (Nat.le_of_ble_eq_true rfl) ?_
  intro p e R s m args below meth c hRR hX hr hxt
  have hR : R.frames = d ∧ R.locals = 64 * d := by rw [hRR]; exact ⟨rfl, rfl⟩
  have hX : zm_X p R s m args meth c RX15 "plus" cX15_plus 9 zk_E V 0 0 := hX
  unfold zf_X15_plus at h
  refine zw_sub (lv' := [(0, .ref a0), (1, .long j1), (3, .long j3), (5, .int i5)]) (List.forall_mem_cons.mpr ⟨rfl, (List.forall_mem_cons.mpr ⟨rfl, (List.forall_mem_cons.mpr ⟨rfl, (List.forall_mem_cons.mpr ⟨rfl, zs_nil⟩)⟩)⟩)⟩) ?_
  refine zw_iload hX dX15_plus_0 rfl ?_
  refine zw_if_eq (tgt := 11) hX dX15_plus_2 (by decide) (fun c2 => ?_) (fun c2 => ?_)
  · rw [if_pos c2] at h
    refine zw_lload_n hX dX15_plus_11 rfl ?_
    refine zw_lload_n hX dX15_plus_12 rfl ?_
    refine zw_ladd hX dX15_plus_13 ?_
    refine zw_sub (lv' := [(0, .ref a0), (1, .long j1), (3, .long j3), (5, .int i5)]) (List.forall_mem_cons.mpr ⟨rfl, (List.forall_mem_cons.mpr ⟨rfl, (List.forall_mem_cons.mpr ⟨rfl, (List.forall_mem_cons.mpr ⟨rfl, zs_nil⟩)⟩)⟩)⟩) ?_
    exact zt_X15_plus_J14 hX hr hR hd h
  · rw [if_neg c2] at h
    refine zw_lload_n hX dX15_plus_5 rfl ?_
    refine zw_lload_n hX dX15_plus_6 rfl ?_
    refine zw_lsub hX dX15_plus_7 ?_
    refine zw_goto (tgt := 14) hX dX15_plus_8 (by decide) ?_
    refine zw_sub (lv' := [(0, .ref a0), (1, .long j1), (3, .long j3), (5, .int i5)]) (List.forall_mem_cons.mpr ⟨rfl, (List.forall_mem_cons.mpr ⟨rfl, (List.forall_mem_cons.mpr ⟨rfl, (List.forall_mem_cons.mpr ⟨rfl, zs_nil⟩)⟩)⟩)⟩) ?_
    exact zt_X15_plus_J14 hX hr hR hd h
set_option maxHeartbeats 4000000 in
set_option maxRecDepth 100000 in
theorem zt_X15_push_L6 {p : Program} {l : Launch} {e : Env} {R : Room} {s : State} {m : MethodId} {args : Array Value} {below : List Frame} {meth : Method} {c : Code} {V : zm_V} {mc ms d rc rs : Nat} (hX : zm_X p R s m args meth c RX15 "push" cX15_push 11 zk_E V mc ms) (hr : meth.sig.returnType = none) (hR : R.frames = d ∧ R.locals = 64 * d) (hd : 2 ≤ d) {N : Nat} {res : (Unit × zm_S) ⊕ ((Int64) × zm_S)} {out : (Unit × zm_S)} (a0 : Nat) (j1 : Int64) (j3 : Int64) (hf : ∀ o, res = .inl o → o = out) (hk : ∀ (x5 : Int64) (S' : zm_S), res = .inr (x5, S') → zw p l e R s m args below meth c (vx_MQ below (zm_Qc zk_E V (zo_v out)) (zm_XC zk_E V zo_x) args s mc ms (fun q => V.2.2.2.1 ≤ q)) 11 zk_E V mc ms 31 [(0, .ref a0), (1, .long j1), (3, .long j3), (5, .long x5)] [] S' rc rs) : ∀ (n : Nat) (j5 : Int64) (j7 : Int64) (S : zm_S), zf_X15_push_L6 N n a0 j1 j3 j5 j7 S = some res → zw p l e R s m args below meth c (vx_MQ below (zm_Qc zk_E V (zo_v out)) (zm_XC zk_E V zo_x) args s mc ms (fun q => V.2.2.2.1 ≤ q)) 11 zk_E V mc ms 6 [(0, .ref a0), (1, .long j1), (3, .long j3), (5, .long j5), (7, .long j7)] [] S rc rs := by
  intro n
  induction n with
  | zero => intro j5 j7 S h; cases h
  | succ n ih =>
    intro j5 j7 S h
    rw [zf_X15_push_L6] at h
    refine zw_lload hX dX15_push_6 rfl ?_
    refine zw_lconst (v := (0 : Int64)) hX dX15_push_8 (by decide) ?_
    refine zw_lcmp hX dX15_push_9 ?_
    refine zw_if_eq (tgt := 31) hX dX15_push_10 (by decide) (fun c10 => ?_) (fun c10 => ?_)
    · rw [if_pos c10] at h
      refine zw_sub (lv' := [(0, .ref a0), (1, .long j1), (3, .long j3), (5, .long j5)]) (List.forall_mem_cons.mpr ⟨rfl, (List.forall_mem_cons.mpr ⟨rfl, (List.forall_mem_cons.mpr ⟨rfl, (List.forall_mem_cons.mpr ⟨rfl, zs_nil⟩)⟩)⟩)⟩) ?_
      exact hk _ _ (Option.some.inj h).symm
    · rw [if_neg c10] at h
      refine zw_lload hX dX15_push_13 rfl ?_
      refine zw_lload hX dX15_push_15 rfl ?_
      by_cases c0 : j7 = 0
      · rw [if_pos c0] at h
        cases h
      rw [if_neg c0] at h
      refine zw_lrem hX dX15_push_17 c0 ?_
      refine zw_lstore hX dX15_push_18 (by decide) ?_
      refine zw_lload hX dX15_push_20 rfl ?_
      refine zw_lstore hX dX15_push_22 (by decide) ?_
      refine zw_lload hX dX15_push_24 rfl ?_
      refine zw_lstore hX dX15_push_26 (by decide) ?_
      refine zw_goto (tgt := 6) hX dX15_push_28 (by decide) ?_
      refine zw_sub (lv' := [(0, .ref a0), (1, .long j1), (3, .long j3), (5, .long j7), (7, .long (j5 - j5 / j7 * j7))]) (List.forall_mem_cons.mpr ⟨rfl, (List.forall_mem_cons.mpr ⟨rfl, (List.forall_mem_cons.mpr ⟨rfl, (List.forall_mem_cons.mpr ⟨rfl, (List.forall_mem_cons.mpr ⟨rfl, zs_nil⟩)⟩)⟩)⟩)⟩) ?_
      exact ih _ _ _ h
set_option maxHeartbeats 4000000 in
set_option maxRecDepth 100000 in
theorem zt_X15_push_J171 {p : Program} {l : Launch} {e : Env} {R : Room} {s : State} {m : MethodId} {args : Array Value} {below : List Frame} {meth : Method} {c : Code} {V : zm_V} {mc ms d rc rs : Nat} (hX : zm_X p R s m args meth c RX15 "push" cX15_push 11 zk_E V mc ms) (hr : meth.sig.returnType = none) (hR : R.frames = d ∧ R.locals = 64 * d) (hd : 2 ≤ d) {N : Nat} {a0 : Nat} {out : (Unit × zm_S)} {S : zm_S} (h : zf_X15_push_J171 N a0 S = some out) : zw p l e R s m args below meth c (vx_MQ below (zm_Qc zk_E V (zo_v out)) (zm_XC zk_E V zo_x) args s mc ms (fun q => V.2.2.2.1 ≤ q)) 11 zk_E V mc ms 171 [(0, .ref a0)] [] S rc rs := by
  unfold zf_X15_push_J171 at h
  refine zw_aload_n hX dX15_push_171 rfl ?_
  refine zw_dup hX dX15_push_172 rfl ?_
  obtain ⟨v3, g, h⟩ := zb_some h
  refine zw_geti hX zl_X15_207 dX15_push_173 g ?_
  refine zw_iconst (v := (1 : Int32)) hX dX15_push_176 (by decide) ?_
  refine zw_iadd hX dX15_push_177 ?_
  obtain ⟨S4, g, h⟩ := zb_some h
  refine zw_putv hX zl_X15_207 zt_15_39 dX15_push_178 rfl rfl g ?_
  obtain rfl := Option.some.inj h
  exact zw_vret hX hr dX15_push_181 ⟨rfl, rfl⟩
set_option maxHeartbeats 4000000 in
set_option maxRecDepth 100000 in
theorem zt_X15_push_J133 {p : Program} {l : Launch} {e : Env} {R : Room} {s : State} {m : MethodId} {args : Array Value} {below : List Frame} {meth : Method} {c : Code} {V : zm_V} {mc ms d rc rs : Nat} (hX : zm_X p R s m args meth c RX15 "push" cX15_push 11 zk_E V mc ms) (hr : meth.sig.returnType = none) (hR : R.frames = d ∧ R.locals = 64 * d) (hd : 2 ≤ d) {N : Nat} {a0 : Nat} {out : (Unit × zm_S)} {S : zm_S} (h : zf_X15_push_J133 N a0 S = some out) : zw p l e R s m args below meth c (vx_MQ below (zm_Qc zk_E V (zo_v out)) (zm_XC zk_E V zo_x) args s mc ms (fun q => V.2.2.2.1 ≤ q)) 11 zk_E V mc ms 133 [(0, .ref a0)] [] S rc rs := by
  unfold zf_X15_push_J133 at h
  refine zw_aload_n hX dX15_push_133 rfl ?_
  obtain ⟨b19, g, h⟩ := zb_some h
  refine zw_getr hX zl_X15_78 dX15_push_134 g ?_
  refine zw_aload_n hX dX15_push_137 rfl ?_
  obtain ⟨v20, g, h⟩ := zb_some h
  refine zw_geti hX zl_X15_207 dX15_push_138 g ?_
  refine zw_aload_n hX dX15_push_141 rfl ?_
  obtain ⟨b21, g, h⟩ := zb_some h
  refine zw_getr hX zl_X15_78 dX15_push_142 g ?_
  refine zw_aload_n hX dX15_push_145 rfl ?_
  obtain ⟨v22, g, h⟩ := zb_some h
  refine zw_geti hX zl_X15_207 dX15_push_146 g ?_
  obtain ⟨w23, g, h⟩ := zb_some h
  refine zw_xl hX dX15_push_149 g ?_
  refine zw_lneg hX dX15_push_150 ?_
  obtain ⟨S24, g, h⟩ := zb_some h
  refine zw_sl hX dX15_push_151 g ?_
  refine zw_aload_n hX dX15_push_152 rfl ?_
  obtain ⟨b25, g, h⟩ := zb_some h
  refine zw_getr hX zl_X15_81 dX15_push_153 g ?_
  refine zw_aload_n hX dX15_push_156 rfl ?_
  obtain ⟨v26, g, h⟩ := zb_some h
  refine zw_geti hX zl_X15_207 dX15_push_157 g ?_
  refine zw_aload_n hX dX15_push_160 rfl ?_
  obtain ⟨b27, g, h⟩ := zb_some h
  refine zw_getr hX zl_X15_81 dX15_push_161 g ?_
  refine zw_aload_n hX dX15_push_164 rfl ?_
  obtain ⟨v28, g, h⟩ := zb_some h
  refine zw_geti hX zl_X15_207 dX15_push_165 g ?_
  obtain ⟨w29, g, h⟩ := zb_some h
  refine zw_xl hX dX15_push_168 g ?_
  refine zw_lneg hX dX15_push_169 ?_
  obtain ⟨S30, g, h⟩ := zb_some h
  refine zw_sl hX dX15_push_170 g ?_
  refine zw_sub (lv' := [(0, .ref a0)]) (List.forall_mem_cons.mpr ⟨rfl, zs_nil⟩) ?_
  exact zt_X15_push_J171 hX hr hR hd h
set_option maxHeartbeats 4000000 in
set_option maxRecDepth 100000 in
theorem zt_X15_push_J127 {p : Program} {l : Launch} {e : Env} {R : Room} {s : State} {m : MethodId} {args : Array Value} {below : List Frame} {meth : Method} {c : Code} {V : zm_V} {mc ms d rc rs : Nat} (hX : zm_X p R s m args meth c RX15 "push" cX15_push 11 zk_E V mc ms) (hr : meth.sig.returnType = none) (hR : R.frames = d ∧ R.locals = 64 * d) (hd : 2 ≤ d) {N : Nat} {a0 : Nat} {out : (Unit × zm_S)} {S : zm_S} (h : zf_X15_push_J127 N a0 S = some out) : zw p l e R s m args below meth c (vx_MQ below (zm_Qc zk_E V (zo_v out)) (zm_XC zk_E V zo_x) args s mc ms (fun q => V.2.2.2.1 ≤ q)) 11 zk_E V mc ms 127 [(0, .ref a0)] [] S rc rs := by
  unfold zf_X15_push_J127 at h
  refine zw_aload_n hX dX15_push_127 rfl ?_
  refine zw_iconst (v := (2 : Int32)) hX dX15_push_128 (by decide) ?_
  refine zw_lconst (v := (0 : Int64)) hX dX15_push_129 (by decide) ?_
  obtain ⟨_, gi, h⟩ := zb_some h
  obtain ⟨r18, g, h⟩ := zb_some h
  refine zc_Vv (as := [.int (2 : Int32), .long (0 : Int64)]) hX gi (zt_X15_opens (d := d - 1) (by omega) g) zl_X15_204 rfl dX15_push_130 ⟨rfl, rfl, Nat.le_of_ble_eq_true rfl⟩ ⟨by omega, by omega⟩ ?_
  refine zw_sub (lv' := [(0, .ref a0)]) (List.forall_mem_cons.mpr ⟨rfl, zs_nil⟩) ?_
  exact zt_X15_push_J133 hX hr hR hd h
set_option maxHeartbeats 4000000 in
set_option maxRecDepth 100000 in
theorem zt_X15_push_J46 {p : Program} {l : Launch} {e : Env} {R : Room} {s : State} {m : MethodId} {args : Array Value} {below : List Frame} {meth : Method} {c : Code} {V : zm_V} {mc ms d rc rs : Nat} (hX : zm_X p R s m args meth c RX15 "push" cX15_push 11 zk_E V mc ms) (hr : meth.sig.returnType = none) (hR : R.frames = d ∧ R.locals = 64 * d) (hd : 2 ≤ d) {N : Nat} {a0 : Nat} {j1 : Int64} {j3 : Int64} {t0 : Int64} {out : (Unit × zm_S)} {S : zm_S} (h : zf_X15_push_J46 N a0 j1 j3 t0 S = some out) : zw p l e R s m args below meth c (vx_MQ below (zm_Qc zk_E V (zo_v out)) (zm_XC zk_E V zo_x) args s mc ms (fun q => V.2.2.2.1 ≤ q)) 11 zk_E V mc ms 46 [(0, .ref a0), (1, .long j1), (3, .long j3)] [.long t0] S rc rs := by
  unfold zf_X15_push_J46 at h
  refine zw_lstore hX dX15_push_46 (by decide) ?_
  refine zw_lload hX dX15_push_48 rfl ?_
  refine zw_lconst (v := (0 : Int64)) hX dX15_push_50 (by decide) ?_
  refine zw_lcmp hX dX15_push_51 ?_
  refine zw_if_eq (tgt := 171) hX dX15_push_52 (by decide) (fun c52 => ?_) (fun c52 => ?_)
  · rw [if_pos c52] at h
    refine zw_sub (lv' := [(0, .ref a0)]) (List.forall_mem_cons.mpr ⟨rfl, zs_nil⟩) ?_
    exact zt_X15_push_J171 hX hr hR hd h
  · rw [if_neg c52] at h
    refine zw_aload_n hX dX15_push_55 rfl ?_
    obtain ⟨b5, g, h⟩ := zb_some h
    refine zw_getr hX zl_X15_78 dX15_push_56 g ?_
    refine zw_aload_n hX dX15_push_59 rfl ?_
    obtain ⟨v6, g, h⟩ := zb_some h
    refine zw_geti hX zl_X15_207 dX15_push_60 g ?_
    refine zw_lload_n hX dX15_push_63 rfl ?_
    refine zw_lload hX dX15_push_64 rfl ?_
    by_cases c0 : t0 = 0
    · rw [if_pos c0] at h
      cases h
    rw [if_neg c0] at h
    refine zw_ldiv hX dX15_push_66 c0 ?_
    obtain ⟨S7, g, h⟩ := zb_some h
    refine zw_sl hX dX15_push_67 g ?_
    refine zw_aload_n hX dX15_push_68 rfl ?_
    obtain ⟨b8, g, h⟩ := zb_some h
    refine zw_getr hX zl_X15_81 dX15_push_69 g ?_
    refine zw_aload_n hX dX15_push_72 rfl ?_
    obtain ⟨v9, g, h⟩ := zb_some h
    refine zw_geti hX zl_X15_207 dX15_push_73 g ?_
    refine zw_lload_n hX dX15_push_76 rfl ?_
    refine zw_lload hX dX15_push_77 rfl ?_
    by_cases c0 : t0 = 0
    · rw [if_pos c0] at h
      cases h
    rw [if_neg c0] at h
    refine zw_ldiv hX dX15_push_79 c0 ?_
    obtain ⟨S10, g, h⟩ := zb_some h
    refine zw_sl hX dX15_push_80 g ?_
    refine zw_aload_n hX dX15_push_81 rfl ?_
    obtain ⟨b11, g, h⟩ := zb_some h
    refine zw_getr hX zl_X15_81 dX15_push_82 g ?_
    refine zw_aload_n hX dX15_push_85 rfl ?_
    obtain ⟨v12, g, h⟩ := zb_some h
    refine zw_geti hX zl_X15_207 dX15_push_86 g ?_
    obtain ⟨w13, g, h⟩ := zb_some h
    refine zw_xl hX dX15_push_89 g ?_
    refine zw_lconst (v := (0 : Int64)) hX dX15_push_90 (by decide) ?_
    refine zw_lcmp hX dX15_push_91 ?_
    refine zw_if_ge (tgt := 171) hX dX15_push_92 (by decide) (fun c92 => ?_) (fun c92 => ?_)
    · rw [if_pos c92] at h
      refine zw_sub (lv' := [(0, .ref a0)]) (List.forall_mem_cons.mpr ⟨rfl, zs_nil⟩) ?_
      exact zt_X15_push_J171 hX hr hR hd h
    · rw [if_neg c92] at h
      refine zw_aload_n hX dX15_push_95 rfl ?_
      obtain ⟨b14, g, h⟩ := zb_some h
      refine zw_getr hX zl_X15_78 dX15_push_96 g ?_
      refine zw_aload_n hX dX15_push_99 rfl ?_
      obtain ⟨v15, g, h⟩ := zb_some h
      refine zw_geti hX zl_X15_207 dX15_push_100 g ?_
      obtain ⟨w16, g, h⟩ := zb_some h
      refine zw_xl hX dX15_push_103 g ?_
      refine zw_ldc2 (v := (-9223372036854775808 : Int64)) hX dX15_push_104 zl_X15_210 ?_
      refine zw_lcmp hX dX15_push_107 ?_
      refine zw_if_eq (tgt := 127) hX dX15_push_108 (by decide) (fun c108 => ?_) (fun c108 => ?_)
      · rw [if_pos c108] at h
        refine zw_sub (lv' := [(0, .ref a0)]) (List.forall_mem_cons.mpr ⟨rfl, zs_nil⟩) ?_
        exact zt_X15_push_J127 hX hr hR hd h
      · rw [if_neg c108] at h
        refine zw_aload_n hX dX15_push_111 rfl ?_
        obtain ⟨b31, g, h⟩ := zb_some h
        refine zw_getr hX zl_X15_81 dX15_push_112 g ?_
        refine zw_aload_n hX dX15_push_115 rfl ?_
        obtain ⟨v32, g, h⟩ := zb_some h
        refine zw_geti hX zl_X15_207 dX15_push_116 g ?_
        obtain ⟨w33, g, h⟩ := zb_some h
        refine zw_xl hX dX15_push_119 g ?_
        refine zw_ldc2 (v := (-9223372036854775808 : Int64)) hX dX15_push_120 zl_X15_210 ?_
        refine zw_lcmp hX dX15_push_123 ?_
        refine zw_if_ne (tgt := 133) hX dX15_push_124 (by decide) (fun c124 => ?_) (fun c124 => ?_)
        · rw [if_neg c124] at h
          refine zw_sub (lv' := [(0, .ref a0)]) (List.forall_mem_cons.mpr ⟨rfl, zs_nil⟩) ?_
          exact zt_X15_push_J133 hX hr hR hd h
        · rw [if_pos c124] at h
          refine zw_sub (lv' := [(0, .ref a0)]) (List.forall_mem_cons.mpr ⟨rfl, zs_nil⟩) ?_
          exact zt_X15_push_J127 hX hr hR hd h
set_option maxHeartbeats 4000000 in
set_option maxRecDepth 100000 in
theorem zt_X15_push {l : Launch} {V : zm_V} {N : Nat} {S : zm_S} {out : (Unit × zm_S)} {d : Nat} {a0 : Nat} {j1 : Int64} {j3 : Int64} (hd : 2 ≤ d) (h : zf_X15_push N a0 j1 j3 S = some out) : zm_Met l zk_E V yX15_push (.code yX15_push cX15_push 11 none) d [.ref a0, .long j1, .long j3] S 0 0 (zo_v out) zo_x := by
  refine zm_of (by decide +kernel) (Nat.le_of_ble_eq_true rfl) ?_
  intro p e R s m args below meth c hRR hX hr hxt
  have hR : R.frames = d ∧ R.locals = 64 * d := by rw [hRR]; exact ⟨rfl, rfl⟩
  have hX : zm_X p R s m args meth c RX15 "push" cX15_push 11 zk_E V 0 0 := hX
  unfold zf_X15_push at h
  refine zw_sub (lv' := [(0, .ref a0), (1, .long j1), (3, .long j3)]) (List.forall_mem_cons.mpr ⟨rfl, (List.forall_mem_cons.mpr ⟨rfl, (List.forall_mem_cons.mpr ⟨rfl, zs_nil⟩)⟩)⟩) ?_
  refine zw_lload_n hX dX15_push_0 rfl ?_
  refine zw_lstore hX dX15_push_1 (by decide) ?_
  refine zw_lload_n hX dX15_push_3 rfl ?_
  refine zw_lstore hX dX15_push_4 (by decide) ?_
  obtain ⟨r, g, h⟩ := zb_some h
  refine zw_sub (lv' := [(0, .ref a0), (1, .long j1), (3, .long j3), (5, .long j1), (7, .long j3)]) (List.forall_mem_cons.mpr ⟨rfl, (List.forall_mem_cons.mpr ⟨rfl, (List.forall_mem_cons.mpr ⟨rfl, (List.forall_mem_cons.mpr ⟨rfl, (List.forall_mem_cons.mpr ⟨rfl, zs_nil⟩)⟩)⟩)⟩)⟩) ?_
  refine zt_X15_push_L6 hX hr hR hd (res := r) (out := out) a0 j1 j3 ?_ ?_ N _ _ _ g
  · intro o ho
    subst ho
    exact Option.some.inj h
  · intro w2 S1 hx
    subst hx
    try dsimp only at h
    refine zw_lload hX dX15_push_31 rfl ?_
    refine zw_lconst (v := (0 : Int64)) hX dX15_push_33 (by decide) ?_
    refine zw_lcmp hX dX15_push_34 ?_
    refine zw_if_ge (tgt := 44) hX dX15_push_35 (by decide) (fun c35 => ?_) (fun c35 => ?_)
    · rw [if_pos c35] at h
      refine zw_lload hX dX15_push_44 rfl ?_
      refine zw_sub (lv' := [(0, .ref a0), (1, .long j1), (3, .long j3)]) (List.forall_mem_cons.mpr ⟨rfl, (List.forall_mem_cons.mpr ⟨rfl, (List.forall_mem_cons.mpr ⟨rfl, zs_nil⟩)⟩)⟩) ?_
      exact zt_X15_push_J46 hX hr hR hd h
    · rw [if_neg c35] at h
      refine zw_lload hX dX15_push_38 rfl ?_
      refine zw_lneg hX dX15_push_40 ?_
      refine zw_goto (tgt := 46) hX dX15_push_41 (by decide) ?_
      refine zw_sub (lv' := [(0, .ref a0), (1, .long j1), (3, .long j3)]) (List.forall_mem_cons.mpr ⟨rfl, (List.forall_mem_cons.mpr ⟨rfl, (List.forall_mem_cons.mpr ⟨rfl, zs_nil⟩)⟩)⟩) ?_
      exact zt_X15_push_J46 hX hr hR hd h
set_option maxHeartbeats 4000000 in
set_option maxRecDepth 100000 in
theorem zt_X15_operate_J158 {p : Program} {l : Launch} {e : Env} {R : Room} {s : State} {m : MethodId} {args : Array Value} {below : List Frame} {meth : Method} {c : Code} {V : zm_V} {mc ms d rc rs : Nat} (hX : zm_X p R s m args meth c RX15 "operate" cX15_operate 10 zk_E V mc ms) (hr : meth.sig.returnType = none) (hR : R.frames = d ∧ R.locals = 64 * d) (hd : 3 ≤ d) {N : Nat} {a0 : Nat} {j4 : Int64} {j8 : Int64} {t0 : Nat} {t1 : Nat} {t2 : Int64} {t3 : Int64} {t4 : Int32} {out : (Unit × zm_S)} {S : zm_S} (h : zf_X15_operate_J158 N a0 j4 j8 t0 t1 t2 t3 t4 S = some out) : zw p l e R s m args below meth c (vx_MQ below (zm_Qc zk_E V (zo_v out)) (zm_XC zk_E V zo_x) args s mc ms (fun q => V.2.2.2.1 ≤ q)) 10 zk_E V mc ms 158 [(0, .ref a0), (4, .long j4), (8, .long j8)] [.int t4, .long t3, .long t2, .ref t1, .ref t0] S rc rs := by
  unfold zf_X15_operate_J158 at h
  obtain ⟨_, gi, h⟩ := zb_some h
  obtain ⟨r20, g, h⟩ := zb_some h
  refine zc_Vl (as := [.long t2, .long t3, .int t4]) hX gi (zt_X15_plus (d := d - 1) (by omega) g) zl_X15_220 rfl dX15_operate_158 ⟨rfl, rfl, Nat.le_of_ble_eq_true rfl⟩ ⟨by omega, by omega⟩ ?_
  refine zw_aload_n hX dX15_operate_161 rfl ?_
  refine zw_lload hX dX15_operate_162 rfl ?_
  refine zw_lload hX dX15_operate_164 rfl ?_
  obtain ⟨_, gi, h⟩ := zb_some h
  obtain ⟨r22, g, h⟩ := zb_some h
  refine zc_Vl (as := [.long j4, .long j8]) hX gi (zt_X15_times (d := d - 1) (by omega) g) zl_X15_216 rfl dX15_operate_166 ⟨rfl, rfl, Nat.le_of_ble_eq_true rfl⟩ ⟨by omega, by omega⟩ ?_
  obtain ⟨_, gi, h⟩ := zb_some h
  obtain ⟨r24, g, h⟩ := zb_some h
  refine zc_Vv (as := [.long r20.1, .long r22.1]) hX gi (zt_X15_push (d := d - 1) (by omega) g) zl_X15_212 rfl dX15_operate_169 ⟨rfl, rfl, Nat.le_of_ble_eq_true rfl⟩ ⟨by omega, by omega⟩ ?_
  obtain rfl := Option.some.inj h
  exact zw_vret hX hr dX15_operate_172 ⟨rfl, rfl⟩
set_option maxHeartbeats 4000000 in
set_option maxRecDepth 100000 in
theorem zt_X15_operate_J122 {p : Program} {l : Launch} {e : Env} {R : Room} {s : State} {m : MethodId} {args : Array Value} {below : List Frame} {meth : Method} {c : Code} {V : zm_V} {mc ms d rc rs : Nat} (hX : zm_X p R s m args meth c RX15 "operate" cX15_operate 10 zk_E V mc ms) (hr : meth.sig.returnType = none) (hR : R.frames = d ∧ R.locals = 64 * d) (hd : 3 ≤ d) {N : Nat} {t0 : Nat} {t1 : Int64} {t2 : Nat} {t3 : Int64} {t4 : Int64} {out : (Unit × zm_S)} {S : zm_S} (h : zf_X15_operate_J122 N t0 t1 t2 t3 t4 S = some out) : zw p l e R s m args below meth c (vx_MQ below (zm_Qc zk_E V (zo_v out)) (zm_XC zk_E V zo_x) args s mc ms (fun q => V.2.2.2.1 ≤ q)) 10 zk_E V mc ms 122 [] [.long t4, .long t3, .ref t2, .long t1, .ref t0] S rc rs := by
  unfold zf_X15_operate_J122 at h
  obtain ⟨_, gi, h⟩ := zb_some h
  obtain ⟨r28, g, h⟩ := zb_some h
  refine zc_Vl (as := [.long t3, .long t4]) hX gi (zt_X15_times (d := d - 1) (by omega) g) zl_X15_216 rfl dX15_operate_122 ⟨rfl, rfl, Nat.le_of_ble_eq_true rfl⟩ ⟨by omega, by omega⟩ ?_
  obtain ⟨_, gi, h⟩ := zb_some h
  obtain ⟨r30, g, h⟩ := zb_some h
  refine zc_Vv (as := [.long t1, .long r28.1]) hX gi (zt_X15_push (d := d - 1) (by omega) g) zl_X15_212 rfl dX15_operate_125 ⟨rfl, rfl, Nat.le_of_ble_eq_true rfl⟩ ⟨by omega, by omega⟩ ?_
  refine zw_goto (tgt := 172) hX dX15_operate_128 (by decide) ?_
  obtain rfl := Option.some.inj h
  exact zw_vret hX hr dX15_operate_172 ⟨rfl, rfl⟩
set_option maxHeartbeats 4000000 in
set_option maxRecDepth 100000 in
theorem zt_X15_operate_J104 {p : Program} {l : Launch} {e : Env} {R : Room} {s : State} {m : MethodId} {args : Array Value} {below : List Frame} {meth : Method} {c : Code} {V : zm_V} {mc ms d rc rs : Nat} (hX : zm_X p R s m args meth c RX15 "operate" cX15_operate 10 zk_E V mc ms) (hr : meth.sig.returnType = none) (hR : R.frames = d ∧ R.locals = 64 * d) (hd : 3 ≤ d) {N : Nat} {a0 : Nat} {i1 : Int32} {j4 : Int64} {j6 : Int64} {j8 : Int64} {t0 : Nat} {t1 : Nat} {t2 : Int64} {t3 : Int64} {out : (Unit × zm_S)} {S : zm_S} (h : zf_X15_operate_J104 N a0 i1 j4 j6 j8 t0 t1 t2 t3 S = some out) : zw p l e R s m args below meth c (vx_MQ below (zm_Qc zk_E V (zo_v out)) (zm_XC zk_E V zo_x) args s mc ms (fun q => V.2.2.2.1 ≤ q)) 10 zk_E V mc ms 104 [(0, .ref a0), (1, .int i1), (4, .long j4), (6, .long j6), (8, .long j8)] [.long t3, .long t2, .ref t1, .ref t0] S rc rs := by
  unfold zf_X15_operate_J104 at h
  obtain ⟨_, gi, h⟩ := zb_some h
  obtain ⟨r26, g, h⟩ := zb_some h
  refine zc_Vl (as := [.long t2, .long t3]) hX gi (zt_X15_times (d := d - 1) (by omega) g) zl_X15_216 rfl dX15_operate_104 ⟨rfl, rfl, Nat.le_of_ble_eq_true rfl⟩ ⟨by omega, by omega⟩ ?_
  refine zw_aload_n hX dX15_operate_107 rfl ?_
  refine zw_lload hX dX15_operate_108 rfl ?_
  refine zw_iload_n hX dX15_operate_110 rfl ?_
  refine zw_iconst (v := (4 : Int32)) hX dX15_operate_111 (by decide) ?_
  refine zw_icmp_ne (tgt := 120) hX dX15_operate_112 (by decide) (fun c112 => ?_) (fun c112 => ?_)
  · rw [if_neg c112] at h
    refine zw_lload hX dX15_operate_120 rfl ?_
    refine zw_sub (lv' := []) zs_nil ?_
    exact zt_X15_operate_J122 hX hr hR hd h
  · rw [if_pos c112] at h
    refine zw_lload hX dX15_operate_115 rfl ?_
    refine zw_goto (tgt := 122) hX dX15_operate_117 (by decide) ?_
    refine zw_sub (lv' := []) zs_nil ?_
    exact zt_X15_operate_J122 hX hr hR hd h
set_option maxHeartbeats 4000000 in
set_option maxRecDepth 100000 in
theorem zt_X15_operate_J84 {p : Program} {l : Launch} {e : Env} {R : Room} {s : State} {m : MethodId} {args : Array Value} {below : List Frame} {meth : Method} {c : Code} {V : zm_V} {mc ms d rc rs : Nat} (hX : zm_X p R s m args meth c RX15 "operate" cX15_operate 10 zk_E V mc ms) (hr : meth.sig.returnType = none) (hR : R.frames = d ∧ R.locals = 64 * d) (hd : 3 ≤ d) {N : Nat} {a0 : Nat} {i1 : Int32} {j2 : Int64} {j4 : Int64} {j6 : Int64} {j8 : Int64} {out : (Unit × zm_S)} {S : zm_S} (h : zf_X15_operate_J84 N a0 i1 j2 j4 j6 j8 S = some out) : zw p l e R s m args below meth c (vx_MQ below (zm_Qc zk_E V (zo_v out)) (zm_XC zk_E V zo_x) args s mc ms (fun q => V.2.2.2.1 ≤ q)) 10 zk_E V mc ms 84 [(0, .ref a0), (1, .int i1), (2, .long j2), (4, .long j4), (6, .long j6), (8, .long j8)] [] S rc rs := by
  unfold zf_X15_operate_J84 at h
  refine zw_iload_n hX dX15_operate_84 rfl ?_
  refine zw_iconst (v := (3 : Int32)) hX dX15_operate_85 (by decide) ?_
  refine zw_icmp_le (tgt := 131) hX dX15_operate_86 (by decide) (fun c86 => ?_) (fun c86 => ?_)
  · rw [if_pos c86] at h
    refine zw_aload_n hX dX15_operate_131 rfl ?_
    refine zw_aload_n hX dX15_operate_132 rfl ?_
    refine zw_aload_n hX dX15_operate_133 rfl ?_
    refine zw_lload_n hX dX15_operate_134 rfl ?_
    refine zw_lload hX dX15_operate_135 rfl ?_
    obtain ⟨_, gi, h⟩ := zb_some h
    obtain ⟨r16, g, h⟩ := zb_some h
    refine zc_Vl (as := [.long j2, .long j8]) hX gi (zt_X15_times (d := d - 1) (by omega) g) zl_X15_216 rfl dX15_operate_137 ⟨rfl, rfl, Nat.le_of_ble_eq_true rfl⟩ ⟨by omega, by omega⟩ ?_
    refine zw_aload_n hX dX15_operate_140 rfl ?_
    refine zw_lload hX dX15_operate_141 rfl ?_
    refine zw_lload hX dX15_operate_143 rfl ?_
    obtain ⟨_, gi, h⟩ := zb_some h
    obtain ⟨r18, g, h⟩ := zb_some h
    refine zc_Vl (as := [.long j6, .long j4]) hX gi (zt_X15_times (d := d - 1) (by omega) g) zl_X15_216 rfl dX15_operate_145 ⟨rfl, rfl, Nat.le_of_ble_eq_true rfl⟩ ⟨by omega, by omega⟩ ?_
    refine zw_iload_n hX dX15_operate_148 rfl ?_
    refine zw_iconst (v := (3 : Int32)) hX dX15_operate_149 (by decide) ?_
    refine zw_icmp_ne (tgt := 157) hX dX15_operate_150 (by decide) (fun c150 => ?_) (fun c150 => ?_)
    · rw [if_neg c150] at h
      refine zw_iconst (v := (0 : Int32)) hX dX15_operate_157 (by decide) ?_
      refine zw_sub (lv' := [(0, .ref a0), (4, .long j4), (8, .long j8)]) (List.forall_mem_cons.mpr ⟨rfl, (List.forall_mem_cons.mpr ⟨rfl, (List.forall_mem_cons.mpr ⟨rfl, zs_nil⟩)⟩)⟩) ?_
      exact zt_X15_operate_J158 hX hr hR hd h
    · rw [if_pos c150] at h
      refine zw_iconst (v := (1 : Int32)) hX dX15_operate_153 (by decide) ?_
      refine zw_goto (tgt := 158) hX dX15_operate_154 (by decide) ?_
      refine zw_sub (lv' := [(0, .ref a0), (4, .long j4), (8, .long j8)]) (List.forall_mem_cons.mpr ⟨rfl, (List.forall_mem_cons.mpr ⟨rfl, (List.forall_mem_cons.mpr ⟨rfl, zs_nil⟩)⟩)⟩) ?_
      exact zt_X15_operate_J158 hX hr hR hd h
  · rw [if_neg c86] at h
    refine zw_aload_n hX dX15_operate_89 rfl ?_
    refine zw_aload_n hX dX15_operate_90 rfl ?_
    refine zw_lload_n hX dX15_operate_91 rfl ?_
    refine zw_iload_n hX dX15_operate_92 rfl ?_
    refine zw_iconst (v := (4 : Int32)) hX dX15_operate_93 (by decide) ?_
    refine zw_icmp_ne (tgt := 102) hX dX15_operate_94 (by decide) (fun c94 => ?_) (fun c94 => ?_)
    · rw [if_neg c94] at h
      refine zw_lload hX dX15_operate_102 rfl ?_
      refine zw_sub (lv' := [(0, .ref a0), (1, .int i1), (4, .long j4), (6, .long j6), (8, .long j8)]) (List.forall_mem_cons.mpr ⟨rfl, (List.forall_mem_cons.mpr ⟨rfl, (List.forall_mem_cons.mpr ⟨rfl, (List.forall_mem_cons.mpr ⟨rfl, (List.forall_mem_cons.mpr ⟨rfl, zs_nil⟩)⟩)⟩)⟩)⟩) ?_
      exact zt_X15_operate_J104 hX hr hR hd h
    · rw [if_pos c94] at h
      refine zw_lload hX dX15_operate_97 rfl ?_
      refine zw_goto (tgt := 104) hX dX15_operate_99 (by decide) ?_
      refine zw_sub (lv' := [(0, .ref a0), (1, .int i1), (4, .long j4), (6, .long j6), (8, .long j8)]) (List.forall_mem_cons.mpr ⟨rfl, (List.forall_mem_cons.mpr ⟨rfl, (List.forall_mem_cons.mpr ⟨rfl, (List.forall_mem_cons.mpr ⟨rfl, (List.forall_mem_cons.mpr ⟨rfl, zs_nil⟩)⟩)⟩)⟩)⟩) ?_
      exact zt_X15_operate_J104 hX hr hR hd h
set_option maxHeartbeats 4000000 in
set_option maxRecDepth 100000 in
theorem zt_X15_operate {l : Launch} {V : zm_V} {N : Nat} {S : zm_S} {out : (Unit × zm_S)} {d : Nat} {a0 : Nat} {i1 : Int32} (hd : 3 ≤ d) (h : zf_X15_operate N a0 i1 S = some out) : zm_Met l zk_E V yX15_operate (.code yX15_operate cX15_operate 10 none) d [.ref a0, .int i1] S 0 0 (zo_v out) zo_x := by
  refine zm_of (by decide +kernel) (Nat.le_of_ble_eq_true rfl) ?_
  intro p e R s m args below meth c hRR hX hr hxt
  have hR : R.frames = d ∧ R.locals = 64 * d := by rw [hRR]; exact ⟨rfl, rfl⟩
  have hX : zm_X p R s m args meth c RX15 "operate" cX15_operate 10 zk_E V 0 0 := hX
  unfold zf_X15_operate at h
  refine zw_sub (lv' := [(0, .ref a0), (1, .int i1)]) (List.forall_mem_cons.mpr ⟨rfl, (List.forall_mem_cons.mpr ⟨rfl, zs_nil⟩)⟩) ?_
  refine zw_aload_n hX dX15_operate_0 rfl ?_
  refine zw_dup hX dX15_operate_1 rfl ?_
  obtain ⟨v1, g, h⟩ := zb_some h
  refine zw_geti hX zl_X15_207 dX15_operate_2 g ?_
  refine zw_iconst (v := (2 : Int32)) hX dX15_operate_5 (by decide) ?_
  refine zw_isub hX dX15_operate_6 ?_
  obtain ⟨S2, g, h⟩ := zb_some h
  refine zw_putv hX zl_X15_207 zt_15_39 dX15_operate_7 rfl rfl g ?_
  refine zw_aload_n hX dX15_operate_10 rfl ?_
  obtain ⟨b3, g, h⟩ := zb_some h
  refine zw_getr hX zl_X15_78 dX15_operate_11 g ?_
  refine zw_aload_n hX dX15_operate_14 rfl ?_
  obtain ⟨v4, g, h⟩ := zb_some h
  refine zw_geti hX zl_X15_207 dX15_operate_15 g ?_
  obtain ⟨w5, g, h⟩ := zb_some h
  refine zw_xl hX dX15_operate_18 g ?_
  refine zw_lstore_n hX dX15_operate_19 (by decide) ?_
  refine zw_aload_n hX dX15_operate_20 rfl ?_
  obtain ⟨b6, g, h⟩ := zb_some h
  refine zw_getr hX zl_X15_81 dX15_operate_21 g ?_
  refine zw_aload_n hX dX15_operate_24 rfl ?_
  obtain ⟨v7, g, h⟩ := zb_some h
  refine zw_geti hX zl_X15_207 dX15_operate_25 g ?_
  obtain ⟨w8, g, h⟩ := zb_some h
  refine zw_xl hX dX15_operate_28 g ?_
  refine zw_lstore hX dX15_operate_29 (by decide) ?_
  refine zw_aload_n hX dX15_operate_31 rfl ?_
  obtain ⟨b9, g, h⟩ := zb_some h
  refine zw_getr hX zl_X15_78 dX15_operate_32 g ?_
  refine zw_aload_n hX dX15_operate_35 rfl ?_
  obtain ⟨v10, g, h⟩ := zb_some h
  refine zw_geti hX zl_X15_207 dX15_operate_36 g ?_
  refine zw_iconst (v := (1 : Int32)) hX dX15_operate_39 (by decide) ?_
  refine zw_iadd hX dX15_operate_40 ?_
  obtain ⟨w11, g, h⟩ := zb_some h
  refine zw_xl hX dX15_operate_41 g ?_
  refine zw_lstore hX dX15_operate_42 (by decide) ?_
  refine zw_aload_n hX dX15_operate_44 rfl ?_
  obtain ⟨b12, g, h⟩ := zb_some h
  refine zw_getr hX zl_X15_81 dX15_operate_45 g ?_
  refine zw_aload_n hX dX15_operate_48 rfl ?_
  obtain ⟨v13, g, h⟩ := zb_some h
  refine zw_geti hX zl_X15_207 dX15_operate_49 g ?_
  refine zw_iconst (v := (1 : Int32)) hX dX15_operate_52 (by decide) ?_
  refine zw_iadd hX dX15_operate_53 ?_
  obtain ⟨w14, g, h⟩ := zb_some h
  refine zw_xl hX dX15_operate_54 g ?_
  refine zw_lstore hX dX15_operate_55 (by decide) ?_
  refine zw_iload_n hX dX15_operate_57 rfl ?_
  refine zw_iconst (v := (5 : Int32)) hX dX15_operate_58 (by decide) ?_
  refine zw_icmp_ne (tgt := 84) hX dX15_operate_59 (by decide) (fun c59 => ?_) (fun c59 => ?_)
  · rw [if_neg c59] at h
    refine zw_sub (lv' := [(0, .ref a0), (1, .int i1), (2, .long w5), (4, .long w8), (6, .long w11), (8, .long w14)]) (List.forall_mem_cons.mpr ⟨rfl, (List.forall_mem_cons.mpr ⟨rfl, (List.forall_mem_cons.mpr ⟨rfl, (List.forall_mem_cons.mpr ⟨rfl, (List.forall_mem_cons.mpr ⟨rfl, (List.forall_mem_cons.mpr ⟨rfl, zs_nil⟩)⟩)⟩)⟩)⟩)⟩) ?_
    exact zt_X15_operate_J84 hX hr hR hd h
  · rw [if_pos c59] at h
    refine zw_lload hX dX15_operate_62 rfl ?_
    refine zw_lconst (v := (0 : Int64)) hX dX15_operate_64 (by decide) ?_
    refine zw_lcmp hX dX15_operate_65 ?_
    refine zw_if_ne (tgt := 84) hX dX15_operate_66 (by decide) (fun c66 => ?_) (fun c66 => ?_)
    · rw [if_neg c66] at h
      refine zw_sub (lv' := [(0, .ref a0), (1, .int i1), (2, .long w5), (4, .long w8), (6, .long w11), (8, .long w14)]) (List.forall_mem_cons.mpr ⟨rfl, (List.forall_mem_cons.mpr ⟨rfl, (List.forall_mem_cons.mpr ⟨rfl, (List.forall_mem_cons.mpr ⟨rfl, (List.forall_mem_cons.mpr ⟨rfl, (List.forall_mem_cons.mpr ⟨rfl, zs_nil⟩)⟩)⟩)⟩)⟩)⟩) ?_
      exact zt_X15_operate_J84 hX hr hR hd h
    · rw [if_pos c66] at h
      refine zw_aload_n hX dX15_operate_69 rfl ?_
      refine zw_iconst (v := (3 : Int32)) hX dX15_operate_70 (by decide) ?_
      refine zw_lconst (v := (0 : Int64)) hX dX15_operate_71 (by decide) ?_
      obtain ⟨_, gi, h⟩ := zb_some h
      obtain ⟨r32, g, h⟩ := zb_some h
      refine zc_Vv (as := [.int (3 : Int32), .long (0 : Int64)]) hX gi (zt_X15_opens (d := d - 1) (by omega) g) zl_X15_204 rfl dX15_operate_72 ⟨rfl, rfl, Nat.le_of_ble_eq_true rfl⟩ ⟨by omega, by omega⟩ ?_
      refine zw_aload_n hX dX15_operate_75 rfl ?_
      refine zw_lconst (v := (0 : Int64)) hX dX15_operate_76 (by decide) ?_
      refine zw_lconst (v := (1 : Int64)) hX dX15_operate_77 (by decide) ?_
      obtain ⟨_, gi, h⟩ := zb_some h
      obtain ⟨r34, g, h⟩ := zb_some h
      refine zc_Vv (as := [.long (0 : Int64), .long (1 : Int64)]) hX gi (zt_X15_push (d := d - 1) (by omega) g) zl_X15_212 rfl dX15_operate_78 ⟨rfl, rfl, Nat.le_of_ble_eq_true rfl⟩ ⟨by omega, by omega⟩ ?_
      refine zw_goto (tgt := 172) hX dX15_operate_81 (by decide) ?_
      obtain rfl := Option.some.inj h
      exact zw_vret hX hr dX15_operate_172 ⟨rfl, rfl⟩
set_option maxHeartbeats 4000000 in
set_option maxRecDepth 100000 in
theorem zt_X15_reckon_L7 {p : Program} {l : Launch} {e : Env} {R : Room} {s : State} {m : MethodId} {args : Array Value} {below : List Frame} {meth : Method} {c : Code} {V : zm_V} {mc ms d rc rs : Nat} (hX : zm_X p R s m args meth c RX15 "reckon" cX15_reckon 5 zk_E V mc ms) (hr : meth.sig.returnType = none) (hR : R.frames = d ∧ R.locals = 64 * d) (hd : 4 ≤ d) {N : Nat} {res : (Unit × zm_S) ⊕ ((Unit) × zm_S)} {out : (Unit × zm_S)} (a0 : Nat) (i2 : Int32) (hf : ∀ o, res = .inl o → o = out) (hk : ∀ (S' : zm_S), res = .inr ((), S') → zw p l e R s m args below meth c (vx_MQ below (zm_Qc zk_E V (zo_v out)) (zm_XC zk_E V zo_x) args s mc ms (fun q => V.2.2.2.1 ≤ q)) 5 zk_E V mc ms 115 [] [] S' rc rs) : ∀ (n : Nat) (i3 : Int32) (S : zm_S), zf_X15_reckon_L7 N n a0 i2 i3 S = some res → zw p l e R s m args below meth c (vx_MQ below (zm_Qc zk_E V (zo_v out)) (zm_XC zk_E V zo_x) args s mc ms (fun q => V.2.2.2.1 ≤ q)) 5 zk_E V mc ms 7 [(0, .ref a0), (2, .int i2), (3, .int i3)] [] S rc rs := by
  intro n
  induction n with
  | zero => intro i3 S h; cases h
  | succ n ih =>
    intro i3 S h
    rw [zf_X15_reckon_L7] at h
    refine zw_iload_n hX dX15_reckon_7 rfl ?_
    refine zw_iload_n hX dX15_reckon_8 rfl ?_
    refine zw_icmp_ge (tgt := 115) hX dX15_reckon_9 (by decide) (fun c9 => ?_) (fun c9 => ?_)
    · rw [if_pos c9] at h
      refine zw_sub (lv' := []) zs_nil ?_
      exact hk  _ (Option.some.inj h).symm
    · rw [if_neg c9] at h
      refine zw_aload_n hX dX15_reckon_12 rfl ?_
      obtain ⟨v2, g, h⟩ := zb_some h
      refine zw_geti hX zl_X15_198 dX15_reckon_13 g ?_
      refine zw_if_ne (tgt := 115) hX dX15_reckon_16 (by decide) (fun c16 => ?_) (fun c16 => ?_)
      · rw [if_neg c16] at h
        refine zw_sub (lv' := []) zs_nil ?_
        exact hk  _ (Option.some.inj h).symm
      · rw [if_pos c16] at h
        refine zw_aload_n hX dX15_reckon_19 rfl ?_
        obtain ⟨b3, g, h⟩ := zb_some h
        refine zw_getr hX zl_X15_44 dX15_reckon_20 g ?_
        refine zw_iload_n hX dX15_reckon_23 rfl ?_
        obtain ⟨v4, g, h⟩ := zb_some h
        refine zw_xi hX dX15_reckon_24 g ?_
        refine zw_if_ne (tgt := 42) hX dX15_reckon_25 (by decide) (fun c25 => ?_) (fun c25 => ?_)
        · rw [if_neg c25] at h
          refine zw_aload_n hX dX15_reckon_42 rfl ?_
          obtain ⟨b5, g, h⟩ := zb_some h
          refine zw_getr hX zl_X15_44 dX15_reckon_43 g ?_
          refine zw_iload_n hX dX15_reckon_46 rfl ?_
          obtain ⟨v6, g, h⟩ := zb_some h
          refine zw_xi hX dX15_reckon_47 g ?_
          refine zw_iconst (v := (1 : Int32)) hX dX15_reckon_48 (by decide) ?_
          refine zw_icmp_ne (tgt := 99) hX dX15_reckon_49 (by decide) (fun c49 => ?_) (fun c49 => ?_)
          · rw [if_neg c49] at h
            refine zw_aload_n hX dX15_reckon_99 rfl ?_
            refine zw_aload_n hX dX15_reckon_100 rfl ?_
            obtain ⟨b7, g, h⟩ := zb_some h
            refine zw_getr hX zl_X15_44 dX15_reckon_101 g ?_
            refine zw_iload_n hX dX15_reckon_104 rfl ?_
            obtain ⟨v8, g, h⟩ := zb_some h
            refine zw_xi hX dX15_reckon_105 g ?_
            obtain ⟨_, gi, h⟩ := zb_some h
            obtain ⟨r10, g, h⟩ := zb_some h
            refine zc_Vv (as := [.int v8]) hX gi (zt_X15_operate (d := d - 1) (by omega) g) zl_X15_224 rfl dX15_reckon_106 ⟨rfl, rfl, Nat.le_of_ble_eq_true rfl⟩ ⟨by omega, by omega⟩ ?_
            refine zw_iinc (v := (i3 + (1 : Int32))) hX dX15_reckon_109 rfl rfl (by decide) ?_
            refine zw_goto (tgt := 7) hX dX15_reckon_112 (by decide) ?_
            refine zw_sub (lv' := [(0, .ref a0), (2, .int i2), (3, .int (i3 + (1 : Int32)))]) (List.forall_mem_cons.mpr ⟨rfl, (List.forall_mem_cons.mpr ⟨rfl, (List.forall_mem_cons.mpr ⟨rfl, zs_nil⟩)⟩)⟩) ?_
            exact ih _ _ h
          · rw [if_pos c49] at h
            refine zw_aload_n hX dX15_reckon_52 rfl ?_
            refine zw_aload_n hX dX15_reckon_53 rfl ?_
            obtain ⟨b11, g, h⟩ := zb_some h
            refine zw_getr hX zl_X15_47 dX15_reckon_54 g ?_
            refine zw_iload_n hX dX15_reckon_57 rfl ?_
            obtain ⟨w12, g, h⟩ := zb_some h
            refine zw_xl hX dX15_reckon_58 g ?_
            obtain ⟨_, gi, h⟩ := zb_some h
            obtain ⟨r14, g, h⟩ := zb_some h
            refine zc_Vi (as := [.long w12]) hX gi (zt_X15_factOf (d := d - 1) (by omega) g) zl_X15_192 rfl dX15_reckon_59 ⟨rfl, rfl, Nat.le_of_ble_eq_true rfl⟩ ⟨by omega, by omega⟩ ?_
            refine zw_istore hX dX15_reckon_62 (by decide) ?_
            refine zw_iload hX dX15_reckon_64 rfl ?_
            refine zw_if_ge (tgt := 83) hX dX15_reckon_66 (by decide) (fun c66 => ?_) (fun c66 => ?_)
            · rw [if_pos c66] at h
              refine zw_aload_n hX dX15_reckon_83 rfl ?_
              refine zw_aload_n hX dX15_reckon_84 rfl ?_
              obtain ⟨b15, g, h⟩ := zb_some h
              refine zw_getr hX zl_X15_17 dX15_reckon_85 g ?_
              refine zw_iload hX dX15_reckon_88 rfl ?_
              obtain ⟨v16, g, h⟩ := zb_some h
              refine zw_xi hX dX15_reckon_90 g ?_
              refine zw_i2l hX dX15_reckon_91 ?_
              refine zw_lconst (v := (1 : Int64)) hX dX15_reckon_92 (by decide) ?_
              obtain ⟨_, gi, h⟩ := zb_some h
              obtain ⟨r18, g, h⟩ := zb_some h
              refine zc_Vv (as := [.long (v16).toInt64, .long (1 : Int64)]) hX gi (zt_X15_push (d := d - 1) (by omega) g) zl_X15_212 rfl dX15_reckon_93 ⟨rfl, rfl, Nat.le_of_ble_eq_true rfl⟩ ⟨by omega, by omega⟩ ?_
              refine zw_goto (tgt := 109) hX dX15_reckon_96 (by decide) ?_
              refine zw_iinc (v := (i3 + (1 : Int32))) hX dX15_reckon_109 rfl rfl (by decide) ?_
              refine zw_goto (tgt := 7) hX dX15_reckon_112 (by decide) ?_
              refine zw_sub (lv' := [(0, .ref a0), (2, .int i2), (3, .int (i3 + (1 : Int32)))]) (List.forall_mem_cons.mpr ⟨rfl, (List.forall_mem_cons.mpr ⟨rfl, (List.forall_mem_cons.mpr ⟨rfl, zs_nil⟩)⟩)⟩) ?_
              exact ih _ _ h
            · rw [if_neg c66] at h
              refine zw_aload_n hX dX15_reckon_69 rfl ?_
              refine zw_iconst (v := (1 : Int32)) hX dX15_reckon_70 (by decide) ?_
              refine zw_aload_n hX dX15_reckon_71 rfl ?_
              obtain ⟨b19, g, h⟩ := zb_some h
              refine zw_getr hX zl_X15_47 dX15_reckon_72 g ?_
              refine zw_iload_n hX dX15_reckon_75 rfl ?_
              obtain ⟨w20, g, h⟩ := zb_some h
              refine zw_xl hX dX15_reckon_76 g ?_
              obtain ⟨_, gi, h⟩ := zb_some h
              obtain ⟨r22, g, h⟩ := zb_some h
              refine zc_Vv (as := [.int (1 : Int32), .long w20]) hX gi (zt_X15_opens (d := d - 1) (by omega) g) zl_X15_204 rfl dX15_reckon_77 ⟨rfl, rfl, Nat.le_of_ble_eq_true rfl⟩ ⟨by omega, by omega⟩ ?_
              refine zw_goto (tgt := 96) hX dX15_reckon_80 (by decide) ?_
              refine zw_goto (tgt := 109) hX dX15_reckon_96 (by decide) ?_
              refine zw_iinc (v := (i3 + (1 : Int32))) hX dX15_reckon_109 rfl rfl (by decide) ?_
              refine zw_goto (tgt := 7) hX dX15_reckon_112 (by decide) ?_
              refine zw_sub (lv' := [(0, .ref a0), (2, .int i2), (3, .int (i3 + (1 : Int32)))]) (List.forall_mem_cons.mpr ⟨rfl, (List.forall_mem_cons.mpr ⟨rfl, (List.forall_mem_cons.mpr ⟨rfl, zs_nil⟩)⟩)⟩) ?_
              exact ih _ _ h
        · rw [if_pos c25] at h
          refine zw_aload_n hX dX15_reckon_28 rfl ?_
          refine zw_aload_n hX dX15_reckon_29 rfl ?_
          obtain ⟨b23, g, h⟩ := zb_some h
          refine zw_getr hX zl_X15_47 dX15_reckon_30 g ?_
          refine zw_iload_n hX dX15_reckon_33 rfl ?_
          obtain ⟨w24, g, h⟩ := zb_some h
          refine zw_xl hX dX15_reckon_34 g ?_
          refine zw_lconst (v := (1 : Int64)) hX dX15_reckon_35 (by decide) ?_
          obtain ⟨_, gi, h⟩ := zb_some h
          obtain ⟨r26, g, h⟩ := zb_some h
          refine zc_Vv (as := [.long w24, .long (1 : Int64)]) hX gi (zt_X15_push (d := d - 1) (by omega) g) zl_X15_212 rfl dX15_reckon_36 ⟨rfl, rfl, Nat.le_of_ble_eq_true rfl⟩ ⟨by omega, by omega⟩ ?_
          refine zw_goto (tgt := 109) hX dX15_reckon_39 (by decide) ?_
          refine zw_iinc (v := (i3 + (1 : Int32))) hX dX15_reckon_109 rfl rfl (by decide) ?_
          refine zw_goto (tgt := 7) hX dX15_reckon_112 (by decide) ?_
          refine zw_sub (lv' := [(0, .ref a0), (2, .int i2), (3, .int (i3 + (1 : Int32)))]) (List.forall_mem_cons.mpr ⟨rfl, (List.forall_mem_cons.mpr ⟨rfl, (List.forall_mem_cons.mpr ⟨rfl, zs_nil⟩)⟩)⟩) ?_
          exact ih _ _ h
set_option maxHeartbeats 4000000 in
set_option maxRecDepth 100000 in
theorem zt_X15_reckon {l : Launch} {V : zm_V} {N : Nat} {S : zm_S} {out : (Unit × zm_S)} {d : Nat} {a0 : Nat} {i1 : Int32} {i2 : Int32} (hd : 4 ≤ d) (h : zf_X15_reckon N a0 i1 i2 S = some out) : zm_Met l zk_E V yX15_reckon (.code yX15_reckon cX15_reckon 5 none) d [.ref a0, .int i1, .int i2] S 0 0 (zo_v out) zo_x := by
  refine zm_of (by decide +kernel) (Nat.le_of_ble_eq_true rfl) ?_
  intro p e R s m args below meth c hRR hX hr hxt
  have hR : R.frames = d ∧ R.locals = 64 * d := by rw [hRR]; exact ⟨rfl, rfl⟩
  have hX : zm_X p R s m args meth c RX15 "reckon" cX15_reckon 5 zk_E V 0 0 := hX
  unfold zf_X15_reckon at h
  refine zw_sub (lv' := [(0, .ref a0), (1, .int i1), (2, .int i2)]) (List.forall_mem_cons.mpr ⟨rfl, (List.forall_mem_cons.mpr ⟨rfl, (List.forall_mem_cons.mpr ⟨rfl, zs_nil⟩)⟩)⟩) ?_
  refine zw_aload_n hX dX15_reckon_0 rfl ?_
  refine zw_iconst (v := (0 : Int32)) hX dX15_reckon_1 (by decide) ?_
  obtain ⟨S1, g, h⟩ := zb_some h
  refine zw_putv hX zl_X15_207 zt_15_39 dX15_reckon_2 rfl rfl g ?_
  refine zw_iload_n hX dX15_reckon_5 rfl ?_
  refine zw_istore_n hX dX15_reckon_6 (by decide) ?_
  obtain ⟨r, g, h⟩ := zb_some h
  refine zw_sub (lv' := [(0, .ref a0), (2, .int i2), (3, .int i1)]) (List.forall_mem_cons.mpr ⟨rfl, (List.forall_mem_cons.mpr ⟨rfl, (List.forall_mem_cons.mpr ⟨rfl, zs_nil⟩)⟩)⟩) ?_
  refine zt_X15_reckon_L7 hX hr hR hd (res := r) (out := out) a0 i2 ?_ ?_ N _ _ g
  · intro o ho
    subst ho
    exact Option.some.inj h
  · intro  S27 hx
    subst hx
    try dsimp only at h
    obtain rfl := Option.some.inj h
    exact zw_vret hX hr dX15_reckon_115 ⟨rfl, rfl⟩
set_option maxHeartbeats 4000000 in
set_option maxRecDepth 100000 in
theorem zt_X15_holds_J122 {p : Program} {l : Launch} {e : Env} {R : Room} {s : State} {m : MethodId} {args : Array Value} {below : List Frame} {meth : Method} {c : Code} {V : zm_V} {mc ms d rc rs : Nat} (hX : zm_X p R s m args meth c RX15 "holds" cX15_holds 8 zk_E V mc ms) (hr : meth.sig.returnType = (some .boolean)) (hR : R.frames = d ∧ R.locals = 64 * d) (hd : 5 ≤ d) {N : Nat} {a0 : Nat} {i1 : Int32} {out : (Int32 × zm_S)} {S : zm_S} (h : zf_X15_holds_J122 N a0 i1 S = some out) : zw p l e R s m args below meth c (vx_MQ below (zm_Qc zk_E V (zo_i out)) (zm_XC zk_E V zo_x) args s mc ms (fun q => V.2.2.2.1 ≤ q)) 8 zk_E V mc ms 122 [(0, .ref a0), (1, .int i1)] [] S rc rs := by
  unfold zf_X15_holds_J122 at h
  refine zw_aload_n hX dX15_holds_122 rfl ?_
  refine zw_aload_n hX dX15_holds_123 rfl ?_
  obtain ⟨w21, g, h⟩ := zb_some h
  refine zw_getl hX zl_X15_231 dX15_holds_124 g ?_
  refine zw_aload_n hX dX15_holds_127 rfl ?_
  obtain ⟨b22, g, h⟩ := zb_some h
  refine zw_getr hX zl_X15_81 dX15_holds_128 g ?_
  refine zw_iconst (v := (0 : Int32)) hX dX15_holds_131 (by decide) ?_
  obtain ⟨w23, g, h⟩ := zb_some h
  refine zw_xl hX dX15_holds_132 g ?_
  obtain ⟨_, gi, h⟩ := zb_some h
  obtain ⟨r25, g, h⟩ := zb_some h
  refine zc_Vl (as := [.long w21, .long w23]) hX gi (zt_X15_times (d := d - 1) (by omega) g) zl_X15_216 rfl dX15_holds_133 ⟨rfl, rfl, Nat.le_of_ble_eq_true rfl⟩ ⟨by omega, by omega⟩ ?_
  refine zw_lstore_n hX dX15_holds_136 (by decide) ?_
  refine zw_aload_n hX dX15_holds_137 rfl ?_
  refine zw_aload_n hX dX15_holds_138 rfl ?_
  obtain ⟨b26, g, h⟩ := zb_some h
  refine zw_getr hX zl_X15_78 dX15_holds_139 g ?_
  refine zw_iconst (v := (0 : Int32)) hX dX15_holds_142 (by decide) ?_
  obtain ⟨w27, g, h⟩ := zb_some h
  refine zw_xl hX dX15_holds_143 g ?_
  refine zw_aload_n hX dX15_holds_144 rfl ?_
  obtain ⟨w28, g, h⟩ := zb_some h
  refine zw_getl hX zl_X15_234 dX15_holds_145 g ?_
  obtain ⟨_, gi, h⟩ := zb_some h
  obtain ⟨r30, g, h⟩ := zb_some h
  refine zc_Vl (as := [.long w27, .long w28]) hX gi (zt_X15_times (d := d - 1) (by omega) g) zl_X15_216 rfl dX15_holds_148 ⟨rfl, rfl, Nat.le_of_ble_eq_true rfl⟩ ⟨by omega, by omega⟩ ?_
  refine zw_lstore hX dX15_holds_151 (by decide) ?_
  refine zw_aload_n hX dX15_holds_153 rfl ?_
  obtain ⟨v31, g, h⟩ := zb_some h
  refine zw_geti hX zl_X15_198 dX15_holds_154 g ?_
  refine zw_if_le (tgt := 162) hX dX15_holds_157 (by decide) (fun c157 => ?_) (fun c157 => ?_)
  · rw [if_pos c157] at h
    refine zw_aload_n hX dX15_holds_162 rfl ?_
    obtain ⟨b32, g, h⟩ := zb_some h
    refine zw_getr hX zl_X15_41 dX15_holds_163 g ?_
    refine zw_iload_n hX dX15_holds_166 rfl ?_
    obtain ⟨v33, g, h⟩ := zb_some h
    refine zw_xi hX dX15_holds_167 g ?_
    refine zw_istore hX dX15_holds_168 (by decide) ?_
    refine zw_iload hX dX15_holds_170 rfl ?_
    refine zw_if_ne (tgt := 190) hX dX15_holds_172 (by decide) (fun c172 => ?_) (fun c172 => ?_)
    · rw [if_neg c172] at h
      refine zw_iload hX dX15_holds_190 rfl ?_
      refine zw_iconst (v := (1 : Int32)) hX dX15_holds_192 (by decide) ?_
      refine zw_icmp_ne (tgt := 211) hX dX15_holds_193 (by decide) (fun c193 => ?_) (fun c193 => ?_)
      · rw [if_neg c193] at h
        refine zw_iload hX dX15_holds_211 rfl ?_
        refine zw_iconst (v := (2 : Int32)) hX dX15_holds_213 (by decide) ?_
        refine zw_icmp_ne (tgt := 232) hX dX15_holds_214 (by decide) (fun c214 => ?_) (fun c214 => ?_)
        · rw [if_neg c214] at h
          refine zw_iload hX dX15_holds_232 rfl ?_
          refine zw_iconst (v := (3 : Int32)) hX dX15_holds_234 (by decide) ?_
          refine zw_icmp_ne (tgt := 253) hX dX15_holds_235 (by decide) (fun c235 => ?_) (fun c235 => ?_)
          · rw [if_neg c235] at h
            refine zw_lload_n hX dX15_holds_253 rfl ?_
            refine zw_lload hX dX15_holds_254 rfl ?_
            refine zw_lcmp hX dX15_holds_256 ?_
            refine zw_if_le (tgt := 264) hX dX15_holds_257 (by decide) (fun c257 => ?_) (fun c257 => ?_)
            · rw [if_pos c257] at h
              refine zw_iconst (v := (0 : Int32)) hX dX15_holds_264 (by decide) ?_
              obtain rfl := Option.some.inj h
              exact zw_iret hX hr dX15_holds_265 rfl ⟨rfl, rfl⟩
            · rw [if_neg c257] at h
              refine zw_iconst (v := (1 : Int32)) hX dX15_holds_260 (by decide) ?_
              refine zw_goto (tgt := 265) hX dX15_holds_261 (by decide) ?_
              obtain rfl := Option.some.inj h
              exact zw_iret hX hr dX15_holds_265 rfl ⟨rfl, rfl⟩
          · rw [if_pos c235] at h
            refine zw_lload_n hX dX15_holds_238 rfl ?_
            refine zw_lload hX dX15_holds_239 rfl ?_
            refine zw_lcmp hX dX15_holds_241 ?_
            refine zw_if_lt (tgt := 249) hX dX15_holds_242 (by decide) (fun c242 => ?_) (fun c242 => ?_)
            · rw [if_pos c242] at h
              refine zw_iconst (v := (0 : Int32)) hX dX15_holds_249 (by decide) ?_
              refine zw_goto (tgt := 265) hX dX15_holds_250 (by decide) ?_
              obtain rfl := Option.some.inj h
              exact zw_iret hX hr dX15_holds_265 rfl ⟨rfl, rfl⟩
            · rw [if_neg c242] at h
              refine zw_iconst (v := (1 : Int32)) hX dX15_holds_245 (by decide) ?_
              refine zw_goto (tgt := 265) hX dX15_holds_246 (by decide) ?_
              obtain rfl := Option.some.inj h
              exact zw_iret hX hr dX15_holds_265 rfl ⟨rfl, rfl⟩
        · rw [if_pos c214] at h
          refine zw_lload_n hX dX15_holds_217 rfl ?_
          refine zw_lload hX dX15_holds_218 rfl ?_
          refine zw_lcmp hX dX15_holds_220 ?_
          refine zw_if_ne (tgt := 228) hX dX15_holds_221 (by decide) (fun c221 => ?_) (fun c221 => ?_)
          · rw [if_neg c221] at h
            refine zw_iconst (v := (0 : Int32)) hX dX15_holds_228 (by decide) ?_
            refine zw_goto (tgt := 265) hX dX15_holds_229 (by decide) ?_
            obtain rfl := Option.some.inj h
            exact zw_iret hX hr dX15_holds_265 rfl ⟨rfl, rfl⟩
          · rw [if_pos c221] at h
            refine zw_iconst (v := (1 : Int32)) hX dX15_holds_224 (by decide) ?_
            refine zw_goto (tgt := 265) hX dX15_holds_225 (by decide) ?_
            obtain rfl := Option.some.inj h
            exact zw_iret hX hr dX15_holds_265 rfl ⟨rfl, rfl⟩
      · rw [if_pos c193] at h
        refine zw_lload_n hX dX15_holds_196 rfl ?_
        refine zw_lload hX dX15_holds_197 rfl ?_
        refine zw_lcmp hX dX15_holds_199 ?_
        refine zw_if_gt (tgt := 207) hX dX15_holds_200 (by decide) (fun c200 => ?_) (fun c200 => ?_)
        · rw [if_pos c200] at h
          refine zw_iconst (v := (0 : Int32)) hX dX15_holds_207 (by decide) ?_
          refine zw_goto (tgt := 265) hX dX15_holds_208 (by decide) ?_
          obtain rfl := Option.some.inj h
          exact zw_iret hX hr dX15_holds_265 rfl ⟨rfl, rfl⟩
        · rw [if_neg c200] at h
          refine zw_iconst (v := (1 : Int32)) hX dX15_holds_203 (by decide) ?_
          refine zw_goto (tgt := 265) hX dX15_holds_204 (by decide) ?_
          obtain rfl := Option.some.inj h
          exact zw_iret hX hr dX15_holds_265 rfl ⟨rfl, rfl⟩
    · rw [if_pos c172] at h
      refine zw_lload_n hX dX15_holds_175 rfl ?_
      refine zw_lload hX dX15_holds_176 rfl ?_
      refine zw_lcmp hX dX15_holds_178 ?_
      refine zw_if_ge (tgt := 186) hX dX15_holds_179 (by decide) (fun c179 => ?_) (fun c179 => ?_)
      · rw [if_pos c179] at h
        refine zw_iconst (v := (0 : Int32)) hX dX15_holds_186 (by decide) ?_
        refine zw_goto (tgt := 265) hX dX15_holds_187 (by decide) ?_
        obtain rfl := Option.some.inj h
        exact zw_iret hX hr dX15_holds_265 rfl ⟨rfl, rfl⟩
      · rw [if_neg c179] at h
        refine zw_iconst (v := (1 : Int32)) hX dX15_holds_182 (by decide) ?_
        refine zw_goto (tgt := 265) hX dX15_holds_183 (by decide) ?_
        obtain rfl := Option.some.inj h
        exact zw_iret hX hr dX15_holds_265 rfl ⟨rfl, rfl⟩
  · rw [if_neg c157] at h
    refine zw_iconst (v := (0 : Int32)) hX dX15_holds_160 (by decide) ?_
    obtain rfl := Option.some.inj h
    exact zw_iret hX hr dX15_holds_161 rfl ⟨rfl, rfl⟩
set_option maxHeartbeats 4000000 in
set_option maxRecDepth 100000 in
theorem zt_X15_holds_J69 {p : Program} {l : Launch} {e : Env} {R : Room} {s : State} {m : MethodId} {args : Array Value} {below : List Frame} {meth : Method} {c : Code} {V : zm_V} {mc ms d rc rs : Nat} (hX : zm_X p R s m args meth c RX15 "holds" cX15_holds 8 zk_E V mc ms) (hr : meth.sig.returnType = (some .boolean)) (hR : R.frames = d ∧ R.locals = 64 * d) (hd : 5 ≤ d) {N : Nat} {a0 : Nat} {i1 : Int32} {i2 : Int32} {out : (Int32 × zm_S)} {S : zm_S} (h : zf_X15_holds_J69 N a0 i1 i2 S = some out) : zw p l e R s m args below meth c (vx_MQ below (zm_Qc zk_E V (zo_i out)) (zm_XC zk_E V zo_x) args s mc ms (fun q => V.2.2.2.1 ≤ q)) 8 zk_E V mc ms 69 [(0, .ref a0), (1, .int i1), (2, .int i2)] [] S rc rs := by
  unfold zf_X15_holds_J69 at h
  refine zw_aload_n hX dX15_holds_69 rfl ?_
  refine zw_aload_n hX dX15_holds_70 rfl ?_
  obtain ⟨b14, g, h⟩ := zb_some h
  refine zw_getr hX zl_X15_35 dX15_holds_71 g ?_
  refine zw_iload_n hX dX15_holds_74 rfl ?_
  obtain ⟨v15, g, h⟩ := zb_some h
  refine zw_xi hX dX15_holds_75 g ?_
  refine zw_aload_n hX dX15_holds_76 rfl ?_
  obtain ⟨b16, g, h⟩ := zb_some h
  refine zw_getr hX zl_X15_38 dX15_holds_77 g ?_
  refine zw_iload_n hX dX15_holds_80 rfl ?_
  obtain ⟨v17, g, h⟩ := zb_some h
  refine zw_xi hX dX15_holds_81 g ?_
  obtain ⟨_, gi, h⟩ := zb_some h
  obtain ⟨r19, g, h⟩ := zb_some h
  refine zc_Vv (as := [.int v15, .int v17]) hX gi (zt_X15_reckon (d := d - 1) (by omega) g) zl_X15_227 rfl dX15_holds_82 ⟨rfl, rfl, Nat.le_of_ble_eq_true rfl⟩ ⟨by omega, by omega⟩ ?_
  refine zw_aload_n hX dX15_holds_85 rfl ?_
  obtain ⟨v20, g, h⟩ := zb_some h
  refine zw_geti hX zl_X15_198 dX15_holds_86 g ?_
  refine zw_if_le (tgt := 94) hX dX15_holds_89 (by decide) (fun c89 => ?_) (fun c89 => ?_)
  · rw [if_pos c89] at h
    refine zw_iload_n hX dX15_holds_94 rfl ?_
    refine zw_if_lt (tgt := 122) hX dX15_holds_95 (by decide) (fun c95 => ?_) (fun c95 => ?_)
    · rw [if_pos c95] at h
      refine zw_sub (lv' := [(0, .ref a0), (1, .int i1)]) (List.forall_mem_cons.mpr ⟨rfl, (List.forall_mem_cons.mpr ⟨rfl, zs_nil⟩)⟩) ?_
      exact zt_X15_holds_J122 hX hr hR hd h
    · rw [if_neg c95] at h
      refine zw_aload_n hX dX15_holds_98 rfl ?_
      obtain ⟨b34, g, h⟩ := zb_some h
      refine zw_getr hX zl_X15_63 dX15_holds_99 g ?_
      refine zw_iload_n hX dX15_holds_102 rfl ?_
      refine zw_aload_n hX dX15_holds_103 rfl ?_
      obtain ⟨b35, g, h⟩ := zb_some h
      refine zw_getr hX zl_X15_78 dX15_holds_104 g ?_
      refine zw_iconst (v := (0 : Int32)) hX dX15_holds_107 (by decide) ?_
      obtain ⟨w36, g, h⟩ := zb_some h
      refine zw_xl hX dX15_holds_108 g ?_
      obtain ⟨S37, g, h⟩ := zb_some h
      refine zw_sl hX dX15_holds_109 g ?_
      refine zw_aload_n hX dX15_holds_110 rfl ?_
      obtain ⟨b38, g, h⟩ := zb_some h
      refine zw_getr hX zl_X15_66 dX15_holds_111 g ?_
      refine zw_iload_n hX dX15_holds_114 rfl ?_
      refine zw_aload_n hX dX15_holds_115 rfl ?_
      obtain ⟨b39, g, h⟩ := zb_some h
      refine zw_getr hX zl_X15_81 dX15_holds_116 g ?_
      refine zw_iconst (v := (0 : Int32)) hX dX15_holds_119 (by decide) ?_
      obtain ⟨w40, g, h⟩ := zb_some h
      refine zw_xl hX dX15_holds_120 g ?_
      obtain ⟨S41, g, h⟩ := zb_some h
      refine zw_sl hX dX15_holds_121 g ?_
      refine zw_sub (lv' := [(0, .ref a0), (1, .int i1)]) (List.forall_mem_cons.mpr ⟨rfl, (List.forall_mem_cons.mpr ⟨rfl, zs_nil⟩)⟩) ?_
      exact zt_X15_holds_J122 hX hr hR hd h
  · rw [if_neg c89] at h
    refine zw_iconst (v := (0 : Int32)) hX dX15_holds_92 (by decide) ?_
    obtain rfl := Option.some.inj h
    exact zw_iret hX hr dX15_holds_93 rfl ⟨rfl, rfl⟩
set_option maxHeartbeats 4000000 in
set_option maxRecDepth 100000 in
theorem zt_X15_holds {l : Launch} {V : zm_V} {N : Nat} {S : zm_S} {out : (Int32 × zm_S)} {d : Nat} {a0 : Nat} {i1 : Int32} {i2 : Int32} (hd : 5 ≤ d) (h : zf_X15_holds N a0 i1 i2 S = some out) : zm_Met l zk_E V yX15_holds (.code yX15_holds cX15_holds 8 (some .boolean)) d [.ref a0, .int i1, .int i2] S 0 0 (zo_i out) zo_x := by
  refine zm_of (by decide +kernel) (Nat.le_of_ble_eq_true rfl) ?_
  intro p e R s m args below meth c hRR hX hr hxt
  have hR : R.frames = d ∧ R.locals = 64 * d := by rw [hRR]; exact ⟨rfl, rfl⟩
  have hX : zm_X p R s m args meth c RX15 "holds" cX15_holds 8 zk_E V 0 0 := hX
  unfold zf_X15_holds at h
  refine zw_sub (lv' := [(0, .ref a0), (1, .int i1), (2, .int i2)]) (List.forall_mem_cons.mpr ⟨rfl, (List.forall_mem_cons.mpr ⟨rfl, (List.forall_mem_cons.mpr ⟨rfl, zs_nil⟩)⟩)⟩) ?_
  refine zw_aload_n hX dX15_holds_0 rfl ?_
  refine zw_aload_n hX dX15_holds_1 rfl ?_
  obtain ⟨b1, g, h⟩ := zb_some h
  refine zw_getr hX zl_X15_32 dX15_holds_2 g ?_
  refine zw_iload_n hX dX15_holds_5 rfl ?_
  obtain ⟨v2, g, h⟩ := zb_some h
  refine zw_xi hX dX15_holds_6 g ?_
  refine zw_aload_n hX dX15_holds_7 rfl ?_
  obtain ⟨b3, g, h⟩ := zb_some h
  refine zw_getr hX zl_X15_35 dX15_holds_8 g ?_
  refine zw_iload_n hX dX15_holds_11 rfl ?_
  obtain ⟨v4, g, h⟩ := zb_some h
  refine zw_xi hX dX15_holds_12 g ?_
  obtain ⟨_, gi, h⟩ := zb_some h
  obtain ⟨r6, g, h⟩ := zb_some h
  refine zc_Vv (as := [.int v2, .int v4]) hX gi (zt_X15_reckon (d := d - 1) (by omega) g) zl_X15_227 rfl dX15_holds_13 ⟨rfl, rfl, Nat.le_of_ble_eq_true rfl⟩ ⟨by omega, by omega⟩ ?_
  refine zw_aload_n hX dX15_holds_16 rfl ?_
  obtain ⟨v7, g, h⟩ := zb_some h
  refine zw_geti hX zl_X15_198 dX15_holds_17 g ?_
  refine zw_if_le (tgt := 25) hX dX15_holds_20 (by decide) (fun c20 => ?_) (fun c20 => ?_)
  · rw [if_pos c20] at h
    refine zw_aload_n hX dX15_holds_25 rfl ?_
    refine zw_aload_n hX dX15_holds_26 rfl ?_
    obtain ⟨b8, g, h⟩ := zb_some h
    refine zw_getr hX zl_X15_78 dX15_holds_27 g ?_
    refine zw_iconst (v := (0 : Int32)) hX dX15_holds_30 (by decide) ?_
    obtain ⟨w9, g, h⟩ := zb_some h
    refine zw_xl hX dX15_holds_31 g ?_
    obtain ⟨S10, g, h⟩ := zb_some h
    refine zw_putv hX zl_X15_231 zt_15_42 dX15_holds_32 rfl rfl g ?_
    refine zw_aload_n hX dX15_holds_35 rfl ?_
    refine zw_aload_n hX dX15_holds_36 rfl ?_
    obtain ⟨b11, g, h⟩ := zb_some h
    refine zw_getr hX zl_X15_81 dX15_holds_37 g ?_
    refine zw_iconst (v := (0 : Int32)) hX dX15_holds_40 (by decide) ?_
    obtain ⟨w12, g, h⟩ := zb_some h
    refine zw_xl hX dX15_holds_41 g ?_
    obtain ⟨S13, g, h⟩ := zb_some h
    refine zw_putv hX zl_X15_234 zt_15_43 dX15_holds_42 rfl rfl g ?_
    refine zw_iload_n hX dX15_holds_45 rfl ?_
    refine zw_if_lt (tgt := 69) hX dX15_holds_46 (by decide) (fun c46 => ?_) (fun c46 => ?_)
    · rw [if_pos c46] at h
      refine zw_sub (lv' := [(0, .ref a0), (1, .int i1), (2, .int i2)]) (List.forall_mem_cons.mpr ⟨rfl, (List.forall_mem_cons.mpr ⟨rfl, (List.forall_mem_cons.mpr ⟨rfl, zs_nil⟩)⟩)⟩) ?_
      exact zt_X15_holds_J69 hX hr hR hd h
    · rw [if_neg c46] at h
      refine zw_aload_n hX dX15_holds_49 rfl ?_
      obtain ⟨b42, g, h⟩ := zb_some h
      refine zw_getr hX zl_X15_57 dX15_holds_50 g ?_
      refine zw_iload_n hX dX15_holds_53 rfl ?_
      refine zw_aload_n hX dX15_holds_54 rfl ?_
      obtain ⟨w43, g, h⟩ := zb_some h
      refine zw_getl hX zl_X15_231 dX15_holds_55 g ?_
      obtain ⟨S44, g, h⟩ := zb_some h
      refine zw_sl hX dX15_holds_58 g ?_
      refine zw_aload_n hX dX15_holds_59 rfl ?_
      obtain ⟨b45, g, h⟩ := zb_some h
      refine zw_getr hX zl_X15_60 dX15_holds_60 g ?_
      refine zw_iload_n hX dX15_holds_63 rfl ?_
      refine zw_aload_n hX dX15_holds_64 rfl ?_
      obtain ⟨w46, g, h⟩ := zb_some h
      refine zw_getl hX zl_X15_234 dX15_holds_65 g ?_
      obtain ⟨S47, g, h⟩ := zb_some h
      refine zw_sl hX dX15_holds_68 g ?_
      refine zw_sub (lv' := [(0, .ref a0), (1, .int i1), (2, .int i2)]) (List.forall_mem_cons.mpr ⟨rfl, (List.forall_mem_cons.mpr ⟨rfl, (List.forall_mem_cons.mpr ⟨rfl, zs_nil⟩)⟩)⟩) ?_
      exact zt_X15_holds_J69 hX hr hR hd h
  · rw [if_neg c20] at h
    refine zw_iconst (v := (0 : Int32)) hX dX15_holds_23 (by decide) ?_
    obtain rfl := Option.some.inj h
    exact zw_iret hX hr dX15_holds_24 rfl ⟨rfl, rfl⟩

