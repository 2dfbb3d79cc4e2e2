/-! ===== functions of methods, by program (wip/whole/tools/gen11.py) ===== -/
theorem dX2_traceRing_0 : decode cX2_traceRing 0 = .ok (.iload_n 1, 1) := by decide +kernel
theorem dX2_traceRing_1 : decode cX2_traceRing 1 = .ok (.bipush 25, 2) := by decide +kernel
theorem dX2_traceRing_3 : decode cX2_traceRing 3 = .ok (.idiv, 1) := by decide +kernel
theorem dX2_traceRing_4 : decode cX2_traceRing 4 = .ok (.istore_n 3, 1) := by decide +kernel
theorem dX2_traceRing_5 : decode cX2_traceRing 5 = .ok (.iload_n 1, 1) := by decide +kernel
theorem dX2_traceRing_6 : decode cX2_traceRing 6 = .ok (.bipush 25, 2) := by decide +kernel
theorem dX2_traceRing_8 : decode cX2_traceRing 8 = .ok (.irem, 1) := by decide +kernel
theorem dX2_traceRing_9 : decode cX2_traceRing 9 = .ok (.istore 4, 2) := by decide +kernel
theorem dX2_traceRing_11 : decode cX2_traceRing 11 = .ok (.iload_n 2, 1) := by decide +kernel
theorem dX2_traceRing_12 : decode cX2_traceRing 12 = .ok (.istore 5, 2) := by decide +kernel
theorem dX2_traceRing_14 : decode cX2_traceRing 14 = .ok (.aload_n 0, 1) := by decide +kernel
theorem dX2_traceRing_15 : decode cX2_traceRing 15 = .ok (.iload_n 3, 1) := by decide +kernel
theorem dX2_traceRing_16 : decode cX2_traceRing 16 = .ok (.iload 4, 2) := by decide +kernel
theorem dX2_traceRing_18 : decode cX2_traceRing 18 = .ok (.iload 5, 2) := by decide +kernel
theorem dX2_traceRing_20 : decode cX2_traceRing 20 = .ok (.invokevirtual 148, 3) := by decide +kernel
theorem dX2_traceRing_23 : decode cX2_traceRing 23 = .ok (.istore 6, 2) := by decide +kernel
theorem dX2_traceRing_25 : decode cX2_traceRing 25 = .ok (.aload_n 0, 1) := by decide +kernel
theorem dX2_traceRing_26 : decode cX2_traceRing 26 = .ok (.getfield 142, 3) := by decide +kernel
theorem dX2_traceRing_29 : decode cX2_traceRing 29 = .ok (.istore 7, 2) := by decide +kernel
theorem dX2_traceRing_31 : decode cX2_traceRing 31 = .ok (.iconst 0, 1) := by decide +kernel
theorem dX2_traceRing_32 : decode cX2_traceRing 32 = .ok (.istore 8, 2) := by decide +kernel
theorem dX2_traceRing_34 : decode cX2_traceRing 34 = .ok (.iconst 0, 1) := by decide +kernel
theorem dX2_traceRing_35 : decode cX2_traceRing 35 = .ok (.istore 9, 2) := by decide +kernel
theorem dX2_traceRing_37 : decode cX2_traceRing 37 = .ok (.iload 9, 2) := by decide +kernel
theorem dX2_traceRing_39 : decode cX2_traceRing 39 = .ok (.sipush 440, 3) := by decide +kernel
theorem dX2_traceRing_42 : decode cX2_traceRing 42 = .ok (.if_icmp .ge 113, 3) := by decide +kernel
theorem dX2_traceRing_45 : decode cX2_traceRing 45 = .ok (.aload_n 0, 1) := by decide +kernel
theorem dX2_traceRing_46 : decode cX2_traceRing 46 = .ok (.getfield 45, 3) := by decide +kernel
theorem dX2_traceRing_49 : decode cX2_traceRing 49 = .ok (.iconst 4, 1) := by decide +kernel
theorem dX2_traceRing_50 : decode cX2_traceRing 50 = .ok (.iload_n 3, 1) := by decide +kernel
theorem dX2_traceRing_51 : decode cX2_traceRing 51 = .ok (.bipush 25, 2) := by decide +kernel
theorem dX2_traceRing_53 : decode cX2_traceRing 53 = .ok (.imul, 1) := by decide +kernel
theorem dX2_traceRing_54 : decode cX2_traceRing 54 = .ok (.iload 4, 2) := by decide +kernel
theorem dX2_traceRing_56 : decode cX2_traceRing 56 = .ok (.iadd, 1) := by decide +kernel
theorem dX2_traceRing_57 : decode cX2_traceRing 57 = .ok (.imul, 1) := by decide +kernel
theorem dX2_traceRing_58 : decode cX2_traceRing 58 = .ok (.iload 5, 2) := by decide +kernel
theorem dX2_traceRing_60 : decode cX2_traceRing 60 = .ok (.iadd, 1) := by decide +kernel
theorem dX2_traceRing_61 : decode cX2_traceRing 61 = .ok (.baload, 1) := by decide +kernel
theorem dX2_traceRing_62 : decode cX2_traceRing 62 = .ok (.ifCond .ne 93, 3) := by decide +kernel
theorem dX2_traceRing_65 : decode cX2_traceRing 65 = .ok (.aload_n 0, 1) := by decide +kernel
theorem dX2_traceRing_66 : decode cX2_traceRing 66 = .ok (.getfield 45, 3) := by decide +kernel
theorem dX2_traceRing_69 : decode cX2_traceRing 69 = .ok (.iconst 4, 1) := by decide +kernel
theorem dX2_traceRing_70 : decode cX2_traceRing 70 = .ok (.iload_n 3, 1) := by decide +kernel
theorem dX2_traceRing_71 : decode cX2_traceRing 71 = .ok (.bipush 25, 2) := by decide +kernel
theorem dX2_traceRing_73 : decode cX2_traceRing 73 = .ok (.imul, 1) := by decide +kernel
theorem dX2_traceRing_74 : decode cX2_traceRing 74 = .ok (.iload 4, 2) := by decide +kernel
theorem dX2_traceRing_76 : decode cX2_traceRing 76 = .ok (.iadd, 1) := by decide +kernel
theorem dX2_traceRing_77 : decode cX2_traceRing 77 = .ok (.imul, 1) := by decide +kernel
theorem dX2_traceRing_78 : decode cX2_traceRing 78 = .ok (.iload 5, 2) := by decide +kernel
theorem dX2_traceRing_80 : decode cX2_traceRing 80 = .ok (.iadd, 1) := by decide +kernel
theorem dX2_traceRing_81 : decode cX2_traceRing 81 = .ok (.iconst 1, 1) := by decide +kernel
theorem dX2_traceRing_82 : decode cX2_traceRing 82 = .ok (.bastore, 1) := by decide +kernel
theorem dX2_traceRing_83 : decode cX2_traceRing 83 = .ok (.aload_n 0, 1) := by decide +kernel
theorem dX2_traceRing_84 : decode cX2_traceRing 84 = .ok (.iload_n 3, 1) := by decide +kernel
theorem dX2_traceRing_85 : decode cX2_traceRing 85 = .ok (.iload 4, 2) := by decide +kernel
theorem dX2_traceRing_87 : decode cX2_traceRing 87 = .ok (.iload 5, 2) := by decide +kernel
theorem dX2_traceRing_89 : decode cX2_traceRing 89 = .ok (.invokevirtual 151, 3) := by decide +kernel
theorem dX2_traceRing_92 : decode cX2_traceRing 92 = .ok (.istore 10, 2) := by decide +kernel
theorem dX2_traceRing_94 : decode cX2_traceRing 94 = .ok (.aload_n 0, 1) := by decide +kernel
theorem dX2_traceRing_95 : decode cX2_traceRing 95 = .ok (.iload_n 3, 1) := by decide +kernel
theorem dX2_traceRing_96 : decode cX2_traceRing 96 = .ok (.iload 4, 2) := by decide +kernel
theorem dX2_traceRing_98 : decode cX2_traceRing 98 = .ok (.iload 5, 2) := by decide +kernel
theorem dX2_traceRing_100 : decode cX2_traceRing 100 = .ok (.iload 10, 2) := by decide +kernel
theorem dX2_traceRing_102 : decode cX2_traceRing 102 = .ok (.invokevirtual 154, 3) := by decide +kernel
theorem dX2_traceRing_105 : decode cX2_traceRing 105 = .ok (.iload 8, 2) := by decide +kernel
theorem dX2_traceRing_107 : decode cX2_traceRing 107 = .ok (.iload 10, 2) := by decide +kernel
theorem dX2_traceRing_109 : decode cX2_traceRing 109 = .ok (.iadd, 1) := by decide +kernel
theorem dX2_traceRing_110 : decode cX2_traceRing 110 = .ok (.istore 8, 2) := by decide +kernel
theorem dX2_traceRing_112 : decode cX2_traceRing 112 = .ok (.iload_n 3, 1) := by decide +kernel
theorem dX2_traceRing_113 : decode cX2_traceRing 113 = .ok (.iload 10, 2) := by decide +kernel
theorem dX2_traceRing_115 : decode cX2_traceRing 115 = .ok (.getstatic 158, 3) := by decide +kernel
theorem dX2_traceRing_118 : decode cX2_traceRing 118 = .ok (.iload 5, 2) := by decide +kernel
theorem dX2_traceRing_120 : decode cX2_traceRing 120 = .ok (.iaload, 1) := by decide +kernel
theorem dX2_traceRing_121 : decode cX2_traceRing 121 = .ok (.imul, 1) := by decide +kernel
theorem dX2_traceRing_122 : decode cX2_traceRing 122 = .ok (.iadd, 1) := by decide +kernel
theorem dX2_traceRing_123 : decode cX2_traceRing 123 = .ok (.istore_n 3, 1) := by decide +kernel
theorem dX2_traceRing_124 : decode cX2_traceRing 124 = .ok (.iload 4, 2) := by decide +kernel
theorem dX2_traceRing_126 : decode cX2_traceRing 126 = .ok (.iload 10, 2) := by decide +kernel
theorem dX2_traceRing_128 : decode cX2_traceRing 128 = .ok (.getstatic 161, 3) := by decide +kernel
theorem dX2_traceRing_131 : decode cX2_traceRing 131 = .ok (.iload 5, 2) := by decide +kernel
theorem dX2_traceRing_133 : decode cX2_traceRing 133 = .ok (.iaload, 1) := by decide +kernel
theorem dX2_traceRing_134 : decode cX2_traceRing 134 = .ok (.imul, 1) := by decide +kernel
theorem dX2_traceRing_135 : decode cX2_traceRing 135 = .ok (.iadd, 1) := by decide +kernel
theorem dX2_traceRing_136 : decode cX2_traceRing 136 = .ok (.istore 4, 2) := by decide +kernel
theorem dX2_traceRing_138 : decode cX2_traceRing 138 = .ok (.aload_n 0, 1) := by decide +kernel
theorem dX2_traceRing_139 : decode cX2_traceRing 139 = .ok (.iload_n 3, 1) := by decide +kernel
theorem dX2_traceRing_140 : decode cX2_traceRing 140 = .ok (.iload 4, 2) := by decide +kernel
theorem dX2_traceRing_142 : decode cX2_traceRing 142 = .ok (.iload 5, 2) := by decide +kernel
theorem dX2_traceRing_144 : decode cX2_traceRing 144 = .ok (.invokevirtual 164, 3) := by decide +kernel
theorem dX2_traceRing_147 : decode cX2_traceRing 147 = .ok (.istore 5, 2) := by decide +kernel
theorem dX2_traceRing_149 : decode cX2_traceRing 149 = .ok (.iinc 9 1, 3) := by decide +kernel
theorem dX2_traceRing_152 : decode cX2_traceRing 152 = .ok (.goto (-115), 3) := by decide +kernel
theorem dX2_traceRing_155 : decode cX2_traceRing 155 = .ok (.aload_n 0, 1) := by decide +kernel
theorem dX2_traceRing_156 : decode cX2_traceRing 156 = .ok (.getfield 39, 3) := by decide +kernel
theorem dX2_traceRing_159 : decode cX2_traceRing 159 = .ok (.aload_n 0, 1) := by decide +kernel
theorem dX2_traceRing_160 : decode cX2_traceRing 160 = .ok (.getfield 139, 3) := by decide +kernel
theorem dX2_traceRing_163 : decode cX2_traceRing 163 = .ok (.aaload, 1) := by decide +kernel
theorem dX2_traceRing_164 : decode cX2_traceRing 164 = .ok (.astore 9, 2) := by decide +kernel
theorem dX2_traceRing_166 : decode cX2_traceRing 166 = .ok (.aload 9, 2) := by decide +kernel
theorem dX2_traceRing_168 : decode cX2_traceRing 168 = .ok (.iconst 0, 1) := by decide +kernel
theorem dX2_traceRing_169 : decode cX2_traceRing 169 = .ok (.iload 6, 2) := by decide +kernel
theorem dX2_traceRing_171 : decode cX2_traceRing 171 = .ok (.iastore, 1) := by decide +kernel
theorem dX2_traceRing_172 : decode cX2_traceRing 172 = .ok (.aload 9, 2) := by decide +kernel
theorem dX2_traceRing_174 : decode cX2_traceRing 174 = .ok (.iconst 1, 1) := by decide +kernel
theorem dX2_traceRing_175 : decode cX2_traceRing 175 = .ok (.iload 7, 2) := by decide +kernel
theorem dX2_traceRing_177 : decode cX2_traceRing 177 = .ok (.iastore, 1) := by decide +kernel
theorem dX2_traceRing_178 : decode cX2_traceRing 178 = .ok (.aload 9, 2) := by decide +kernel
theorem dX2_traceRing_180 : decode cX2_traceRing 180 = .ok (.iconst 2, 1) := by decide +kernel
theorem dX2_traceRing_181 : decode cX2_traceRing 181 = .ok (.aload_n 0, 1) := by decide +kernel
theorem dX2_traceRing_182 : decode cX2_traceRing 182 = .ok (.getfield 142, 3) := by decide +kernel
theorem dX2_traceRing_185 : decode cX2_traceRing 185 = .ok (.iload 7, 2) := by decide +kernel
theorem dX2_traceRing_187 : decode cX2_traceRing 187 = .ok (.isub, 1) := by decide +kernel
theorem dX2_traceRing_188 : decode cX2_traceRing 188 = .ok (.iastore, 1) := by decide +kernel
theorem dX2_traceRing_189 : decode cX2_traceRing 189 = .ok (.aload_n 0, 1) := by decide +kernel
theorem dX2_traceRing_190 : decode cX2_traceRing 190 = .ok (.dup, 1) := by decide +kernel
theorem dX2_traceRing_191 : decode cX2_traceRing 191 = .ok (.getfield 139, 3) := by decide +kernel
theorem dX2_traceRing_194 : decode cX2_traceRing 194 = .ok (.iconst 1, 1) := by decide +kernel
theorem dX2_traceRing_195 : decode cX2_traceRing 195 = .ok (.iadd, 1) := by decide +kernel
theorem dX2_traceRing_196 : decode cX2_traceRing 196 = .ok (.putfield 139, 3) := by decide +kernel
theorem dX2_traceRing_199 : decode cX2_traceRing 199 = .ok (.iload 6, 2) := by decide +kernel
theorem dX2_traceRing_201 : decode cX2_traceRing 201 = .ok (.ifCond .lt 15, 3) := by decide +kernel
theorem dX2_traceRing_216 : decode cX2_traceRing 216 = .ok (.return_, 1) := by decide +kernel
theorem dX2_traceRing_204 : decode cX2_traceRing 204 = .ok (.aload_n 0, 1) := by decide +kernel
theorem dX2_traceRing_205 : decode cX2_traceRing 205 = .ok (.getfield 36, 3) := by decide +kernel
theorem dX2_traceRing_208 : decode cX2_traceRing 208 = .ok (.iload 6, 2) := by decide +kernel
theorem dX2_traceRing_210 : decode cX2_traceRing 210 = .ok (.dup2, 1) := by decide +kernel
theorem dX2_traceRing_211 : decode cX2_traceRing 211 = .ok (.iaload, 1) := by decide +kernel
theorem dX2_traceRing_212 : decode cX2_traceRing 212 = .ok (.iload 8, 2) := by decide +kernel
theorem dX2_traceRing_214 : decode cX2_traceRing 214 = .ok (.iadd, 1) := by decide +kernel
theorem dX2_traceRing_215 : decode cX2_traceRing 215 = .ok (.iastore, 1) := by decide +kernel
theorem dX2_traceRings_0 : decode cX2_traceRings 0 = .ok (.aload_n 0, 1) := by decide +kernel
theorem dX2_traceRings_1 : decode cX2_traceRings 1 = .ok (.iconst 0, 1) := by decide +kernel
theorem dX2_traceRings_2 : decode cX2_traceRings 2 = .ok (.putfield 139, 3) := by decide +kernel
theorem dX2_traceRings_5 : decode cX2_traceRings 5 = .ok (.aload_n 0, 1) := by decide +kernel
theorem dX2_traceRings_6 : decode cX2_traceRings 6 = .ok (.iconst 0, 1) := by decide +kernel
theorem dX2_traceRings_7 : decode cX2_traceRings 7 = .ok (.putfield 142, 3) := by decide +kernel
theorem dX2_traceRings_10 : decode cX2_traceRings 10 = .ok (.iconst 0, 1) := by decide +kernel
theorem dX2_traceRings_11 : decode cX2_traceRings 11 = .ok (.istore_n 1, 1) := by decide +kernel
theorem dX2_traceRings_12 : decode cX2_traceRings 12 = .ok (.iload_n 1, 1) := by decide +kernel
theorem dX2_traceRings_13 : decode cX2_traceRings 13 = .ok (.aload_n 0, 1) := by decide +kernel
theorem dX2_traceRings_14 : decode cX2_traceRings 14 = .ok (.getfield 45, 3) := by decide +kernel
theorem dX2_traceRings_17 : decode cX2_traceRings 17 = .ok (.arraylength, 1) := by decide +kernel
theorem dX2_traceRings_18 : decode cX2_traceRings 18 = .ok (.if_icmp .ge 16, 3) := by decide +kernel
theorem dX2_traceRings_21 : decode cX2_traceRings 21 = .ok (.aload_n 0, 1) := by decide +kernel
theorem dX2_traceRings_22 : decode cX2_traceRings 22 = .ok (.getfield 45, 3) := by decide +kernel
theorem dX2_traceRings_25 : decode cX2_traceRings 25 = .ok (.iload_n 1, 1) := by decide +kernel
theorem dX2_traceRings_26 : decode cX2_traceRings 26 = .ok (.iconst 0, 1) := by decide +kernel
theorem dX2_traceRings_27 : decode cX2_traceRings 27 = .ok (.bastore, 1) := by decide +kernel
theorem dX2_traceRings_28 : decode cX2_traceRings 28 = .ok (.iinc 1 1, 3) := by decide +kernel
theorem dX2_traceRings_31 : decode cX2_traceRings 31 = .ok (.goto (-19), 3) := by decide +kernel
theorem dX2_traceRings_34 : decode cX2_traceRings 34 = .ok (.aload_n 0, 1) := by decide +kernel
theorem dX2_traceRings_35 : decode cX2_traceRings 35 = .ok (.getfield 36, 3) := by decide +kernel
theorem dX2_traceRings_38 : decode cX2_traceRings 38 = .ok (.iconst 0, 1) := by decide +kernel
theorem dX2_traceRings_39 : decode cX2_traceRings 39 = .ok (.invokestatic 88, 3) := by decide +kernel
theorem dX2_traceRings_42 : decode cX2_traceRings 42 = .ok (.iconst 0, 1) := by decide +kernel
theorem dX2_traceRings_43 : decode cX2_traceRings 43 = .ok (.istore_n 1, 1) := by decide +kernel
theorem dX2_traceRings_44 : decode cX2_traceRings 44 = .ok (.iload_n 1, 1) := by decide +kernel
theorem dX2_traceRings_45 : decode cX2_traceRings 45 = .ok (.sipush 625, 3) := by decide +kernel
theorem dX2_traceRings_48 : decode cX2_traceRings 48 = .ok (.if_icmp .ge 87, 3) := by decide +kernel
theorem dX2_traceRings_51 : decode cX2_traceRings 51 = .ok (.iconst 0, 1) := by decide +kernel
theorem dX2_traceRings_52 : decode cX2_traceRings 52 = .ok (.istore_n 2, 1) := by decide +kernel
theorem dX2_traceRings_53 : decode cX2_traceRings 53 = .ok (.iload_n 2, 1) := by decide +kernel
theorem dX2_traceRings_54 : decode cX2_traceRings 54 = .ok (.iconst 4, 1) := by decide +kernel
theorem dX2_traceRings_55 : decode cX2_traceRings 55 = .ok (.if_icmp .ge 74, 3) := by decide +kernel
theorem dX2_traceRings_58 : decode cX2_traceRings 58 = .ok (.aload_n 0, 1) := by decide +kernel
theorem dX2_traceRings_59 : decode cX2_traceRings 59 = .ok (.getfield 16, 3) := by decide +kernel
theorem dX2_traceRings_62 : decode cX2_traceRings 62 = .ok (.iload_n 1, 1) := by decide +kernel
theorem dX2_traceRings_63 : decode cX2_traceRings 63 = .ok (.baload, 1) := by decide +kernel
theorem dX2_traceRings_64 : decode cX2_traceRings 64 = .ok (.ifCond .eq 24, 3) := by decide +kernel
theorem dX2_traceRings_88 : decode cX2_traceRings 88 = .ok (.iconst 0, 1) := by decide +kernel
theorem dX2_traceRings_89 : decode cX2_traceRings 89 = .ok (.istore_n 3, 1) := by decide +kernel
theorem dX2_traceRings_90 : decode cX2_traceRings 90 = .ok (.iload_n 3, 1) := by decide +kernel
theorem dX2_traceRings_91 : decode cX2_traceRings 91 = .ok (.ifCond .eq 32, 3) := by decide +kernel
theorem dX2_traceRings_123 : decode cX2_traceRings 123 = .ok (.iinc 2 1, 3) := by decide +kernel
theorem dX2_traceRings_126 : decode cX2_traceRings 126 = .ok (.goto (-73), 3) := by decide +kernel
theorem dX2_traceRings_94 : decode cX2_traceRings 94 = .ok (.aload_n 0, 1) := by decide +kernel
theorem dX2_traceRings_95 : decode cX2_traceRings 95 = .ok (.getfield 45, 3) := by decide +kernel
theorem dX2_traceRings_98 : decode cX2_traceRings 98 = .ok (.iconst 4, 1) := by decide +kernel
theorem dX2_traceRings_99 : decode cX2_traceRings 99 = .ok (.iload_n 1, 1) := by decide +kernel
theorem dX2_traceRings_100 : decode cX2_traceRings 100 = .ok (.imul, 1) := by decide +kernel
theorem dX2_traceRings_101 : decode cX2_traceRings 101 = .ok (.iload_n 2, 1) := by decide +kernel
theorem dX2_traceRings_102 : decode cX2_traceRings 102 = .ok (.iadd, 1) := by decide +kernel
theorem dX2_traceRings_103 : decode cX2_traceRings 103 = .ok (.baload, 1) := by decide +kernel
theorem dX2_traceRings_104 : decode cX2_traceRings 104 = .ok (.ifCond .ne 19, 3) := by decide +kernel
theorem dX2_traceRings_107 : decode cX2_traceRings 107 = .ok (.aload_n 0, 1) := by decide +kernel
theorem dX2_traceRings_108 : decode cX2_traceRings 108 = .ok (.getfield 139, 3) := by decide +kernel
theorem dX2_traceRings_111 : decode cX2_traceRings 111 = .ok (.sipush 220, 3) := by decide +kernel
theorem dX2_traceRings_114 : decode cX2_traceRings 114 = .ok (.if_icmp .ge 9, 3) := by decide +kernel
theorem dX2_traceRings_117 : decode cX2_traceRings 117 = .ok (.aload_n 0, 1) := by decide +kernel
theorem dX2_traceRings_118 : decode cX2_traceRings 118 = .ok (.iload_n 1, 1) := by decide +kernel
theorem dX2_traceRings_119 : decode cX2_traceRings 119 = .ok (.iload_n 2, 1) := by decide +kernel
theorem dX2_traceRings_120 : decode cX2_traceRings 120 = .ok (.invokevirtual 145, 3) := by decide +kernel
theorem dX2_traceRings_67 : decode cX2_traceRings 67 = .ok (.aload_n 0, 1) := by decide +kernel
theorem dX2_traceRings_68 : decode cX2_traceRings 68 = .ok (.iload_n 1, 1) := by decide +kernel
theorem dX2_traceRings_69 : decode cX2_traceRings 69 = .ok (.bipush 25, 2) := by decide +kernel
theorem dX2_traceRings_71 : decode cX2_traceRings 71 = .ok (.idiv, 1) := by decide +kernel
theorem dX2_traceRings_72 : decode cX2_traceRings 72 = .ok (.iload_n 1, 1) := by decide +kernel
theorem dX2_traceRings_73 : decode cX2_traceRings 73 = .ok (.bipush 25, 2) := by decide +kernel
theorem dX2_traceRings_75 : decode cX2_traceRings 75 = .ok (.irem, 1) := by decide +kernel
theorem dX2_traceRings_76 : decode cX2_traceRings 76 = .ok (.iload_n 2, 1) := by decide +kernel
theorem dX2_traceRings_77 : decode cX2_traceRings 77 = .ok (.invokevirtual 110, 3) := by decide +kernel
theorem dX2_traceRings_80 : decode cX2_traceRings 80 = .ok (.iconst (-1), 1) := by decide +kernel
theorem dX2_traceRings_81 : decode cX2_traceRings 81 = .ok (.if_icmp .eq 7, 3) := by decide +kernel
theorem dX2_traceRings_84 : decode cX2_traceRings 84 = .ok (.iconst 1, 1) := by decide +kernel
theorem dX2_traceRings_85 : decode cX2_traceRings 85 = .ok (.goto 4, 3) := by decide +kernel
theorem dX2_traceRings_129 : decode cX2_traceRings 129 = .ok (.iinc 1 1, 3) := by decide +kernel
theorem dX2_traceRings_132 : decode cX2_traceRings 132 = .ok (.goto (-88), 3) := by decide +kernel
theorem dX2_traceRings_135 : decode cX2_traceRings 135 = .ok (.return_, 1) := by decide +kernel
theorem dJ6_stringSize_0f7a4_0 : decode cJ6_stringSize_0f7a4 0 = .ok (.iconst 1, 1) := by decide +kernel
theorem dJ6_stringSize_0f7a4_1 : decode cJ6_stringSize_0f7a4 1 = .ok (.istore_n 1, 1) := by decide +kernel
theorem dJ6_stringSize_0f7a4_2 : decode cJ6_stringSize_0f7a4 2 = .ok (.iload_n 0, 1) := by decide +kernel
theorem dJ6_stringSize_0f7a4_3 : decode cJ6_stringSize_0f7a4 3 = .ok (.ifCond .lt 8, 3) := by decide +kernel
theorem dJ6_stringSize_0f7a4_11 : decode cJ6_stringSize_0f7a4 11 = .ok (.bipush (-10), 2) := by decide +kernel
theorem dJ6_stringSize_0f7a4_13 : decode cJ6_stringSize_0f7a4 13 = .ok (.istore_n 2, 1) := by decide +kernel
theorem dJ6_stringSize_0f7a4_14 : decode cJ6_stringSize_0f7a4 14 = .ok (.iconst 1, 1) := by decide +kernel
theorem dJ6_stringSize_0f7a4_15 : decode cJ6_stringSize_0f7a4 15 = .ok (.istore_n 3, 1) := by decide +kernel
theorem dJ6_stringSize_0f7a4_16 : decode cJ6_stringSize_0f7a4 16 = .ok (.iload_n 3, 1) := by decide +kernel
theorem dJ6_stringSize_0f7a4_17 : decode cJ6_stringSize_0f7a4 17 = .ok (.bipush 10, 2) := by decide +kernel
theorem dJ6_stringSize_0f7a4_19 : decode cJ6_stringSize_0f7a4 19 = .ok (.if_icmp .ge 23, 3) := by decide +kernel
theorem dJ6_stringSize_0f7a4_22 : decode cJ6_stringSize_0f7a4 22 = .ok (.iload_n 0, 1) := by decide +kernel
theorem dJ6_stringSize_0f7a4_23 : decode cJ6_stringSize_0f7a4 23 = .ok (.iload_n 2, 1) := by decide +kernel
theorem dJ6_stringSize_0f7a4_24 : decode cJ6_stringSize_0f7a4 24 = .ok (.if_icmp .le 7, 3) := by decide +kernel
theorem dJ6_stringSize_0f7a4_31 : decode cJ6_stringSize_0f7a4 31 = .ok (.bipush 10, 2) := by decide +kernel
theorem dJ6_stringSize_0f7a4_33 : decode cJ6_stringSize_0f7a4 33 = .ok (.iload_n 2, 1) := by decide +kernel
theorem dJ6_stringSize_0f7a4_34 : decode cJ6_stringSize_0f7a4 34 = .ok (.imul, 1) := by decide +kernel
theorem dJ6_stringSize_0f7a4_35 : decode cJ6_stringSize_0f7a4 35 = .ok (.istore_n 2, 1) := by decide +kernel
theorem dJ6_stringSize_0f7a4_36 : decode cJ6_stringSize_0f7a4 36 = .ok (.iinc 3 1, 3) := by decide +kernel
theorem dJ6_stringSize_0f7a4_39 : decode cJ6_stringSize_0f7a4 39 = .ok (.goto (-23), 3) := by decide +kernel
theorem dJ6_stringSize_0f7a4_27 : decode cJ6_stringSize_0f7a4 27 = .ok (.iload_n 3, 1) := by decide +kernel
theorem dJ6_stringSize_0f7a4_28 : decode cJ6_stringSize_0f7a4 28 = .ok (.iload_n 1, 1) := by decide +kernel
theorem dJ6_stringSize_0f7a4_29 : decode cJ6_stringSize_0f7a4 29 = .ok (.iadd, 1) := by decide +kernel
theorem dJ6_stringSize_0f7a4_30 : decode cJ6_stringSize_0f7a4 30 = .ok (.ireturn, 1) := by decide +kernel
theorem dJ6_stringSize_0f7a4_42 : decode cJ6_stringSize_0f7a4 42 = .ok (.bipush 10, 2) := by decide +kernel
theorem dJ6_stringSize_0f7a4_44 : decode cJ6_stringSize_0f7a4 44 = .ok (.iload_n 1, 1) := by decide +kernel
theorem dJ6_stringSize_0f7a4_45 : decode cJ6_stringSize_0f7a4 45 = .ok (.iadd, 1) := by decide +kernel
theorem dJ6_stringSize_0f7a4_46 : decode cJ6_stringSize_0f7a4 46 = .ok (.ireturn, 1) := by decide +kernel
theorem dJ6_stringSize_0f7a4_6 : decode cJ6_stringSize_0f7a4 6 = .ok (.iconst 0, 1) := by decide +kernel
theorem dJ6_stringSize_0f7a4_7 : decode cJ6_stringSize_0f7a4 7 = .ok (.istore_n 1, 1) := by decide +kernel
theorem dJ6_stringSize_0f7a4_8 : decode cJ6_stringSize_0f7a4 8 = .ok (.iload_n 0, 1) := by decide +kernel
theorem dJ6_stringSize_0f7a4_9 : decode cJ6_stringSize_0f7a4 9 = .ok (.ineg, 1) := by decide +kernel
theorem dJ6_stringSize_0f7a4_10 : decode cJ6_stringSize_0f7a4 10 = .ok (.istore_n 0, 1) := by decide +kernel
theorem dJ7_rangeCheck_23922_0 : decode cJ7_rangeCheck_23922 0 = .ok (.iload_n 1, 1) := by decide +kernel
theorem dJ7_rangeCheck_23922_1 : decode cJ7_rangeCheck_23922 1 = .ok (.iload_n 2, 1) := by decide +kernel
theorem dJ7_rangeCheck_23922_2 : decode cJ7_rangeCheck_23922 2 = .ok (.if_icmp .le 44, 3) := by decide +kernel
theorem dJ7_rangeCheck_23922_46 : decode cJ7_rangeCheck_23922 46 = .ok (.iload_n 1, 1) := by decide +kernel
theorem dJ7_rangeCheck_23922_47 : decode cJ7_rangeCheck_23922 47 = .ok (.ifCond .ge 12, 3) := by decide +kernel
theorem dJ7_rangeCheck_23922_59 : decode cJ7_rangeCheck_23922 59 = .ok (.iload_n 2, 1) := by decide +kernel
theorem dJ7_rangeCheck_23922_60 : decode cJ7_rangeCheck_23922 60 = .ok (.iload_n 0, 1) := by decide +kernel
theorem dJ7_rangeCheck_23922_61 : decode cJ7_rangeCheck_23922 61 = .ok (.if_icmp .le 12, 3) := by decide +kernel
theorem dJ7_rangeCheck_23922_73 : decode cJ7_rangeCheck_23922 73 = .ok (.return_, 1) := by decide +kernel
theorem dJ7_fill_fda19_0 : decode cJ7_fill_fda19 0 = .ok (.aload_n 0, 1) := by decide +kernel
theorem dJ7_fill_fda19_1 : decode cJ7_fill_fda19 1 = .ok (.arraylength, 1) := by decide +kernel
theorem dJ7_fill_fda19_2 : decode cJ7_fill_fda19 2 = .ok (.iload_n 1, 1) := by decide +kernel
theorem dJ7_fill_fda19_3 : decode cJ7_fill_fda19 3 = .ok (.iload_n 2, 1) := by decide +kernel
theorem dJ7_fill_fda19_4 : decode cJ7_fill_fda19 4 = .ok (.invokestatic 13, 3) := by decide +kernel
theorem dJ7_fill_fda19_7 : decode cJ7_fill_fda19 7 = .ok (.iload_n 1, 1) := by decide +kernel
theorem dJ7_fill_fda19_8 : decode cJ7_fill_fda19 8 = .ok (.istore 4, 2) := by decide +kernel
theorem dJ7_fill_fda19_10 : decode cJ7_fill_fda19 10 = .ok (.iload 4, 2) := by decide +kernel
theorem dJ7_fill_fda19_12 : decode cJ7_fill_fda19 12 = .ok (.iload_n 2, 1) := by decide +kernel
theorem dJ7_fill_fda19_13 : decode cJ7_fill_fda19 13 = .ok (.if_icmp .ge 14, 3) := by decide +kernel
theorem dJ7_fill_fda19_16 : decode cJ7_fill_fda19 16 = .ok (.aload_n 0, 1) := by decide +kernel
theorem dJ7_fill_fda19_17 : decode cJ7_fill_fda19 17 = .ok (.iload 4, 2) := by decide +kernel
theorem dJ7_fill_fda19_19 : decode cJ7_fill_fda19 19 = .ok (.iload_n 3, 1) := by decide +kernel
theorem dJ7_fill_fda19_20 : decode cJ7_fill_fda19 20 = .ok (.iastore, 1) := by decide +kernel
theorem dJ7_fill_fda19_21 : decode cJ7_fill_fda19 21 = .ok (.iinc 4 1, 3) := by decide +kernel
theorem dJ7_fill_fda19_24 : decode cJ7_fill_fda19 24 = .ok (.goto (-14), 3) := by decide +kernel
theorem dJ7_fill_fda19_27 : decode cJ7_fill_fda19 27 = .ok (.return_, 1) := by decide +kernel
theorem dX2_giveNameOn_0 : decode cX2_giveNameOn 0 = .ok (.aload_n 0, 1) := by decide +kernel
theorem dX2_giveNameOn_1 : decode cX2_giveNameOn 1 = .ok (.getfield 48, 3) := by decide +kernel
theorem dX2_giveNameOn_4 : decode cX2_giveNameOn 4 = .ok (.iconst 0, 1) := by decide +kernel
theorem dX2_giveNameOn_5 : decode cX2_giveNameOn 5 = .ok (.bipush 100, 2) := by decide +kernel
theorem dX2_giveNameOn_7 : decode cX2_giveNameOn 7 = .ok (.iconst 0, 1) := by decide +kernel
theorem dX2_giveNameOn_8 : decode cX2_giveNameOn 8 = .ok (.invokestatic 176, 3) := by decide +kernel
theorem dX2_giveNameOn_11 : decode cX2_giveNameOn 11 = .ok (.iconst 0, 1) := by decide +kernel
theorem dX2_giveNameOn_12 : decode cX2_giveNameOn 12 = .ok (.istore_n 2, 1) := by decide +kernel
theorem dX2_giveNameOn_13 : decode cX2_giveNameOn 13 = .ok (.iload_n 2, 1) := by decide +kernel
theorem dX2_giveNameOn_14 : decode cX2_giveNameOn 14 = .ok (.sipush 576, 3) := by decide +kernel
theorem dX2_giveNameOn_17 : decode cX2_giveNameOn 17 = .ok (.if_icmp .ge 43, 3) := by decide +kernel
theorem dX2_giveNameOn_20 : decode cX2_giveNameOn 20 = .ok (.aload_n 0, 1) := by decide +kernel
theorem dX2_giveNameOn_21 : decode cX2_giveNameOn 21 = .ok (.getfield 24, 3) := by decide +kernel
theorem dX2_giveNameOn_24 : decode cX2_giveNameOn 24 = .ok (.iload_n 2, 1) := by decide +kernel
theorem dX2_giveNameOn_25 : decode cX2_giveNameOn 25 = .ok (.iaload, 1) := by decide +kernel
theorem dX2_giveNameOn_26 : decode cX2_giveNameOn 26 = .ok (.iload_n 1, 1) := by decide +kernel
theorem dX2_giveNameOn_27 : decode cX2_giveNameOn 27 = .ok (.if_icmp .ne 27, 3) := by decide +kernel
theorem dX2_giveNameOn_54 : decode cX2_giveNameOn 54 = .ok (.iinc 2 1, 3) := by decide +kernel
theorem dX2_giveNameOn_57 : decode cX2_giveNameOn 57 = .ok (.goto (-44), 3) := by decide +kernel
theorem dX2_giveNameOn_30 : decode cX2_giveNameOn 30 = .ok (.aload_n 0, 1) := by decide +kernel
theorem dX2_giveNameOn_31 : decode cX2_giveNameOn 31 = .ok (.getfield 20, 3) := by decide +kernel
theorem dX2_giveNameOn_34 : decode cX2_giveNameOn 34 = .ok (.iload_n 2, 1) := by decide +kernel
theorem dX2_giveNameOn_35 : decode cX2_giveNameOn 35 = .ok (.iaload, 1) := by decide +kernel
theorem dX2_giveNameOn_36 : decode cX2_giveNameOn 36 = .ok (.ifCond .lt 18, 3) := by decide +kernel
theorem dX2_giveNameOn_39 : decode cX2_giveNameOn 39 = .ok (.aload_n 0, 1) := by decide +kernel
theorem dX2_giveNameOn_40 : decode cX2_giveNameOn 40 = .ok (.getfield 48, 3) := by decide +kernel
theorem dX2_giveNameOn_43 : decode cX2_giveNameOn 43 = .ok (.aload_n 0, 1) := by decide +kernel
theorem dX2_giveNameOn_44 : decode cX2_giveNameOn 44 = .ok (.getfield 20, 3) := by decide +kernel
theorem dX2_giveNameOn_47 : decode cX2_giveNameOn 47 = .ok (.iload_n 2, 1) := by decide +kernel
theorem dX2_giveNameOn_48 : decode cX2_giveNameOn 48 = .ok (.iaload, 1) := by decide +kernel
theorem dX2_giveNameOn_49 : decode cX2_giveNameOn 49 = .ok (.dup2, 1) := by decide +kernel
theorem dX2_giveNameOn_50 : decode cX2_giveNameOn 50 = .ok (.iaload, 1) := by decide +kernel
theorem dX2_giveNameOn_51 : decode cX2_giveNameOn 51 = .ok (.iconst 1, 1) := by decide +kernel
theorem dX2_giveNameOn_52 : decode cX2_giveNameOn 52 = .ok (.iadd, 1) := by decide +kernel
theorem dX2_giveNameOn_53 : decode cX2_giveNameOn 53 = .ok (.iastore, 1) := by decide +kernel
theorem dX2_giveNameOn_60 : decode cX2_giveNameOn 60 = .ok (.iconst 0, 1) := by decide +kernel
theorem dX2_giveNameOn_61 : decode cX2_giveNameOn 61 = .ok (.istore_n 2, 1) := by decide +kernel
theorem dX2_giveNameOn_62 : decode cX2_giveNameOn 62 = .ok (.iconst 1, 1) := by decide +kernel
theorem dX2_giveNameOn_63 : decode cX2_giveNameOn 63 = .ok (.istore_n 3, 1) := by decide +kernel
theorem dX2_giveNameOn_64 : decode cX2_giveNameOn 64 = .ok (.iload_n 3, 1) := by decide +kernel
theorem dX2_giveNameOn_65 : decode cX2_giveNameOn 65 = .ok (.aload_n 0, 1) := by decide +kernel
theorem dX2_giveNameOn_66 : decode cX2_giveNameOn 66 = .ok (.getfield 58, 3) := by decide +kernel
theorem dX2_giveNameOn_69 : decode cX2_giveNameOn 69 = .ok (.if_icmp .ge 26, 3) := by decide +kernel
theorem dX2_giveNameOn_72 : decode cX2_giveNameOn 72 = .ok (.aload_n 0, 1) := by decide +kernel
theorem dX2_giveNameOn_73 : decode cX2_giveNameOn 73 = .ok (.getfield 48, 3) := by decide +kernel
theorem dX2_giveNameOn_76 : decode cX2_giveNameOn 76 = .ok (.iload_n 3, 1) := by decide +kernel
theorem dX2_giveNameOn_77 : decode cX2_giveNameOn 77 = .ok (.iaload, 1) := by decide +kernel
theorem dX2_giveNameOn_78 : decode cX2_giveNameOn 78 = .ok (.aload_n 0, 1) := by decide +kernel
theorem dX2_giveNameOn_79 : decode cX2_giveNameOn 79 = .ok (.getfield 48, 3) := by decide +kernel
theorem dX2_giveNameOn_82 : decode cX2_giveNameOn 82 = .ok (.iload_n 2, 1) := by decide +kernel
theorem dX2_giveNameOn_83 : decode cX2_giveNameOn 83 = .ok (.iaload, 1) := by decide +kernel
theorem dX2_giveNameOn_84 : decode cX2_giveNameOn 84 = .ok (.if_icmp .le 5, 3) := by decide +kernel
theorem dX2_giveNameOn_89 : decode cX2_giveNameOn 89 = .ok (.iinc 3 1, 3) := by decide +kernel
theorem dX2_giveNameOn_92 : decode cX2_giveNameOn 92 = .ok (.goto (-28), 3) := by decide +kernel
theorem dX2_giveNameOn_87 : decode cX2_giveNameOn 87 = .ok (.iload_n 3, 1) := by decide +kernel
theorem dX2_giveNameOn_88 : decode cX2_giveNameOn 88 = .ok (.istore_n 2, 1) := by decide +kernel
theorem dX2_giveNameOn_95 : decode cX2_giveNameOn 95 = .ok (.aload_n 0, 1) := by decide +kernel
theorem dX2_giveNameOn_96 : decode cX2_giveNameOn 96 = .ok (.getfield 48, 3) := by decide +kernel
theorem dX2_giveNameOn_99 : decode cX2_giveNameOn 99 = .ok (.iload_n 2, 1) := by decide +kernel
theorem dX2_giveNameOn_100 : decode cX2_giveNameOn 100 = .ok (.iaload, 1) := by decide +kernel
theorem dX2_giveNameOn_101 : decode cX2_giveNameOn 101 = .ok (.aload_n 0, 1) := by decide +kernel
theorem dX2_giveNameOn_102 : decode cX2_giveNameOn 102 = .ok (.getfield 51, 3) := by decide +kernel
theorem dX2_giveNameOn_105 : decode cX2_giveNameOn 105 = .ok (.iload_n 2, 1) := by decide +kernel
theorem dX2_giveNameOn_106 : decode cX2_giveNameOn 106 = .ok (.iaload, 1) := by decide +kernel
theorem dX2_giveNameOn_107 : decode cX2_giveNameOn 107 = .ok (.if_icmp .le 27, 3) := by decide +kernel
theorem dX2_giveNameOn_134 : decode cX2_giveNameOn 134 = .ok (.return_, 1) := by decide +kernel
theorem dX2_giveNameOn_110 : decode cX2_giveNameOn 110 = .ok (.aload_n 0, 1) := by decide +kernel
theorem dX2_giveNameOn_111 : decode cX2_giveNameOn 111 = .ok (.getfield 51, 3) := by decide +kernel
theorem dX2_giveNameOn_114 : decode cX2_giveNameOn 114 = .ok (.iload_n 2, 1) := by decide +kernel
theorem dX2_giveNameOn_115 : decode cX2_giveNameOn 115 = .ok (.aload_n 0, 1) := by decide +kernel
theorem dX2_giveNameOn_116 : decode cX2_giveNameOn 116 = .ok (.getfield 48, 3) := by decide +kernel
theorem dX2_giveNameOn_119 : decode cX2_giveNameOn 119 = .ok (.iload_n 2, 1) := by decide +kernel
theorem dX2_giveNameOn_120 : decode cX2_giveNameOn 120 = .ok (.iaload, 1) := by decide +kernel
theorem dX2_giveNameOn_121 : decode cX2_giveNameOn 121 = .ok (.iastore, 1) := by decide +kernel
theorem dX2_giveNameOn_122 : decode cX2_giveNameOn 122 = .ok (.aload_n 0, 1) := by decide +kernel
theorem dX2_giveNameOn_123 : decode cX2_giveNameOn 123 = .ok (.getfield 27, 3) := by decide +kernel
theorem dX2_giveNameOn_126 : decode cX2_giveNameOn 126 = .ok (.iload_n 2, 1) := by decide +kernel
theorem dX2_giveNameOn_127 : decode cX2_giveNameOn 127 = .ok (.aload_n 0, 1) := by decide +kernel
theorem dX2_giveNameOn_128 : decode cX2_giveNameOn 128 = .ok (.getfield 30, 3) := by decide +kernel
theorem dX2_giveNameOn_131 : decode cX2_giveNameOn 131 = .ok (.iload_n 1, 1) := by decide +kernel
theorem dX2_giveNameOn_132 : decode cX2_giveNameOn 132 = .ok (.iaload, 1) := by decide +kernel
theorem dX2_giveNameOn_133 : decode cX2_giveNameOn 133 = .ok (.iastore, 1) := by decide +kernel
theorem dX2_giveNamesOn_0 : decode cX2_giveNamesOn 0 = .ok (.aload_n 0, 1) := by decide +kernel
theorem dX2_giveNamesOn_1 : decode cX2_giveNamesOn 1 = .ok (.getfield 27, 3) := by decide +kernel
theorem dX2_giveNamesOn_4 : decode cX2_giveNamesOn 4 = .ok (.iconst 0, 1) := by decide +kernel
theorem dX2_giveNamesOn_5 : decode cX2_giveNamesOn 5 = .ok (.invokestatic 88, 3) := by decide +kernel
theorem dX2_giveNamesOn_8 : decode cX2_giveNamesOn 8 = .ok (.aload_n 0, 1) := by decide +kernel
theorem dX2_giveNamesOn_9 : decode cX2_giveNamesOn 9 = .ok (.getfield 51, 3) := by decide +kernel
theorem dX2_giveNamesOn_12 : decode cX2_giveNamesOn 12 = .ok (.iconst 0, 1) := by decide +kernel
theorem dX2_giveNamesOn_13 : decode cX2_giveNamesOn 13 = .ok (.invokestatic 88, 3) := by decide +kernel
theorem dX2_giveNamesOn_16 : decode cX2_giveNamesOn 16 = .ok (.iconst 0, 1) := by decide +kernel
theorem dX2_giveNamesOn_17 : decode cX2_giveNamesOn 17 = .ok (.istore_n 2, 1) := by decide +kernel
theorem dX2_giveNamesOn_18 : decode cX2_giveNamesOn 18 = .ok (.iload_n 2, 1) := by decide +kernel
theorem dX2_giveNamesOn_19 : decode cX2_giveNamesOn 19 = .ok (.iload_n 1, 1) := by decide +kernel
theorem dX2_giveNamesOn_20 : decode cX2_giveNamesOn 20 = .ok (.if_icmp .ge 23, 3) := by decide +kernel
theorem dX2_giveNamesOn_23 : decode cX2_giveNamesOn 23 = .ok (.aload_n 0, 1) := by decide +kernel
theorem dX2_giveNamesOn_24 : decode cX2_giveNamesOn 24 = .ok (.getfield 30, 3) := by decide +kernel
theorem dX2_giveNamesOn_27 : decode cX2_giveNamesOn 27 = .ok (.iload_n 2, 1) := by decide +kernel
theorem dX2_giveNamesOn_28 : decode cX2_giveNamesOn 28 = .ok (.iaload, 1) := by decide +kernel
theorem dX2_giveNamesOn_29 : decode cX2_giveNamesOn 29 = .ok (.ifCond .eq 8, 3) := by decide +kernel
theorem dX2_giveNamesOn_37 : decode cX2_giveNamesOn 37 = .ok (.iinc 2 1, 3) := by decide +kernel
theorem dX2_giveNamesOn_40 : decode cX2_giveNamesOn 40 = .ok (.goto (-22), 3) := by decide +kernel
theorem dX2_giveNamesOn_32 : decode cX2_giveNamesOn 32 = .ok (.aload_n 0, 1) := by decide +kernel
theorem dX2_giveNamesOn_33 : decode cX2_giveNamesOn 33 = .ok (.iload_n 2, 1) := by decide +kernel
theorem dX2_giveNamesOn_34 : decode cX2_giveNamesOn 34 = .ok (.invokevirtual 173, 3) := by decide +kernel
theorem dX2_giveNamesOn_43 : decode cX2_giveNamesOn 43 = .ok (.return_, 1) := by decide +kernel
theorem dX2_findSpaces_0 : decode cX2_findSpaces 0 = .ok (.aload_n 0, 1) := by decide +kernel
theorem dX2_findSpaces_1 : decode cX2_findSpaces 1 = .ok (.getfield 58, 3) := by decide +kernel
theorem dX2_findSpaces_4 : decode cX2_findSpaces 4 = .ok (.istore_n 1, 1) := by decide +kernel
theorem dX2_findSpaces_5 : decode cX2_findSpaces 5 = .ok (.aload_n 0, 1) := by decide +kernel
theorem dX2_findSpaces_6 : decode cX2_findSpaces 6 = .ok (.invokevirtual 62, 3) := by decide +kernel
theorem dX2_findSpaces_9 : decode cX2_findSpaces 9 = .ok (.aload_n 0, 1) := by decide +kernel
theorem dX2_findSpaces_10 : decode cX2_findSpaces 10 = .ok (.invokevirtual 65, 3) := by decide +kernel
theorem dX2_findSpaces_13 : decode cX2_findSpaces 13 = .ok (.aload_n 0, 1) := by decide +kernel
theorem dX2_findSpaces_14 : decode cX2_findSpaces 14 = .ok (.invokevirtual 68, 3) := by decide +kernel
theorem dX2_findSpaces_17 : decode cX2_findSpaces 17 = .ok (.aload_n 0, 1) := by decide +kernel
theorem dX2_findSpaces_18 : decode cX2_findSpaces 18 = .ok (.invokevirtual 71, 3) := by decide +kernel
theorem dX2_findSpaces_21 : decode cX2_findSpaces 21 = .ok (.aload_n 0, 1) := by decide +kernel
theorem dX2_findSpaces_22 : decode cX2_findSpaces 22 = .ok (.invokevirtual 74, 3) := by decide +kernel
theorem dX2_findSpaces_25 : decode cX2_findSpaces 25 = .ok (.aload_n 0, 1) := by decide +kernel
theorem dX2_findSpaces_26 : decode cX2_findSpaces 26 = .ok (.iload_n 1, 1) := by decide +kernel
theorem dX2_findSpaces_27 : decode cX2_findSpaces 27 = .ok (.invokevirtual 77, 3) := by decide +kernel
theorem dX2_findSpaces_30 : decode cX2_findSpaces 30 = .ok (.aload_n 0, 1) := by decide +kernel
theorem dX2_findSpaces_31 : decode cX2_findSpaces 31 = .ok (.dup, 1) := by decide +kernel
theorem dX2_findSpaces_32 : decode cX2_findSpaces 32 = .ok (.getfield 81, 3) := by decide +kernel
theorem dX2_findSpaces_35 : decode cX2_findSpaces 35 = .ok (.iconst 1, 1) := by decide +kernel
theorem dX2_findSpaces_36 : decode cX2_findSpaces 36 = .ok (.iadd, 1) := by decide +kernel
theorem dX2_findSpaces_37 : decode cX2_findSpaces 37 = .ok (.putfield 81, 3) := by decide +kernel
theorem dX2_findSpaces_40 : decode cX2_findSpaces 40 = .ok (.aload_n 0, 1) := by decide +kernel
theorem dX2_findSpaces_41 : decode cX2_findSpaces 41 = .ok (.iconst 1, 1) := by decide +kernel
theorem dX2_findSpaces_42 : decode cX2_findSpaces 42 = .ok (.putfield 84, 3) := by decide +kernel
theorem dX2_findSpaces_45 : decode cX2_findSpaces 45 = .ok (.aload_n 0, 1) := by decide +kernel
theorem dX2_findSpaces_46 : decode cX2_findSpaces 46 = .ok (.getfield 58, 3) := by decide +kernel
theorem dX2_findSpaces_49 : decode cX2_findSpaces 49 = .ok (.ireturn, 1) := by decide +kernel
theorem dX8_distanceTo_0 : decode cX8_distanceTo 0 = .ok (.iload_n 2, 1) := by decide +kernel
theorem dX8_distanceTo_1 : decode cX8_distanceTo 1 = .ok (.aload_n 0, 1) := by decide +kernel
theorem dX8_distanceTo_2 : decode cX8_distanceTo 2 = .ok (.getfield 13, 3) := by decide +kernel
theorem dX8_distanceTo_5 : decode cX8_distanceTo 5 = .ok (.iload_n 1, 1) := by decide +kernel
theorem dX8_distanceTo_6 : decode cX8_distanceTo 6 = .ok (.aaload, 1) := by decide +kernel
theorem dX8_distanceTo_7 : decode cX8_distanceTo 7 = .ok (.iconst 0, 1) := by decide +kernel
theorem dX8_distanceTo_8 : decode cX8_distanceTo 8 = .ok (.iaload, 1) := by decide +kernel
theorem dX8_distanceTo_9 : decode cX8_distanceTo 9 = .ok (.isub, 1) := by decide +kernel
theorem dX8_distanceTo_10 : decode cX8_distanceTo 10 = .ok (.iload_n 3, 1) := by decide +kernel
theorem dX8_distanceTo_11 : decode cX8_distanceTo 11 = .ok (.iadd, 1) := by decide +kernel
theorem dX8_distanceTo_12 : decode cX8_distanceTo 12 = .ok (.aload_n 0, 1) := by decide +kernel
theorem dX8_distanceTo_13 : decode cX8_distanceTo 13 = .ok (.getfield 13, 3) := by decide +kernel
theorem dX8_distanceTo_16 : decode cX8_distanceTo 16 = .ok (.iload_n 1, 1) := by decide +kernel
theorem dX8_distanceTo_17 : decode cX8_distanceTo 17 = .ok (.aaload, 1) := by decide +kernel
theorem dX8_distanceTo_18 : decode cX8_distanceTo 18 = .ok (.iconst 1, 1) := by decide +kernel
theorem dX8_distanceTo_19 : decode cX8_distanceTo 19 = .ok (.iaload, 1) := by decide +kernel
theorem dX8_distanceTo_20 : decode cX8_distanceTo 20 = .ok (.isub, 1) := by decide +kernel
theorem dX8_distanceTo_21 : decode cX8_distanceTo 21 = .ok (.ireturn, 1) := by decide +kernel
theorem dX2_distanceBeside_0 : decode cX2_distanceBeside 0 = .ok (.aload_n 0, 1) := by decide +kernel
theorem dX2_distanceBeside_1 : decode cX2_distanceBeside 1 = .ok (.iload_n 1, 1) := by decide +kernel
theorem dX2_distanceBeside_2 : decode cX2_distanceBeside 2 = .ok (.iload_n 2, 1) := by decide +kernel
theorem dX2_distanceBeside_3 : decode cX2_distanceBeside 3 = .ok (.invokevirtual 130, 3) := by decide +kernel
theorem dX2_distanceBeside_6 : decode cX2_distanceBeside 6 = .ok (.istore 4, 2) := by decide +kernel
theorem dX2_distanceBeside_8 : decode cX2_distanceBeside 8 = .ok (.aload_n 0, 1) := by decide +kernel
theorem dX2_distanceBeside_9 : decode cX2_distanceBeside 9 = .ok (.getfield 54, 3) := by decide +kernel
theorem dX2_distanceBeside_12 : decode cX2_distanceBeside 12 = .ok (.iload_n 3, 1) := by decide +kernel
theorem dX2_distanceBeside_13 : decode cX2_distanceBeside 13 = .ok (.iload 4, 2) := by decide +kernel
theorem dX2_distanceBeside_15 : decode cX2_distanceBeside 15 = .ok (.bipush 25, 2) := by decide +kernel
theorem dX2_distanceBeside_17 : decode cX2_distanceBeside 17 = .ok (.idiv, 1) := by decide +kernel
theorem dX2_distanceBeside_18 : decode cX2_distanceBeside 18 = .ok (.iload 4, 2) := by decide +kernel
theorem dX2_distanceBeside_20 : decode cX2_distanceBeside 20 = .ok (.bipush 25, 2) := by decide +kernel
theorem dX2_distanceBeside_22 : decode cX2_distanceBeside 22 = .ok (.irem, 1) := by decide +kernel
theorem dX2_distanceBeside_23 : decode cX2_distanceBeside 23 = .ok (.invokevirtual 133, 3) := by decide +kernel
theorem dX2_distanceBeside_26 : decode cX2_distanceBeside 26 = .ok (.ireturn, 1) := by decide +kernel
theorem dX2_countPoints_0 : decode cX2_countPoints 0 = .ok (.iconst 0, 1) := by decide +kernel
theorem dX2_countPoints_1 : decode cX2_countPoints 1 = .ok (.istore_n 1, 1) := by decide +kernel
theorem dX2_countPoints_2 : decode cX2_countPoints 2 = .ok (.iconst 0, 1) := by decide +kernel
theorem dX2_countPoints_3 : decode cX2_countPoints 3 = .ok (.istore_n 2, 1) := by decide +kernel
theorem dX2_countPoints_4 : decode cX2_countPoints 4 = .ok (.iload_n 2, 1) := by decide +kernel
theorem dX2_countPoints_5 : decode cX2_countPoints 5 = .ok (.sipush 625, 3) := by decide +kernel
theorem dX2_countPoints_8 : decode cX2_countPoints 8 = .ok (.if_icmp .ge 26, 3) := by decide +kernel
theorem dX2_countPoints_11 : decode cX2_countPoints 11 = .ok (.iload_n 1, 1) := by decide +kernel
theorem dX2_countPoints_12 : decode cX2_countPoints 12 = .ok (.aload_n 0, 1) := by decide +kernel
theorem dX2_countPoints_13 : decode cX2_countPoints 13 = .ok (.getfield 16, 3) := by decide +kernel
theorem dX2_countPoints_16 : decode cX2_countPoints 16 = .ok (.iload_n 2, 1) := by decide +kernel
theorem dX2_countPoints_17 : decode cX2_countPoints 17 = .ok (.baload, 1) := by decide +kernel
theorem dX2_countPoints_18 : decode cX2_countPoints 18 = .ok (.ifCond .eq 7, 3) := by decide +kernel
theorem dX2_countPoints_25 : decode cX2_countPoints 25 = .ok (.iconst 0, 1) := by decide +kernel
theorem dX2_countPoints_26 : decode cX2_countPoints 26 = .ok (.iadd, 1) := by decide +kernel
theorem dX2_countPoints_27 : decode cX2_countPoints 27 = .ok (.istore_n 1, 1) := by decide +kernel
theorem dX2_countPoints_28 : decode cX2_countPoints 28 = .ok (.iinc 2 1, 3) := by decide +kernel
theorem dX2_countPoints_31 : decode cX2_countPoints 31 = .ok (.goto (-27), 3) := by decide +kernel
theorem dX2_countPoints_21 : decode cX2_countPoints 21 = .ok (.iconst 1, 1) := by decide +kernel
theorem dX2_countPoints_22 : decode cX2_countPoints 22 = .ok (.goto 4, 3) := by decide +kernel
theorem dX2_countPoints_34 : decode cX2_countPoints 34 = .ok (.iload_n 1, 1) := by decide +kernel
theorem dX2_countPoints_35 : decode cX2_countPoints 35 = .ok (.ireturn, 1) := by decide +kernel
theorem dX2_countPieces_0 : decode cX2_countPieces 0 = .ok (.aload_n 0, 1) := by decide +kernel
theorem dX2_countPieces_1 : decode cX2_countPieces 1 = .ok (.getfield 142, 3) := by decide +kernel
theorem dX2_countPieces_4 : decode cX2_countPieces 4 = .ok (.iconst 2, 1) := by decide +kernel
theorem dX2_countPieces_5 : decode cX2_countPieces 5 = .ok (.idiv, 1) := by decide +kernel
theorem dX2_countPieces_6 : decode cX2_countPieces 6 = .ok (.ireturn, 1) := by decide +kernel
theorem dX2_countOutsideSides_0 : decode cX2_countOutsideSides 0 = .ok (.iconst 0, 1) := by decide +kernel
theorem dX2_countOutsideSides_1 : decode cX2_countOutsideSides 1 = .ok (.istore_n 1, 1) := by decide +kernel
theorem dX2_countOutsideSides_2 : decode cX2_countOutsideSides 2 = .ok (.iconst 0, 1) := by decide +kernel
theorem dX2_countOutsideSides_3 : decode cX2_countOutsideSides 3 = .ok (.istore_n 2, 1) := by decide +kernel
theorem dX2_countOutsideSides_4 : decode cX2_countOutsideSides 4 = .ok (.iload_n 2, 1) := by decide +kernel
theorem dX2_countOutsideSides_5 : decode cX2_countOutsideSides 5 = .ok (.aload_n 0, 1) := by decide +kernel
theorem dX2_countOutsideSides_6 : decode cX2_countOutsideSides 6 = .ok (.getfield 139, 3) := by decide +kernel
theorem dX2_countOutsideSides_9 : decode cX2_countOutsideSides 9 = .ok (.if_icmp .ge 36, 3) := by decide +kernel
theorem dX2_countOutsideSides_12 : decode cX2_countOutsideSides 12 = .ok (.iload_n 1, 1) := by decide +kernel
theorem dX2_countOutsideSides_13 : decode cX2_countOutsideSides 13 = .ok (.aload_n 0, 1) := by decide +kernel
theorem dX2_countOutsideSides_14 : decode cX2_countOutsideSides 14 = .ok (.getfield 39, 3) := by decide +kernel
theorem dX2_countOutsideSides_17 : decode cX2_countOutsideSides 17 = .ok (.iload_n 2, 1) := by decide +kernel
theorem dX2_countOutsideSides_18 : decode cX2_countOutsideSides 18 = .ok (.aaload, 1) := by decide +kernel
theorem dX2_countOutsideSides_19 : decode cX2_countOutsideSides 19 = .ok (.iconst 0, 1) := by decide +kernel
theorem dX2_countOutsideSides_20 : decode cX2_countOutsideSides 20 = .ok (.iaload, 1) := by decide +kernel
theorem dX2_countOutsideSides_21 : decode cX2_countOutsideSides 21 = .ok (.iconst (-1), 1) := by decide +kernel
theorem dX2_countOutsideSides_22 : decode cX2_countOutsideSides 22 = .ok (.if_icmp .ne 14, 3) := by decide +kernel
theorem dX2_countOutsideSides_36 : decode cX2_countOutsideSides 36 = .ok (.iconst 0, 1) := by decide +kernel
theorem dX2_countOutsideSides_37 : decode cX2_countOutsideSides 37 = .ok (.iadd, 1) := by decide +kernel
theorem dX2_countOutsideSides_38 : decode cX2_countOutsideSides 38 = .ok (.istore_n 1, 1) := by decide +kernel
theorem dX2_countOutsideSides_39 : decode cX2_countOutsideSides 39 = .ok (.iinc 2 1, 3) := by decide +kernel
theorem dX2_countOutsideSides_42 : decode cX2_countOutsideSides 42 = .ok (.goto (-38), 3) := by decide +kernel
theorem dX2_countOutsideSides_25 : decode cX2_countOutsideSides 25 = .ok (.aload_n 0, 1) := by decide +kernel
theorem dX2_countOutsideSides_26 : decode cX2_countOutsideSides 26 = .ok (.getfield 39, 3) := by decide +kernel
theorem dX2_countOutsideSides_29 : decode cX2_countOutsideSides 29 = .ok (.iload_n 2, 1) := by decide +kernel
theorem dX2_countOutsideSides_30 : decode cX2_countOutsideSides 30 = .ok (.aaload, 1) := by decide +kernel
theorem dX2_countOutsideSides_31 : decode cX2_countOutsideSides 31 = .ok (.iconst 2, 1) := by decide +kernel
theorem dX2_countOutsideSides_32 : decode cX2_countOutsideSides 32 = .ok (.iaload, 1) := by decide +kernel
theorem dX2_countOutsideSides_33 : decode cX2_countOutsideSides 33 = .ok (.goto 4, 3) := by decide +kernel
theorem dX2_countOutsideSides_45 : decode cX2_countOutsideSides 45 = .ok (.iload_n 1, 1) := by decide +kernel
theorem dX2_countOutsideSides_46 : decode cX2_countOutsideSides 46 = .ok (.ireturn, 1) := by decide +kernel
theorem dX2_findRing_0 : decode cX2_findRing 0 = .ok (.iconst 0, 1) := by decide +kernel
theorem dX2_findRing_1 : decode cX2_findRing 1 = .ok (.istore_n 3, 1) := by decide +kernel
theorem dX2_findRing_2 : decode cX2_findRing 2 = .ok (.iconst 0, 1) := by decide +kernel
theorem dX2_findRing_3 : decode cX2_findRing 3 = .ok (.istore 4, 2) := by decide +kernel
theorem dX2_findRing_5 : decode cX2_findRing 5 = .ok (.iload 4, 2) := by decide +kernel
theorem dX2_findRing_7 : decode cX2_findRing 7 = .ok (.aload_n 0, 1) := by decide +kernel
theorem dX2_findRing_8 : decode cX2_findRing 8 = .ok (.getfield 139, 3) := by decide +kernel
theorem dX2_findRing_11 : decode cX2_findRing 11 = .ok (.if_icmp .ge 33, 3) := by decide +kernel
theorem dX2_findRing_14 : decode cX2_findRing 14 = .ok (.aload_n 0, 1) := by decide +kernel
theorem dX2_findRing_15 : decode cX2_findRing 15 = .ok (.getfield 39, 3) := by decide +kernel
theorem dX2_findRing_18 : decode cX2_findRing 18 = .ok (.iload 4, 2) := by decide +kernel
theorem dX2_findRing_20 : decode cX2_findRing 20 = .ok (.aaload, 1) := by decide +kernel
theorem dX2_findRing_21 : decode cX2_findRing 21 = .ok (.iconst 0, 1) := by decide +kernel
theorem dX2_findRing_22 : decode cX2_findRing 22 = .ok (.iaload, 1) := by decide +kernel
theorem dX2_findRing_23 : decode cX2_findRing 23 = .ok (.iload_n 1, 1) := by decide +kernel
theorem dX2_findRing_24 : decode cX2_findRing 24 = .ok (.if_icmp .ne 14, 3) := by decide +kernel
theorem dX2_findRing_38 : decode cX2_findRing 38 = .ok (.iinc 4 1, 3) := by decide +kernel
theorem dX2_findRing_41 : decode cX2_findRing 41 = .ok (.goto (-36), 3) := by decide +kernel
theorem dX2_findRing_27 : decode cX2_findRing 27 = .ok (.iload_n 3, 1) := by decide +kernel
theorem dX2_findRing_28 : decode cX2_findRing 28 = .ok (.iload_n 2, 1) := by decide +kernel
theorem dX2_findRing_29 : decode cX2_findRing 29 = .ok (.if_icmp .ne 6, 3) := by decide +kernel
theorem dX2_findRing_35 : decode cX2_findRing 35 = .ok (.iinc 3 1, 3) := by decide +kernel
theorem dX2_findRing_32 : decode cX2_findRing 32 = .ok (.iload 4, 2) := by decide +kernel
theorem dX2_findRing_34 : decode cX2_findRing 34 = .ok (.ireturn, 1) := by decide +kernel
theorem dX2_findRing_44 : decode cX2_findRing 44 = .ok (.iconst (-1), 1) := by decide +kernel
theorem dX2_findRing_45 : decode cX2_findRing 45 = .ok (.ireturn, 1) := by decide +kernel
theorem dX2_sidesOf_0 : decode cX2_sidesOf 0 = .ok (.aload_n 0, 1) := by decide +kernel
theorem dX2_sidesOf_1 : decode cX2_sidesOf 1 = .ok (.iload_n 1, 1) := by decide +kernel
theorem dX2_sidesOf_2 : decode cX2_sidesOf 2 = .ok (.iload_n 2, 1) := by decide +kernel
theorem dX2_sidesOf_3 : decode cX2_sidesOf 3 = .ok (.invokevirtual 179, 3) := by decide +kernel
theorem dX2_sidesOf_6 : decode cX2_sidesOf 6 = .ok (.istore_n 3, 1) := by decide +kernel
theorem dX2_sidesOf_7 : decode cX2_sidesOf 7 = .ok (.iload_n 3, 1) := by decide +kernel
theorem dX2_sidesOf_8 : decode cX2_sidesOf 8 = .ok (.iconst (-1), 1) := by decide +kernel
theorem dX2_sidesOf_9 : decode cX2_sidesOf 9 = .ok (.if_icmp .ne 7, 3) := by decide +kernel
theorem dX2_sidesOf_16 : decode cX2_sidesOf 16 = .ok (.aload_n 0, 1) := by decide +kernel
theorem dX2_sidesOf_17 : decode cX2_sidesOf 17 = .ok (.getfield 39, 3) := by decide +kernel
theorem dX2_sidesOf_20 : decode cX2_sidesOf 20 = .ok (.iload_n 3, 1) := by decide +kernel
theorem dX2_sidesOf_21 : decode cX2_sidesOf 21 = .ok (.aaload, 1) := by decide +kernel
theorem dX2_sidesOf_22 : decode cX2_sidesOf 22 = .ok (.iconst 2, 1) := by decide +kernel
theorem dX2_sidesOf_23 : decode cX2_sidesOf 23 = .ok (.iaload, 1) := by decide +kernel
theorem dX2_sidesOf_24 : decode cX2_sidesOf 24 = .ok (.ireturn, 1) := by decide +kernel
theorem dX2_sidesOf_12 : decode cX2_sidesOf 12 = .ok (.iconst 0, 1) := by decide +kernel
theorem dX2_sidesOf_13 : decode cX2_sidesOf 13 = .ok (.goto 11, 3) := by decide +kernel
theorem dX2_sideOf_0 : decode cX2_sideOf 0 = .ok (.aload_n 0, 1) := by decide +kernel
theorem dX2_sideOf_1 : decode cX2_sideOf 1 = .ok (.iload_n 1, 1) := by decide +kernel
theorem dX2_sideOf_2 : decode cX2_sideOf 2 = .ok (.iload_n 2, 1) := by decide +kernel
theorem dX2_sideOf_3 : decode cX2_sideOf 3 = .ok (.invokevirtual 179, 3) := by decide +kernel
theorem dX2_sideOf_6 : decode cX2_sideOf 6 = .ok (.istore 5, 2) := by decide +kernel
theorem dX2_sideOf_8 : decode cX2_sideOf 8 = .ok (.iload 5, 2) := by decide +kernel
theorem dX2_sideOf_10 : decode cX2_sideOf 10 = .ok (.iconst (-1), 1) := by decide +kernel
theorem dX2_sideOf_11 : decode cX2_sideOf 11 = .ok (.if_icmp .ne 7, 3) := by decide +kernel
theorem dX2_sideOf_18 : decode cX2_sideOf 18 = .ok (.aload_n 0, 1) := by decide +kernel
theorem dX2_sideOf_19 : decode cX2_sideOf 19 = .ok (.getfield 42, 3) := by decide +kernel
theorem dX2_sideOf_22 : decode cX2_sideOf 22 = .ok (.aload_n 0, 1) := by decide +kernel
theorem dX2_sideOf_23 : decode cX2_sideOf 23 = .ok (.getfield 39, 3) := by decide +kernel
theorem dX2_sideOf_26 : decode cX2_sideOf 26 = .ok (.iload 5, 2) := by decide +kernel
theorem dX2_sideOf_28 : decode cX2_sideOf 28 = .ok (.aaload, 1) := by decide +kernel
theorem dX2_sideOf_29 : decode cX2_sideOf 29 = .ok (.iconst 1, 1) := by decide +kernel
theorem dX2_sideOf_30 : decode cX2_sideOf 30 = .ok (.iaload, 1) := by decide +kernel
theorem dX2_sideOf_31 : decode cX2_sideOf 31 = .ok (.iload_n 3, 1) := by decide +kernel
theorem dX2_sideOf_32 : decode cX2_sideOf 32 = .ok (.iadd, 1) := by decide +kernel
theorem dX2_sideOf_33 : decode cX2_sideOf 33 = .ok (.aaload, 1) := by decide +kernel
theorem dX2_sideOf_34 : decode cX2_sideOf 34 = .ok (.iload 4, 2) := by decide +kernel
theorem dX2_sideOf_36 : decode cX2_sideOf 36 = .ok (.iaload, 1) := by decide +kernel
theorem dX2_sideOf_37 : decode cX2_sideOf 37 = .ok (.ireturn, 1) := by decide +kernel
theorem dX2_sideOf_14 : decode cX2_sideOf 14 = .ok (.iconst (-1), 1) := by decide +kernel
theorem dX2_sideOf_15 : decode cX2_sideOf 15 = .ok (.goto 22, 3) := by decide +kernel
theorem dX2_countRings_0 : decode cX2_countRings 0 = .ok (.iconst 0, 1) := by decide +kernel
theorem dX2_countRings_1 : decode cX2_countRings 1 = .ok (.istore_n 2, 1) := by decide +kernel
theorem dX2_countRings_2 : decode cX2_countRings 2 = .ok (.iconst 0, 1) := by decide +kernel
theorem dX2_countRings_3 : decode cX2_countRings 3 = .ok (.istore_n 3, 1) := by decide +kernel
theorem dX2_countRings_4 : decode cX2_countRings 4 = .ok (.iload_n 3, 1) := by decide +kernel
theorem dX2_countRings_5 : decode cX2_countRings 5 = .ok (.aload_n 0, 1) := by decide +kernel
theorem dX2_countRings_6 : decode cX2_countRings 6 = .ok (.getfield 139, 3) := by decide +kernel
theorem dX2_countRings_9 : decode cX2_countRings 9 = .ok (.if_icmp .ge 29, 3) := by decide +kernel
theorem dX2_countRings_12 : decode cX2_countRings 12 = .ok (.iload_n 2, 1) := by decide +kernel
theorem dX2_countRings_13 : decode cX2_countRings 13 = .ok (.aload_n 0, 1) := by decide +kernel
theorem dX2_countRings_14 : decode cX2_countRings 14 = .ok (.getfield 39, 3) := by decide +kernel
theorem dX2_countRings_17 : decode cX2_countRings 17 = .ok (.iload_n 3, 1) := by decide +kernel
theorem dX2_countRings_18 : decode cX2_countRings 18 = .ok (.aaload, 1) := by decide +kernel
theorem dX2_countRings_19 : decode cX2_countRings 19 = .ok (.iconst 0, 1) := by decide +kernel
theorem dX2_countRings_20 : decode cX2_countRings 20 = .ok (.iaload, 1) := by decide +kernel
theorem dX2_countRings_21 : decode cX2_countRings 21 = .ok (.iload_n 1, 1) := by decide +kernel
theorem dX2_countRings_22 : decode cX2_countRings 22 = .ok (.if_icmp .ne 7, 3) := by decide +kernel
theorem dX2_countRings_29 : decode cX2_countRings 29 = .ok (.iconst 0, 1) := by decide +kernel
theorem dX2_countRings_30 : decode cX2_countRings 30 = .ok (.iadd, 1) := by decide +kernel
theorem dX2_countRings_31 : decode cX2_countRings 31 = .ok (.istore_n 2, 1) := by decide +kernel
theorem dX2_countRings_32 : decode cX2_countRings 32 = .ok (.iinc 3 1, 3) := by decide +kernel
theorem dX2_countRings_35 : decode cX2_countRings 35 = .ok (.goto (-31), 3) := by decide +kernel
theorem dX2_countRings_25 : decode cX2_countRings 25 = .ok (.iconst 1, 1) := by decide +kernel
theorem dX2_countRings_26 : decode cX2_countRings 26 = .ok (.goto 4, 3) := by decide +kernel
theorem dX2_countRings_38 : decode cX2_countRings 38 = .ok (.iload_n 2, 1) := by decide +kernel
theorem dX2_countRings_39 : decode cX2_countRings 39 = .ok (.ireturn, 1) := by decide +kernel
theorem dX2_measureOf_0 : decode cX2_measureOf 0 = .ok (.iload_n 2, 1) := by decide +kernel
theorem dX2_measureOf_1 : decode cX2_measureOf 1 = .ok (.lookupswitch 41 #[(0, 27), (1, 34)], 27) := by decide +kernel
theorem dX2_measureOf_42 : decode cX2_measureOf 42 = .ok (.aload_n 0, 1) := by decide +kernel
theorem dX2_measureOf_43 : decode cX2_measureOf 43 = .ok (.iload_n 1, 1) := by decide +kernel
theorem dX2_measureOf_44 : decode cX2_measureOf 44 = .ok (.invokevirtual 182, 3) := by decide +kernel
theorem dX2_measureOf_47 : decode cX2_measureOf 47 = .ok (.ireturn, 1) := by decide +kernel
theorem dX2_measureOf_28 : decode cX2_measureOf 28 = .ok (.aload_n 0, 1) := by decide +kernel
theorem dX2_measureOf_29 : decode cX2_measureOf 29 = .ok (.getfield 33, 3) := by decide +kernel
theorem dX2_measureOf_32 : decode cX2_measureOf 32 = .ok (.iload_n 1, 1) := by decide +kernel
theorem dX2_measureOf_33 : decode cX2_measureOf 33 = .ok (.iaload, 1) := by decide +kernel
theorem dX2_measureOf_34 : decode cX2_measureOf 34 = .ok (.ireturn, 1) := by decide +kernel
theorem dX2_measureOf_35 : decode cX2_measureOf 35 = .ok (.aload_n 0, 1) := by decide +kernel
theorem dX2_measureOf_36 : decode cX2_measureOf 36 = .ok (.getfield 36, 3) := by decide +kernel
theorem dX2_measureOf_39 : decode cX2_measureOf 39 = .ok (.iload_n 1, 1) := by decide +kernel
theorem dX2_measureOf_40 : decode cX2_measureOf 40 = .ok (.iaload, 1) := by decide +kernel
theorem dX2_measureOf_41 : decode cX2_measureOf 41 = .ok (.ireturn, 1) := by decide +kernel
theorem dX2_lengthBetween_0 : decode cX2_lengthBetween 0 = .ok (.iconst 0, 1) := by decide +kernel
theorem dX2_lengthBetween_1 : decode cX2_lengthBetween 1 = .ok (.istore_n 3, 1) := by decide +kernel
theorem dX2_lengthBetween_2 : decode cX2_lengthBetween 2 = .ok (.iconst 0, 1) := by decide +kernel
theorem dX2_lengthBetween_3 : decode cX2_lengthBetween 3 = .ok (.istore 4, 2) := by decide +kernel
theorem dX2_lengthBetween_5 : decode cX2_lengthBetween 5 = .ok (.iload 4, 2) := by decide +kernel
theorem dX2_lengthBetween_7 : decode cX2_lengthBetween 7 = .ok (.sipush 625, 3) := by decide +kernel
theorem dX2_lengthBetween_10 : decode cX2_lengthBetween 10 = .ok (.if_icmp .ge 118, 3) := by decide +kernel
theorem dX2_lengthBetween_13 : decode cX2_lengthBetween 13 = .ok (.iconst 0, 1) := by decide +kernel
theorem dX2_lengthBetween_14 : decode cX2_lengthBetween 14 = .ok (.istore 5, 2) := by decide +kernel
theorem dX2_lengthBetween_16 : decode cX2_lengthBetween 16 = .ok (.iload 5, 2) := by decide +kernel
theorem dX2_lengthBetween_18 : decode cX2_lengthBetween 18 = .ok (.iconst 2, 1) := by decide +kernel
theorem dX2_lengthBetween_19 : decode cX2_lengthBetween 19 = .ok (.if_icmp .ge 103, 3) := by decide +kernel
theorem dX2_lengthBetween_22 : decode cX2_lengthBetween 22 = .ok (.aload_n 0, 1) := by decide +kernel
theorem dX2_lengthBetween_23 : decode cX2_lengthBetween 23 = .ok (.iload 4, 2) := by decide +kernel
theorem dX2_lengthBetween_25 : decode cX2_lengthBetween 25 = .ok (.bipush 25, 2) := by decide +kernel
theorem dX2_lengthBetween_27 : decode cX2_lengthBetween 27 = .ok (.idiv, 1) := by decide +kernel
theorem dX2_lengthBetween_28 : decode cX2_lengthBetween 28 = .ok (.iload 4, 2) := by decide +kernel
theorem dX2_lengthBetween_30 : decode cX2_lengthBetween 30 = .ok (.bipush 25, 2) := by decide +kernel
theorem dX2_lengthBetween_32 : decode cX2_lengthBetween 32 = .ok (.irem, 1) := by decide +kernel
theorem dX2_lengthBetween_33 : decode cX2_lengthBetween 33 = .ok (.iload 5, 2) := by decide +kernel
theorem dX2_lengthBetween_35 : decode cX2_lengthBetween 35 = .ok (.invokevirtual 148, 3) := by decide +kernel
theorem dX2_lengthBetween_38 : decode cX2_lengthBetween 38 = .ok (.istore 6, 2) := by decide +kernel
theorem dX2_lengthBetween_40 : decode cX2_lengthBetween 40 = .ok (.aload_n 0, 1) := by decide +kernel
theorem dX2_lengthBetween_41 : decode cX2_lengthBetween 41 = .ok (.iload 4, 2) := by decide +kernel
theorem dX2_lengthBetween_43 : decode cX2_lengthBetween 43 = .ok (.bipush 25, 2) := by decide +kernel
theorem dX2_lengthBetween_45 : decode cX2_lengthBetween 45 = .ok (.idiv, 1) := by decide +kernel
theorem dX2_lengthBetween_46 : decode cX2_lengthBetween 46 = .ok (.iload 4, 2) := by decide +kernel
theorem dX2_lengthBetween_48 : decode cX2_lengthBetween 48 = .ok (.bipush 25, 2) := by decide +kernel
theorem dX2_lengthBetween_50 : decode cX2_lengthBetween 50 = .ok (.irem, 1) := by decide +kernel
theorem dX2_lengthBetween_51 : decode cX2_lengthBetween 51 = .ok (.iload 5, 2) := by decide +kernel
theorem dX2_lengthBetween_53 : decode cX2_lengthBetween 53 = .ok (.invokevirtual 167, 3) := by decide +kernel
theorem dX2_lengthBetween_56 : decode cX2_lengthBetween 56 = .ok (.istore 7, 2) := by decide +kernel
theorem dX2_lengthBetween_58 : decode cX2_lengthBetween 58 = .ok (.iload 6, 2) := by decide +kernel
theorem dX2_lengthBetween_60 : decode cX2_lengthBetween 60 = .ok (.iload_n 1, 1) := by decide +kernel
theorem dX2_lengthBetween_61 : decode cX2_lengthBetween 61 = .ok (.if_icmp .ne 9, 3) := by decide +kernel
theorem dX2_lengthBetween_70 : decode cX2_lengthBetween 70 = .ok (.iload 6, 2) := by decide +kernel
theorem dX2_lengthBetween_72 : decode cX2_lengthBetween 72 = .ok (.iload_n 2, 1) := by decide +kernel
theorem dX2_lengthBetween_73 : decode cX2_lengthBetween 73 = .ok (.if_icmp .ne 13, 3) := by decide +kernel
theorem dX2_lengthBetween_86 : decode cX2_lengthBetween 86 = .ok (.iconst 0, 1) := by decide +kernel
theorem dX2_lengthBetween_87 : decode cX2_lengthBetween 87 = .ok (.istore 8, 2) := by decide +kernel
theorem dX2_lengthBetween_89 : decode cX2_lengthBetween 89 = .ok (.iload_n 3, 1) := by decide +kernel
theorem dX2_lengthBetween_90 : decode cX2_lengthBetween 90 = .ok (.iload 8, 2) := by decide +kernel
theorem dX2_lengthBetween_92 : decode cX2_lengthBetween 92 = .ok (.ifCond .eq 21, 3) := by decide +kernel
theorem dX2_lengthBetween_113 : decode cX2_lengthBetween 113 = .ok (.iconst 0, 1) := by decide +kernel
theorem dX2_lengthBetween_114 : decode cX2_lengthBetween 114 = .ok (.iadd, 1) := by decide +kernel
theorem dX2_lengthBetween_115 : decode cX2_lengthBetween 115 = .ok (.istore_n 3, 1) := by decide +kernel
theorem dX2_lengthBetween_116 : decode cX2_lengthBetween 116 = .ok (.iinc 5 1, 3) := by decide +kernel
theorem dX2_lengthBetween_119 : decode cX2_lengthBetween 119 = .ok (.goto (-103), 3) := by decide +kernel
theorem dX2_lengthBetween_95 : decode cX2_lengthBetween 95 = .ok (.aload_n 0, 1) := by decide +kernel
theorem dX2_lengthBetween_96 : decode cX2_lengthBetween 96 = .ok (.getfield 13, 3) := by decide +kernel
theorem dX2_lengthBetween_99 : decode cX2_lengthBetween 99 = .ok (.iload 5, 2) := by decide +kernel
theorem dX2_lengthBetween_101 : decode cX2_lengthBetween 101 = .ok (.aaload, 1) := by decide +kernel
theorem dX2_lengthBetween_102 : decode cX2_lengthBetween 102 = .ok (.iload 4, 2) := by decide +kernel
theorem dX2_lengthBetween_104 : decode cX2_lengthBetween 104 = .ok (.iaload, 1) := by decide +kernel
theorem dX2_lengthBetween_105 : decode cX2_lengthBetween 105 = .ok (.iconst (-1), 1) := by decide +kernel
theorem dX2_lengthBetween_106 : decode cX2_lengthBetween 106 = .ok (.if_icmp .eq 7, 3) := by decide +kernel
theorem dX2_lengthBetween_109 : decode cX2_lengthBetween 109 = .ok (.iconst 1, 1) := by decide +kernel
theorem dX2_lengthBetween_110 : decode cX2_lengthBetween 110 = .ok (.goto 4, 3) := by decide +kernel
theorem dX2_lengthBetween_76 : decode cX2_lengthBetween 76 = .ok (.iload 7, 2) := by decide +kernel
theorem dX2_lengthBetween_78 : decode cX2_lengthBetween 78 = .ok (.iload_n 1, 1) := by decide +kernel
theorem dX2_lengthBetween_79 : decode cX2_lengthBetween 79 = .ok (.if_icmp .ne 7, 3) := by decide +kernel
theorem dX2_lengthBetween_82 : decode cX2_lengthBetween 82 = .ok (.iconst 1, 1) := by decide +kernel
theorem dX2_lengthBetween_83 : decode cX2_lengthBetween 83 = .ok (.goto 4, 3) := by decide +kernel
theorem dX2_lengthBetween_64 : decode cX2_lengthBetween 64 = .ok (.iload 7, 2) := by decide +kernel
theorem dX2_lengthBetween_66 : decode cX2_lengthBetween 66 = .ok (.iload_n 2, 1) := by decide +kernel
theorem dX2_lengthBetween_67 : decode cX2_lengthBetween 67 = .ok (.if_icmp .eq 15, 3) := by decide +kernel
theorem dX2_lengthBetween_122 : decode cX2_lengthBetween 122 = .ok (.iinc 4 1, 3) := by decide +kernel
theorem dX2_lengthBetween_125 : decode cX2_lengthBetween 125 = .ok (.goto (-120), 3) := by decide +kernel
theorem dX2_lengthBetween_128 : decode cX2_lengthBetween 128 = .ok (.iload_n 3, 1) := by decide +kernel
theorem dX2_lengthBetween_129 : decode cX2_lengthBetween 129 = .ok (.ireturn, 1) := by decide +kernel
theorem dX2_goThrough_0 : decode cX2_goThrough 0 = .ok (.iconst 0, 1) := by decide +kernel
theorem dX2_goThrough_1 : decode cX2_goThrough 1 = .ok (.istore 4, 2) := by decide +kernel
theorem dX2_goThrough_3 : decode cX2_goThrough 3 = .ok (.aload_n 0, 1) := by decide +kernel
theorem dX2_goThrough_4 : decode cX2_goThrough 4 = .ok (.getfield 54, 3) := by decide +kernel
theorem dX2_goThrough_7 : decode cX2_goThrough 7 = .ok (.iload_n 1, 1) := by decide +kernel
theorem dX2_goThrough_8 : decode cX2_goThrough 8 = .ok (.iload_n 2, 1) := by decide +kernel
theorem dX2_goThrough_9 : decode cX2_goThrough 9 = .ok (.invokevirtual 192, 3) := by decide +kernel
theorem dX2_goThrough_12 : decode cX2_goThrough 12 = .ok (.istore 5, 2) := by decide +kernel
theorem dX2_goThrough_14 : decode cX2_goThrough 14 = .ok (.aload_n 0, 1) := by decide +kernel
theorem dX2_goThrough_15 : decode cX2_goThrough 15 = .ok (.getfield 54, 3) := by decide +kernel
theorem dX2_goThrough_18 : decode cX2_goThrough 18 = .ok (.iload_n 1, 1) := by decide +kernel
theorem dX2_goThrough_19 : decode cX2_goThrough 19 = .ok (.iload_n 2, 1) := by decide +kernel
theorem dX2_goThrough_20 : decode cX2_goThrough 20 = .ok (.invokevirtual 195, 3) := by decide +kernel
theorem dX2_goThrough_23 : decode cX2_goThrough 23 = .ok (.istore 6, 2) := by decide +kernel
theorem dX2_goThrough_25 : decode cX2_goThrough 25 = .ok (.iload 6, 2) := by decide +kernel
theorem dX2_goThrough_27 : decode cX2_goThrough 27 = .ok (.iload 5, 2) := by decide +kernel
theorem dX2_goThrough_29 : decode cX2_goThrough 29 = .ok (.if_icmp .ge 104, 3) := by decide +kernel
theorem dX2_goThrough_32 : decode cX2_goThrough 32 = .ok (.aload_n 0, 1) := by decide +kernel
theorem dX2_goThrough_33 : decode cX2_goThrough 33 = .ok (.iload_n 1, 1) := by decide +kernel
theorem dX2_goThrough_34 : decode cX2_goThrough 34 = .ok (.iload 6, 2) := by decide +kernel
theorem dX2_goThrough_36 : decode cX2_goThrough 36 = .ok (.invokevirtual 198, 3) := by decide +kernel
theorem dX2_goThrough_39 : decode cX2_goThrough 39 = .ok (.iconst 1, 1) := by decide +kernel
theorem dX2_goThrough_40 : decode cX2_goThrough 40 = .ok (.iadd, 1) := by decide +kernel
theorem dX2_goThrough_41 : decode cX2_goThrough 41 = .ok (.istore 7, 2) := by decide +kernel
theorem dX2_goThrough_43 : decode cX2_goThrough 43 = .ok (.aload_n 0, 1) := by decide +kernel
theorem dX2_goThrough_44 : decode cX2_goThrough 44 = .ok (.iload_n 1, 1) := by decide +kernel
theorem dX2_goThrough_45 : decode cX2_goThrough 45 = .ok (.iload 6, 2) := by decide +kernel
theorem dX2_goThrough_47 : decode cX2_goThrough 47 = .ok (.invokevirtual 201, 3) := by decide +kernel
theorem dX2_goThrough_50 : decode cX2_goThrough 50 = .ok (.iconst 1, 1) := by decide +kernel
theorem dX2_goThrough_51 : decode cX2_goThrough 51 = .ok (.iadd, 1) := by decide +kernel
theorem dX2_goThrough_52 : decode cX2_goThrough 52 = .ok (.istore 8, 2) := by decide +kernel
theorem dX2_goThrough_54 : decode cX2_goThrough 54 = .ok (.aload_n 0, 1) := by decide +kernel
theorem dX2_goThrough_55 : decode cX2_goThrough 55 = .ok (.getfield 48, 3) := by decide +kernel
theorem dX2_goThrough_58 : decode cX2_goThrough 58 = .ok (.iload 7, 2) := by decide +kernel
theorem dX2_goThrough_60 : decode cX2_goThrough 60 = .ok (.iaload, 1) := by decide +kernel
theorem dX2_goThrough_61 : decode cX2_goThrough 61 = .ok (.iload_n 3, 1) := by decide +kernel
theorem dX2_goThrough_62 : decode cX2_goThrough 62 = .ok (.if_icmp .ne 30, 3) := by decide +kernel
theorem dX2_goThrough_92 : decode cX2_goThrough 92 = .ok (.aload_n 0, 1) := by decide +kernel
theorem dX2_goThrough_93 : decode cX2_goThrough 93 = .ok (.getfield 48, 3) := by decide +kernel
theorem dX2_goThrough_96 : decode cX2_goThrough 96 = .ok (.iload 8, 2) := by decide +kernel
theorem dX2_goThrough_98 : decode cX2_goThrough 98 = .ok (.iaload, 1) := by decide +kernel
theorem dX2_goThrough_99 : decode cX2_goThrough 99 = .ok (.iload_n 3, 1) := by decide +kernel
theorem dX2_goThrough_100 : decode cX2_goThrough 100 = .ok (.if_icmp .ne 27, 3) := by decide +kernel
theorem dX2_goThrough_127 : decode cX2_goThrough 127 = .ok (.iinc 6 1, 3) := by decide +kernel
theorem dX2_goThrough_130 : decode cX2_goThrough 130 = .ok (.goto (-105), 3) := by decide +kernel
theorem dX2_goThrough_103 : decode cX2_goThrough 103 = .ok (.aload_n 0, 1) := by decide +kernel
theorem dX2_goThrough_104 : decode cX2_goThrough 104 = .ok (.getfield 48, 3) := by decide +kernel
theorem dX2_goThrough_107 : decode cX2_goThrough 107 = .ok (.iload 7, 2) := by decide +kernel
theorem dX2_goThrough_109 : decode cX2_goThrough 109 = .ok (.iaload, 1) := by decide +kernel
theorem dX2_goThrough_110 : decode cX2_goThrough 110 = .ok (.iconst (-1), 1) := by decide +kernel
theorem dX2_goThrough_111 : decode cX2_goThrough 111 = .ok (.if_icmp .ne 16, 3) := by decide +kernel
theorem dX2_goThrough_114 : decode cX2_goThrough 114 = .ok (.aload_n 0, 1) := by decide +kernel
theorem dX2_goThrough_115 : decode cX2_goThrough 115 = .ok (.getfield 48, 3) := by decide +kernel
theorem dX2_goThrough_118 : decode cX2_goThrough 118 = .ok (.iload 7, 2) := by decide +kernel
theorem dX2_goThrough_120 : decode cX2_goThrough 120 = .ok (.iload_n 3, 1) := by decide +kernel
theorem dX2_goThrough_121 : decode cX2_goThrough 121 = .ok (.iconst 1, 1) := by decide +kernel
theorem dX2_goThrough_122 : decode cX2_goThrough 122 = .ok (.iadd, 1) := by decide +kernel
theorem dX2_goThrough_123 : decode cX2_goThrough 123 = .ok (.iastore, 1) := by decide +kernel
theorem dX2_goThrough_124 : decode cX2_goThrough 124 = .ok (.iconst 1, 1) := by decide +kernel
theorem dX2_goThrough_125 : decode cX2_goThrough 125 = .ok (.istore 4, 2) := by decide +kernel
theorem dX2_goThrough_65 : decode cX2_goThrough 65 = .ok (.aload_n 0, 1) := by decide +kernel
theorem dX2_goThrough_66 : decode cX2_goThrough 66 = .ok (.getfield 48, 3) := by decide +kernel
theorem dX2_goThrough_69 : decode cX2_goThrough 69 = .ok (.iload 8, 2) := by decide +kernel
theorem dX2_goThrough_71 : decode cX2_goThrough 71 = .ok (.iaload, 1) := by decide +kernel
theorem dX2_goThrough_72 : decode cX2_goThrough 72 = .ok (.iconst (-1), 1) := by decide +kernel
theorem dX2_goThrough_73 : decode cX2_goThrough 73 = .ok (.if_icmp .ne 19, 3) := by decide +kernel
theorem dX2_goThrough_76 : decode cX2_goThrough 76 = .ok (.aload_n 0, 1) := by decide +kernel
theorem dX2_goThrough_77 : decode cX2_goThrough 77 = .ok (.getfield 48, 3) := by decide +kernel
theorem dX2_goThrough_80 : decode cX2_goThrough 80 = .ok (.iload 8, 2) := by decide +kernel
theorem dX2_goThrough_82 : decode cX2_goThrough 82 = .ok (.iload_n 3, 1) := by decide +kernel
theorem dX2_goThrough_83 : decode cX2_goThrough 83 = .ok (.iconst 1, 1) := by decide +kernel
theorem dX2_goThrough_84 : decode cX2_goThrough 84 = .ok (.iadd, 1) := by decide +kernel
theorem dX2_goThrough_85 : decode cX2_goThrough 85 = .ok (.iastore, 1) := by decide +kernel
theorem dX2_goThrough_86 : decode cX2_goThrough 86 = .ok (.iconst 1, 1) := by decide +kernel
theorem dX2_goThrough_87 : decode cX2_goThrough 87 = .ok (.istore 4, 2) := by decide +kernel
theorem dX2_goThrough_89 : decode cX2_goThrough 89 = .ok (.goto 38, 3) := by decide +kernel
theorem dX2_goThrough_133 : decode cX2_goThrough 133 = .ok (.iload 4, 2) := by decide +kernel
theorem dX2_goThrough_135 : decode cX2_goThrough 135 = .ok (.ireturn, 1) := by decide +kernel
theorem dX2_doorsOnWay_0 : decode cX2_doorsOnWay 0 = .ok (.aload_n 0, 1) := by decide +kernel
theorem dX2_doorsOnWay_1 : decode cX2_doorsOnWay 1 = .ok (.getfield 48, 3) := by decide +kernel
theorem dX2_doorsOnWay_4 : decode cX2_doorsOnWay 4 = .ok (.iconst 0, 1) := by decide +kernel
theorem dX2_doorsOnWay_5 : decode cX2_doorsOnWay 5 = .ok (.aload_n 0, 1) := by decide +kernel
theorem dX2_doorsOnWay_6 : decode cX2_doorsOnWay 6 = .ok (.getfield 58, 3) := by decide +kernel
theorem dX2_doorsOnWay_9 : decode cX2_doorsOnWay 9 = .ok (.iconst 1, 1) := by decide +kernel
theorem dX2_doorsOnWay_10 : decode cX2_doorsOnWay 10 = .ok (.iadd, 1) := by decide +kernel
theorem dX2_doorsOnWay_11 : decode cX2_doorsOnWay 11 = .ok (.iconst (-1), 1) := by decide +kernel
theorem dX2_doorsOnWay_12 : decode cX2_doorsOnWay 12 = .ok (.invokestatic 176, 3) := by decide +kernel
theorem dX2_doorsOnWay_15 : decode cX2_doorsOnWay 15 = .ok (.aload_n 0, 1) := by decide +kernel
theorem dX2_doorsOnWay_16 : decode cX2_doorsOnWay 16 = .ok (.getfield 48, 3) := by decide +kernel
theorem dX2_doorsOnWay_19 : decode cX2_doorsOnWay 19 = .ok (.iload_n 1, 1) := by decide +kernel
theorem dX2_doorsOnWay_20 : decode cX2_doorsOnWay 20 = .ok (.iconst 1, 1) := by decide +kernel
theorem dX2_doorsOnWay_21 : decode cX2_doorsOnWay 21 = .ok (.iadd, 1) := by decide +kernel
theorem dX2_doorsOnWay_22 : decode cX2_doorsOnWay 22 = .ok (.iconst 0, 1) := by decide +kernel
theorem dX2_doorsOnWay_23 : decode cX2_doorsOnWay 23 = .ok (.iastore, 1) := by decide +kernel
theorem dX2_doorsOnWay_24 : decode cX2_doorsOnWay 24 = .ok (.iconst 1, 1) := by decide +kernel
theorem dX2_doorsOnWay_25 : decode cX2_doorsOnWay 25 = .ok (.istore_n 3, 1) := by decide +kernel
theorem dX2_doorsOnWay_26 : decode cX2_doorsOnWay 26 = .ok (.iconst 0, 1) := by decide +kernel
theorem dX2_doorsOnWay_27 : decode cX2_doorsOnWay 27 = .ok (.istore 4, 2) := by decide +kernel
theorem dX2_doorsOnWay_29 : decode cX2_doorsOnWay 29 = .ok (.iload 4, 2) := by decide +kernel
theorem dX2_doorsOnWay_31 : decode cX2_doorsOnWay 31 = .ok (.aload_n 0, 1) := by decide +kernel
theorem dX2_doorsOnWay_32 : decode cX2_doorsOnWay 32 = .ok (.getfield 58, 3) := by decide +kernel
theorem dX2_doorsOnWay_35 : decode cX2_doorsOnWay 35 = .ok (.if_icmp .gt 95, 3) := by decide +kernel
theorem dX2_doorsOnWay_38 : decode cX2_doorsOnWay 38 = .ok (.iload_n 3, 1) := by decide +kernel
theorem dX2_doorsOnWay_39 : decode cX2_doorsOnWay 39 = .ok (.ifCond .eq 91, 3) := by decide +kernel
theorem dX2_doorsOnWay_42 : decode cX2_doorsOnWay 42 = .ok (.aload_n 0, 1) := by decide +kernel
theorem dX2_doorsOnWay_43 : decode cX2_doorsOnWay 43 = .ok (.getfield 48, 3) := by decide +kernel
theorem dX2_doorsOnWay_46 : decode cX2_doorsOnWay 46 = .ok (.iload_n 2, 1) := by decide +kernel
theorem dX2_doorsOnWay_47 : decode cX2_doorsOnWay 47 = .ok (.iconst 1, 1) := by decide +kernel
theorem dX2_doorsOnWay_48 : decode cX2_doorsOnWay 48 = .ok (.iadd, 1) := by decide +kernel
theorem dX2_doorsOnWay_49 : decode cX2_doorsOnWay 49 = .ok (.iaload, 1) := by decide +kernel
theorem dX2_doorsOnWay_50 : decode cX2_doorsOnWay 50 = .ok (.iconst (-1), 1) := by decide +kernel
theorem dX2_doorsOnWay_51 : decode cX2_doorsOnWay 51 = .ok (.if_icmp .ne 79, 3) := by decide +kernel
theorem dX2_doorsOnWay_54 : decode cX2_doorsOnWay 54 = .ok (.iconst 0, 1) := by decide +kernel
theorem dX2_doorsOnWay_55 : decode cX2_doorsOnWay 55 = .ok (.istore_n 3, 1) := by decide +kernel
theorem dX2_doorsOnWay_56 : decode cX2_doorsOnWay 56 = .ok (.iconst 0, 1) := by decide +kernel
theorem dX2_doorsOnWay_57 : decode cX2_doorsOnWay 57 = .ok (.istore 5, 2) := by decide +kernel
theorem dX2_doorsOnWay_59 : decode cX2_doorsOnWay 59 = .ok (.iload 5, 2) := by decide +kernel
theorem dX2_doorsOnWay_61 : decode cX2_doorsOnWay 61 = .ok (.aload_n 0, 1) := by decide +kernel
theorem dX2_doorsOnWay_62 : decode cX2_doorsOnWay 62 = .ok (.getfield 54, 3) := by decide +kernel
theorem dX2_doorsOnWay_65 : decode cX2_doorsOnWay 65 = .ok (.getfield 94, 3) := by decide +kernel
theorem dX2_doorsOnWay_68 : decode cX2_doorsOnWay 68 = .ok (.if_icmp .ge 56, 3) := by decide +kernel
theorem dX2_doorsOnWay_71 : decode cX2_doorsOnWay 71 = .ok (.iconst 0, 1) := by decide +kernel
theorem dX2_doorsOnWay_72 : decode cX2_doorsOnWay 72 = .ok (.istore 6, 2) := by decide +kernel
theorem dX2_doorsOnWay_74 : decode cX2_doorsOnWay 74 = .ok (.iload 6, 2) := by decide +kernel
theorem dX2_doorsOnWay_76 : decode cX2_doorsOnWay 76 = .ok (.aload_n 0, 1) := by decide +kernel
theorem dX2_doorsOnWay_77 : decode cX2_doorsOnWay 77 = .ok (.getfield 54, 3) := by decide +kernel
theorem dX2_doorsOnWay_80 : decode cX2_doorsOnWay 80 = .ok (.getfield 185, 3) := by decide +kernel
theorem dX2_doorsOnWay_83 : decode cX2_doorsOnWay 83 = .ok (.iload 5, 2) := by decide +kernel
theorem dX2_doorsOnWay_85 : decode cX2_doorsOnWay 85 = .ok (.iaload, 1) := by decide +kernel
theorem dX2_doorsOnWay_86 : decode cX2_doorsOnWay 86 = .ok (.if_icmp .ge 32, 3) := by decide +kernel
theorem dX2_doorsOnWay_89 : decode cX2_doorsOnWay 89 = .ok (.aload_n 0, 1) := by decide +kernel
theorem dX2_doorsOnWay_90 : decode cX2_doorsOnWay 90 = .ok (.iload 5, 2) := by decide +kernel
theorem dX2_doorsOnWay_92 : decode cX2_doorsOnWay 92 = .ok (.iload 6, 2) := by decide +kernel
theorem dX2_doorsOnWay_94 : decode cX2_doorsOnWay 94 = .ok (.iload 4, 2) := by decide +kernel
theorem dX2_doorsOnWay_96 : decode cX2_doorsOnWay 96 = .ok (.invokevirtual 188, 3) := by decide +kernel
theorem dX2_doorsOnWay_99 : decode cX2_doorsOnWay 99 = .ok (.ifCond .ne 7, 3) := by decide +kernel
theorem dX2_doorsOnWay_106 : decode cX2_doorsOnWay 106 = .ok (.iconst 1, 1) := by decide +kernel
theorem dX2_doorsOnWay_107 : decode cX2_doorsOnWay 107 = .ok (.goto 4, 3) := by decide +kernel
theorem dX2_doorsOnWay_111 : decode cX2_doorsOnWay 111 = .ok (.istore_n 3, 1) := by decide +kernel
theorem dX2_doorsOnWay_112 : decode cX2_doorsOnWay 112 = .ok (.iinc 6 1, 3) := by decide +kernel
theorem dX2_doorsOnWay_115 : decode cX2_doorsOnWay 115 = .ok (.goto (-41), 3) := by decide +kernel
theorem dX2_doorsOnWay_102 : decode cX2_doorsOnWay 102 = .ok (.iload_n 3, 1) := by decide +kernel
theorem dX2_doorsOnWay_103 : decode cX2_doorsOnWay 103 = .ok (.ifCond .eq 7, 3) := by decide +kernel
theorem dX2_doorsOnWay_110 : decode cX2_doorsOnWay 110 = .ok (.iconst 0, 1) := by decide +kernel
theorem dX2_doorsOnWay_118 : decode cX2_doorsOnWay 118 = .ok (.iinc 5 1, 3) := by decide +kernel
theorem dX2_doorsOnWay_121 : decode cX2_doorsOnWay 121 = .ok (.goto (-62), 3) := by decide +kernel
theorem dX2_doorsOnWay_124 : decode cX2_doorsOnWay 124 = .ok (.iinc 4 1, 3) := by decide +kernel
theorem dX2_doorsOnWay_127 : decode cX2_doorsOnWay 127 = .ok (.goto (-98), 3) := by decide +kernel
theorem dX2_doorsOnWay_130 : decode cX2_doorsOnWay 130 = .ok (.aload_n 0, 1) := by decide +kernel
theorem dX2_doorsOnWay_131 : decode cX2_doorsOnWay 131 = .ok (.getfield 48, 3) := by decide +kernel
theorem dX2_doorsOnWay_134 : decode cX2_doorsOnWay 134 = .ok (.iload_n 2, 1) := by decide +kernel
theorem dX2_doorsOnWay_135 : decode cX2_doorsOnWay 135 = .ok (.iconst 1, 1) := by decide +kernel
theorem dX2_doorsOnWay_136 : decode cX2_doorsOnWay 136 = .ok (.iadd, 1) := by decide +kernel
theorem dX2_doorsOnWay_137 : decode cX2_doorsOnWay 137 = .ok (.iaload, 1) := by decide +kernel
theorem dX2_doorsOnWay_138 : decode cX2_doorsOnWay 138 = .ok (.iconst (-1), 1) := by decide +kernel
theorem dX2_doorsOnWay_139 : decode cX2_doorsOnWay 139 = .ok (.if_icmp .ne 8, 3) := by decide +kernel
theorem dX2_doorsOnWay_147 : decode cX2_doorsOnWay 147 = .ok (.aload_n 0, 1) := by decide +kernel
theorem dX2_doorsOnWay_148 : decode cX2_doorsOnWay 148 = .ok (.getfield 48, 3) := by decide +kernel
theorem dX2_doorsOnWay_151 : decode cX2_doorsOnWay 151 = .ok (.iload_n 2, 1) := by decide +kernel
theorem dX2_doorsOnWay_152 : decode cX2_doorsOnWay 152 = .ok (.iconst 1, 1) := by decide +kernel
theorem dX2_doorsOnWay_153 : decode cX2_doorsOnWay 153 = .ok (.iadd, 1) := by decide +kernel
theorem dX2_doorsOnWay_154 : decode cX2_doorsOnWay 154 = .ok (.iaload, 1) := by decide +kernel
theorem dX2_doorsOnWay_155 : decode cX2_doorsOnWay 155 = .ok (.ireturn, 1) := by decide +kernel
theorem dX2_doorsOnWay_142 : decode cX2_doorsOnWay 142 = .ok (.bipush (-2), 2) := by decide +kernel
theorem dX2_doorsOnWay_144 : decode cX2_doorsOnWay 144 = .ok (.goto 11, 3) := by decide +kernel
theorem dX3_init_0 : decode cX3_init 0 = .ok (.aload_n 0, 1) := by decide +kernel
theorem dX3_init_1 : decode cX3_init 1 = .ok (.invokespecial 3, 3) := by decide +kernel
theorem dX3_init_4 : decode cX3_init 4 = .ok (.aload_n 0, 1) := by decide +kernel
theorem dX3_init_5 : decode cX3_init 5 = .ok (.iconst 4, 1) := by decide +kernel
theorem dX3_init_6 : decode cX3_init 6 = .ok (.bipush 6, 2) := by decide +kernel
theorem dX3_init_8 : decode cX3_init 8 = .ok (.multianewarray 11 2, 4) := by decide +kernel
theorem dX3_init_12 : decode cX3_init 12 = .ok (.putfield 13, 3) := by decide +kernel
theorem dX3_init_15 : decode cX3_init 15 = .ok (.aload_n 0, 1) := by decide +kernel
theorem dX3_init_16 : decode cX3_init 16 = .ok (.sipush 400, 3) := by decide +kernel
theorem dX3_init_19 : decode cX3_init 19 = .ok (.iconst 3, 1) := by decide +kernel
theorem dX3_init_20 : decode cX3_init 20 = .ok (.multianewarray 11 2, 4) := by decide +kernel
theorem dX3_init_24 : decode cX3_init 24 = .ok (.putfield 16, 3) := by decide +kernel
theorem dX3_init_27 : decode cX3_init 27 = .ok (.aload_n 0, 1) := by decide +kernel
theorem dX3_init_28 : decode cX3_init 28 = .ok (.bipush 6, 2) := by decide +kernel
theorem dX3_init_30 : decode cX3_init 30 = .ok (.newarray .int, 2) := by decide +kernel
theorem dX3_init_32 : decode cX3_init 32 = .ok (.putfield 19, 3) := by decide +kernel
theorem dX3_init_35 : decode cX3_init 35 = .ok (.aload_n 0, 1) := by decide +kernel
theorem dX3_init_36 : decode cX3_init 36 = .ok (.sipush 400, 3) := by decide +kernel
theorem dX3_init_39 : decode cX3_init 39 = .ok (.iconst 4, 1) := by decide +kernel
theorem dX3_init_40 : decode cX3_init 40 = .ok (.multianewarray 11 2, 4) := by decide +kernel
theorem dX3_init_44 : decode cX3_init 44 = .ok (.putfield 23, 3) := by decide +kernel
theorem dX3_init_47 : decode cX3_init 47 = .ok (.aload_n 0, 1) := by decide +kernel
theorem dX3_init_48 : decode cX3_init 48 = .ok (.bipush 6, 2) := by decide +kernel
theorem dX3_init_50 : decode cX3_init 50 = .ok (.newarray .int, 2) := by decide +kernel
theorem dX3_init_52 : decode cX3_init 52 = .ok (.putfield 26, 3) := by decide +kernel
theorem dX3_init_55 : decode cX3_init 55 = .ok (.aload_n 0, 1) := by decide +kernel
theorem dX3_init_56 : decode cX3_init 56 = .ok (.iconst 4, 1) := by decide +kernel
theorem dX3_init_57 : decode cX3_init 57 = .ok (.bipush 64, 2) := by decide +kernel
theorem dX3_init_59 : decode cX3_init 59 = .ok (.multianewarray 29 2, 4) := by decide +kernel
theorem dX3_init_63 : decode cX3_init 63 = .ok (.putfield 31, 3) := by decide +kernel
theorem dX3_init_66 : decode cX3_init 66 = .ok (.aload_n 0, 1) := by decide +kernel
theorem dX3_init_67 : decode cX3_init 67 = .ok (.bipush 6, 2) := by decide +kernel
theorem dX3_init_69 : decode cX3_init 69 = .ok (.newarray .int, 2) := by decide +kernel
theorem dX3_init_71 : decode cX3_init 71 = .ok (.putfield 34, 3) := by decide +kernel
theorem dX3_init_74 : decode cX3_init 74 = .ok (.aload_n 0, 1) := by decide +kernel
theorem dX3_init_75 : decode cX3_init 75 = .ok (.bipush 6, 2) := by decide +kernel
theorem dX3_init_77 : decode cX3_init 77 = .ok (.newarray .int, 2) := by decide +kernel
theorem dX3_init_79 : decode cX3_init 79 = .ok (.putfield 37, 3) := by decide +kernel
theorem dX3_init_82 : decode cX3_init 82 = .ok (.aload_n 0, 1) := by decide +kernel
theorem dX3_init_83 : decode cX3_init 83 = .ok (.iconst 4, 1) := by decide +kernel
theorem dX3_init_84 : decode cX3_init 84 = .ok (.newarray .int, 2) := by decide +kernel
theorem dX3_init_86 : decode cX3_init 86 = .ok (.putfield 40, 3) := by decide +kernel
theorem dX3_init_89 : decode cX3_init 89 = .ok (.aload_n 0, 1) := by decide +kernel
theorem dX3_init_90 : decode cX3_init 90 = .ok (.iconst 4, 1) := by decide +kernel
theorem dX3_init_91 : decode cX3_init 91 = .ok (.newarray .int, 2) := by decide +kernel
theorem dX3_init_93 : decode cX3_init 93 = .ok (.putfield 43, 3) := by decide +kernel
theorem dX3_init_96 : decode cX3_init 96 = .ok (.return_, 1) := by decide +kernel
theorem dX3_addCar_0 : decode cX3_addCar 0 = .ok (.aload_n 0, 1) := by decide +kernel
theorem dX3_addCar_1 : decode cX3_addCar 1 = .ok (.getfield 46, 3) := by decide +kernel
theorem dX3_addCar_4 : decode cX3_addCar 4 = .ok (.iconst 4, 1) := by decide +kernel
theorem dX3_addCar_5 : decode cX3_addCar 5 = .ok (.if_icmp .lt 5, 3) := by decide +kernel
theorem dX3_addCar_10 : decode cX3_addCar 10 = .ok (.aload_n 0, 1) := by decide +kernel
theorem dX3_addCar_11 : decode cX3_addCar 11 = .ok (.getfield 13, 3) := by decide +kernel
theorem dX3_addCar_14 : decode cX3_addCar 14 = .ok (.aload_n 0, 1) := by decide +kernel
theorem dX3_addCar_15 : decode cX3_addCar 15 = .ok (.getfield 46, 3) := by decide +kernel
theorem dX3_addCar_18 : decode cX3_addCar 18 = .ok (.aaload, 1) := by decide +kernel
theorem dX3_addCar_19 : decode cX3_addCar 19 = .ok (.astore_n 3, 1) := by decide +kernel
theorem dX3_addCar_20 : decode cX3_addCar 20 = .ok (.aload_n 3, 1) := by decide +kernel
theorem dX3_addCar_21 : decode cX3_addCar 21 = .ok (.iconst 0, 1) := by decide +kernel
theorem dX3_addCar_22 : decode cX3_addCar 22 = .ok (.iload_n 1, 1) := by decide +kernel
theorem dX3_addCar_23 : decode cX3_addCar 23 = .ok (.iastore, 1) := by decide +kernel
theorem dX3_addCar_24 : decode cX3_addCar 24 = .ok (.aload_n 3, 1) := by decide +kernel
theorem dX3_addCar_25 : decode cX3_addCar 25 = .ok (.iconst 1, 1) := by decide +kernel
theorem dX3_addCar_26 : decode cX3_addCar 26 = .ok (.iload_n 2, 1) := by decide +kernel
theorem dX3_addCar_27 : decode cX3_addCar 27 = .ok (.iastore, 1) := by decide +kernel
theorem dX3_addCar_28 : decode cX3_addCar 28 = .ok (.aload_n 3, 1) := by decide +kernel
theorem dX3_addCar_29 : decode cX3_addCar 29 = .ok (.iconst 4, 1) := by decide +kernel
theorem dX3_addCar_30 : decode cX3_addCar 30 = .ok (.bipush 59, 2) := by decide +kernel
theorem dX3_addCar_32 : decode cX3_addCar 32 = .ok (.iastore, 1) := by decide +kernel
theorem dX3_addCar_33 : decode cX3_addCar 33 = .ok (.aload_n 3, 1) := by decide +kernel
theorem dX3_addCar_34 : decode cX3_addCar 34 = .ok (.iconst 5, 1) := by decide +kernel
theorem dX3_addCar_35 : decode cX3_addCar 35 = .ok (.iconst (-1), 1) := by decide +kernel
theorem dX3_addCar_36 : decode cX3_addCar 36 = .ok (.iastore, 1) := by decide +kernel
theorem dX3_addCar_37 : decode cX3_addCar 37 = .ok (.aload_n 0, 1) := by decide +kernel
theorem dX3_addCar_38 : decode cX3_addCar 38 = .ok (.dup, 1) := by decide +kernel
theorem dX3_addCar_39 : decode cX3_addCar 39 = .ok (.getfield 46, 3) := by decide +kernel
theorem dX3_addCar_42 : decode cX3_addCar 42 = .ok (.iconst 1, 1) := by decide +kernel
theorem dX3_addCar_43 : decode cX3_addCar 43 = .ok (.iadd, 1) := by decide +kernel
theorem dX3_addCar_44 : decode cX3_addCar 44 = .ok (.putfield 46, 3) := by decide +kernel
theorem dX3_addCar_47 : decode cX3_addCar 47 = .ok (.aload_n 0, 1) := by decide +kernel
theorem dX3_addCar_48 : decode cX3_addCar 48 = .ok (.getfield 46, 3) := by decide +kernel
theorem dX3_addCar_51 : decode cX3_addCar 51 = .ok (.iconst 1, 1) := by decide +kernel
theorem dX3_addCar_52 : decode cX3_addCar 52 = .ok (.isub, 1) := by decide +kernel
theorem dX3_addCar_53 : decode cX3_addCar 53 = .ok (.ireturn, 1) := by decide +kernel
theorem dX3_addCar_8 : decode cX3_addCar 8 = .ok (.iconst (-1), 1) := by decide +kernel
theorem dX3_addCar_9 : decode cX3_addCar 9 = .ok (.ireturn, 1) := by decide +kernel
theorem dX3_setFree_0 : decode cX3_setFree 0 = .ok (.aload_n 0, 1) := by decide +kernel
theorem dX3_setFree_1 : decode cX3_setFree 1 = .ok (.getfield 13, 3) := by decide +kernel
theorem dX3_setFree_4 : decode cX3_setFree 4 = .ok (.iload_n 1, 1) := by decide +kernel
theorem dX3_setFree_5 : decode cX3_setFree 5 = .ok (.aaload, 1) := by decide +kernel
theorem dX3_setFree_6 : decode cX3_setFree 6 = .ok (.iconst 0, 1) := by decide +kernel
theorem dX3_setFree_7 : decode cX3_setFree 7 = .ok (.iload_n 2, 1) := by decide +kernel
theorem dX3_setFree_8 : decode cX3_setFree 8 = .ok (.iastore, 1) := by decide +kernel
theorem dX3_setFree_9 : decode cX3_setFree 9 = .ok (.aload_n 0, 1) := by decide +kernel
theorem dX3_setFree_10 : decode cX3_setFree 10 = .ok (.getfield 13, 3) := by decide +kernel
theorem dX3_setFree_13 : decode cX3_setFree 13 = .ok (.iload_n 1, 1) := by decide +kernel
theorem dX3_setFree_14 : decode cX3_setFree 14 = .ok (.aaload, 1) := by decide +kernel
theorem dX3_setFree_15 : decode cX3_setFree 15 = .ok (.iconst 2, 1) := by decide +kernel
theorem dX3_setFree_16 : decode cX3_setFree 16 = .ok (.iload_n 3, 1) := by decide +kernel
theorem dX3_setFree_17 : decode cX3_setFree 17 = .ok (.iastore, 1) := by decide +kernel
theorem dX3_setFree_18 : decode cX3_setFree 18 = .ok (.return_, 1) := by decide +kernel
theorem dX3_setSpan_0 : decode cX3_setSpan 0 = .ok (.aload_n 0, 1) := by decide +kernel
theorem dX3_setSpan_1 : decode cX3_setSpan 1 = .ok (.getfield 13, 3) := by decide +kernel
theorem dX3_setSpan_4 : decode cX3_setSpan 4 = .ok (.iload_n 1, 1) := by decide +kernel
theorem dX3_setSpan_5 : decode cX3_setSpan 5 = .ok (.aaload, 1) := by decide +kernel
theorem dX3_setSpan_6 : decode cX3_setSpan 6 = .ok (.iconst 3, 1) := by decide +kernel
theorem dX3_setSpan_7 : decode cX3_setSpan 7 = .ok (.iload_n 2, 1) := by decide +kernel
theorem dX3_setSpan_8 : decode cX3_setSpan 8 = .ok (.iastore, 1) := by decide +kernel
theorem dX3_setSpan_9 : decode cX3_setSpan 9 = .ok (.aload_n 0, 1) := by decide +kernel
theorem dX3_setSpan_10 : decode cX3_setSpan 10 = .ok (.getfield 13, 3) := by decide +kernel
theorem dX3_setSpan_13 : decode cX3_setSpan 13 = .ok (.iload_n 1, 1) := by decide +kernel
theorem dX3_setSpan_14 : decode cX3_setSpan 14 = .ok (.aaload, 1) := by decide +kernel
theorem dX3_setSpan_15 : decode cX3_setSpan 15 = .ok (.iconst 4, 1) := by decide +kernel
theorem dX3_setSpan_16 : decode cX3_setSpan 16 = .ok (.iload_n 3, 1) := by decide +kernel
theorem dX3_setSpan_17 : decode cX3_setSpan 17 = .ok (.iastore, 1) := by decide +kernel
theorem dX3_setSpan_18 : decode cX3_setSpan 18 = .ok (.return_, 1) := by decide +kernel
theorem dX3_addCall_0 : decode cX3_addCall 0 = .ok (.aload_n 0, 1) := by decide +kernel
theorem dX3_addCall_1 : decode cX3_addCall 1 = .ok (.getfield 50, 3) := by decide +kernel
theorem dX3_addCall_4 : decode cX3_addCall 4 = .ok (.sipush 400, 3) := by decide +kernel
theorem dX3_addCall_7 : decode cX3_addCall 7 = .ok (.if_icmp .ge 12, 3) := by decide +kernel
theorem dX3_addCall_19 : decode cX3_addCall 19 = .ok (.iconst (-1), 1) := by decide +kernel
theorem dX3_addCall_20 : decode cX3_addCall 20 = .ok (.ireturn, 1) := by decide +kernel
theorem dX3_addCall_10 : decode cX3_addCall 10 = .ok (.aload_n 0, 1) := by decide +kernel
theorem dX3_addCall_11 : decode cX3_addCall 11 = .ok (.getfield 53, 3) := by decide +kernel
theorem dX3_addCall_14 : decode cX3_addCall 14 = .ok (.bipush 6, 2) := by decide +kernel
theorem dX3_addCall_16 : decode cX3_addCall 16 = .ok (.if_icmp .lt 5, 3) := by decide +kernel
theorem dX3_addCall_21 : decode cX3_addCall 21 = .ok (.aload_n 0, 1) := by decide +kernel
theorem dX3_addCall_22 : decode cX3_addCall 22 = .ok (.getfield 16, 3) := by decide +kernel
theorem dX3_addCall_25 : decode cX3_addCall 25 = .ok (.aload_n 0, 1) := by decide +kernel
theorem dX3_addCall_26 : decode cX3_addCall 26 = .ok (.getfield 50, 3) := by decide +kernel
theorem dX3_addCall_29 : decode cX3_addCall 29 = .ok (.aaload, 1) := by decide +kernel
theorem dX3_addCall_30 : decode cX3_addCall 30 = .ok (.iconst 0, 1) := by decide +kernel
theorem dX3_addCall_31 : decode cX3_addCall 31 = .ok (.iload_n 1, 1) := by decide +kernel
theorem dX3_addCall_32 : decode cX3_addCall 32 = .ok (.iastore, 1) := by decide +kernel
theorem dX3_addCall_33 : decode cX3_addCall 33 = .ok (.aload_n 0, 1) := by decide +kernel
theorem dX3_addCall_34 : decode cX3_addCall 34 = .ok (.getfield 16, 3) := by decide +kernel
theorem dX3_addCall_37 : decode cX3_addCall 37 = .ok (.aload_n 0, 1) := by decide +kernel
theorem dX3_addCall_38 : decode cX3_addCall 38 = .ok (.getfield 50, 3) := by decide +kernel
theorem dX3_addCall_41 : decode cX3_addCall 41 = .ok (.aaload, 1) := by decide +kernel
theorem dX3_addCall_42 : decode cX3_addCall 42 = .ok (.iconst 1, 1) := by decide +kernel
theorem dX3_addCall_43 : decode cX3_addCall 43 = .ok (.iload_n 2, 1) := by decide +kernel
theorem dX3_addCall_44 : decode cX3_addCall 44 = .ok (.iastore, 1) := by decide +kernel
theorem dX3_addCall_45 : decode cX3_addCall 45 = .ok (.aload_n 0, 1) := by decide +kernel
theorem dX3_addCall_46 : decode cX3_addCall 46 = .ok (.getfield 16, 3) := by decide +kernel
theorem dX3_addCall_49 : decode cX3_addCall 49 = .ok (.aload_n 0, 1) := by decide +kernel
theorem dX3_addCall_50 : decode cX3_addCall 50 = .ok (.getfield 50, 3) := by decide +kernel
theorem dX3_addCall_53 : decode cX3_addCall 53 = .ok (.aaload, 1) := by decide +kernel
theorem dX3_addCall_54 : decode cX3_addCall 54 = .ok (.iconst 2, 1) := by decide +kernel
theorem dX3_addCall_55 : decode cX3_addCall 55 = .ok (.iload_n 3, 1) := by decide +kernel
theorem dX3_addCall_56 : decode cX3_addCall 56 = .ok (.iastore, 1) := by decide +kernel
theorem dX3_addCall_57 : decode cX3_addCall 57 = .ok (.aload_n 0, 1) := by decide +kernel
theorem dX3_addCall_58 : decode cX3_addCall 58 = .ok (.getfield 23, 3) := by decide +kernel
theorem dX3_addCall_61 : decode cX3_addCall 61 = .ok (.aload_n 0, 1) := by decide +kernel
theorem dX3_addCall_62 : decode cX3_addCall 62 = .ok (.getfield 50, 3) := by decide +kernel
theorem dX3_addCall_65 : decode cX3_addCall 65 = .ok (.aaload, 1) := by decide +kernel
theorem dX3_addCall_66 : decode cX3_addCall 66 = .ok (.iconst (-1), 1) := by decide +kernel
theorem dX3_addCall_67 : decode cX3_addCall 67 = .ok (.invokestatic 56, 3) := by decide +kernel
theorem dX3_addCall_70 : decode cX3_addCall 70 = .ok (.aload_n 0, 1) := by decide +kernel
theorem dX3_addCall_71 : decode cX3_addCall 71 = .ok (.getfield 19, 3) := by decide +kernel
theorem dX3_addCall_74 : decode cX3_addCall 74 = .ok (.aload_n 0, 1) := by decide +kernel
theorem dX3_addCall_75 : decode cX3_addCall 75 = .ok (.getfield 53, 3) := by decide +kernel
theorem dX3_addCall_78 : decode cX3_addCall 78 = .ok (.aload_n 0, 1) := by decide +kernel
theorem dX3_addCall_79 : decode cX3_addCall 79 = .ok (.getfield 50, 3) := by decide +kernel
theorem dX3_addCall_82 : decode cX3_addCall 82 = .ok (.iastore, 1) := by decide +kernel
theorem dX3_addCall_83 : decode cX3_addCall 83 = .ok (.aload_n 0, 1) := by decide +kernel
theorem dX3_addCall_84 : decode cX3_addCall 84 = .ok (.dup, 1) := by decide +kernel
theorem dX3_addCall_85 : decode cX3_addCall 85 = .ok (.getfield 53, 3) := by decide +kernel
theorem dX3_addCall_88 : decode cX3_addCall 88 = .ok (.iconst 1, 1) := by decide +kernel
theorem dX3_addCall_89 : decode cX3_addCall 89 = .ok (.iadd, 1) := by decide +kernel
theorem dX3_addCall_90 : decode cX3_addCall 90 = .ok (.putfield 53, 3) := by decide +kernel
theorem dX3_addCall_93 : decode cX3_addCall 93 = .ok (.aload_n 0, 1) := by decide +kernel
theorem dX3_addCall_94 : decode cX3_addCall 94 = .ok (.dup, 1) := by decide +kernel
theorem dX3_addCall_95 : decode cX3_addCall 95 = .ok (.getfield 50, 3) := by decide +kernel
theorem dX3_addCall_98 : decode cX3_addCall 98 = .ok (.iconst 1, 1) := by decide +kernel
theorem dX3_addCall_99 : decode cX3_addCall 99 = .ok (.iadd, 1) := by decide +kernel
theorem dX3_addCall_100 : decode cX3_addCall 100 = .ok (.putfield 50, 3) := by decide +kernel
theorem dX3_addCall_103 : decode cX3_addCall 103 = .ok (.aload_n 0, 1) := by decide +kernel
theorem dX3_addCall_104 : decode cX3_addCall 104 = .ok (.getfield 50, 3) := by decide +kernel
theorem dX3_addCall_107 : decode cX3_addCall 107 = .ok (.iconst 1, 1) := by decide +kernel
theorem dX3_addCall_108 : decode cX3_addCall 108 = .ok (.isub, 1) := by decide +kernel
theorem dX3_addCall_109 : decode cX3_addCall 109 = .ok (.ireturn, 1) := by decide +kernel
theorem dX3_placeOfOpen_0 : decode cX3_placeOfOpen 0 = .ok (.iconst 0, 1) := by decide +kernel
theorem dX3_placeOfOpen_1 : decode cX3_placeOfOpen 1 = .ok (.istore_n 2, 1) := by decide +kernel
theorem dX3_placeOfOpen_2 : decode cX3_placeOfOpen 2 = .ok (.iload_n 2, 1) := by decide +kernel
theorem dX3_placeOfOpen_3 : decode cX3_placeOfOpen 3 = .ok (.aload_n 0, 1) := by decide +kernel
theorem dX3_placeOfOpen_4 : decode cX3_placeOfOpen 4 = .ok (.getfield 53, 3) := by decide +kernel
theorem dX3_placeOfOpen_7 : decode cX3_placeOfOpen 7 = .ok (.if_icmp .ge 21, 3) := by decide +kernel
theorem dX3_placeOfOpen_10 : decode cX3_placeOfOpen 10 = .ok (.aload_n 0, 1) := by decide +kernel
theorem dX3_placeOfOpen_11 : decode cX3_placeOfOpen 11 = .ok (.getfield 19, 3) := by decide +kernel
theorem dX3_placeOfOpen_14 : decode cX3_placeOfOpen 14 = .ok (.iload_n 2, 1) := by decide +kernel
theorem dX3_placeOfOpen_15 : decode cX3_placeOfOpen 15 = .ok (.iaload, 1) := by decide +kernel
theorem dX3_placeOfOpen_16 : decode cX3_placeOfOpen 16 = .ok (.iload_n 1, 1) := by decide +kernel
theorem dX3_placeOfOpen_17 : decode cX3_placeOfOpen 17 = .ok (.if_icmp .ne 5, 3) := by decide +kernel
theorem dX3_placeOfOpen_22 : decode cX3_placeOfOpen 22 = .ok (.iinc 2 1, 3) := by decide +kernel
theorem dX3_placeOfOpen_25 : decode cX3_placeOfOpen 25 = .ok (.goto (-23), 3) := by decide +kernel
theorem dX3_placeOfOpen_20 : decode cX3_placeOfOpen 20 = .ok (.iload_n 2, 1) := by decide +kernel
theorem dX3_placeOfOpen_21 : decode cX3_placeOfOpen 21 = .ok (.ireturn, 1) := by decide +kernel
theorem dX3_placeOfOpen_28 : decode cX3_placeOfOpen 28 = .ok (.iconst (-1), 1) := by decide +kernel
theorem dX3_placeOfOpen_29 : decode cX3_placeOfOpen 29 = .ok (.ireturn, 1) := by decide +kernel
theorem dX3_isOpenCall_0 : decode cX3_isOpenCall 0 = .ok (.aload_n 0, 1) := by decide +kernel
theorem dX3_isOpenCall_1 : decode cX3_isOpenCall 1 = .ok (.iload_n 1, 1) := by decide +kernel
theorem dX3_isOpenCall_2 : decode cX3_isOpenCall 2 = .ok (.invokevirtual 62, 3) := by decide +kernel
theorem dX3_isOpenCall_5 : decode cX3_isOpenCall 5 = .ok (.iconst (-1), 1) := by decide +kernel
theorem dX3_isOpenCall_6 : decode cX3_isOpenCall 6 = .ok (.if_icmp .eq 7, 3) := by decide +kernel
theorem dX3_isOpenCall_13 : decode cX3_isOpenCall 13 = .ok (.iconst 0, 1) := by decide +kernel
theorem dX3_isOpenCall_14 : decode cX3_isOpenCall 14 = .ok (.ireturn, 1) := by decide +kernel
theorem dX3_isOpenCall_9 : decode cX3_isOpenCall 9 = .ok (.iconst 1, 1) := by decide +kernel
theorem dX3_isOpenCall_10 : decode cX3_isOpenCall 10 = .ok (.goto 4, 3) := by decide +kernel
theorem dX3_isInSpan_0 : decode cX3_isInSpan 0 = .ok (.aload_n 0, 1) := by decide +kernel
theorem dX3_isInSpan_1 : decode cX3_isInSpan 1 = .ok (.getfield 16, 3) := by decide +kernel
theorem dX3_isInSpan_4 : decode cX3_isInSpan 4 = .ok (.iload_n 1, 1) := by decide +kernel
theorem dX3_isInSpan_5 : decode cX3_isInSpan 5 = .ok (.aaload, 1) := by decide +kernel
theorem dX3_isInSpan_6 : decode cX3_isInSpan 6 = .ok (.iconst 0, 1) := by decide +kernel
theorem dX3_isInSpan_7 : decode cX3_isInSpan 7 = .ok (.iaload, 1) := by decide +kernel
theorem dX3_isInSpan_8 : decode cX3_isInSpan 8 = .ok (.istore_n 3, 1) := by decide +kernel
theorem dX3_isInSpan_9 : decode cX3_isInSpan 9 = .ok (.aload_n 0, 1) := by decide +kernel
theorem dX3_isInSpan_10 : decode cX3_isInSpan 10 = .ok (.getfield 16, 3) := by decide +kernel
theorem dX3_isInSpan_13 : decode cX3_isInSpan 13 = .ok (.iload_n 1, 1) := by decide +kernel
theorem dX3_isInSpan_14 : decode cX3_isInSpan 14 = .ok (.aaload, 1) := by decide +kernel
theorem dX3_isInSpan_15 : decode cX3_isInSpan 15 = .ok (.iconst 1, 1) := by decide +kernel
theorem dX3_isInSpan_16 : decode cX3_isInSpan 16 = .ok (.iaload, 1) := by decide +kernel
theorem dX3_isInSpan_17 : decode cX3_isInSpan 17 = .ok (.istore 4, 2) := by decide +kernel
theorem dX3_isInSpan_19 : decode cX3_isInSpan 19 = .ok (.iload_n 3, 1) := by decide +kernel
theorem dX3_isInSpan_20 : decode cX3_isInSpan 20 = .ok (.iload 4, 2) := by decide +kernel
theorem dX3_isInSpan_22 : decode cX3_isInSpan 22 = .ok (.invokestatic 74, 3) := by decide +kernel
theorem dX3_isInSpan_25 : decode cX3_isInSpan 25 = .ok (.aload_n 0, 1) := by decide +kernel
theorem dX3_isInSpan_26 : decode cX3_isInSpan 26 = .ok (.getfield 13, 3) := by decide +kernel
theorem dX3_isInSpan_29 : decode cX3_isInSpan 29 = .ok (.iload_n 2, 1) := by decide +kernel
theorem dX3_isInSpan_30 : decode cX3_isInSpan 30 = .ok (.aaload, 1) := by decide +kernel
theorem dX3_isInSpan_31 : decode cX3_isInSpan 31 = .ok (.iconst 3, 1) := by decide +kernel
theorem dX3_isInSpan_32 : decode cX3_isInSpan 32 = .ok (.iaload, 1) := by decide +kernel
theorem dX3_isInSpan_33 : decode cX3_isInSpan 33 = .ok (.if_icmp .lt 24, 3) := by decide +kernel
theorem dX3_isInSpan_57 : decode cX3_isInSpan 57 = .ok (.iconst 0, 1) := by decide +kernel
theorem dX3_isInSpan_58 : decode cX3_isInSpan 58 = .ok (.ireturn, 1) := by decide +kernel
theorem dX3_isInSpan_36 : decode cX3_isInSpan 36 = .ok (.iload_n 3, 1) := by decide +kernel
theorem dX3_isInSpan_37 : decode cX3_isInSpan 37 = .ok (.iload 4, 2) := by decide +kernel
theorem dX3_isInSpan_39 : decode cX3_isInSpan 39 = .ok (.invokestatic 80, 3) := by decide +kernel
theorem dX3_isInSpan_42 : decode cX3_isInSpan 42 = .ok (.aload_n 0, 1) := by decide +kernel
theorem dX3_isInSpan_43 : decode cX3_isInSpan 43 = .ok (.getfield 13, 3) := by decide +kernel
theorem dX3_isInSpan_46 : decode cX3_isInSpan 46 = .ok (.iload_n 2, 1) := by decide +kernel
theorem dX3_isInSpan_47 : decode cX3_isInSpan 47 = .ok (.aaload, 1) := by decide +kernel
theorem dX3_isInSpan_48 : decode cX3_isInSpan 48 = .ok (.iconst 4, 1) := by decide +kernel
theorem dX3_isInSpan_49 : decode cX3_isInSpan 49 = .ok (.iaload, 1) := by decide +kernel
theorem dX3_isInSpan_50 : decode cX3_isInSpan 50 = .ok (.if_icmp .gt 7, 3) := by decide +kernel
theorem dX3_isInSpan_53 : decode cX3_isInSpan 53 = .ok (.iconst 1, 1) := by decide +kernel
theorem dX3_isInSpan_54 : decode cX3_isInSpan 54 = .ok (.goto 4, 3) := by decide +kernel
theorem dX3_endBeginning_0 : decode cX3_endBeginning 0 = .ok (.iconst 0, 1) := by decide +kernel
theorem dX3_endBeginning_1 : decode cX3_endBeginning 1 = .ok (.istore_n 2, 1) := by decide +kernel
theorem dX3_endBeginning_2 : decode cX3_endBeginning 2 = .ok (.iload_n 2, 1) := by decide +kernel
theorem dX3_endBeginning_3 : decode cX3_endBeginning 3 = .ok (.aload_n 0, 1) := by decide +kernel
theorem dX3_endBeginning_4 : decode cX3_endBeginning 4 = .ok (.getfield 46, 3) := by decide +kernel
theorem dX3_endBeginning_7 : decode cX3_endBeginning 7 = .ok (.if_icmp .ge 30, 3) := by decide +kernel
theorem dX3_endBeginning_10 : decode cX3_endBeginning 10 = .ok (.aload_n 0, 1) := by decide +kernel
theorem dX3_endBeginning_11 : decode cX3_endBeginning 11 = .ok (.getfield 13, 3) := by decide +kernel
theorem dX3_endBeginning_14 : decode cX3_endBeginning 14 = .ok (.iload_n 2, 1) := by decide +kernel
theorem dX3_endBeginning_15 : decode cX3_endBeginning 15 = .ok (.aaload, 1) := by decide +kernel
theorem dX3_endBeginning_16 : decode cX3_endBeginning 16 = .ok (.iconst 5, 1) := by decide +kernel
theorem dX3_endBeginning_17 : decode cX3_endBeginning 17 = .ok (.iaload, 1) := by decide +kernel
theorem dX3_endBeginning_18 : decode cX3_endBeginning 18 = .ok (.iload_n 1, 1) := by decide +kernel
theorem dX3_endBeginning_19 : decode cX3_endBeginning 19 = .ok (.if_icmp .ne 12, 3) := by decide +kernel
theorem dX3_endBeginning_31 : decode cX3_endBeginning 31 = .ok (.iinc 2 1, 3) := by decide +kernel
theorem dX3_endBeginning_34 : decode cX3_endBeginning 34 = .ok (.goto (-32), 3) := by decide +kernel
theorem dX3_endBeginning_22 : decode cX3_endBeginning 22 = .ok (.aload_n 0, 1) := by decide +kernel
theorem dX3_endBeginning_23 : decode cX3_endBeginning 23 = .ok (.getfield 13, 3) := by decide +kernel
theorem dX3_endBeginning_26 : decode cX3_endBeginning 26 = .ok (.iload_n 2, 1) := by decide +kernel
theorem dX3_endBeginning_27 : decode cX3_endBeginning 27 = .ok (.aaload, 1) := by decide +kernel
theorem dX3_endBeginning_28 : decode cX3_endBeginning 28 = .ok (.iconst 5, 1) := by decide +kernel
theorem dX3_endBeginning_29 : decode cX3_endBeginning 29 = .ok (.iconst (-1), 1) := by decide +kernel
theorem dX3_endBeginning_30 : decode cX3_endBeginning 30 = .ok (.iastore, 1) := by decide +kernel
theorem dX3_endBeginning_37 : decode cX3_endBeginning 37 = .ok (.return_, 1) := by decide +kernel
theorem dX3_setBegun_0 : decode cX3_setBegun 0 = .ok (.iload_n 2, 1) := by decide +kernel
theorem dX3_setBegun_1 : decode cX3_setBegun 1 = .ok (.iconst (-1), 1) := by decide +kernel
theorem dX3_setBegun_2 : decode cX3_setBegun 2 = .ok (.if_icmp .eq 33, 3) := by decide +kernel
theorem dX3_setBegun_35 : decode cX3_setBegun 35 = .ok (.aload_n 0, 1) := by decide +kernel
theorem dX3_setBegun_36 : decode cX3_setBegun 36 = .ok (.iload_n 1, 1) := by decide +kernel
theorem dX3_setBegun_37 : decode cX3_setBegun 37 = .ok (.invokevirtual 70, 3) := by decide +kernel
theorem dX3_setBegun_40 : decode cX3_setBegun 40 = .ok (.iload_n 2, 1) := by decide +kernel
theorem dX3_setBegun_41 : decode cX3_setBegun 41 = .ok (.iconst (-1), 1) := by decide +kernel
theorem dX3_setBegun_42 : decode cX3_setBegun 42 = .ok (.if_icmp .eq 12, 3) := by decide +kernel
theorem dX3_setBegun_54 : decode cX3_setBegun 54 = .ok (.iconst 1, 1) := by decide +kernel
theorem dX3_setBegun_55 : decode cX3_setBegun 55 = .ok (.ireturn, 1) := by decide +kernel
theorem dX3_setBegun_45 : decode cX3_setBegun 45 = .ok (.aload_n 0, 1) := by decide +kernel
theorem dX3_setBegun_46 : decode cX3_setBegun 46 = .ok (.getfield 13, 3) := by decide +kernel
theorem dX3_setBegun_49 : decode cX3_setBegun 49 = .ok (.iload_n 2, 1) := by decide +kernel
theorem dX3_setBegun_50 : decode cX3_setBegun 50 = .ok (.aaload, 1) := by decide +kernel
theorem dX3_setBegun_51 : decode cX3_setBegun 51 = .ok (.iconst 5, 1) := by decide +kernel
theorem dX3_setBegun_52 : decode cX3_setBegun 52 = .ok (.iload_n 1, 1) := by decide +kernel
theorem dX3_setBegun_53 : decode cX3_setBegun 53 = .ok (.iastore, 1) := by decide +kernel
theorem dX3_setBegun_5 : decode cX3_setBegun 5 = .ok (.aload_n 0, 1) := by decide +kernel
theorem dX3_setBegun_6 : decode cX3_setBegun 6 = .ok (.getfield 13, 3) := by decide +kernel
theorem dX3_setBegun_9 : decode cX3_setBegun 9 = .ok (.iload_n 2, 1) := by decide +kernel
theorem dX3_setBegun_10 : decode cX3_setBegun 10 = .ok (.aaload, 1) := by decide +kernel
theorem dX3_setBegun_11 : decode cX3_setBegun 11 = .ok (.iconst 5, 1) := by decide +kernel
theorem dX3_setBegun_12 : decode cX3_setBegun 12 = .ok (.iaload, 1) := by decide +kernel
theorem dX3_setBegun_13 : decode cX3_setBegun 13 = .ok (.istore_n 3, 1) := by decide +kernel
theorem dX3_setBegun_14 : decode cX3_setBegun 14 = .ok (.aload_n 0, 1) := by decide +kernel
theorem dX3_setBegun_15 : decode cX3_setBegun 15 = .ok (.iload_n 1, 1) := by decide +kernel
theorem dX3_setBegun_16 : decode cX3_setBegun 16 = .ok (.iload_n 2, 1) := by decide +kernel
theorem dX3_setBegun_17 : decode cX3_setBegun 17 = .ok (.invokevirtual 66, 3) := by decide +kernel
theorem dX3_setBegun_20 : decode cX3_setBegun 20 = .ok (.ifCond .eq 13, 3) := by decide +kernel
theorem dX3_setBegun_33 : decode cX3_setBegun 33 = .ok (.iconst 0, 1) := by decide +kernel
theorem dX3_setBegun_34 : decode cX3_setBegun 34 = .ok (.ireturn, 1) := by decide +kernel
theorem dX3_setBegun_23 : decode cX3_setBegun 23 = .ok (.iload_n 3, 1) := by decide +kernel
theorem dX3_setBegun_24 : decode cX3_setBegun 24 = .ok (.iconst (-1), 1) := by decide +kernel
theorem dX3_setBegun_25 : decode cX3_setBegun 25 = .ok (.if_icmp .eq 10, 3) := by decide +kernel
theorem dX3_setBegun_28 : decode cX3_setBegun 28 = .ok (.iload_n 3, 1) := by decide +kernel
theorem dX3_setBegun_29 : decode cX3_setBegun 29 = .ok (.iload_n 1, 1) := by decide +kernel
theorem dX3_setBegun_30 : decode cX3_setBegun 30 = .ok (.if_icmp .eq 5, 3) := by decide +kernel
theorem dX3_closeCall_0 : decode cX3_closeCall 0 = .ok (.aload_n 0, 1) := by decide +kernel
theorem dX3_closeCall_1 : decode cX3_closeCall 1 = .ok (.iload_n 1, 1) := by decide +kernel
theorem dX3_closeCall_2 : decode cX3_closeCall 2 = .ok (.invokevirtual 70, 3) := by decide +kernel
theorem dX3_closeCall_5 : decode cX3_closeCall 5 = .ok (.aload_n 0, 1) := by decide +kernel
theorem dX3_closeCall_6 : decode cX3_closeCall 6 = .ok (.iload_n 1, 1) := by decide +kernel
theorem dX3_closeCall_7 : decode cX3_closeCall 7 = .ok (.invokevirtual 62, 3) := by decide +kernel
theorem dX3_closeCall_10 : decode cX3_closeCall 10 = .ok (.istore_n 2, 1) := by decide +kernel
theorem dX3_closeCall_11 : decode cX3_closeCall 11 = .ok (.iload_n 2, 1) := by decide +kernel
theorem dX3_closeCall_12 : decode cX3_closeCall 12 = .ok (.iconst (-1), 1) := by decide +kernel
theorem dX3_closeCall_13 : decode cX3_closeCall 13 = .ok (.if_icmp .eq 36, 3) := by decide +kernel
theorem dX3_closeCall_49 : decode cX3_closeCall 49 = .ok (.return_, 1) := by decide +kernel
theorem dX3_closeCall_16 : decode cX3_closeCall 16 = .ok (.aload_n 0, 1) := by decide +kernel
theorem dX3_closeCall_17 : decode cX3_closeCall 17 = .ok (.getfield 19, 3) := by decide +kernel
theorem dX3_closeCall_20 : decode cX3_closeCall 20 = .ok (.iload_n 2, 1) := by decide +kernel
theorem dX3_closeCall_21 : decode cX3_closeCall 21 = .ok (.iconst 1, 1) := by decide +kernel
theorem dX3_closeCall_22 : decode cX3_closeCall 22 = .ok (.iadd, 1) := by decide +kernel
theorem dX3_closeCall_23 : decode cX3_closeCall 23 = .ok (.aload_n 0, 1) := by decide +kernel
theorem dX3_closeCall_24 : decode cX3_closeCall 24 = .ok (.getfield 19, 3) := by decide +kernel
theorem dX3_closeCall_27 : decode cX3_closeCall 27 = .ok (.iload_n 2, 1) := by decide +kernel
theorem dX3_closeCall_28 : decode cX3_closeCall 28 = .ok (.aload_n 0, 1) := by decide +kernel
theorem dX3_closeCall_29 : decode cX3_closeCall 29 = .ok (.getfield 53, 3) := by decide +kernel
theorem dX3_closeCall_32 : decode cX3_closeCall 32 = .ok (.iload_n 2, 1) := by decide +kernel
theorem dX3_closeCall_33 : decode cX3_closeCall 33 = .ok (.isub, 1) := by decide +kernel
theorem dX3_closeCall_34 : decode cX3_closeCall 34 = .ok (.iconst 1, 1) := by decide +kernel
theorem dX3_closeCall_35 : decode cX3_closeCall 35 = .ok (.isub, 1) := by decide +kernel
theorem dX3_closeCall_36 : decode cX3_closeCall 36 = .ok (.invokestatic 83, 3) := by decide +kernel
theorem dX3_closeCall_39 : decode cX3_closeCall 39 = .ok (.aload_n 0, 1) := by decide +kernel
theorem dX3_closeCall_40 : decode cX3_closeCall 40 = .ok (.dup, 1) := by decide +kernel
theorem dX3_closeCall_41 : decode cX3_closeCall 41 = .ok (.getfield 53, 3) := by decide +kernel
theorem dX3_closeCall_44 : decode cX3_closeCall 44 = .ok (.iconst 1, 1) := by decide +kernel
theorem dX3_closeCall_45 : decode cX3_closeCall 45 = .ok (.isub, 1) := by decide +kernel
theorem dX3_closeCall_46 : decode cX3_closeCall 46 = .ok (.putfield 53, 3) := by decide +kernel
theorem dX3_carsThatMayTake_0 : decode cX3_carsThatMayTake 0 = .ok (.iconst 0, 1) := by decide +kernel
theorem dX3_carsThatMayTake_1 : decode cX3_carsThatMayTake 1 = .ok (.istore_n 2, 1) := by decide +kernel
theorem dX3_carsThatMayTake_2 : decode cX3_carsThatMayTake 2 = .ok (.iconst (-1), 1) := by decide +kernel
theorem dX3_carsThatMayTake_3 : decode cX3_carsThatMayTake 3 = .ok (.istore_n 3, 1) := by decide +kernel
theorem dX3_carsThatMayTake_4 : decode cX3_carsThatMayTake 4 = .ok (.iconst 0, 1) := by decide +kernel
theorem dX3_carsThatMayTake_5 : decode cX3_carsThatMayTake 5 = .ok (.istore 4, 2) := by decide +kernel
theorem dX3_carsThatMayTake_7 : decode cX3_carsThatMayTake 7 = .ok (.iload 4, 2) := by decide +kernel
theorem dX3_carsThatMayTake_9 : decode cX3_carsThatMayTake 9 = .ok (.aload_n 0, 1) := by decide +kernel
theorem dX3_carsThatMayTake_10 : decode cX3_carsThatMayTake 10 = .ok (.getfield 46, 3) := by decide +kernel
theorem dX3_carsThatMayTake_13 : decode cX3_carsThatMayTake 13 = .ok (.if_icmp .ge 50, 3) := by decide +kernel
theorem dX3_carsThatMayTake_16 : decode cX3_carsThatMayTake 16 = .ok (.aload_n 0, 1) := by decide +kernel
theorem dX3_carsThatMayTake_17 : decode cX3_carsThatMayTake 17 = .ok (.iload_n 1, 1) := by decide +kernel
theorem dX3_carsThatMayTake_18 : decode cX3_carsThatMayTake 18 = .ok (.iload 4, 2) := by decide +kernel
theorem dX3_carsThatMayTake_20 : decode cX3_carsThatMayTake 20 = .ok (.invokevirtual 66, 3) := by decide +kernel
theorem dX3_carsThatMayTake_23 : decode cX3_carsThatMayTake 23 = .ok (.ifCond .eq 12, 3) := by decide +kernel
theorem dX3_carsThatMayTake_35 : decode cX3_carsThatMayTake 35 = .ok (.iload_n 2, 1) := by decide +kernel
theorem dX3_carsThatMayTake_36 : decode cX3_carsThatMayTake 36 = .ok (.istore_n 2, 1) := by decide +kernel
theorem dX3_carsThatMayTake_37 : decode cX3_carsThatMayTake 37 = .ok (.aload_n 0, 1) := by decide +kernel
theorem dX3_carsThatMayTake_38 : decode cX3_carsThatMayTake 38 = .ok (.getfield 13, 3) := by decide +kernel
theorem dX3_carsThatMayTake_41 : decode cX3_carsThatMayTake 41 = .ok (.iload 4, 2) := by decide +kernel
theorem dX3_carsThatMayTake_43 : decode cX3_carsThatMayTake 43 = .ok (.aaload, 1) := by decide +kernel
theorem dX3_carsThatMayTake_44 : decode cX3_carsThatMayTake 44 = .ok (.iconst 5, 1) := by decide +kernel
theorem dX3_carsThatMayTake_45 : decode cX3_carsThatMayTake 45 = .ok (.iaload, 1) := by decide +kernel
theorem dX3_carsThatMayTake_46 : decode cX3_carsThatMayTake 46 = .ok (.iload_n 1, 1) := by decide +kernel
theorem dX3_carsThatMayTake_47 : decode cX3_carsThatMayTake 47 = .ok (.if_icmp .ne 8, 3) := by decide +kernel
theorem dX3_carsThatMayTake_55 : decode cX3_carsThatMayTake 55 = .ok (.iload_n 3, 1) := by decide +kernel
theorem dX3_carsThatMayTake_56 : decode cX3_carsThatMayTake 56 = .ok (.istore_n 3, 1) := by decide +kernel
theorem dX3_carsThatMayTake_57 : decode cX3_carsThatMayTake 57 = .ok (.iinc 4 1, 3) := by decide +kernel
theorem dX3_carsThatMayTake_60 : decode cX3_carsThatMayTake 60 = .ok (.goto (-53), 3) := by decide +kernel
theorem dX3_carsThatMayTake_50 : decode cX3_carsThatMayTake 50 = .ok (.iload 4, 2) := by decide +kernel
theorem dX3_carsThatMayTake_52 : decode cX3_carsThatMayTake 52 = .ok (.goto 4, 3) := by decide +kernel
theorem dX3_carsThatMayTake_26 : decode cX3_carsThatMayTake 26 = .ok (.iload_n 2, 1) := by decide +kernel
theorem dX3_carsThatMayTake_27 : decode cX3_carsThatMayTake 27 = .ok (.iconst 1, 1) := by decide +kernel
theorem dX3_carsThatMayTake_28 : decode cX3_carsThatMayTake 28 = .ok (.iload 4, 2) := by decide +kernel
theorem dX3_carsThatMayTake_30 : decode cX3_carsThatMayTake 30 = .ok (.ishl, 1) := by decide +kernel
theorem dX3_carsThatMayTake_31 : decode cX3_carsThatMayTake 31 = .ok (.ior, 1) := by decide +kernel
theorem dX3_carsThatMayTake_32 : decode cX3_carsThatMayTake 32 = .ok (.goto 4, 3) := by decide +kernel
theorem dX3_carsThatMayTake_63 : decode cX3_carsThatMayTake 63 = .ok (.iload_n 3, 1) := by decide +kernel
theorem dX3_carsThatMayTake_64 : decode cX3_carsThatMayTake 64 = .ok (.iconst (-1), 1) := by decide +kernel
theorem dX3_carsThatMayTake_65 : decode cX3_carsThatMayTake 65 = .ok (.if_icmp .ne 7, 3) := by decide +kernel
theorem dX3_carsThatMayTake_72 : decode cX3_carsThatMayTake 72 = .ok (.iload_n 2, 1) := by decide +kernel
theorem dX3_carsThatMayTake_73 : decode cX3_carsThatMayTake 73 = .ok (.iconst 1, 1) := by decide +kernel
theorem dX3_carsThatMayTake_74 : decode cX3_carsThatMayTake 74 = .ok (.iload_n 3, 1) := by decide +kernel
theorem dX3_carsThatMayTake_75 : decode cX3_carsThatMayTake 75 = .ok (.ishl, 1) := by decide +kernel
theorem dX3_carsThatMayTake_76 : decode cX3_carsThatMayTake 76 = .ok (.iand, 1) := by decide +kernel
theorem dX3_carsThatMayTake_77 : decode cX3_carsThatMayTake 77 = .ok (.ireturn, 1) := by decide +kernel
theorem dX3_carsThatMayTake_68 : decode cX3_carsThatMayTake 68 = .ok (.iload_n 2, 1) := by decide +kernel
theorem dX3_carsThatMayTake_69 : decode cX3_carsThatMayTake 69 = .ok (.goto 8, 3) := by decide +kernel
theorem zl_X2_148 : zm_L zk_E RX2 148 yX2_leftOf (.code yX2_leftOf cX2_leftOf 4 (some .int)) 3 ∧ Cond.instanceMethod yX2_leftOf ∈ zk_E.2.2.1 ∧ Cond.selects yX2_leftOf.cls yX2_leftOf yX2_leftOf ∈ zk_E.2.2.1 := ⟨⟨zk_b5 95 (by decide +kernel) rfl, zk_b1 3 (by decide +kernel) rfl, zk_b5 92 (by decide +kernel) rfl, by decide +kernel, by decide +kernel, by decide +kernel⟩, zk_b5 94 (by decide +kernel) rfl, zk_s2 (q := (yX2_leftOf, 19)) 10 (by decide +kernel)⟩
theorem zl_X2_151 : zm_L zk_E RX2 151 yX2_pieceLength (.code yX2_pieceLength cX2_pieceLength 6 (some .int)) 3 ∧ Cond.instanceMethod yX2_pieceLength ∈ zk_E.2.2.1 ∧ Cond.selects yX2_pieceLength.cls yX2_pieceLength yX2_pieceLength ∈ zk_E.2.2.1 := ⟨⟨zk_b5 103 (by decide +kernel) rfl, zk_b1 3 (by decide +kernel) rfl, zk_b5 100 (by decide +kernel) rfl, by decide +kernel, by decide +kernel, by decide +kernel⟩, zk_b5 102 (by decide +kernel) rfl, zk_s2 (q := (yX2_pieceLength, 19)) 11 (by decide +kernel)⟩
theorem zl_X2_154 : zm_L zk_E RX2 154 yX2_noteSide (.code yX2_noteSide cX2_noteSide 6 none) 4 ∧ Cond.instanceMethod yX2_noteSide ∈ zk_E.2.2.1 ∧ Cond.selects yX2_noteSide.cls yX2_noteSide yX2_noteSide ∈ zk_E.2.2.1 := ⟨⟨zk_b5 111 (by decide +kernel) rfl, zk_b1 3 (by decide +kernel) rfl, zk_b5 108 (by decide +kernel) rfl, by decide +kernel, by decide +kernel, by decide +kernel⟩, zk_b5 110 (by decide +kernel) rfl, zk_s2 (q := (yX2_noteSide, 19)) 12 (by decide +kernel)⟩
theorem zl_X2_164 : zm_L zk_E RX2 164 yX2_turnAt (.code yX2_turnAt cX2_turnAt 6 (some .int)) 3 ∧ Cond.instanceMethod yX2_turnAt ∈ zk_E.2.2.1 ∧ Cond.selects yX2_turnAt.cls yX2_turnAt yX2_turnAt ∈ zk_E.2.2.1 := ⟨⟨zk_b5 119 (by decide +kernel) rfl, zk_b1 3 (by decide +kernel) rfl, zk_b5 116 (by decide +kernel) rfl, by decide +kernel, by decide +kernel, by decide +kernel⟩, zk_b5 118 (by decide +kernel) rfl, zk_s2 (q := (yX2_turnAt, 19)) 14 (by decide +kernel)⟩
theorem zl_X2_139 : zm_F zk_E RX2 139 2 12 := ⟨RX2, TX2, 19, rfl, zk_i2, by decide, zk_b1 102 (by decide +kernel) rfl⟩
theorem zt_2_12 : zm_T zk_E RX2 2 12 .int false := ⟨RX2, TX2, 19, tyX2, rfl, tyX2_ok, nmX2, rfl, rfl, rfl⟩
theorem zl_X2_145 : zm_L zk_E RX2 145 yX2_traceRing (.code yX2_traceRing cX2_traceRing 11 none) 2 ∧ Cond.instanceMethod yX2_traceRing ∈ zk_E.2.2.1 ∧ Cond.selects yX2_traceRing.cls yX2_traceRing yX2_traceRing ∈ zk_E.2.2.1 := ⟨⟨zk_b5 91 (by decide +kernel) rfl, zk_b1 3 (by decide +kernel) rfl, zk_b5 88 (by decide +kernel) rfl, by decide +kernel, by decide +kernel, by decide +kernel⟩, zk_b5 90 (by decide +kernel) rfl, zk_s2 (q := (yX2_traceRing, 19)) 9 (by decide +kernel)⟩
theorem zl_J7_13 : zm_L zk_E RJ7 13 yJ7_rangeCheck_23922 (.code yJ7_rangeCheck_23922 cJ7_rangeCheck_23922 3 none) 3 ∧ Cond.static yJ7_rangeCheck_23922 ∈ zk_E.2.2.1 := ⟨⟨zk_b5 135 (by decide +kernel) rfl, zk_b1 26 (by decide +kernel) rfl, zk_b5 133 (by decide +kernel) rfl, by decide +kernel, by decide +kernel, by decide +kernel⟩, zk_b5 134 (by decide +kernel) rfl⟩
theorem zl_X2_176 : zm_L zk_E RX2 176 yJ7_fill_fda19 (.code yJ7_fill_fda19 cJ7_fill_fda19 5 none) 4 ∧ Cond.static yJ7_fill_fda19 ∈ zk_E.2.2.1 := ⟨⟨zk_b5 132 (by decide +kernel) rfl, zk_b1 26 (by decide +kernel) rfl, zk_b5 130 (by decide +kernel) rfl, by decide +kernel, by decide +kernel, by decide +kernel⟩, zk_b5 131 (by decide +kernel) rfl⟩
theorem zl_X2_173 : zm_L zk_E RX2 173 yX2_giveNameOn (.code yX2_giveNameOn cX2_giveNameOn 4 none) 1 ∧ Cond.instanceMethod yX2_giveNameOn ∈ zk_E.2.2.1 ∧ Cond.selects yX2_giveNameOn.cls yX2_giveNameOn yX2_giveNameOn ∈ zk_E.2.2.1 := ⟨⟨zk_b5 129 (by decide +kernel) rfl, zk_b1 3 (by decide +kernel) rfl, zk_b5 126 (by decide +kernel) rfl, by decide +kernel, by decide +kernel, by decide +kernel⟩, zk_b5 128 (by decide +kernel) rfl, zk_s3 (q := (yX2_giveNameOn, 19)) 0 (by decide +kernel)⟩
theorem zl_X2_62 : zm_L zk_E RX2 62 yX2_swapBefore (.code yX2_swapBefore cX2_swapBefore 3 none) 0 ∧ Cond.instanceMethod yX2_swapBefore ∈ zk_E.2.2.1 ∧ Cond.selects yX2_swapBefore.cls yX2_swapBefore yX2_swapBefore ∈ zk_E.2.2.1 := ⟨⟨zk_b5 36 (by decide +kernel) rfl, zk_b1 3 (by decide +kernel) rfl, zk_b5 33 (by decide +kernel) rfl, by decide +kernel, by decide +kernel, by decide +kernel⟩, zk_b5 35 (by decide +kernel) rfl, zk_s2 (q := (yX2_swapBefore, 19)) 0 (by decide +kernel)⟩
theorem zl_X2_65 : zm_L zk_E RX2 65 yX2_drawWalls (.code yX2_drawWalls cX2_drawWalls 6 none) 0 ∧ Cond.instanceMethod yX2_drawWalls ∈ zk_E.2.2.1 ∧ Cond.selects yX2_drawWalls.cls yX2_drawWalls yX2_drawWalls ∈ zk_E.2.2.1 := ⟨⟨zk_b5 40 (by decide +kernel) rfl, zk_b1 3 (by decide +kernel) rfl, zk_b5 37 (by decide +kernel) rfl, by decide +kernel, by decide +kernel, by decide +kernel⟩, zk_b5 39 (by decide +kernel) rfl, zk_s2 (q := (yX2_drawWalls, 19)) 1 (by decide +kernel)⟩
theorem zl_X2_68 : zm_L zk_E RX2 68 yX2_markPoints (.code yX2_markPoints cX2_markPoints 5 none) 0 ∧ Cond.instanceMethod yX2_markPoints ∈ zk_E.2.2.1 ∧ Cond.selects yX2_markPoints.cls yX2_markPoints yX2_markPoints ∈ zk_E.2.2.1 := ⟨⟨zk_b5 52 (by decide +kernel) rfl, zk_b1 3 (by decide +kernel) rfl, zk_b5 49 (by decide +kernel) rfl, by decide +kernel, by decide +kernel, by decide +kernel⟩, zk_b5 51 (by decide +kernel) rfl, zk_s2 (q := (yX2_markPoints, 19)) 2 (by decide +kernel)⟩
theorem zl_X2_71 : zm_L zk_E RX2 71 yX2_fillSpaces (.code yX2_fillSpaces cX2_fillSpaces 2 none) 0 ∧ Cond.instanceMethod yX2_fillSpaces ∈ zk_E.2.2.1 ∧ Cond.selects yX2_fillSpaces.cls yX2_fillSpaces yX2_fillSpaces ∈ zk_E.2.2.1 := ⟨⟨zk_b5 60 (by decide +kernel) rfl, zk_b1 3 (by decide +kernel) rfl, zk_b5 57 (by decide +kernel) rfl, by decide +kernel, by decide +kernel, by decide +kernel⟩, zk_b5 59 (by decide +kernel) rfl, zk_s2 (q := (yX2_fillSpaces, 19)) 4 (by decide +kernel)⟩
theorem zl_X2_74 : zm_L zk_E RX2 74 yX2_traceRings (.code yX2_traceRings cX2_traceRings 4 none) 0 ∧ Cond.instanceMethod yX2_traceRings ∈ zk_E.2.2.1 ∧ Cond.selects yX2_traceRings.cls yX2_traceRings yX2_traceRings ∈ zk_E.2.2.1 := ⟨⟨zk_b5 87 (by decide +kernel) rfl, zk_b1 3 (by decide +kernel) rfl, zk_b5 84 (by decide +kernel) rfl, by decide +kernel, by decide +kernel, by decide +kernel⟩, zk_b5 86 (by decide +kernel) rfl, zk_s2 (q := (yX2_traceRings, 19)) 8 (by decide +kernel)⟩
theorem zl_X2_77 : zm_L zk_E RX2 77 yX2_giveNamesOn (.code yX2_giveNamesOn cX2_giveNamesOn 3 none) 1 ∧ Cond.instanceMethod yX2_giveNamesOn ∈ zk_E.2.2.1 ∧ Cond.selects yX2_giveNamesOn.cls yX2_giveNamesOn yX2_giveNamesOn ∈ zk_E.2.2.1 := ⟨⟨zk_b5 125 (by decide +kernel) rfl, zk_b1 3 (by decide +kernel) rfl, zk_b5 122 (by decide +kernel) rfl, by decide +kernel, by decide +kernel, by decide +kernel⟩, zk_b5 124 (by decide +kernel) rfl, zk_s2 (q := (yX2_giveNamesOn, 19)) 15 (by decide +kernel)⟩
theorem zl_X2_81 : zm_F zk_E RX2 81 2 1 := ⟨RX2, TX2, 19, rfl, zk_i2, by decide, zk_b1 84 (by decide +kernel) rfl⟩
theorem zt_2_1 : zm_T zk_E RX2 2 1 .int false := ⟨RX2, TX2, 19, tyX2, rfl, tyX2_ok, nmX2, rfl, rfl, rfl⟩
theorem zl_X2_84 : zm_F zk_E RX2 84 2 2 := ⟨RX2, TX2, 19, rfl, zk_i2, by decide, zk_b1 87 (by decide +kernel) rfl⟩
theorem zt_2_2 : zm_T zk_E RX2 2 2 .boolean false := ⟨RX2, TX2, 19, tyX2, rfl, tyX2_ok, nmX2, rfl, rfl, rfl⟩
theorem zl_X2_133 : zm_L zk_E RX2 133 yX8_distanceTo (.code yX8_distanceTo cX8_distanceTo 4 (some .int)) 3 ∧ Cond.instanceMethod yX8_distanceTo ∈ zk_E.2.2.1 ∧ Cond.selects yX8_distanceTo.cls yX8_distanceTo yX8_distanceTo ∈ zk_E.2.2.1 := ⟨⟨zk_b7 223 (by decide +kernel) rfl, zk_b1 2 (by decide +kernel) rfl, zk_b7 220 (by decide +kernel) rfl, by decide +kernel, by decide +kernel, by decide +kernel⟩, zk_b7 221 (by decide +kernel) rfl, zk_b7 222 (by decide +kernel) rfl⟩
theorem zl_X2_179 : zm_L zk_E RX2 179 yX2_findRing (.code yX2_findRing cX2_findRing 5 (some .int)) 2 ∧ Cond.instanceMethod yX2_findRing ∈ zk_E.2.2.1 ∧ Cond.selects yX2_findRing.cls yX2_findRing yX2_findRing ∈ zk_E.2.2.1 := ⟨⟨zk_b6 169 (by decide +kernel) rfl, zk_b1 3 (by decide +kernel) rfl, zk_b6 166 (by decide +kernel) rfl, by decide +kernel, by decide +kernel, by decide +kernel⟩, zk_b6 168 (by decide +kernel) rfl, zk_s3 (q := (yX2_findRing, 19)) 2 (by decide +kernel)⟩
theorem zl_X2_182 : zm_L zk_E RX2 182 yX2_countRings (.code yX2_countRings cX2_countRings 4 (some .int)) 1 ∧ Cond.instanceMethod yX2_countRings ∈ zk_E.2.2.1 ∧ Cond.selects yX2_countRings.cls yX2_countRings yX2_countRings ∈ zk_E.2.2.1 := ⟨⟨zk_b6 195 (by decide +kernel) rfl, zk_b1 3 (by decide +kernel) rfl, zk_b6 192 (by decide +kernel) rfl, by decide +kernel, by decide +kernel, by decide +kernel⟩, zk_b6 194 (by decide +kernel) rfl, zk_s3 (q := (yX2_countRings, 19)) 3 (by decide +kernel)⟩
theorem zl_X2_192 : zm_L zk_E RX2 192 yX8_toOf (.code yX8_toOf cX8_toOf 3 (some .int)) 2 ∧ Cond.instanceMethod yX8_toOf ∈ zk_E.2.2.1 ∧ Cond.selects yX8_toOf.cls yX8_toOf yX8_toOf ∈ zk_E.2.2.1 := ⟨⟨zk_b7 0 (by decide +kernel) rfl, zk_b1 2 (by decide +kernel) rfl, zk_b6 237 (by decide +kernel) rfl, by decide +kernel, by decide +kernel, by decide +kernel⟩, zk_b6 238 (by decide +kernel) rfl, zk_b6 239 (by decide +kernel) rfl⟩
theorem zl_X2_195 : zm_L zk_E RX2 195 yX8_fromOf (.code yX8_fromOf cX8_fromOf 3 (some .int)) 2 ∧ Cond.instanceMethod yX8_fromOf ∈ zk_E.2.2.1 ∧ Cond.selects yX8_fromOf.cls yX8_fromOf yX8_fromOf ∈ zk_E.2.2.1 := ⟨⟨zk_b7 4 (by decide +kernel) rfl, zk_b1 2 (by decide +kernel) rfl, zk_b7 1 (by decide +kernel) rfl, by decide +kernel, by decide +kernel, by decide +kernel⟩, zk_b7 2 (by decide +kernel) rfl, zk_b7 3 (by decide +kernel) rfl⟩
theorem zl_X2_198 : zm_L zk_E RX2 198 yX2_roomLeft (.code yX2_roomLeft cX2_roomLeft 5 (some .int)) 2 ∧ Cond.instanceMethod yX2_roomLeft ∈ zk_E.2.2.1 ∧ Cond.selects yX2_roomLeft.cls yX2_roomLeft yX2_roomLeft ∈ zk_E.2.2.1 := ⟨⟨zk_b7 8 (by decide +kernel) rfl, zk_b1 3 (by decide +kernel) rfl, zk_b7 5 (by decide +kernel) rfl, by decide +kernel, by decide +kernel, by decide +kernel⟩, zk_b7 6 (by decide +kernel) rfl, zk_b7 7 (by decide +kernel) rfl⟩
theorem zl_X2_201 : zm_L zk_E RX2 201 yX2_roomRight (.code yX2_roomRight cX2_roomRight 5 (some .int)) 2 ∧ Cond.instanceMethod yX2_roomRight ∈ zk_E.2.2.1 ∧ Cond.selects yX2_roomRight.cls yX2_roomRight yX2_roomRight ∈ zk_E.2.2.1 := ⟨⟨zk_b7 20 (by decide +kernel) rfl, zk_b1 3 (by decide +kernel) rfl, zk_b7 17 (by decide +kernel) rfl, by decide +kernel, by decide +kernel, by decide +kernel⟩, zk_b7 18 (by decide +kernel) rfl, zk_b7 19 (by decide +kernel) rfl⟩
theorem zl_X2_185 : zm_FN zk_E RX2 185 8 2 := ⟨RX8, TX8, 4, "TowerHouse", rfl, zk_i8, by decide, zk_n1 64 (by decide +kernel) rfl⟩
theorem zl_X2_188 : zm_L zk_E RX2 188 yX2_goThrough (.code yX2_goThrough cX2_goThrough 9 (some .boolean)) 3 ∧ Cond.instanceMethod yX2_goThrough ∈ zk_E.2.2.1 ∧ Cond.selects yX2_goThrough.cls yX2_goThrough yX2_goThrough ∈ zk_E.2.2.1 := ⟨⟨zk_b6 236 (by decide +kernel) rfl, zk_b1 3 (by decide +kernel) rfl, zk_b6 233 (by decide +kernel) rfl, by decide +kernel, by decide +kernel, by decide +kernel⟩, zk_b6 235 (by decide +kernel) rfl, zk_s3 (q := (yX2_goThrough, 19)) 5 (by decide +kernel)⟩
theorem zl_X3_3 : Cond.methodLink RX3 3 Lib.objectInit ∈ zk_E.2.2.1 ∧ Cond.instanceMethod Lib.objectInit ∈ zk_E.2.2.1 ∧ Cond.code Lib.objectInit ⟨#[0xb1]⟩ 1 none ∈ zk_E.2.2.1 := ⟨zk_b3 170 (by decide +kernel) rfl, zk_b1 43 (by decide +kernel) rfl, zk_b1 44 (by decide +kernel) rfl⟩
theorem zl_X3_11 : Cond.classLink RX3 11 "[[I" ∈ zk_E.2.2.1 := zk_b3 171 (by decide +kernel) rfl
theorem zl_X3_13 : zm_F zk_E RX3 13 3 1 := ⟨RX3, TX3, 16, rfl, zk_i3, by decide, zk_b3 175 (by decide +kernel) rfl⟩
theorem zt_3_1 : zm_T zk_E RX3 3 1 (.array (.array .int)) true := ⟨RX3, TX3, 16, tyX3, rfl, tyX3_ok, nmX3, rfl, rfl, rfl⟩
theorem zl_X3_16 : zm_F zk_E RX3 16 3 3 := ⟨RX3, TX3, 16, rfl, zk_i3, by decide, zk_b3 178 (by decide +kernel) rfl⟩
theorem zt_3_3 : zm_T zk_E RX3 3 3 (.array (.array .int)) true := ⟨RX3, TX3, 16, tyX3, rfl, tyX3_ok, nmX3, rfl, rfl, rfl⟩
theorem zl_X3_19 : zm_F zk_E RX3 19 3 5 := ⟨RX3, TX3, 16, rfl, zk_i3, by decide, zk_b3 181 (by decide +kernel) rfl⟩
theorem zt_3_5 : zm_T zk_E RX3 3 5 (.array .int) true := ⟨RX3, TX3, 16, tyX3, rfl, tyX3_ok, nmX3, rfl, rfl, rfl⟩
theorem zl_X3_23 : zm_F zk_E RX3 23 3 6 := ⟨RX3, TX3, 16, rfl, zk_i3, by decide, zk_b3 182 (by decide +kernel) rfl⟩
theorem zt_3_6 : zm_T zk_E RX3 3 6 (.array (.array .int)) true := ⟨RX3, TX3, 16, tyX3, rfl, tyX3_ok, nmX3, rfl, rfl, rfl⟩
theorem zl_X3_26 : zm_F zk_E RX3 26 3 8 := ⟨RX3, TX3, 16, rfl, zk_i3, by decide, zk_b3 185 (by decide +kernel) rfl⟩
theorem zt_3_8 : zm_T zk_E RX3 3 8 (.array .int) true := ⟨RX3, TX3, 16, tyX3, rfl, tyX3_ok, nmX3, rfl, rfl, rfl⟩
theorem zl_X3_29 : Cond.classLink RX3 29 "[[J" ∈ zk_E.2.2.1 := zk_b3 172 (by decide +kernel) rfl
theorem zl_X3_31 : zm_F zk_E RX3 31 3 9 := ⟨RX3, TX3, 16, rfl, zk_i3, by decide, zk_b3 186 (by decide +kernel) rfl⟩
theorem zt_3_9 : zm_T zk_E RX3 3 9 (.array (.array .long)) true := ⟨RX3, TX3, 16, tyX3, rfl, tyX3_ok, nmX3, rfl, rfl, rfl⟩
theorem zl_X3_34 : zm_F zk_E RX3 34 3 10 := ⟨RX3, TX3, 16, rfl, zk_i3, by decide, zk_b3 187 (by decide +kernel) rfl⟩
theorem zt_3_10 : zm_T zk_E RX3 3 10 (.array .int) true := ⟨RX3, TX3, 16, tyX3, rfl, tyX3_ok, nmX3, rfl, rfl, rfl⟩
theorem zl_X3_37 : zm_F zk_E RX3 37 3 11 := ⟨RX3, TX3, 16, rfl, zk_i3, by decide, zk_b3 188 (by decide +kernel) rfl⟩
theorem zt_3_11 : zm_T zk_E RX3 3 11 (.array .int) true := ⟨RX3, TX3, 16, tyX3, rfl, tyX3_ok, nmX3, rfl, rfl, rfl⟩
theorem zl_X3_40 : zm_F zk_E RX3 40 3 13 := ⟨RX3, TX3, 16, rfl, zk_i3, by decide, zk_b3 190 (by decide +kernel) rfl⟩
theorem zt_3_13 : zm_T zk_E RX3 3 13 (.array .int) true := ⟨RX3, TX3, 16, tyX3, rfl, tyX3_ok, nmX3, rfl, rfl, rfl⟩
theorem zl_X3_43 : zm_F zk_E RX3 43 3 14 := ⟨RX3, TX3, 16, rfl, zk_i3, by decide, zk_b3 191 (by decide +kernel) rfl⟩
theorem zt_3_14 : zm_T zk_E RX3 3 14 (.array .int) true := ⟨RX3, TX3, 16, tyX3, rfl, tyX3_ok, nmX3, rfl, rfl, rfl⟩
theorem zl_X3_46 : zm_F zk_E RX3 46 3 0 := ⟨RX3, TX3, 16, rfl, zk_i3, by decide, zk_b3 173 (by decide +kernel) rfl⟩
theorem zt_3_0 : zm_T zk_E RX3 3 0 .int false := ⟨RX3, TX3, 16, tyX3, rfl, tyX3_ok, nmX3, rfl, rfl, rfl⟩
theorem zl_X3_50 : zm_F zk_E RX3 50 3 2 := ⟨RX3, TX3, 16, rfl, zk_i3, by decide, zk_b3 176 (by decide +kernel) rfl⟩
theorem zl_X3_53 : zm_F zk_E RX3 53 3 4 := ⟨RX3, TX3, 16, rfl, zk_i3, by decide, zk_b3 179 (by decide +kernel) rfl⟩
theorem zl_X3_56 : zm_L zk_E RX3 56 yJ7_fill_53178 (.code yJ7_fill_53178 cJ7_fill_53178 4 none) 2 ∧ Cond.static yJ7_fill_53178 ∈ zk_E.2.2.1 := ⟨⟨zk_b5 43 (by decide +kernel) rfl, zk_b1 26 (by decide +kernel) rfl, zk_b11 150 (by decide +kernel) rfl, by decide +kernel, by decide +kernel, by decide +kernel⟩, zk_b5 42 (by decide +kernel) rfl⟩
theorem zt_3_4 : zm_T zk_E RX3 3 4 .int false := ⟨RX3, TX3, 16, tyX3, rfl, tyX3_ok, nmX3, rfl, rfl, rfl⟩
theorem zt_3_2 : zm_T zk_E RX3 3 2 .int false := ⟨RX3, TX3, 16, tyX3, rfl, tyX3_ok, nmX3, rfl, rfl, rfl⟩
theorem zl_X3_62 : zm_L zk_E RX3 62 yX3_placeOfOpen (.code yX3_placeOfOpen cX3_placeOfOpen 3 (some .int)) 1 ∧ Cond.instanceMethod yX3_placeOfOpen ∈ zk_E.2.2.1 ∧ Cond.selects yX3_placeOfOpen.cls yX3_placeOfOpen yX3_placeOfOpen ∈ zk_E.2.2.1 := ⟨⟨zk_b11 165 (by decide +kernel) rfl, zk_b1 12 (by decide +kernel) rfl, zk_b11 162 (by decide +kernel) rfl, by decide +kernel, by decide +kernel, by decide +kernel⟩, zk_b11 164 (by decide +kernel) rfl, zk_s8 (q := (yX3_placeOfOpen, 16)) 1 (by decide +kernel)⟩
theorem zl_X3_74 : Cond.methodLink RX3 74 Lib.Math.min.name ∈ zk_E.2.2.1 ∧ Cond.static Lib.Math.min.name ∈ zk_E.2.2.1 ∧ Cond.initialized "java/lang/Math" ∈ zk_E.2.2.1 ∧ Cond.code Lib.Math.min.name Lib.Math.min.code 2 (some .int) ∈ zk_E.2.2.1 := ⟨zk_b11 174 (by decide +kernel) rfl, zk_b4 214 (by decide +kernel) rfl, zk_b1 25 (by decide +kernel) rfl, zk_b4 215 (by decide +kernel) rfl⟩
theorem zl_X3_80 : Cond.methodLink RX3 80 Lib.Math.max.name ∈ zk_E.2.2.1 ∧ Cond.static Lib.Math.max.name ∈ zk_E.2.2.1 ∧ Cond.initialized "java/lang/Math" ∈ zk_E.2.2.1 ∧ Cond.code Lib.Math.max.name Lib.Math.max.code 2 (some .int) ∈ zk_E.2.2.1 := ⟨zk_b11 175 (by decide +kernel) rfl, zk_b4 217 (by decide +kernel) rfl, zk_b1 25 (by decide +kernel) rfl, zk_b4 218 (by decide +kernel) rfl⟩
theorem zl_X3_70 : zm_L zk_E RX3 70 yX3_endBeginning (.code yX3_endBeginning cX3_endBeginning 3 none) 1 ∧ Cond.instanceMethod yX3_endBeginning ∈ zk_E.2.2.1 ∧ Cond.selects yX3_endBeginning.cls yX3_endBeginning yX3_endBeginning ∈ zk_E.2.2.1 := ⟨⟨zk_b11 179 (by decide +kernel) rfl, zk_b1 12 (by decide +kernel) rfl, zk_b11 176 (by decide +kernel) rfl, by decide +kernel, by decide +kernel, by decide +kernel⟩, zk_b11 178 (by decide +kernel) rfl, zk_s8 (q := (yX3_endBeginning, 16)) 3 (by decide +kernel)⟩
theorem zl_X3_66 : zm_L zk_E RX3 66 yX3_isInSpan (.code yX3_isInSpan cX3_isInSpan 5 (some .boolean)) 2 ∧ Cond.instanceMethod yX3_isInSpan ∈ zk_E.2.2.1 ∧ Cond.selects yX3_isInSpan.cls yX3_isInSpan yX3_isInSpan ∈ zk_E.2.2.1 := ⟨⟨zk_b11 173 (by decide +kernel) rfl, zk_b1 12 (by decide +kernel) rfl, zk_b11 170 (by decide +kernel) rfl, by decide +kernel, by decide +kernel, by decide +kernel⟩, zk_b11 172 (by decide +kernel) rfl, zk_s8 (q := (yX3_isInSpan, 16)) 2 (by decide +kernel)⟩
theorem zl_X3_83 : Cond.methodLink RX3 83 arraycopyName ∈ zk_E.2.2.1 ∧ Cond.native arraycopyName ∈ zk_E.2.2.1 ∧ Cond.static arraycopyName ∈ zk_E.2.2.1 ∧ Cond.initialized "java/lang/System" ∈ zk_E.2.2.1 := ⟨zk_b11 191 (by decide +kernel) rfl, zk_b4 104 (by decide +kernel) rfl, zk_b4 103 (by decide +kernel) rfl, zk_b1 32 (by decide +kernel) rfl⟩
set_option maxHeartbeats 4000000 in
set_option maxRecDepth 100000 in
theorem zt_X2_traceRing_L37 {p : Program} {l : Launch} {e : Env} {R : Room} {s : State} {m : MethodId} {args : Array Value} {below : List Frame} {meth : Method} {c : Code} {V : zm_V} {mc ms d rc rs : Nat} (hX : zm_X p R s m args meth c RX2 "traceRing" cX2_traceRing 11 zk_E V mc ms) (hr : meth.sig.returnType = none) (hR : R.frames = d ∧ R.locals = 64 * d) (hd : 4 ≤ d) {N : Nat} {res : (Unit × zm_S) ⊕ ((Int32) × zm_S)} {out : (Unit × zm_S)} (a0 : Nat) (i6 : Int32) (i7 : Int32) (hf : ∀ o, res = .inl o → o = out) (hk : ∀ (x8 : Int32) (S' : zm_S), res = .inr (x8, S') → zw p l e R s m args below meth c (vx_MQ below (zm_Qc zk_E V (zo_v out)) (zm_XC zk_E V zo_x) args s mc ms (fun q => V.2.2.2.1 ≤ q)) 11 zk_E V mc ms 155 [(0, .ref a0), (6, .int i6), (7, .int i7), (8, .int x8)] [] S' rc rs) : ∀ (n : Nat) (i3 : Int32) (i4 : Int32) (i5 : Int32) (i8 : Int32) (i9 : Int32) (S : zm_S), zf_X2_traceRing_L37 N n a0 i3 i4 i5 i6 i7 i8 i9 S = some res → zw p l e R s m args below meth c (vx_MQ below (zm_Qc zk_E V (zo_v out)) (zm_XC zk_E V zo_x) args s mc ms (fun q => V.2.2.2.1 ≤ q)) 11 zk_E V mc ms 37 [(0, .ref a0), (3, .int i3), (4, .int i4), (5, .int i5), (6, .int i6), (7, .int i7), (8, .int i8), (9, .int i9)] [] S rc rs := by
  intro n
  induction n with
  | zero => intro i3 i4 i5 i8 i9 S h; cases h
  | succ n ih =>
    intro i3 i4 i5 i8 i9 S h
    rw [zf_X2_traceRing_L37] at h
    refine zw_iload hX dX2_traceRing_37 rfl ?_
    refine zw_sipush (v := (440 : Int32)) hX dX2_traceRing_39 (by decide) ?_
    refine zw_icmp_ge (tgt := 155) hX dX2_traceRing_42 (by decide) (fun c42 => ?_) (fun c42 => ?_)
    · rw [if_pos c42] at h
      refine zw_sub (lv' := [(0, .ref a0), (6, .int i6), (7, .int i7), (8, .int i8)]) (List.forall_mem_cons.mpr ⟨rfl, (List.forall_mem_cons.mpr ⟨rfl, (List.forall_mem_cons.mpr ⟨rfl, (List.forall_mem_cons.mpr ⟨rfl, zs_nil⟩)⟩)⟩)⟩) ?_
      exact hk _ _ (Option.some.inj h).symm
    · rw [if_neg c42] at h
      refine zw_aload_n hX dX2_traceRing_45 rfl ?_
      obtain ⟨b4, g, h⟩ := zb_some h
      refine zw_getr hX zl_X2_45 dX2_traceRing_46 g ?_
      refine zw_iconst (v := (4 : Int32)) hX dX2_traceRing_49 (by decide) ?_
      refine zw_iload_n hX dX2_traceRing_50 rfl ?_
      refine zw_bipush (v := (25 : Int32)) hX dX2_traceRing_51 (by decide) ?_
      refine zw_imul hX dX2_traceRing_53 ?_
      refine zw_iload hX dX2_traceRing_54 rfl ?_
      refine zw_iadd hX dX2_traceRing_56 ?_
      refine zw_imul hX dX2_traceRing_57 ?_
      refine zw_iload hX dX2_traceRing_58 rfl ?_
      refine zw_iadd hX dX2_traceRing_60 ?_
      obtain ⟨v5, g, h⟩ := zb_some h
      refine zw_xz hX dX2_traceRing_61 g ?_
      refine zw_if_ne (tgt := 155) hX dX2_traceRing_62 (by decide) (fun c62 => ?_) (fun c62 => ?_)
      · rw [if_neg c62] at h
        refine zw_sub (lv' := [(0, .ref a0), (6, .int i6), (7, .int i7), (8, .int i8)]) (List.forall_mem_cons.mpr ⟨rfl, (List.forall_mem_cons.mpr ⟨rfl, (List.forall_mem_cons.mpr ⟨rfl, (List.forall_mem_cons.mpr ⟨rfl, zs_nil⟩)⟩)⟩)⟩) ?_
        exact hk _ _ (Option.some.inj h).symm
      · rw [if_pos c62] at h
        refine zw_aload_n hX dX2_traceRing_65 rfl ?_
        obtain ⟨b6, g, h⟩ := zb_some h
        refine zw_getr hX zl_X2_45 dX2_traceRing_66 g ?_
        refine zw_iconst (v := (4 : Int32)) hX dX2_traceRing_69 (by decide) ?_
        refine zw_iload_n hX dX2_traceRing_70 rfl ?_
        refine zw_bipush (v := (25 : Int32)) hX dX2_traceRing_71 (by decide) ?_
        refine zw_imul hX dX2_traceRing_73 ?_
        refine zw_iload hX dX2_traceRing_74 rfl ?_
        refine zw_iadd hX dX2_traceRing_76 ?_
        refine zw_imul hX dX2_traceRing_77 ?_
        refine zw_iload hX dX2_traceRing_78 rfl ?_
        refine zw_iadd hX dX2_traceRing_80 ?_
        refine zw_iconst (v := (1 : Int32)) hX dX2_traceRing_81 (by decide) ?_
        obtain ⟨S7, g, h⟩ := zb_some h
        refine zw_sz hX dX2_traceRing_82 g ?_
        refine zw_aload_n hX dX2_traceRing_83 rfl ?_
        refine zw_iload_n hX dX2_traceRing_84 rfl ?_
        refine zw_iload hX dX2_traceRing_85 rfl ?_
        refine zw_iload hX dX2_traceRing_87 rfl ?_
        obtain ⟨_, gi, h⟩ := zb_some h
        obtain ⟨r9, g, h⟩ := zb_some h
        refine zc_Vi (as := [.int i3, .int i4, .int i5]) hX gi (zt_X2_pieceLength (d := d - 1) (by omega) g) zl_X2_151 rfl dX2_traceRing_89 ⟨rfl, rfl, Nat.le_of_ble_eq_true rfl⟩ ⟨by omega, by omega⟩ ?_
        refine zw_istore hX dX2_traceRing_92 (by decide) ?_
        refine zw_aload_n hX dX2_traceRing_94 rfl ?_
        refine zw_iload_n hX dX2_traceRing_95 rfl ?_
        refine zw_iload hX dX2_traceRing_96 rfl ?_
        refine zw_iload hX dX2_traceRing_98 rfl ?_
        refine zw_iload hX dX2_traceRing_100 rfl ?_
        obtain ⟨_, gi, h⟩ := zb_some h
        obtain ⟨r11, g, h⟩ := zb_some h
        refine zc_Vv (as := [.int i3, .int i4, .int i5, .int r9.1]) hX gi (zt_X2_noteSide (d := d - 1) (by omega) g) zl_X2_154 rfl dX2_traceRing_102 ⟨rfl, rfl, Nat.le_of_ble_eq_true rfl⟩ ⟨by omega, by omega⟩ ?_
        refine zw_iload hX dX2_traceRing_105 rfl ?_
        refine zw_iload hX dX2_traceRing_107 rfl ?_
        refine zw_iadd hX dX2_traceRing_109 ?_
        refine zw_istore hX dX2_traceRing_110 (by decide) ?_
        refine zw_iload_n hX dX2_traceRing_112 rfl ?_
        refine zw_iload hX dX2_traceRing_113 rfl ?_
        refine zw_gets (C := "TowerHouse$Finding") (n := "SIDE_X") (d := "[I") (k := 2) hX (List.mem_of_getElem? (i := 1) rfl) (by decide) zl_X2_158 dX2_traceRing_115 ?_
        refine zw_iload hX dX2_traceRing_118 rfl ?_
        obtain ⟨v12, g, h⟩ := zb_some h
        refine zw_xi hX dX2_traceRing_120 g ?_
        refine zw_imul hX dX2_traceRing_121 ?_
        refine zw_iadd hX dX2_traceRing_122 ?_
        refine zw_istore_n hX dX2_traceRing_123 (by decide) ?_
        refine zw_iload hX dX2_traceRing_124 rfl ?_
        refine zw_iload hX dX2_traceRing_126 rfl ?_
        refine zw_gets (C := "TowerHouse$Finding") (n := "SIDE_Y") (d := "[I") (k := 3) hX (List.mem_of_getElem? (i := 2) rfl) (by decide) zl_X2_161 dX2_traceRing_128 ?_
        refine zw_iload hX dX2_traceRing_131 rfl ?_
        obtain ⟨v13, g, h⟩ := zb_some h
        refine zw_xi hX dX2_traceRing_133 g ?_
        refine zw_imul hX dX2_traceRing_134 ?_
        refine zw_iadd hX dX2_traceRing_135 ?_
        refine zw_istore hX dX2_traceRing_136 (by decide) ?_
        refine zw_aload_n hX dX2_traceRing_138 rfl ?_
        refine zw_iload_n hX dX2_traceRing_139 rfl ?_
        refine zw_iload hX dX2_traceRing_140 rfl ?_
        refine zw_iload hX dX2_traceRing_142 rfl ?_
        obtain ⟨_, gi, h⟩ := zb_some h
        obtain ⟨r15, g, h⟩ := zb_some h
        refine zc_Vi (as := [.int (i3 + (r9.1 * v12)), .int (i4 + (r9.1 * v13)), .int i5]) hX gi (zt_X2_turnAt (d := d - 1) (by omega) g) zl_X2_164 rfl dX2_traceRing_144 ⟨rfl, rfl, Nat.le_of_ble_eq_true rfl⟩ ⟨by omega, by omega⟩ ?_
        refine zw_istore hX dX2_traceRing_147 (by decide) ?_
        refine zw_iinc (v := (i9 + (1 : Int32))) hX dX2_traceRing_149 rfl rfl (by decide) ?_
        refine zw_goto (tgt := 37) hX dX2_traceRing_152 (by decide) ?_
        refine zw_sub (lv' := [(0, .ref a0), (3, .int (i3 + (r9.1 * v12))), (4, .int (i4 + (r9.1 * v13))), (5, .int r15.1), (6, .int i6), (7, .int i7), (8, .int (i8 + r9.1)), (9, .int (i9 + (1 : Int32)))]) (List.forall_mem_cons.mpr ⟨rfl, (List.forall_mem_cons.mpr ⟨rfl, (List.forall_mem_cons.mpr ⟨rfl, (List.forall_mem_cons.mpr ⟨rfl, (List.forall_mem_cons.mpr ⟨rfl, (List.forall_mem_cons.mpr ⟨rfl, (List.forall_mem_cons.mpr ⟨rfl, (List.forall_mem_cons.mpr ⟨rfl, zs_nil⟩)⟩)⟩)⟩)⟩)⟩)⟩)⟩) ?_
        exact ih _ _ _ _ _ _ h
set_option maxHeartbeats 4000000 in
set_option maxRecDepth 100000 in
theorem zt_X2_traceRing_J155 {p : Program} {l : Launch} {e : Env} {R : Room} {s : State} {m : MethodId} {args : Array Value} {below : List Frame} {meth : Method} {c : Code} {V : zm_V} {mc ms d rc rs : Nat} (hX : zm_X p R s m args meth c RX2 "traceRing" cX2_traceRing 11 zk_E V mc ms) (hr : meth.sig.returnType = none) (hR : R.frames = d ∧ R.locals = 64 * d) (hd : 4 ≤ d) {N : Nat} {a0 : Nat} {i6 : Int32} {i7 : Int32} {i8 : Int32} {out : (Unit × zm_S)} {S : zm_S} (h : zf_X2_traceRing_J155 N a0 i6 i7 i8 S = some out) : zw p l e R s m args below meth c (vx_MQ below (zm_Qc zk_E V (zo_v out)) (zm_XC zk_E V zo_x) args s mc ms (fun q => V.2.2.2.1 ≤ q)) 11 zk_E V mc ms 155 [(0, .ref a0), (6, .int i6), (7, .int i7), (8, .int i8)] [] S rc rs := by
  unfold zf_X2_traceRing_J155 at h
  refine zw_aload_n hX dX2_traceRing_155 rfl ?_
  obtain ⟨b18, g, h⟩ := zb_some h
  refine zw_getr hX zl_X2_39 dX2_traceRing_156 g ?_
  refine zw_aload_n hX dX2_traceRing_159 rfl ?_
  obtain ⟨v19, g, h⟩ := zb_some h
  refine zw_geti hX zl_X2_139 dX2_traceRing_160 g ?_
  obtain ⟨b20, g, h⟩ := zb_some h
  refine zw_xr hX dX2_traceRing_163 g ?_
  refine zw_astore hX dX2_traceRing_164 (by decide) ?_
  refine zw_aload hX dX2_traceRing_166 rfl ?_
  refine zw_iconst (v := (0 : Int32)) hX dX2_traceRing_168 (by decide) ?_
  refine zw_iload hX dX2_traceRing_169 rfl ?_
  obtain ⟨S21, g, h⟩ := zb_some h
  refine zw_si hX dX2_traceRing_171 g ?_
  refine zw_aload hX dX2_traceRing_172 rfl ?_
  refine zw_iconst (v := (1 : Int32)) hX dX2_traceRing_174 (by decide) ?_
  refine zw_iload hX dX2_traceRing_175 rfl ?_
  obtain ⟨S22, g, h⟩ := zb_some h
  refine zw_si hX dX2_traceRing_177 g ?_
  refine zw_aload hX dX2_traceRing_178 rfl ?_
  refine zw_iconst (v := (2 : Int32)) hX dX2_traceRing_180 (by decide) ?_
  refine zw_aload_n hX dX2_traceRing_181 rfl ?_
  obtain ⟨v23, g, h⟩ := zb_some h
  refine zw_geti hX zl_X2_142 dX2_traceRing_182 g ?_
  refine zw_iload hX dX2_traceRing_185 rfl ?_
  refine zw_isub hX dX2_traceRing_187 ?_
  obtain ⟨S24, g, h⟩ := zb_some h
  refine zw_si hX dX2_traceRing_188 g ?_
  refine zw_aload_n hX dX2_traceRing_189 rfl ?_
  refine zw_dup hX dX2_traceRing_190 rfl ?_
  obtain ⟨v25, g, h⟩ := zb_some h
  refine zw_geti hX zl_X2_139 dX2_traceRing_191 g ?_
  refine zw_iconst (v := (1 : Int32)) hX dX2_traceRing_194 (by decide) ?_
  refine zw_iadd hX dX2_traceRing_195 ?_
  obtain ⟨S26, g, h⟩ := zb_some h
  refine zw_putv hX zl_X2_139 zt_2_12 dX2_traceRing_196 rfl rfl g ?_
  refine zw_iload hX dX2_traceRing_199 rfl ?_
  refine zw_if_lt (tgt := 216) hX dX2_traceRing_201 (by decide) (fun c201 => ?_) (fun c201 => ?_)
  · rw [if_pos c201] at h
    obtain rfl := Option.some.inj h
    exact zw_vret hX hr dX2_traceRing_216 ⟨rfl, rfl⟩
  · rw [if_neg c201] at h
    refine zw_aload_n hX dX2_traceRing_204 rfl ?_
    obtain ⟨b27, g, h⟩ := zb_some h
    refine zw_getr hX zl_X2_36 dX2_traceRing_205 g ?_
    refine zw_iload hX dX2_traceRing_208 rfl ?_
    refine zw_dup2 hX dX2_traceRing_210 rfl rfl ?_
    obtain ⟨v28, g, h⟩ := zb_some h
    refine zw_xi hX dX2_traceRing_211 g ?_
    refine zw_iload hX dX2_traceRing_212 rfl ?_
    refine zw_iadd hX dX2_traceRing_214 ?_
    obtain ⟨S29, g, h⟩ := zb_some h
    refine zw_si hX dX2_traceRing_215 g ?_
    obtain rfl := Option.some.inj h
    exact zw_vret hX hr dX2_traceRing_216 ⟨rfl, rfl⟩
set_option maxHeartbeats 4000000 in
set_option maxRecDepth 100000 in
theorem zt_X2_traceRing {l : Launch} {V : zm_V} {N : Nat} {S : zm_S} {out : (Unit × zm_S)} {d : Nat} {a0 : Nat} {i1 : Int32} {i2 : Int32} (hd : 4 ≤ d) (h : zf_X2_traceRing N a0 i1 i2 S = some out) : zm_Met l zk_E V yX2_traceRing (.code yX2_traceRing cX2_traceRing 11 none) d [.ref a0, .int i1, .int i2] S 0 0 (zo_v out) zo_x := by
  refine zm_of (by decide +kernel) (Nat.le_of_ble_eq_true rfl) ?_
  intro p e R s m args below meth c hRR hX hr hxt
  have hR : R.frames = d ∧ R.locals = 64 * d := by rw [hRR]; exact ⟨rfl, rfl⟩
  have hX : zm_X p R s m args meth c RX2 "traceRing" cX2_traceRing 11 zk_E V 0 0 := hX
  unfold zf_X2_traceRing at h
  refine zw_sub (lv' := [(0, .ref a0), (1, .int i1), (2, .int i2)]) (List.forall_mem_cons.mpr ⟨rfl, (List.forall_mem_cons.mpr ⟨rfl, (List.forall_mem_cons.mpr ⟨rfl, zs_nil⟩)⟩)⟩) ?_
  refine zw_iload_n hX dX2_traceRing_0 rfl ?_
  refine zw_bipush (v := (25 : Int32)) hX dX2_traceRing_1 (by decide) ?_
  refine zw_idiv hX dX2_traceRing_3 (by decide) ?_
  refine zw_istore_n hX dX2_traceRing_4 (by decide) ?_
  refine zw_iload_n hX dX2_traceRing_5 rfl ?_
  refine zw_bipush (v := (25 : Int32)) hX dX2_traceRing_6 (by decide) ?_
  refine zw_irem hX dX2_traceRing_8 (by decide) ?_
  refine zw_istore hX dX2_traceRing_9 (by decide) ?_
  refine zw_iload_n hX dX2_traceRing_11 rfl ?_
  refine zw_istore hX dX2_traceRing_12 (by decide) ?_
  refine zw_aload_n hX dX2_traceRing_14 rfl ?_
  refine zw_iload_n hX dX2_traceRing_15 rfl ?_
  refine zw_iload hX dX2_traceRing_16 rfl ?_
  refine zw_iload hX dX2_traceRing_18 rfl ?_
  obtain ⟨_, gi, h⟩ := zb_some h
  obtain ⟨r2, g, h⟩ := zb_some h
  refine zc_Vi (as := [.int (i1 / (25 : Int32)), .int (i1 - i1 / (25 : Int32) * (25 : Int32)), .int i2]) hX gi (zt_X2_leftOf (d := d - 1) (by omega) g) zl_X2_148 rfl dX2_traceRing_20 ⟨rfl, rfl, Nat.le_of_ble_eq_true rfl⟩ ⟨by omega, by omega⟩ ?_
  refine zw_istore hX dX2_traceRing_23 (by decide) ?_
  refine zw_aload_n hX dX2_traceRing_25 rfl ?_
  obtain ⟨v3, g, h⟩ := zb_some h
  refine zw_geti hX zl_X2_142 dX2_traceRing_26 g ?_
  refine zw_istore hX dX2_traceRing_29 (by decide) ?_
  refine zw_iconst (v := (0 : Int32)) hX dX2_traceRing_31 (by decide) ?_
  refine zw_istore hX dX2_traceRing_32 (by decide) ?_
  refine zw_iconst (v := (0 : Int32)) hX dX2_traceRing_34 (by decide) ?_
  refine zw_istore hX dX2_traceRing_35 (by decide) ?_
  obtain ⟨r, g, h⟩ := zb_some h
  refine zw_sub (lv' := [(0, .ref a0), (3, .int (i1 / (25 : Int32))), (4, .int (i1 - i1 / (25 : Int32) * (25 : Int32))), (5, .int i2), (6, .int r2.1), (7, .int v3), (8, .int (0 : Int32)), (9, .int (0 : Int32))]) (List.forall_mem_cons.mpr ⟨rfl, (List.forall_mem_cons.mpr ⟨rfl, (List.forall_mem_cons.mpr ⟨rfl, (List.forall_mem_cons.mpr ⟨rfl, (List.forall_mem_cons.mpr ⟨rfl, (List.forall_mem_cons.mpr ⟨rfl, (List.forall_mem_cons.mpr ⟨rfl, (List.forall_mem_cons.mpr ⟨rfl, zs_nil⟩)⟩)⟩)⟩)⟩)⟩)⟩)⟩) ?_
  refine zt_X2_traceRing_L37 hX hr hR hd (res := r) (out := out) a0 r2.1 v3 ?_ ?_ N _ _ _ _ _ _ g
  · intro o ho
    subst ho
    exact Option.some.inj h
  · intro v17 S16 hx
    subst hx
    try dsimp only at h
    refine zw_sub (lv' := [(0, .ref a0), (6, .int r2.1), (7, .int v3), (8, .int v17)]) (List.forall_mem_cons.mpr ⟨rfl, (List.forall_mem_cons.mpr ⟨rfl, (List.forall_mem_cons.mpr ⟨rfl, (List.forall_mem_cons.mpr ⟨rfl, zs_nil⟩)⟩)⟩)⟩) ?_
    exact zt_X2_traceRing_J155 hX hr hR hd h
set_option maxHeartbeats 4000000 in
set_option maxRecDepth 100000 in
theorem zt_X2_traceRings_L12 {p : Program} {l : Launch} {e : Env} {R : Room} {s : State} {m : MethodId} {args : Array Value} {below : List Frame} {meth : Method} {c : Code} {V : zm_V} {mc ms d rc rs : Nat} (hX : zm_X p R s m args meth c RX2 "traceRings" cX2_traceRings 4 zk_E V mc ms) (hr : meth.sig.returnType = none) (hR : R.frames = d ∧ R.locals = 64 * d) (hd : 5 ≤ d) {N : Nat} {res : (Unit × zm_S) ⊕ ((Unit) × zm_S)} {out : (Unit × zm_S)} (a0 : Nat) (hf : ∀ o, res = .inl o → o = out) (hk : ∀ (S' : zm_S), res = .inr ((), S') → zw p l e R s m args below meth c (vx_MQ below (zm_Qc zk_E V (zo_v out)) (zm_XC zk_E V zo_x) args s mc ms (fun q => V.2.2.2.1 ≤ q)) 4 zk_E V mc ms 34 [(0, .ref a0)] [] S' rc rs) : ∀ (n : Nat) (i1 : Int32) (S : zm_S), zf_X2_traceRings_L12 N n a0 i1 S = some res → zw p l e R s m args below meth c (vx_MQ below (zm_Qc zk_E V (zo_v out)) (zm_XC zk_E V zo_x) args s mc ms (fun q => V.2.2.2.1 ≤ q)) 4 zk_E V mc ms 12 [(0, .ref a0), (1, .int i1)] [] S rc rs := by
  intro n
  induction n with
  | zero => intro i1 S h; cases h
  | succ n ih =>
    intro i1 S h
    rw [zf_X2_traceRings_L12] at h
    refine zw_iload_n hX dX2_traceRings_12 rfl ?_
    refine zw_aload_n hX dX2_traceRings_13 rfl ?_
    obtain ⟨b3, g, h⟩ := zb_some h
    refine zw_getr hX zl_X2_45 dX2_traceRings_14 g ?_
    obtain ⟨v4, g, h⟩ := zb_some h
    refine zw_len hX dX2_traceRings_17 g ?_
    refine zw_icmp_ge (tgt := 34) hX dX2_traceRings_18 (by decide) (fun c18 => ?_) (fun c18 => ?_)
    · rw [if_pos c18] at h
      refine zw_sub (lv' := [(0, .ref a0)]) (List.forall_mem_cons.mpr ⟨rfl, zs_nil⟩) ?_
      exact hk  _ (Option.some.inj h).symm
    · rw [if_neg c18] at h
      refine zw_aload_n hX dX2_traceRings_21 rfl ?_
      obtain ⟨b5, g, h⟩ := zb_some h
      refine zw_getr hX zl_X2_45 dX2_traceRings_22 g ?_
      refine zw_iload_n hX dX2_traceRings_25 rfl ?_
      refine zw_iconst (v := (0 : Int32)) hX dX2_traceRings_26 (by decide) ?_
      obtain ⟨S6, g, h⟩ := zb_some h
      refine zw_sz hX dX2_traceRings_27 g ?_
      refine zw_iinc (v := (i1 + (1 : Int32))) hX dX2_traceRings_28 rfl rfl (by decide) ?_
      refine zw_goto (tgt := 12) hX dX2_traceRings_31 (by decide) ?_
      refine zw_sub (lv' := [(0, .ref a0), (1, .int (i1 + (1 : Int32)))]) (List.forall_mem_cons.mpr ⟨rfl, (List.forall_mem_cons.mpr ⟨rfl, zs_nil⟩)⟩) ?_
      exact ih _ _ h
set_option maxHeartbeats 4000000 in
set_option maxRecDepth 100000 in
theorem zt_X2_traceRings_J89 {p : Program} {l : Launch} {e : Env} {R : Room} {s : State} {m : MethodId} {args : Array Value} {below : List Frame} {meth : Method} {c : Code} {V : zm_V} {mc ms d rc rs : Nat} (hX : zm_X p R s m args meth c RX2 "traceRings" cX2_traceRings 4 zk_E V mc ms) (hr : meth.sig.returnType = none) (hR : R.frames = d ∧ R.locals = 64 * d) (hd : 5 ≤ d) {N : Nat} {k : Nat → Int32 → Int32 → zm_S → Option ((Unit × zm_S) ⊕ ((Unit) × zm_S))} {a0 : Nat} {i1 : Int32} {i2 : Int32} {t0 : Int32} {res : (Unit × zm_S) ⊕ ((Unit) × zm_S)} {out : (Unit × zm_S)}   (hf : ∀ o, res = .inl o → o = out) (hk : ∀ (S' : zm_S), res = .inr ((), S') → zw p l e R s m args below meth c (vx_MQ below (zm_Qc zk_E V (zo_v out)) (zm_XC zk_E V zo_x) args s mc ms (fun q => V.2.2.2.1 ≤ q)) 4 zk_E V mc ms 129 [(0, .ref a0), (1, .int i1)] [] S' rc rs) (hrec : ∀ (i2' : Int32) (S : zm_S), k a0 i1 i2' S = some res → zw p l e R s m args below meth c (vx_MQ below (zm_Qc zk_E V (zo_v out)) (zm_XC zk_E V zo_x) args s mc ms (fun q => V.2.2.2.1 ≤ q)) 4 zk_E V mc ms 53 [(0, .ref a0), (1, .int i1), (2, .int i2')] [] S rc rs) {S : zm_S} (h : zf_X2_traceRings_J89 N k a0 i1 i2 t0 S = some res) : zw p l e R s m args below meth c (vx_MQ below (zm_Qc zk_E V (zo_v out)) (zm_XC zk_E V zo_x) args s mc ms (fun q => V.2.2.2.1 ≤ q)) 4 zk_E V mc ms 89 [(0, .ref a0), (1, .int i1), (2, .int i2)] [.int t0] S rc rs := by
  unfold zf_X2_traceRings_J89 at h
  refine zw_istore_n hX dX2_traceRings_89 (by decide) ?_
  refine zw_iload_n hX dX2_traceRings_90 rfl ?_
  refine zw_if_eq (tgt := 123) hX dX2_traceRings_91 (by decide) (fun c91 => ?_) (fun c91 => ?_)
  · rw [if_pos c91] at h
    refine zw_iinc (v := (i2 + (1 : Int32))) hX dX2_traceRings_123 rfl rfl (by decide) ?_
    refine zw_goto (tgt := 53) hX dX2_traceRings_126 (by decide) ?_
    refine zw_sub (lv' := [(0, .ref a0), (1, .int i1), (2, .int (i2 + (1 : Int32)))]) (List.forall_mem_cons.mpr ⟨rfl, (List.forall_mem_cons.mpr ⟨rfl, (List.forall_mem_cons.mpr ⟨rfl, zs_nil⟩)⟩)⟩) ?_
    exact hrec _ _ h
  · rw [if_neg c91] at h
    refine zw_aload_n hX dX2_traceRings_94 rfl ?_
    obtain ⟨b13, g, h⟩ := zb_some h
    refine zw_getr hX zl_X2_45 dX2_traceRings_95 g ?_
    refine zw_iconst (v := (4 : Int32)) hX dX2_traceRings_98 (by decide) ?_
    refine zw_iload_n hX dX2_traceRings_99 rfl ?_
    refine zw_imul hX dX2_traceRings_100 ?_
    refine zw_iload_n hX dX2_traceRings_101 rfl ?_
    refine zw_iadd hX dX2_traceRings_102 ?_
    obtain ⟨v14, g, h⟩ := zb_some h
    refine zw_xz hX dX2_traceRings_103 g ?_
    refine zw_if_ne (tgt := 123) hX dX2_traceRings_104 (by decide) (fun c104 => ?_) (fun c104 => ?_)
    · rw [if_neg c104] at h
      refine zw_iinc (v := (i2 + (1 : Int32))) hX dX2_traceRings_123 rfl rfl (by decide) ?_
      refine zw_goto (tgt := 53) hX dX2_traceRings_126 (by decide) ?_
      refine zw_sub (lv' := [(0, .ref a0), (1, .int i1), (2, .int (i2 + (1 : Int32)))]) (List.forall_mem_cons.mpr ⟨rfl, (List.forall_mem_cons.mpr ⟨rfl, (List.forall_mem_cons.mpr ⟨rfl, zs_nil⟩)⟩)⟩) ?_
      exact hrec _ _ h
    · rw [if_pos c104] at h
      refine zw_aload_n hX dX2_traceRings_107 rfl ?_
      obtain ⟨v15, g, h⟩ := zb_some h
      refine zw_geti hX zl_X2_139 dX2_traceRings_108 g ?_
      refine zw_sipush (v := (220 : Int32)) hX dX2_traceRings_111 (by decide) ?_
      refine zw_icmp_ge (tgt := 123) hX dX2_traceRings_114 (by decide) (fun c114 => ?_) (fun c114 => ?_)
      · rw [if_pos c114] at h
        refine zw_iinc (v := (i2 + (1 : Int32))) hX dX2_traceRings_123 rfl rfl (by decide) ?_
        refine zw_goto (tgt := 53) hX dX2_traceRings_126 (by decide) ?_
        refine zw_sub (lv' := [(0, .ref a0), (1, .int i1), (2, .int (i2 + (1 : Int32)))]) (List.forall_mem_cons.mpr ⟨rfl, (List.forall_mem_cons.mpr ⟨rfl, (List.forall_mem_cons.mpr ⟨rfl, zs_nil⟩)⟩)⟩) ?_
        exact hrec _ _ h
      · rw [if_neg c114] at h
        refine zw_aload_n hX dX2_traceRings_117 rfl ?_
        refine zw_iload_n hX dX2_traceRings_118 rfl ?_
        refine zw_iload_n hX dX2_traceRings_119 rfl ?_
        obtain ⟨_, gi, h⟩ := zb_some h
        obtain ⟨r17, g, h⟩ := zb_some h
        refine zc_Vv (as := [.int i1, .int i2]) hX gi (zt_X2_traceRing (d := d - 1) (by omega) g) zl_X2_145 rfl dX2_traceRings_120 ⟨rfl, rfl, Nat.le_of_ble_eq_true rfl⟩ ⟨by omega, by omega⟩ ?_
        refine zw_iinc (v := (i2 + (1 : Int32))) hX dX2_traceRings_123 rfl rfl (by decide) ?_
        refine zw_goto (tgt := 53) hX dX2_traceRings_126 (by decide) ?_
        refine zw_sub (lv' := [(0, .ref a0), (1, .int i1), (2, .int (i2 + (1 : Int32)))]) (List.forall_mem_cons.mpr ⟨rfl, (List.forall_mem_cons.mpr ⟨rfl, (List.forall_mem_cons.mpr ⟨rfl, zs_nil⟩)⟩)⟩) ?_
        exact hrec _ _ h
set_option maxHeartbeats 4000000 in
set_option maxRecDepth 100000 in
theorem zt_X2_traceRings_J88 {p : Program} {l : Launch} {e : Env} {R : Room} {s : State} {m : MethodId} {args : Array Value} {below : List Frame} {meth : Method} {c : Code} {V : zm_V} {mc ms d rc rs : Nat} (hX : zm_X p R s m args meth c RX2 "traceRings" cX2_traceRings 4 zk_E V mc ms) (hr : meth.sig.returnType = none) (hR : R.frames = d ∧ R.locals = 64 * d) (hd : 5 ≤ d) {N : Nat} {k : Nat → Int32 → Int32 → zm_S → Option ((Unit × zm_S) ⊕ ((Unit) × zm_S))} {a0 : Nat} {i1 : Int32} {i2 : Int32} {res : (Unit × zm_S) ⊕ ((Unit) × zm_S)} {out : (Unit × zm_S)}   (hf : ∀ o, res = .inl o → o = out) (hk : ∀ (S' : zm_S), res = .inr ((), S') → zw p l e R s m args below meth c (vx_MQ below (zm_Qc zk_E V (zo_v out)) (zm_XC zk_E V zo_x) args s mc ms (fun q => V.2.2.2.1 ≤ q)) 4 zk_E V mc ms 129 [(0, .ref a0), (1, .int i1)] [] S' rc rs) (hrec : ∀ (i2' : Int32) (S : zm_S), k a0 i1 i2' S = some res → zw p l e R s m args below meth c (vx_MQ below (zm_Qc zk_E V (zo_v out)) (zm_XC zk_E V zo_x) args s mc ms (fun q => V.2.2.2.1 ≤ q)) 4 zk_E V mc ms 53 [(0, .ref a0), (1, .int i1), (2, .int i2')] [] S rc rs) {S : zm_S} (h : zf_X2_traceRings_J88 N k a0 i1 i2 S = some res) : zw p l e R s m args below meth c (vx_MQ below (zm_Qc zk_E V (zo_v out)) (zm_XC zk_E V zo_x) args s mc ms (fun q => V.2.2.2.1 ≤ q)) 4 zk_E V mc ms 88 [(0, .ref a0), (1, .int i1), (2, .int i2)] [] S rc rs := by
  unfold zf_X2_traceRings_J88 at h
  refine zw_iconst (v := (0 : Int32)) hX dX2_traceRings_88 (by decide) ?_
  refine zw_sub (lv' := [(0, .ref a0), (1, .int i1), (2, .int i2)]) (List.forall_mem_cons.mpr ⟨rfl, (List.forall_mem_cons.mpr ⟨rfl, (List.forall_mem_cons.mpr ⟨rfl, zs_nil⟩)⟩)⟩) ?_
  exact zt_X2_traceRings_J89 hX hr hR hd hf hk hrec h
set_option maxHeartbeats 4000000 in
set_option maxRecDepth 100000 in
theorem zt_X2_traceRings_L53 {p : Program} {l : Launch} {e : Env} {R : Room} {s : State} {m : MethodId} {args : Array Value} {below : List Frame} {meth : Method} {c : Code} {V : zm_V} {mc ms d rc rs : Nat} (hX : zm_X p R s m args meth c RX2 "traceRings" cX2_traceRings 4 zk_E V mc ms) (hr : meth.sig.returnType = none) (hR : R.frames = d ∧ R.locals = 64 * d) (hd : 5 ≤ d) {N : Nat} {res : (Unit × zm_S) ⊕ ((Unit) × zm_S)} {out : (Unit × zm_S)} (a0 : Nat) (i1 : Int32) (hf : ∀ o, res = .inl o → o = out) (hk : ∀ (S' : zm_S), res = .inr ((), S') → zw p l e R s m args below meth c (vx_MQ below (zm_Qc zk_E V (zo_v out)) (zm_XC zk_E V zo_x) args s mc ms (fun q => V.2.2.2.1 ≤ q)) 4 zk_E V mc ms 129 [(0, .ref a0), (1, .int i1)] [] S' rc rs) : ∀ (n : Nat) (i2 : Int32) (S : zm_S), zf_X2_traceRings_L53 N n a0 i1 i2 S = some res → zw p l e R s m args below meth c (vx_MQ below (zm_Qc zk_E V (zo_v out)) (zm_XC zk_E V zo_x) args s mc ms (fun q => V.2.2.2.1 ≤ q)) 4 zk_E V mc ms 53 [(0, .ref a0), (1, .int i1), (2, .int i2)] [] S rc rs := by
  intro n
  induction n with
  | zero => intro i2 S h; cases h
  | succ n ih =>
    intro i2 S h
    rw [zf_X2_traceRings_L53] at h
    refine zw_iload_n hX dX2_traceRings_53 rfl ?_
    refine zw_iconst (v := (4 : Int32)) hX dX2_traceRings_54 (by decide) ?_
    refine zw_icmp_ge (tgt := 129) hX dX2_traceRings_55 (by decide) (fun c55 => ?_) (fun c55 => ?_)
    · rw [if_pos c55] at h
      refine zw_sub (lv' := [(0, .ref a0), (1, .int i1)]) (List.forall_mem_cons.mpr ⟨rfl, (List.forall_mem_cons.mpr ⟨rfl, zs_nil⟩)⟩) ?_
      exact hk  _ (Option.some.inj h).symm
    · rw [if_neg c55] at h
      refine zw_aload_n hX dX2_traceRings_58 rfl ?_
      obtain ⟨b11, g, h⟩ := zb_some h
      refine zw_getr hX zl_X2_16 dX2_traceRings_59 g ?_
      refine zw_iload_n hX dX2_traceRings_62 rfl ?_
      obtain ⟨v12, g, h⟩ := zb_some h
      refine zw_xz hX dX2_traceRings_63 g ?_
      refine zw_if_eq (tgt := 88) hX dX2_traceRings_64 (by decide) (fun c64 => ?_) (fun c64 => ?_)
      · rw [if_pos c64] at h
        refine zw_sub (lv' := [(0, .ref a0), (1, .int i1), (2, .int i2)]) (List.forall_mem_cons.mpr ⟨rfl, (List.forall_mem_cons.mpr ⟨rfl, (List.forall_mem_cons.mpr ⟨rfl, zs_nil⟩)⟩)⟩) ?_
        exact zt_X2_traceRings_J88 hX hr hR hd hf hk ih h
      · rw [if_neg c64] at h
        refine zw_aload_n hX dX2_traceRings_67 rfl ?_
        refine zw_iload_n hX dX2_traceRings_68 rfl ?_
        refine zw_bipush (v := (25 : Int32)) hX dX2_traceRings_69 (by decide) ?_
        refine zw_idiv hX dX2_traceRings_71 (by decide) ?_
        refine zw_iload_n hX dX2_traceRings_72 rfl ?_
        refine zw_bipush (v := (25 : Int32)) hX dX2_traceRings_73 (by decide) ?_
        refine zw_irem hX dX2_traceRings_75 (by decide) ?_
        refine zw_iload_n hX dX2_traceRings_76 rfl ?_
        obtain ⟨_, gi, h⟩ := zb_some h
        obtain ⟨r19, g, h⟩ := zb_some h
        refine zc_Vi (as := [.int (i1 / (25 : Int32)), .int (i1 - i1 / (25 : Int32) * (25 : Int32)), .int i2]) hX gi (zt_X2_wallFrom (d := d - 1) (by omega) g) zl_X2_110 rfl dX2_traceRings_77 ⟨rfl, rfl, Nat.le_of_ble_eq_true rfl⟩ ⟨by omega, by omega⟩ ?_
        refine zw_iconst (v := (-1 : Int32)) hX dX2_traceRings_80 (by decide) ?_
        refine zw_icmp_eq (tgt := 88) hX dX2_traceRings_81 (by decide) (fun c81 => ?_) (fun c81 => ?_)
        · rw [if_pos c81] at h
          refine zw_sub (lv' := [(0, .ref a0), (1, .int i1), (2, .int i2)]) (List.forall_mem_cons.mpr ⟨rfl, (List.forall_mem_cons.mpr ⟨rfl, (List.forall_mem_cons.mpr ⟨rfl, zs_nil⟩)⟩)⟩) ?_
          exact zt_X2_traceRings_J88 hX hr hR hd hf hk ih h
        · rw [if_neg c81] at h
          refine zw_iconst (v := (1 : Int32)) hX dX2_traceRings_84 (by decide) ?_
          refine zw_goto (tgt := 89) hX dX2_traceRings_85 (by decide) ?_
          refine zw_sub (lv' := [(0, .ref a0), (1, .int i1), (2, .int i2)]) (List.forall_mem_cons.mpr ⟨rfl, (List.forall_mem_cons.mpr ⟨rfl, (List.forall_mem_cons.mpr ⟨rfl, zs_nil⟩)⟩)⟩) ?_
          exact zt_X2_traceRings_J89 hX hr hR hd hf hk ih h
set_option maxHeartbeats 4000000 in
set_option maxRecDepth 100000 in
theorem zt_X2_traceRings_L44 {p : Program} {l : Launch} {e : Env} {R : Room} {s : State} {m : MethodId} {args : Array Value} {below : List Frame} {meth : Method} {c : Code} {V : zm_V} {mc ms d rc rs : Nat} (hX : zm_X p R s m args meth c RX2 "traceRings" cX2_traceRings 4 zk_E V mc ms) (hr : meth.sig.returnType = none) (hR : R.frames = d ∧ R.locals = 64 * d) (hd : 5 ≤ d) {N : Nat} {res : (Unit × zm_S) ⊕ ((Unit) × zm_S)} {out : (Unit × zm_S)} (a0 : Nat) (hf : ∀ o, res = .inl o → o = out) (hk : ∀ (S' : zm_S), res = .inr ((), S') → zw p l e R s m args below meth c (vx_MQ below (zm_Qc zk_E V (zo_v out)) (zm_XC zk_E V zo_x) args s mc ms (fun q => V.2.2.2.1 ≤ q)) 4 zk_E V mc ms 135 [] [] S' rc rs) : ∀ (n : Nat) (i1 : Int32) (S : zm_S), zf_X2_traceRings_L44 N n a0 i1 S = some res → zw p l e R s m args below meth c (vx_MQ below (zm_Qc zk_E V (zo_v out)) (zm_XC zk_E V zo_x) args s mc ms (fun q => V.2.2.2.1 ≤ q)) 4 zk_E V mc ms 44 [(0, .ref a0), (1, .int i1)] [] S rc rs := by
  intro n
  induction n with
  | zero => intro i1 S h; cases h
  | succ n ih =>
    intro i1 S h
    rw [zf_X2_traceRings_L44] at h
    refine zw_iload_n hX dX2_traceRings_44 rfl ?_
    refine zw_sipush (v := (625 : Int32)) hX dX2_traceRings_45 (by decide) ?_
    refine zw_icmp_ge (tgt := 135) hX dX2_traceRings_48 (by decide) (fun c48 => ?_) (fun c48 => ?_)
    · rw [if_pos c48] at h
      refine zw_sub (lv' := []) zs_nil ?_
      exact hk  _ (Option.some.inj h).symm
    · rw [if_neg c48] at h
      refine zw_iconst (v := (0 : Int32)) hX dX2_traceRings_51 (by decide) ?_
      refine zw_istore_n hX dX2_traceRings_52 (by decide) ?_
      obtain ⟨r, g, h⟩ := zb_some h
      refine zw_sub (lv' := [(0, .ref a0), (1, .int i1), (2, .int (0 : Int32))]) (List.forall_mem_cons.mpr ⟨rfl, (List.forall_mem_cons.mpr ⟨rfl, (List.forall_mem_cons.mpr ⟨rfl, zs_nil⟩)⟩)⟩) ?_
      refine zt_X2_traceRings_L53 hX hr hR hd (res := r) (out := out) a0 i1 ?_ ?_ N _ _ g
      · intro o ho
        subst ho
        exact hf _ (Option.some.inj h).symm
      · intro  S20 hx
        subst hx
        try dsimp only at h
        refine zw_iinc (v := (i1 + (1 : Int32))) hX dX2_traceRings_129 rfl rfl (by decide) ?_
        refine zw_goto (tgt := 44) hX dX2_traceRings_132 (by decide) ?_
        refine zw_sub (lv' := [(0, .ref a0), (1, .int (i1 + (1 : Int32)))]) (List.forall_mem_cons.mpr ⟨rfl, (List.forall_mem_cons.mpr ⟨rfl, zs_nil⟩)⟩) ?_
        exact ih _ _ h
set_option maxHeartbeats 4000000 in
set_option maxRecDepth 100000 in
theorem zt_X2_traceRings {l : Launch} {V : zm_V} {N : Nat} {S : zm_S} {out : (Unit × zm_S)} {d : Nat} {a0 : Nat} (hd : 5 ≤ d) (h : zf_X2_traceRings N a0 S = some out) : zm_Met l zk_E V yX2_traceRings (.code yX2_traceRings cX2_traceRings 4 none) d [.ref a0] S 0 0 (zo_v out) zo_x := by
  refine zm_of (by decide +kernel) (Nat.le_of_ble_eq_true rfl) ?_
  intro p e R s m args below meth c hRR hX hr hxt
  have hR : R.frames = d ∧ R.locals = 64 * d := by rw [hRR]; exact ⟨rfl, rfl⟩
  have hX : zm_X p R s m args meth c RX2 "traceRings" cX2_traceRings 4 zk_E V 0 0 := hX
  unfold zf_X2_traceRings at h
  refine zw_sub (lv' := [(0, .ref a0)]) (List.forall_mem_cons.mpr ⟨rfl, zs_nil⟩) ?_
  refine zw_aload_n hX dX2_traceRings_0 rfl ?_
  refine zw_iconst (v := (0 : Int32)) hX dX2_traceRings_1 (by decide) ?_
  obtain ⟨S1, g, h⟩ := zb_some h
  refine zw_putv hX zl_X2_139 zt_2_12 dX2_traceRings_2 rfl rfl g ?_
  refine zw_aload_n hX dX2_traceRings_5 rfl ?_
  refine zw_iconst (v := (0 : Int32)) hX dX2_traceRings_6 (by decide) ?_
  obtain ⟨S2, g, h⟩ := zb_some h
  refine zw_putv hX zl_X2_142 zt_2_14 dX2_traceRings_7 rfl rfl g ?_
  refine zw_iconst (v := (0 : Int32)) hX dX2_traceRings_10 (by decide) ?_
  refine zw_istore_n hX dX2_traceRings_11 (by decide) ?_
  obtain ⟨r, g, h⟩ := zb_some h
  refine zw_sub (lv' := [(0, .ref a0), (1, .int (0 : Int32))]) (List.forall_mem_cons.mpr ⟨rfl, (List.forall_mem_cons.mpr ⟨rfl, zs_nil⟩)⟩) ?_
  refine zt_X2_traceRings_L12 hX hr hR hd (res := r) (out := out) a0 ?_ ?_ N _ _ g
  · intro o ho
    subst ho
    exact Option.some.inj h
  · intro  S7 hx
    subst hx
    try dsimp only at h
    refine zw_aload_n hX dX2_traceRings_34 rfl ?_
    obtain ⟨b8, g, h⟩ := zb_some h
    refine zw_getr hX zl_X2_36 dX2_traceRings_35 g ?_
    refine zw_iconst (v := (0 : Int32)) hX dX2_traceRings_38 (by decide) ?_
    obtain ⟨r10, g, h⟩ := zb_some h
    refine zc_Sv (as := [.ref b8, .int (0 : Int32)]) hX (zt_J7_fill_53178 (d := d - 1) (by omega) g) zl_X2_88 dX2_traceRings_39 ⟨rfl, rfl, Nat.le_of_ble_eq_true rfl⟩ ⟨by omega, by omega⟩ ?_
    refine zw_iconst (v := (0 : Int32)) hX dX2_traceRings_42 (by decide) ?_
    refine zw_istore_n hX dX2_traceRings_43 (by decide) ?_
    obtain ⟨r, g, h⟩ := zb_some h
    refine zw_sub (lv' := [(0, .ref a0), (1, .int (0 : Int32))]) (List.forall_mem_cons.mpr ⟨rfl, (List.forall_mem_cons.mpr ⟨rfl, zs_nil⟩)⟩) ?_
    refine zt_X2_traceRings_L44 hX hr hR hd (res := r) (out := out) a0 ?_ ?_ N _ _ g
    · intro o ho
      subst ho
      exact Option.some.inj h
    · intro  S21 hx
      subst hx
      try dsimp only at h
      obtain rfl := Option.some.inj h
      exact zw_vret hX hr dX2_traceRings_135 ⟨rfl, rfl⟩
set_option maxHeartbeats 4000000 in
set_option maxRecDepth 100000 in
theorem zt_J6_stringSize_0f7a4_L16 {p : Program} {l : Launch} {e : Env} {R : Room} {s : State} {m : MethodId} {args : Array Value} {below : List Frame} {meth : Method} {c : Code} {V : zm_V} {mc ms d rc rs : Nat} (hX : zm_X p R s m args meth c RJ6 "stringSize" cJ6_stringSize_0f7a4 4 zk_E V mc ms) (hr : meth.sig.returnType = (some .int)) (hR : R.frames = d ∧ R.locals = 64 * d) (hd : 1 ≤ d) {N : Nat} {res : (Int32 × zm_S) ⊕ ((Unit) × zm_S)} {out : (Int32 × zm_S)} (i0 : Int32) (i1 : Int32) (hf : ∀ o, res = .inl o → o = out) (hk : ∀ (S' : zm_S), res = .inr ((), S') → zw p l e R s m args below meth c (vx_MQ below (zm_Qc zk_E V (zo_i out)) (zm_XC zk_E V zo_x) args s mc ms (fun q => V.2.2.2.1 ≤ q)) 4 zk_E V mc ms 42 [(1, .int i1)] [] S' rc rs) : ∀ (n : Nat) (i2 : Int32) (i3 : Int32) (S : zm_S), zf_J6_stringSize_0f7a4_L16 N n i0 i1 i2 i3 S = some res → zw p l e R s m args below meth c (vx_MQ below (zm_Qc zk_E V (zo_i out)) (zm_XC zk_E V zo_x) args s mc ms (fun q => V.2.2.2.1 ≤ q)) 4 zk_E V mc ms 16 [(0, .int i0), (1, .int i1), (2, .int i2), (3, .int i3)] [] S rc rs := by
  intro n
  induction n with
  | zero => intro i2 i3 S h; cases h
  | succ n ih =>
    intro i2 i3 S h
    rw [zf_J6_stringSize_0f7a4_L16] at h
    refine zw_iload_n hX dJ6_stringSize_0f7a4_16 rfl ?_
    refine zw_bipush (v := (10 : Int32)) hX dJ6_stringSize_0f7a4_17 (by decide) ?_
    refine zw_icmp_ge (tgt := 42) hX dJ6_stringSize_0f7a4_19 (by decide) (fun c19 => ?_) (fun c19 => ?_)
    · rw [if_pos c19] at h
      refine zw_sub (lv' := [(1, .int i1)]) (List.forall_mem_cons.mpr ⟨rfl, zs_nil⟩) ?_
      exact hk  _ (Option.some.inj h).symm
    · rw [if_neg c19] at h
      refine zw_iload_n hX dJ6_stringSize_0f7a4_22 rfl ?_
      refine zw_iload_n hX dJ6_stringSize_0f7a4_23 rfl ?_
      refine zw_icmp_le (tgt := 31) hX dJ6_stringSize_0f7a4_24 (by decide) (fun c24 => ?_) (fun c24 => ?_)
      · rw [if_pos c24] at h
        refine zw_bipush (v := (10 : Int32)) hX dJ6_stringSize_0f7a4_31 (by decide) ?_
        refine zw_iload_n hX dJ6_stringSize_0f7a4_33 rfl ?_
        refine zw_imul hX dJ6_stringSize_0f7a4_34 ?_
        refine zw_istore_n hX dJ6_stringSize_0f7a4_35 (by decide) ?_
        refine zw_iinc (v := (i3 + (1 : Int32))) hX dJ6_stringSize_0f7a4_36 rfl rfl (by decide) ?_
        refine zw_goto (tgt := 16) hX dJ6_stringSize_0f7a4_39 (by decide) ?_
        refine zw_sub (lv' := [(0, .int i0), (1, .int i1), (2, .int ((10 : Int32) * i2)), (3, .int (i3 + (1 : Int32)))]) (List.forall_mem_cons.mpr ⟨rfl, (List.forall_mem_cons.mpr ⟨rfl, (List.forall_mem_cons.mpr ⟨rfl, (List.forall_mem_cons.mpr ⟨rfl, zs_nil⟩)⟩)⟩)⟩) ?_
        exact ih _ _ _ h
      · rw [if_neg c24] at h
        refine zw_iload_n hX dJ6_stringSize_0f7a4_27 rfl ?_
        refine zw_iload_n hX dJ6_stringSize_0f7a4_28 rfl ?_
        refine zw_iadd hX dJ6_stringSize_0f7a4_29 ?_
        have hz := hf _ (Option.some.inj h).symm
        subst hz
        exact zw_iret hX hr dJ6_stringSize_0f7a4_30 rfl ⟨rfl, rfl⟩
set_option maxHeartbeats 4000000 in
set_option maxRecDepth 100000 in
theorem zt_J6_stringSize_0f7a4_J11 {p : Program} {l : Launch} {e : Env} {R : Room} {s : State} {m : MethodId} {args : Array Value} {below : List Frame} {meth : Method} {c : Code} {V : zm_V} {mc ms d rc rs : Nat} (hX : zm_X p R s m args meth c RJ6 "stringSize" cJ6_stringSize_0f7a4 4 zk_E V mc ms) (hr : meth.sig.returnType = (some .int)) (hR : R.frames = d ∧ R.locals = 64 * d) (hd : 1 ≤ d) {N : Nat} {i0 : Int32} {i1 : Int32} {out : (Int32 × zm_S)} {S : zm_S} (h : zf_J6_stringSize_0f7a4_J11 N i0 i1 S = some out) : zw p l e R s m args below meth c (vx_MQ below (zm_Qc zk_E V (zo_i out)) (zm_XC zk_E V zo_x) args s mc ms (fun q => V.2.2.2.1 ≤ q)) 4 zk_E V mc ms 11 [(0, .int i0), (1, .int i1)] [] S rc rs := by
  unfold zf_J6_stringSize_0f7a4_J11 at h
  refine zw_bipush (v := (-10 : Int32)) hX dJ6_stringSize_0f7a4_11 (by decide) ?_
  refine zw_istore_n hX dJ6_stringSize_0f7a4_13 (by decide) ?_
  refine zw_iconst (v := (1 : Int32)) hX dJ6_stringSize_0f7a4_14 (by decide) ?_
  refine zw_istore_n hX dJ6_stringSize_0f7a4_15 (by decide) ?_
  obtain ⟨r, g, h⟩ := zb_some h
  refine zw_sub (lv' := [(0, .int i0), (1, .int i1), (2, .int (-10 : Int32)), (3, .int (1 : Int32))]) (List.forall_mem_cons.mpr ⟨rfl, (List.forall_mem_cons.mpr ⟨rfl, (List.forall_mem_cons.mpr ⟨rfl, (List.forall_mem_cons.mpr ⟨rfl, zs_nil⟩)⟩)⟩)⟩) ?_
  refine zt_J6_stringSize_0f7a4_L16 hX hr hR hd (res := r) (out := out) i0 i1 ?_ ?_ N _ _ _ g
  · intro o ho
    subst ho
    exact Option.some.inj h
  · intro  S1 hx
    subst hx
    try dsimp only at h
    refine zw_bipush (v := (10 : Int32)) hX dJ6_stringSize_0f7a4_42 (by decide) ?_
    refine zw_iload_n hX dJ6_stringSize_0f7a4_44 rfl ?_
    refine zw_iadd hX dJ6_stringSize_0f7a4_45 ?_
    obtain rfl := Option.some.inj h
    exact zw_iret hX hr dJ6_stringSize_0f7a4_46 rfl ⟨rfl, rfl⟩
set_option maxHeartbeats 4000000 in
set_option maxRecDepth 100000 in
theorem zt_J6_stringSize_0f7a4 {l : Launch} {V : zm_V} {N : Nat} {S : zm_S} {out : (Int32 × zm_S)} {d : Nat} {i0 : Int32} (hd : 1 ≤ d) (h : zf_J6_stringSize_0f7a4 N i0 S = some out) : zm_Met l zk_E V yJ6_stringSize_0f7a4 (.code yJ6_stringSize_0f7a4 cJ6_stringSize_0f7a4 4 (some .int)) d [.int i0] S 0 0 (zo_i out) zo_x := by
  refine zm_of (by decide +kernel) (Nat.le_of_ble_eq_true rfl) ?_
  intro p e R s m args below meth c hRR hX hr hxt
  have hR : R.frames = d ∧ R.locals = 64 * d := by rw [hRR]; exact ⟨rfl, rfl⟩
  have hX : zm_X p R s m args meth c RJ6 "stringSize" cJ6_stringSize_0f7a4 4 zk_E V 0 0 := hX
  unfold zf_J6_stringSize_0f7a4 at h
  refine zw_sub (lv' := [(0, .int i0)]) (List.forall_mem_cons.mpr ⟨rfl, zs_nil⟩) ?_
  refine zw_iconst (v := (1 : Int32)) hX dJ6_stringSize_0f7a4_0 (by decide) ?_
  refine zw_istore_n hX dJ6_stringSize_0f7a4_1 (by decide) ?_
  refine zw_iload_n hX dJ6_stringSize_0f7a4_2 rfl ?_
  refine zw_if_lt (tgt := 11) hX dJ6_stringSize_0f7a4_3 (by decide) (fun c3 => ?_) (fun c3 => ?_)
  · rw [if_pos c3] at h
    refine zw_sub (lv' := [(0, .int i0), (1, .int (1 : Int32))]) (List.forall_mem_cons.mpr ⟨rfl, (List.forall_mem_cons.mpr ⟨rfl, zs_nil⟩)⟩) ?_
    exact zt_J6_stringSize_0f7a4_J11 hX hr hR hd h
  · rw [if_neg c3] at h
    refine zw_iconst (v := (0 : Int32)) hX dJ6_stringSize_0f7a4_6 (by decide) ?_
    refine zw_istore_n hX dJ6_stringSize_0f7a4_7 (by decide) ?_
    refine zw_iload_n hX dJ6_stringSize_0f7a4_8 rfl ?_
    refine zw_ineg hX dJ6_stringSize_0f7a4_9 ?_
    refine zw_istore_n hX dJ6_stringSize_0f7a4_10 (by decide) ?_
    refine zw_sub (lv' := [(0, .int (-i0)), (1, .int (0 : Int32))]) (List.forall_mem_cons.mpr ⟨rfl, (List.forall_mem_cons.mpr ⟨rfl, zs_nil⟩)⟩) ?_
    exact zt_J6_stringSize_0f7a4_J11 hX hr hR hd h
set_option maxHeartbeats 4000000 in
set_option maxRecDepth 100000 in
theorem zt_J7_rangeCheck_23922 {l : Launch} {V : zm_V} {N : Nat} {S : zm_S} {out : (Unit × zm_S)} {d : Nat} {i0 : Int32} {i1 : Int32} {i2 : Int32} (hd : 1 ≤ d) (h : zf_J7_rangeCheck_23922 N i0 i1 i2 S = some out) : zm_Met l zk_E V yJ7_rangeCheck_23922 (.code yJ7_rangeCheck_23922 cJ7_rangeCheck_23922 3 none) d [.int i0, .int i1, .int i2] S 0 0 (zo_v out) zo_x := by
  refine zm_of (by decide +kernel) (Nat.le_of_ble_eq_true rfl) ?_
  intro p e R s m args below meth c hRR hX hr hxt
  have hR : R.frames = d ∧ R.locals = 64 * d := by rw [hRR]; exact ⟨rfl, rfl⟩
  have hX : zm_X p R s m args meth c RJ7 "rangeCheck" cJ7_rangeCheck_23922 3 zk_E V 0 0 := hX
  unfold zf_J7_rangeCheck_23922 at h
  refine zw_sub (lv' := [(0, .int i0), (1, .int i1), (2, .int i2)]) (List.forall_mem_cons.mpr ⟨rfl, (List.forall_mem_cons.mpr ⟨rfl, (List.forall_mem_cons.mpr ⟨rfl, zs_nil⟩)⟩)⟩) ?_
  refine zw_iload_n hX dJ7_rangeCheck_23922_0 rfl ?_
  refine zw_iload_n hX dJ7_rangeCheck_23922_1 rfl ?_
  refine zw_icmp_le (tgt := 46) hX dJ7_rangeCheck_23922_2 (by decide) (fun c2 => ?_) (fun c2 => ?_)
  · rw [if_pos c2] at h
    refine zw_iload_n hX dJ7_rangeCheck_23922_46 rfl ?_
    refine zw_if_ge (tgt := 59) hX dJ7_rangeCheck_23922_47 (by decide) (fun c47 => ?_) (fun c47 => ?_)
    · rw [if_pos c47] at h
      refine zw_iload_n hX dJ7_rangeCheck_23922_59 rfl ?_
      refine zw_iload_n hX dJ7_rangeCheck_23922_60 rfl ?_
      refine zw_icmp_le (tgt := 73) hX dJ7_rangeCheck_23922_61 (by decide) (fun c61 => ?_) (fun c61 => ?_)
      · rw [if_pos c61] at h
        obtain rfl := Option.some.inj h
        exact zw_vret hX hr dJ7_rangeCheck_23922_73 ⟨rfl, rfl⟩
      · rw [if_neg c61] at h
        cases h
    · rw [if_neg c47] at h
      cases h
  · rw [if_neg c2] at h
    cases h
set_option maxHeartbeats 4000000 in
set_option maxRecDepth 100000 in
theorem zt_J7_fill_fda19_L10 {p : Program} {l : Launch} {e : Env} {R : Room} {s : State} {m : MethodId} {args : Array Value} {below : List Frame} {meth : Method} {c : Code} {V : zm_V} {mc ms d rc rs : Nat} (hX : zm_X p R s m args meth c RJ7 "fill" cJ7_fill_fda19 5 zk_E V mc ms) (hr : meth.sig.returnType = none) (hR : R.frames = d ∧ R.locals = 64 * d) (hd : 2 ≤ d) {N : Nat} {res : (Unit × zm_S) ⊕ ((Unit) × zm_S)} {out : (Unit × zm_S)} (a0 : Nat) (i2 : Int32) (i3 : Int32) (hf : ∀ o, res = .inl o → o = out) (hk : ∀ (S' : zm_S), res = .inr ((), S') → zw p l e R s m args below meth c (vx_MQ below (zm_Qc zk_E V (zo_v out)) (zm_XC zk_E V zo_x) args s mc ms (fun q => V.2.2.2.1 ≤ q)) 5 zk_E V mc ms 27 [] [] S' rc rs) : ∀ (n : Nat) (i4 : Int32) (S : zm_S), zf_J7_fill_fda19_L10 N n a0 i2 i3 i4 S = some res → zw p l e R s m args below meth c (vx_MQ below (zm_Qc zk_E V (zo_v out)) (zm_XC zk_E V zo_x) args s mc ms (fun q => V.2.2.2.1 ≤ q)) 5 zk_E V mc ms 10 [(0, .ref a0), (2, .int i2), (3, .int i3), (4, .int i4)] [] S rc rs := by
  intro n
  induction n with
  | zero => intro i4 S h; cases h
  | succ n ih =>
    intro i4 S h
    rw [zf_J7_fill_fda19_L10] at h
    refine zw_iload hX dJ7_fill_fda19_10 rfl ?_
    refine zw_iload_n hX dJ7_fill_fda19_12 rfl ?_
    refine zw_icmp_ge (tgt := 27) hX dJ7_fill_fda19_13 (by decide) (fun c13 => ?_) (fun c13 => ?_)
    · rw [if_pos c13] at h
      refine zw_sub (lv' := []) zs_nil ?_
      exact hk  _ (Option.some.inj h).symm
    · rw [if_neg c13] at h
      refine zw_aload_n hX dJ7_fill_fda19_16 rfl ?_
      refine zw_iload hX dJ7_fill_fda19_17 rfl ?_
      refine zw_iload_n hX dJ7_fill_fda19_19 rfl ?_
      obtain ⟨S4, g, h⟩ := zb_some h
      refine zw_si hX dJ7_fill_fda19_20 g ?_
      refine zw_iinc (v := (i4 + (1 : Int32))) hX dJ7_fill_fda19_21 rfl rfl (by decide) ?_
      refine zw_goto (tgt := 10) hX dJ7_fill_fda19_24 (by decide) ?_
      refine zw_sub (lv' := [(0, .ref a0), (2, .int i2), (3, .int i3), (4, .int (i4 + (1 : Int32)))]) (List.forall_mem_cons.mpr ⟨rfl, (List.forall_mem_cons.mpr ⟨rfl, (List.forall_mem_cons.mpr ⟨rfl, (List.forall_mem_cons.mpr ⟨rfl, zs_nil⟩)⟩)⟩)⟩) ?_
      exact ih _ _ h
set_option maxHeartbeats 4000000 in
set_option maxRecDepth 100000 in
theorem zt_J7_fill_fda19 {l : Launch} {V : zm_V} {N : Nat} {S : zm_S} {out : (Unit × zm_S)} {d : Nat} {a0 : Nat} {i1 : Int32} {i2 : Int32} {i3 : Int32} (hd : 2 ≤ d) (h : zf_J7_fill_fda19 N a0 i1 i2 i3 S = some out) : zm_Met l zk_E V yJ7_fill_fda19 (.code yJ7_fill_fda19 cJ7_fill_fda19 5 none) d [.ref a0, .int i1, .int i2, .int i3] S 0 0 (zo_v out) zo_x := by
  refine zm_of (by decide +kernel) (Nat.le_of_ble_eq_true rfl) ?_
  intro p e R s m args below meth c hRR hX hr hxt
  have hR : R.frames = d ∧ R.locals = 64 * d := by rw [hRR]; exact ⟨rfl, rfl⟩
  have hX : zm_X p R s m args meth c RJ7 "fill" cJ7_fill_fda19 5 zk_E V 0 0 := hX
  unfold zf_J7_fill_fda19 at h
  refine zw_sub (lv' := [(0, .ref a0), (1, .int i1), (2, .int i2), (3, .int i3)]) (List.forall_mem_cons.mpr ⟨rfl, (List.forall_mem_cons.mpr ⟨rfl, (List.forall_mem_cons.mpr ⟨rfl, (List.forall_mem_cons.mpr ⟨rfl, zs_nil⟩)⟩)⟩)⟩) ?_
  refine zw_aload_n hX dJ7_fill_fda19_0 rfl ?_
  obtain ⟨v1, g, h⟩ := zb_some h
  refine zw_len hX dJ7_fill_fda19_1 g ?_
  refine zw_iload_n hX dJ7_fill_fda19_2 rfl ?_
  refine zw_iload_n hX dJ7_fill_fda19_3 rfl ?_
  obtain ⟨r3, g, h⟩ := zb_some h
  refine zc_Sv (as := [.int v1, .int i1, .int i2]) hX (zt_J7_rangeCheck_23922 (d := d - 1) (by omega) g) zl_J7_13 dJ7_fill_fda19_4 ⟨rfl, rfl, Nat.le_of_ble_eq_true rfl⟩ ⟨by omega, by omega⟩ ?_
  refine zw_iload_n hX dJ7_fill_fda19_7 rfl ?_
  refine zw_istore hX dJ7_fill_fda19_8 (by decide) ?_
  obtain ⟨r, g, h⟩ := zb_some h
  refine zw_sub (lv' := [(0, .ref a0), (2, .int i2), (3, .int i3), (4, .int i1)]) (List.forall_mem_cons.mpr ⟨rfl, (List.forall_mem_cons.mpr ⟨rfl, (List.forall_mem_cons.mpr ⟨rfl, (List.forall_mem_cons.mpr ⟨rfl, zs_nil⟩)⟩)⟩)⟩) ?_
  refine zt_J7_fill_fda19_L10 hX hr hR hd (res := r) (out := out) a0 i2 i3 ?_ ?_ N _ _ g
  · intro o ho
    subst ho
    exact Option.some.inj h
  · intro  S5 hx
    subst hx
    try dsimp only at h
    obtain rfl := Option.some.inj h
    exact zw_vret hX hr dJ7_fill_fda19_27 ⟨rfl, rfl⟩
set_option maxHeartbeats 4000000 in
set_option maxRecDepth 100000 in
theorem zt_X2_giveNameOn_L13 {p : Program} {l : Launch} {e : Env} {R : Room} {s : State} {m : MethodId} {args : Array Value} {below : List Frame} {meth : Method} {c : Code} {V : zm_V} {mc ms d rc rs : Nat} (hX : zm_X p R s m args meth c RX2 "giveNameOn" cX2_giveNameOn 4 zk_E V mc ms) (hr : meth.sig.returnType = none) (hR : R.frames = d ∧ R.locals = 64 * d) (hd : 3 ≤ d) {N : Nat} {res : (Unit × zm_S) ⊕ ((Unit) × zm_S)} {out : (Unit × zm_S)} (a0 : Nat) (i1 : Int32) (hf : ∀ o, res = .inl o → o = out) (hk : ∀ (S' : zm_S), res = .inr ((), S') → zw p l e R s m args below meth c (vx_MQ below (zm_Qc zk_E V (zo_v out)) (zm_XC zk_E V zo_x) args s mc ms (fun q => V.2.2.2.1 ≤ q)) 4 zk_E V mc ms 60 [(0, .ref a0), (1, .int i1)] [] S' rc rs) : ∀ (n : Nat) (i2 : Int32) (S : zm_S), zf_X2_giveNameOn_L13 N n a0 i1 i2 S = some res → zw p l e R s m args below meth c (vx_MQ below (zm_Qc zk_E V (zo_v out)) (zm_XC zk_E V zo_x) args s mc ms (fun q => V.2.2.2.1 ≤ q)) 4 zk_E V mc ms 13 [(0, .ref a0), (1, .int i1), (2, .int i2)] [] S rc rs := by
  intro n
  induction n with
  | zero => intro i2 S h; cases h
  | succ n ih =>
    intro i2 S h
    rw [zf_X2_giveNameOn_L13] at h
    refine zw_iload_n hX dX2_giveNameOn_13 rfl ?_
    refine zw_sipush (v := (576 : Int32)) hX dX2_giveNameOn_14 (by decide) ?_
    refine zw_icmp_ge (tgt := 60) hX dX2_giveNameOn_17 (by decide) (fun c17 => ?_) (fun c17 => ?_)
    · rw [if_pos c17] at h
      refine zw_sub (lv' := [(0, .ref a0), (1, .int i1)]) (List.forall_mem_cons.mpr ⟨rfl, (List.forall_mem_cons.mpr ⟨rfl, zs_nil⟩)⟩) ?_
      exact hk  _ (Option.some.inj h).symm
    · rw [if_neg c17] at h
      refine zw_aload_n hX dX2_giveNameOn_20 rfl ?_
      obtain ⟨b4, g, h⟩ := zb_some h
      refine zw_getr hX zl_X2_24 dX2_giveNameOn_21 g ?_
      refine zw_iload_n hX dX2_giveNameOn_24 rfl ?_
      obtain ⟨v5, g, h⟩ := zb_some h
      refine zw_xi hX dX2_giveNameOn_25 g ?_
      refine zw_iload_n hX dX2_giveNameOn_26 rfl ?_
      refine zw_icmp_ne (tgt := 54) hX dX2_giveNameOn_27 (by decide) (fun c27 => ?_) (fun c27 => ?_)
      · rw [if_neg c27] at h
        refine zw_iinc (v := (i2 + (1 : Int32))) hX dX2_giveNameOn_54 rfl rfl (by decide) ?_
        refine zw_goto (tgt := 13) hX dX2_giveNameOn_57 (by decide) ?_
        refine zw_sub (lv' := [(0, .ref a0), (1, .int i1), (2, .int (i2 + (1 : Int32)))]) (List.forall_mem_cons.mpr ⟨rfl, (List.forall_mem_cons.mpr ⟨rfl, (List.forall_mem_cons.mpr ⟨rfl, zs_nil⟩)⟩)⟩) ?_
        exact ih _ _ h
      · rw [if_pos c27] at h
        refine zw_aload_n hX dX2_giveNameOn_30 rfl ?_
        obtain ⟨b6, g, h⟩ := zb_some h
        refine zw_getr hX zl_X2_20 dX2_giveNameOn_31 g ?_
        refine zw_iload_n hX dX2_giveNameOn_34 rfl ?_
        obtain ⟨v7, g, h⟩ := zb_some h
        refine zw_xi hX dX2_giveNameOn_35 g ?_
        refine zw_if_lt (tgt := 54) hX dX2_giveNameOn_36 (by decide) (fun c36 => ?_) (fun c36 => ?_)
        · rw [if_pos c36] at h
          refine zw_iinc (v := (i2 + (1 : Int32))) hX dX2_giveNameOn_54 rfl rfl (by decide) ?_
          refine zw_goto (tgt := 13) hX dX2_giveNameOn_57 (by decide) ?_
          refine zw_sub (lv' := [(0, .ref a0), (1, .int i1), (2, .int (i2 + (1 : Int32)))]) (List.forall_mem_cons.mpr ⟨rfl, (List.forall_mem_cons.mpr ⟨rfl, (List.forall_mem_cons.mpr ⟨rfl, zs_nil⟩)⟩)⟩) ?_
          exact ih _ _ h
        · rw [if_neg c36] at h
          refine zw_aload_n hX dX2_giveNameOn_39 rfl ?_
          obtain ⟨b8, g, h⟩ := zb_some h
          refine zw_getr hX zl_X2_48 dX2_giveNameOn_40 g ?_
          refine zw_aload_n hX dX2_giveNameOn_43 rfl ?_
          obtain ⟨b9, g, h⟩ := zb_some h
          refine zw_getr hX zl_X2_20 dX2_giveNameOn_44 g ?_
          refine zw_iload_n hX dX2_giveNameOn_47 rfl ?_
          obtain ⟨v10, g, h⟩ := zb_some h
          refine zw_xi hX dX2_giveNameOn_48 g ?_
          refine zw_dup2 hX dX2_giveNameOn_49 rfl rfl ?_
          obtain ⟨v11, g, h⟩ := zb_some h
          refine zw_xi hX dX2_giveNameOn_50 g ?_
          refine zw_iconst (v := (1 : Int32)) hX dX2_giveNameOn_51 (by decide) ?_
          refine zw_iadd hX dX2_giveNameOn_52 ?_
          obtain ⟨S12, g, h⟩ := zb_some h
          refine zw_si hX dX2_giveNameOn_53 g ?_
          refine zw_iinc (v := (i2 + (1 : Int32))) hX dX2_giveNameOn_54 rfl rfl (by decide) ?_
          refine zw_goto (tgt := 13) hX dX2_giveNameOn_57 (by decide) ?_
          refine zw_sub (lv' := [(0, .ref a0), (1, .int i1), (2, .int (i2 + (1 : Int32)))]) (List.forall_mem_cons.mpr ⟨rfl, (List.forall_mem_cons.mpr ⟨rfl, (List.forall_mem_cons.mpr ⟨rfl, zs_nil⟩)⟩)⟩) ?_
          exact ih _ _ h
set_option maxHeartbeats 4000000 in
set_option maxRecDepth 100000 in
theorem zt_X2_giveNameOn_L64 {p : Program} {l : Launch} {e : Env} {R : Room} {s : State} {m : MethodId} {args : Array Value} {below : List Frame} {meth : Method} {c : Code} {V : zm_V} {mc ms d rc rs : Nat} (hX : zm_X p R s m args meth c RX2 "giveNameOn" cX2_giveNameOn 4 zk_E V mc ms) (hr : meth.sig.returnType = none) (hR : R.frames = d ∧ R.locals = 64 * d) (hd : 3 ≤ d) {N : Nat} {res : (Unit × zm_S) ⊕ ((Int32) × zm_S)} {out : (Unit × zm_S)} (a0 : Nat) (i1 : Int32) (hf : ∀ o, res = .inl o → o = out) (hk : ∀ (x2 : Int32) (S' : zm_S), res = .inr (x2, S') → zw p l e R s m args below meth c (vx_MQ below (zm_Qc zk_E V (zo_v out)) (zm_XC zk_E V zo_x) args s mc ms (fun q => V.2.2.2.1 ≤ q)) 4 zk_E V mc ms 95 [(0, .ref a0), (1, .int i1), (2, .int x2)] [] S' rc rs) : ∀ (n : Nat) (i2 : Int32) (i3 : Int32) (S : zm_S), zf_X2_giveNameOn_L64 N n a0 i1 i2 i3 S = some res → zw p l e R s m args below meth c (vx_MQ below (zm_Qc zk_E V (zo_v out)) (zm_XC zk_E V zo_x) args s mc ms (fun q => V.2.2.2.1 ≤ q)) 4 zk_E V mc ms 64 [(0, .ref a0), (1, .int i1), (2, .int i2), (3, .int i3)] [] S rc rs := by
  intro n
  induction n with
  | zero => intro i2 i3 S h; cases h
  | succ n ih =>
    intro i2 i3 S h
    rw [zf_X2_giveNameOn_L64] at h
    refine zw_iload_n hX dX2_giveNameOn_64 rfl ?_
    refine zw_aload_n hX dX2_giveNameOn_65 rfl ?_
    obtain ⟨v14, g, h⟩ := zb_some h
    refine zw_geti hX zl_X2_58 dX2_giveNameOn_66 g ?_
    refine zw_icmp_ge (tgt := 95) hX dX2_giveNameOn_69 (by decide) (fun c69 => ?_) (fun c69 => ?_)
    · rw [if_pos c69] at h
      refine zw_sub (lv' := [(0, .ref a0), (1, .int i1), (2, .int i2)]) (List.forall_mem_cons.mpr ⟨rfl, (List.forall_mem_cons.mpr ⟨rfl, (List.forall_mem_cons.mpr ⟨rfl, zs_nil⟩)⟩)⟩) ?_
      exact hk _ _ (Option.some.inj h).symm
    · rw [if_neg c69] at h
      refine zw_aload_n hX dX2_giveNameOn_72 rfl ?_
      obtain ⟨b15, g, h⟩ := zb_some h
      refine zw_getr hX zl_X2_48 dX2_giveNameOn_73 g ?_
      refine zw_iload_n hX dX2_giveNameOn_76 rfl ?_
      obtain ⟨v16, g, h⟩ := zb_some h
      refine zw_xi hX dX2_giveNameOn_77 g ?_
      refine zw_aload_n hX dX2_giveNameOn_78 rfl ?_
      obtain ⟨b17, g, h⟩ := zb_some h
      refine zw_getr hX zl_X2_48 dX2_giveNameOn_79 g ?_
      refine zw_iload_n hX dX2_giveNameOn_82 rfl ?_
      obtain ⟨v18, g, h⟩ := zb_some h
      refine zw_xi hX dX2_giveNameOn_83 g ?_
      refine zw_icmp_le (tgt := 89) hX dX2_giveNameOn_84 (by decide) (fun c84 => ?_) (fun c84 => ?_)
      · rw [if_pos c84] at h
        refine zw_iinc (v := (i3 + (1 : Int32))) hX dX2_giveNameOn_89 rfl rfl (by decide) ?_
        refine zw_goto (tgt := 64) hX dX2_giveNameOn_92 (by decide) ?_
        refine zw_sub (lv' := [(0, .ref a0), (1, .int i1), (2, .int i2), (3, .int (i3 + (1 : Int32)))]) (List.forall_mem_cons.mpr ⟨rfl, (List.forall_mem_cons.mpr ⟨rfl, (List.forall_mem_cons.mpr ⟨rfl, (List.forall_mem_cons.mpr ⟨rfl, zs_nil⟩)⟩)⟩)⟩) ?_
        exact ih _ _ _ h
      · rw [if_neg c84] at h
        refine zw_iload_n hX dX2_giveNameOn_87 rfl ?_
        refine zw_istore_n hX dX2_giveNameOn_88 (by decide) ?_
        refine zw_iinc (v := (i3 + (1 : Int32))) hX dX2_giveNameOn_89 rfl rfl (by decide) ?_
        refine zw_goto (tgt := 64) hX dX2_giveNameOn_92 (by decide) ?_
        refine zw_sub (lv' := [(0, .ref a0), (1, .int i1), (2, .int i3), (3, .int (i3 + (1 : Int32)))]) (List.forall_mem_cons.mpr ⟨rfl, (List.forall_mem_cons.mpr ⟨rfl, (List.forall_mem_cons.mpr ⟨rfl, (List.forall_mem_cons.mpr ⟨rfl, zs_nil⟩)⟩)⟩)⟩) ?_
        exact ih _ _ _ h
set_option maxHeartbeats 4000000 in
set_option maxRecDepth 100000 in
theorem zt_X2_giveNameOn {l : Launch} {V : zm_V} {N : Nat} {S : zm_S} {out : (Unit × zm_S)} {d : Nat} {a0 : Nat} {i1 : Int32} (hd : 3 ≤ d) (h : zf_X2_giveNameOn N a0 i1 S = some out) : zm_Met l zk_E V yX2_giveNameOn (.code yX2_giveNameOn cX2_giveNameOn 4 none) d [.ref a0, .int i1] S 0 0 (zo_v out) zo_x := by
  refine zm_of (by decide +kernel) (Nat.le_of_ble_eq_true rfl) ?_
  intro p e R s m args below meth c hRR hX hr hxt
  have hR : R.frames = d ∧ R.locals = 64 * d := by rw [hRR]; exact ⟨rfl, rfl⟩
  have hX : zm_X p R s m args meth c RX2 "giveNameOn" cX2_giveNameOn 4 zk_E V 0 0 := hX
  unfold zf_X2_giveNameOn at h
  refine zw_sub (lv' := [(0, .ref a0), (1, .int i1)]) (List.forall_mem_cons.mpr ⟨rfl, (List.forall_mem_cons.mpr ⟨rfl, zs_nil⟩)⟩) ?_
  refine zw_aload_n hX dX2_giveNameOn_0 rfl ?_
  obtain ⟨b1, g, h⟩ := zb_some h
  refine zw_getr hX zl_X2_48 dX2_giveNameOn_1 g ?_
  refine zw_iconst (v := (0 : Int32)) hX dX2_giveNameOn_4 (by decide) ?_
  refine zw_bipush (v := (100 : Int32)) hX dX2_giveNameOn_5 (by decide) ?_
  refine zw_iconst (v := (0 : Int32)) hX dX2_giveNameOn_7 (by decide) ?_
  obtain ⟨r3, g, h⟩ := zb_some h
  refine zc_Sv (as := [.ref b1, .int (0 : Int32), .int (100 : Int32), .int (0 : Int32)]) hX (zt_J7_fill_fda19 (d := d - 1) (by omega) g) zl_X2_176 dX2_giveNameOn_8 ⟨rfl, rfl, Nat.le_of_ble_eq_true rfl⟩ ⟨by omega, by omega⟩ ?_
  refine zw_iconst (v := (0 : Int32)) hX dX2_giveNameOn_11 (by decide) ?_
  refine zw_istore_n hX dX2_giveNameOn_12 (by decide) ?_
  obtain ⟨r, g, h⟩ := zb_some h
  refine zw_sub (lv' := [(0, .ref a0), (1, .int i1), (2, .int (0 : Int32))]) (List.forall_mem_cons.mpr ⟨rfl, (List.forall_mem_cons.mpr ⟨rfl, (List.forall_mem_cons.mpr ⟨rfl, zs_nil⟩)⟩)⟩) ?_
  refine zt_X2_giveNameOn_L13 hX hr hR hd (res := r) (out := out) a0 i1 ?_ ?_ N _ _ g
  · intro o ho
    subst ho
    exact Option.some.inj h
  · intro  S13 hx
    subst hx
    try dsimp only at h
    refine zw_iconst (v := (0 : Int32)) hX dX2_giveNameOn_60 (by decide) ?_
    refine zw_istore_n hX dX2_giveNameOn_61 (by decide) ?_
    refine zw_iconst (v := (1 : Int32)) hX dX2_giveNameOn_62 (by decide) ?_
    refine zw_istore_n hX dX2_giveNameOn_63 (by decide) ?_
    obtain ⟨r, g, h⟩ := zb_some h
    refine zw_sub (lv' := [(0, .ref a0), (1, .int i1), (2, .int (0 : Int32)), (3, .int (1 : Int32))]) (List.forall_mem_cons.mpr ⟨rfl, (List.forall_mem_cons.mpr ⟨rfl, (List.forall_mem_cons.mpr ⟨rfl, (List.forall_mem_cons.mpr ⟨rfl, zs_nil⟩)⟩)⟩)⟩) ?_
    refine zt_X2_giveNameOn_L64 hX hr hR hd (res := r) (out := out) a0 i1 ?_ ?_ N _ _ _ g
    · intro o ho
      subst ho
      exact Option.some.inj h
    · intro v20 S19 hx
      subst hx
      try dsimp only at h
      refine zw_aload_n hX dX2_giveNameOn_95 rfl ?_
      obtain ⟨b21, g, h⟩ := zb_some h
      refine zw_getr hX zl_X2_48 dX2_giveNameOn_96 g ?_
      refine zw_iload_n hX dX2_giveNameOn_99 rfl ?_
      obtain ⟨v22, g, h⟩ := zb_some h
      refine zw_xi hX dX2_giveNameOn_100 g ?_
      refine zw_aload_n hX dX2_giveNameOn_101 rfl ?_
      obtain ⟨b23, g, h⟩ := zb_some h
      refine zw_getr hX zl_X2_51 dX2_giveNameOn_102 g ?_
      refine zw_iload_n hX dX2_giveNameOn_105 rfl ?_
      obtain ⟨v24, g, h⟩ := zb_some h
      refine zw_xi hX dX2_giveNameOn_106 g ?_
      refine zw_icmp_le (tgt := 134) hX dX2_giveNameOn_107 (by decide) (fun c107 => ?_) (fun c107 => ?_)
      · rw [if_pos c107] at h
        obtain rfl := Option.some.inj h
        exact zw_vret hX hr dX2_giveNameOn_134 ⟨rfl, rfl⟩
      · rw [if_neg c107] at h
        refine zw_aload_n hX dX2_giveNameOn_110 rfl ?_
        obtain ⟨b25, g, h⟩ := zb_some h
        refine zw_getr hX zl_X2_51 dX2_giveNameOn_111 g ?_
        refine zw_iload_n hX dX2_giveNameOn_114 rfl ?_
        refine zw_aload_n hX dX2_giveNameOn_115 rfl ?_
        obtain ⟨b26, g, h⟩ := zb_some h
        refine zw_getr hX zl_X2_48 dX2_giveNameOn_116 g ?_
        refine zw_iload_n hX dX2_giveNameOn_119 rfl ?_
        obtain ⟨v27, g, h⟩ := zb_some h
        refine zw_xi hX dX2_giveNameOn_120 g ?_
        obtain ⟨S28, g, h⟩ := zb_some h
        refine zw_si hX dX2_giveNameOn_121 g ?_
        refine zw_aload_n hX dX2_giveNameOn_122 rfl ?_
        obtain ⟨b29, g, h⟩ := zb_some h
        refine zw_getr hX zl_X2_27 dX2_giveNameOn_123 g ?_
        refine zw_iload_n hX dX2_giveNameOn_126 rfl ?_
        refine zw_aload_n hX dX2_giveNameOn_127 rfl ?_
        obtain ⟨b30, g, h⟩ := zb_some h
        refine zw_getr hX zl_X2_30 dX2_giveNameOn_128 g ?_
        refine zw_iload_n hX dX2_giveNameOn_131 rfl ?_
        obtain ⟨v31, g, h⟩ := zb_some h
        refine zw_xi hX dX2_giveNameOn_132 g ?_
        obtain ⟨S32, g, h⟩ := zb_some h
        refine zw_si hX dX2_giveNameOn_133 g ?_
        obtain rfl := Option.some.inj h
        exact zw_vret hX hr dX2_giveNameOn_134 ⟨rfl, rfl⟩
set_option maxHeartbeats 4000000 in
set_option maxRecDepth 100000 in
theorem zt_X2_giveNamesOn_L18 {p : Program} {l : Launch} {e : Env} {R : Room} {s : State} {m : MethodId} {args : Array Value} {below : List Frame} {meth : Method} {c : Code} {V : zm_V} {mc ms d rc rs : Nat} (hX : zm_X p R s m args meth c RX2 "giveNamesOn" cX2_giveNamesOn 3 zk_E V mc ms) (hr : meth.sig.returnType = none) (hR : R.frames = d ∧ R.locals = 64 * d) (hd : 4 ≤ d) {N : Nat} {res : (Unit × zm_S) ⊕ ((Unit) × zm_S)} {out : (Unit × zm_S)} (a0 : Nat) (i1 : Int32) (hf : ∀ o, res = .inl o → o = out) (hk : ∀ (S' : zm_S), res = .inr ((), S') → zw p l e R s m args below meth c (vx_MQ below (zm_Qc zk_E V (zo_v out)) (zm_XC zk_E V zo_x) args s mc ms (fun q => V.2.2.2.1 ≤ q)) 3 zk_E V mc ms 43 [] [] S' rc rs) : ∀ (n : Nat) (i2 : Int32) (S : zm_S), zf_X2_giveNamesOn_L18 N n a0 i1 i2 S = some res → zw p l e R s m args below meth c (vx_MQ below (zm_Qc zk_E V (zo_v out)) (zm_XC zk_E V zo_x) args s mc ms (fun q => V.2.2.2.1 ≤ q)) 3 zk_E V mc ms 18 [(0, .ref a0), (1, .int i1), (2, .int i2)] [] S rc rs := by
  intro n
  induction n with
  | zero => intro i2 S h; cases h
  | succ n ih =>
    intro i2 S h
    rw [zf_X2_giveNamesOn_L18] at h
    refine zw_iload_n hX dX2_giveNamesOn_18 rfl ?_
    refine zw_iload_n hX dX2_giveNamesOn_19 rfl ?_
    refine zw_icmp_ge (tgt := 43) hX dX2_giveNamesOn_20 (by decide) (fun c20 => ?_) (fun c20 => ?_)
    · rw [if_pos c20] at h
      refine zw_sub (lv' := []) zs_nil ?_
      exact hk  _ (Option.some.inj h).symm
    · rw [if_neg c20] at h
      refine zw_aload_n hX dX2_giveNamesOn_23 rfl ?_
      obtain ⟨b7, g, h⟩ := zb_some h
      refine zw_getr hX zl_X2_30 dX2_giveNamesOn_24 g ?_
      refine zw_iload_n hX dX2_giveNamesOn_27 rfl ?_
      obtain ⟨v8, g, h⟩ := zb_some h
      refine zw_xi hX dX2_giveNamesOn_28 g ?_
      refine zw_if_eq (tgt := 37) hX dX2_giveNamesOn_29 (by decide) (fun c29 => ?_) (fun c29 => ?_)
      · rw [if_pos c29] at h
        refine zw_iinc (v := (i2 + (1 : Int32))) hX dX2_giveNamesOn_37 rfl rfl (by decide) ?_
        refine zw_goto (tgt := 18) hX dX2_giveNamesOn_40 (by decide) ?_
        refine zw_sub (lv' := [(0, .ref a0), (1, .int i1), (2, .int (i2 + (1 : Int32)))]) (List.forall_mem_cons.mpr ⟨rfl, (List.forall_mem_cons.mpr ⟨rfl, (List.forall_mem_cons.mpr ⟨rfl, zs_nil⟩)⟩)⟩) ?_
        exact ih _ _ h
      · rw [if_neg c29] at h
        refine zw_aload_n hX dX2_giveNamesOn_32 rfl ?_
        refine zw_iload_n hX dX2_giveNamesOn_33 rfl ?_
        obtain ⟨_, gi, h⟩ := zb_some h
        obtain ⟨r10, g, h⟩ := zb_some h
        refine zc_Vv (as := [.int i2]) hX gi (zt_X2_giveNameOn (d := d - 1) (by omega) g) zl_X2_173 rfl dX2_giveNamesOn_34 ⟨rfl, rfl, Nat.le_of_ble_eq_true rfl⟩ ⟨by omega, by omega⟩ ?_
        refine zw_iinc (v := (i2 + (1 : Int32))) hX dX2_giveNamesOn_37 rfl rfl (by decide) ?_
        refine zw_goto (tgt := 18) hX dX2_giveNamesOn_40 (by decide) ?_
        refine zw_sub (lv' := [(0, .ref a0), (1, .int i1), (2, .int (i2 + (1 : Int32)))]) (List.forall_mem_cons.mpr ⟨rfl, (List.forall_mem_cons.mpr ⟨rfl, (List.forall_mem_cons.mpr ⟨rfl, zs_nil⟩)⟩)⟩) ?_
        exact ih _ _ h
set_option maxHeartbeats 4000000 in
set_option maxRecDepth 100000 in
theorem zt_X2_giveNamesOn {l : Launch} {V : zm_V} {N : Nat} {S : zm_S} {out : (Unit × zm_S)} {d : Nat} {a0 : Nat} {i1 : Int32} (hd : 4 ≤ d) (h : zf_X2_giveNamesOn N a0 i1 S = some out) : zm_Met l zk_E V yX2_giveNamesOn (.code yX2_giveNamesOn cX2_giveNamesOn 3 none) d [.ref a0, .int i1] S 0 0 (zo_v out) zo_x := by
  refine zm_of (by decide +kernel) (Nat.le_of_ble_eq_true rfl) ?_
  intro p e R s m args below meth c hRR hX hr hxt
  have hR : R.frames = d ∧ R.locals = 64 * d := by rw [hRR]; exact ⟨rfl, rfl⟩
  have hX : zm_X p R s m args meth c RX2 "giveNamesOn" cX2_giveNamesOn 3 zk_E V 0 0 := hX
  unfold zf_X2_giveNamesOn at h
  refine zw_sub (lv' := [(0, .ref a0), (1, .int i1)]) (List.forall_mem_cons.mpr ⟨rfl, (List.forall_mem_cons.mpr ⟨rfl, zs_nil⟩)⟩) ?_
  refine zw_aload_n hX dX2_giveNamesOn_0 rfl ?_
  obtain ⟨b1, g, h⟩ := zb_some h
  refine zw_getr hX zl_X2_27 dX2_giveNamesOn_1 g ?_
  refine zw_iconst (v := (0 : Int32)) hX dX2_giveNamesOn_4 (by decide) ?_
  obtain ⟨r3, g, h⟩ := zb_some h
  refine zc_Sv (as := [.ref b1, .int (0 : Int32)]) hX (zt_J7_fill_53178 (d := d - 1) (by omega) g) zl_X2_88 dX2_giveNamesOn_5 ⟨rfl, rfl, Nat.le_of_ble_eq_true rfl⟩ ⟨by omega, by omega⟩ ?_
  refine zw_aload_n hX dX2_giveNamesOn_8 rfl ?_
  obtain ⟨b4, g, h⟩ := zb_some h
  refine zw_getr hX zl_X2_51 dX2_giveNamesOn_9 g ?_
  refine zw_iconst (v := (0 : Int32)) hX dX2_giveNamesOn_12 (by decide) ?_
  obtain ⟨r6, g, h⟩ := zb_some h
  refine zc_Sv (as := [.ref b4, .int (0 : Int32)]) hX (zt_J7_fill_53178 (d := d - 1) (by omega) g) zl_X2_88 dX2_giveNamesOn_13 ⟨rfl, rfl, Nat.le_of_ble_eq_true rfl⟩ ⟨by omega, by omega⟩ ?_
  refine zw_iconst (v := (0 : Int32)) hX dX2_giveNamesOn_16 (by decide) ?_
  refine zw_istore_n hX dX2_giveNamesOn_17 (by decide) ?_
  obtain ⟨r, g, h⟩ := zb_some h
  refine zw_sub (lv' := [(0, .ref a0), (1, .int i1), (2, .int (0 : Int32))]) (List.forall_mem_cons.mpr ⟨rfl, (List.forall_mem_cons.mpr ⟨rfl, (List.forall_mem_cons.mpr ⟨rfl, zs_nil⟩)⟩)⟩) ?_
  refine zt_X2_giveNamesOn_L18 hX hr hR hd (res := r) (out := out) a0 i1 ?_ ?_ N _ _ g
  · intro o ho
    subst ho
    exact Option.some.inj h
  · intro  S11 hx
    subst hx
    try dsimp only at h
    obtain rfl := Option.some.inj h
    exact zw_vret hX hr dX2_giveNamesOn_43 ⟨rfl, rfl⟩
set_option maxHeartbeats 4000000 in
set_option maxRecDepth 100000 in
theorem zt_X2_findSpaces {l : Launch} {V : zm_V} {N : Nat} {S : zm_S} {out : (Int32 × zm_S)} {d : Nat} {a0 : Nat} (hd : 6 ≤ d) (h : zf_X2_findSpaces N a0 S = some out) : zm_Met l zk_E V yX2_findSpaces (.code yX2_findSpaces cX2_findSpaces 2 (some .int)) d [.ref a0] S 0 0 (zo_i out) zo_x := by
  refine zm_of (by decide +kernel) (Nat.le_of_ble_eq_true rfl) ?_
  intro p e R s m args below meth c hRR hX hr hxt
  have hR : R.frames = d ∧ R.locals = 64 * d := by rw [hRR]; exact ⟨rfl, rfl⟩
  have hX : zm_X p R s m args meth c RX2 "findSpaces" cX2_findSpaces 2 zk_E V 0 0 := hX
  unfold zf_X2_findSpaces at h
  refine zw_sub (lv' := [(0, .ref a0)]) (List.forall_mem_cons.mpr ⟨rfl, zs_nil⟩) ?_
  refine zw_aload_n hX dX2_findSpaces_0 rfl ?_
  obtain ⟨v1, g, h⟩ := zb_some h
  refine zw_geti hX zl_X2_58 dX2_findSpaces_1 g ?_
  refine zw_istore_n hX dX2_findSpaces_4 (by decide) ?_
  refine zw_aload_n hX dX2_findSpaces_5 rfl ?_
  obtain ⟨_, gi, h⟩ := zb_some h
  obtain ⟨r3, g, h⟩ := zb_some h
  refine zc_Vv (as := []) hX gi (zt_X2_swapBefore (d := d - 1) (by omega) g) zl_X2_62 rfl dX2_findSpaces_6 ⟨rfl, rfl, Nat.le_of_ble_eq_true rfl⟩ ⟨by omega, by omega⟩ ?_
  refine zw_aload_n hX dX2_findSpaces_9 rfl ?_
  obtain ⟨_, gi, h⟩ := zb_some h
  obtain ⟨r5, g, h⟩ := zb_some h
  refine zc_Vv (as := []) hX gi (zt_X2_drawWalls (d := d - 1) (by omega) g) zl_X2_65 rfl dX2_findSpaces_10 ⟨rfl, rfl, Nat.le_of_ble_eq_true rfl⟩ ⟨by omega, by omega⟩ ?_
  refine zw_aload_n hX dX2_findSpaces_13 rfl ?_
  obtain ⟨_, gi, h⟩ := zb_some h
  obtain ⟨r7, g, h⟩ := zb_some h
  refine zc_Vv (as := []) hX gi (zt_X2_markPoints (d := d - 1) (by omega) g) zl_X2_68 rfl dX2_findSpaces_14 ⟨rfl, rfl, Nat.le_of_ble_eq_true rfl⟩ ⟨by omega, by omega⟩ ?_
  refine zw_aload_n hX dX2_findSpaces_17 rfl ?_
  obtain ⟨_, gi, h⟩ := zb_some h
  obtain ⟨r9, g, h⟩ := zb_some h
  refine zc_Vv (as := []) hX gi (zt_X2_fillSpaces (d := d - 1) (by omega) g) zl_X2_71 rfl dX2_findSpaces_18 ⟨rfl, rfl, Nat.le_of_ble_eq_true rfl⟩ ⟨by omega, by omega⟩ ?_
  refine zw_aload_n hX dX2_findSpaces_21 rfl ?_
  obtain ⟨_, gi, h⟩ := zb_some h
  obtain ⟨r11, g, h⟩ := zb_some h
  refine zc_Vv (as := []) hX gi (zt_X2_traceRings (d := d - 1) (by omega) g) zl_X2_74 rfl dX2_findSpaces_22 ⟨rfl, rfl, Nat.le_of_ble_eq_true rfl⟩ ⟨by omega, by omega⟩ ?_
  refine zw_aload_n hX dX2_findSpaces_25 rfl ?_
  refine zw_iload_n hX dX2_findSpaces_26 rfl ?_
  obtain ⟨_, gi, h⟩ := zb_some h
  obtain ⟨r13, g, h⟩ := zb_some h
  refine zc_Vv (as := [.int v1]) hX gi (zt_X2_giveNamesOn (d := d - 1) (by omega) g) zl_X2_77 rfl dX2_findSpaces_27 ⟨rfl, rfl, Nat.le_of_ble_eq_true rfl⟩ ⟨by omega, by omega⟩ ?_
  refine zw_aload_n hX dX2_findSpaces_30 rfl ?_
  refine zw_dup hX dX2_findSpaces_31 rfl ?_
  obtain ⟨v14, g, h⟩ := zb_some h
  refine zw_geti hX zl_X2_81 dX2_findSpaces_32 g ?_
  refine zw_iconst (v := (1 : Int32)) hX dX2_findSpaces_35 (by decide) ?_
  refine zw_iadd hX dX2_findSpaces_36 ?_
  obtain ⟨S15, g, h⟩ := zb_some h
  refine zw_putv hX zl_X2_81 zt_2_1 dX2_findSpaces_37 rfl rfl g ?_
  refine zw_aload_n hX dX2_findSpaces_40 rfl ?_
  refine zw_iconst (v := (1 : Int32)) hX dX2_findSpaces_41 (by decide) ?_
  obtain ⟨S16, g, h⟩ := zb_some h
  refine zw_putv hX zl_X2_84 zt_2_2 dX2_findSpaces_42 rfl (by decide) g ?_
  refine zw_aload_n hX dX2_findSpaces_45 rfl ?_
  obtain ⟨v17, g, h⟩ := zb_some h
  refine zw_geti hX zl_X2_58 dX2_findSpaces_46 g ?_
  obtain rfl := Option.some.inj h
  exact zw_iret hX hr dX2_findSpaces_49 rfl ⟨rfl, rfl⟩
set_option maxHeartbeats 4000000 in
set_option maxRecDepth 100000 in
theorem zt_X8_distanceTo {l : Launch} {V : zm_V} {N : Nat} {S : zm_S} {out : (Int32 × zm_S)} {d : Nat} {a0 : Nat} {i1 : Int32} {i2 : Int32} {i3 : Int32} (hd : 1 ≤ d) (h : zf_X8_distanceTo N a0 i1 i2 i3 S = some out) : zm_Met l zk_E V yX8_distanceTo (.code yX8_distanceTo cX8_distanceTo 4 (some .int)) d [.ref a0, .int i1, .int i2, .int i3] S 0 0 (zo_i out) zo_x := by
  refine zm_of (by decide +kernel) (Nat.le_of_ble_eq_true rfl) ?_
  intro p e R s m args below meth c hRR hX hr hxt
  have hR : R.frames = d ∧ R.locals = 64 * d := by rw [hRR]; exact ⟨rfl, rfl⟩
  have hX : zm_X p R s m args meth c RX8 "distanceTo" cX8_distanceTo 4 zk_E V 0 0 := hX
  unfold zf_X8_distanceTo at h
  refine zw_sub (lv' := [(0, .ref a0), (1, .int i1), (2, .int i2), (3, .int i3)]) (List.forall_mem_cons.mpr ⟨rfl, (List.forall_mem_cons.mpr ⟨rfl, (List.forall_mem_cons.mpr ⟨rfl, (List.forall_mem_cons.mpr ⟨rfl, zs_nil⟩)⟩)⟩)⟩) ?_
  refine zw_iload_n hX dX8_distanceTo_0 rfl ?_
  refine zw_aload_n hX dX8_distanceTo_1 rfl ?_
  obtain ⟨b1, g, h⟩ := zb_some h
  refine zw_getr hX zl_X8_13 dX8_distanceTo_2 g ?_
  refine zw_iload_n hX dX8_distanceTo_5 rfl ?_
  obtain ⟨b2, g, h⟩ := zb_some h
  refine zw_xr hX dX8_distanceTo_6 g ?_
  refine zw_iconst (v := (0 : Int32)) hX dX8_distanceTo_7 (by decide) ?_
  obtain ⟨v3, g, h⟩ := zb_some h
  refine zw_xi hX dX8_distanceTo_8 g ?_
  refine zw_isub hX dX8_distanceTo_9 ?_
  refine zw_iload_n hX dX8_distanceTo_10 rfl ?_
  refine zw_iadd hX dX8_distanceTo_11 ?_
  refine zw_aload_n hX dX8_distanceTo_12 rfl ?_
  obtain ⟨b4, g, h⟩ := zb_some h
  refine zw_getr hX zl_X8_13 dX8_distanceTo_13 g ?_
  refine zw_iload_n hX dX8_distanceTo_16 rfl ?_
  obtain ⟨b5, g, h⟩ := zb_some h
  refine zw_xr hX dX8_distanceTo_17 g ?_
  refine zw_iconst (v := (1 : Int32)) hX dX8_distanceTo_18 (by decide) ?_
  obtain ⟨v6, g, h⟩ := zb_some h
  refine zw_xi hX dX8_distanceTo_19 g ?_
  refine zw_isub hX dX8_distanceTo_20 ?_
  obtain rfl := Option.some.inj h
  exact zw_iret hX hr dX8_distanceTo_21 rfl ⟨rfl, rfl⟩
set_option maxHeartbeats 4000000 in
set_option maxRecDepth 100000 in
theorem zt_X2_distanceBeside {l : Launch} {V : zm_V} {N : Nat} {S : zm_S} {out : (Int32 × zm_S)} {d : Nat} {a0 : Nat} {i1 : Int32} {i2 : Int32} {i3 : Int32} (hd : 2 ≤ d) (h : zf_X2_distanceBeside N a0 i1 i2 i3 S = some out) : zm_Met l zk_E V yX2_distanceBeside (.code yX2_distanceBeside cX2_distanceBeside 5 (some .int)) d [.ref a0, .int i1, .int i2, .int i3] S 0 0 (zo_i out) zo_x := by
  refine zm_of (by decide +kernel) (Nat.le_of_ble_eq_true rfl) ?_
  intro p e R s m args below meth c hRR hX hr hxt
  have hR : R.frames = d ∧ R.locals = 64 * d := by rw [hRR]; exact ⟨rfl, rfl⟩
  have hX : zm_X p R s m args meth c RX2 "distanceBeside" cX2_distanceBeside 5 zk_E V 0 0 := hX
  unfold zf_X2_distanceBeside at h
  refine zw_sub (lv' := [(0, .ref a0), (1, .int i1), (2, .int i2), (3, .int i3)]) (List.forall_mem_cons.mpr ⟨rfl, (List.forall_mem_cons.mpr ⟨rfl, (List.forall_mem_cons.mpr ⟨rfl, (List.forall_mem_cons.mpr ⟨rfl, zs_nil⟩)⟩)⟩)⟩) ?_
  refine zw_aload_n hX dX2_distanceBeside_0 rfl ?_
  refine zw_iload_n hX dX2_distanceBeside_1 rfl ?_
  refine zw_iload_n hX dX2_distanceBeside_2 rfl ?_
  obtain ⟨_, gi, h⟩ := zb_some h
  obtain ⟨r2, g, h⟩ := zb_some h
  refine zc_Vi (as := [.int i1, .int i2]) hX gi (zt_X2_placeBeside (d := d - 1) (by omega) g) zl_X2_130 rfl dX2_distanceBeside_3 ⟨rfl, rfl, Nat.le_of_ble_eq_true rfl⟩ ⟨by omega, by omega⟩ ?_
  refine zw_istore hX dX2_distanceBeside_6 (by decide) ?_
  refine zw_aload_n hX dX2_distanceBeside_8 rfl ?_
  obtain ⟨b3, g, h⟩ := zb_some h
  refine zw_getr hX zl_X2_54 dX2_distanceBeside_9 g ?_
  refine zw_iload_n hX dX2_distanceBeside_12 rfl ?_
  refine zw_iload hX dX2_distanceBeside_13 rfl ?_
  refine zw_bipush (v := (25 : Int32)) hX dX2_distanceBeside_15 (by decide) ?_
  refine zw_idiv hX dX2_distanceBeside_17 (by decide) ?_
  refine zw_iload hX dX2_distanceBeside_18 rfl ?_
  refine zw_bipush (v := (25 : Int32)) hX dX2_distanceBeside_20 (by decide) ?_
  refine zw_irem hX dX2_distanceBeside_22 (by decide) ?_
  obtain ⟨_, gi, h⟩ := zb_some h
  obtain ⟨r5, g, h⟩ := zb_some h
  refine zc_Vi (as := [.int i3, .int (r2.1 / (25 : Int32)), .int (r2.1 - r2.1 / (25 : Int32) * (25 : Int32))]) hX gi (zt_X8_distanceTo (d := d - 1) (by omega) g) zl_X2_133 rfl dX2_distanceBeside_23 ⟨rfl, rfl, Nat.le_of_ble_eq_true rfl⟩ ⟨by omega, by omega⟩ ?_
  obtain rfl := Option.some.inj h
  exact zw_iret hX hr dX2_distanceBeside_26 rfl ⟨rfl, rfl⟩
set_option maxHeartbeats 4000000 in
set_option maxRecDepth 100000 in
theorem zt_X2_countPoints_J26 {p : Program} {l : Launch} {e : Env} {R : Room} {s : State} {m : MethodId} {args : Array Value} {below : List Frame} {meth : Method} {c : Code} {V : zm_V} {mc ms d rc rs : Nat} (hX : zm_X p R s m args meth c RX2 "countPoints" cX2_countPoints 3 zk_E V mc ms) (hr : meth.sig.returnType = (some .int)) (hR : R.frames = d ∧ R.locals = 64 * d) (hd : 1 ≤ d) {N : Nat} {k : Nat → Int32 → Int32 → zm_S → Option ((Int32 × zm_S) ⊕ ((Int32) × zm_S))} {a0 : Nat} {i2 : Int32} {t0 : Int32} {t1 : Int32} {res : (Int32 × zm_S) ⊕ ((Int32) × zm_S)} {out : (Int32 × zm_S)}   (hf : ∀ o, res = .inl o → o = out) (hk : ∀ (x1 : Int32) (S' : zm_S), res = .inr (x1, S') → zw p l e R s m args below meth c (vx_MQ below (zm_Qc zk_E V (zo_i out)) (zm_XC zk_E V zo_x) args s mc ms (fun q => V.2.2.2.1 ≤ q)) 3 zk_E V mc ms 34 [(1, .int x1)] [] S' rc rs) (hrec : ∀ (i1' : Int32) (i2' : Int32) (S : zm_S), k a0 i1' i2' S = some res → zw p l e R s m args below meth c (vx_MQ below (zm_Qc zk_E V (zo_i out)) (zm_XC zk_E V zo_x) args s mc ms (fun q => V.2.2.2.1 ≤ q)) 3 zk_E V mc ms 4 [(0, .ref a0), (1, .int i1'), (2, .int i2')] [] S rc rs) {S : zm_S} (h : zf_X2_countPoints_J26 N k a0 i2 t0 t1 S = some res) : zw p l e R s m args below meth c (vx_MQ below (zm_Qc zk_E V (zo_i out)) (zm_XC zk_E V zo_x) args s mc ms (fun q => V.2.2.2.1 ≤ q)) 3 zk_E V mc ms 26 [(0, .ref a0), (2, .int i2)] [.int t1, .int t0] S rc rs := by
  unfold zf_X2_countPoints_J26 at h
  refine zw_iadd hX dX2_countPoints_26 ?_
  refine zw_istore_n hX dX2_countPoints_27 (by decide) ?_
  refine zw_iinc (v := (i2 + (1 : Int32))) hX dX2_countPoints_28 rfl rfl (by decide) ?_
  refine zw_goto (tgt := 4) hX dX2_countPoints_31 (by decide) ?_
  refine zw_sub (lv' := [(0, .ref a0), (1, .int (t0 + t1)), (2, .int (i2 + (1 : Int32)))]) (List.forall_mem_cons.mpr ⟨rfl, (List.forall_mem_cons.mpr ⟨rfl, (List.forall_mem_cons.mpr ⟨rfl, zs_nil⟩)⟩)⟩) ?_
  exact hrec _ _ _ h
set_option maxHeartbeats 4000000 in
set_option maxRecDepth 100000 in
theorem zt_X2_countPoints_L4 {p : Program} {l : Launch} {e : Env} {R : Room} {s : State} {m : MethodId} {args : Array Value} {below : List Frame} {meth : Method} {c : Code} {V : zm_V} {mc ms d rc rs : Nat} (hX : zm_X p R s m args meth c RX2 "countPoints" cX2_countPoints 3 zk_E V mc ms) (hr : meth.sig.returnType = (some .int)) (hR : R.frames = d ∧ R.locals = 64 * d) (hd : 1 ≤ d) {N : Nat} {res : (Int32 × zm_S) ⊕ ((Int32) × zm_S)} {out : (Int32 × zm_S)} (a0 : Nat) (hf : ∀ o, res = .inl o → o = out) (hk : ∀ (x1 : Int32) (S' : zm_S), res = .inr (x1, S') → zw p l e R s m args below meth c (vx_MQ below (zm_Qc zk_E V (zo_i out)) (zm_XC zk_E V zo_x) args s mc ms (fun q => V.2.2.2.1 ≤ q)) 3 zk_E V mc ms 34 [(1, .int x1)] [] S' rc rs) : ∀ (n : Nat) (i1 : Int32) (i2 : Int32) (S : zm_S), zf_X2_countPoints_L4 N n a0 i1 i2 S = some res → zw p l e R s m args below meth c (vx_MQ below (zm_Qc zk_E V (zo_i out)) (zm_XC zk_E V zo_x) args s mc ms (fun q => V.2.2.2.1 ≤ q)) 3 zk_E V mc ms 4 [(0, .ref a0), (1, .int i1), (2, .int i2)] [] S rc rs := by
  intro n
  induction n with
  | zero => intro i1 i2 S h; cases h
  | succ n ih =>
    intro i1 i2 S h
    rw [zf_X2_countPoints_L4] at h
    refine zw_iload_n hX dX2_countPoints_4 rfl ?_
    refine zw_sipush (v := (625 : Int32)) hX dX2_countPoints_5 (by decide) ?_
    refine zw_icmp_ge (tgt := 34) hX dX2_countPoints_8 (by decide) (fun c8 => ?_) (fun c8 => ?_)
    · rw [if_pos c8] at h
      refine zw_sub (lv' := [(1, .int i1)]) (List.forall_mem_cons.mpr ⟨rfl, zs_nil⟩) ?_
      exact hk _ _ (Option.some.inj h).symm
    · rw [if_neg c8] at h
      refine zw_iload_n hX dX2_countPoints_11 rfl ?_
      refine zw_aload_n hX dX2_countPoints_12 rfl ?_
      obtain ⟨b1, g, h⟩ := zb_some h
      refine zw_getr hX zl_X2_16 dX2_countPoints_13 g ?_
      refine zw_iload_n hX dX2_countPoints_16 rfl ?_
      obtain ⟨v2, g, h⟩ := zb_some h
      refine zw_xz hX dX2_countPoints_17 g ?_
      refine zw_if_eq (tgt := 25) hX dX2_countPoints_18 (by decide) (fun c18 => ?_) (fun c18 => ?_)
      · rw [if_pos c18] at h
        refine zw_iconst (v := (0 : Int32)) hX dX2_countPoints_25 (by decide) ?_
        refine zw_sub (lv' := [(0, .ref a0), (2, .int i2)]) (List.forall_mem_cons.mpr ⟨rfl, (List.forall_mem_cons.mpr ⟨rfl, zs_nil⟩)⟩) ?_
        exact zt_X2_countPoints_J26 hX hr hR hd hf hk ih h
      · rw [if_neg c18] at h
        refine zw_iconst (v := (1 : Int32)) hX dX2_countPoints_21 (by decide) ?_
        refine zw_goto (tgt := 26) hX dX2_countPoints_22 (by decide) ?_
        refine zw_sub (lv' := [(0, .ref a0), (2, .int i2)]) (List.forall_mem_cons.mpr ⟨rfl, (List.forall_mem_cons.mpr ⟨rfl, zs_nil⟩)⟩) ?_
        exact zt_X2_countPoints_J26 hX hr hR hd hf hk ih h
set_option maxHeartbeats 4000000 in
set_option maxRecDepth 100000 in
theorem zt_X2_countPoints {l : Launch} {V : zm_V} {N : Nat} {S : zm_S} {out : (Int32 × zm_S)} {d : Nat} {a0 : Nat} (hd : 1 ≤ d) (h : zf_X2_countPoints N a0 S = some out) : zm_Met l zk_E V yX2_countPoints (.code yX2_countPoints cX2_countPoints 3 (some .int)) d [.ref a0] S 0 0 (zo_i out) zo_x := by
  refine zm_of (by decide +kernel) (Nat.le_of_ble_eq_true rfl) ?_
  intro p e R s m args below meth c hRR hX hr hxt
  have hR : R.frames = d ∧ R.locals = 64 * d := by rw [hRR]; exact ⟨rfl, rfl⟩
  have hX : zm_X p R s m args meth c RX2 "countPoints" cX2_countPoints 3 zk_E V 0 0 := hX
  unfold zf_X2_countPoints at h
  refine zw_sub (lv' := [(0, .ref a0)]) (List.forall_mem_cons.mpr ⟨rfl, zs_nil⟩) ?_
  refine zw_iconst (v := (0 : Int32)) hX dX2_countPoints_0 (by decide) ?_
  refine zw_istore_n hX dX2_countPoints_1 (by decide) ?_
  refine zw_iconst (v := (0 : Int32)) hX dX2_countPoints_2 (by decide) ?_
  refine zw_istore_n hX dX2_countPoints_3 (by decide) ?_
  obtain ⟨r, g, h⟩ := zb_some h
  refine zw_sub (lv' := [(0, .ref a0), (1, .int (0 : Int32)), (2, .int (0 : Int32))]) (List.forall_mem_cons.mpr ⟨rfl, (List.forall_mem_cons.mpr ⟨rfl, (List.forall_mem_cons.mpr ⟨rfl, zs_nil⟩)⟩)⟩) ?_
  refine zt_X2_countPoints_L4 hX hr hR hd (res := r) (out := out) a0 ?_ ?_ N _ _ _ g
  · intro o ho
    subst ho
    exact Option.some.inj h
  · intro v4 S3 hx
    subst hx
    try dsimp only at h
    refine zw_iload_n hX dX2_countPoints_34 rfl ?_
    obtain rfl := Option.some.inj h
    exact zw_iret hX hr dX2_countPoints_35 rfl ⟨rfl, rfl⟩
set_option maxHeartbeats 4000000 in
set_option maxRecDepth 100000 in
theorem zt_X2_countPieces {l : Launch} {V : zm_V} {N : Nat} {S : zm_S} {out : (Int32 × zm_S)} {d : Nat} {a0 : Nat} (hd : 1 ≤ d) (h : zf_X2_countPieces N a0 S = some out) : zm_Met l zk_E V yX2_countPieces (.code yX2_countPieces cX2_countPieces 1 (some .int)) d [.ref a0] S 0 0 (zo_i out) zo_x := by
  refine zm_of (by decide +kernel) (Nat.le_of_ble_eq_true rfl) ?_
  intro p e R s m args below meth c hRR hX hr hxt
  have hR : R.frames = d ∧ R.locals = 64 * d := by rw [hRR]; exact ⟨rfl, rfl⟩
  have hX : zm_X p R s m args meth c RX2 "countPieces" cX2_countPieces 1 zk_E V 0 0 := hX
  unfold zf_X2_countPieces at h
  refine zw_sub (lv' := [(0, .ref a0)]) (List.forall_mem_cons.mpr ⟨rfl, zs_nil⟩) ?_
  refine zw_aload_n hX dX2_countPieces_0 rfl ?_
  obtain ⟨v1, g, h⟩ := zb_some h
  refine zw_geti hX zl_X2_142 dX2_countPieces_1 g ?_
  refine zw_iconst (v := (2 : Int32)) hX dX2_countPieces_4 (by decide) ?_
  refine zw_idiv hX dX2_countPieces_5 (by decide) ?_
  obtain rfl := Option.some.inj h
  exact zw_iret hX hr dX2_countPieces_6 rfl ⟨rfl, rfl⟩
set_option maxHeartbeats 4000000 in
set_option maxRecDepth 100000 in
theorem zt_X2_countOutsideSides_J37 {p : Program} {l : Launch} {e : Env} {R : Room} {s : State} {m : MethodId} {args : Array Value} {below : List Frame} {meth : Method} {c : Code} {V : zm_V} {mc ms d rc rs : Nat} (hX : zm_X p R s m args meth c RX2 "countOutsideSides" cX2_countOutsideSides 3 zk_E V mc ms) (hr : meth.sig.returnType = (some .int)) (hR : R.frames = d ∧ R.locals = 64 * d) (hd : 1 ≤ d) {N : Nat} {k : Nat → Int32 → Int32 → zm_S → Option ((Int32 × zm_S) ⊕ ((Int32) × zm_S))} {a0 : Nat} {i2 : Int32} {t0 : Int32} {t1 : Int32} {res : (Int32 × zm_S) ⊕ ((Int32) × zm_S)} {out : (Int32 × zm_S)}   (hf : ∀ o, res = .inl o → o = out) (hk : ∀ (x1 : Int32) (S' : zm_S), res = .inr (x1, S') → zw p l e R s m args below meth c (vx_MQ below (zm_Qc zk_E V (zo_i out)) (zm_XC zk_E V zo_x) args s mc ms (fun q => V.2.2.2.1 ≤ q)) 3 zk_E V mc ms 45 [(1, .int x1)] [] S' rc rs) (hrec : ∀ (i1' : Int32) (i2' : Int32) (S : zm_S), k a0 i1' i2' S = some res → zw p l e R s m args below meth c (vx_MQ below (zm_Qc zk_E V (zo_i out)) (zm_XC zk_E V zo_x) args s mc ms (fun q => V.2.2.2.1 ≤ q)) 3 zk_E V mc ms 4 [(0, .ref a0), (1, .int i1'), (2, .int i2')] [] S rc rs) {S : zm_S} (h : zf_X2_countOutsideSides_J37 N k a0 i2 t0 t1 S = some res) : zw p l e R s m args below meth c (vx_MQ below (zm_Qc zk_E V (zo_i out)) (zm_XC zk_E V zo_x) args s mc ms (fun q => V.2.2.2.1 ≤ q)) 3 zk_E V mc ms 37 [(0, .ref a0), (2, .int i2)] [.int t1, .int t0] S rc rs := by
  unfold zf_X2_countOutsideSides_J37 at h
  refine zw_iadd hX dX2_countOutsideSides_37 ?_
  refine zw_istore_n hX dX2_countOutsideSides_38 (by decide) ?_
  refine zw_iinc (v := (i2 + (1 : Int32))) hX dX2_countOutsideSides_39 rfl rfl (by decide) ?_
  refine zw_goto (tgt := 4) hX dX2_countOutsideSides_42 (by decide) ?_
  refine zw_sub (lv' := [(0, .ref a0), (1, .int (t0 + t1)), (2, .int (i2 + (1 : Int32)))]) (List.forall_mem_cons.mpr ⟨rfl, (List.forall_mem_cons.mpr ⟨rfl, (List.forall_mem_cons.mpr ⟨rfl, zs_nil⟩)⟩)⟩) ?_
  exact hrec _ _ _ h
set_option maxHeartbeats 4000000 in
set_option maxRecDepth 100000 in
theorem zt_X2_countOutsideSides_L4 {p : Program} {l : Launch} {e : Env} {R : Room} {s : State} {m : MethodId} {args : Array Value} {below : List Frame} {meth : Method} {c : Code} {V : zm_V} {mc ms d rc rs : Nat} (hX : zm_X p R s m args meth c RX2 "countOutsideSides" cX2_countOutsideSides 3 zk_E V mc ms) (hr : meth.sig.returnType = (some .int)) (hR : R.frames = d ∧ R.locals = 64 * d) (hd : 1 ≤ d) {N : Nat} {res : (Int32 × zm_S) ⊕ ((Int32) × zm_S)} {out : (Int32 × zm_S)} (a0 : Nat) (hf : ∀ o, res = .inl o → o = out) (hk : ∀ (x1 : Int32) (S' : zm_S), res = .inr (x1, S') → zw p l e R s m args below meth c (vx_MQ below (zm_Qc zk_E V (zo_i out)) (zm_XC zk_E V zo_x) args s mc ms (fun q => V.2.2.2.1 ≤ q)) 3 zk_E V mc ms 45 [(1, .int x1)] [] S' rc rs) : ∀ (n : Nat) (i1 : Int32) (i2 : Int32) (S : zm_S), zf_X2_countOutsideSides_L4 N n a0 i1 i2 S = some res → zw p l e R s m args below meth c (vx_MQ below (zm_Qc zk_E V (zo_i out)) (zm_XC zk_E V zo_x) args s mc ms (fun q => V.2.2.2.1 ≤ q)) 3 zk_E V mc ms 4 [(0, .ref a0), (1, .int i1), (2, .int i2)] [] S rc rs := by
  intro n
  induction n with
  | zero => intro i1 i2 S h; cases h
  | succ n ih =>
    intro i1 i2 S h
    rw [zf_X2_countOutsideSides_L4] at h
    refine zw_iload_n hX dX2_countOutsideSides_4 rfl ?_
    refine zw_aload_n hX dX2_countOutsideSides_5 rfl ?_
    obtain ⟨v1, g, h⟩ := zb_some h
    refine zw_geti hX zl_X2_139 dX2_countOutsideSides_6 g ?_
    refine zw_icmp_ge (tgt := 45) hX dX2_countOutsideSides_9 (by decide) (fun c9 => ?_) (fun c9 => ?_)
    · rw [if_pos c9] at h
      refine zw_sub (lv' := [(1, .int i1)]) (List.forall_mem_cons.mpr ⟨rfl, zs_nil⟩) ?_
      exact hk _ _ (Option.some.inj h).symm
    · rw [if_neg c9] at h
      refine zw_iload_n hX dX2_countOutsideSides_12 rfl ?_
      refine zw_aload_n hX dX2_countOutsideSides_13 rfl ?_
      obtain ⟨b2, g, h⟩ := zb_some h
      refine zw_getr hX zl_X2_39 dX2_countOutsideSides_14 g ?_
      refine zw_iload_n hX dX2_countOutsideSides_17 rfl ?_
      obtain ⟨b3, g, h⟩ := zb_some h
      refine zw_xr hX dX2_countOutsideSides_18 g ?_
      refine zw_iconst (v := (0 : Int32)) hX dX2_countOutsideSides_19 (by decide) ?_
      obtain ⟨v4, g, h⟩ := zb_some h
      refine zw_xi hX dX2_countOutsideSides_20 g ?_
      refine zw_iconst (v := (-1 : Int32)) hX dX2_countOutsideSides_21 (by decide) ?_
      refine zw_icmp_ne (tgt := 36) hX dX2_countOutsideSides_22 (by decide) (fun c22 => ?_) (fun c22 => ?_)
      · rw [if_neg c22] at h
        refine zw_iconst (v := (0 : Int32)) hX dX2_countOutsideSides_36 (by decide) ?_
        refine zw_sub (lv' := [(0, .ref a0), (2, .int i2)]) (List.forall_mem_cons.mpr ⟨rfl, (List.forall_mem_cons.mpr ⟨rfl, zs_nil⟩)⟩) ?_
        exact zt_X2_countOutsideSides_J37 hX hr hR hd hf hk ih h
      · rw [if_pos c22] at h
        refine zw_aload_n hX dX2_countOutsideSides_25 rfl ?_
        obtain ⟨b5, g, h⟩ := zb_some h
        refine zw_getr hX zl_X2_39 dX2_countOutsideSides_26 g ?_
        refine zw_iload_n hX dX2_countOutsideSides_29 rfl ?_
        obtain ⟨b6, g, h⟩ := zb_some h
        refine zw_xr hX dX2_countOutsideSides_30 g ?_
        refine zw_iconst (v := (2 : Int32)) hX dX2_countOutsideSides_31 (by decide) ?_
        obtain ⟨v7, g, h⟩ := zb_some h
        refine zw_xi hX dX2_countOutsideSides_32 g ?_
        refine zw_goto (tgt := 37) hX dX2_countOutsideSides_33 (by decide) ?_
        refine zw_sub (lv' := [(0, .ref a0), (2, .int i2)]) (List.forall_mem_cons.mpr ⟨rfl, (List.forall_mem_cons.mpr ⟨rfl, zs_nil⟩)⟩) ?_
        exact zt_X2_countOutsideSides_J37 hX hr hR hd hf hk ih h
set_option maxHeartbeats 4000000 in
set_option maxRecDepth 100000 in
theorem zt_X2_countOutsideSides {l : Launch} {V : zm_V} {N : Nat} {S : zm_S} {out : (Int32 × zm_S)} {d : Nat} {a0 : Nat} (hd : 1 ≤ d) (h : zf_X2_countOutsideSides N a0 S = some out) : zm_Met l zk_E V yX2_countOutsideSides (.code yX2_countOutsideSides cX2_countOutsideSides 3 (some .int)) d [.ref a0] S 0 0 (zo_i out) zo_x := by
  refine zm_of (by decide +kernel) (Nat.le_of_ble_eq_true rfl) ?_
  intro p e R s m args below meth c hRR hX hr hxt
  have hR : R.frames = d ∧ R.locals = 64 * d := by rw [hRR]; exact ⟨rfl, rfl⟩
  have hX : zm_X p R s m args meth c RX2 "countOutsideSides" cX2_countOutsideSides 3 zk_E V 0 0 := hX
  unfold zf_X2_countOutsideSides at h
  refine zw_sub (lv' := [(0, .ref a0)]) (List.forall_mem_cons.mpr ⟨rfl, zs_nil⟩) ?_
  refine zw_iconst (v := (0 : Int32)) hX dX2_countOutsideSides_0 (by decide) ?_
  refine zw_istore_n hX dX2_countOutsideSides_1 (by decide) ?_
  refine zw_iconst (v := (0 : Int32)) hX dX2_countOutsideSides_2 (by decide) ?_
  refine zw_istore_n hX dX2_countOutsideSides_3 (by decide) ?_
  obtain ⟨r, g, h⟩ := zb_some h
  refine zw_sub (lv' := [(0, .ref a0), (1, .int (0 : Int32)), (2, .int (0 : Int32))]) (List.forall_mem_cons.mpr ⟨rfl, (List.forall_mem_cons.mpr ⟨rfl, (List.forall_mem_cons.mpr ⟨rfl, zs_nil⟩)⟩)⟩) ?_
  refine zt_X2_countOutsideSides_L4 hX hr hR hd (res := r) (out := out) a0 ?_ ?_ N _ _ _ g
  · intro o ho
    subst ho
    exact Option.some.inj h
  · intro v9 S8 hx
    subst hx
    try dsimp only at h
    refine zw_iload_n hX dX2_countOutsideSides_45 rfl ?_
    obtain rfl := Option.some.inj h
    exact zw_iret hX hr dX2_countOutsideSides_46 rfl ⟨rfl, rfl⟩
set_option maxHeartbeats 4000000 in
set_option maxRecDepth 100000 in
theorem zt_X2_findRing_L5 {p : Program} {l : Launch} {e : Env} {R : Room} {s : State} {m : MethodId} {args : Array Value} {below : List Frame} {meth : Method} {c : Code} {V : zm_V} {mc ms d rc rs : Nat} (hX : zm_X p R s m args meth c RX2 "findRing" cX2_findRing 5 zk_E V mc ms) (hr : meth.sig.returnType = (some .int)) (hR : R.frames = d ∧ R.locals = 64 * d) (hd : 1 ≤ d) {N : Nat} {res : (Int32 × zm_S) ⊕ ((Unit) × zm_S)} {out : (Int32 × zm_S)} (a0 : Nat) (i1 : Int32) (i2 : Int32) (hf : ∀ o, res = .inl o → o = out) (hk : ∀ (S' : zm_S), res = .inr ((), S') → zw p l e R s m args below meth c (vx_MQ below (zm_Qc zk_E V (zo_i out)) (zm_XC zk_E V zo_x) args s mc ms (fun q => V.2.2.2.1 ≤ q)) 5 zk_E V mc ms 44 [] [] S' rc rs) : ∀ (n : Nat) (i3 : Int32) (i4 : Int32) (S : zm_S), zf_X2_findRing_L5 N n a0 i1 i2 i3 i4 S = some res → zw p l e R s m args below meth c (vx_MQ below (zm_Qc zk_E V (zo_i out)) (zm_XC zk_E V zo_x) args s mc ms (fun q => V.2.2.2.1 ≤ q)) 5 zk_E V mc ms 5 [(0, .ref a0), (1, .int i1), (2, .int i2), (3, .int i3), (4, .int i4)] [] S rc rs := by
  intro n
  induction n with
  | zero => intro i3 i4 S h; cases h
  | succ n ih =>
    intro i3 i4 S h
    rw [zf_X2_findRing_L5] at h
    refine zw_iload hX dX2_findRing_5 rfl ?_
    refine zw_aload_n hX dX2_findRing_7 rfl ?_
    obtain ⟨v1, g, h⟩ := zb_some h
    refine zw_geti hX zl_X2_139 dX2_findRing_8 g ?_
    refine zw_icmp_ge (tgt := 44) hX dX2_findRing_11 (by decide) (fun c11 => ?_) (fun c11 => ?_)
    · rw [if_pos c11] at h
      refine zw_sub (lv' := []) zs_nil ?_
      exact hk  _ (Option.some.inj h).symm
    · rw [if_neg c11] at h
      refine zw_aload_n hX dX2_findRing_14 rfl ?_
      obtain ⟨b2, g, h⟩ := zb_some h
      refine zw_getr hX zl_X2_39 dX2_findRing_15 g ?_
      refine zw_iload hX dX2_findRing_18 rfl ?_
      obtain ⟨b3, g, h⟩ := zb_some h
      refine zw_xr hX dX2_findRing_20 g ?_
      refine zw_iconst (v := (0 : Int32)) hX dX2_findRing_21 (by decide) ?_
      obtain ⟨v4, g, h⟩ := zb_some h
      refine zw_xi hX dX2_findRing_22 g ?_
      refine zw_iload_n hX dX2_findRing_23 rfl ?_
      refine zw_icmp_ne (tgt := 38) hX dX2_findRing_24 (by decide) (fun c24 => ?_) (fun c24 => ?_)
      · rw [if_neg c24] at h
        refine zw_iinc (v := (i4 + (1 : Int32))) hX dX2_findRing_38 rfl rfl (by decide) ?_
        refine zw_goto (tgt := 5) hX dX2_findRing_41 (by decide) ?_
        refine zw_sub (lv' := [(0, .ref a0), (1, .int i1), (2, .int i2), (3, .int i3), (4, .int (i4 + (1 : Int32)))]) (List.forall_mem_cons.mpr ⟨rfl, (List.forall_mem_cons.mpr ⟨rfl, (List.forall_mem_cons.mpr ⟨rfl, (List.forall_mem_cons.mpr ⟨rfl, (List.forall_mem_cons.mpr ⟨rfl, zs_nil⟩)⟩)⟩)⟩)⟩) ?_
        exact ih _ _ _ h
      · rw [if_pos c24] at h
        refine zw_iload_n hX dX2_findRing_27 rfl ?_
        refine zw_iload_n hX dX2_findRing_28 rfl ?_
        refine zw_icmp_ne (tgt := 35) hX dX2_findRing_29 (by decide) (fun c29 => ?_) (fun c29 => ?_)
        · rw [if_neg c29] at h
          refine zw_iinc (v := (i3 + (1 : Int32))) hX dX2_findRing_35 rfl rfl (by decide) ?_
          refine zw_iinc (v := (i4 + (1 : Int32))) hX dX2_findRing_38 rfl rfl (by decide) ?_
          refine zw_goto (tgt := 5) hX dX2_findRing_41 (by decide) ?_
          refine zw_sub (lv' := [(0, .ref a0), (1, .int i1), (2, .int i2), (3, .int (i3 + (1 : Int32))), (4, .int (i4 + (1 : Int32)))]) (List.forall_mem_cons.mpr ⟨rfl, (List.forall_mem_cons.mpr ⟨rfl, (List.forall_mem_cons.mpr ⟨rfl, (List.forall_mem_cons.mpr ⟨rfl, (List.forall_mem_cons.mpr ⟨rfl, zs_nil⟩)⟩)⟩)⟩)⟩) ?_
          exact ih _ _ _ h
        · rw [if_pos c29] at h
          refine zw_iload hX dX2_findRing_32 rfl ?_
          have hz := hf _ (Option.some.inj h).symm
          subst hz
          exact zw_iret hX hr dX2_findRing_34 rfl ⟨rfl, rfl⟩
set_option maxHeartbeats 4000000 in
set_option maxRecDepth 100000 in
theorem zt_X2_findRing {l : Launch} {V : zm_V} {N : Nat} {S : zm_S} {out : (Int32 × zm_S)} {d : Nat} {a0 : Nat} {i1 : Int32} {i2 : Int32} (hd : 1 ≤ d) (h : zf_X2_findRing N a0 i1 i2 S = some out) : zm_Met l zk_E V yX2_findRing (.code yX2_findRing cX2_findRing 5 (some .int)) d [.ref a0, .int i1, .int i2] S 0 0 (zo_i out) zo_x := by
  refine zm_of (by decide +kernel) (Nat.le_of_ble_eq_true rfl) ?_
  intro p e R s m args below meth c hRR hX hr hxt
  have hR : R.frames = d ∧ R.locals = 64 * d := by rw [hRR]; exact ⟨rfl, rfl⟩
  have hX : zm_X p R s m args meth c RX2 "findRing" cX2_findRing 5 zk_E V 0 0 := hX
  unfold zf_X2_findRing at h
  refine zw_sub (lv' := [(0, .ref a0), (1, .int i1), (2, .int i2)]) (List.forall_mem_cons.mpr ⟨rfl, (List.forall_mem_cons.mpr ⟨rfl, (List.forall_mem_cons.mpr ⟨rfl, zs_nil⟩)⟩)⟩) ?_
  refine zw_iconst (v := (0 : Int32)) hX dX2_findRing_0 (by decide) ?_
  refine zw_istore_n hX dX2_findRing_1 (by decide) ?_
  refine zw_iconst (v := (0 : Int32)) hX dX2_findRing_2 (by decide) ?_
  refine zw_istore hX dX2_findRing_3 (by decide) ?_
  obtain ⟨r, g, h⟩ := zb_some h
  refine zw_sub (lv' := [(0, .ref a0), (1, .int i1), (2, .int i2), (3, .int (0 : Int32)), (4, .int (0 : Int32))]) (List.forall_mem_cons.mpr ⟨rfl, (List.forall_mem_cons.mpr ⟨rfl, (List.forall_mem_cons.mpr ⟨rfl, (List.forall_mem_cons.mpr ⟨rfl, (List.forall_mem_cons.mpr ⟨rfl, zs_nil⟩)⟩)⟩)⟩)⟩) ?_
  refine zt_X2_findRing_L5 hX hr hR hd (res := r) (out := out) a0 i1 i2 ?_ ?_ N _ _ _ g
  · intro o ho
    subst ho
    exact Option.some.inj h
  · intro  S5 hx
    subst hx
    try dsimp only at h
    refine zw_iconst (v := (-1 : Int32)) hX dX2_findRing_44 (by decide) ?_
    obtain rfl := Option.some.inj h
    exact zw_iret hX hr dX2_findRing_45 rfl ⟨rfl, rfl⟩
set_option maxHeartbeats 4000000 in
set_option maxRecDepth 100000 in
theorem zt_X2_sidesOf {l : Launch} {V : zm_V} {N : Nat} {S : zm_S} {out : (Int32 × zm_S)} {d : Nat} {a0 : Nat} {i1 : Int32} {i2 : Int32} (hd : 2 ≤ d) (h : zf_X2_sidesOf N a0 i1 i2 S = some out) : zm_Met l zk_E V yX2_sidesOf (.code yX2_sidesOf cX2_sidesOf 4 (some .int)) d [.ref a0, .int i1, .int i2] S 0 0 (zo_i out) zo_x := by
  refine zm_of (by decide +kernel) (Nat.le_of_ble_eq_true rfl) ?_
  intro p e R s m args below meth c hRR hX hr hxt
  have hR : R.frames = d ∧ R.locals = 64 * d := by rw [hRR]; exact ⟨rfl, rfl⟩
  have hX : zm_X p R s m args meth c RX2 "sidesOf" cX2_sidesOf 4 zk_E V 0 0 := hX
  unfold zf_X2_sidesOf at h
  refine zw_sub (lv' := [(0, .ref a0), (1, .int i1), (2, .int i2)]) (List.forall_mem_cons.mpr ⟨rfl, (List.forall_mem_cons.mpr ⟨rfl, (List.forall_mem_cons.mpr ⟨rfl, zs_nil⟩)⟩)⟩) ?_
  refine zw_aload_n hX dX2_sidesOf_0 rfl ?_
  refine zw_iload_n hX dX2_sidesOf_1 rfl ?_
  refine zw_iload_n hX dX2_sidesOf_2 rfl ?_
  obtain ⟨_, gi, h⟩ := zb_some h
  obtain ⟨r2, g, h⟩ := zb_some h
  refine zc_Vi (as := [.int i1, .int i2]) hX gi (zt_X2_findRing (d := d - 1) (by omega) g) zl_X2_179 rfl dX2_sidesOf_3 ⟨rfl, rfl, Nat.le_of_ble_eq_true rfl⟩ ⟨by omega, by omega⟩ ?_
  refine zw_istore_n hX dX2_sidesOf_6 (by decide) ?_
  refine zw_iload_n hX dX2_sidesOf_7 rfl ?_
  refine zw_iconst (v := (-1 : Int32)) hX dX2_sidesOf_8 (by decide) ?_
  refine zw_icmp_ne (tgt := 16) hX dX2_sidesOf_9 (by decide) (fun c9 => ?_) (fun c9 => ?_)
  · rw [if_neg c9] at h
    refine zw_aload_n hX dX2_sidesOf_16 rfl ?_
    obtain ⟨b3, g, h⟩ := zb_some h
    refine zw_getr hX zl_X2_39 dX2_sidesOf_17 g ?_
    refine zw_iload_n hX dX2_sidesOf_20 rfl ?_
    obtain ⟨b4, g, h⟩ := zb_some h
    refine zw_xr hX dX2_sidesOf_21 g ?_
    refine zw_iconst (v := (2 : Int32)) hX dX2_sidesOf_22 (by decide) ?_
    obtain ⟨v5, g, h⟩ := zb_some h
    refine zw_xi hX dX2_sidesOf_23 g ?_
    obtain rfl := Option.some.inj h
    exact zw_iret hX hr dX2_sidesOf_24 rfl ⟨rfl, rfl⟩
  · rw [if_pos c9] at h
    refine zw_iconst (v := (0 : Int32)) hX dX2_sidesOf_12 (by decide) ?_
    refine zw_goto (tgt := 24) hX dX2_sidesOf_13 (by decide) ?_
    obtain rfl := Option.some.inj h
    exact zw_iret hX hr dX2_sidesOf_24 rfl ⟨rfl, rfl⟩
set_option maxHeartbeats 4000000 in
set_option maxRecDepth 100000 in
theorem zt_X2_sideOf {l : Launch} {V : zm_V} {N : Nat} {S : zm_S} {out : (Int32 × zm_S)} {d : Nat} {a0 : Nat} {i1 : Int32} {i2 : Int32} {i3 : Int32} {i4 : Int32} (hd : 2 ≤ d) (h : zf_X2_sideOf N a0 i1 i2 i3 i4 S = some out) : zm_Met l zk_E V yX2_sideOf (.code yX2_sideOf cX2_sideOf 6 (some .int)) d [.ref a0, .int i1, .int i2, .int i3, .int i4] S 0 0 (zo_i out) zo_x := by
  refine zm_of (by decide +kernel) (Nat.le_of_ble_eq_true rfl) ?_
  intro p e R s m args below meth c hRR hX hr hxt
  have hR : R.frames = d ∧ R.locals = 64 * d := by rw [hRR]; exact ⟨rfl, rfl⟩
  have hX : zm_X p R s m args meth c RX2 "sideOf" cX2_sideOf 6 zk_E V 0 0 := hX
  unfold zf_X2_sideOf at h
  refine zw_sub (lv' := [(0, .ref a0), (1, .int i1), (2, .int i2), (3, .int i3), (4, .int i4)]) (List.forall_mem_cons.mpr ⟨rfl, (List.forall_mem_cons.mpr ⟨rfl, (List.forall_mem_cons.mpr ⟨rfl, (List.forall_mem_cons.mpr ⟨rfl, (List.forall_mem_cons.mpr ⟨rfl, zs_nil⟩)⟩)⟩)⟩)⟩) ?_
  refine zw_aload_n hX dX2_sideOf_0 rfl ?_
  refine zw_iload_n hX dX2_sideOf_1 rfl ?_
  refine zw_iload_n hX dX2_sideOf_2 rfl ?_
  obtain ⟨_, gi, h⟩ := zb_some h
  obtain ⟨r2, g, h⟩ := zb_some h
  refine zc_Vi (as := [.int i1, .int i2]) hX gi (zt_X2_findRing (d := d - 1) (by omega) g) zl_X2_179 rfl dX2_sideOf_3 ⟨rfl, rfl, Nat.le_of_ble_eq_true rfl⟩ ⟨by omega, by omega⟩ ?_
  refine zw_istore hX dX2_sideOf_6 (by decide) ?_
  refine zw_iload hX dX2_sideOf_8 rfl ?_
  refine zw_iconst (v := (-1 : Int32)) hX dX2_sideOf_10 (by decide) ?_
  refine zw_icmp_ne (tgt := 18) hX dX2_sideOf_11 (by decide) (fun c11 => ?_) (fun c11 => ?_)
  · rw [if_neg c11] at h
    refine zw_aload_n hX dX2_sideOf_18 rfl ?_
    obtain ⟨b3, g, h⟩ := zb_some h
    refine zw_getr hX zl_X2_42 dX2_sideOf_19 g ?_
    refine zw_aload_n hX dX2_sideOf_22 rfl ?_
    obtain ⟨b4, g, h⟩ := zb_some h
    refine zw_getr hX zl_X2_39 dX2_sideOf_23 g ?_
    refine zw_iload hX dX2_sideOf_26 rfl ?_
    obtain ⟨b5, g, h⟩ := zb_some h
    refine zw_xr hX dX2_sideOf_28 g ?_
    refine zw_iconst (v := (1 : Int32)) hX dX2_sideOf_29 (by decide) ?_
    obtain ⟨v6, g, h⟩ := zb_some h
    refine zw_xi hX dX2_sideOf_30 g ?_
    refine zw_iload_n hX dX2_sideOf_31 rfl ?_
    refine zw_iadd hX dX2_sideOf_32 ?_
    obtain ⟨b7, g, h⟩ := zb_some h
    refine zw_xr hX dX2_sideOf_33 g ?_
    refine zw_iload hX dX2_sideOf_34 rfl ?_
    obtain ⟨v8, g, h⟩ := zb_some h
    refine zw_xi hX dX2_sideOf_36 g ?_
    obtain rfl := Option.some.inj h
    exact zw_iret hX hr dX2_sideOf_37 rfl ⟨rfl, rfl⟩
  · rw [if_pos c11] at h
    refine zw_iconst (v := (-1 : Int32)) hX dX2_sideOf_14 (by decide) ?_
    refine zw_goto (tgt := 37) hX dX2_sideOf_15 (by decide) ?_
    obtain rfl := Option.some.inj h
    exact zw_iret hX hr dX2_sideOf_37 rfl ⟨rfl, rfl⟩
set_option maxHeartbeats 4000000 in
set_option maxRecDepth 100000 in
theorem zt_X2_countRings_J30 {p : Program} {l : Launch} {e : Env} {R : Room} {s : State} {m : MethodId} {args : Array Value} {below : List Frame} {meth : Method} {c : Code} {V : zm_V} {mc ms d rc rs : Nat} (hX : zm_X p R s m args meth c RX2 "countRings" cX2_countRings 4 zk_E V mc ms) (hr : meth.sig.returnType = (some .int)) (hR : R.frames = d ∧ R.locals = 64 * d) (hd : 1 ≤ d) {N : Nat} {k : Nat → Int32 → Int32 → Int32 → zm_S → Option ((Int32 × zm_S) ⊕ ((Int32) × zm_S))} {a0 : Nat} {i1 : Int32} {i3 : Int32} {t0 : Int32} {t1 : Int32} {res : (Int32 × zm_S) ⊕ ((Int32) × zm_S)} {out : (Int32 × zm_S)}   (hf : ∀ o, res = .inl o → o = out) (hk : ∀ (x2 : Int32) (S' : zm_S), res = .inr (x2, S') → zw p l e R s m args below meth c (vx_MQ below (zm_Qc zk_E V (zo_i out)) (zm_XC zk_E V zo_x) args s mc ms (fun q => V.2.2.2.1 ≤ q)) 4 zk_E V mc ms 38 [(2, .int x2)] [] S' rc rs) (hrec : ∀ (i2' : Int32) (i3' : Int32) (S : zm_S), k a0 i1 i2' i3' S = some res → zw p l e R s m args below meth c (vx_MQ below (zm_Qc zk_E V (zo_i out)) (zm_XC zk_E V zo_x) args s mc ms (fun q => V.2.2.2.1 ≤ q)) 4 zk_E V mc ms 4 [(0, .ref a0), (1, .int i1), (2, .int i2'), (3, .int i3')] [] S rc rs) {S : zm_S} (h : zf_X2_countRings_J30 N k a0 i1 i3 t0 t1 S = some res) : zw p l e R s m args below meth c (vx_MQ below (zm_Qc zk_E V (zo_i out)) (zm_XC zk_E V zo_x) args s mc ms (fun q => V.2.2.2.1 ≤ q)) 4 zk_E V mc ms 30 [(0, .ref a0), (1, .int i1), (3, .int i3)] [.int t1, .int t0] S rc rs := by
  unfold zf_X2_countRings_J30 at h
  refine zw_iadd hX dX2_countRings_30 ?_
  refine zw_istore_n hX dX2_countRings_31 (by decide) ?_
  refine zw_iinc (v := (i3 + (1 : Int32))) hX dX2_countRings_32 rfl rfl (by decide) ?_
  refine zw_goto (tgt := 4) hX dX2_countRings_35 (by decide) ?_
  refine zw_sub (lv' := [(0, .ref a0), (1, .int i1), (2, .int (t0 + t1)), (3, .int (i3 + (1 : Int32)))]) (List.forall_mem_cons.mpr ⟨rfl, (List.forall_mem_cons.mpr ⟨rfl, (List.forall_mem_cons.mpr ⟨rfl, (List.forall_mem_cons.mpr ⟨rfl, zs_nil⟩)⟩)⟩)⟩) ?_
  exact hrec _ _ _ h
set_option maxHeartbeats 4000000 in
set_option maxRecDepth 100000 in
theorem zt_X2_countRings_L4 {p : Program} {l : Launch} {e : Env} {R : Room} {s : State} {m : MethodId} {args : Array Value} {below : List Frame} {meth : Method} {c : Code} {V : zm_V} {mc ms d rc rs : Nat} (hX : zm_X p R s m args meth c RX2 "countRings" cX2_countRings 4 zk_E V mc ms) (hr : meth.sig.returnType = (some .int)) (hR : R.frames = d ∧ R.locals = 64 * d) (hd : 1 ≤ d) {N : Nat} {res : (Int32 × zm_S) ⊕ ((Int32) × zm_S)} {out : (Int32 × zm_S)} (a0 : Nat) (i1 : Int32) (hf : ∀ o, res = .inl o → o = out) (hk : ∀ (x2 : Int32) (S' : zm_S), res = .inr (x2, S') → zw p l e R s m args below meth c (vx_MQ below (zm_Qc zk_E V (zo_i out)) (zm_XC zk_E V zo_x) args s mc ms (fun q => V.2.2.2.1 ≤ q)) 4 zk_E V mc ms 38 [(2, .int x2)] [] S' rc rs) : ∀ (n : Nat) (i2 : Int32) (i3 : Int32) (S : zm_S), zf_X2_countRings_L4 N n a0 i1 i2 i3 S = some res → zw p l e R s m args below meth c (vx_MQ below (zm_Qc zk_E V (zo_i out)) (zm_XC zk_E V zo_x) args s mc ms (fun q => V.2.2.2.1 ≤ q)) 4 zk_E V mc ms 4 [(0, .ref a0), (1, .int i1), (2, .int i2), (3, .int i3)] [] S rc rs := by
  intro n
  induction n with
  | zero => intro i2 i3 S h; cases h
  | succ n ih =>
    intro i2 i3 S h
    rw [zf_X2_countRings_L4] at h
    refine zw_iload_n hX dX2_countRings_4 rfl ?_
    refine zw_aload_n hX dX2_countRings_5 rfl ?_
    obtain ⟨v1, g, h⟩ := zb_some h
    refine zw_geti hX zl_X2_139 dX2_countRings_6 g ?_
    refine zw_icmp_ge (tgt := 38) hX dX2_countRings_9 (by decide) (fun c9 => ?_) (fun c9 => ?_)
    · rw [if_pos c9] at h
      refine zw_sub (lv' := [(2, .int i2)]) (List.forall_mem_cons.mpr ⟨rfl, zs_nil⟩) ?_
      exact hk _ _ (Option.some.inj h).symm
    · rw [if_neg c9] at h
      refine zw_iload_n hX dX2_countRings_12 rfl ?_
      refine zw_aload_n hX dX2_countRings_13 rfl ?_
      obtain ⟨b2, g, h⟩ := zb_some h
      refine zw_getr hX zl_X2_39 dX2_countRings_14 g ?_
      refine zw_iload_n hX dX2_countRings_17 rfl ?_
      obtain ⟨b3, g, h⟩ := zb_some h
      refine zw_xr hX dX2_countRings_18 g ?_
      refine zw_iconst (v := (0 : Int32)) hX dX2_countRings_19 (by decide) ?_
      obtain ⟨v4, g, h⟩ := zb_some h
      refine zw_xi hX dX2_countRings_20 g ?_
      refine zw_iload_n hX dX2_countRings_21 rfl ?_
      refine zw_icmp_ne (tgt := 29) hX dX2_countRings_22 (by decide) (fun c22 => ?_) (fun c22 => ?_)
      · rw [if_neg c22] at h
        refine zw_iconst (v := (0 : Int32)) hX dX2_countRings_29 (by decide) ?_
        refine zw_sub (lv' := [(0, .ref a0), (1, .int i1), (3, .int i3)]) (List.forall_mem_cons.mpr ⟨rfl, (List.forall_mem_cons.mpr ⟨rfl, (List.forall_mem_cons.mpr ⟨rfl, zs_nil⟩)⟩)⟩) ?_
        exact zt_X2_countRings_J30 hX hr hR hd hf hk ih h
      · rw [if_pos c22] at h
        refine zw_iconst (v := (1 : Int32)) hX dX2_countRings_25 (by decide) ?_
        refine zw_goto (tgt := 30) hX dX2_countRings_26 (by decide) ?_
        refine zw_sub (lv' := [(0, .ref a0), (1, .int i1), (3, .int i3)]) (List.forall_mem_cons.mpr ⟨rfl, (List.forall_mem_cons.mpr ⟨rfl, (List.forall_mem_cons.mpr ⟨rfl, zs_nil⟩)⟩)⟩) ?_
        exact zt_X2_countRings_J30 hX hr hR hd hf hk ih h
set_option maxHeartbeats 4000000 in
set_option maxRecDepth 100000 in
theorem zt_X2_countRings {l : Launch} {V : zm_V} {N : Nat} {S : zm_S} {out : (Int32 × zm_S)} {d : Nat} {a0 : Nat} {i1 : Int32} (hd : 1 ≤ d) (h : zf_X2_countRings N a0 i1 S = some out) : zm_Met l zk_E V yX2_countRings (.code yX2_countRings cX2_countRings 4 (some .int)) d [.ref a0, .int i1] S 0 0 (zo_i out) zo_x := by
  refine zm_of (by decide +kernel) (Nat.le_of_ble_eq_true rfl) ?_
  intro p e R s m args below meth c hRR hX hr hxt
  have hR : R.frames = d ∧ R.locals = 64 * d := by rw [hRR]; exact ⟨rfl, rfl⟩
  have hX : zm_X p R s m args meth c RX2 "countRings" cX2_countRings 4 zk_E V 0 0 := hX
  unfold zf_X2_countRings at h
  refine zw_sub (lv' := [(0, .ref a0), (1, .int i1)]) (List.forall_mem_cons.mpr ⟨rfl, (List.forall_mem_cons.mpr ⟨rfl, zs_nil⟩)⟩) ?_
  refine zw_iconst (v := (0 : Int32)) hX dX2_countRings_0 (by decide) ?_
  refine zw_istore_n hX dX2_countRings_1 (by decide) ?_
  refine zw_iconst (v := (0 : Int32)) hX dX2_countRings_2 (by decide) ?_
  refine zw_istore_n hX dX2_countRings_3 (by decide) ?_
  obtain ⟨r, g, h⟩ := zb_some h
  refine zw_sub (lv' := [(0, .ref a0), (1, .int i1), (2, .int (0 : Int32)), (3, .int (0 : Int32))]) (List.forall_mem_cons.mpr ⟨rfl, (List.forall_mem_cons.mpr ⟨rfl, (List.forall_mem_cons.mpr ⟨rfl, (List.forall_mem_cons.mpr ⟨rfl, zs_nil⟩)⟩)⟩)⟩) ?_
  refine zt_X2_countRings_L4 hX hr hR hd (res := r) (out := out) a0 i1 ?_ ?_ N _ _ _ g
  · intro o ho
    subst ho
    exact Option.some.inj h
  · intro v6 S5 hx
    subst hx
    try dsimp only at h
    refine zw_iload_n hX dX2_countRings_38 rfl ?_
    obtain rfl := Option.some.inj h
    exact zw_iret hX hr dX2_countRings_39 rfl ⟨rfl, rfl⟩
set_option maxHeartbeats 4000000 in
set_option maxRecDepth 100000 in
theorem zt_X2_measureOf {l : Launch} {V : zm_V} {N : Nat} {S : zm_S} {out : (Int32 × zm_S)} {d : Nat} {a0 : Nat} {i1 : Int32} {i2 : Int32} (hd : 2 ≤ d) (h : zf_X2_measureOf N a0 i1 i2 S = some out) : zm_Met l zk_E V yX2_measureOf (.code yX2_measureOf cX2_measureOf 3 (some .int)) d [.ref a0, .int i1, .int i2] S 0 0 (zo_i out) zo_x := by
  refine zm_of (by decide +kernel) (Nat.le_of_ble_eq_true rfl) ?_
  intro p e R s m args below meth c hRR hX hr hxt
  have hR : R.frames = d ∧ R.locals = 64 * d := by rw [hRR]; exact ⟨rfl, rfl⟩
  have hX : zm_X p R s m args meth c RX2 "measureOf" cX2_measureOf 3 zk_E V 0 0 := hX
  unfold zf_X2_measureOf at h
  refine zw_sub (lv' := [(0, .ref a0), (1, .int i1), (2, .int i2)]) (List.forall_mem_cons.mpr ⟨rfl, (List.forall_mem_cons.mpr ⟨rfl, (List.forall_mem_cons.mpr ⟨rfl, zs_nil⟩)⟩)⟩) ?_
  refine zw_iload_n hX dX2_measureOf_0 rfl ?_
  by_cases c1_0 : (i2).toInt = 0
  · rw [if_pos c1_0] at h
    refine zw_lookup (off := 27) (tgt := 28) hX dX2_measureOf_1 (by decide) (by rw [c1_0]; decide) (by decide) ?_
    refine zw_aload_n hX dX2_measureOf_28 rfl ?_
    obtain ⟨b3, g, h⟩ := zb_some h
    refine zw_getr hX zl_X2_33 dX2_measureOf_29 g ?_
    refine zw_iload_n hX dX2_measureOf_32 rfl ?_
    obtain ⟨v4, g, h⟩ := zb_some h
    refine zw_xi hX dX2_measureOf_33 g ?_
    obtain rfl := Option.some.inj h
    exact zw_iret hX hr dX2_measureOf_34 rfl ⟨rfl, rfl⟩
  rw [if_neg c1_0] at h
  by_cases c1_1 : (i2).toInt = 1
  · rw [if_pos c1_1] at h
    refine zw_lookup (off := 34) (tgt := 35) hX dX2_measureOf_1 (by decide) (by rw [c1_1]; decide) (by decide) ?_
    refine zw_aload_n hX dX2_measureOf_35 rfl ?_
    obtain ⟨b5, g, h⟩ := zb_some h
    refine zw_getr hX zl_X2_36 dX2_measureOf_36 g ?_
    refine zw_iload_n hX dX2_measureOf_39 rfl ?_
    obtain ⟨v6, g, h⟩ := zb_some h
    refine zw_xi hX dX2_measureOf_40 g ?_
    obtain rfl := Option.some.inj h
    exact zw_iret hX hr dX2_measureOf_41 rfl ⟨rfl, rfl⟩
  rw [if_neg c1_1] at h
  refine zw_lookup (off := 41) (tgt := 42) hX dX2_measureOf_1 (by decide) (by simp [Op.lookupswitch.offset, c1_0, (show ¬ ((0 : Int) = (i2).toInt) from fun q => c1_0 q.symm), c1_1, (show ¬ ((1 : Int) = (i2).toInt) from fun q => c1_1 q.symm)]) (by decide) ?_
  refine zw_aload_n hX dX2_measureOf_42 rfl ?_
  refine zw_iload_n hX dX2_measureOf_43 rfl ?_
  obtain ⟨_, gi, h⟩ := zb_some h
  obtain ⟨r2, g, h⟩ := zb_some h
  refine zc_Vi (as := [.int i1]) hX gi (zt_X2_countRings (d := d - 1) (by omega) g) zl_X2_182 rfl dX2_measureOf_44 ⟨rfl, rfl, Nat.le_of_ble_eq_true rfl⟩ ⟨by omega, by omega⟩ ?_
  obtain rfl := Option.some.inj h
  exact zw_iret hX hr dX2_measureOf_47 rfl ⟨rfl, rfl⟩
set_option maxHeartbeats 4000000 in
set_option maxRecDepth 100000 in
theorem zt_X2_lengthBetween_J114 {p : Program} {l : Launch} {e : Env} {R : Room} {s : State} {m : MethodId} {args : Array Value} {below : List Frame} {meth : Method} {c : Code} {V : zm_V} {mc ms d rc rs : Nat} (hX : zm_X p R s m args meth c RX2 "lengthBetween" cX2_lengthBetween 9 zk_E V mc ms) (hr : meth.sig.returnType = (some .int)) (hR : R.frames = d ∧ R.locals = 64 * d) (hd : 3 ≤ d) {N : Nat} {k : Nat → Int32 → Int32 → Int32 → Int32 → Int32 → zm_S → Option ((Int32 × zm_S) ⊕ ((Int32) × zm_S))} {a0 : Nat} {i1 : Int32} {i2 : Int32} {i4 : Int32} {i5 : Int32} {t0 : Int32} {t1 : Int32} {res : (Int32 × zm_S) ⊕ ((Int32) × zm_S)} {out : (Int32 × zm_S)}   (hf : ∀ o, res = .inl o → o = out) (hk : ∀ (x3 : Int32) (S' : zm_S), res = .inr (x3, S') → zw p l e R s m args below meth c (vx_MQ below (zm_Qc zk_E V (zo_i out)) (zm_XC zk_E V zo_x) args s mc ms (fun q => V.2.2.2.1 ≤ q)) 9 zk_E V mc ms 122 [(0, .ref a0), (1, .int i1), (2, .int i2), (3, .int x3), (4, .int i4)] [] S' rc rs) (hrec : ∀ (i3' : Int32) (i5' : Int32) (S : zm_S), k a0 i1 i2 i3' i4 i5' S = some res → zw p l e R s m args below meth c (vx_MQ below (zm_Qc zk_E V (zo_i out)) (zm_XC zk_E V zo_x) args s mc ms (fun q => V.2.2.2.1 ≤ q)) 9 zk_E V mc ms 16 [(0, .ref a0), (1, .int i1), (2, .int i2), (3, .int i3'), (4, .int i4), (5, .int i5')] [] S rc rs) {S : zm_S} (h : zf_X2_lengthBetween_J114 N k a0 i1 i2 i4 i5 t0 t1 S = some res) : zw p l e R s m args below meth c (vx_MQ below (zm_Qc zk_E V (zo_i out)) (zm_XC zk_E V zo_x) args s mc ms (fun q => V.2.2.2.1 ≤ q)) 9 zk_E V mc ms 114 [(0, .ref a0), (1, .int i1), (2, .int i2), (4, .int i4), (5, .int i5)] [.int t1, .int t0] S rc rs := by
  unfold zf_X2_lengthBetween_J114 at h
  refine zw_iadd hX dX2_lengthBetween_114 ?_
  refine zw_istore_n hX dX2_lengthBetween_115 (by decide) ?_
  refine zw_iinc (v := (i5 + (1 : Int32))) hX dX2_lengthBetween_116 rfl rfl (by decide) ?_
  refine zw_goto (tgt := 16) hX dX2_lengthBetween_119 (by decide) ?_
  refine zw_sub (lv' := [(0, .ref a0), (1, .int i1), (2, .int i2), (3, .int (t0 + t1)), (4, .int i4), (5, .int (i5 + (1 : Int32)))]) (List.forall_mem_cons.mpr ⟨rfl, (List.forall_mem_cons.mpr ⟨rfl, (List.forall_mem_cons.mpr ⟨rfl, (List.forall_mem_cons.mpr ⟨rfl, (List.forall_mem_cons.mpr ⟨rfl, (List.forall_mem_cons.mpr ⟨rfl, zs_nil⟩)⟩)⟩)⟩)⟩)⟩) ?_
  exact hrec _ _ _ h
set_option maxHeartbeats 4000000 in
set_option maxRecDepth 100000 in
theorem zt_X2_lengthBetween_J113 {p : Program} {l : Launch} {e : Env} {R : Room} {s : State} {m : MethodId} {args : Array Value} {below : List Frame} {meth : Method} {c : Code} {V : zm_V} {mc ms d rc rs : Nat} (hX : zm_X p R s m args meth c RX2 "lengthBetween" cX2_lengthBetween 9 zk_E V mc ms) (hr : meth.sig.returnType = (some .int)) (hR : R.frames = d ∧ R.locals = 64 * d) (hd : 3 ≤ d) {N : Nat} {k : Nat → Int32 → Int32 → Int32 → Int32 → Int32 → zm_S → Option ((Int32 × zm_S) ⊕ ((Int32) × zm_S))} {a0 : Nat} {i1 : Int32} {i2 : Int32} {i4 : Int32} {i5 : Int32} {t0 : Int32} {res : (Int32 × zm_S) ⊕ ((Int32) × zm_S)} {out : (Int32 × zm_S)}   (hf : ∀ o, res = .inl o → o = out) (hk : ∀ (x3 : Int32) (S' : zm_S), res = .inr (x3, S') → zw p l e R s m args below meth c (vx_MQ below (zm_Qc zk_E V (zo_i out)) (zm_XC zk_E V zo_x) args s mc ms (fun q => V.2.2.2.1 ≤ q)) 9 zk_E V mc ms 122 [(0, .ref a0), (1, .int i1), (2, .int i2), (3, .int x3), (4, .int i4)] [] S' rc rs) (hrec : ∀ (i3' : Int32) (i5' : Int32) (S : zm_S), k a0 i1 i2 i3' i4 i5' S = some res → zw p l e R s m args below meth c (vx_MQ below (zm_Qc zk_E V (zo_i out)) (zm_XC zk_E V zo_x) args s mc ms (fun q => V.2.2.2.1 ≤ q)) 9 zk_E V mc ms 16 [(0, .ref a0), (1, .int i1), (2, .int i2), (3, .int i3'), (4, .int i4), (5, .int i5')] [] S rc rs) {S : zm_S} (h : zf_X2_lengthBetween_J113 N k a0 i1 i2 i4 i5 t0 S = some res) : zw p l e R s m args below meth c (vx_MQ below (zm_Qc zk_E V (zo_i out)) (zm_XC zk_E V zo_x) args s mc ms (fun q => V.2.2.2.1 ≤ q)) 9 zk_E V mc ms 113 [(0, .ref a0), (1, .int i1), (2, .int i2), (4, .int i4), (5, .int i5)] [.int t0] S rc rs := by
  unfold zf_X2_lengthBetween_J113 at h
  refine zw_iconst (v := (0 : Int32)) hX dX2_lengthBetween_113 (by decide) ?_
  refine zw_sub (lv' := [(0, .ref a0), (1, .int i1), (2, .int i2), (4, .int i4), (5, .int i5)]) (List.forall_mem_cons.mpr ⟨rfl, (List.forall_mem_cons.mpr ⟨rfl, (List.forall_mem_cons.mpr ⟨rfl, (List.forall_mem_cons.mpr ⟨rfl, (List.forall_mem_cons.mpr ⟨rfl, zs_nil⟩)⟩)⟩)⟩)⟩) ?_
  exact zt_X2_lengthBetween_J114 hX hr hR hd hf hk hrec h
set_option maxHeartbeats 4000000 in
set_option maxRecDepth 100000 in
theorem zt_X2_lengthBetween_J87 {p : Program} {l : Launch} {e : Env} {R : Room} {s : State} {m : MethodId} {args : Array Value} {below : List Frame} {meth : Method} {c : Code} {V : zm_V} {mc ms d rc rs : Nat} (hX : zm_X p R s m args meth c RX2 "lengthBetween" cX2_lengthBetween 9 zk_E V mc ms) (hr : meth.sig.returnType = (some .int)) (hR : R.frames = d ∧ R.locals = 64 * d) (hd : 3 ≤ d) {N : Nat} {k : Nat → Int32 → Int32 → Int32 → Int32 → Int32 → zm_S → Option ((Int32 × zm_S) ⊕ ((Int32) × zm_S))} {a0 : Nat} {i1 : Int32} {i2 : Int32} {i3 : Int32} {i4 : Int32} {i5 : Int32} {t0 : Int32} {res : (Int32 × zm_S) ⊕ ((Int32) × zm_S)} {out : (Int32 × zm_S)}   (hf : ∀ o, res = .inl o → o = out) (hk : ∀ (x3 : Int32) (S' : zm_S), res = .inr (x3, S') → zw p l e R s m args below meth c (vx_MQ below (zm_Qc zk_E V (zo_i out)) (zm_XC zk_E V zo_x) args s mc ms (fun q => V.2.2.2.1 ≤ q)) 9 zk_E V mc ms 122 [(0, .ref a0), (1, .int i1), (2, .int i2), (3, .int x3), (4, .int i4)] [] S' rc rs) (hrec : ∀ (i3' : Int32) (i5' : Int32) (S : zm_S), k a0 i1 i2 i3' i4 i5' S = some res → zw p l e R s m args below meth c (vx_MQ below (zm_Qc zk_E V (zo_i out)) (zm_XC zk_E V zo_x) args s mc ms (fun q => V.2.2.2.1 ≤ q)) 9 zk_E V mc ms 16 [(0, .ref a0), (1, .int i1), (2, .int i2), (3, .int i3'), (4, .int i4), (5, .int i5')] [] S rc rs) {S : zm_S} (h : zf_X2_lengthBetween_J87 N k a0 i1 i2 i3 i4 i5 t0 S = some res) : zw p l e R s m args below meth c (vx_MQ below (zm_Qc zk_E V (zo_i out)) (zm_XC zk_E V zo_x) args s mc ms (fun q => V.2.2.2.1 ≤ q)) 9 zk_E V mc ms 87 [(0, .ref a0), (1, .int i1), (2, .int i2), (3, .int i3), (4, .int i4), (5, .int i5)] [.int t0] S rc rs := by
  unfold zf_X2_lengthBetween_J87 at h
  refine zw_istore hX dX2_lengthBetween_87 (by decide) ?_
  refine zw_iload_n hX dX2_lengthBetween_89 rfl ?_
  refine zw_iload hX dX2_lengthBetween_90 rfl ?_
  refine zw_if_eq (tgt := 113) hX dX2_lengthBetween_92 (by decide) (fun c92 => ?_) (fun c92 => ?_)
  · rw [if_pos c92] at h
    refine zw_sub (lv' := [(0, .ref a0), (1, .int i1), (2, .int i2), (4, .int i4), (5, .int i5)]) (List.forall_mem_cons.mpr ⟨rfl, (List.forall_mem_cons.mpr ⟨rfl, (List.forall_mem_cons.mpr ⟨rfl, (List.forall_mem_cons.mpr ⟨rfl, (List.forall_mem_cons.mpr ⟨rfl, zs_nil⟩)⟩)⟩)⟩)⟩) ?_
    exact zt_X2_lengthBetween_J113 hX hr hR hd hf hk hrec h
  · rw [if_neg c92] at h
    refine zw_aload_n hX dX2_lengthBetween_95 rfl ?_
    obtain ⟨b5, g, h⟩ := zb_some h
    refine zw_getr hX zl_X2_13 dX2_lengthBetween_96 g ?_
    refine zw_iload hX dX2_lengthBetween_99 rfl ?_
    obtain ⟨b6, g, h⟩ := zb_some h
    refine zw_xr hX dX2_lengthBetween_101 g ?_
    refine zw_iload hX dX2_lengthBetween_102 rfl ?_
    obtain ⟨v7, g, h⟩ := zb_some h
    refine zw_xi hX dX2_lengthBetween_104 g ?_
    refine zw_iconst (v := (-1 : Int32)) hX dX2_lengthBetween_105 (by decide) ?_
    refine zw_icmp_eq (tgt := 113) hX dX2_lengthBetween_106 (by decide) (fun c106 => ?_) (fun c106 => ?_)
    · rw [if_pos c106] at h
      refine zw_sub (lv' := [(0, .ref a0), (1, .int i1), (2, .int i2), (4, .int i4), (5, .int i5)]) (List.forall_mem_cons.mpr ⟨rfl, (List.forall_mem_cons.mpr ⟨rfl, (List.forall_mem_cons.mpr ⟨rfl, (List.forall_mem_cons.mpr ⟨rfl, (List.forall_mem_cons.mpr ⟨rfl, zs_nil⟩)⟩)⟩)⟩)⟩) ?_
      exact zt_X2_lengthBetween_J113 hX hr hR hd hf hk hrec h
    · rw [if_neg c106] at h
      refine zw_iconst (v := (1 : Int32)) hX dX2_lengthBetween_109 (by decide) ?_
      refine zw_goto (tgt := 114) hX dX2_lengthBetween_110 (by decide) ?_
      refine zw_sub (lv' := [(0, .ref a0), (1, .int i1), (2, .int i2), (4, .int i4), (5, .int i5)]) (List.forall_mem_cons.mpr ⟨rfl, (List.forall_mem_cons.mpr ⟨rfl, (List.forall_mem_cons.mpr ⟨rfl, (List.forall_mem_cons.mpr ⟨rfl, (List.forall_mem_cons.mpr ⟨rfl, zs_nil⟩)⟩)⟩)⟩)⟩) ?_
      exact zt_X2_lengthBetween_J114 hX hr hR hd hf hk hrec h
set_option maxHeartbeats 4000000 in
set_option maxRecDepth 100000 in
theorem zt_X2_lengthBetween_J86 {p : Program} {l : Launch} {e : Env} {R : Room} {s : State} {m : MethodId} {args : Array Value} {below : List Frame} {meth : Method} {c : Code} {V : zm_V} {mc ms d rc rs : Nat} (hX : zm_X p R s m args meth c RX2 "lengthBetween" cX2_lengthBetween 9 zk_E V mc ms) (hr : meth.sig.returnType = (some .int)) (hR : R.frames = d ∧ R.locals = 64 * d) (hd : 3 ≤ d) {N : Nat} {k : Nat → Int32 → Int32 → Int32 → Int32 → Int32 → zm_S → Option ((Int32 × zm_S) ⊕ ((Int32) × zm_S))} {a0 : Nat} {i1 : Int32} {i2 : Int32} {i3 : Int32} {i4 : Int32} {i5 : Int32} {res : (Int32 × zm_S) ⊕ ((Int32) × zm_S)} {out : (Int32 × zm_S)}   (hf : ∀ o, res = .inl o → o = out) (hk : ∀ (x3 : Int32) (S' : zm_S), res = .inr (x3, S') → zw p l e R s m args below meth c (vx_MQ below (zm_Qc zk_E V (zo_i out)) (zm_XC zk_E V zo_x) args s mc ms (fun q => V.2.2.2.1 ≤ q)) 9 zk_E V mc ms 122 [(0, .ref a0), (1, .int i1), (2, .int i2), (3, .int x3), (4, .int i4)] [] S' rc rs) (hrec : ∀ (i3' : Int32) (i5' : Int32) (S : zm_S), k a0 i1 i2 i3' i4 i5' S = some res → zw p l e R s m args below meth c (vx_MQ below (zm_Qc zk_E V (zo_i out)) (zm_XC zk_E V zo_x) args s mc ms (fun q => V.2.2.2.1 ≤ q)) 9 zk_E V mc ms 16 [(0, .ref a0), (1, .int i1), (2, .int i2), (3, .int i3'), (4, .int i4), (5, .int i5')] [] S rc rs) {S : zm_S} (h : zf_X2_lengthBetween_J86 N k a0 i1 i2 i3 i4 i5 S = some res) : zw p l e R s m args below meth c (vx_MQ below (zm_Qc zk_E V (zo_i out)) (zm_XC zk_E V zo_x) args s mc ms (fun q => V.2.2.2.1 ≤ q)) 9 zk_E V mc ms 86 [(0, .ref a0), (1, .int i1), (2, .int i2), (3, .int i3), (4, .int i4), (5, .int i5)] [] S rc rs := by
  unfold zf_X2_lengthBetween_J86 at h
  refine zw_iconst (v := (0 : Int32)) hX dX2_lengthBetween_86 (by decide) ?_
  refine zw_sub (lv' := [(0, .ref a0), (1, .int i1), (2, .int i2), (3, .int i3), (4, .int i4), (5, .int i5)]) (List.forall_mem_cons.mpr ⟨rfl, (List.forall_mem_cons.mpr ⟨rfl, (List.forall_mem_cons.mpr ⟨rfl, (List.forall_mem_cons.mpr ⟨rfl, (List.forall_mem_cons.mpr ⟨rfl, (List.forall_mem_cons.mpr ⟨rfl, zs_nil⟩)⟩)⟩)⟩)⟩)⟩) ?_
  exact zt_X2_lengthBetween_J87 hX hr hR hd hf hk hrec h
set_option maxHeartbeats 4000000 in
set_option maxRecDepth 100000 in
theorem zt_X2_lengthBetween_J82 {p : Program} {l : Launch} {e : Env} {R : Room} {s : State} {m : MethodId} {args : Array Value} {below : List Frame} {meth : Method} {c : Code} {V : zm_V} {mc ms d rc rs : Nat} (hX : zm_X p R s m args meth c RX2 "lengthBetween" cX2_lengthBetween 9 zk_E V mc ms) (hr : meth.sig.returnType = (some .int)) (hR : R.frames = d ∧ R.locals = 64 * d) (hd : 3 ≤ d) {N : Nat} {k : Nat → Int32 → Int32 → Int32 → Int32 → Int32 → zm_S → Option ((Int32 × zm_S) ⊕ ((Int32) × zm_S))} {a0 : Nat} {i1 : Int32} {i2 : Int32} {i3 : Int32} {i4 : Int32} {i5 : Int32} {res : (Int32 × zm_S) ⊕ ((Int32) × zm_S)} {out : (Int32 × zm_S)}   (hf : ∀ o, res = .inl o → o = out) (hk : ∀ (x3 : Int32) (S' : zm_S), res = .inr (x3, S') → zw p l e R s m args below meth c (vx_MQ below (zm_Qc zk_E V (zo_i out)) (zm_XC zk_E V zo_x) args s mc ms (fun q => V.2.2.2.1 ≤ q)) 9 zk_E V mc ms 122 [(0, .ref a0), (1, .int i1), (2, .int i2), (3, .int x3), (4, .int i4)] [] S' rc rs) (hrec : ∀ (i3' : Int32) (i5' : Int32) (S : zm_S), k a0 i1 i2 i3' i4 i5' S = some res → zw p l e R s m args below meth c (vx_MQ below (zm_Qc zk_E V (zo_i out)) (zm_XC zk_E V zo_x) args s mc ms (fun q => V.2.2.2.1 ≤ q)) 9 zk_E V mc ms 16 [(0, .ref a0), (1, .int i1), (2, .int i2), (3, .int i3'), (4, .int i4), (5, .int i5')] [] S rc rs) {S : zm_S} (h : zf_X2_lengthBetween_J82 N k a0 i1 i2 i3 i4 i5 S = some res) : zw p l e R s m args below meth c (vx_MQ below (zm_Qc zk_E V (zo_i out)) (zm_XC zk_E V zo_x) args s mc ms (fun q => V.2.2.2.1 ≤ q)) 9 zk_E V mc ms 82 [(0, .ref a0), (1, .int i1), (2, .int i2), (3, .int i3), (4, .int i4), (5, .int i5)] [] S rc rs := by
  unfold zf_X2_lengthBetween_J82 at h
  refine zw_iconst (v := (1 : Int32)) hX dX2_lengthBetween_82 (by decide) ?_
  refine zw_goto (tgt := 87) hX dX2_lengthBetween_83 (by decide) ?_
  refine zw_sub (lv' := [(0, .ref a0), (1, .int i1), (2, .int i2), (3, .int i3), (4, .int i4), (5, .int i5)]) (List.forall_mem_cons.mpr ⟨rfl, (List.forall_mem_cons.mpr ⟨rfl, (List.forall_mem_cons.mpr ⟨rfl, (List.forall_mem_cons.mpr ⟨rfl, (List.forall_mem_cons.mpr ⟨rfl, (List.forall_mem_cons.mpr ⟨rfl, zs_nil⟩)⟩)⟩)⟩)⟩)⟩) ?_
  exact zt_X2_lengthBetween_J87 hX hr hR hd hf hk hrec h
set_option maxHeartbeats 4000000 in
set_option maxRecDepth 100000 in
theorem zt_X2_lengthBetween_J70 {p : Program} {l : Launch} {e : Env} {R : Room} {s : State} {m : MethodId} {args : Array Value} {below : List Frame} {meth : Method} {c : Code} {V : zm_V} {mc ms d rc rs : Nat} (hX : zm_X p R s m args meth c RX2 "lengthBetween" cX2_lengthBetween 9 zk_E V mc ms) (hr : meth.sig.returnType = (some .int)) (hR : R.frames = d ∧ R.locals = 64 * d) (hd : 3 ≤ d) {N : Nat} {k : Nat → Int32 → Int32 → Int32 → Int32 → Int32 → zm_S → Option ((Int32 × zm_S) ⊕ ((Int32) × zm_S))} {a0 : Nat} {i1 : Int32} {i2 : Int32} {i3 : Int32} {i4 : Int32} {i5 : Int32} {i6 : Int32} {i7 : Int32} {res : (Int32 × zm_S) ⊕ ((Int32) × zm_S)} {out : (Int32 × zm_S)}   (hf : ∀ o, res = .inl o → o = out) (hk : ∀ (x3 : Int32) (S' : zm_S), res = .inr (x3, S') → zw p l e R s m args below meth c (vx_MQ below (zm_Qc zk_E V (zo_i out)) (zm_XC zk_E V zo_x) args s mc ms (fun q => V.2.2.2.1 ≤ q)) 9 zk_E V mc ms 122 [(0, .ref a0), (1, .int i1), (2, .int i2), (3, .int x3), (4, .int i4)] [] S' rc rs) (hrec : ∀ (i3' : Int32) (i5' : Int32) (S : zm_S), k a0 i1 i2 i3' i4 i5' S = some res → zw p l e R s m args below meth c (vx_MQ below (zm_Qc zk_E V (zo_i out)) (zm_XC zk_E V zo_x) args s mc ms (fun q => V.2.2.2.1 ≤ q)) 9 zk_E V mc ms 16 [(0, .ref a0), (1, .int i1), (2, .int i2), (3, .int i3'), (4, .int i4), (5, .int i5')] [] S rc rs) {S : zm_S} (h : zf_X2_lengthBetween_J70 N k a0 i1 i2 i3 i4 i5 i6 i7 S = some res) : zw p l e R s m args below meth c (vx_MQ below (zm_Qc zk_E V (zo_i out)) (zm_XC zk_E V zo_x) args s mc ms (fun q => V.2.2.2.1 ≤ q)) 9 zk_E V mc ms 70 [(0, .ref a0), (1, .int i1), (2, .int i2), (3, .int i3), (4, .int i4), (5, .int i5), (6, .int i6), (7, .int i7)] [] S rc rs := by
  unfold zf_X2_lengthBetween_J70 at h
  refine zw_iload hX dX2_lengthBetween_70 rfl ?_
  refine zw_iload_n hX dX2_lengthBetween_72 rfl ?_
  refine zw_icmp_ne (tgt := 86) hX dX2_lengthBetween_73 (by decide) (fun c73 => ?_) (fun c73 => ?_)
  · rw [if_neg c73] at h
    refine zw_sub (lv' := [(0, .ref a0), (1, .int i1), (2, .int i2), (3, .int i3), (4, .int i4), (5, .int i5)]) (List.forall_mem_cons.mpr ⟨rfl, (List.forall_mem_cons.mpr ⟨rfl, (List.forall_mem_cons.mpr ⟨rfl, (List.forall_mem_cons.mpr ⟨rfl, (List.forall_mem_cons.mpr ⟨rfl, (List.forall_mem_cons.mpr ⟨rfl, zs_nil⟩)⟩)⟩)⟩)⟩)⟩) ?_
    exact zt_X2_lengthBetween_J86 hX hr hR hd hf hk hrec h
  · rw [if_pos c73] at h
    refine zw_iload hX dX2_lengthBetween_76 rfl ?_
    refine zw_iload_n hX dX2_lengthBetween_78 rfl ?_
    refine zw_icmp_ne (tgt := 86) hX dX2_lengthBetween_79 (by decide) (fun c79 => ?_) (fun c79 => ?_)
    · rw [if_neg c79] at h
      refine zw_sub (lv' := [(0, .ref a0), (1, .int i1), (2, .int i2), (3, .int i3), (4, .int i4), (5, .int i5)]) (List.forall_mem_cons.mpr ⟨rfl, (List.forall_mem_cons.mpr ⟨rfl, (List.forall_mem_cons.mpr ⟨rfl, (List.forall_mem_cons.mpr ⟨rfl, (List.forall_mem_cons.mpr ⟨rfl, (List.forall_mem_cons.mpr ⟨rfl, zs_nil⟩)⟩)⟩)⟩)⟩)⟩) ?_
      exact zt_X2_lengthBetween_J86 hX hr hR hd hf hk hrec h
    · rw [if_pos c79] at h
      refine zw_sub (lv' := [(0, .ref a0), (1, .int i1), (2, .int i2), (3, .int i3), (4, .int i4), (5, .int i5)]) (List.forall_mem_cons.mpr ⟨rfl, (List.forall_mem_cons.mpr ⟨rfl, (List.forall_mem_cons.mpr ⟨rfl, (List.forall_mem_cons.mpr ⟨rfl, (List.forall_mem_cons.mpr ⟨rfl, (List.forall_mem_cons.mpr ⟨rfl, zs_nil⟩)⟩)⟩)⟩)⟩)⟩) ?_
      exact zt_X2_lengthBetween_J82 hX hr hR hd hf hk hrec h
set_option maxHeartbeats 4000000 in
set_option maxRecDepth 100000 in
theorem zt_X2_lengthBetween_L16 {p : Program} {l : Launch} {e : Env} {R : Room} {s : State} {m : MethodId} {args : Array Value} {below : List Frame} {meth : Method} {c : Code} {V : zm_V} {mc ms d rc rs : Nat} (hX : zm_X p R s m args meth c RX2 "lengthBetween" cX2_lengthBetween 9 zk_E V mc ms) (hr : meth.sig.returnType = (some .int)) (hR : R.frames = d ∧ R.locals = 64 * d) (hd : 3 ≤ d) {N : Nat} {res : (Int32 × zm_S) ⊕ ((Int32) × zm_S)} {out : (Int32 × zm_S)} (a0 : Nat) (i1 : Int32) (i2 : Int32) (i4 : Int32) (hf : ∀ o, res = .inl o → o = out) (hk : ∀ (x3 : Int32) (S' : zm_S), res = .inr (x3, S') → zw p l e R s m args below meth c (vx_MQ below (zm_Qc zk_E V (zo_i out)) (zm_XC zk_E V zo_x) args s mc ms (fun q => V.2.2.2.1 ≤ q)) 9 zk_E V mc ms 122 [(0, .ref a0), (1, .int i1), (2, .int i2), (3, .int x3), (4, .int i4)] [] S' rc rs) : ∀ (n : Nat) (i3 : Int32) (i5 : Int32) (S : zm_S), zf_X2_lengthBetween_L16 N n a0 i1 i2 i3 i4 i5 S = some res → zw p l e R s m args below meth c (vx_MQ below (zm_Qc zk_E V (zo_i out)) (zm_XC zk_E V zo_x) args s mc ms (fun q => V.2.2.2.1 ≤ q)) 9 zk_E V mc ms 16 [(0, .ref a0), (1, .int i1), (2, .int i2), (3, .int i3), (4, .int i4), (5, .int i5)] [] S rc rs := by
  intro n
  induction n with
  | zero => intro i3 i5 S h; cases h
  | succ n ih =>
    intro i3 i5 S h
    rw [zf_X2_lengthBetween_L16] at h
    refine zw_iload hX dX2_lengthBetween_16 rfl ?_
    refine zw_iconst (v := (2 : Int32)) hX dX2_lengthBetween_18 (by decide) ?_
    refine zw_icmp_ge (tgt := 122) hX dX2_lengthBetween_19 (by decide) (fun c19 => ?_) (fun c19 => ?_)
    · rw [if_pos c19] at h
      refine zw_sub (lv' := [(0, .ref a0), (1, .int i1), (2, .int i2), (3, .int i3), (4, .int i4)]) (List.forall_mem_cons.mpr ⟨rfl, (List.forall_mem_cons.mpr ⟨rfl, (List.forall_mem_cons.mpr ⟨rfl, (List.forall_mem_cons.mpr ⟨rfl, (List.forall_mem_cons.mpr ⟨rfl, zs_nil⟩)⟩)⟩)⟩)⟩) ?_
      exact hk _ _ (Option.some.inj h).symm
    · rw [if_neg c19] at h
      refine zw_aload_n hX dX2_lengthBetween_22 rfl ?_
      refine zw_iload hX dX2_lengthBetween_23 rfl ?_
      refine zw_bipush (v := (25 : Int32)) hX dX2_lengthBetween_25 (by decide) ?_
      refine zw_idiv hX dX2_lengthBetween_27 (by decide) ?_
      refine zw_iload hX dX2_lengthBetween_28 rfl ?_
      refine zw_bipush (v := (25 : Int32)) hX dX2_lengthBetween_30 (by decide) ?_
      refine zw_irem hX dX2_lengthBetween_32 (by decide) ?_
      refine zw_iload hX dX2_lengthBetween_33 rfl ?_
      obtain ⟨_, gi, h⟩ := zb_some h
      obtain ⟨r2, g, h⟩ := zb_some h
      refine zc_Vi (as := [.int (i4 / (25 : Int32)), .int (i4 - i4 / (25 : Int32) * (25 : Int32)), .int i5]) hX gi (zt_X2_leftOf (d := d - 1) (by omega) g) zl_X2_148 rfl dX2_lengthBetween_35 ⟨rfl, rfl, Nat.le_of_ble_eq_true rfl⟩ ⟨by omega, by omega⟩ ?_
      refine zw_istore hX dX2_lengthBetween_38 (by decide) ?_
      refine zw_aload_n hX dX2_lengthBetween_40 rfl ?_
      refine zw_iload hX dX2_lengthBetween_41 rfl ?_
      refine zw_bipush (v := (25 : Int32)) hX dX2_lengthBetween_43 (by decide) ?_
      refine zw_idiv hX dX2_lengthBetween_45 (by decide) ?_
      refine zw_iload hX dX2_lengthBetween_46 rfl ?_
      refine zw_bipush (v := (25 : Int32)) hX dX2_lengthBetween_48 (by decide) ?_
      refine zw_irem hX dX2_lengthBetween_50 (by decide) ?_
      refine zw_iload hX dX2_lengthBetween_51 rfl ?_
      obtain ⟨_, gi, h⟩ := zb_some h
      obtain ⟨r4, g, h⟩ := zb_some h
      refine zc_Vi (as := [.int (i4 / (25 : Int32)), .int (i4 - i4 / (25 : Int32) * (25 : Int32)), .int i5]) hX gi (zt_X2_rightOf (d := d - 1) (by omega) g) zl_X2_167 rfl dX2_lengthBetween_53 ⟨rfl, rfl, Nat.le_of_ble_eq_true rfl⟩ ⟨by omega, by omega⟩ ?_
      refine zw_istore hX dX2_lengthBetween_56 (by decide) ?_
      refine zw_iload hX dX2_lengthBetween_58 rfl ?_
      refine zw_iload_n hX dX2_lengthBetween_60 rfl ?_
      refine zw_icmp_ne (tgt := 70) hX dX2_lengthBetween_61 (by decide) (fun c61 => ?_) (fun c61 => ?_)
      · rw [if_neg c61] at h
        refine zw_sub (lv' := [(0, .ref a0), (1, .int i1), (2, .int i2), (3, .int i3), (4, .int i4), (5, .int i5), (6, .int r2.1), (7, .int r4.1)]) (List.forall_mem_cons.mpr ⟨rfl, (List.forall_mem_cons.mpr ⟨rfl, (List.forall_mem_cons.mpr ⟨rfl, (List.forall_mem_cons.mpr ⟨rfl, (List.forall_mem_cons.mpr ⟨rfl, (List.forall_mem_cons.mpr ⟨rfl, (List.forall_mem_cons.mpr ⟨rfl, (List.forall_mem_cons.mpr ⟨rfl, zs_nil⟩)⟩)⟩)⟩)⟩)⟩)⟩)⟩) ?_
        exact zt_X2_lengthBetween_J70 hX hr hR hd hf hk ih h
      · rw [if_pos c61] at h
        refine zw_iload hX dX2_lengthBetween_64 rfl ?_
        refine zw_iload_n hX dX2_lengthBetween_66 rfl ?_
        refine zw_icmp_eq (tgt := 82) hX dX2_lengthBetween_67 (by decide) (fun c67 => ?_) (fun c67 => ?_)
        · rw [if_pos c67] at h
          refine zw_sub (lv' := [(0, .ref a0), (1, .int i1), (2, .int i2), (3, .int i3), (4, .int i4), (5, .int i5)]) (List.forall_mem_cons.mpr ⟨rfl, (List.forall_mem_cons.mpr ⟨rfl, (List.forall_mem_cons.mpr ⟨rfl, (List.forall_mem_cons.mpr ⟨rfl, (List.forall_mem_cons.mpr ⟨rfl, (List.forall_mem_cons.mpr ⟨rfl, zs_nil⟩)⟩)⟩)⟩)⟩)⟩) ?_
          exact zt_X2_lengthBetween_J82 hX hr hR hd hf hk ih h
        · rw [if_neg c67] at h
          refine zw_sub (lv' := [(0, .ref a0), (1, .int i1), (2, .int i2), (3, .int i3), (4, .int i4), (5, .int i5), (6, .int r2.1), (7, .int r4.1)]) (List.forall_mem_cons.mpr ⟨rfl, (List.forall_mem_cons.mpr ⟨rfl, (List.forall_mem_cons.mpr ⟨rfl, (List.forall_mem_cons.mpr ⟨rfl, (List.forall_mem_cons.mpr ⟨rfl, (List.forall_mem_cons.mpr ⟨rfl, (List.forall_mem_cons.mpr ⟨rfl, (List.forall_mem_cons.mpr ⟨rfl, zs_nil⟩)⟩)⟩)⟩)⟩)⟩)⟩)⟩) ?_
          exact zt_X2_lengthBetween_J70 hX hr hR hd hf hk ih h
set_option maxHeartbeats 4000000 in
set_option maxRecDepth 100000 in
theorem zt_X2_lengthBetween_L5 {p : Program} {l : Launch} {e : Env} {R : Room} {s : State} {m : MethodId} {args : Array Value} {below : List Frame} {meth : Method} {c : Code} {V : zm_V} {mc ms d rc rs : Nat} (hX : zm_X p R s m args meth c RX2 "lengthBetween" cX2_lengthBetween 9 zk_E V mc ms) (hr : meth.sig.returnType = (some .int)) (hR : R.frames = d ∧ R.locals = 64 * d) (hd : 3 ≤ d) {N : Nat} {res : (Int32 × zm_S) ⊕ ((Int32) × zm_S)} {out : (Int32 × zm_S)} (a0 : Nat) (i1 : Int32) (i2 : Int32) (hf : ∀ o, res = .inl o → o = out) (hk : ∀ (x3 : Int32) (S' : zm_S), res = .inr (x3, S') → zw p l e R s m args below meth c (vx_MQ below (zm_Qc zk_E V (zo_i out)) (zm_XC zk_E V zo_x) args s mc ms (fun q => V.2.2.2.1 ≤ q)) 9 zk_E V mc ms 128 [(3, .int x3)] [] S' rc rs) : ∀ (n : Nat) (i3 : Int32) (i4 : Int32) (S : zm_S), zf_X2_lengthBetween_L5 N n a0 i1 i2 i3 i4 S = some res → zw p l e R s m args below meth c (vx_MQ below (zm_Qc zk_E V (zo_i out)) (zm_XC zk_E V zo_x) args s mc ms (fun q => V.2.2.2.1 ≤ q)) 9 zk_E V mc ms 5 [(0, .ref a0), (1, .int i1), (2, .int i2), (3, .int i3), (4, .int i4)] [] S rc rs := by
  intro n
  induction n with
  | zero => intro i3 i4 S h; cases h
  | succ n ih =>
    intro i3 i4 S h
    rw [zf_X2_lengthBetween_L5] at h
    refine zw_iload hX dX2_lengthBetween_5 rfl ?_
    refine zw_sipush (v := (625 : Int32)) hX dX2_lengthBetween_7 (by decide) ?_
    refine zw_icmp_ge (tgt := 128) hX dX2_lengthBetween_10 (by decide) (fun c10 => ?_) (fun c10 => ?_)
    · rw [if_pos c10] at h
      refine zw_sub (lv' := [(3, .int i3)]) (List.forall_mem_cons.mpr ⟨rfl, zs_nil⟩) ?_
      exact hk _ _ (Option.some.inj h).symm
    · rw [if_neg c10] at h
      refine zw_iconst (v := (0 : Int32)) hX dX2_lengthBetween_13 (by decide) ?_
      refine zw_istore hX dX2_lengthBetween_14 (by decide) ?_
      obtain ⟨r, g, h⟩ := zb_some h
      refine zw_sub (lv' := [(0, .ref a0), (1, .int i1), (2, .int i2), (3, .int i3), (4, .int i4), (5, .int (0 : Int32))]) (List.forall_mem_cons.mpr ⟨rfl, (List.forall_mem_cons.mpr ⟨rfl, (List.forall_mem_cons.mpr ⟨rfl, (List.forall_mem_cons.mpr ⟨rfl, (List.forall_mem_cons.mpr ⟨rfl, (List.forall_mem_cons.mpr ⟨rfl, zs_nil⟩)⟩)⟩)⟩)⟩)⟩) ?_
      refine zt_X2_lengthBetween_L16 hX hr hR hd (res := r) (out := out) a0 i1 i2 i4 ?_ ?_ N _ _ _ g
      · intro o ho
        subst ho
        exact hf _ (Option.some.inj h).symm
      · intro v9 S8 hx
        subst hx
        try dsimp only at h
        refine zw_iinc (v := (i4 + (1 : Int32))) hX dX2_lengthBetween_122 rfl rfl (by decide) ?_
        refine zw_goto (tgt := 5) hX dX2_lengthBetween_125 (by decide) ?_
        refine zw_sub (lv' := [(0, .ref a0), (1, .int i1), (2, .int i2), (3, .int v9), (4, .int (i4 + (1 : Int32)))]) (List.forall_mem_cons.mpr ⟨rfl, (List.forall_mem_cons.mpr ⟨rfl, (List.forall_mem_cons.mpr ⟨rfl, (List.forall_mem_cons.mpr ⟨rfl, (List.forall_mem_cons.mpr ⟨rfl, zs_nil⟩)⟩)⟩)⟩)⟩) ?_
        exact ih _ _ _ h
set_option maxHeartbeats 4000000 in
set_option maxRecDepth 100000 in
theorem zt_X2_lengthBetween {l : Launch} {V : zm_V} {N : Nat} {S : zm_S} {out : (Int32 × zm_S)} {d : Nat} {a0 : Nat} {i1 : Int32} {i2 : Int32} (hd : 3 ≤ d) (h : zf_X2_lengthBetween N a0 i1 i2 S = some out) : zm_Met l zk_E V yX2_lengthBetween (.code yX2_lengthBetween cX2_lengthBetween 9 (some .int)) d [.ref a0, .int i1, .int i2] S 0 0 (zo_i out) zo_x := by
  refine zm_of (by decide +kernel) (Nat.le_of_ble_eq_true rfl) ?_
  intro p e R s m args below meth c hRR hX hr hxt
  have hR : R.frames = d ∧ R.locals = 64 * d := by rw [hRR]; exact ⟨rfl, rfl⟩
  have hX : zm_X p R s m args meth c RX2 "lengthBetween" cX2_lengthBetween 9 zk_E V 0 0 := hX
  unfold zf_X2_lengthBetween at h
  refine zw_sub (lv' := [(0, .ref a0), (1, .int i1), (2, .int i2)]) (List.forall_mem_cons.mpr ⟨rfl, (List.forall_mem_cons.mpr ⟨rfl, (List.forall_mem_cons.mpr ⟨rfl, zs_nil⟩)⟩)⟩) ?_
  refine zw_iconst (v := (0 : Int32)) hX dX2_lengthBetween_0 (by decide) ?_
  refine zw_istore_n hX dX2_lengthBetween_1 (by decide) ?_
  refine zw_iconst (v := (0 : Int32)) hX dX2_lengthBetween_2 (by decide) ?_
  refine zw_istore hX dX2_lengthBetween_3 (by decide) ?_
  obtain ⟨r, g, h⟩ := zb_some h
  refine zw_sub (lv' := [(0, .ref a0), (1, .int i1), (2, .int i2), (3, .int (0 : Int32)), (4, .int (0 : Int32))]) (List.forall_mem_cons.mpr ⟨rfl, (List.forall_mem_cons.mpr ⟨rfl, (List.forall_mem_cons.mpr ⟨rfl, (List.forall_mem_cons.mpr ⟨rfl, (List.forall_mem_cons.mpr ⟨rfl, zs_nil⟩)⟩)⟩)⟩)⟩) ?_
  refine zt_X2_lengthBetween_L5 hX hr hR hd (res := r) (out := out) a0 i1 i2 ?_ ?_ N _ _ _ g
  · intro o ho
    subst ho
    exact Option.some.inj h
  · intro v11 S10 hx
    subst hx
    try dsimp only at h
    refine zw_iload_n hX dX2_lengthBetween_128 rfl ?_
    obtain rfl := Option.some.inj h
    exact zw_iret hX hr dX2_lengthBetween_129 rfl ⟨rfl, rfl⟩
set_option maxHeartbeats 4000000 in
set_option maxRecDepth 100000 in
theorem zt_X2_goThrough_J92 {p : Program} {l : Launch} {e : Env} {R : Room} {s : State} {m : MethodId} {args : Array Value} {below : List Frame} {meth : Method} {c : Code} {V : zm_V} {mc ms d rc rs : Nat} (hX : zm_X p R s m args meth c RX2 "goThrough" cX2_goThrough 9 zk_E V mc ms) (hr : meth.sig.returnType = (some .boolean)) (hR : R.frames = d ∧ R.locals = 64 * d) (hd : 4 ≤ d) {N : Nat} {k : Nat → Int32 → Int32 → Int32 → Int32 → Int32 → zm_S → Option ((Int32 × zm_S) ⊕ ((Int32) × zm_S))} {a0 : Nat} {i1 : Int32} {i3 : Int32} {i4 : Int32} {i5 : Int32} {i6 : Int32} {i7 : Int32} {i8 : Int32} {res : (Int32 × zm_S) ⊕ ((Int32) × zm_S)} {out : (Int32 × zm_S)}   (hf : ∀ o, res = .inl o → o = out) (hk : ∀ (x4 : Int32) (S' : zm_S), res = .inr (x4, S') → zw p l e R s m args below meth c (vx_MQ below (zm_Qc zk_E V (zo_i out)) (zm_XC zk_E V zo_x) args s mc ms (fun q => V.2.2.2.1 ≤ q)) 9 zk_E V mc ms 133 [(4, .int x4)] [] S' rc rs) (hrec : ∀ (i4' : Int32) (i6' : Int32) (S : zm_S), k a0 i1 i3 i4' i5 i6' S = some res → zw p l e R s m args below meth c (vx_MQ below (zm_Qc zk_E V (zo_i out)) (zm_XC zk_E V zo_x) args s mc ms (fun q => V.2.2.2.1 ≤ q)) 9 zk_E V mc ms 25 [(0, .ref a0), (1, .int i1), (3, .int i3), (4, .int i4'), (5, .int i5), (6, .int i6')] [] S rc rs) {S : zm_S} (h : zf_X2_goThrough_J92 N k a0 i1 i3 i4 i5 i6 i7 i8 S = some res) : zw p l e R s m args below meth c (vx_MQ below (zm_Qc zk_E V (zo_i out)) (zm_XC zk_E V zo_x) args s mc ms (fun q => V.2.2.2.1 ≤ q)) 9 zk_E V mc ms 92 [(0, .ref a0), (1, .int i1), (3, .int i3), (4, .int i4), (5, .int i5), (6, .int i6), (7, .int i7), (8, .int i8)] [] S rc rs := by
  unfold zf_X2_goThrough_J92 at h
  refine zw_aload_n hX dX2_goThrough_92 rfl ?_
  obtain ⟨b13, g, h⟩ := zb_some h
  refine zw_getr hX zl_X2_48 dX2_goThrough_93 g ?_
  refine zw_iload hX dX2_goThrough_96 rfl ?_
  obtain ⟨v14, g, h⟩ := zb_some h
  refine zw_xi hX dX2_goThrough_98 g ?_
  refine zw_iload_n hX dX2_goThrough_99 rfl ?_
  refine zw_icmp_ne (tgt := 127) hX dX2_goThrough_100 (by decide) (fun c100 => ?_) (fun c100 => ?_)
  · rw [if_neg c100] at h
    refine zw_iinc (v := (i6 + (1 : Int32))) hX dX2_goThrough_127 rfl rfl (by decide) ?_
    refine zw_goto (tgt := 25) hX dX2_goThrough_130 (by decide) ?_
    refine zw_sub (lv' := [(0, .ref a0), (1, .int i1), (3, .int i3), (4, .int i4), (5, .int i5), (6, .int (i6 + (1 : Int32)))]) (List.forall_mem_cons.mpr ⟨rfl, (List.forall_mem_cons.mpr ⟨rfl, (List.forall_mem_cons.mpr ⟨rfl, (List.forall_mem_cons.mpr ⟨rfl, (List.forall_mem_cons.mpr ⟨rfl, (List.forall_mem_cons.mpr ⟨rfl, zs_nil⟩)⟩)⟩)⟩)⟩)⟩) ?_
    exact hrec _ _ _ h
  · rw [if_pos c100] at h
    refine zw_aload_n hX dX2_goThrough_103 rfl ?_
    obtain ⟨b15, g, h⟩ := zb_some h
    refine zw_getr hX zl_X2_48 dX2_goThrough_104 g ?_
    refine zw_iload hX dX2_goThrough_107 rfl ?_
    obtain ⟨v16, g, h⟩ := zb_some h
    refine zw_xi hX dX2_goThrough_109 g ?_
    refine zw_iconst (v := (-1 : Int32)) hX dX2_goThrough_110 (by decide) ?_
    refine zw_icmp_ne (tgt := 127) hX dX2_goThrough_111 (by decide) (fun c111 => ?_) (fun c111 => ?_)
    · rw [if_neg c111] at h
      refine zw_iinc (v := (i6 + (1 : Int32))) hX dX2_goThrough_127 rfl rfl (by decide) ?_
      refine zw_goto (tgt := 25) hX dX2_goThrough_130 (by decide) ?_
      refine zw_sub (lv' := [(0, .ref a0), (1, .int i1), (3, .int i3), (4, .int i4), (5, .int i5), (6, .int (i6 + (1 : Int32)))]) (List.forall_mem_cons.mpr ⟨rfl, (List.forall_mem_cons.mpr ⟨rfl, (List.forall_mem_cons.mpr ⟨rfl, (List.forall_mem_cons.mpr ⟨rfl, (List.forall_mem_cons.mpr ⟨rfl, (List.forall_mem_cons.mpr ⟨rfl, zs_nil⟩)⟩)⟩)⟩)⟩)⟩) ?_
      exact hrec _ _ _ h
    · rw [if_pos c111] at h
      refine zw_aload_n hX dX2_goThrough_114 rfl ?_
      obtain ⟨b17, g, h⟩ := zb_some h
      refine zw_getr hX zl_X2_48 dX2_goThrough_115 g ?_
      refine zw_iload hX dX2_goThrough_118 rfl ?_
      refine zw_iload_n hX dX2_goThrough_120 rfl ?_
      refine zw_iconst (v := (1 : Int32)) hX dX2_goThrough_121 (by decide) ?_
      refine zw_iadd hX dX2_goThrough_122 ?_
      obtain ⟨S18, g, h⟩ := zb_some h
      refine zw_si hX dX2_goThrough_123 g ?_
      refine zw_iconst (v := (1 : Int32)) hX dX2_goThrough_124 (by decide) ?_
      refine zw_istore hX dX2_goThrough_125 (by decide) ?_
      refine zw_iinc (v := (i6 + (1 : Int32))) hX dX2_goThrough_127 rfl rfl (by decide) ?_
      refine zw_goto (tgt := 25) hX dX2_goThrough_130 (by decide) ?_
      refine zw_sub (lv' := [(0, .ref a0), (1, .int i1), (3, .int i3), (4, .int (1 : Int32)), (5, .int i5), (6, .int (i6 + (1 : Int32)))]) (List.forall_mem_cons.mpr ⟨rfl, (List.forall_mem_cons.mpr ⟨rfl, (List.forall_mem_cons.mpr ⟨rfl, (List.forall_mem_cons.mpr ⟨rfl, (List.forall_mem_cons.mpr ⟨rfl, (List.forall_mem_cons.mpr ⟨rfl, zs_nil⟩)⟩)⟩)⟩)⟩)⟩) ?_
      exact hrec _ _ _ h
set_option maxHeartbeats 4000000 in
set_option maxRecDepth 100000 in
theorem zt_X2_goThrough_L25 {p : Program} {l : Launch} {e : Env} {R : Room} {s : State} {m : MethodId} {args : Array Value} {below : List Frame} {meth : Method} {c : Code} {V : zm_V} {mc ms d rc rs : Nat} (hX : zm_X p R s m args meth c RX2 "goThrough" cX2_goThrough 9 zk_E V mc ms) (hr : meth.sig.returnType = (some .boolean)) (hR : R.frames = d ∧ R.locals = 64 * d) (hd : 4 ≤ d) {N : Nat} {res : (Int32 × zm_S) ⊕ ((Int32) × zm_S)} {out : (Int32 × zm_S)} (a0 : Nat) (i1 : Int32) (i3 : Int32) (i5 : Int32) (hf : ∀ o, res = .inl o → o = out) (hk : ∀ (x4 : Int32) (S' : zm_S), res = .inr (x4, S') → zw p l e R s m args below meth c (vx_MQ below (zm_Qc zk_E V (zo_i out)) (zm_XC zk_E V zo_x) args s mc ms (fun q => V.2.2.2.1 ≤ q)) 9 zk_E V mc ms 133 [(4, .int x4)] [] S' rc rs) : ∀ (n : Nat) (i4 : Int32) (i6 : Int32) (S : zm_S), zf_X2_goThrough_L25 N n a0 i1 i3 i4 i5 i6 S = some res → zw p l e R s m args below meth c (vx_MQ below (zm_Qc zk_E V (zo_i out)) (zm_XC zk_E V zo_x) args s mc ms (fun q => V.2.2.2.1 ≤ q)) 9 zk_E V mc ms 25 [(0, .ref a0), (1, .int i1), (3, .int i3), (4, .int i4), (5, .int i5), (6, .int i6)] [] S rc rs := by
  intro n
  induction n with
  | zero => intro i4 i6 S h; cases h
  | succ n ih =>
    intro i4 i6 S h
    rw [zf_X2_goThrough_L25] at h
    refine zw_iload hX dX2_goThrough_25 rfl ?_
    refine zw_iload hX dX2_goThrough_27 rfl ?_
    refine zw_icmp_ge (tgt := 133) hX dX2_goThrough_29 (by decide) (fun c29 => ?_) (fun c29 => ?_)
    · rw [if_pos c29] at h
      refine zw_sub (lv' := [(4, .int i4)]) (List.forall_mem_cons.mpr ⟨rfl, zs_nil⟩) ?_
      exact hk _ _ (Option.some.inj h).symm
    · rw [if_neg c29] at h
      refine zw_aload_n hX dX2_goThrough_32 rfl ?_
      refine zw_iload_n hX dX2_goThrough_33 rfl ?_
      refine zw_iload hX dX2_goThrough_34 rfl ?_
      obtain ⟨_, gi, h⟩ := zb_some h
      obtain ⟨r8, g, h⟩ := zb_some h
      refine zc_Vi (as := [.int i1, .int i6]) hX gi (zt_X2_roomLeft (d := d - 1) (by omega) g) zl_X2_198 rfl dX2_goThrough_36 ⟨rfl, rfl, Nat.le_of_ble_eq_true rfl⟩ ⟨by omega, by omega⟩ ?_
      refine zw_iconst (v := (1 : Int32)) hX dX2_goThrough_39 (by decide) ?_
      refine zw_iadd hX dX2_goThrough_40 ?_
      refine zw_istore hX dX2_goThrough_41 (by decide) ?_
      refine zw_aload_n hX dX2_goThrough_43 rfl ?_
      refine zw_iload_n hX dX2_goThrough_44 rfl ?_
      refine zw_iload hX dX2_goThrough_45 rfl ?_
      obtain ⟨_, gi, h⟩ := zb_some h
      obtain ⟨r10, g, h⟩ := zb_some h
      refine zc_Vi (as := [.int i1, .int i6]) hX gi (zt_X2_roomRight (d := d - 1) (by omega) g) zl_X2_201 rfl dX2_goThrough_47 ⟨rfl, rfl, Nat.le_of_ble_eq_true rfl⟩ ⟨by omega, by omega⟩ ?_
      refine zw_iconst (v := (1 : Int32)) hX dX2_goThrough_50 (by decide) ?_
      refine zw_iadd hX dX2_goThrough_51 ?_
      refine zw_istore hX dX2_goThrough_52 (by decide) ?_
      refine zw_aload_n hX dX2_goThrough_54 rfl ?_
      obtain ⟨b11, g, h⟩ := zb_some h
      refine zw_getr hX zl_X2_48 dX2_goThrough_55 g ?_
      refine zw_iload hX dX2_goThrough_58 rfl ?_
      obtain ⟨v12, g, h⟩ := zb_some h
      refine zw_xi hX dX2_goThrough_60 g ?_
      refine zw_iload_n hX dX2_goThrough_61 rfl ?_
      refine zw_icmp_ne (tgt := 92) hX dX2_goThrough_62 (by decide) (fun c62 => ?_) (fun c62 => ?_)
      · rw [if_neg c62] at h
        refine zw_sub (lv' := [(0, .ref a0), (1, .int i1), (3, .int i3), (4, .int i4), (5, .int i5), (6, .int i6), (7, .int (r8.1 + (1 : Int32))), (8, .int (r10.1 + (1 : Int32)))]) (List.forall_mem_cons.mpr ⟨rfl, (List.forall_mem_cons.mpr ⟨rfl, (List.forall_mem_cons.mpr ⟨rfl, (List.forall_mem_cons.mpr ⟨rfl, (List.forall_mem_cons.mpr ⟨rfl, (List.forall_mem_cons.mpr ⟨rfl, (List.forall_mem_cons.mpr ⟨rfl, (List.forall_mem_cons.mpr ⟨rfl, zs_nil⟩)⟩)⟩)⟩)⟩)⟩)⟩)⟩) ?_
        exact zt_X2_goThrough_J92 hX hr hR hd hf hk ih h
      · rw [if_pos c62] at h
        refine zw_aload_n hX dX2_goThrough_65 rfl ?_
        obtain ⟨b19, g, h⟩ := zb_some h
        refine zw_getr hX zl_X2_48 dX2_goThrough_66 g ?_
        refine zw_iload hX dX2_goThrough_69 rfl ?_
        obtain ⟨v20, g, h⟩ := zb_some h
        refine zw_xi hX dX2_goThrough_71 g ?_
        refine zw_iconst (v := (-1 : Int32)) hX dX2_goThrough_72 (by decide) ?_
        refine zw_icmp_ne (tgt := 92) hX dX2_goThrough_73 (by decide) (fun c73 => ?_) (fun c73 => ?_)
        · rw [if_neg c73] at h
          refine zw_sub (lv' := [(0, .ref a0), (1, .int i1), (3, .int i3), (4, .int i4), (5, .int i5), (6, .int i6), (7, .int (r8.1 + (1 : Int32))), (8, .int (r10.1 + (1 : Int32)))]) (List.forall_mem_cons.mpr ⟨rfl, (List.forall_mem_cons.mpr ⟨rfl, (List.forall_mem_cons.mpr ⟨rfl, (List.forall_mem_cons.mpr ⟨rfl, (List.forall_mem_cons.mpr ⟨rfl, (List.forall_mem_cons.mpr ⟨rfl, (List.forall_mem_cons.mpr ⟨rfl, (List.forall_mem_cons.mpr ⟨rfl, zs_nil⟩)⟩)⟩)⟩)⟩)⟩)⟩)⟩) ?_
          exact zt_X2_goThrough_J92 hX hr hR hd hf hk ih h
        · rw [if_pos c73] at h
          refine zw_aload_n hX dX2_goThrough_76 rfl ?_
          obtain ⟨b21, g, h⟩ := zb_some h
          refine zw_getr hX zl_X2_48 dX2_goThrough_77 g ?_
          refine zw_iload hX dX2_goThrough_80 rfl ?_
          refine zw_iload_n hX dX2_goThrough_82 rfl ?_
          refine zw_iconst (v := (1 : Int32)) hX dX2_goThrough_83 (by decide) ?_
          refine zw_iadd hX dX2_goThrough_84 ?_
          obtain ⟨S22, g, h⟩ := zb_some h
          refine zw_si hX dX2_goThrough_85 g ?_
          refine zw_iconst (v := (1 : Int32)) hX dX2_goThrough_86 (by decide) ?_
          refine zw_istore hX dX2_goThrough_87 (by decide) ?_
          refine zw_goto (tgt := 127) hX dX2_goThrough_89 (by decide) ?_
          refine zw_iinc (v := (i6 + (1 : Int32))) hX dX2_goThrough_127 rfl rfl (by decide) ?_
          refine zw_goto (tgt := 25) hX dX2_goThrough_130 (by decide) ?_
          refine zw_sub (lv' := [(0, .ref a0), (1, .int i1), (3, .int i3), (4, .int (1 : Int32)), (5, .int i5), (6, .int (i6 + (1 : Int32)))]) (List.forall_mem_cons.mpr ⟨rfl, (List.forall_mem_cons.mpr ⟨rfl, (List.forall_mem_cons.mpr ⟨rfl, (List.forall_mem_cons.mpr ⟨rfl, (List.forall_mem_cons.mpr ⟨rfl, (List.forall_mem_cons.mpr ⟨rfl, zs_nil⟩)⟩)⟩)⟩)⟩)⟩) ?_
          exact ih _ _ _ h
set_option maxHeartbeats 4000000 in
set_option maxRecDepth 100000 in
theorem zt_X2_goThrough {l : Launch} {V : zm_V} {N : Nat} {S : zm_S} {out : (Int32 × zm_S)} {d : Nat} {a0 : Nat} {i1 : Int32} {i2 : Int32} {i3 : Int32} (hd : 4 ≤ d) (h : zf_X2_goThrough N a0 i1 i2 i3 S = some out) : zm_Met l zk_E V yX2_goThrough (.code yX2_goThrough cX2_goThrough 9 (some .boolean)) d [.ref a0, .int i1, .int i2, .int i3] S 0 0 (zo_i out) zo_x := by
  refine zm_of (by decide +kernel) (Nat.le_of_ble_eq_true rfl) ?_
  intro p e R s m args below meth c hRR hX hr hxt
  have hR : R.frames = d ∧ R.locals = 64 * d := by rw [hRR]; exact ⟨rfl, rfl⟩
  have hX : zm_X p R s m args meth c RX2 "goThrough" cX2_goThrough 9 zk_E V 0 0 := hX
  unfold zf_X2_goThrough at h
  refine zw_sub (lv' := [(0, .ref a0), (1, .int i1), (2, .int i2), (3, .int i3)]) (List.forall_mem_cons.mpr ⟨rfl, (List.forall_mem_cons.mpr ⟨rfl, (List.forall_mem_cons.mpr ⟨rfl, (List.forall_mem_cons.mpr ⟨rfl, zs_nil⟩)⟩)⟩)⟩) ?_
  refine zw_iconst (v := (0 : Int32)) hX dX2_goThrough_0 (by decide) ?_
  refine zw_istore hX dX2_goThrough_1 (by decide) ?_
  refine zw_aload_n hX dX2_goThrough_3 rfl ?_
  obtain ⟨b1, g, h⟩ := zb_some h
  refine zw_getr hX zl_X2_54 dX2_goThrough_4 g ?_
  refine zw_iload_n hX dX2_goThrough_7 rfl ?_
  refine zw_iload_n hX dX2_goThrough_8 rfl ?_
  obtain ⟨_, gi, h⟩ := zb_some h
  obtain ⟨r3, g, h⟩ := zb_some h
  refine zc_Vi (as := [.int i1, .int i2]) hX gi (zt_X8_toOf (d := d - 1) (by omega) g) zl_X2_192 rfl dX2_goThrough_9 ⟨rfl, rfl, Nat.le_of_ble_eq_true rfl⟩ ⟨by omega, by omega⟩ ?_
  refine zw_istore hX dX2_goThrough_12 (by decide) ?_
  refine zw_aload_n hX dX2_goThrough_14 rfl ?_
  obtain ⟨b4, g, h⟩ := zb_some h
  refine zw_getr hX zl_X2_54 dX2_goThrough_15 g ?_
  refine zw_iload_n hX dX2_goThrough_18 rfl ?_
  refine zw_iload_n hX dX2_goThrough_19 rfl ?_
  obtain ⟨_, gi, h⟩ := zb_some h
  obtain ⟨r6, g, h⟩ := zb_some h
  refine zc_Vi (as := [.int i1, .int i2]) hX gi (zt_X8_fromOf (d := d - 1) (by omega) g) zl_X2_195 rfl dX2_goThrough_20 ⟨rfl, rfl, Nat.le_of_ble_eq_true rfl⟩ ⟨by omega, by omega⟩ ?_
  refine zw_istore hX dX2_goThrough_23 (by decide) ?_
  obtain ⟨r, g, h⟩ := zb_some h
  refine zw_sub (lv' := [(0, .ref a0), (1, .int i1), (3, .int i3), (4, .int (0 : Int32)), (5, .int r3.1), (6, .int r6.1)]) (List.forall_mem_cons.mpr ⟨rfl, (List.forall_mem_cons.mpr ⟨rfl, (List.forall_mem_cons.mpr ⟨rfl, (List.forall_mem_cons.mpr ⟨rfl, (List.forall_mem_cons.mpr ⟨rfl, (List.forall_mem_cons.mpr ⟨rfl, zs_nil⟩)⟩)⟩)⟩)⟩)⟩) ?_
  refine zt_X2_goThrough_L25 hX hr hR hd (res := r) (out := out) a0 i1 i3 r3.1 ?_ ?_ N _ _ _ g
  · intro o ho
    subst ho
    exact Option.some.inj h
  · intro v24 S23 hx
    subst hx
    try dsimp only at h
    refine zw_iload hX dX2_goThrough_133 rfl ?_
    by_cases cz : v24 = 0 ∨ v24 = 1
    · rw [if_pos cz] at h
      obtain rfl := Option.some.inj h
      exact zw_iret hX hr dX2_goThrough_135 (zn_z cz) ⟨rfl, rfl⟩
    · rw [if_neg cz] at h
      cases h
set_option maxHeartbeats 4000000 in
set_option maxRecDepth 100000 in
theorem zt_X2_doorsOnWay_J106 {p : Program} {l : Launch} {e : Env} {R : Room} {s : State} {m : MethodId} {args : Array Value} {below : List Frame} {meth : Method} {c : Code} {V : zm_V} {mc ms d rc rs : Nat} (hX : zm_X p R s m args meth c RX2 "doorsOnWay" cX2_doorsOnWay 7 zk_E V mc ms) (hr : meth.sig.returnType = (some .int)) (hR : R.frames = d ∧ R.locals = 64 * d) (hd : 5 ≤ d) {N : Nat} {k : Nat → Int32 → Int32 → Int32 → Int32 → Int32 → zm_S → Option ((Int32 × zm_S) ⊕ ((Int32) × zm_S))} {a0 : Nat} {i2 : Int32} {i4 : Int32} {i5 : Int32} {i6 : Int32} {res : (Int32 × zm_S) ⊕ ((Int32) × zm_S)} {out : (Int32 × zm_S)}   (hf : ∀ o, res = .inl o → o = out) (hk : ∀ (x3 : Int32) (S' : zm_S), res = .inr (x3, S') → zw p l e R s m args below meth c (vx_MQ below (zm_Qc zk_E V (zo_i out)) (zm_XC zk_E V zo_x) args s mc ms (fun q => V.2.2.2.1 ≤ q)) 7 zk_E V mc ms 118 [(0, .ref a0), (2, .int i2), (3, .int x3), (4, .int i4), (5, .int i5)] [] S' rc rs) (hrec : ∀ (i3' : Int32) (i6' : Int32) (S : zm_S), k a0 i2 i3' i4 i5 i6' S = some res → zw p l e R s m args below meth c (vx_MQ below (zm_Qc zk_E V (zo_i out)) (zm_XC zk_E V zo_x) args s mc ms (fun q => V.2.2.2.1 ≤ q)) 7 zk_E V mc ms 74 [(0, .ref a0), (2, .int i2), (3, .int i3'), (4, .int i4), (5, .int i5), (6, .int i6')] [] S rc rs) {S : zm_S} (h : zf_X2_doorsOnWay_J106 N k a0 i2 i4 i5 i6 S = some res) : zw p l e R s m args below meth c (vx_MQ below (zm_Qc zk_E V (zo_i out)) (zm_XC zk_E V zo_x) args s mc ms (fun q => V.2.2.2.1 ≤ q)) 7 zk_E V mc ms 106 [(0, .ref a0), (2, .int i2), (4, .int i4), (5, .int i5), (6, .int i6)] [] S rc rs := by
  unfold zf_X2_doorsOnWay_J106 at h
  refine zw_iconst (v := (1 : Int32)) hX dX2_doorsOnWay_106 (by decide) ?_
  refine zw_goto (tgt := 111) hX dX2_doorsOnWay_107 (by decide) ?_
  refine zw_istore_n hX dX2_doorsOnWay_111 (by decide) ?_
  refine zw_iinc (v := (i6 + (1 : Int32))) hX dX2_doorsOnWay_112 rfl rfl (by decide) ?_
  refine zw_goto (tgt := 74) hX dX2_doorsOnWay_115 (by decide) ?_
  refine zw_sub (lv' := [(0, .ref a0), (2, .int i2), (3, .int (1 : Int32)), (4, .int i4), (5, .int i5), (6, .int (i6 + (1 : Int32)))]) (List.forall_mem_cons.mpr ⟨rfl, (List.forall_mem_cons.mpr ⟨rfl, (List.forall_mem_cons.mpr ⟨rfl, (List.forall_mem_cons.mpr ⟨rfl, (List.forall_mem_cons.mpr ⟨rfl, (List.forall_mem_cons.mpr ⟨rfl, zs_nil⟩)⟩)⟩)⟩)⟩)⟩) ?_
  exact hrec _ _ _ h
set_option maxHeartbeats 4000000 in
set_option maxRecDepth 100000 in
theorem zt_X2_doorsOnWay_L74 {p : Program} {l : Launch} {e : Env} {R : Room} {s : State} {m : MethodId} {args : Array Value} {below : List Frame} {meth : Method} {c : Code} {V : zm_V} {mc ms d rc rs : Nat} (hX : zm_X p R s m args meth c RX2 "doorsOnWay" cX2_doorsOnWay 7 zk_E V mc ms) (hr : meth.sig.returnType = (some .int)) (hR : R.frames = d ∧ R.locals = 64 * d) (hd : 5 ≤ d) {N : Nat} {res : (Int32 × zm_S) ⊕ ((Int32) × zm_S)} {out : (Int32 × zm_S)} (a0 : Nat) (i2 : Int32) (i4 : Int32) (i5 : Int32) (hf : ∀ o, res = .inl o → o = out) (hk : ∀ (x3 : Int32) (S' : zm_S), res = .inr (x3, S') → zw p l e R s m args below meth c (vx_MQ below (zm_Qc zk_E V (zo_i out)) (zm_XC zk_E V zo_x) args s mc ms (fun q => V.2.2.2.1 ≤ q)) 7 zk_E V mc ms 118 [(0, .ref a0), (2, .int i2), (3, .int x3), (4, .int i4), (5, .int i5)] [] S' rc rs) : ∀ (n : Nat) (i3 : Int32) (i6 : Int32) (S : zm_S), zf_X2_doorsOnWay_L74 N n a0 i2 i3 i4 i5 i6 S = some res → zw p l e R s m args below meth c (vx_MQ below (zm_Qc zk_E V (zo_i out)) (zm_XC zk_E V zo_x) args s mc ms (fun q => V.2.2.2.1 ≤ q)) 7 zk_E V mc ms 74 [(0, .ref a0), (2, .int i2), (3, .int i3), (4, .int i4), (5, .int i5), (6, .int i6)] [] S rc rs := by
  intro n
  induction n with
  | zero => intro i3 i6 S h; cases h
  | succ n ih =>
    intro i3 i6 S h
    rw [zf_X2_doorsOnWay_L74] at h
    refine zw_iload hX dX2_doorsOnWay_74 rfl ?_
    refine zw_aload_n hX dX2_doorsOnWay_76 rfl ?_
    obtain ⟨b12, g, h⟩ := zb_some h
    refine zw_getr hX zl_X2_54 dX2_doorsOnWay_77 g ?_
    obtain ⟨b13, g, h⟩ := zb_some h
    refine zw_getNr hX zl_X2_185 dX2_doorsOnWay_80 g ?_
    refine zw_iload hX dX2_doorsOnWay_83 rfl ?_
    obtain ⟨v14, g, h⟩ := zb_some h
    refine zw_xi hX dX2_doorsOnWay_85 g ?_
    refine zw_icmp_ge (tgt := 118) hX dX2_doorsOnWay_86 (by decide) (fun c86 => ?_) (fun c86 => ?_)
    · rw [if_pos c86] at h
      refine zw_sub (lv' := [(0, .ref a0), (2, .int i2), (3, .int i3), (4, .int i4), (5, .int i5)]) (List.forall_mem_cons.mpr ⟨rfl, (List.forall_mem_cons.mpr ⟨rfl, (List.forall_mem_cons.mpr ⟨rfl, (List.forall_mem_cons.mpr ⟨rfl, (List.forall_mem_cons.mpr ⟨rfl, zs_nil⟩)⟩)⟩)⟩)⟩) ?_
      exact hk _ _ (Option.some.inj h).symm
    · rw [if_neg c86] at h
      refine zw_aload_n hX dX2_doorsOnWay_89 rfl ?_
      refine zw_iload hX dX2_doorsOnWay_90 rfl ?_
      refine zw_iload hX dX2_doorsOnWay_92 rfl ?_
      refine zw_iload hX dX2_doorsOnWay_94 rfl ?_
      obtain ⟨_, gi, h⟩ := zb_some h
      obtain ⟨r16, g, h⟩ := zb_some h
      refine zc_Vi (as := [.int i5, .int i6, .int i4]) hX gi (zt_X2_goThrough (d := d - 1) (by omega) g) zl_X2_188 rfl dX2_doorsOnWay_96 ⟨rfl, rfl, Nat.le_of_ble_eq_true rfl⟩ ⟨by omega, by omega⟩ ?_
      refine zw_if_ne (tgt := 106) hX dX2_doorsOnWay_99 (by decide) (fun c99 => ?_) (fun c99 => ?_)
      · rw [if_neg c99] at h
        refine zw_sub (lv' := [(0, .ref a0), (2, .int i2), (4, .int i4), (5, .int i5), (6, .int i6)]) (List.forall_mem_cons.mpr ⟨rfl, (List.forall_mem_cons.mpr ⟨rfl, (List.forall_mem_cons.mpr ⟨rfl, (List.forall_mem_cons.mpr ⟨rfl, (List.forall_mem_cons.mpr ⟨rfl, zs_nil⟩)⟩)⟩)⟩)⟩) ?_
        exact zt_X2_doorsOnWay_J106 hX hr hR hd hf hk ih h
      · rw [if_pos c99] at h
        refine zw_iload_n hX dX2_doorsOnWay_102 rfl ?_
        refine zw_if_eq (tgt := 110) hX dX2_doorsOnWay_103 (by decide) (fun c103 => ?_) (fun c103 => ?_)
        · rw [if_pos c103] at h
          refine zw_iconst (v := (0 : Int32)) hX dX2_doorsOnWay_110 (by decide) ?_
          refine zw_istore_n hX dX2_doorsOnWay_111 (by decide) ?_
          refine zw_iinc (v := (i6 + (1 : Int32))) hX dX2_doorsOnWay_112 rfl rfl (by decide) ?_
          refine zw_goto (tgt := 74) hX dX2_doorsOnWay_115 (by decide) ?_
          refine zw_sub (lv' := [(0, .ref a0), (2, .int i2), (3, .int (0 : Int32)), (4, .int i4), (5, .int i5), (6, .int (i6 + (1 : Int32)))]) (List.forall_mem_cons.mpr ⟨rfl, (List.forall_mem_cons.mpr ⟨rfl, (List.forall_mem_cons.mpr ⟨rfl, (List.forall_mem_cons.mpr ⟨rfl, (List.forall_mem_cons.mpr ⟨rfl, (List.forall_mem_cons.mpr ⟨rfl, zs_nil⟩)⟩)⟩)⟩)⟩)⟩) ?_
          exact ih _ _ _ h
        · rw [if_neg c103] at h
          refine zw_sub (lv' := [(0, .ref a0), (2, .int i2), (4, .int i4), (5, .int i5), (6, .int i6)]) (List.forall_mem_cons.mpr ⟨rfl, (List.forall_mem_cons.mpr ⟨rfl, (List.forall_mem_cons.mpr ⟨rfl, (List.forall_mem_cons.mpr ⟨rfl, (List.forall_mem_cons.mpr ⟨rfl, zs_nil⟩)⟩)⟩)⟩)⟩) ?_
          exact zt_X2_doorsOnWay_J106 hX hr hR hd hf hk ih h
set_option maxHeartbeats 4000000 in
set_option maxRecDepth 100000 in
theorem zt_X2_doorsOnWay_L59 {p : Program} {l : Launch} {e : Env} {R : Room} {s : State} {m : MethodId} {args : Array Value} {below : List Frame} {meth : Method} {c : Code} {V : zm_V} {mc ms d rc rs : Nat} (hX : zm_X p R s m args meth c RX2 "doorsOnWay" cX2_doorsOnWay 7 zk_E V mc ms) (hr : meth.sig.returnType = (some .int)) (hR : R.frames = d ∧ R.locals = 64 * d) (hd : 5 ≤ d) {N : Nat} {res : (Int32 × zm_S) ⊕ ((Int32) × zm_S)} {out : (Int32 × zm_S)} (a0 : Nat) (i2 : Int32) (i4 : Int32) (hf : ∀ o, res = .inl o → o = out) (hk : ∀ (x3 : Int32) (S' : zm_S), res = .inr (x3, S') → zw p l e R s m args below meth c (vx_MQ below (zm_Qc zk_E V (zo_i out)) (zm_XC zk_E V zo_x) args s mc ms (fun q => V.2.2.2.1 ≤ q)) 7 zk_E V mc ms 124 [(0, .ref a0), (2, .int i2), (3, .int x3), (4, .int i4)] [] S' rc rs) : ∀ (n : Nat) (i3 : Int32) (i5 : Int32) (S : zm_S), zf_X2_doorsOnWay_L59 N n a0 i2 i3 i4 i5 S = some res → zw p l e R s m args below meth c (vx_MQ below (zm_Qc zk_E V (zo_i out)) (zm_XC zk_E V zo_x) args s mc ms (fun q => V.2.2.2.1 ≤ q)) 7 zk_E V mc ms 59 [(0, .ref a0), (2, .int i2), (3, .int i3), (4, .int i4), (5, .int i5)] [] S rc rs := by
  intro n
  induction n with
  | zero => intro i3 i5 S h; cases h
  | succ n ih =>
    intro i3 i5 S h
    rw [zf_X2_doorsOnWay_L59] at h
    refine zw_iload hX dX2_doorsOnWay_59 rfl ?_
    refine zw_aload_n hX dX2_doorsOnWay_61 rfl ?_
    obtain ⟨b10, g, h⟩ := zb_some h
    refine zw_getr hX zl_X2_54 dX2_doorsOnWay_62 g ?_
    obtain ⟨v11, g, h⟩ := zb_some h
    refine zw_getNi hX zl_X2_94 dX2_doorsOnWay_65 g ?_
    refine zw_icmp_ge (tgt := 124) hX dX2_doorsOnWay_68 (by decide) (fun c68 => ?_) (fun c68 => ?_)
    · rw [if_pos c68] at h
      refine zw_sub (lv' := [(0, .ref a0), (2, .int i2), (3, .int i3), (4, .int i4)]) (List.forall_mem_cons.mpr ⟨rfl, (List.forall_mem_cons.mpr ⟨rfl, (List.forall_mem_cons.mpr ⟨rfl, (List.forall_mem_cons.mpr ⟨rfl, zs_nil⟩)⟩)⟩)⟩) ?_
      exact hk _ _ (Option.some.inj h).symm
    · rw [if_neg c68] at h
      refine zw_iconst (v := (0 : Int32)) hX dX2_doorsOnWay_71 (by decide) ?_
      refine zw_istore hX dX2_doorsOnWay_72 (by decide) ?_
      obtain ⟨r, g, h⟩ := zb_some h
      refine zw_sub (lv' := [(0, .ref a0), (2, .int i2), (3, .int i3), (4, .int i4), (5, .int i5), (6, .int (0 : Int32))]) (List.forall_mem_cons.mpr ⟨rfl, (List.forall_mem_cons.mpr ⟨rfl, (List.forall_mem_cons.mpr ⟨rfl, (List.forall_mem_cons.mpr ⟨rfl, (List.forall_mem_cons.mpr ⟨rfl, (List.forall_mem_cons.mpr ⟨rfl, zs_nil⟩)⟩)⟩)⟩)⟩)⟩) ?_
      refine zt_X2_doorsOnWay_L74 hX hr hR hd (res := r) (out := out) a0 i2 i4 i5 ?_ ?_ N _ _ _ g
      · intro o ho
        subst ho
        exact hf _ (Option.some.inj h).symm
      · intro v18 S17 hx
        subst hx
        try dsimp only at h
        refine zw_iinc (v := (i5 + (1 : Int32))) hX dX2_doorsOnWay_118 rfl rfl (by decide) ?_
        refine zw_goto (tgt := 59) hX dX2_doorsOnWay_121 (by decide) ?_
        refine zw_sub (lv' := [(0, .ref a0), (2, .int i2), (3, .int v18), (4, .int i4), (5, .int (i5 + (1 : Int32)))]) (List.forall_mem_cons.mpr ⟨rfl, (List.forall_mem_cons.mpr ⟨rfl, (List.forall_mem_cons.mpr ⟨rfl, (List.forall_mem_cons.mpr ⟨rfl, (List.forall_mem_cons.mpr ⟨rfl, zs_nil⟩)⟩)⟩)⟩)⟩) ?_
        exact ih _ _ _ h
set_option maxHeartbeats 4000000 in
set_option maxRecDepth 100000 in
theorem zt_X2_doorsOnWay_L29 {p : Program} {l : Launch} {e : Env} {R : Room} {s : State} {m : MethodId} {args : Array Value} {below : List Frame} {meth : Method} {c : Code} {V : zm_V} {mc ms d rc rs : Nat} (hX : zm_X p R s m args meth c RX2 "doorsOnWay" cX2_doorsOnWay 7 zk_E V mc ms) (hr : meth.sig.returnType = (some .int)) (hR : R.frames = d ∧ R.locals = 64 * d) (hd : 5 ≤ d) {N : Nat} {res : (Int32 × zm_S) ⊕ ((Unit) × zm_S)} {out : (Int32 × zm_S)} (a0 : Nat) (i2 : Int32) (hf : ∀ o, res = .inl o → o = out) (hk : ∀ (S' : zm_S), res = .inr ((), S') → zw p l e R s m args below meth c (vx_MQ below (zm_Qc zk_E V (zo_i out)) (zm_XC zk_E V zo_x) args s mc ms (fun q => V.2.2.2.1 ≤ q)) 7 zk_E V mc ms 130 [(0, .ref a0), (2, .int i2)] [] S' rc rs) : ∀ (n : Nat) (i3 : Int32) (i4 : Int32) (S : zm_S), zf_X2_doorsOnWay_L29 N n a0 i2 i3 i4 S = some res → zw p l e R s m args below meth c (vx_MQ below (zm_Qc zk_E V (zo_i out)) (zm_XC zk_E V zo_x) args s mc ms (fun q => V.2.2.2.1 ≤ q)) 7 zk_E V mc ms 29 [(0, .ref a0), (2, .int i2), (3, .int i3), (4, .int i4)] [] S rc rs := by
  intro n
  induction n with
  | zero => intro i3 i4 S h; cases h
  | succ n ih =>
    intro i3 i4 S h
    rw [zf_X2_doorsOnWay_L29] at h
    refine zw_iload hX dX2_doorsOnWay_29 rfl ?_
    refine zw_aload_n hX dX2_doorsOnWay_31 rfl ?_
    obtain ⟨v7, g, h⟩ := zb_some h
    refine zw_geti hX zl_X2_58 dX2_doorsOnWay_32 g ?_
    refine zw_icmp_gt (tgt := 130) hX dX2_doorsOnWay_35 (by decide) (fun c35 => ?_) (fun c35 => ?_)
    · rw [if_pos c35] at h
      refine zw_sub (lv' := [(0, .ref a0), (2, .int i2)]) (List.forall_mem_cons.mpr ⟨rfl, (List.forall_mem_cons.mpr ⟨rfl, zs_nil⟩)⟩) ?_
      exact hk  _ (Option.some.inj h).symm
    · rw [if_neg c35] at h
      refine zw_iload_n hX dX2_doorsOnWay_38 rfl ?_
      refine zw_if_eq (tgt := 130) hX dX2_doorsOnWay_39 (by decide) (fun c39 => ?_) (fun c39 => ?_)
      · rw [if_pos c39] at h
        refine zw_sub (lv' := [(0, .ref a0), (2, .int i2)]) (List.forall_mem_cons.mpr ⟨rfl, (List.forall_mem_cons.mpr ⟨rfl, zs_nil⟩)⟩) ?_
        exact hk  _ (Option.some.inj h).symm
      · rw [if_neg c39] at h
        refine zw_aload_n hX dX2_doorsOnWay_42 rfl ?_
        obtain ⟨b8, g, h⟩ := zb_some h
        refine zw_getr hX zl_X2_48 dX2_doorsOnWay_43 g ?_
        refine zw_iload_n hX dX2_doorsOnWay_46 rfl ?_
        refine zw_iconst (v := (1 : Int32)) hX dX2_doorsOnWay_47 (by decide) ?_
        refine zw_iadd hX dX2_doorsOnWay_48 ?_
        obtain ⟨v9, g, h⟩ := zb_some h
        refine zw_xi hX dX2_doorsOnWay_49 g ?_
        refine zw_iconst (v := (-1 : Int32)) hX dX2_doorsOnWay_50 (by decide) ?_
        refine zw_icmp_ne (tgt := 130) hX dX2_doorsOnWay_51 (by decide) (fun c51 => ?_) (fun c51 => ?_)
        · rw [if_neg c51] at h
          refine zw_sub (lv' := [(0, .ref a0), (2, .int i2)]) (List.forall_mem_cons.mpr ⟨rfl, (List.forall_mem_cons.mpr ⟨rfl, zs_nil⟩)⟩) ?_
          exact hk  _ (Option.some.inj h).symm
        · rw [if_pos c51] at h
          refine zw_iconst (v := (0 : Int32)) hX dX2_doorsOnWay_54 (by decide) ?_
          refine zw_istore_n hX dX2_doorsOnWay_55 (by decide) ?_
          refine zw_iconst (v := (0 : Int32)) hX dX2_doorsOnWay_56 (by decide) ?_
          refine zw_istore hX dX2_doorsOnWay_57 (by decide) ?_
          obtain ⟨r, g, h⟩ := zb_some h
          refine zw_sub (lv' := [(0, .ref a0), (2, .int i2), (3, .int (0 : Int32)), (4, .int i4), (5, .int (0 : Int32))]) (List.forall_mem_cons.mpr ⟨rfl, (List.forall_mem_cons.mpr ⟨rfl, (List.forall_mem_cons.mpr ⟨rfl, (List.forall_mem_cons.mpr ⟨rfl, (List.forall_mem_cons.mpr ⟨rfl, zs_nil⟩)⟩)⟩)⟩)⟩) ?_
          refine zt_X2_doorsOnWay_L59 hX hr hR hd (res := r) (out := out) a0 i2 i4 ?_ ?_ N _ _ _ g
          · intro o ho
            subst ho
            exact hf _ (Option.some.inj h).symm
          · intro v20 S19 hx
            subst hx
            try dsimp only at h
            refine zw_iinc (v := (i4 + (1 : Int32))) hX dX2_doorsOnWay_124 rfl rfl (by decide) ?_
            refine zw_goto (tgt := 29) hX dX2_doorsOnWay_127 (by decide) ?_
            refine zw_sub (lv' := [(0, .ref a0), (2, .int i2), (3, .int v20), (4, .int (i4 + (1 : Int32)))]) (List.forall_mem_cons.mpr ⟨rfl, (List.forall_mem_cons.mpr ⟨rfl, (List.forall_mem_cons.mpr ⟨rfl, (List.forall_mem_cons.mpr ⟨rfl, zs_nil⟩)⟩)⟩)⟩) ?_
            exact ih _ _ _ h
set_option maxHeartbeats 4000000 in
set_option maxRecDepth 100000 in
theorem zt_X2_doorsOnWay_J130 {p : Program} {l : Launch} {e : Env} {R : Room} {s : State} {m : MethodId} {args : Array Value} {below : List Frame} {meth : Method} {c : Code} {V : zm_V} {mc ms d rc rs : Nat} (hX : zm_X p R s m args meth c RX2 "doorsOnWay" cX2_doorsOnWay 7 zk_E V mc ms) (hr : meth.sig.returnType = (some .int)) (hR : R.frames = d ∧ R.locals = 64 * d) (hd : 5 ≤ d) {N : Nat} {a0 : Nat} {i2 : Int32} {out : (Int32 × zm_S)} {S : zm_S} (h : zf_X2_doorsOnWay_J130 N a0 i2 S = some out) : zw p l e R s m args below meth c (vx_MQ below (zm_Qc zk_E V (zo_i out)) (zm_XC zk_E V zo_x) args s mc ms (fun q => V.2.2.2.1 ≤ q)) 7 zk_E V mc ms 130 [(0, .ref a0), (2, .int i2)] [] S rc rs := by
  unfold zf_X2_doorsOnWay_J130 at h
  refine zw_aload_n hX dX2_doorsOnWay_130 rfl ?_
  obtain ⟨b22, g, h⟩ := zb_some h
  refine zw_getr hX zl_X2_48 dX2_doorsOnWay_131 g ?_
  refine zw_iload_n hX dX2_doorsOnWay_134 rfl ?_
  refine zw_iconst (v := (1 : Int32)) hX dX2_doorsOnWay_135 (by decide) ?_
  refine zw_iadd hX dX2_doorsOnWay_136 ?_
  obtain ⟨v23, g, h⟩ := zb_some h
  refine zw_xi hX dX2_doorsOnWay_137 g ?_
  refine zw_iconst (v := (-1 : Int32)) hX dX2_doorsOnWay_138 (by decide) ?_
  refine zw_icmp_ne (tgt := 147) hX dX2_doorsOnWay_139 (by decide) (fun c139 => ?_) (fun c139 => ?_)
  · rw [if_neg c139] at h
    refine zw_aload_n hX dX2_doorsOnWay_147 rfl ?_
    obtain ⟨b24, g, h⟩ := zb_some h
    refine zw_getr hX zl_X2_48 dX2_doorsOnWay_148 g ?_
    refine zw_iload_n hX dX2_doorsOnWay_151 rfl ?_
    refine zw_iconst (v := (1 : Int32)) hX dX2_doorsOnWay_152 (by decide) ?_
    refine zw_iadd hX dX2_doorsOnWay_153 ?_
    obtain ⟨v25, g, h⟩ := zb_some h
    refine zw_xi hX dX2_doorsOnWay_154 g ?_
    obtain rfl := Option.some.inj h
    exact zw_iret hX hr dX2_doorsOnWay_155 rfl ⟨rfl, rfl⟩
  · rw [if_pos c139] at h
    refine zw_bipush (v := (-2 : Int32)) hX dX2_doorsOnWay_142 (by decide) ?_
    refine zw_goto (tgt := 155) hX dX2_doorsOnWay_144 (by decide) ?_
    obtain rfl := Option.some.inj h
    exact zw_iret hX hr dX2_doorsOnWay_155 rfl ⟨rfl, rfl⟩
set_option maxHeartbeats 4000000 in
set_option maxRecDepth 100000 in
theorem zt_X2_doorsOnWay {l : Launch} {V : zm_V} {N : Nat} {S : zm_S} {out : (Int32 × zm_S)} {d : Nat} {a0 : Nat} {i1 : Int32} {i2 : Int32} (hd : 5 ≤ d) (h : zf_X2_doorsOnWay N a0 i1 i2 S = some out) : zm_Met l zk_E V yX2_doorsOnWay (.code yX2_doorsOnWay cX2_doorsOnWay 7 (some .int)) d [.ref a0, .int i1, .int i2] S 0 0 (zo_i out) zo_x := by
  refine zm_of (by decide +kernel) (Nat.le_of_ble_eq_true rfl) ?_
  intro p e R s m args below meth c hRR hX hr hxt
  have hR : R.frames = d ∧ R.locals = 64 * d := by rw [hRR]; exact ⟨rfl, rfl⟩
  have hX : zm_X p R s m args meth c RX2 "doorsOnWay" cX2_doorsOnWay 7 zk_E V 0 0 := hX
  unfold zf_X2_doorsOnWay at h
  refine zw_sub (lv' := [(0, .ref a0), (1, .int i1), (2, .int i2)]) (List.forall_mem_cons.mpr ⟨rfl, (List.forall_mem_cons.mpr ⟨rfl, (List.forall_mem_cons.mpr ⟨rfl, zs_nil⟩)⟩)⟩) ?_
  refine zw_aload_n hX dX2_doorsOnWay_0 rfl ?_
  obtain ⟨b1, g, h⟩ := zb_some h
  refine zw_getr hX zl_X2_48 dX2_doorsOnWay_1 g ?_
  refine zw_iconst (v := (0 : Int32)) hX dX2_doorsOnWay_4 (by decide) ?_
  refine zw_aload_n hX dX2_doorsOnWay_5 rfl ?_
  obtain ⟨v2, g, h⟩ := zb_some h
  refine zw_geti hX zl_X2_58 dX2_doorsOnWay_6 g ?_
  refine zw_iconst (v := (1 : Int32)) hX dX2_doorsOnWay_9 (by decide) ?_
  refine zw_iadd hX dX2_doorsOnWay_10 ?_
  refine zw_iconst (v := (-1 : Int32)) hX dX2_doorsOnWay_11 (by decide) ?_
  obtain ⟨r4, g, h⟩ := zb_some h
  refine zc_Sv (as := [.ref b1, .int (0 : Int32), .int (v2 + (1 : Int32)), .int (-1 : Int32)]) hX (zt_J7_fill_fda19 (d := d - 1) (by omega) g) zl_X2_176 dX2_doorsOnWay_12 ⟨rfl, rfl, Nat.le_of_ble_eq_true rfl⟩ ⟨by omega, by omega⟩ ?_
  refine zw_aload_n hX dX2_doorsOnWay_15 rfl ?_
  obtain ⟨b5, g, h⟩ := zb_some h
  refine zw_getr hX zl_X2_48 dX2_doorsOnWay_16 g ?_
  refine zw_iload_n hX dX2_doorsOnWay_19 rfl ?_
  refine zw_iconst (v := (1 : Int32)) hX dX2_doorsOnWay_20 (by decide) ?_
  refine zw_iadd hX dX2_doorsOnWay_21 ?_
  refine zw_iconst (v := (0 : Int32)) hX dX2_doorsOnWay_22 (by decide) ?_
  obtain ⟨S6, g, h⟩ := zb_some h
  refine zw_si hX dX2_doorsOnWay_23 g ?_
  refine zw_iconst (v := (1 : Int32)) hX dX2_doorsOnWay_24 (by decide) ?_
  refine zw_istore_n hX dX2_doorsOnWay_25 (by decide) ?_
  refine zw_iconst (v := (0 : Int32)) hX dX2_doorsOnWay_26 (by decide) ?_
  refine zw_istore hX dX2_doorsOnWay_27 (by decide) ?_
  obtain ⟨r, g, h⟩ := zb_some h
  refine zw_sub (lv' := [(0, .ref a0), (2, .int i2), (3, .int (1 : Int32)), (4, .int (0 : Int32))]) (List.forall_mem_cons.mpr ⟨rfl, (List.forall_mem_cons.mpr ⟨rfl, (List.forall_mem_cons.mpr ⟨rfl, (List.forall_mem_cons.mpr ⟨rfl, zs_nil⟩)⟩)⟩)⟩) ?_
  refine zt_X2_doorsOnWay_L29 hX hr hR hd (res := r) (out := out) a0 i2 ?_ ?_ N _ _ _ g
  · intro o ho
    subst ho
    exact Option.some.inj h
  · intro  S21 hx
    subst hx
    try dsimp only at h
    refine zw_sub (lv' := [(0, .ref a0), (2, .int i2)]) (List.forall_mem_cons.mpr ⟨rfl, (List.forall_mem_cons.mpr ⟨rfl, zs_nil⟩)⟩) ?_
    exact zt_X2_doorsOnWay_J130 hX hr hR hd h
set_option maxHeartbeats 4000000 in
set_option maxRecDepth 100000 in
theorem zt_X3_init {l : Launch} {V : zm_V} {N : Nat} {S : zm_S} {out : (Unit × zm_S)} {d : Nat} {a0 : Nat} (hd : 2 ≤ d) (h : zf_X3_init N a0 S = some out) : zm_Met l zk_E V yX3_init (.code yX3_init cX3_init 1 none) d [.ref a0] S 818 3920 (zo_v out) zo_x := by
  refine zm_of (by decide +kernel) (Nat.le_of_ble_eq_true rfl) ?_
  intro p e R s m args below meth c hRR hX hr hxt
  have hR : R.frames = d ∧ R.locals = 64 * d := by rw [hRR]; exact ⟨rfl, rfl⟩
  have hX : zm_X p R s m args meth c RX3 "<init>" cX3_init 1 zk_E V 818 3920 := hX
  unfold zf_X3_init at h
  refine zw_sub (lv' := [(0, .ref a0)]) (List.forall_mem_cons.mpr ⟨rfl, zs_nil⟩) ?_
  refine zw_aload_n hX dX3_init_0 rfl ?_
  refine zw_objInit hX zl_X3_3.1 zl_X3_3.2.1 zl_X3_3.2.2 dX3_init_1 (by omega) (by show 0 + 12 ≤ R.locals; omega) ?_
  refine zw_aload_n hX dX3_init_4 rfl ?_
  refine zw_iconst (v := (4 : Int32)) hX dX3_init_5 (by decide) ?_
  refine zw_bipush (v := (6 : Int32)) hX dX3_init_6 (by decide) ?_
  obtain ⟨S1, g, h⟩ := zb_some h
  refine zw_mnao (N := 4) (K := 6) (t1 := 4) (t2 := 0) (ty := .int) hX rfl rfl zl_X3_11 (by decide +kernel) (Or.inl rfl) zk_ai dX3_init_8 (fun _ _ => rfl) (by decide) (by decide) rfl rfl (Nat.le_of_ble_eq_true rfl) (Nat.le_of_ble_eq_true rfl) (Nat.le_of_ble_eq_true rfl) rfl rfl (fun _ h => by cases h) (by omega) (by omega) g ?_
  obtain ⟨S2, g, h⟩ := zb_some h
  refine zw_putvF hX zl_X3_13 zt_3_1 dX3_init_12 rfl rfl g ?_
  refine zw_aload_n hX dX3_init_15 rfl ?_
  refine zw_sipush (v := (400 : Int32)) hX dX3_init_16 (by decide) ?_
  refine zw_iconst (v := (3 : Int32)) hX dX3_init_19 (by decide) ?_
  obtain ⟨S3, g, h⟩ := zb_some h
  refine zw_mnao (N := 400) (K := 3) (t1 := 4) (t2 := 0) (ty := .int) hX rfl rfl zl_X3_11 (by decide +kernel) (Or.inl rfl) zk_ai dX3_init_20 (fun _ _ => rfl) (by decide) (by decide) rfl rfl (Nat.le_of_ble_eq_true rfl) (Nat.le_of_ble_eq_true rfl) (Nat.le_of_ble_eq_true rfl) rfl rfl (fun _ h => by cases h) (by omega) (by omega) g ?_
  obtain ⟨S4, g, h⟩ := zb_some h
  refine zw_putvF hX zl_X3_16 zt_3_3 dX3_init_24 rfl rfl g ?_
  refine zw_aload_n hX dX3_init_27 rfl ?_
  refine zw_bipush (v := (6 : Int32)) hX dX3_init_28 (by decide) ?_
  obtain ⟨S5, g, h⟩ := zb_some h
  refine zw_ni (b := 6) hX zk_ai dX3_init_30 (by omega) (by omega) (by decide) g ?_
  obtain ⟨S6, g, h⟩ := zb_some h
  refine zw_putvF hX zl_X3_19 zt_3_5 dX3_init_32 rfl rfl g ?_
  refine zw_aload_n hX dX3_init_35 rfl ?_
  refine zw_sipush (v := (400 : Int32)) hX dX3_init_36 (by decide) ?_
  refine zw_iconst (v := (4 : Int32)) hX dX3_init_39 (by decide) ?_
  obtain ⟨S7, g, h⟩ := zb_some h
  refine zw_mnao (N := 400) (K := 4) (t1 := 4) (t2 := 0) (ty := .int) hX rfl rfl zl_X3_11 (by decide +kernel) (Or.inl rfl) zk_ai dX3_init_40 (fun _ _ => rfl) (by decide) (by decide) rfl rfl (Nat.le_of_ble_eq_true rfl) (Nat.le_of_ble_eq_true rfl) (Nat.le_of_ble_eq_true rfl) rfl rfl (fun _ h => by cases h) (by omega) (by omega) g ?_
  obtain ⟨S8, g, h⟩ := zb_some h
  refine zw_putvF hX zl_X3_23 zt_3_6 dX3_init_44 rfl rfl g ?_
  refine zw_aload_n hX dX3_init_47 rfl ?_
  refine zw_bipush (v := (6 : Int32)) hX dX3_init_48 (by decide) ?_
  obtain ⟨S9, g, h⟩ := zb_some h
  refine zw_ni (b := 6) hX zk_ai dX3_init_50 (by omega) (by omega) (by decide) g ?_
  obtain ⟨S10, g, h⟩ := zb_some h
  refine zw_putvF hX zl_X3_26 zt_3_8 dX3_init_52 rfl rfl g ?_
  refine zw_aload_n hX dX3_init_55 rfl ?_
  refine zw_iconst (v := (4 : Int32)) hX dX3_init_56 (by decide) ?_
  refine zw_bipush (v := (64 : Int32)) hX dX3_init_57 (by decide) ?_
  obtain ⟨S11, g, h⟩ := zb_some h
  refine zw_mnao (N := 4) (K := 64) (t1 := 5) (t2 := 1) (ty := .long) hX rfl rfl zl_X3_29 (by decide +kernel) (Or.inr rfl) zk_al dX3_init_59 (fun _ _ => rfl) (by decide) (by decide) rfl rfl (Nat.le_of_ble_eq_true rfl) (Nat.le_of_ble_eq_true rfl) (Nat.le_of_ble_eq_true rfl) rfl rfl (fun _ h => by cases h) (by omega) (by omega) g ?_
  obtain ⟨S12, g, h⟩ := zb_some h
  refine zw_putvF hX zl_X3_31 zt_3_9 dX3_init_63 rfl rfl g ?_
  refine zw_aload_n hX dX3_init_66 rfl ?_
  refine zw_bipush (v := (6 : Int32)) hX dX3_init_67 (by decide) ?_
  obtain ⟨S13, g, h⟩ := zb_some h
  refine zw_ni (b := 6) hX zk_ai dX3_init_69 (by omega) (by omega) (by decide) g ?_
  obtain ⟨S14, g, h⟩ := zb_some h
  refine zw_putvF hX zl_X3_34 zt_3_10 dX3_init_71 rfl rfl g ?_
  refine zw_aload_n hX dX3_init_74 rfl ?_
  refine zw_bipush (v := (6 : Int32)) hX dX3_init_75 (by decide) ?_
  obtain ⟨S15, g, h⟩ := zb_some h
  refine zw_ni (b := 6) hX zk_ai dX3_init_77 (by omega) (by omega) (by decide) g ?_
  obtain ⟨S16, g, h⟩ := zb_some h
  refine zw_putvF hX zl_X3_37 zt_3_11 dX3_init_79 rfl rfl g ?_
  refine zw_aload_n hX dX3_init_82 rfl ?_
  refine zw_iconst (v := (4 : Int32)) hX dX3_init_83 (by decide) ?_
  obtain ⟨S17, g, h⟩ := zb_some h
  refine zw_ni (b := 4) hX zk_ai dX3_init_84 (by omega) (by omega) (by decide) g ?_
  obtain ⟨S18, g, h⟩ := zb_some h
  refine zw_putvF hX zl_X3_40 zt_3_13 dX3_init_86 rfl rfl g ?_
  refine zw_aload_n hX dX3_init_89 rfl ?_
  refine zw_iconst (v := (4 : Int32)) hX dX3_init_90 (by decide) ?_
  obtain ⟨S19, g, h⟩ := zb_some h
  refine zw_ni (b := 4) hX zk_ai dX3_init_91 (by omega) (by omega) (by decide) g ?_
  obtain ⟨S20, g, h⟩ := zb_some h
  refine zw_putvF hX zl_X3_43 zt_3_14 dX3_init_93 rfl rfl g ?_
  obtain rfl := Option.some.inj h
  exact zw_vret hX hr dX3_init_96 ⟨rfl, rfl⟩
set_option maxHeartbeats 4000000 in
set_option maxRecDepth 100000 in
theorem zt_X3_addCar {l : Launch} {V : zm_V} {N : Nat} {S : zm_S} {out : (Int32 × zm_S)} {d : Nat} {a0 : Nat} {i1 : Int32} {i2 : Int32} (hd : 1 ≤ d) (h : zf_X3_addCar N a0 i1 i2 S = some out) : zm_Met l zk_E V yX3_addCar (.code yX3_addCar cX3_addCar 4 (some .int)) d [.ref a0, .int i1, .int i2] S 0 0 (zo_i out) zo_x := by
  refine zm_of (by decide +kernel) (Nat.le_of_ble_eq_true rfl) ?_
  intro p e R s m args below meth c hRR hX hr hxt
  have hR : R.frames = d ∧ R.locals = 64 * d := by rw [hRR]; exact ⟨rfl, rfl⟩
  have hX : zm_X p R s m args meth c RX3 "addCar" cX3_addCar 4 zk_E V 0 0 := hX
  unfold zf_X3_addCar at h
  refine zw_sub (lv' := [(0, .ref a0), (1, .int i1), (2, .int i2)]) (List.forall_mem_cons.mpr ⟨rfl, (List.forall_mem_cons.mpr ⟨rfl, (List.forall_mem_cons.mpr ⟨rfl, zs_nil⟩)⟩)⟩) ?_
  refine zw_aload_n hX dX3_addCar_0 rfl ?_
  obtain ⟨v1, g, h⟩ := zb_some h
  refine zw_geti hX zl_X3_46 dX3_addCar_1 g ?_
  refine zw_iconst (v := (4 : Int32)) hX dX3_addCar_4 (by decide) ?_
  refine zw_icmp_lt (tgt := 10) hX dX3_addCar_5 (by decide) (fun c5 => ?_) (fun c5 => ?_)
  · rw [if_pos c5] at h
    refine zw_aload_n hX dX3_addCar_10 rfl ?_
    obtain ⟨b2, g, h⟩ := zb_some h
    refine zw_getr hX zl_X3_13 dX3_addCar_11 g ?_
    refine zw_aload_n hX dX3_addCar_14 rfl ?_
    obtain ⟨v3, g, h⟩ := zb_some h
    refine zw_geti hX zl_X3_46 dX3_addCar_15 g ?_
    obtain ⟨b4, g, h⟩ := zb_some h
    refine zw_xr hX dX3_addCar_18 g ?_
    refine zw_astore_n hX dX3_addCar_19 (by decide) ?_
    refine zw_aload_n hX dX3_addCar_20 rfl ?_
    refine zw_iconst (v := (0 : Int32)) hX dX3_addCar_21 (by decide) ?_
    refine zw_iload_n hX dX3_addCar_22 rfl ?_
    obtain ⟨S5, g, h⟩ := zb_some h
    refine zw_si hX dX3_addCar_23 g ?_
    refine zw_aload_n hX dX3_addCar_24 rfl ?_
    refine zw_iconst (v := (1 : Int32)) hX dX3_addCar_25 (by decide) ?_
    refine zw_iload_n hX dX3_addCar_26 rfl ?_
    obtain ⟨S6, g, h⟩ := zb_some h
    refine zw_si hX dX3_addCar_27 g ?_
    refine zw_aload_n hX dX3_addCar_28 rfl ?_
    refine zw_iconst (v := (4 : Int32)) hX dX3_addCar_29 (by decide) ?_
    refine zw_bipush (v := (59 : Int32)) hX dX3_addCar_30 (by decide) ?_
    obtain ⟨S7, g, h⟩ := zb_some h
    refine zw_si hX dX3_addCar_32 g ?_
    refine zw_aload_n hX dX3_addCar_33 rfl ?_
    refine zw_iconst (v := (5 : Int32)) hX dX3_addCar_34 (by decide) ?_
    refine zw_iconst (v := (-1 : Int32)) hX dX3_addCar_35 (by decide) ?_
    obtain ⟨S8, g, h⟩ := zb_some h
    refine zw_si hX dX3_addCar_36 g ?_
    refine zw_aload_n hX dX3_addCar_37 rfl ?_
    refine zw_dup hX dX3_addCar_38 rfl ?_
    obtain ⟨v9, g, h⟩ := zb_some h
    refine zw_geti hX zl_X3_46 dX3_addCar_39 g ?_
    refine zw_iconst (v := (1 : Int32)) hX dX3_addCar_42 (by decide) ?_
    refine zw_iadd hX dX3_addCar_43 ?_
    obtain ⟨S10, g, h⟩ := zb_some h
    refine zw_putv hX zl_X3_46 zt_3_0 dX3_addCar_44 rfl rfl g ?_
    refine zw_aload_n hX dX3_addCar_47 rfl ?_
    obtain ⟨v11, g, h⟩ := zb_some h
    refine zw_geti hX zl_X3_46 dX3_addCar_48 g ?_
    refine zw_iconst (v := (1 : Int32)) hX dX3_addCar_51 (by decide) ?_
    refine zw_isub hX dX3_addCar_52 ?_
    obtain rfl := Option.some.inj h
    exact zw_iret hX hr dX3_addCar_53 rfl ⟨rfl, rfl⟩
  · rw [if_neg c5] at h
    refine zw_iconst (v := (-1 : Int32)) hX dX3_addCar_8 (by decide) ?_
    obtain rfl := Option.some.inj h
    exact zw_iret hX hr dX3_addCar_9 rfl ⟨rfl, rfl⟩
set_option maxHeartbeats 4000000 in
set_option maxRecDepth 100000 in
theorem zt_X3_setFree {l : Launch} {V : zm_V} {N : Nat} {S : zm_S} {out : (Unit × zm_S)} {d : Nat} {a0 : Nat} {i1 : Int32} {i2 : Int32} {i3 : Int32} (hd : 1 ≤ d) (h : zf_X3_setFree N a0 i1 i2 i3 S = some out) : zm_Met l zk_E V yX3_setFree (.code yX3_setFree cX3_setFree 4 none) d [.ref a0, .int i1, .int i2, .int i3] S 0 0 (zo_v out) zo_x := by
  refine zm_of (by decide +kernel) (Nat.le_of_ble_eq_true rfl) ?_
  intro p e R s m args below meth c hRR hX hr hxt
  have hR : R.frames = d ∧ R.locals = 64 * d := by rw [hRR]; exact ⟨rfl, rfl⟩
  have hX : zm_X p R s m args meth c RX3 "setFree" cX3_setFree 4 zk_E V 0 0 := hX
  unfold zf_X3_setFree at h
  refine zw_sub (lv' := [(0, .ref a0), (1, .int i1), (2, .int i2), (3, .int i3)]) (List.forall_mem_cons.mpr ⟨rfl, (List.forall_mem_cons.mpr ⟨rfl, (List.forall_mem_cons.mpr ⟨rfl, (List.forall_mem_cons.mpr ⟨rfl, zs_nil⟩)⟩)⟩)⟩) ?_
  refine zw_aload_n hX dX3_setFree_0 rfl ?_
  obtain ⟨b1, g, h⟩ := zb_some h
  refine zw_getr hX zl_X3_13 dX3_setFree_1 g ?_
  refine zw_iload_n hX dX3_setFree_4 rfl ?_
  obtain ⟨b2, g, h⟩ := zb_some h
  refine zw_xr hX dX3_setFree_5 g ?_
  refine zw_iconst (v := (0 : Int32)) hX dX3_setFree_6 (by decide) ?_
  refine zw_iload_n hX dX3_setFree_7 rfl ?_
  obtain ⟨S3, g, h⟩ := zb_some h
  refine zw_si hX dX3_setFree_8 g ?_
  refine zw_aload_n hX dX3_setFree_9 rfl ?_
  obtain ⟨b4, g, h⟩ := zb_some h
  refine zw_getr hX zl_X3_13 dX3_setFree_10 g ?_
  refine zw_iload_n hX dX3_setFree_13 rfl ?_
  obtain ⟨b5, g, h⟩ := zb_some h
  refine zw_xr hX dX3_setFree_14 g ?_
  refine zw_iconst (v := (2 : Int32)) hX dX3_setFree_15 (by decide) ?_
  refine zw_iload_n hX dX3_setFree_16 rfl ?_
  obtain ⟨S6, g, h⟩ := zb_some h
  refine zw_si hX dX3_setFree_17 g ?_
  obtain rfl := Option.some.inj h
  exact zw_vret hX hr dX3_setFree_18 ⟨rfl, rfl⟩
set_option maxHeartbeats 4000000 in
set_option maxRecDepth 100000 in
theorem zt_X3_setSpan {l : Launch} {V : zm_V} {N : Nat} {S : zm_S} {out : (Unit × zm_S)} {d : Nat} {a0 : Nat} {i1 : Int32} {i2 : Int32} {i3 : Int32} (hd : 1 ≤ d) (h : zf_X3_setSpan N a0 i1 i2 i3 S = some out) : zm_Met l zk_E V yX3_setSpan (.code yX3_setSpan cX3_setSpan 4 none) d [.ref a0, .int i1, .int i2, .int i3] S 0 0 (zo_v out) zo_x := by
  refine zm_of (by decide +kernel) (Nat.le_of_ble_eq_true rfl) ?_
  intro p e R s m args below meth c hRR hX hr hxt
  have hR : R.frames = d ∧ R.locals = 64 * d := by rw [hRR]; exact ⟨rfl, rfl⟩
  have hX : zm_X p R s m args meth c RX3 "setSpan" cX3_setSpan 4 zk_E V 0 0 := hX
  unfold zf_X3_setSpan at h
  refine zw_sub (lv' := [(0, .ref a0), (1, .int i1), (2, .int i2), (3, .int i3)]) (List.forall_mem_cons.mpr ⟨rfl, (List.forall_mem_cons.mpr ⟨rfl, (List.forall_mem_cons.mpr ⟨rfl, (List.forall_mem_cons.mpr ⟨rfl, zs_nil⟩)⟩)⟩)⟩) ?_
  refine zw_aload_n hX dX3_setSpan_0 rfl ?_
  obtain ⟨b1, g, h⟩ := zb_some h
  refine zw_getr hX zl_X3_13 dX3_setSpan_1 g ?_
  refine zw_iload_n hX dX3_setSpan_4 rfl ?_
  obtain ⟨b2, g, h⟩ := zb_some h
  refine zw_xr hX dX3_setSpan_5 g ?_
  refine zw_iconst (v := (3 : Int32)) hX dX3_setSpan_6 (by decide) ?_
  refine zw_iload_n hX dX3_setSpan_7 rfl ?_
  obtain ⟨S3, g, h⟩ := zb_some h
  refine zw_si hX dX3_setSpan_8 g ?_
  refine zw_aload_n hX dX3_setSpan_9 rfl ?_
  obtain ⟨b4, g, h⟩ := zb_some h
  refine zw_getr hX zl_X3_13 dX3_setSpan_10 g ?_
  refine zw_iload_n hX dX3_setSpan_13 rfl ?_
  obtain ⟨b5, g, h⟩ := zb_some h
  refine zw_xr hX dX3_setSpan_14 g ?_
  refine zw_iconst (v := (4 : Int32)) hX dX3_setSpan_15 (by decide) ?_
  refine zw_iload_n hX dX3_setSpan_16 rfl ?_
  obtain ⟨S6, g, h⟩ := zb_some h
  refine zw_si hX dX3_setSpan_17 g ?_
  obtain rfl := Option.some.inj h
  exact zw_vret hX hr dX3_setSpan_18 ⟨rfl, rfl⟩
set_option maxHeartbeats 4000000 in
set_option maxRecDepth 100000 in
theorem zt_X3_addCall {l : Launch} {V : zm_V} {N : Nat} {S : zm_S} {out : (Int32 × zm_S)} {d : Nat} {a0 : Nat} {i1 : Int32} {i2 : Int32} {i3 : Int32} (hd : 2 ≤ d) (h : zf_X3_addCall N a0 i1 i2 i3 S = some out) : zm_Met l zk_E V yX3_addCall (.code yX3_addCall cX3_addCall 4 (some .int)) d [.ref a0, .int i1, .int i2, .int i3] S 0 0 (zo_i out) zo_x := by
  refine zm_of (by decide +kernel) (Nat.le_of_ble_eq_true rfl) ?_
  intro p e R s m args below meth c hRR hX hr hxt
  have hR : R.frames = d ∧ R.locals = 64 * d := by rw [hRR]; exact ⟨rfl, rfl⟩
  have hX : zm_X p R s m args meth c RX3 "addCall" cX3_addCall 4 zk_E V 0 0 := hX
  unfold zf_X3_addCall at h
  refine zw_sub (lv' := [(0, .ref a0), (1, .int i1), (2, .int i2), (3, .int i3)]) (List.forall_mem_cons.mpr ⟨rfl, (List.forall_mem_cons.mpr ⟨rfl, (List.forall_mem_cons.mpr ⟨rfl, (List.forall_mem_cons.mpr ⟨rfl, zs_nil⟩)⟩)⟩)⟩) ?_
  refine zw_aload_n hX dX3_addCall_0 rfl ?_
  obtain ⟨v1, g, h⟩ := zb_some h
  refine zw_geti hX zl_X3_50 dX3_addCall_1 g ?_
  refine zw_sipush (v := (400 : Int32)) hX dX3_addCall_4 (by decide) ?_
  refine zw_icmp_ge (tgt := 19) hX dX3_addCall_7 (by decide) (fun c7 => ?_) (fun c7 => ?_)
  · rw [if_pos c7] at h
    refine zw_iconst (v := (-1 : Int32)) hX dX3_addCall_19 (by decide) ?_
    obtain rfl := Option.some.inj h
    exact zw_iret hX hr dX3_addCall_20 rfl ⟨rfl, rfl⟩
  · rw [if_neg c7] at h
    refine zw_aload_n hX dX3_addCall_10 rfl ?_
    obtain ⟨v2, g, h⟩ := zb_some h
    refine zw_geti hX zl_X3_53 dX3_addCall_11 g ?_
    refine zw_bipush (v := (6 : Int32)) hX dX3_addCall_14 (by decide) ?_
    refine zw_icmp_lt (tgt := 21) hX dX3_addCall_16 (by decide) (fun c16 => ?_) (fun c16 => ?_)
    · rw [if_pos c16] at h
      refine zw_aload_n hX dX3_addCall_21 rfl ?_
      obtain ⟨b3, g, h⟩ := zb_some h
      refine zw_getr hX zl_X3_16 dX3_addCall_22 g ?_
      refine zw_aload_n hX dX3_addCall_25 rfl ?_
      obtain ⟨v4, g, h⟩ := zb_some h
      refine zw_geti hX zl_X3_50 dX3_addCall_26 g ?_
      obtain ⟨b5, g, h⟩ := zb_some h
      refine zw_xr hX dX3_addCall_29 g ?_
      refine zw_iconst (v := (0 : Int32)) hX dX3_addCall_30 (by decide) ?_
      refine zw_iload_n hX dX3_addCall_31 rfl ?_
      obtain ⟨S6, g, h⟩ := zb_some h
      refine zw_si hX dX3_addCall_32 g ?_
      refine zw_aload_n hX dX3_addCall_33 rfl ?_
      obtain ⟨b7, g, h⟩ := zb_some h
      refine zw_getr hX zl_X3_16 dX3_addCall_34 g ?_
      refine zw_aload_n hX dX3_addCall_37 rfl ?_
      obtain ⟨v8, g, h⟩ := zb_some h
      refine zw_geti hX zl_X3_50 dX3_addCall_38 g ?_
      obtain ⟨b9, g, h⟩ := zb_some h
      refine zw_xr hX dX3_addCall_41 g ?_
      refine zw_iconst (v := (1 : Int32)) hX dX3_addCall_42 (by decide) ?_
      refine zw_iload_n hX dX3_addCall_43 rfl ?_
      obtain ⟨S10, g, h⟩ := zb_some h
      refine zw_si hX dX3_addCall_44 g ?_
      refine zw_aload_n hX dX3_addCall_45 rfl ?_
      obtain ⟨b11, g, h⟩ := zb_some h
      refine zw_getr hX zl_X3_16 dX3_addCall_46 g ?_
      refine zw_aload_n hX dX3_addCall_49 rfl ?_
      obtain ⟨v12, g, h⟩ := zb_some h
      refine zw_geti hX zl_X3_50 dX3_addCall_50 g ?_
      obtain ⟨b13, g, h⟩ := zb_some h
      refine zw_xr hX dX3_addCall_53 g ?_
      refine zw_iconst (v := (2 : Int32)) hX dX3_addCall_54 (by decide) ?_
      refine zw_iload_n hX dX3_addCall_55 rfl ?_
      obtain ⟨S14, g, h⟩ := zb_some h
      refine zw_si hX dX3_addCall_56 g ?_
      refine zw_aload_n hX dX3_addCall_57 rfl ?_
      obtain ⟨b15, g, h⟩ := zb_some h
      refine zw_getr hX zl_X3_23 dX3_addCall_58 g ?_
      refine zw_aload_n hX dX3_addCall_61 rfl ?_
      obtain ⟨v16, g, h⟩ := zb_some h
      refine zw_geti hX zl_X3_50 dX3_addCall_62 g ?_
      obtain ⟨b17, g, h⟩ := zb_some h
      refine zw_xr hX dX3_addCall_65 g ?_
      refine zw_iconst (v := (-1 : Int32)) hX dX3_addCall_66 (by decide) ?_
      obtain ⟨r19, g, h⟩ := zb_some h
      refine zc_Sv (as := [.ref b17, .int (-1 : Int32)]) hX (zt_J7_fill_53178 (d := d - 1) (by omega) g) zl_X3_56 dX3_addCall_67 ⟨rfl, rfl, Nat.le_of_ble_eq_true rfl⟩ ⟨by omega, by omega⟩ ?_
      refine zw_aload_n hX dX3_addCall_70 rfl ?_
      obtain ⟨b20, g, h⟩ := zb_some h
      refine zw_getr hX zl_X3_19 dX3_addCall_71 g ?_
      refine zw_aload_n hX dX3_addCall_74 rfl ?_
      obtain ⟨v21, g, h⟩ := zb_some h
      refine zw_geti hX zl_X3_53 dX3_addCall_75 g ?_
      refine zw_aload_n hX dX3_addCall_78 rfl ?_
      obtain ⟨v22, g, h⟩ := zb_some h
      refine zw_geti hX zl_X3_50 dX3_addCall_79 g ?_
      obtain ⟨S23, g, h⟩ := zb_some h
      refine zw_si hX dX3_addCall_82 g ?_
      refine zw_aload_n hX dX3_addCall_83 rfl ?_
      refine zw_dup hX dX3_addCall_84 rfl ?_
      obtain ⟨v24, g, h⟩ := zb_some h
      refine zw_geti hX zl_X3_53 dX3_addCall_85 g ?_
      refine zw_iconst (v := (1 : Int32)) hX dX3_addCall_88 (by decide) ?_
      refine zw_iadd hX dX3_addCall_89 ?_
      obtain ⟨S25, g, h⟩ := zb_some h
      refine zw_putv hX zl_X3_53 zt_3_4 dX3_addCall_90 rfl rfl g ?_
      refine zw_aload_n hX dX3_addCall_93 rfl ?_
      refine zw_dup hX dX3_addCall_94 rfl ?_
      obtain ⟨v26, g, h⟩ := zb_some h
      refine zw_geti hX zl_X3_50 dX3_addCall_95 g ?_
      refine zw_iconst (v := (1 : Int32)) hX dX3_addCall_98 (by decide) ?_
      refine zw_iadd hX dX3_addCall_99 ?_
      obtain ⟨S27, g, h⟩ := zb_some h
      refine zw_putv hX zl_X3_50 zt_3_2 dX3_addCall_100 rfl rfl g ?_
      refine zw_aload_n hX dX3_addCall_103 rfl ?_
      obtain ⟨v28, g, h⟩ := zb_some h
      refine zw_geti hX zl_X3_50 dX3_addCall_104 g ?_
      refine zw_iconst (v := (1 : Int32)) hX dX3_addCall_107 (by decide) ?_
      refine zw_isub hX dX3_addCall_108 ?_
      obtain rfl := Option.some.inj h
      exact zw_iret hX hr dX3_addCall_109 rfl ⟨rfl, rfl⟩
    · rw [if_neg c16] at h
      refine zw_iconst (v := (-1 : Int32)) hX dX3_addCall_19 (by decide) ?_
      obtain rfl := Option.some.inj h
      exact zw_iret hX hr dX3_addCall_20 rfl ⟨rfl, rfl⟩
set_option maxHeartbeats 4000000 in
set_option maxRecDepth 100000 in
theorem zt_X3_placeOfOpen_L2 {p : Program} {l : Launch} {e : Env} {R : Room} {s : State} {m : MethodId} {args : Array Value} {below : List Frame} {meth : Method} {c : Code} {V : zm_V} {mc ms d rc rs : Nat} (hX : zm_X p R s m args meth c RX3 "placeOfOpen" cX3_placeOfOpen 3 zk_E V mc ms) (hr : meth.sig.returnType = (some .int)) (hR : R.frames = d ∧ R.locals = 64 * d) (hd : 1 ≤ d) {N : Nat} {res : (Int32 × zm_S) ⊕ ((Unit) × zm_S)} {out : (Int32 × zm_S)} (a0 : Nat) (i1 : Int32) (hf : ∀ o, res = .inl o → o = out) (hk : ∀ (S' : zm_S), res = .inr ((), S') → zw p l e R s m args below meth c (vx_MQ below (zm_Qc zk_E V (zo_i out)) (zm_XC zk_E V zo_x) args s mc ms (fun q => V.2.2.2.1 ≤ q)) 3 zk_E V mc ms 28 [] [] S' rc rs) : ∀ (n : Nat) (i2 : Int32) (S : zm_S), zf_X3_placeOfOpen_L2 N n a0 i1 i2 S = some res → zw p l e R s m args below meth c (vx_MQ below (zm_Qc zk_E V (zo_i out)) (zm_XC zk_E V zo_x) args s mc ms (fun q => V.2.2.2.1 ≤ q)) 3 zk_E V mc ms 2 [(0, .ref a0), (1, .int i1), (2, .int i2)] [] S rc rs := by
  intro n
  induction n with
  | zero => intro i2 S h; cases h
  | succ n ih =>
    intro i2 S h
    rw [zf_X3_placeOfOpen_L2] at h
    refine zw_iload_n hX dX3_placeOfOpen_2 rfl ?_
    refine zw_aload_n hX dX3_placeOfOpen_3 rfl ?_
    obtain ⟨v1, g, h⟩ := zb_some h
    refine zw_geti hX zl_X3_53 dX3_placeOfOpen_4 g ?_
    refine zw_icmp_ge (tgt := 28) hX dX3_placeOfOpen_7 (by decide) (fun c7 => ?_) (fun c7 => ?_)
    · rw [if_pos c7] at h
      refine zw_sub (lv' := []) zs_nil ?_
      exact hk  _ (Option.some.inj h).symm
    · rw [if_neg c7] at h
      refine zw_aload_n hX dX3_placeOfOpen_10 rfl ?_
      obtain ⟨b2, g, h⟩ := zb_some h
      refine zw_getr hX zl_X3_19 dX3_placeOfOpen_11 g ?_
      refine zw_iload_n hX dX3_placeOfOpen_14 rfl ?_
      obtain ⟨v3, g, h⟩ := zb_some h
      refine zw_xi hX dX3_placeOfOpen_15 g ?_
      refine zw_iload_n hX dX3_placeOfOpen_16 rfl ?_
      refine zw_icmp_ne (tgt := 22) hX dX3_placeOfOpen_17 (by decide) (fun c17 => ?_) (fun c17 => ?_)
      · rw [if_neg c17] at h
        refine zw_iinc (v := (i2 + (1 : Int32))) hX dX3_placeOfOpen_22 rfl rfl (by decide) ?_
        refine zw_goto (tgt := 2) hX dX3_placeOfOpen_25 (by decide) ?_
        refine zw_sub (lv' := [(0, .ref a0), (1, .int i1), (2, .int (i2 + (1 : Int32)))]) (List.forall_mem_cons.mpr ⟨rfl, (List.forall_mem_cons.mpr ⟨rfl, (List.forall_mem_cons.mpr ⟨rfl, zs_nil⟩)⟩)⟩) ?_
        exact ih _ _ h
      · rw [if_pos c17] at h
        refine zw_iload_n hX dX3_placeOfOpen_20 rfl ?_
        have hz := hf _ (Option.some.inj h).symm
        subst hz
        exact zw_iret hX hr dX3_placeOfOpen_21 rfl ⟨rfl, rfl⟩
set_option maxHeartbeats 4000000 in
set_option maxRecDepth 100000 in
theorem zt_X3_placeOfOpen {l : Launch} {V : zm_V} {N : Nat} {S : zm_S} {out : (Int32 × zm_S)} {d : Nat} {a0 : Nat} {i1 : Int32} (hd : 1 ≤ d) (h : zf_X3_placeOfOpen N a0 i1 S = some out) : zm_Met l zk_E V yX3_placeOfOpen (.code yX3_placeOfOpen cX3_placeOfOpen 3 (some .int)) d [.ref a0, .int i1] S 0 0 (zo_i out) zo_x := by
  refine zm_of (by decide +kernel) (Nat.le_of_ble_eq_true rfl) ?_
  intro p e R s m args below meth c hRR hX hr hxt
  have hR : R.frames = d ∧ R.locals = 64 * d := by rw [hRR]; exact ⟨rfl, rfl⟩
  have hX : zm_X p R s m args meth c RX3 "placeOfOpen" cX3_placeOfOpen 3 zk_E V 0 0 := hX
  unfold zf_X3_placeOfOpen at h
  refine zw_sub (lv' := [(0, .ref a0), (1, .int i1)]) (List.forall_mem_cons.mpr ⟨rfl, (List.forall_mem_cons.mpr ⟨rfl, zs_nil⟩)⟩) ?_
  refine zw_iconst (v := (0 : Int32)) hX dX3_placeOfOpen_0 (by decide) ?_
  refine zw_istore_n hX dX3_placeOfOpen_1 (by decide) ?_
  obtain ⟨r, g, h⟩ := zb_some h
  refine zw_sub (lv' := [(0, .ref a0), (1, .int i1), (2, .int (0 : Int32))]) (List.forall_mem_cons.mpr ⟨rfl, (List.forall_mem_cons.mpr ⟨rfl, (List.forall_mem_cons.mpr ⟨rfl, zs_nil⟩)⟩)⟩) ?_
  refine zt_X3_placeOfOpen_L2 hX hr hR hd (res := r) (out := out) a0 i1 ?_ ?_ N _ _ g
  · intro o ho
    subst ho
    exact Option.some.inj h
  · intro  S4 hx
    subst hx
    try dsimp only at h
    refine zw_iconst (v := (-1 : Int32)) hX dX3_placeOfOpen_28 (by decide) ?_
    obtain rfl := Option.some.inj h
    exact zw_iret hX hr dX3_placeOfOpen_29 rfl ⟨rfl, rfl⟩
set_option maxHeartbeats 4000000 in
set_option maxRecDepth 100000 in
theorem zt_X3_isOpenCall {l : Launch} {V : zm_V} {N : Nat} {S : zm_S} {out : (Int32 × zm_S)} {d : Nat} {a0 : Nat} {i1 : Int32} (hd : 2 ≤ d) (h : zf_X3_isOpenCall N a0 i1 S = some out) : zm_Met l zk_E V yX3_isOpenCall (.code yX3_isOpenCall cX3_isOpenCall 2 (some .boolean)) d [.ref a0, .int i1] S 0 0 (zo_i out) zo_x := by
  refine zm_of (by decide +kernel) (Nat.le_of_ble_eq_true rfl) ?_
  intro p e R s m args below meth c hRR hX hr hxt
  have hR : R.frames = d ∧ R.locals = 64 * d := by rw [hRR]; exact ⟨rfl, rfl⟩
  have hX : zm_X p R s m args meth c RX3 "isOpenCall" cX3_isOpenCall 2 zk_E V 0 0 := hX
  unfold zf_X3_isOpenCall at h
  refine zw_sub (lv' := [(0, .ref a0), (1, .int i1)]) (List.forall_mem_cons.mpr ⟨rfl, (List.forall_mem_cons.mpr ⟨rfl, zs_nil⟩)⟩) ?_
  refine zw_aload_n hX dX3_isOpenCall_0 rfl ?_
  refine zw_iload_n hX dX3_isOpenCall_1 rfl ?_
  obtain ⟨_, gi, h⟩ := zb_some h
  obtain ⟨r2, g, h⟩ := zb_some h
  refine zc_Vi (as := [.int i1]) hX gi (zt_X3_placeOfOpen (d := d - 1) (by omega) g) zl_X3_62 rfl dX3_isOpenCall_2 ⟨rfl, rfl, Nat.le_of_ble_eq_true rfl⟩ ⟨by omega, by omega⟩ ?_
  refine zw_iconst (v := (-1 : Int32)) hX dX3_isOpenCall_5 (by decide) ?_
  refine zw_icmp_eq (tgt := 13) hX dX3_isOpenCall_6 (by decide) (fun c6 => ?_) (fun c6 => ?_)
  · rw [if_pos c6] at h
    refine zw_iconst (v := (0 : Int32)) hX dX3_isOpenCall_13 (by decide) ?_
    obtain rfl := Option.some.inj h
    exact zw_iret hX hr dX3_isOpenCall_14 rfl ⟨rfl, rfl⟩
  · rw [if_neg c6] at h
    refine zw_iconst (v := (1 : Int32)) hX dX3_isOpenCall_9 (by decide) ?_
    refine zw_goto (tgt := 14) hX dX3_isOpenCall_10 (by decide) ?_
    obtain rfl := Option.some.inj h
    exact zw_iret hX hr dX3_isOpenCall_14 rfl ⟨rfl, rfl⟩
set_option maxHeartbeats 4000000 in
set_option maxRecDepth 100000 in
theorem zt_X3_isInSpan {l : Launch} {V : zm_V} {N : Nat} {S : zm_S} {out : (Int32 × zm_S)} {d : Nat} {a0 : Nat} {i1 : Int32} {i2 : Int32} (hd : 2 ≤ d) (h : zf_X3_isInSpan N a0 i1 i2 S = some out) : zm_Met l zk_E V yX3_isInSpan (.code yX3_isInSpan cX3_isInSpan 5 (some .boolean)) d [.ref a0, .int i1, .int i2] S 0 0 (zo_i out) zo_x := by
  refine zm_of (by decide +kernel) (Nat.le_of_ble_eq_true rfl) ?_
  intro p e R s m args below meth c hRR hX hr hxt
  have hR : R.frames = d ∧ R.locals = 64 * d := by rw [hRR]; exact ⟨rfl, rfl⟩
  have hX : zm_X p R s m args meth c RX3 "isInSpan" cX3_isInSpan 5 zk_E V 0 0 := hX
  unfold zf_X3_isInSpan at h
  refine zw_sub (lv' := [(0, .ref a0), (1, .int i1), (2, .int i2)]) (List.forall_mem_cons.mpr ⟨rfl, (List.forall_mem_cons.mpr ⟨rfl, (List.forall_mem_cons.mpr ⟨rfl, zs_nil⟩)⟩)⟩) ?_
  refine zw_aload_n hX dX3_isInSpan_0 rfl ?_
  obtain ⟨b1, g, h⟩ := zb_some h
  refine zw_getr hX zl_X3_16 dX3_isInSpan_1 g ?_
  refine zw_iload_n hX dX3_isInSpan_4 rfl ?_
  obtain ⟨b2, g, h⟩ := zb_some h
  refine zw_xr hX dX3_isInSpan_5 g ?_
  refine zw_iconst (v := (0 : Int32)) hX dX3_isInSpan_6 (by decide) ?_
  obtain ⟨v3, g, h⟩ := zb_some h
  refine zw_xi hX dX3_isInSpan_7 g ?_
  refine zw_istore_n hX dX3_isInSpan_8 (by decide) ?_
  refine zw_aload_n hX dX3_isInSpan_9 rfl ?_
  obtain ⟨b4, g, h⟩ := zb_some h
  refine zw_getr hX zl_X3_16 dX3_isInSpan_10 g ?_
  refine zw_iload_n hX dX3_isInSpan_13 rfl ?_
  obtain ⟨b5, g, h⟩ := zb_some h
  refine zw_xr hX dX3_isInSpan_14 g ?_
  refine zw_iconst (v := (1 : Int32)) hX dX3_isInSpan_15 (by decide) ?_
  obtain ⟨v6, g, h⟩ := zb_some h
  refine zw_xi hX dX3_isInSpan_16 g ?_
  refine zw_istore hX dX3_isInSpan_17 (by decide) ?_
  refine zw_iload_n hX dX3_isInSpan_19 rfl ?_
  refine zw_iload hX dX3_isInSpan_20 rfl ?_
  refine zw_mmin hX zl_X3_74 dX3_isInSpan_22 (Nat.le_of_ble_eq_true rfl) ⟨by omega, by omega⟩ ?_
  refine zw_aload_n hX dX3_isInSpan_25 rfl ?_
  obtain ⟨b7, g, h⟩ := zb_some h
  refine zw_getr hX zl_X3_13 dX3_isInSpan_26 g ?_
  refine zw_iload_n hX dX3_isInSpan_29 rfl ?_
  obtain ⟨b8, g, h⟩ := zb_some h
  refine zw_xr hX dX3_isInSpan_30 g ?_
  refine zw_iconst (v := (3 : Int32)) hX dX3_isInSpan_31 (by decide) ?_
  obtain ⟨v9, g, h⟩ := zb_some h
  refine zw_xi hX dX3_isInSpan_32 g ?_
  refine zw_icmp_lt (tgt := 57) hX dX3_isInSpan_33 (by decide) (fun c33 => ?_) (fun c33 => ?_)
  · rw [if_pos c33] at h
    refine zw_iconst (v := (0 : Int32)) hX dX3_isInSpan_57 (by decide) ?_
    obtain rfl := Option.some.inj h
    exact zw_iret hX hr dX3_isInSpan_58 rfl ⟨rfl, rfl⟩
  · rw [if_neg c33] at h
    refine zw_iload_n hX dX3_isInSpan_36 rfl ?_
    refine zw_iload hX dX3_isInSpan_37 rfl ?_
    refine zw_mmax hX zl_X3_80 dX3_isInSpan_39 (Nat.le_of_ble_eq_true rfl) ⟨by omega, by omega⟩ ?_
    refine zw_aload_n hX dX3_isInSpan_42 rfl ?_
    obtain ⟨b10, g, h⟩ := zb_some h
    refine zw_getr hX zl_X3_13 dX3_isInSpan_43 g ?_
    refine zw_iload_n hX dX3_isInSpan_46 rfl ?_
    obtain ⟨b11, g, h⟩ := zb_some h
    refine zw_xr hX dX3_isInSpan_47 g ?_
    refine zw_iconst (v := (4 : Int32)) hX dX3_isInSpan_48 (by decide) ?_
    obtain ⟨v12, g, h⟩ := zb_some h
    refine zw_xi hX dX3_isInSpan_49 g ?_
    refine zw_icmp_gt (tgt := 57) hX dX3_isInSpan_50 (by decide) (fun c50 => ?_) (fun c50 => ?_)
    · rw [if_pos c50] at h
      refine zw_iconst (v := (0 : Int32)) hX dX3_isInSpan_57 (by decide) ?_
      obtain rfl := Option.some.inj h
      exact zw_iret hX hr dX3_isInSpan_58 rfl ⟨rfl, rfl⟩
    · rw [if_neg c50] at h
      refine zw_iconst (v := (1 : Int32)) hX dX3_isInSpan_53 (by decide) ?_
      refine zw_goto (tgt := 58) hX dX3_isInSpan_54 (by decide) ?_
      obtain rfl := Option.some.inj h
      exact zw_iret hX hr dX3_isInSpan_58 rfl ⟨rfl, rfl⟩
set_option maxHeartbeats 4000000 in
set_option maxRecDepth 100000 in
theorem zt_X3_endBeginning_L2 {p : Program} {l : Launch} {e : Env} {R : Room} {s : State} {m : MethodId} {args : Array Value} {below : List Frame} {meth : Method} {c : Code} {V : zm_V} {mc ms d rc rs : Nat} (hX : zm_X p R s m args meth c RX3 "endBeginning" cX3_endBeginning 3 zk_E V mc ms) (hr : meth.sig.returnType = none) (hR : R.frames = d ∧ R.locals = 64 * d) (hd : 1 ≤ d) {N : Nat} {res : (Unit × zm_S) ⊕ ((Unit) × zm_S)} {out : (Unit × zm_S)} (a0 : Nat) (i1 : Int32) (hf : ∀ o, res = .inl o → o = out) (hk : ∀ (S' : zm_S), res = .inr ((), S') → zw p l e R s m args below meth c (vx_MQ below (zm_Qc zk_E V (zo_v out)) (zm_XC zk_E V zo_x) args s mc ms (fun q => V.2.2.2.1 ≤ q)) 3 zk_E V mc ms 37 [] [] S' rc rs) : ∀ (n : Nat) (i2 : Int32) (S : zm_S), zf_X3_endBeginning_L2 N n a0 i1 i2 S = some res → zw p l e R s m args below meth c (vx_MQ below (zm_Qc zk_E V (zo_v out)) (zm_XC zk_E V zo_x) args s mc ms (fun q => V.2.2.2.1 ≤ q)) 3 zk_E V mc ms 2 [(0, .ref a0), (1, .int i1), (2, .int i2)] [] S rc rs := by
  intro n
  induction n with
  | zero => intro i2 S h; cases h
  | succ n ih =>
    intro i2 S h
    rw [zf_X3_endBeginning_L2] at h
    refine zw_iload_n hX dX3_endBeginning_2 rfl ?_
    refine zw_aload_n hX dX3_endBeginning_3 rfl ?_
    obtain ⟨v1, g, h⟩ := zb_some h
    refine zw_geti hX zl_X3_46 dX3_endBeginning_4 g ?_
    refine zw_icmp_ge (tgt := 37) hX dX3_endBeginning_7 (by decide) (fun c7 => ?_) (fun c7 => ?_)
    · rw [if_pos c7] at h
      refine zw_sub (lv' := []) zs_nil ?_
      exact hk  _ (Option.some.inj h).symm
    · rw [if_neg c7] at h
      refine zw_aload_n hX dX3_endBeginning_10 rfl ?_
      obtain ⟨b2, g, h⟩ := zb_some h
      refine zw_getr hX zl_X3_13 dX3_endBeginning_11 g ?_
      refine zw_iload_n hX dX3_endBeginning_14 rfl ?_
      obtain ⟨b3, g, h⟩ := zb_some h
      refine zw_xr hX dX3_endBeginning_15 g ?_
      refine zw_iconst (v := (5 : Int32)) hX dX3_endBeginning_16 (by decide) ?_
      obtain ⟨v4, g, h⟩ := zb_some h
      refine zw_xi hX dX3_endBeginning_17 g ?_
      refine zw_iload_n hX dX3_endBeginning_18 rfl ?_
      refine zw_icmp_ne (tgt := 31) hX dX3_endBeginning_19 (by decide) (fun c19 => ?_) (fun c19 => ?_)
      · rw [if_neg c19] at h
        refine zw_iinc (v := (i2 + (1 : Int32))) hX dX3_endBeginning_31 rfl rfl (by decide) ?_
        refine zw_goto (tgt := 2) hX dX3_endBeginning_34 (by decide) ?_
        refine zw_sub (lv' := [(0, .ref a0), (1, .int i1), (2, .int (i2 + (1 : Int32)))]) (List.forall_mem_cons.mpr ⟨rfl, (List.forall_mem_cons.mpr ⟨rfl, (List.forall_mem_cons.mpr ⟨rfl, zs_nil⟩)⟩)⟩) ?_
        exact ih _ _ h
      · rw [if_pos c19] at h
        refine zw_aload_n hX dX3_endBeginning_22 rfl ?_
        obtain ⟨b5, g, h⟩ := zb_some h
        refine zw_getr hX zl_X3_13 dX3_endBeginning_23 g ?_
        refine zw_iload_n hX dX3_endBeginning_26 rfl ?_
        obtain ⟨b6, g, h⟩ := zb_some h
        refine zw_xr hX dX3_endBeginning_27 g ?_
        refine zw_iconst (v := (5 : Int32)) hX dX3_endBeginning_28 (by decide) ?_
        refine zw_iconst (v := (-1 : Int32)) hX dX3_endBeginning_29 (by decide) ?_
        obtain ⟨S7, g, h⟩ := zb_some h
        refine zw_si hX dX3_endBeginning_30 g ?_
        refine zw_iinc (v := (i2 + (1 : Int32))) hX dX3_endBeginning_31 rfl rfl (by decide) ?_
        refine zw_goto (tgt := 2) hX dX3_endBeginning_34 (by decide) ?_
        refine zw_sub (lv' := [(0, .ref a0), (1, .int i1), (2, .int (i2 + (1 : Int32)))]) (List.forall_mem_cons.mpr ⟨rfl, (List.forall_mem_cons.mpr ⟨rfl, (List.forall_mem_cons.mpr ⟨rfl, zs_nil⟩)⟩)⟩) ?_
        exact ih _ _ h
set_option maxHeartbeats 4000000 in
set_option maxRecDepth 100000 in
theorem zt_X3_endBeginning {l : Launch} {V : zm_V} {N : Nat} {S : zm_S} {out : (Unit × zm_S)} {d : Nat} {a0 : Nat} {i1 : Int32} (hd : 1 ≤ d) (h : zf_X3_endBeginning N a0 i1 S = some out) : zm_Met l zk_E V yX3_endBeginning (.code yX3_endBeginning cX3_endBeginning 3 none) d [.ref a0, .int i1] S 0 0 (zo_v out) zo_x := by
  refine zm_of (by decide +kernel) (Nat.le_of_ble_eq_true rfl) ?_
  intro p e R s m args below meth c hRR hX hr hxt
  have hR : R.frames = d ∧ R.locals = 64 * d := by rw [hRR]; exact ⟨rfl, rfl⟩
  have hX : zm_X p R s m args meth c RX3 "endBeginning" cX3_endBeginning 3 zk_E V 0 0 := hX
  unfold zf_X3_endBeginning at h
  refine zw_sub (lv' := [(0, .ref a0), (1, .int i1)]) (List.forall_mem_cons.mpr ⟨rfl, (List.forall_mem_cons.mpr ⟨rfl, zs_nil⟩)⟩) ?_
  refine zw_iconst (v := (0 : Int32)) hX dX3_endBeginning_0 (by decide) ?_
  refine zw_istore_n hX dX3_endBeginning_1 (by decide) ?_
  obtain ⟨r, g, h⟩ := zb_some h
  refine zw_sub (lv' := [(0, .ref a0), (1, .int i1), (2, .int (0 : Int32))]) (List.forall_mem_cons.mpr ⟨rfl, (List.forall_mem_cons.mpr ⟨rfl, (List.forall_mem_cons.mpr ⟨rfl, zs_nil⟩)⟩)⟩) ?_
  refine zt_X3_endBeginning_L2 hX hr hR hd (res := r) (out := out) a0 i1 ?_ ?_ N _ _ g
  · intro o ho
    subst ho
    exact Option.some.inj h
  · intro  S8 hx
    subst hx
    try dsimp only at h
    obtain rfl := Option.some.inj h
    exact zw_vret hX hr dX3_endBeginning_37 ⟨rfl, rfl⟩
set_option maxHeartbeats 4000000 in
set_option maxRecDepth 100000 in
theorem zt_X3_setBegun_J35 {p : Program} {l : Launch} {e : Env} {R : Room} {s : State} {m : MethodId} {args : Array Value} {below : List Frame} {meth : Method} {c : Code} {V : zm_V} {mc ms d rc rs : Nat} (hX : zm_X p R s m args meth c RX3 "setBegun" cX3_setBegun 4 zk_E V mc ms) (hr : meth.sig.returnType = (some .boolean)) (hR : R.frames = d ∧ R.locals = 64 * d) (hd : 3 ≤ d) {N : Nat} {a0 : Nat} {i1 : Int32} {i2 : Int32} {out : (Int32 × zm_S)} {S : zm_S} (h : zf_X3_setBegun_J35 N a0 i1 i2 S = some out) : zw p l e R s m args below meth c (vx_MQ below (zm_Qc zk_E V (zo_i out)) (zm_XC zk_E V zo_x) args s mc ms (fun q => V.2.2.2.1 ≤ q)) 4 zk_E V mc ms 35 [(0, .ref a0), (1, .int i1), (2, .int i2)] [] S rc rs := by
  unfold zf_X3_setBegun_J35 at h
  refine zw_aload_n hX dX3_setBegun_35 rfl ?_
  refine zw_iload_n hX dX3_setBegun_36 rfl ?_
  obtain ⟨_, gi, h⟩ := zb_some h
  obtain ⟨r2, g, h⟩ := zb_some h
  refine zc_Vv (as := [.int i1]) hX gi (zt_X3_endBeginning (d := d - 1) (by omega) g) zl_X3_70 rfl dX3_setBegun_37 ⟨rfl, rfl, Nat.le_of_ble_eq_true rfl⟩ ⟨by omega, by omega⟩ ?_
  refine zw_iload_n hX dX3_setBegun_40 rfl ?_
  refine zw_iconst (v := (-1 : Int32)) hX dX3_setBegun_41 (by decide) ?_
  refine zw_icmp_eq (tgt := 54) hX dX3_setBegun_42 (by decide) (fun c42 => ?_) (fun c42 => ?_)
  · rw [if_pos c42] at h
    refine zw_iconst (v := (1 : Int32)) hX dX3_setBegun_54 (by decide) ?_
    obtain rfl := Option.some.inj h
    exact zw_iret hX hr dX3_setBegun_55 rfl ⟨rfl, rfl⟩
  · rw [if_neg c42] at h
    refine zw_aload_n hX dX3_setBegun_45 rfl ?_
    obtain ⟨b3, g, h⟩ := zb_some h
    refine zw_getr hX zl_X3_13 dX3_setBegun_46 g ?_
    refine zw_iload_n hX dX3_setBegun_49 rfl ?_
    obtain ⟨b4, g, h⟩ := zb_some h
    refine zw_xr hX dX3_setBegun_50 g ?_
    refine zw_iconst (v := (5 : Int32)) hX dX3_setBegun_51 (by decide) ?_
    refine zw_iload_n hX dX3_setBegun_52 rfl ?_
    obtain ⟨S5, g, h⟩ := zb_some h
    refine zw_si hX dX3_setBegun_53 g ?_
    refine zw_iconst (v := (1 : Int32)) hX dX3_setBegun_54 (by decide) ?_
    obtain rfl := Option.some.inj h
    exact zw_iret hX hr dX3_setBegun_55 rfl ⟨rfl, rfl⟩
set_option maxHeartbeats 4000000 in
set_option maxRecDepth 100000 in
theorem zt_X3_setBegun {l : Launch} {V : zm_V} {N : Nat} {S : zm_S} {out : (Int32 × zm_S)} {d : Nat} {a0 : Nat} {i1 : Int32} {i2 : Int32} (hd : 3 ≤ d) (h : zf_X3_setBegun N a0 i1 i2 S = some out) : zm_Met l zk_E V yX3_setBegun (.code yX3_setBegun cX3_setBegun 4 (some .boolean)) d [.ref a0, .int i1, .int i2] S 0 0 (zo_i out) zo_x := by
  refine zm_of (by decide +kernel) (Nat.le_of_ble_eq_true rfl) ?_
  intro p e R s m args below meth c hRR hX hr hxt
  have hR : R.frames = d ∧ R.locals = 64 * d := by rw [hRR]; exact ⟨rfl, rfl⟩
  have hX : zm_X p R s m args meth c RX3 "setBegun" cX3_setBegun 4 zk_E V 0 0 := hX
  unfold zf_X3_setBegun at h
  refine zw_sub (lv' := [(0, .ref a0), (1, .int i1), (2, .int i2)]) (List.forall_mem_cons.mpr ⟨rfl, (List.forall_mem_cons.mpr ⟨rfl, (List.forall_mem_cons.mpr ⟨rfl, zs_nil⟩)⟩)⟩) ?_
  refine zw_iload_n hX dX3_setBegun_0 rfl ?_
  refine zw_iconst (v := (-1 : Int32)) hX dX3_setBegun_1 (by decide) ?_
  refine zw_icmp_eq (tgt := 35) hX dX3_setBegun_2 (by decide) (fun c2 => ?_) (fun c2 => ?_)
  · rw [if_pos c2] at h
    refine zw_sub (lv' := [(0, .ref a0), (1, .int i1), (2, .int i2)]) (List.forall_mem_cons.mpr ⟨rfl, (List.forall_mem_cons.mpr ⟨rfl, (List.forall_mem_cons.mpr ⟨rfl, zs_nil⟩)⟩)⟩) ?_
    exact zt_X3_setBegun_J35 hX hr hR hd h
  · rw [if_neg c2] at h
    refine zw_aload_n hX dX3_setBegun_5 rfl ?_
    obtain ⟨b6, g, h⟩ := zb_some h
    refine zw_getr hX zl_X3_13 dX3_setBegun_6 g ?_
    refine zw_iload_n hX dX3_setBegun_9 rfl ?_
    obtain ⟨b7, g, h⟩ := zb_some h
    refine zw_xr hX dX3_setBegun_10 g ?_
    refine zw_iconst (v := (5 : Int32)) hX dX3_setBegun_11 (by decide) ?_
    obtain ⟨v8, g, h⟩ := zb_some h
    refine zw_xi hX dX3_setBegun_12 g ?_
    refine zw_istore_n hX dX3_setBegun_13 (by decide) ?_
    refine zw_aload_n hX dX3_setBegun_14 rfl ?_
    refine zw_iload_n hX dX3_setBegun_15 rfl ?_
    refine zw_iload_n hX dX3_setBegun_16 rfl ?_
    obtain ⟨_, gi, h⟩ := zb_some h
    obtain ⟨r10, g, h⟩ := zb_some h
    refine zc_Vi (as := [.int i1, .int i2]) hX gi (zt_X3_isInSpan (d := d - 1) (by omega) g) zl_X3_66 rfl dX3_setBegun_17 ⟨rfl, rfl, Nat.le_of_ble_eq_true rfl⟩ ⟨by omega, by omega⟩ ?_
    refine zw_if_eq (tgt := 33) hX dX3_setBegun_20 (by decide) (fun c20 => ?_) (fun c20 => ?_)
    · rw [if_pos c20] at h
      refine zw_iconst (v := (0 : Int32)) hX dX3_setBegun_33 (by decide) ?_
      obtain rfl := Option.some.inj h
      exact zw_iret hX hr dX3_setBegun_34 rfl ⟨rfl, rfl⟩
    · rw [if_neg c20] at h
      refine zw_iload_n hX dX3_setBegun_23 rfl ?_
      refine zw_iconst (v := (-1 : Int32)) hX dX3_setBegun_24 (by decide) ?_
      refine zw_icmp_eq (tgt := 35) hX dX3_setBegun_25 (by decide) (fun c25 => ?_) (fun c25 => ?_)
      · rw [if_pos c25] at h
        refine zw_sub (lv' := [(0, .ref a0), (1, .int i1), (2, .int i2)]) (List.forall_mem_cons.mpr ⟨rfl, (List.forall_mem_cons.mpr ⟨rfl, (List.forall_mem_cons.mpr ⟨rfl, zs_nil⟩)⟩)⟩) ?_
        exact zt_X3_setBegun_J35 hX hr hR hd h
      · rw [if_neg c25] at h
        refine zw_iload_n hX dX3_setBegun_28 rfl ?_
        refine zw_iload_n hX dX3_setBegun_29 rfl ?_
        refine zw_icmp_eq (tgt := 35) hX dX3_setBegun_30 (by decide) (fun c30 => ?_) (fun c30 => ?_)
        · rw [if_pos c30] at h
          refine zw_sub (lv' := [(0, .ref a0), (1, .int i1), (2, .int i2)]) (List.forall_mem_cons.mpr ⟨rfl, (List.forall_mem_cons.mpr ⟨rfl, (List.forall_mem_cons.mpr ⟨rfl, zs_nil⟩)⟩)⟩) ?_
          exact zt_X3_setBegun_J35 hX hr hR hd h
        · rw [if_neg c30] at h
          refine zw_iconst (v := (0 : Int32)) hX dX3_setBegun_33 (by decide) ?_
          obtain rfl := Option.some.inj h
          exact zw_iret hX hr dX3_setBegun_34 rfl ⟨rfl, rfl⟩
set_option maxHeartbeats 4000000 in
set_option maxRecDepth 100000 in
theorem zt_X3_closeCall {l : Launch} {V : zm_V} {N : Nat} {S : zm_S} {out : (Unit × zm_S)} {d : Nat} {a0 : Nat} {i1 : Int32} (hd : 2 ≤ d) (h : zf_X3_closeCall N a0 i1 S = some out) : zm_Met l zk_E V yX3_closeCall (.code yX3_closeCall cX3_closeCall 3 none) d [.ref a0, .int i1] S 0 0 (zo_v out) zo_x := by
  refine zm_of (by decide +kernel) (Nat.le_of_ble_eq_true rfl) ?_
  intro p e R s m args below meth c hRR hX hr hxt
  have hR : R.frames = d ∧ R.locals = 64 * d := by rw [hRR]; exact ⟨rfl, rfl⟩
  have hX : zm_X p R s m args meth c RX3 "closeCall" cX3_closeCall 3 zk_E V 0 0 := hX
  unfold zf_X3_closeCall at h
  refine zw_sub (lv' := [(0, .ref a0), (1, .int i1)]) (List.forall_mem_cons.mpr ⟨rfl, (List.forall_mem_cons.mpr ⟨rfl, zs_nil⟩)⟩) ?_
  refine zw_aload_n hX dX3_closeCall_0 rfl ?_
  refine zw_iload_n hX dX3_closeCall_1 rfl ?_
  obtain ⟨_, gi, h⟩ := zb_some h
  obtain ⟨r2, g, h⟩ := zb_some h
  refine zc_Vv (as := [.int i1]) hX gi (zt_X3_endBeginning (d := d - 1) (by omega) g) zl_X3_70 rfl dX3_closeCall_2 ⟨rfl, rfl, Nat.le_of_ble_eq_true rfl⟩ ⟨by omega, by omega⟩ ?_
  refine zw_aload_n hX dX3_closeCall_5 rfl ?_
  refine zw_iload_n hX dX3_closeCall_6 rfl ?_
  obtain ⟨_, gi, h⟩ := zb_some h
  obtain ⟨r4, g, h⟩ := zb_some h
  refine zc_Vi (as := [.int i1]) hX gi (zt_X3_placeOfOpen (d := d - 1) (by omega) g) zl_X3_62 rfl dX3_closeCall_7 ⟨rfl, rfl, Nat.le_of_ble_eq_true rfl⟩ ⟨by omega, by omega⟩ ?_
  refine zw_istore_n hX dX3_closeCall_10 (by decide) ?_
  refine zw_iload_n hX dX3_closeCall_11 rfl ?_
  refine zw_iconst (v := (-1 : Int32)) hX dX3_closeCall_12 (by decide) ?_
  refine zw_icmp_eq (tgt := 49) hX dX3_closeCall_13 (by decide) (fun c13 => ?_) (fun c13 => ?_)
  · rw [if_pos c13] at h
    obtain rfl := Option.some.inj h
    exact zw_vret hX hr dX3_closeCall_49 ⟨rfl, rfl⟩
  · rw [if_neg c13] at h
    refine zw_aload_n hX dX3_closeCall_16 rfl ?_
    obtain ⟨b5, g, h⟩ := zb_some h
    refine zw_getr hX zl_X3_19 dX3_closeCall_17 g ?_
    refine zw_iload_n hX dX3_closeCall_20 rfl ?_
    refine zw_iconst (v := (1 : Int32)) hX dX3_closeCall_21 (by decide) ?_
    refine zw_iadd hX dX3_closeCall_22 ?_
    refine zw_aload_n hX dX3_closeCall_23 rfl ?_
    obtain ⟨b6, g, h⟩ := zb_some h
    refine zw_getr hX zl_X3_19 dX3_closeCall_24 g ?_
    refine zw_iload_n hX dX3_closeCall_27 rfl ?_
    refine zw_aload_n hX dX3_closeCall_28 rfl ?_
    obtain ⟨v7, g, h⟩ := zb_some h
    refine zw_geti hX zl_X3_53 dX3_closeCall_29 g ?_
    refine zw_iload_n hX dX3_closeCall_32 rfl ?_
    refine zw_isub hX dX3_closeCall_33 ?_
    refine zw_iconst (v := (1 : Int32)) hX dX3_closeCall_34 (by decide) ?_
    refine zw_isub hX dX3_closeCall_35 ?_
    obtain ⟨S8, g, h⟩ := zb_some h
    refine zw_cp hX zl_X3_83 dX3_closeCall_36 (Nat.le_of_ble_eq_true rfl) ⟨by omega, by omega⟩ g ?_
    refine zw_aload_n hX dX3_closeCall_39 rfl ?_
    refine zw_dup hX dX3_closeCall_40 rfl ?_
    obtain ⟨v9, g, h⟩ := zb_some h
    refine zw_geti hX zl_X3_53 dX3_closeCall_41 g ?_
    refine zw_iconst (v := (1 : Int32)) hX dX3_closeCall_44 (by decide) ?_
    refine zw_isub hX dX3_closeCall_45 ?_
    obtain ⟨S10, g, h⟩ := zb_some h
    refine zw_putv hX zl_X3_53 zt_3_4 dX3_closeCall_46 rfl rfl g ?_
    obtain rfl := Option.some.inj h
    exact zw_vret hX hr dX3_closeCall_49 ⟨rfl, rfl⟩
set_option maxHeartbeats 4000000 in
set_option maxRecDepth 100000 in
theorem zt_X3_carsThatMayTake_J36 {p : Program} {l : Launch} {e : Env} {R : Room} {s : State} {m : MethodId} {args : Array Value} {below : List Frame} {meth : Method} {c : Code} {V : zm_V} {mc ms d rc rs : Nat} (hX : zm_X p R s m args meth c RX3 "carsThatMayTake" cX3_carsThatMayTake 5 zk_E V mc ms) (hr : meth.sig.returnType = (some .int)) (hR : R.frames = d ∧ R.locals = 64 * d) (hd : 3 ≤ d) {N : Nat} {k : Nat → Int32 → Int32 → Int32 → Int32 → zm_S → Option ((Int32 × zm_S) ⊕ ((Int32 × Int32) × zm_S))} {a0 : Nat} {i1 : Int32} {i3 : Int32} {i4 : Int32} {t0 : Int32} {res : (Int32 × zm_S) ⊕ ((Int32 × Int32) × zm_S)} {out : (Int32 × zm_S)}   (hf : ∀ o, res = .inl o → o = out) (hk : ∀ (x2 : Int32) (x3 : Int32) (S' : zm_S), res = .inr ((x2, x3), S') → zw p l e R s m args below meth c (vx_MQ below (zm_Qc zk_E V (zo_i out)) (zm_XC zk_E V zo_x) args s mc ms (fun q => V.2.2.2.1 ≤ q)) 5 zk_E V mc ms 63 [(2, .int x2), (3, .int x3)] [] S' rc rs) (hrec : ∀ (i2' : Int32) (i3' : Int32) (i4' : Int32) (S : zm_S), k a0 i1 i2' i3' i4' S = some res → zw p l e R s m args below meth c (vx_MQ below (zm_Qc zk_E V (zo_i out)) (zm_XC zk_E V zo_x) args s mc ms (fun q => V.2.2.2.1 ≤ q)) 5 zk_E V mc ms 7 [(0, .ref a0), (1, .int i1), (2, .int i2'), (3, .int i3'), (4, .int i4')] [] S rc rs) {S : zm_S} (h : zf_X3_carsThatMayTake_J36 N k a0 i1 i3 i4 t0 S = some res) : zw p l e R s m args below meth c (vx_MQ below (zm_Qc zk_E V (zo_i out)) (zm_XC zk_E V zo_x) args s mc ms (fun q => V.2.2.2.1 ≤ q)) 5 zk_E V mc ms 36 [(0, .ref a0), (1, .int i1), (3, .int i3), (4, .int i4)] [.int t0] S rc rs := by
  unfold zf_X3_carsThatMayTake_J36 at h
  refine zw_istore_n hX dX3_carsThatMayTake_36 (by decide) ?_
  refine zw_aload_n hX dX3_carsThatMayTake_37 rfl ?_
  obtain ⟨b4, g, h⟩ := zb_some h
  refine zw_getr hX zl_X3_13 dX3_carsThatMayTake_38 g ?_
  refine zw_iload hX dX3_carsThatMayTake_41 rfl ?_
  obtain ⟨b5, g, h⟩ := zb_some h
  refine zw_xr hX dX3_carsThatMayTake_43 g ?_
  refine zw_iconst (v := (5 : Int32)) hX dX3_carsThatMayTake_44 (by decide) ?_
  obtain ⟨v6, g, h⟩ := zb_some h
  refine zw_xi hX dX3_carsThatMayTake_45 g ?_
  refine zw_iload_n hX dX3_carsThatMayTake_46 rfl ?_
  refine zw_icmp_ne (tgt := 55) hX dX3_carsThatMayTake_47 (by decide) (fun c47 => ?_) (fun c47 => ?_)
  · rw [if_neg c47] at h
    refine zw_iload_n hX dX3_carsThatMayTake_55 rfl ?_
    refine zw_istore_n hX dX3_carsThatMayTake_56 (by decide) ?_
    refine zw_iinc (v := (i4 + (1 : Int32))) hX dX3_carsThatMayTake_57 rfl rfl (by decide) ?_
    refine zw_goto (tgt := 7) hX dX3_carsThatMayTake_60 (by decide) ?_
    refine zw_sub (lv' := [(0, .ref a0), (1, .int i1), (2, .int t0), (3, .int i3), (4, .int (i4 + (1 : Int32)))]) (List.forall_mem_cons.mpr ⟨rfl, (List.forall_mem_cons.mpr ⟨rfl, (List.forall_mem_cons.mpr ⟨rfl, (List.forall_mem_cons.mpr ⟨rfl, (List.forall_mem_cons.mpr ⟨rfl, zs_nil⟩)⟩)⟩)⟩)⟩) ?_
    exact hrec _ _ _ _ h
  · rw [if_pos c47] at h
    refine zw_iload hX dX3_carsThatMayTake_50 rfl ?_
    refine zw_goto (tgt := 56) hX dX3_carsThatMayTake_52 (by decide) ?_
    refine zw_istore_n hX dX3_carsThatMayTake_56 (by decide) ?_
    refine zw_iinc (v := (i4 + (1 : Int32))) hX dX3_carsThatMayTake_57 rfl rfl (by decide) ?_
    refine zw_goto (tgt := 7) hX dX3_carsThatMayTake_60 (by decide) ?_
    refine zw_sub (lv' := [(0, .ref a0), (1, .int i1), (2, .int t0), (3, .int i4), (4, .int (i4 + (1 : Int32)))]) (List.forall_mem_cons.mpr ⟨rfl, (List.forall_mem_cons.mpr ⟨rfl, (List.forall_mem_cons.mpr ⟨rfl, (List.forall_mem_cons.mpr ⟨rfl, (List.forall_mem_cons.mpr ⟨rfl, zs_nil⟩)⟩)⟩)⟩)⟩) ?_
    exact hrec _ _ _ _ h
set_option maxHeartbeats 4000000 in
set_option maxRecDepth 100000 in
theorem zt_X3_carsThatMayTake_L7 {p : Program} {l : Launch} {e : Env} {R : Room} {s : State} {m : MethodId} {args : Array Value} {below : List Frame} {meth : Method} {c : Code} {V : zm_V} {mc ms d rc rs : Nat} (hX : zm_X p R s m args meth c RX3 "carsThatMayTake" cX3_carsThatMayTake 5 zk_E V mc ms) (hr : meth.sig.returnType = (some .int)) (hR : R.frames = d ∧ R.locals = 64 * d) (hd : 3 ≤ d) {N : Nat} {res : (Int32 × zm_S) ⊕ ((Int32 × Int32) × zm_S)} {out : (Int32 × zm_S)} (a0 : Nat) (i1 : Int32) (hf : ∀ o, res = .inl o → o = out) (hk : ∀ (x2 : Int32) (x3 : Int32) (S' : zm_S), res = .inr ((x2, x3), S') → zw p l e R s m args below meth c (vx_MQ below (zm_Qc zk_E V (zo_i out)) (zm_XC zk_E V zo_x) args s mc ms (fun q => V.2.2.2.1 ≤ q)) 5 zk_E V mc ms 63 [(2, .int x2), (3, .int x3)] [] S' rc rs) : ∀ (n : Nat) (i2 : Int32) (i3 : Int32) (i4 : Int32) (S : zm_S), zf_X3_carsThatMayTake_L7 N n a0 i1 i2 i3 i4 S = some res → zw p l e R s m args below meth c (vx_MQ below (zm_Qc zk_E V (zo_i out)) (zm_XC zk_E V zo_x) args s mc ms (fun q => V.2.2.2.1 ≤ q)) 5 zk_E V mc ms 7 [(0, .ref a0), (1, .int i1), (2, .int i2), (3, .int i3), (4, .int i4)] [] S rc rs := by
  intro n
  induction n with
  | zero => intro i2 i3 i4 S h; cases h
  | succ n ih =>
    intro i2 i3 i4 S h
    rw [zf_X3_carsThatMayTake_L7] at h
    refine zw_iload hX dX3_carsThatMayTake_7 rfl ?_
    refine zw_aload_n hX dX3_carsThatMayTake_9 rfl ?_
    obtain ⟨v1, g, h⟩ := zb_some h
    refine zw_geti hX zl_X3_46 dX3_carsThatMayTake_10 g ?_
    refine zw_icmp_ge (tgt := 63) hX dX3_carsThatMayTake_13 (by decide) (fun c13 => ?_) (fun c13 => ?_)
    · rw [if_pos c13] at h
      refine zw_sub (lv' := [(2, .int i2), (3, .int i3)]) (List.forall_mem_cons.mpr ⟨rfl, (List.forall_mem_cons.mpr ⟨rfl, zs_nil⟩)⟩) ?_
      exact hk _ _ _ (Option.some.inj h).symm
    · rw [if_neg c13] at h
      refine zw_aload_n hX dX3_carsThatMayTake_16 rfl ?_
      refine zw_iload_n hX dX3_carsThatMayTake_17 rfl ?_
      refine zw_iload hX dX3_carsThatMayTake_18 rfl ?_
      obtain ⟨_, gi, h⟩ := zb_some h
      obtain ⟨r3, g, h⟩ := zb_some h
      refine zc_Vi (as := [.int i1, .int i4]) hX gi (zt_X3_isInSpan (d := d - 1) (by omega) g) zl_X3_66 rfl dX3_carsThatMayTake_20 ⟨rfl, rfl, Nat.le_of_ble_eq_true rfl⟩ ⟨by omega, by omega⟩ ?_
      refine zw_if_eq (tgt := 35) hX dX3_carsThatMayTake_23 (by decide) (fun c23 => ?_) (fun c23 => ?_)
      · rw [if_pos c23] at h
        refine zw_iload_n hX dX3_carsThatMayTake_35 rfl ?_
        refine zw_sub (lv' := [(0, .ref a0), (1, .int i1), (3, .int i3), (4, .int i4)]) (List.forall_mem_cons.mpr ⟨rfl, (List.forall_mem_cons.mpr ⟨rfl, (List.forall_mem_cons.mpr ⟨rfl, (List.forall_mem_cons.mpr ⟨rfl, zs_nil⟩)⟩)⟩)⟩) ?_
        exact zt_X3_carsThatMayTake_J36 hX hr hR hd hf hk ih h
      · rw [if_neg c23] at h
        refine zw_iload_n hX dX3_carsThatMayTake_26 rfl ?_
        refine zw_iconst (v := (1 : Int32)) hX dX3_carsThatMayTake_27 (by decide) ?_
        refine zw_iload hX dX3_carsThatMayTake_28 rfl ?_
        refine zw_ishl hX dX3_carsThatMayTake_30 ?_
        refine zw_ior hX dX3_carsThatMayTake_31 ?_
        refine zw_goto (tgt := 36) hX dX3_carsThatMayTake_32 (by decide) ?_
        refine zw_sub (lv' := [(0, .ref a0), (1, .int i1), (3, .int i3), (4, .int i4)]) (List.forall_mem_cons.mpr ⟨rfl, (List.forall_mem_cons.mpr ⟨rfl, (List.forall_mem_cons.mpr ⟨rfl, (List.forall_mem_cons.mpr ⟨rfl, zs_nil⟩)⟩)⟩)⟩) ?_
        exact zt_X3_carsThatMayTake_J36 hX hr hR hd hf hk ih h
set_option maxHeartbeats 4000000 in
set_option maxRecDepth 100000 in
theorem zt_X3_carsThatMayTake {l : Launch} {V : zm_V} {N : Nat} {S : zm_S} {out : (Int32 × zm_S)} {d : Nat} {a0 : Nat} {i1 : Int32} (hd : 3 ≤ d) (h : zf_X3_carsThatMayTake N a0 i1 S = some out) : zm_Met l zk_E V yX3_carsThatMayTake (.code yX3_carsThatMayTake cX3_carsThatMayTake 5 (some .int)) d [.ref a0, .int i1] S 0 0 (zo_i out) zo_x := by
  refine zm_of (by decide +kernel) (Nat.le_of_ble_eq_true rfl) ?_
  intro p e R s m args below meth c hRR hX hr hxt
  have hR : R.frames = d ∧ R.locals = 64 * d := by rw [hRR]; exact ⟨rfl, rfl⟩
  have hX : zm_X p R s m args meth c RX3 "carsThatMayTake" cX3_carsThatMayTake 5 zk_E V 0 0 := hX
  unfold zf_X3_carsThatMayTake at h
  refine zw_sub (lv' := [(0, .ref a0), (1, .int i1)]) (List.forall_mem_cons.mpr ⟨rfl, (List.forall_mem_cons.mpr ⟨rfl, zs_nil⟩)⟩) ?_
  refine zw_iconst (v := (0 : Int32)) hX dX3_carsThatMayTake_0 (by decide) ?_
  refine zw_istore_n hX dX3_carsThatMayTake_1 (by decide) ?_
  refine zw_iconst (v := (-1 : Int32)) hX dX3_carsThatMayTake_2 (by decide) ?_
  refine zw_istore_n hX dX3_carsThatMayTake_3 (by decide) ?_
  refine zw_iconst (v := (0 : Int32)) hX dX3_carsThatMayTake_4 (by decide) ?_
  refine zw_istore hX dX3_carsThatMayTake_5 (by decide) ?_
  obtain ⟨r, g, h⟩ := zb_some h
  refine zw_sub (lv' := [(0, .ref a0), (1, .int i1), (2, .int (0 : Int32)), (3, .int (-1 : Int32)), (4, .int (0 : Int32))]) (List.forall_mem_cons.mpr ⟨rfl, (List.forall_mem_cons.mpr ⟨rfl, (List.forall_mem_cons.mpr ⟨rfl, (List.forall_mem_cons.mpr ⟨rfl, (List.forall_mem_cons.mpr ⟨rfl, zs_nil⟩)⟩)⟩)⟩)⟩) ?_
  refine zt_X3_carsThatMayTake_L7 hX hr hR hd (res := r) (out := out) a0 i1 ?_ ?_ N _ _ _ _ g
  · intro o ho
    subst ho
    exact Option.some.inj h
  · intro v8 v9 S7 hx
    subst hx
    try dsimp only at h
    refine zw_iload_n hX dX3_carsThatMayTake_63 rfl ?_
    refine zw_iconst (v := (-1 : Int32)) hX dX3_carsThatMayTake_64 (by decide) ?_
    refine zw_icmp_ne (tgt := 72) hX dX3_carsThatMayTake_65 (by decide) (fun c65 => ?_) (fun c65 => ?_)
    · rw [if_neg c65] at h
      refine zw_iload_n hX dX3_carsThatMayTake_72 rfl ?_
      refine zw_iconst (v := (1 : Int32)) hX dX3_carsThatMayTake_73 (by decide) ?_
      refine zw_iload_n hX dX3_carsThatMayTake_74 rfl ?_
      refine zw_ishl hX dX3_carsThatMayTake_75 ?_
      refine zw_iand hX dX3_carsThatMayTake_76 ?_
      obtain rfl := Option.some.inj h
      exact zw_iret hX hr dX3_carsThatMayTake_77 rfl ⟨rfl, rfl⟩
    · rw [if_pos c65] at h
      refine zw_iload_n hX dX3_carsThatMayTake_68 rfl ?_
      refine zw_goto (tgt := 77) hX dX3_carsThatMayTake_69 (by decide) ?_
      obtain rfl := Option.some.inj h
      exact zw_iret hX hr dX3_carsThatMayTake_77 rfl ⟨rfl, rfl⟩

