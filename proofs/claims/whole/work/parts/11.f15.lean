/-! ===== functions of methods, by program (wip/whole/tools/gen11.py) ===== -/
theorem dX17_fails_0 : decode cX17_fails 0 = .ok (.aload_n 0, 1) := by decide +kernel
theorem dX17_fails_1 : decode cX17_fails 1 = .ok (.getfield 56, 3) := by decide +kernel
theorem dX17_fails_4 : decode cX17_fails 4 = .ok (.iconst 0, 1) := by decide +kernel
theorem dX17_fails_5 : decode cX17_fails 5 = .ok (.dup2, 1) := by decide +kernel
theorem dX17_fails_6 : decode cX17_fails 6 = .ok (.iaload, 1) := by decide +kernel
theorem dX17_fails_7 : decode cX17_fails 7 = .ok (.iconst 1, 1) := by decide +kernel
theorem dX17_fails_8 : decode cX17_fails 8 = .ok (.iadd, 1) := by decide +kernel
theorem dX17_fails_9 : decode cX17_fails 9 = .ok (.iastore, 1) := by decide +kernel
theorem dX17_fails_10 : decode cX17_fails 10 = .ok (.aload_n 0, 1) := by decide +kernel
theorem dX17_fails_11 : decode cX17_fails 11 = .ok (.getfield 56, 3) := by decide +kernel
theorem dX17_fails_14 : decode cX17_fails 14 = .ok (.iload_n 2, 1) := by decide +kernel
theorem dX17_fails_15 : decode cX17_fails 15 = .ok (.dup2, 1) := by decide +kernel
theorem dX17_fails_16 : decode cX17_fails 16 = .ok (.iaload, 1) := by decide +kernel
theorem dX17_fails_17 : decode cX17_fails 17 = .ok (.iconst 1, 1) := by decide +kernel
theorem dX17_fails_18 : decode cX17_fails 18 = .ok (.iadd, 1) := by decide +kernel
theorem dX17_fails_19 : decode cX17_fails 19 = .ok (.iastore, 1) := by decide +kernel
theorem dX17_fails_20 : decode cX17_fails 20 = .ok (.aload_n 0, 1) := by decide +kernel
theorem dX17_fails_21 : decode cX17_fails 21 = .ok (.getfield 28, 3) := by decide +kernel
theorem dX17_fails_24 : decode cX17_fails 24 = .ok (.iload_n 1, 1) := by decide +kernel
theorem dX17_fails_25 : decode cX17_fails 25 = .ok (.aload_n 0, 1) := by decide +kernel
theorem dX17_fails_26 : decode cX17_fails 26 = .ok (.getfield 19, 3) := by decide +kernel
theorem dX17_fails_29 : decode cX17_fails 29 = .ok (.iload_n 1, 1) := by decide +kernel
theorem dX17_fails_30 : decode cX17_fails 30 = .ok (.iaload, 1) := by decide +kernel
theorem dX17_fails_31 : decode cX17_fails 31 = .ok (.iastore, 1) := by decide +kernel
theorem dX17_fails_32 : decode cX17_fails 32 = .ok (.return_, 1) := by decide +kernel
theorem dX17_plain_0 : decode cX17_plain 0 = .ok (.aload_n 0, 1) := by decide +kernel
theorem dX17_plain_1 : decode cX17_plain 1 = .ok (.getfield 7, 3) := by decide +kernel
theorem dX17_plain_4 : decode cX17_plain 4 = .ok (.iload_n 1, 1) := by decide +kernel
theorem dX17_plain_5 : decode cX17_plain 5 = .ok (.iaload, 1) := by decide +kernel
theorem dX17_plain_6 : decode cX17_plain 6 = .ok (.tableswitch 214 0 14 #[74, 86, 93, 97, 101, 105, 109, 117, 128, 139, 150, 161, 175, 189, 199], 74) := by decide +kernel
theorem dX17_plain_220 : decode cX17_plain 220 = .ok (.aload_n 0, 1) := by decide +kernel
theorem dX17_plain_221 : decode cX17_plain 221 = .ok (.getfield 25, 3) := by decide +kernel
theorem dX17_plain_224 : decode cX17_plain 224 = .ok (.bipush 8, 2) := by decide +kernel
theorem dX17_plain_226 : decode cX17_plain 226 = .ok (.iload_n 1, 1) := by decide +kernel
theorem dX17_plain_227 : decode cX17_plain 227 = .ok (.imul, 1) := by decide +kernel
theorem dX17_plain_228 : decode cX17_plain 228 = .ok (.iload_n 2, 1) := by decide +kernel
theorem dX17_plain_229 : decode cX17_plain 229 = .ok (.iadd, 1) := by decide +kernel
theorem dX17_plain_230 : decode cX17_plain 230 = .ok (.iaload, 1) := by decide +kernel
theorem dX17_plain_231 : decode cX17_plain 231 = .ok (.ireturn, 1) := by decide +kernel
theorem dX17_plain_80 : decode cX17_plain 80 = .ok (.aload_n 0, 1) := by decide +kernel
theorem dX17_plain_81 : decode cX17_plain 81 = .ok (.getfield 44, 3) := by decide +kernel
theorem dX17_plain_84 : decode cX17_plain 84 = .ok (.aload_n 0, 1) := by decide +kernel
theorem dX17_plain_85 : decode cX17_plain 85 = .ok (.getfield 13, 3) := by decide +kernel
theorem dX17_plain_88 : decode cX17_plain 88 = .ok (.iload_n 1, 1) := by decide +kernel
theorem dX17_plain_89 : decode cX17_plain 89 = .ok (.iaload, 1) := by decide +kernel
theorem dX17_plain_90 : decode cX17_plain 90 = .ok (.iaload, 1) := by decide +kernel
theorem dX17_plain_91 : decode cX17_plain 91 = .ok (.ireturn, 1) := by decide +kernel
theorem dX17_plain_92 : decode cX17_plain 92 = .ok (.aload_n 0, 1) := by decide +kernel
theorem dX17_plain_93 : decode cX17_plain 93 = .ok (.getfield 13, 3) := by decide +kernel
theorem dX17_plain_96 : decode cX17_plain 96 = .ok (.iload_n 1, 1) := by decide +kernel
theorem dX17_plain_97 : decode cX17_plain 97 = .ok (.iaload, 1) := by decide +kernel
theorem dX17_plain_98 : decode cX17_plain 98 = .ok (.ireturn, 1) := by decide +kernel
theorem dX17_plain_99 : decode cX17_plain 99 = .ok (.iload_n 2, 1) := by decide +kernel
theorem dX17_plain_100 : decode cX17_plain 100 = .ok (.iload_n 3, 1) := by decide +kernel
theorem dX17_plain_101 : decode cX17_plain 101 = .ok (.iadd, 1) := by decide +kernel
theorem dX17_plain_102 : decode cX17_plain 102 = .ok (.ireturn, 1) := by decide +kernel
theorem dX17_plain_103 : decode cX17_plain 103 = .ok (.iload_n 2, 1) := by decide +kernel
theorem dX17_plain_104 : decode cX17_plain 104 = .ok (.iload_n 3, 1) := by decide +kernel
theorem dX17_plain_105 : decode cX17_plain 105 = .ok (.isub, 1) := by decide +kernel
theorem dX17_plain_106 : decode cX17_plain 106 = .ok (.ireturn, 1) := by decide +kernel
theorem dX17_plain_107 : decode cX17_plain 107 = .ok (.iload_n 2, 1) := by decide +kernel
theorem dX17_plain_108 : decode cX17_plain 108 = .ok (.iload_n 3, 1) := by decide +kernel
theorem dX17_plain_109 : decode cX17_plain 109 = .ok (.imul, 1) := by decide +kernel
theorem dX17_plain_110 : decode cX17_plain 110 = .ok (.ireturn, 1) := by decide +kernel
theorem dX17_plain_111 : decode cX17_plain 111 = .ok (.iload_n 2, 1) := by decide +kernel
theorem dX17_plain_112 : decode cX17_plain 112 = .ok (.iload_n 3, 1) := by decide +kernel
theorem dX17_plain_113 : decode cX17_plain 113 = .ok (.idiv, 1) := by decide +kernel
theorem dX17_plain_114 : decode cX17_plain 114 = .ok (.ireturn, 1) := by decide +kernel
theorem dX17_plain_115 : decode cX17_plain 115 = .ok (.iload_n 2, 1) := by decide +kernel
theorem dX17_plain_116 : decode cX17_plain 116 = .ok (.iload_n 3, 1) := by decide +kernel
theorem dX17_plain_117 : decode cX17_plain 117 = .ok (.iload_n 2, 1) := by decide +kernel
theorem dX17_plain_118 : decode cX17_plain 118 = .ok (.iload_n 3, 1) := by decide +kernel
theorem dX17_plain_119 : decode cX17_plain 119 = .ok (.idiv, 1) := by decide +kernel
theorem dX17_plain_120 : decode cX17_plain 120 = .ok (.imul, 1) := by decide +kernel
theorem dX17_plain_121 : decode cX17_plain 121 = .ok (.isub, 1) := by decide +kernel
theorem dX17_plain_122 : decode cX17_plain 122 = .ok (.ireturn, 1) := by decide +kernel
theorem dX17_plain_123 : decode cX17_plain 123 = .ok (.iload_n 2, 1) := by decide +kernel
theorem dX17_plain_124 : decode cX17_plain 124 = .ok (.iload_n 3, 1) := by decide +kernel
theorem dX17_plain_125 : decode cX17_plain 125 = .ok (.if_icmp .ge 7, 3) := by decide +kernel
theorem dX17_plain_132 : decode cX17_plain 132 = .ok (.iload_n 3, 1) := by decide +kernel
theorem dX17_plain_133 : decode cX17_plain 133 = .ok (.ireturn, 1) := by decide +kernel
theorem dX17_plain_128 : decode cX17_plain 128 = .ok (.iload_n 2, 1) := by decide +kernel
theorem dX17_plain_129 : decode cX17_plain 129 = .ok (.goto 4, 3) := by decide +kernel
theorem dX17_plain_134 : decode cX17_plain 134 = .ok (.iload_n 2, 1) := by decide +kernel
theorem dX17_plain_135 : decode cX17_plain 135 = .ok (.iload_n 3, 1) := by decide +kernel
theorem dX17_plain_136 : decode cX17_plain 136 = .ok (.if_icmp .le 7, 3) := by decide +kernel
theorem dX17_plain_143 : decode cX17_plain 143 = .ok (.iload_n 3, 1) := by decide +kernel
theorem dX17_plain_144 : decode cX17_plain 144 = .ok (.ireturn, 1) := by decide +kernel
theorem dX17_plain_139 : decode cX17_plain 139 = .ok (.iload_n 2, 1) := by decide +kernel
theorem dX17_plain_140 : decode cX17_plain 140 = .ok (.goto 4, 3) := by decide +kernel
theorem dX17_plain_145 : decode cX17_plain 145 = .ok (.iload_n 2, 1) := by decide +kernel
theorem dX17_plain_146 : decode cX17_plain 146 = .ok (.iload_n 3, 1) := by decide +kernel
theorem dX17_plain_147 : decode cX17_plain 147 = .ok (.if_icmp .ge 7, 3) := by decide +kernel
theorem dX17_plain_154 : decode cX17_plain 154 = .ok (.iconst 0, 1) := by decide +kernel
theorem dX17_plain_155 : decode cX17_plain 155 = .ok (.ireturn, 1) := by decide +kernel
theorem dX17_plain_150 : decode cX17_plain 150 = .ok (.iconst 1, 1) := by decide +kernel
theorem dX17_plain_151 : decode cX17_plain 151 = .ok (.goto 4, 3) := by decide +kernel
theorem dX17_plain_156 : decode cX17_plain 156 = .ok (.iload_n 2, 1) := by decide +kernel
theorem dX17_plain_157 : decode cX17_plain 157 = .ok (.iload_n 3, 1) := by decide +kernel
theorem dX17_plain_158 : decode cX17_plain 158 = .ok (.if_icmp .ne 7, 3) := by decide +kernel
theorem dX17_plain_165 : decode cX17_plain 165 = .ok (.iconst 0, 1) := by decide +kernel
theorem dX17_plain_166 : decode cX17_plain 166 = .ok (.ireturn, 1) := by decide +kernel
theorem dX17_plain_161 : decode cX17_plain 161 = .ok (.iconst 1, 1) := by decide +kernel
theorem dX17_plain_162 : decode cX17_plain 162 = .ok (.goto 4, 3) := by decide +kernel
theorem dX17_plain_167 : decode cX17_plain 167 = .ok (.iload_n 2, 1) := by decide +kernel
theorem dX17_plain_168 : decode cX17_plain 168 = .ok (.ifCond .eq 11, 3) := by decide +kernel
theorem dX17_plain_179 : decode cX17_plain 179 = .ok (.iconst 0, 1) := by decide +kernel
theorem dX17_plain_180 : decode cX17_plain 180 = .ok (.ireturn, 1) := by decide +kernel
theorem dX17_plain_171 : decode cX17_plain 171 = .ok (.iload_n 3, 1) := by decide +kernel
theorem dX17_plain_172 : decode cX17_plain 172 = .ok (.ifCond .eq 7, 3) := by decide +kernel
theorem dX17_plain_175 : decode cX17_plain 175 = .ok (.iconst 1, 1) := by decide +kernel
theorem dX17_plain_176 : decode cX17_plain 176 = .ok (.goto 4, 3) := by decide +kernel
theorem dX17_plain_181 : decode cX17_plain 181 = .ok (.iload_n 2, 1) := by decide +kernel
theorem dX17_plain_182 : decode cX17_plain 182 = .ok (.ifCond .ne 7, 3) := by decide +kernel
theorem dX17_plain_189 : decode cX17_plain 189 = .ok (.iconst 1, 1) := by decide +kernel
theorem dX17_plain_190 : decode cX17_plain 190 = .ok (.goto 4, 3) := by decide +kernel
theorem dX17_plain_194 : decode cX17_plain 194 = .ok (.ireturn, 1) := by decide +kernel
theorem dX17_plain_185 : decode cX17_plain 185 = .ok (.iload_n 3, 1) := by decide +kernel
theorem dX17_plain_186 : decode cX17_plain 186 = .ok (.ifCond .eq 7, 3) := by decide +kernel
theorem dX17_plain_193 : decode cX17_plain 193 = .ok (.iconst 0, 1) := by decide +kernel
theorem dX17_plain_195 : decode cX17_plain 195 = .ok (.iload_n 2, 1) := by decide +kernel
theorem dX17_plain_196 : decode cX17_plain 196 = .ok (.ifCond .ne 7, 3) := by decide +kernel
theorem dX17_plain_203 : decode cX17_plain 203 = .ok (.iconst 0, 1) := by decide +kernel
theorem dX17_plain_204 : decode cX17_plain 204 = .ok (.ireturn, 1) := by decide +kernel
theorem dX17_plain_199 : decode cX17_plain 199 = .ok (.iconst 1, 1) := by decide +kernel
theorem dX17_plain_200 : decode cX17_plain 200 = .ok (.goto 4, 3) := by decide +kernel
theorem dX17_plain_205 : decode cX17_plain 205 = .ok (.iload_n 2, 1) := by decide +kernel
theorem dX17_plain_206 : decode cX17_plain 206 = .ok (.ifCond .eq 7, 3) := by decide +kernel
theorem dX17_plain_213 : decode cX17_plain 213 = .ok (.aload_n 0, 1) := by decide +kernel
theorem dX17_plain_214 : decode cX17_plain 214 = .ok (.iload_n 1, 1) := by decide +kernel
theorem dX17_plain_215 : decode cX17_plain 215 = .ok (.iconst 2, 1) := by decide +kernel
theorem dX17_plain_216 : decode cX17_plain 216 = .ok (.invokevirtual 75, 3) := by decide +kernel
theorem dX17_plain_219 : decode cX17_plain 219 = .ok (.ireturn, 1) := by decide +kernel
theorem dX17_plain_209 : decode cX17_plain 209 = .ok (.iload_n 3, 1) := by decide +kernel
theorem dX17_plain_210 : decode cX17_plain 210 = .ok (.goto 9, 3) := by decide +kernel
theorem dX17_ramp_0 : decode cX17_ramp 0 = .ok (.iload_n 2, 1) := by decide +kernel
theorem dX17_ramp_1 : decode cX17_ramp 1 = .ok (.i2l, 1) := by decide +kernel
theorem dX17_ramp_2 : decode cX17_ramp 2 = .ok (.aload_n 0, 1) := by decide +kernel
theorem dX17_ramp_3 : decode cX17_ramp 3 = .ok (.getfield 28, 3) := by decide +kernel
theorem dX17_ramp_6 : decode cX17_ramp 6 = .ok (.iload_n 1, 1) := by decide +kernel
theorem dX17_ramp_7 : decode cX17_ramp 7 = .ok (.iaload, 1) := by decide +kernel
theorem dX17_ramp_8 : decode cX17_ramp 8 = .ok (.i2l, 1) := by decide +kernel
theorem dX17_ramp_9 : decode cX17_ramp 9 = .ok (.lsub, 1) := by decide +kernel
theorem dX17_ramp_10 : decode cX17_ramp 10 = .ok (.lstore_n 3, 1) := by decide +kernel
theorem dX17_ramp_11 : decode cX17_ramp 11 = .ok (.aload_n 0, 1) := by decide +kernel
theorem dX17_ramp_12 : decode cX17_ramp 12 = .ok (.getfield 13, 3) := by decide +kernel
theorem dX17_ramp_15 : decode cX17_ramp 15 = .ok (.iload_n 1, 1) := by decide +kernel
theorem dX17_ramp_16 : decode cX17_ramp 16 = .ok (.iaload, 1) := by decide +kernel
theorem dX17_ramp_17 : decode cX17_ramp 17 = .ok (.ifCond .ge 7, 3) := by decide +kernel
theorem dX17_ramp_24 : decode cX17_ramp 24 = .ok (.aload_n 0, 1) := by decide +kernel
theorem dX17_ramp_25 : decode cX17_ramp 25 = .ok (.getfield 13, 3) := by decide +kernel
theorem dX17_ramp_28 : decode cX17_ramp 28 = .ok (.iload_n 1, 1) := by decide +kernel
theorem dX17_ramp_29 : decode cX17_ramp 29 = .ok (.iaload, 1) := by decide +kernel
theorem dX17_ramp_30 : decode cX17_ramp 30 = .ok (.i2l, 1) := by decide +kernel
theorem dX17_ramp_31 : decode cX17_ramp 31 = .ok (.lstore 5, 2) := by decide +kernel
theorem dX17_ramp_33 : decode cX17_ramp 33 = .ok (.lload_n 3, 1) := by decide +kernel
theorem dX17_ramp_34 : decode cX17_ramp 34 = .ok (.lload 5, 2) := by decide +kernel
theorem dX17_ramp_36 : decode cX17_ramp 36 = .ok (.lcmp, 1) := by decide +kernel
theorem dX17_ramp_37 : decode cX17_ramp 37 = .ok (.ifCond .le 6, 3) := by decide +kernel
theorem dX17_ramp_43 : decode cX17_ramp 43 = .ok (.lload_n 3, 1) := by decide +kernel
theorem dX17_ramp_44 : decode cX17_ramp 44 = .ok (.lload 5, 2) := by decide +kernel
theorem dX17_ramp_46 : decode cX17_ramp 46 = .ok (.lneg, 1) := by decide +kernel
theorem dX17_ramp_47 : decode cX17_ramp 47 = .ok (.lcmp, 1) := by decide +kernel
theorem dX17_ramp_48 : decode cX17_ramp 48 = .ok (.ifCond .ge 7, 3) := by decide +kernel
theorem dX17_ramp_55 : decode cX17_ramp 55 = .ok (.aload_n 0, 1) := by decide +kernel
theorem dX17_ramp_56 : decode cX17_ramp 56 = .ok (.getfield 28, 3) := by decide +kernel
theorem dX17_ramp_59 : decode cX17_ramp 59 = .ok (.iload_n 1, 1) := by decide +kernel
theorem dX17_ramp_60 : decode cX17_ramp 60 = .ok (.iaload, 1) := by decide +kernel
theorem dX17_ramp_61 : decode cX17_ramp 61 = .ok (.i2l, 1) := by decide +kernel
theorem dX17_ramp_62 : decode cX17_ramp 62 = .ok (.lload_n 3, 1) := by decide +kernel
theorem dX17_ramp_63 : decode cX17_ramp 63 = .ok (.ladd, 1) := by decide +kernel
theorem dX17_ramp_64 : decode cX17_ramp 64 = .ok (.l2i, 1) := by decide +kernel
theorem dX17_ramp_65 : decode cX17_ramp 65 = .ok (.ireturn, 1) := by decide +kernel
theorem dX17_ramp_51 : decode cX17_ramp 51 = .ok (.lload 5, 2) := by decide +kernel
theorem dX17_ramp_53 : decode cX17_ramp 53 = .ok (.lneg, 1) := by decide +kernel
theorem dX17_ramp_54 : decode cX17_ramp 54 = .ok (.lstore_n 3, 1) := by decide +kernel
theorem dX17_ramp_40 : decode cX17_ramp 40 = .ok (.lload 5, 2) := by decide +kernel
theorem dX17_ramp_42 : decode cX17_ramp 42 = .ok (.lstore_n 3, 1) := by decide +kernel
theorem dX17_ramp_20 : decode cX17_ramp 20 = .ok (.lconst 0, 1) := by decide +kernel
theorem dX17_ramp_21 : decode cX17_ramp 21 = .ok (.goto 10, 3) := by decide +kernel
theorem dX17_clock_0 : decode cX17_clock 0 = .ok (.aload_n 0, 1) := by decide +kernel
theorem dX17_clock_1 : decode cX17_clock 1 = .ok (.getfield 79, 3) := by decide +kernel
theorem dX17_clock_4 : decode cX17_clock 4 = .ok (.sipush 1440, 3) := by decide +kernel
theorem dX17_clock_7 : decode cX17_clock 7 = .ok (.irem, 1) := by decide +kernel
theorem dX17_clock_8 : decode cX17_clock 8 = .ok (.istore_n 2, 1) := by decide +kernel
theorem dX17_clock_9 : decode cX17_clock 9 = .ok (.iload_n 2, 1) := by decide +kernel
theorem dX17_clock_10 : decode cX17_clock 10 = .ok (.aload_n 0, 1) := by decide +kernel
theorem dX17_clock_11 : decode cX17_clock 11 = .ok (.getfield 13, 3) := by decide +kernel
theorem dX17_clock_14 : decode cX17_clock 14 = .ok (.iload_n 1, 1) := by decide +kernel
theorem dX17_clock_15 : decode cX17_clock 15 = .ok (.iaload, 1) := by decide +kernel
theorem dX17_clock_16 : decode cX17_clock 16 = .ok (.if_icmp .lt 7, 3) := by decide +kernel
theorem dX17_clock_23 : decode cX17_clock 23 = .ok (.iconst 0, 1) := by decide +kernel
theorem dX17_clock_24 : decode cX17_clock 24 = .ok (.istore_n 3, 1) := by decide +kernel
theorem dX17_clock_25 : decode cX17_clock 25 = .ok (.iload_n 2, 1) := by decide +kernel
theorem dX17_clock_26 : decode cX17_clock 26 = .ok (.aload_n 0, 1) := by decide +kernel
theorem dX17_clock_27 : decode cX17_clock 27 = .ok (.getfield 16, 3) := by decide +kernel
theorem dX17_clock_30 : decode cX17_clock 30 = .ok (.iload_n 1, 1) := by decide +kernel
theorem dX17_clock_31 : decode cX17_clock 31 = .ok (.iaload, 1) := by decide +kernel
theorem dX17_clock_32 : decode cX17_clock 32 = .ok (.if_icmp .ge 7, 3) := by decide +kernel
theorem dX17_clock_39 : decode cX17_clock 39 = .ok (.iconst 0, 1) := by decide +kernel
theorem dX17_clock_40 : decode cX17_clock 40 = .ok (.istore 4, 2) := by decide +kernel
theorem dX17_clock_42 : decode cX17_clock 42 = .ok (.aload_n 0, 1) := by decide +kernel
theorem dX17_clock_43 : decode cX17_clock 43 = .ok (.getfield 13, 3) := by decide +kernel
theorem dX17_clock_46 : decode cX17_clock 46 = .ok (.iload_n 1, 1) := by decide +kernel
theorem dX17_clock_47 : decode cX17_clock 47 = .ok (.iaload, 1) := by decide +kernel
theorem dX17_clock_48 : decode cX17_clock 48 = .ok (.aload_n 0, 1) := by decide +kernel
theorem dX17_clock_49 : decode cX17_clock 49 = .ok (.getfield 16, 3) := by decide +kernel
theorem dX17_clock_52 : decode cX17_clock 52 = .ok (.iload_n 1, 1) := by decide +kernel
theorem dX17_clock_53 : decode cX17_clock 53 = .ok (.iaload, 1) := by decide +kernel
theorem dX17_clock_54 : decode cX17_clock 54 = .ok (.if_icmp .gt 15, 3) := by decide +kernel
theorem dX17_clock_69 : decode cX17_clock 69 = .ok (.iload_n 3, 1) := by decide +kernel
theorem dX17_clock_70 : decode cX17_clock 70 = .ok (.ifCond .ne 8, 3) := by decide +kernel
theorem dX17_clock_78 : decode cX17_clock 78 = .ok (.iconst 1, 1) := by decide +kernel
theorem dX17_clock_79 : decode cX17_clock 79 = .ok (.goto 4, 3) := by decide +kernel
theorem dX17_clock_83 : decode cX17_clock 83 = .ok (.ireturn, 1) := by decide +kernel
theorem dX17_clock_73 : decode cX17_clock 73 = .ok (.iload 4, 2) := by decide +kernel
theorem dX17_clock_75 : decode cX17_clock 75 = .ok (.ifCond .eq 7, 3) := by decide +kernel
theorem dX17_clock_82 : decode cX17_clock 82 = .ok (.iconst 0, 1) := by decide +kernel
theorem dX17_clock_57 : decode cX17_clock 57 = .ok (.iload_n 3, 1) := by decide +kernel
theorem dX17_clock_58 : decode cX17_clock 58 = .ok (.ifCond .eq 24, 3) := by decide +kernel
theorem dX17_clock_61 : decode cX17_clock 61 = .ok (.iload 4, 2) := by decide +kernel
theorem dX17_clock_63 : decode cX17_clock 63 = .ok (.ifCond .eq 19, 3) := by decide +kernel
theorem dX17_clock_66 : decode cX17_clock 66 = .ok (.goto 12, 3) := by decide +kernel
theorem dX17_clock_35 : decode cX17_clock 35 = .ok (.iconst 1, 1) := by decide +kernel
theorem dX17_clock_36 : decode cX17_clock 36 = .ok (.goto 4, 3) := by decide +kernel
theorem dX17_clock_19 : decode cX17_clock 19 = .ok (.iconst 1, 1) := by decide +kernel
theorem dX17_clock_20 : decode cX17_clock 20 = .ok (.goto 4, 3) := by decide +kernel
theorem dX17_pulse_0 : decode cX17_pulse 0 = .ok (.iload_n 2, 1) := by decide +kernel
theorem dX17_pulse_1 : decode cX17_pulse 1 = .ok (.ifCond .eq 24, 3) := by decide +kernel
theorem dX17_pulse_25 : decode cX17_pulse 25 = .ok (.aload_n 0, 1) := by decide +kernel
theorem dX17_pulse_26 : decode cX17_pulse 26 = .ok (.getfield 34, 3) := by decide +kernel
theorem dX17_pulse_29 : decode cX17_pulse 29 = .ok (.iload_n 1, 1) := by decide +kernel
theorem dX17_pulse_30 : decode cX17_pulse 30 = .ok (.iload_n 2, 1) := by decide +kernel
theorem dX17_pulse_31 : decode cX17_pulse 31 = .ok (.iastore, 1) := by decide +kernel
theorem dX17_pulse_32 : decode cX17_pulse 32 = .ok (.aload_n 0, 1) := by decide +kernel
theorem dX17_pulse_33 : decode cX17_pulse 33 = .ok (.getfield 31, 3) := by decide +kernel
theorem dX17_pulse_36 : decode cX17_pulse 36 = .ok (.iload_n 1, 1) := by decide +kernel
theorem dX17_pulse_37 : decode cX17_pulse 37 = .ok (.iaload, 1) := by decide +kernel
theorem dX17_pulse_38 : decode cX17_pulse 38 = .ok (.ifCond .gt 5, 3) := by decide +kernel
theorem dX17_pulse_43 : decode cX17_pulse 43 = .ok (.aload_n 0, 1) := by decide +kernel
theorem dX17_pulse_44 : decode cX17_pulse 44 = .ok (.getfield 31, 3) := by decide +kernel
theorem dX17_pulse_47 : decode cX17_pulse 47 = .ok (.iload_n 1, 1) := by decide +kernel
theorem dX17_pulse_48 : decode cX17_pulse 48 = .ok (.dup2, 1) := by decide +kernel
theorem dX17_pulse_49 : decode cX17_pulse 49 = .ok (.iaload, 1) := by decide +kernel
theorem dX17_pulse_50 : decode cX17_pulse 50 = .ok (.iconst 1, 1) := by decide +kernel
theorem dX17_pulse_51 : decode cX17_pulse 51 = .ok (.isub, 1) := by decide +kernel
theorem dX17_pulse_52 : decode cX17_pulse 52 = .ok (.iastore, 1) := by decide +kernel
theorem dX17_pulse_53 : decode cX17_pulse 53 = .ok (.iconst 1, 1) := by decide +kernel
theorem dX17_pulse_54 : decode cX17_pulse 54 = .ok (.ireturn, 1) := by decide +kernel
theorem dX17_pulse_41 : decode cX17_pulse 41 = .ok (.iconst 0, 1) := by decide +kernel
theorem dX17_pulse_42 : decode cX17_pulse 42 = .ok (.ireturn, 1) := by decide +kernel
theorem dX17_pulse_4 : decode cX17_pulse 4 = .ok (.aload_n 0, 1) := by decide +kernel
theorem dX17_pulse_5 : decode cX17_pulse 5 = .ok (.getfield 34, 3) := by decide +kernel
theorem dX17_pulse_8 : decode cX17_pulse 8 = .ok (.iload_n 1, 1) := by decide +kernel
theorem dX17_pulse_9 : decode cX17_pulse 9 = .ok (.iaload, 1) := by decide +kernel
theorem dX17_pulse_10 : decode cX17_pulse 10 = .ok (.ifCond .ne 15, 3) := by decide +kernel
theorem dX17_pulse_13 : decode cX17_pulse 13 = .ok (.aload_n 0, 1) := by decide +kernel
theorem dX17_pulse_14 : decode cX17_pulse 14 = .ok (.getfield 31, 3) := by decide +kernel
theorem dX17_pulse_17 : decode cX17_pulse 17 = .ok (.iload_n 1, 1) := by decide +kernel
theorem dX17_pulse_18 : decode cX17_pulse 18 = .ok (.aload_n 0, 1) := by decide +kernel
theorem dX17_pulse_19 : decode cX17_pulse 19 = .ok (.getfield 13, 3) := by decide +kernel
theorem dX17_pulse_22 : decode cX17_pulse 22 = .ok (.iload_n 1, 1) := by decide +kernel
theorem dX17_pulse_23 : decode cX17_pulse 23 = .ok (.iaload, 1) := by decide +kernel
theorem dX17_pulse_24 : decode cX17_pulse 24 = .ok (.iastore, 1) := by decide +kernel
theorem dX17_count_0 : decode cX17_count 0 = .ok (.iload_n 3, 1) := by decide +kernel
theorem dX17_count_1 : decode cX17_count 1 = .ok (.ifCond .eq 13, 3) := by decide +kernel
theorem dX17_count_14 : decode cX17_count 14 = .ok (.iload_n 2, 1) := by decide +kernel
theorem dX17_count_15 : decode cX17_count 15 = .ok (.ifCond .eq 22, 3) := by decide +kernel
theorem dX17_count_37 : decode cX17_count 37 = .ok (.aload_n 0, 1) := by decide +kernel
theorem dX17_count_38 : decode cX17_count 38 = .ok (.getfield 34, 3) := by decide +kernel
theorem dX17_count_41 : decode cX17_count 41 = .ok (.iload_n 1, 1) := by decide +kernel
theorem dX17_count_42 : decode cX17_count 42 = .ok (.iload_n 2, 1) := by decide +kernel
theorem dX17_count_43 : decode cX17_count 43 = .ok (.iastore, 1) := by decide +kernel
theorem dX17_count_44 : decode cX17_count 44 = .ok (.aload_n 0, 1) := by decide +kernel
theorem dX17_count_45 : decode cX17_count 45 = .ok (.getfield 31, 3) := by decide +kernel
theorem dX17_count_48 : decode cX17_count 48 = .ok (.iload_n 1, 1) := by decide +kernel
theorem dX17_count_49 : decode cX17_count 49 = .ok (.iaload, 1) := by decide +kernel
theorem dX17_count_50 : decode cX17_count 50 = .ok (.ireturn, 1) := by decide +kernel
theorem dX17_count_18 : decode cX17_count 18 = .ok (.aload_n 0, 1) := by decide +kernel
theorem dX17_count_19 : decode cX17_count 19 = .ok (.getfield 34, 3) := by decide +kernel
theorem dX17_count_22 : decode cX17_count 22 = .ok (.iload_n 1, 1) := by decide +kernel
theorem dX17_count_23 : decode cX17_count 23 = .ok (.iaload, 1) := by decide +kernel
theorem dX17_count_24 : decode cX17_count 24 = .ok (.ifCond .ne 13, 3) := by decide +kernel
theorem dX17_count_27 : decode cX17_count 27 = .ok (.aload_n 0, 1) := by decide +kernel
theorem dX17_count_28 : decode cX17_count 28 = .ok (.getfield 31, 3) := by decide +kernel
theorem dX17_count_31 : decode cX17_count 31 = .ok (.iload_n 1, 1) := by decide +kernel
theorem dX17_count_32 : decode cX17_count 32 = .ok (.dup2, 1) := by decide +kernel
theorem dX17_count_33 : decode cX17_count 33 = .ok (.iaload, 1) := by decide +kernel
theorem dX17_count_34 : decode cX17_count 34 = .ok (.iconst 1, 1) := by decide +kernel
theorem dX17_count_35 : decode cX17_count 35 = .ok (.iadd, 1) := by decide +kernel
theorem dX17_count_36 : decode cX17_count 36 = .ok (.iastore, 1) := by decide +kernel
theorem dX17_count_4 : decode cX17_count 4 = .ok (.aload_n 0, 1) := by decide +kernel
theorem dX17_count_5 : decode cX17_count 5 = .ok (.getfield 31, 3) := by decide +kernel
theorem dX17_count_8 : decode cX17_count 8 = .ok (.iload_n 1, 1) := by decide +kernel
theorem dX17_count_9 : decode cX17_count 9 = .ok (.iconst 0, 1) := by decide +kernel
theorem dX17_count_10 : decode cX17_count 10 = .ok (.iastore, 1) := by decide +kernel
theorem dX17_count_11 : decode cX17_count 11 = .ok (.goto 26, 3) := by decide +kernel
theorem dX17_kept_0 : decode cX17_kept 0 = .ok (.aload_n 0, 1) := by decide +kernel
theorem dX17_kept_1 : decode cX17_kept 1 = .ok (.getfield 7, 3) := by decide +kernel
theorem dX17_kept_4 : decode cX17_kept 4 = .ok (.iload_n 1, 1) := by decide +kernel
theorem dX17_kept_5 : decode cX17_kept 5 = .ok (.iaload, 1) := by decide +kernel
theorem dX17_kept_6 : decode cX17_kept 6 = .ok (.tableswitch 204 16 24 #[50, 57, 64, 72, 107, 113, 120, 160, 175], 50) := by decide +kernel
theorem dX17_kept_210 : decode cX17_kept 210 = .ok (.iload_n 2, 1) := by decide +kernel
theorem dX17_kept_211 : decode cX17_kept 211 = .ok (.ifCond .ne 7, 3) := by decide +kernel
theorem dX17_kept_218 : decode cX17_kept 218 = .ok (.aload_n 0, 1) := by decide +kernel
theorem dX17_kept_219 : decode cX17_kept 219 = .ok (.getfield 31, 3) := by decide +kernel
theorem dX17_kept_222 : decode cX17_kept 222 = .ok (.iload_n 1, 1) := by decide +kernel
theorem dX17_kept_223 : decode cX17_kept 223 = .ok (.iaload, 1) := by decide +kernel
theorem dX17_kept_224 : decode cX17_kept 224 = .ok (.iconst 1, 1) := by decide +kernel
theorem dX17_kept_225 : decode cX17_kept 225 = .ok (.iadd, 1) := by decide +kernel
theorem dX17_kept_226 : decode cX17_kept 226 = .ok (.istore 4, 2) := by decide +kernel
theorem dX17_kept_228 : decode cX17_kept 228 = .ok (.aload_n 0, 1) := by decide +kernel
theorem dX17_kept_229 : decode cX17_kept 229 = .ok (.getfield 31, 3) := by decide +kernel
theorem dX17_kept_232 : decode cX17_kept 232 = .ok (.iload_n 1, 1) := by decide +kernel
theorem dX17_kept_233 : decode cX17_kept 233 = .ok (.iload 4, 2) := by decide +kernel
theorem dX17_kept_235 : decode cX17_kept 235 = .ok (.aload_n 0, 1) := by decide +kernel
theorem dX17_kept_236 : decode cX17_kept 236 = .ok (.getfield 13, 3) := by decide +kernel
theorem dX17_kept_239 : decode cX17_kept 239 = .ok (.iload_n 1, 1) := by decide +kernel
theorem dX17_kept_240 : decode cX17_kept 240 = .ok (.iaload, 1) := by decide +kernel
theorem dX17_kept_241 : decode cX17_kept 241 = .ok (.if_icmp .ge 8, 3) := by decide +kernel
theorem dX17_kept_249 : decode cX17_kept 249 = .ok (.aload_n 0, 1) := by decide +kernel
theorem dX17_kept_250 : decode cX17_kept 250 = .ok (.getfield 13, 3) := by decide +kernel
theorem dX17_kept_253 : decode cX17_kept 253 = .ok (.iload_n 1, 1) := by decide +kernel
theorem dX17_kept_254 : decode cX17_kept 254 = .ok (.iaload, 1) := by decide +kernel
theorem dX17_kept_255 : decode cX17_kept 255 = .ok (.iastore, 1) := by decide +kernel
theorem dX17_kept_256 : decode cX17_kept 256 = .ok (.aload_n 0, 1) := by decide +kernel
theorem dX17_kept_257 : decode cX17_kept 257 = .ok (.getfield 31, 3) := by decide +kernel
theorem dX17_kept_260 : decode cX17_kept 260 = .ok (.iload_n 1, 1) := by decide +kernel
theorem dX17_kept_261 : decode cX17_kept 261 = .ok (.iaload, 1) := by decide +kernel
theorem dX17_kept_262 : decode cX17_kept 262 = .ok (.ireturn, 1) := by decide +kernel
theorem dX17_kept_244 : decode cX17_kept 244 = .ok (.iload 4, 2) := by decide +kernel
theorem dX17_kept_246 : decode cX17_kept 246 = .ok (.goto 9, 3) := by decide +kernel
theorem dX17_kept_214 : decode cX17_kept 214 = .ok (.iconst 0, 1) := by decide +kernel
theorem dX17_kept_215 : decode cX17_kept 215 = .ok (.goto 11, 3) := by decide +kernel
theorem dX17_kept_56 : decode cX17_kept 56 = .ok (.aload_n 0, 1) := by decide +kernel
theorem dX17_kept_57 : decode cX17_kept 57 = .ok (.getfield 31, 3) := by decide +kernel
theorem dX17_kept_60 : decode cX17_kept 60 = .ok (.iload_n 1, 1) := by decide +kernel
theorem dX17_kept_61 : decode cX17_kept 61 = .ok (.iaload, 1) := by decide +kernel
theorem dX17_kept_62 : decode cX17_kept 62 = .ok (.ireturn, 1) := by decide +kernel
theorem dX17_kept_63 : decode cX17_kept 63 = .ok (.aload_n 0, 1) := by decide +kernel
theorem dX17_kept_64 : decode cX17_kept 64 = .ok (.iload_n 1, 1) := by decide +kernel
theorem dX17_kept_65 : decode cX17_kept 65 = .ok (.iload_n 2, 1) := by decide +kernel
theorem dX17_kept_66 : decode cX17_kept 66 = .ok (.invokevirtual 82, 3) := by decide +kernel
theorem dX17_kept_69 : decode cX17_kept 69 = .ok (.ireturn, 1) := by decide +kernel
theorem dX17_kept_70 : decode cX17_kept 70 = .ok (.aload_n 0, 1) := by decide +kernel
theorem dX17_kept_71 : decode cX17_kept 71 = .ok (.iload_n 1, 1) := by decide +kernel
theorem dX17_kept_72 : decode cX17_kept 72 = .ok (.iload_n 2, 1) := by decide +kernel
theorem dX17_kept_73 : decode cX17_kept 73 = .ok (.iload_n 3, 1) := by decide +kernel
theorem dX17_kept_74 : decode cX17_kept 74 = .ok (.invokevirtual 85, 3) := by decide +kernel
theorem dX17_kept_77 : decode cX17_kept 77 = .ok (.ireturn, 1) := by decide +kernel
theorem dX17_kept_78 : decode cX17_kept 78 = .ok (.aload_n 0, 1) := by decide +kernel
theorem dX17_kept_79 : decode cX17_kept 79 = .ok (.getfield 31, 3) := by decide +kernel
theorem dX17_kept_82 : decode cX17_kept 82 = .ok (.iload_n 1, 1) := by decide +kernel
theorem dX17_kept_83 : decode cX17_kept 83 = .ok (.iload_n 2, 1) := by decide +kernel
theorem dX17_kept_84 : decode cX17_kept 84 = .ok (.ifCond .eq 7, 3) := by decide +kernel
theorem dX17_kept_91 : decode cX17_kept 91 = .ok (.iload_n 3, 1) := by decide +kernel
theorem dX17_kept_92 : decode cX17_kept 92 = .ok (.ifCond .eq 7, 3) := by decide +kernel
theorem dX17_kept_99 : decode cX17_kept 99 = .ok (.aload_n 0, 1) := by decide +kernel
theorem dX17_kept_100 : decode cX17_kept 100 = .ok (.getfield 31, 3) := by decide +kernel
theorem dX17_kept_103 : decode cX17_kept 103 = .ok (.iload_n 1, 1) := by decide +kernel
theorem dX17_kept_104 : decode cX17_kept 104 = .ok (.iaload, 1) := by decide +kernel
theorem dX17_kept_105 : decode cX17_kept 105 = .ok (.iastore, 1) := by decide +kernel
theorem dX17_kept_106 : decode cX17_kept 106 = .ok (.aload_n 0, 1) := by decide +kernel
theorem dX17_kept_107 : decode cX17_kept 107 = .ok (.getfield 31, 3) := by decide +kernel
theorem dX17_kept_110 : decode cX17_kept 110 = .ok (.iload_n 1, 1) := by decide +kernel
theorem dX17_kept_111 : decode cX17_kept 111 = .ok (.iaload, 1) := by decide +kernel
theorem dX17_kept_112 : decode cX17_kept 112 = .ok (.ireturn, 1) := by decide +kernel
theorem dX17_kept_95 : decode cX17_kept 95 = .ok (.iconst 0, 1) := by decide +kernel
theorem dX17_kept_96 : decode cX17_kept 96 = .ok (.goto 9, 3) := by decide +kernel
theorem dX17_kept_87 : decode cX17_kept 87 = .ok (.iconst 1, 1) := by decide +kernel
theorem dX17_kept_88 : decode cX17_kept 88 = .ok (.goto 17, 3) := by decide +kernel
theorem dX17_kept_113 : decode cX17_kept 113 = .ok (.aload_n 0, 1) := by decide +kernel
theorem dX17_kept_114 : decode cX17_kept 114 = .ok (.iload_n 1, 1) := by decide +kernel
theorem dX17_kept_115 : decode cX17_kept 115 = .ok (.invokevirtual 89, 3) := by decide +kernel
theorem dX17_kept_118 : decode cX17_kept 118 = .ok (.ireturn, 1) := by decide +kernel
theorem dX17_kept_119 : decode cX17_kept 119 = .ok (.aload_n 0, 1) := by decide +kernel
theorem dX17_kept_120 : decode cX17_kept 120 = .ok (.iload_n 1, 1) := by decide +kernel
theorem dX17_kept_121 : decode cX17_kept 121 = .ok (.iload_n 2, 1) := by decide +kernel
theorem dX17_kept_122 : decode cX17_kept 122 = .ok (.invokevirtual 92, 3) := by decide +kernel
theorem dX17_kept_125 : decode cX17_kept 125 = .ok (.ireturn, 1) := by decide +kernel
theorem dX17_kept_126 : decode cX17_kept 126 = .ok (.iload_n 2, 1) := by decide +kernel
theorem dX17_kept_127 : decode cX17_kept 127 = .ok (.aload_n 0, 1) := by decide +kernel
theorem dX17_kept_128 : decode cX17_kept 128 = .ok (.getfield 13, 3) := by decide +kernel
theorem dX17_kept_131 : decode cX17_kept 131 = .ok (.iload_n 1, 1) := by decide +kernel
theorem dX17_kept_132 : decode cX17_kept 132 = .ok (.iaload, 1) := by decide +kernel
theorem dX17_kept_133 : decode cX17_kept 133 = .ok (.if_icmp .ge 12, 3) := by decide +kernel
theorem dX17_kept_145 : decode cX17_kept 145 = .ok (.iload_n 2, 1) := by decide +kernel
theorem dX17_kept_146 : decode cX17_kept 146 = .ok (.aload_n 0, 1) := by decide +kernel
theorem dX17_kept_147 : decode cX17_kept 147 = .ok (.getfield 16, 3) := by decide +kernel
theorem dX17_kept_150 : decode cX17_kept 150 = .ok (.iload_n 1, 1) := by decide +kernel
theorem dX17_kept_151 : decode cX17_kept 151 = .ok (.iaload, 1) := by decide +kernel
theorem dX17_kept_152 : decode cX17_kept 152 = .ok (.if_icmp .le 12, 3) := by decide +kernel
theorem dX17_kept_164 : decode cX17_kept 164 = .ok (.iload_n 2, 1) := by decide +kernel
theorem dX17_kept_165 : decode cX17_kept 165 = .ok (.ireturn, 1) := by decide +kernel
theorem dX17_kept_155 : decode cX17_kept 155 = .ok (.aload_n 0, 1) := by decide +kernel
theorem dX17_kept_156 : decode cX17_kept 156 = .ok (.getfield 16, 3) := by decide +kernel
theorem dX17_kept_159 : decode cX17_kept 159 = .ok (.iload_n 1, 1) := by decide +kernel
theorem dX17_kept_160 : decode cX17_kept 160 = .ok (.iaload, 1) := by decide +kernel
theorem dX17_kept_161 : decode cX17_kept 161 = .ok (.goto 4, 3) := by decide +kernel
theorem dX17_kept_136 : decode cX17_kept 136 = .ok (.aload_n 0, 1) := by decide +kernel
theorem dX17_kept_137 : decode cX17_kept 137 = .ok (.getfield 13, 3) := by decide +kernel
theorem dX17_kept_140 : decode cX17_kept 140 = .ok (.iload_n 1, 1) := by decide +kernel
theorem dX17_kept_141 : decode cX17_kept 141 = .ok (.iaload, 1) := by decide +kernel
theorem dX17_kept_142 : decode cX17_kept 142 = .ok (.goto 23, 3) := by decide +kernel
theorem dX17_kept_166 : decode cX17_kept 166 = .ok (.iload_n 3, 1) := by decide +kernel
theorem dX17_kept_167 : decode cX17_kept 167 = .ok (.ifCond .eq 12, 3) := by decide +kernel
theorem dX17_kept_179 : decode cX17_kept 179 = .ok (.iload_n 2, 1) := by decide +kernel
theorem dX17_kept_180 : decode cX17_kept 180 = .ok (.ireturn, 1) := by decide +kernel
theorem dX17_kept_170 : decode cX17_kept 170 = .ok (.aload_n 0, 1) := by decide +kernel
theorem dX17_kept_171 : decode cX17_kept 171 = .ok (.getfield 28, 3) := by decide +kernel
theorem dX17_kept_174 : decode cX17_kept 174 = .ok (.iload_n 1, 1) := by decide +kernel
theorem dX17_kept_175 : decode cX17_kept 175 = .ok (.iaload, 1) := by decide +kernel
theorem dX17_kept_176 : decode cX17_kept 176 = .ok (.goto 4, 3) := by decide +kernel
theorem dX17_kept_181 : decode cX17_kept 181 = .ok (.aload_n 0, 1) := by decide +kernel
theorem dX17_kept_182 : decode cX17_kept 182 = .ok (.getfield 31, 3) := by decide +kernel
theorem dX17_kept_185 : decode cX17_kept 185 = .ok (.iload_n 1, 1) := by decide +kernel
theorem dX17_kept_186 : decode cX17_kept 186 = .ok (.iload_n 3, 1) := by decide +kernel
theorem dX17_kept_187 : decode cX17_kept 187 = .ok (.ifCond .eq 7, 3) := by decide +kernel
theorem dX17_kept_194 : decode cX17_kept 194 = .ok (.aload_n 0, 1) := by decide +kernel
theorem dX17_kept_195 : decode cX17_kept 195 = .ok (.getfield 31, 3) := by decide +kernel
theorem dX17_kept_198 : decode cX17_kept 198 = .ok (.iload_n 1, 1) := by decide +kernel
theorem dX17_kept_199 : decode cX17_kept 199 = .ok (.iaload, 1) := by decide +kernel
theorem dX17_kept_200 : decode cX17_kept 200 = .ok (.iload_n 2, 1) := by decide +kernel
theorem dX17_kept_201 : decode cX17_kept 201 = .ok (.iadd, 1) := by decide +kernel
theorem dX17_kept_202 : decode cX17_kept 202 = .ok (.iastore, 1) := by decide +kernel
theorem dX17_kept_203 : decode cX17_kept 203 = .ok (.aload_n 0, 1) := by decide +kernel
theorem dX17_kept_204 : decode cX17_kept 204 = .ok (.getfield 31, 3) := by decide +kernel
theorem dX17_kept_207 : decode cX17_kept 207 = .ok (.iload_n 1, 1) := by decide +kernel
theorem dX17_kept_208 : decode cX17_kept 208 = .ok (.iaload, 1) := by decide +kernel
theorem dX17_kept_209 : decode cX17_kept 209 = .ok (.ireturn, 1) := by decide +kernel
theorem dX17_kept_190 : decode cX17_kept 190 = .ok (.iconst 0, 1) := by decide +kernel
theorem dX17_kept_191 : decode cX17_kept 191 = .ok (.goto 11, 3) := by decide +kernel
theorem dX17_reckon_0 : decode cX17_reckon 0 = .ok (.aload_n 0, 1) := by decide +kernel
theorem dX17_reckon_1 : decode cX17_reckon 1 = .ok (.iload_n 1, 1) := by decide +kernel
theorem dX17_reckon_2 : decode cX17_reckon 2 = .ok (.invokevirtual 95, 3) := by decide +kernel
theorem dX17_reckon_5 : decode cX17_reckon 5 = .ok (.istore_n 2, 1) := by decide +kernel
theorem dX17_reckon_6 : decode cX17_reckon 6 = .ok (.iload_n 2, 1) := by decide +kernel
theorem dX17_reckon_7 : decode cX17_reckon 7 = .ok (.ifCond .le 12, 3) := by decide +kernel
theorem dX17_reckon_19 : decode cX17_reckon 19 = .ok (.aload_n 0, 1) := by decide +kernel
theorem dX17_reckon_20 : decode cX17_reckon 20 = .ok (.getfield 7, 3) := by decide +kernel
theorem dX17_reckon_23 : decode cX17_reckon 23 = .ok (.iload_n 1, 1) := by decide +kernel
theorem dX17_reckon_24 : decode cX17_reckon 24 = .ok (.iaload, 1) := by decide +kernel
theorem dX17_reckon_25 : decode cX17_reckon 25 = .ok (.bipush 16, 2) := by decide +kernel
theorem dX17_reckon_27 : decode cX17_reckon 27 = .ok (.if_icmp .ne 7, 3) := by decide +kernel
theorem dX17_reckon_34 : decode cX17_reckon 34 = .ok (.aload_n 0, 1) := by decide +kernel
theorem dX17_reckon_35 : decode cX17_reckon 35 = .ok (.getfield 7, 3) := by decide +kernel
theorem dX17_reckon_38 : decode cX17_reckon 38 = .ok (.iload_n 1, 1) := by decide +kernel
theorem dX17_reckon_39 : decode cX17_reckon 39 = .ok (.iaload, 1) := by decide +kernel
theorem dX17_reckon_40 : decode cX17_reckon 40 = .ok (.invokestatic 59, 3) := by decide +kernel
theorem dX17_reckon_43 : decode cX17_reckon 43 = .ok (.istore_n 3, 1) := by decide +kernel
theorem dX17_reckon_44 : decode cX17_reckon 44 = .ok (.iload_n 3, 1) := by decide +kernel
theorem dX17_reckon_45 : decode cX17_reckon 45 = .ok (.ifCond .le 12, 3) := by decide +kernel
theorem dX17_reckon_57 : decode cX17_reckon 57 = .ok (.iconst 0, 1) := by decide +kernel
theorem dX17_reckon_58 : decode cX17_reckon 58 = .ok (.istore 4, 2) := by decide +kernel
theorem dX17_reckon_60 : decode cX17_reckon 60 = .ok (.iload_n 3, 1) := by decide +kernel
theorem dX17_reckon_61 : decode cX17_reckon 61 = .ok (.iconst 1, 1) := by decide +kernel
theorem dX17_reckon_62 : decode cX17_reckon 62 = .ok (.if_icmp .le 12, 3) := by decide +kernel
theorem dX17_reckon_74 : decode cX17_reckon 74 = .ok (.iconst 0, 1) := by decide +kernel
theorem dX17_reckon_75 : decode cX17_reckon 75 = .ok (.istore 5, 2) := by decide +kernel
theorem dX17_reckon_77 : decode cX17_reckon 77 = .ok (.aload_n 0, 1) := by decide +kernel
theorem dX17_reckon_78 : decode cX17_reckon 78 = .ok (.getfield 28, 3) := by decide +kernel
theorem dX17_reckon_81 : decode cX17_reckon 81 = .ok (.iload_n 1, 1) := by decide +kernel
theorem dX17_reckon_82 : decode cX17_reckon 82 = .ok (.aload_n 0, 1) := by decide +kernel
theorem dX17_reckon_83 : decode cX17_reckon 83 = .ok (.getfield 7, 3) := by decide +kernel
theorem dX17_reckon_86 : decode cX17_reckon 86 = .ok (.iload_n 1, 1) := by decide +kernel
theorem dX17_reckon_87 : decode cX17_reckon 87 = .ok (.iaload, 1) := by decide +kernel
theorem dX17_reckon_88 : decode cX17_reckon 88 = .ok (.bipush 16, 2) := by decide +kernel
theorem dX17_reckon_90 : decode cX17_reckon 90 = .ok (.if_icmp .ge 15, 3) := by decide +kernel
theorem dX17_reckon_105 : decode cX17_reckon 105 = .ok (.aload_n 0, 1) := by decide +kernel
theorem dX17_reckon_106 : decode cX17_reckon 106 = .ok (.iload_n 1, 1) := by decide +kernel
theorem dX17_reckon_107 : decode cX17_reckon 107 = .ok (.iload 4, 2) := by decide +kernel
theorem dX17_reckon_109 : decode cX17_reckon 109 = .ok (.iload 5, 2) := by decide +kernel
theorem dX17_reckon_111 : decode cX17_reckon 111 = .ok (.invokevirtual 105, 3) := by decide +kernel
theorem dX17_reckon_114 : decode cX17_reckon 114 = .ok (.iastore, 1) := by decide +kernel
theorem dX17_reckon_115 : decode cX17_reckon 115 = .ok (.aload_n 0, 1) := by decide +kernel
theorem dX17_reckon_116 : decode cX17_reckon 116 = .ok (.getfield 28, 3) := by decide +kernel
theorem dX17_reckon_119 : decode cX17_reckon 119 = .ok (.iload_n 1, 1) := by decide +kernel
theorem dX17_reckon_120 : decode cX17_reckon 120 = .ok (.aload_n 0, 1) := by decide +kernel
theorem dX17_reckon_121 : decode cX17_reckon 121 = .ok (.getfield 37, 3) := by decide +kernel
theorem dX17_reckon_124 : decode cX17_reckon 124 = .ok (.iload_n 1, 1) := by decide +kernel
theorem dX17_reckon_125 : decode cX17_reckon 125 = .ok (.baload, 1) := by decide +kernel
theorem dX17_reckon_126 : decode cX17_reckon 126 = .ok (.ifCond .eq 12, 3) := by decide +kernel
theorem dX17_reckon_138 : decode cX17_reckon 138 = .ok (.aload_n 0, 1) := by decide +kernel
theorem dX17_reckon_139 : decode cX17_reckon 139 = .ok (.getfield 28, 3) := by decide +kernel
theorem dX17_reckon_142 : decode cX17_reckon 142 = .ok (.iload_n 1, 1) := by decide +kernel
theorem dX17_reckon_143 : decode cX17_reckon 143 = .ok (.iaload, 1) := by decide +kernel
theorem dX17_reckon_144 : decode cX17_reckon 144 = .ok (.iastore, 1) := by decide +kernel
theorem dX17_reckon_145 : decode cX17_reckon 145 = .ok (.return_, 1) := by decide +kernel
theorem dX17_reckon_129 : decode cX17_reckon 129 = .ok (.aload_n 0, 1) := by decide +kernel
theorem dX17_reckon_130 : decode cX17_reckon 130 = .ok (.getfield 41, 3) := by decide +kernel
theorem dX17_reckon_133 : decode cX17_reckon 133 = .ok (.iload_n 1, 1) := by decide +kernel
theorem dX17_reckon_134 : decode cX17_reckon 134 = .ok (.iaload, 1) := by decide +kernel
theorem dX17_reckon_135 : decode cX17_reckon 135 = .ok (.goto 9, 3) := by decide +kernel
theorem dX17_reckon_93 : decode cX17_reckon 93 = .ok (.aload_n 0, 1) := by decide +kernel
theorem dX17_reckon_94 : decode cX17_reckon 94 = .ok (.iload_n 1, 1) := by decide +kernel
theorem dX17_reckon_95 : decode cX17_reckon 95 = .ok (.iload 4, 2) := by decide +kernel
theorem dX17_reckon_97 : decode cX17_reckon 97 = .ok (.iload 5, 2) := by decide +kernel
theorem dX17_reckon_99 : decode cX17_reckon 99 = .ok (.invokevirtual 102, 3) := by decide +kernel
theorem dX17_reckon_102 : decode cX17_reckon 102 = .ok (.goto 12, 3) := by decide +kernel
theorem dX17_reckon_65 : decode cX17_reckon 65 = .ok (.aload_n 0, 1) := by decide +kernel
theorem dX17_reckon_66 : decode cX17_reckon 66 = .ok (.iload_n 1, 1) := by decide +kernel
theorem dX17_reckon_67 : decode cX17_reckon 67 = .ok (.iconst 1, 1) := by decide +kernel
theorem dX17_reckon_68 : decode cX17_reckon 68 = .ok (.invokevirtual 75, 3) := by decide +kernel
theorem dX17_reckon_71 : decode cX17_reckon 71 = .ok (.goto 4, 3) := by decide +kernel
theorem dX17_reckon_48 : decode cX17_reckon 48 = .ok (.aload_n 0, 1) := by decide +kernel
theorem dX17_reckon_49 : decode cX17_reckon 49 = .ok (.iload_n 1, 1) := by decide +kernel
theorem dX17_reckon_50 : decode cX17_reckon 50 = .ok (.iconst 0, 1) := by decide +kernel
theorem dX17_reckon_51 : decode cX17_reckon 51 = .ok (.invokevirtual 75, 3) := by decide +kernel
theorem dX17_reckon_54 : decode cX17_reckon 54 = .ok (.goto 4, 3) := by decide +kernel
theorem dX17_reckon_30 : decode cX17_reckon 30 = .ok (.iconst 0, 1) := by decide +kernel
theorem dX17_reckon_31 : decode cX17_reckon 31 = .ok (.goto 12, 3) := by decide +kernel
theorem dX17_reckon_10 : decode cX17_reckon 10 = .ok (.aload_n 0, 1) := by decide +kernel
theorem dX17_reckon_11 : decode cX17_reckon 11 = .ok (.iload_n 1, 1) := by decide +kernel
theorem dX17_reckon_12 : decode cX17_reckon 12 = .ok (.iload_n 2, 1) := by decide +kernel
theorem dX17_reckon_13 : decode cX17_reckon 13 = .ok (.invokevirtual 98, 3) := by decide +kernel
theorem dX17_reckon_16 : decode cX17_reckon 16 = .ok (.goto 99, 3) := by decide +kernel
theorem dX17_tick_0 : decode cX17_tick 0 = .ok (.aload_n 0, 1) := by decide +kernel
theorem dX17_tick_1 : decode cX17_tick 1 = .ok (.invokevirtual 71, 3) := by decide +kernel
theorem dX17_tick_4 : decode cX17_tick 4 = .ok (.aload_n 0, 1) := by decide +kernel
theorem dX17_tick_5 : decode cX17_tick 5 = .ok (.getfield 63, 3) := by decide +kernel
theorem dX17_tick_8 : decode cX17_tick 8 = .ok (.if_icmp .lt 10, 3) := by decide +kernel
theorem dX17_tick_18 : decode cX17_tick 18 = .ok (.return_, 1) := by decide +kernel
theorem dX17_tick_11 : decode cX17_tick 11 = .ok (.aload_n 0, 1) := by decide +kernel
theorem dX17_tick_12 : decode cX17_tick 12 = .ok (.getfield 108, 3) := by decide +kernel
theorem dX17_tick_15 : decode cX17_tick 15 = .ok (.ifCond .eq 4, 3) := by decide +kernel
theorem dX17_tick_19 : decode cX17_tick 19 = .ok (.iconst 0, 1) := by decide +kernel
theorem dX17_tick_20 : decode cX17_tick 20 = .ok (.istore_n 1, 1) := by decide +kernel
theorem dX17_tick_21 : decode cX17_tick 21 = .ok (.iload_n 1, 1) := by decide +kernel
theorem dX17_tick_22 : decode cX17_tick 22 = .ok (.aload_n 0, 1) := by decide +kernel
theorem dX17_tick_23 : decode cX17_tick 23 = .ok (.getfield 63, 3) := by decide +kernel
theorem dX17_tick_26 : decode cX17_tick 26 = .ok (.if_icmp .ge 19, 3) := by decide +kernel
theorem dX17_tick_29 : decode cX17_tick 29 = .ok (.aload_n 0, 1) := by decide +kernel
theorem dX17_tick_30 : decode cX17_tick 30 = .ok (.aload_n 0, 1) := by decide +kernel
theorem dX17_tick_31 : decode cX17_tick 31 = .ok (.getfield 50, 3) := by decide +kernel
theorem dX17_tick_34 : decode cX17_tick 34 = .ok (.iload_n 1, 1) := by decide +kernel
theorem dX17_tick_35 : decode cX17_tick 35 = .ok (.iaload, 1) := by decide +kernel
theorem dX17_tick_36 : decode cX17_tick 36 = .ok (.invokevirtual 112, 3) := by decide +kernel
theorem dX17_tick_39 : decode cX17_tick 39 = .ok (.iinc 1 1, 3) := by decide +kernel
theorem dX17_tick_42 : decode cX17_tick 42 = .ok (.goto (-21), 3) := by decide +kernel
theorem dX17_tick_45 : decode cX17_tick 45 = .ok (.iconst 0, 1) := by decide +kernel
theorem dX17_tick_46 : decode cX17_tick 46 = .ok (.istore_n 1, 1) := by decide +kernel
theorem dX17_tick_47 : decode cX17_tick 47 = .ok (.iload_n 1, 1) := by decide +kernel
theorem dX17_tick_48 : decode cX17_tick 48 = .ok (.aload_n 0, 1) := by decide +kernel
theorem dX17_tick_49 : decode cX17_tick 49 = .ok (.getfield 63, 3) := by decide +kernel
theorem dX17_tick_52 : decode cX17_tick 52 = .ok (.if_icmp .ge 93, 3) := by decide +kernel
theorem dX17_tick_55 : decode cX17_tick 55 = .ok (.aload_n 0, 1) := by decide +kernel
theorem dX17_tick_56 : decode cX17_tick 56 = .ok (.getfield 7, 3) := by decide +kernel
theorem dX17_tick_59 : decode cX17_tick 59 = .ok (.iload_n 1, 1) := by decide +kernel
theorem dX17_tick_60 : decode cX17_tick 60 = .ok (.iaload, 1) := by decide +kernel
theorem dX17_tick_61 : decode cX17_tick 61 = .ok (.bipush 16, 2) := by decide +kernel
theorem dX17_tick_63 : decode cX17_tick 63 = .ok (.if_icmp .ne 53, 3) := by decide +kernel
theorem dX17_tick_116 : decode cX17_tick 116 = .ok (.aload_n 0, 1) := by decide +kernel
theorem dX17_tick_117 : decode cX17_tick 117 = .ok (.getfield 7, 3) := by decide +kernel
theorem dX17_tick_120 : decode cX17_tick 120 = .ok (.iload_n 1, 1) := by decide +kernel
theorem dX17_tick_121 : decode cX17_tick 121 = .ok (.iaload, 1) := by decide +kernel
theorem dX17_tick_122 : decode cX17_tick 122 = .ok (.bipush 16, 2) := by decide +kernel
theorem dX17_tick_124 : decode cX17_tick 124 = .ok (.if_icmp .ne 15, 3) := by decide +kernel
theorem dX17_tick_139 : decode cX17_tick 139 = .ok (.iinc 1 1, 3) := by decide +kernel
theorem dX17_tick_142 : decode cX17_tick 142 = .ok (.goto (-95), 3) := by decide +kernel
theorem dX17_tick_127 : decode cX17_tick 127 = .ok (.aload_n 0, 1) := by decide +kernel
theorem dX17_tick_128 : decode cX17_tick 128 = .ok (.getfield 31, 3) := by decide +kernel
theorem dX17_tick_131 : decode cX17_tick 131 = .ok (.iload_n 1, 1) := by decide +kernel
theorem dX17_tick_132 : decode cX17_tick 132 = .ok (.aload_n 0, 1) := by decide +kernel
theorem dX17_tick_133 : decode cX17_tick 133 = .ok (.iload_n 1, 1) := by decide +kernel
theorem dX17_tick_134 : decode cX17_tick 134 = .ok (.iconst 0, 1) := by decide +kernel
theorem dX17_tick_135 : decode cX17_tick 135 = .ok (.invokevirtual 75, 3) := by decide +kernel
theorem dX17_tick_138 : decode cX17_tick 138 = .ok (.iastore, 1) := by decide +kernel
theorem dX17_tick_66 : decode cX17_tick 66 = .ok (.aload_n 0, 1) := by decide +kernel
theorem dX17_tick_67 : decode cX17_tick 67 = .ok (.getfield 22, 3) := by decide +kernel
theorem dX17_tick_70 : decode cX17_tick 70 = .ok (.iconst 3, 1) := by decide +kernel
theorem dX17_tick_71 : decode cX17_tick 71 = .ok (.iload_n 1, 1) := by decide +kernel
theorem dX17_tick_72 : decode cX17_tick 72 = .ok (.imul, 1) := by decide +kernel
theorem dX17_tick_73 : decode cX17_tick 73 = .ok (.iaload, 1) := by decide +kernel
theorem dX17_tick_74 : decode cX17_tick 74 = .ok (.ifCond .ge 42, 3) := by decide +kernel
theorem dX17_tick_77 : decode cX17_tick 77 = .ok (.aload_n 0, 1) := by decide +kernel
theorem dX17_tick_78 : decode cX17_tick 78 = .ok (.iload_n 1, 1) := by decide +kernel
theorem dX17_tick_79 : decode cX17_tick 79 = .ok (.iconst 3, 1) := by decide +kernel
theorem dX17_tick_80 : decode cX17_tick 80 = .ok (.invokevirtual 98, 3) := by decide +kernel
theorem dX17_tick_83 : decode cX17_tick 83 = .ok (.aload_n 0, 1) := by decide +kernel
theorem dX17_tick_84 : decode cX17_tick 84 = .ok (.getfield 28, 3) := by decide +kernel
theorem dX17_tick_87 : decode cX17_tick 87 = .ok (.iload_n 1, 1) := by decide +kernel
theorem dX17_tick_88 : decode cX17_tick 88 = .ok (.aload_n 0, 1) := by decide +kernel
theorem dX17_tick_89 : decode cX17_tick 89 = .ok (.getfield 37, 3) := by decide +kernel
theorem dX17_tick_92 : decode cX17_tick 92 = .ok (.iload_n 1, 1) := by decide +kernel
theorem dX17_tick_93 : decode cX17_tick 93 = .ok (.baload, 1) := by decide +kernel
theorem dX17_tick_94 : decode cX17_tick 94 = .ok (.ifCond .eq 12, 3) := by decide +kernel
theorem dX17_tick_106 : decode cX17_tick 106 = .ok (.aload_n 0, 1) := by decide +kernel
theorem dX17_tick_107 : decode cX17_tick 107 = .ok (.getfield 28, 3) := by decide +kernel
theorem dX17_tick_110 : decode cX17_tick 110 = .ok (.iload_n 1, 1) := by decide +kernel
theorem dX17_tick_111 : decode cX17_tick 111 = .ok (.iaload, 1) := by decide +kernel
theorem dX17_tick_112 : decode cX17_tick 112 = .ok (.iastore, 1) := by decide +kernel
theorem dX17_tick_113 : decode cX17_tick 113 = .ok (.goto 26, 3) := by decide +kernel
theorem dX17_tick_97 : decode cX17_tick 97 = .ok (.aload_n 0, 1) := by decide +kernel
theorem dX17_tick_98 : decode cX17_tick 98 = .ok (.getfield 41, 3) := by decide +kernel
theorem dX17_tick_101 : decode cX17_tick 101 = .ok (.iload_n 1, 1) := by decide +kernel
theorem dX17_tick_102 : decode cX17_tick 102 = .ok (.iaload, 1) := by decide +kernel
theorem dX17_tick_103 : decode cX17_tick 103 = .ok (.goto 9, 3) := by decide +kernel
theorem dX17_tick_145 : decode cX17_tick 145 = .ok (.aload_n 0, 1) := by decide +kernel
theorem dX17_tick_146 : decode cX17_tick 146 = .ok (.aload_n 0, 1) := by decide +kernel
theorem dX17_tick_147 : decode cX17_tick 147 = .ok (.getfield 56, 3) := by decide +kernel
theorem dX17_tick_150 : decode cX17_tick 150 = .ok (.iconst 0, 1) := by decide +kernel
theorem dX17_tick_151 : decode cX17_tick 151 = .ok (.iaload, 1) := by decide +kernel
theorem dX17_tick_152 : decode cX17_tick 152 = .ok (.sipush 20000, 3) := by decide +kernel
theorem dX17_tick_155 : decode cX17_tick 155 = .ok (.if_icmp .lt 7, 3) := by decide +kernel
theorem dX17_tick_162 : decode cX17_tick 162 = .ok (.iconst 0, 1) := by decide +kernel
theorem dX17_tick_163 : decode cX17_tick 163 = .ok (.putfield 108, 3) := by decide +kernel
theorem dX17_tick_166 : decode cX17_tick 166 = .ok (.return_, 1) := by decide +kernel
theorem dX17_tick_158 : decode cX17_tick 158 = .ok (.iconst 1, 1) := by decide +kernel
theorem dX17_tick_159 : decode cX17_tick 159 = .ok (.goto 4, 3) := by decide +kernel
theorem dX18_thrown_0 : decode cX18_thrown 0 = .ok (.aload_n 0, 1) := by decide +kernel
theorem dX18_thrown_1 : decode cX18_thrown 1 = .ok (.getfield 184, 3) := by decide +kernel
theorem dX18_thrown_4 : decode cX18_thrown 4 = .ok (.ireturn, 1) := by decide +kernel
theorem dX18_goes_0 : decode cX18_goes 0 = .ok (.aload_n 0, 1) := by decide +kernel
theorem dX18_goes_1 : decode cX18_goes 1 = .ok (.iload_n 1, 1) := by decide +kernel
theorem dX18_goes_2 : decode cX18_goes 2 = .ok (.ifCond .ne 7, 3) := by decide +kernel
theorem dX18_goes_9 : decode cX18_goes 9 = .ok (.iload_n 2, 1) := by decide +kernel
theorem dX18_goes_10 : decode cX18_goes 10 = .ok (.ifCond .ne 7, 3) := by decide +kernel
theorem dX18_goes_17 : decode cX18_goes 17 = .ok (.iconst 0, 1) := by decide +kernel
theorem dX18_goes_18 : decode cX18_goes 18 = .ok (.putfield 184, 3) := by decide +kernel
theorem dX18_goes_21 : decode cX18_goes 21 = .ok (.aload_n 0, 1) := by decide +kernel
theorem dX18_goes_22 : decode cX18_goes 22 = .ok (.getfield 184, 3) := by decide +kernel
theorem dX18_goes_25 : decode cX18_goes 25 = .ok (.ifCond .ne 7, 3) := by decide +kernel
theorem dX18_goes_32 : decode cX18_goes 32 = .ok (.iconst 0, 1) := by decide +kernel
theorem dX18_goes_33 : decode cX18_goes 33 = .ok (.ireturn, 1) := by decide +kernel
theorem dX18_goes_28 : decode cX18_goes 28 = .ok (.iconst 1, 1) := by decide +kernel
theorem dX18_goes_29 : decode cX18_goes 29 = .ok (.goto 4, 3) := by decide +kernel
theorem dX18_goes_13 : decode cX18_goes 13 = .ok (.iconst 2, 1) := by decide +kernel
theorem dX18_goes_14 : decode cX18_goes 14 = .ok (.goto 4, 3) := by decide +kernel
theorem dX18_goes_5 : decode cX18_goes 5 = .ok (.iconst 1, 1) := by decide +kernel
theorem dX18_goes_6 : decode cX18_goes 6 = .ok (.goto 12, 3) := by decide +kernel
theorem dX18_stays_0 : decode cX18_stays 0 = .ok (.aload_n 0, 1) := by decide +kernel
theorem dX18_stays_1 : decode cX18_stays 1 = .ok (.iload_n 1, 1) := by decide +kernel
theorem dX18_stays_2 : decode cX18_stays 2 = .ok (.ifCond .eq 7, 3) := by decide +kernel
theorem dX18_stays_9 : decode cX18_stays 9 = .ok (.iconst 1, 1) := by decide +kernel
theorem dX18_stays_10 : decode cX18_stays 10 = .ok (.putfield 184, 3) := by decide +kernel
theorem dX18_stays_13 : decode cX18_stays 13 = .ok (.iload_n 1, 1) := by decide +kernel
theorem dX18_stays_14 : decode cX18_stays 14 = .ok (.ireturn, 1) := by decide +kernel
theorem dX18_stays_5 : decode cX18_stays 5 = .ok (.iconst 0, 1) := by decide +kernel
theorem dX18_stays_6 : decode cX18_stays 6 = .ok (.goto 4, 3) := by decide +kernel
theorem dX18_isIn_0 : decode cX18_isIn 0 = .ok (.iload_n 0, 1) := by decide +kernel
theorem dX18_isIn_1 : decode cX18_isIn 1 = .ok (.ifCond .lt 12, 3) := by decide +kernel
theorem dX18_isIn_13 : decode cX18_isIn 13 = .ok (.iconst 0, 1) := by decide +kernel
theorem dX18_isIn_14 : decode cX18_isIn 14 = .ok (.ireturn, 1) := by decide +kernel
theorem dX18_isIn_4 : decode cX18_isIn 4 = .ok (.iload_n 0, 1) := by decide +kernel
theorem dX18_isIn_5 : decode cX18_isIn 5 = .ok (.iload_n 1, 1) := by decide +kernel
theorem dX18_isIn_6 : decode cX18_isIn 6 = .ok (.if_icmp .ge 7, 3) := by decide +kernel
theorem dX18_isIn_9 : decode cX18_isIn 9 = .ok (.iconst 1, 1) := by decide +kernel
theorem dX18_isIn_10 : decode cX18_isIn 10 = .ok (.goto 4, 3) := by decide +kernel
theorem dX18_line_0 : decode cX18_line 0 = .ok (.iload_n 1, 1) := by decide +kernel
theorem dX18_line_1 : decode cX18_line 1 = .ok (.invokestatic 188, 3) := by decide +kernel
theorem dX18_line_4 : decode cX18_line 4 = .ok (.ifCond .eq 49, 3) := by decide +kernel
theorem dX18_line_53 : decode cX18_line 53 = .ok (.iconst 0, 1) := by decide +kernel
theorem dX18_line_54 : decode cX18_line 54 = .ok (.istore 5, 2) := by decide +kernel
theorem dX18_line_56 : decode cX18_line 56 = .ok (.aload_n 0, 1) := by decide +kernel
theorem dX18_line_57 : decode cX18_line 57 = .ok (.iload 5, 2) := by decide +kernel
theorem dX18_line_59 : decode cX18_line 59 = .ok (.aload_n 0, 1) := by decide +kernel
theorem dX18_line_60 : decode cX18_line 60 = .ok (.getfield 192, 3) := by decide +kernel
theorem dX18_line_63 : decode cX18_line 63 = .ok (.ifCond .ne 19, 3) := by decide +kernel
theorem dX18_line_82 : decode cX18_line 82 = .ok (.iconst 0, 1) := by decide +kernel
theorem dX18_line_83 : decode cX18_line 83 = .ok (.invokevirtual 199, 3) := by decide +kernel
theorem dX18_line_86 : decode cX18_line 86 = .ok (.ifCond .eq 18, 3) := by decide +kernel
theorem dX18_line_104 : decode cX18_line 104 = .ok (.iconst 0, 1) := by decide +kernel
theorem dX18_line_105 : decode cX18_line 105 = .ok (.ireturn, 1) := by decide +kernel
theorem dX18_line_89 : decode cX18_line 89 = .ok (.aload_n 0, 1) := by decide +kernel
theorem dX18_line_90 : decode cX18_line 90 = .ok (.getfield 12, 3) := by decide +kernel
theorem dX18_line_93 : decode cX18_line 93 = .ok (.iload_n 1, 1) := by decide +kernel
theorem dX18_line_94 : decode cX18_line 94 = .ok (.iload_n 2, 1) := by decide +kernel
theorem dX18_line_95 : decode cX18_line 95 = .ok (.iload_n 3, 1) := by decide +kernel
theorem dX18_line_96 : decode cX18_line 96 = .ok (.iload 4, 2) := by decide +kernel
theorem dX18_line_98 : decode cX18_line 98 = .ok (.invokevirtual 203, 3) := by decide +kernel
theorem dX18_line_101 : decode cX18_line 101 = .ok (.goto 4, 3) := by decide +kernel
theorem dX18_line_66 : decode cX18_line 66 = .ok (.aload_n 0, 1) := by decide +kernel
theorem dX18_line_67 : decode cX18_line 67 = .ok (.getfield 12, 3) := by decide +kernel
theorem dX18_line_70 : decode cX18_line 70 = .ok (.getfield 196, 3) := by decide +kernel
theorem dX18_line_73 : decode cX18_line 73 = .ok (.bipush 20, 2) := by decide +kernel
theorem dX18_line_75 : decode cX18_line 75 = .ok (.if_icmp .ge 7, 3) := by decide +kernel
theorem dX18_line_78 : decode cX18_line 78 = .ok (.iconst 1, 1) := by decide +kernel
theorem dX18_line_79 : decode cX18_line 79 = .ok (.goto 4, 3) := by decide +kernel
theorem dX18_line_7 : decode cX18_line 7 = .ok (.iload_n 2, 1) := by decide +kernel
theorem dX18_line_8 : decode cX18_line 8 = .ok (.invokestatic 188, 3) := by decide +kernel
theorem dX18_line_11 : decode cX18_line 11 = .ok (.ifCond .eq 42, 3) := by decide +kernel
theorem dX18_line_14 : decode cX18_line 14 = .ok (.iload_n 3, 1) := by decide +kernel
theorem dX18_line_15 : decode cX18_line 15 = .ok (.invokestatic 188, 3) := by decide +kernel
theorem dX18_line_18 : decode cX18_line 18 = .ok (.ifCond .eq 35, 3) := by decide +kernel
theorem dX18_line_21 : decode cX18_line 21 = .ok (.iload 4, 2) := by decide +kernel
theorem dX18_line_23 : decode cX18_line 23 = .ok (.invokestatic 188, 3) := by decide +kernel
theorem dX18_line_26 : decode cX18_line 26 = .ok (.ifCond .eq 27, 3) := by decide +kernel
theorem dX18_line_29 : decode cX18_line 29 = .ok (.iload_n 1, 1) := by decide +kernel
theorem dX18_line_30 : decode cX18_line 30 = .ok (.iload_n 3, 1) := by decide +kernel
theorem dX18_line_31 : decode cX18_line 31 = .ok (.if_icmp .ne 12, 3) := by decide +kernel
theorem dX18_line_43 : decode cX18_line 43 = .ok (.iload_n 2, 1) := by decide +kernel
theorem dX18_line_44 : decode cX18_line 44 = .ok (.iload 4, 2) := by decide +kernel
theorem dX18_line_46 : decode cX18_line 46 = .ok (.if_icmp .ne 7, 3) := by decide +kernel
theorem dX18_line_49 : decode cX18_line 49 = .ok (.iconst 1, 1) := by decide +kernel
theorem dX18_line_50 : decode cX18_line 50 = .ok (.goto 4, 3) := by decide +kernel
theorem dX18_line_34 : decode cX18_line 34 = .ok (.iload_n 2, 1) := by decide +kernel
theorem dX18_line_35 : decode cX18_line 35 = .ok (.iload 4, 2) := by decide +kernel
theorem dX18_line_37 : decode cX18_line 37 = .ok (.if_icmp .eq 16, 3) := by decide +kernel
theorem dX18_line_40 : decode cX18_line 40 = .ok (.goto 9, 3) := by decide +kernel
theorem dX18_move_0 : decode cX18_move 0 = .ok (.aload_n 0, 1) := by decide +kernel
theorem dX18_move_1 : decode cX18_move 1 = .ok (.iload_n 1, 1) := by decide +kernel
theorem dX18_move_2 : decode cX18_move 2 = .ok (.aload_n 0, 1) := by decide +kernel
theorem dX18_move_3 : decode cX18_move 3 = .ok (.getfield 12, 3) := by decide +kernel
theorem dX18_move_6 : decode cX18_move 6 = .ok (.getfield 196, 3) := by decide +kernel
theorem dX18_move_9 : decode cX18_move 9 = .ok (.invokestatic 207, 3) := by decide +kernel
theorem dX18_move_12 : decode cX18_move 12 = .ok (.ifCond .eq 20, 3) := by decide +kernel
theorem dX18_move_32 : decode cX18_move 32 = .ok (.iconst 0, 1) := by decide +kernel
theorem dX18_move_33 : decode cX18_move 33 = .ok (.aload_n 0, 1) := by decide +kernel
theorem dX18_move_34 : decode cX18_move 34 = .ok (.getfield 192, 3) := by decide +kernel
theorem dX18_move_37 : decode cX18_move 37 = .ok (.ifCond .ne 7, 3) := by decide +kernel
theorem dX18_move_44 : decode cX18_move 44 = .ok (.iconst 0, 1) := by decide +kernel
theorem dX18_move_45 : decode cX18_move 45 = .ok (.invokevirtual 199, 3) := by decide +kernel
theorem dX18_move_48 : decode cX18_move 48 = .ok (.ifCond .eq 20, 3) := by decide +kernel
theorem dX18_move_68 : decode cX18_move 68 = .ok (.iconst 0, 1) := by decide +kernel
theorem dX18_move_69 : decode cX18_move 69 = .ok (.ireturn, 1) := by decide +kernel
theorem dX18_move_51 : decode cX18_move 51 = .ok (.aload_n 0, 1) := by decide +kernel
theorem dX18_move_52 : decode cX18_move 52 = .ok (.getfield 12, 3) := by decide +kernel
theorem dX18_move_55 : decode cX18_move 55 = .ok (.iload_n 1, 1) := by decide +kernel
theorem dX18_move_56 : decode cX18_move 56 = .ok (.iload_n 2, 1) := by decide +kernel
theorem dX18_move_57 : decode cX18_move 57 = .ok (.iload_n 3, 1) := by decide +kernel
theorem dX18_move_58 : decode cX18_move 58 = .ok (.invokevirtual 214, 3) := by decide +kernel
theorem dX18_move_61 : decode cX18_move 61 = .ok (.ifCond .eq 7, 3) := by decide +kernel
theorem dX18_move_64 : decode cX18_move 64 = .ok (.iconst 1, 1) := by decide +kernel
theorem dX18_move_65 : decode cX18_move 65 = .ok (.goto 4, 3) := by decide +kernel
theorem dX18_move_40 : decode cX18_move 40 = .ok (.iconst 1, 1) := by decide +kernel
theorem dX18_move_41 : decode cX18_move 41 = .ok (.goto 4, 3) := by decide +kernel
theorem dX18_move_15 : decode cX18_move 15 = .ok (.aload_n 0, 1) := by decide +kernel
theorem dX18_move_16 : decode cX18_move 16 = .ok (.getfield 12, 3) := by decide +kernel
theorem dX18_move_19 : decode cX18_move 19 = .ok (.iload_n 1, 1) := by decide +kernel
theorem dX18_move_20 : decode cX18_move 20 = .ok (.iload_n 2, 1) := by decide +kernel
theorem dX18_move_21 : decode cX18_move 21 = .ok (.iload_n 3, 1) := by decide +kernel
theorem dX18_move_22 : decode cX18_move 22 = .ok (.invokevirtual 210, 3) := by decide +kernel
theorem dX18_move_25 : decode cX18_move 25 = .ok (.ifCond .eq 7, 3) := by decide +kernel
theorem dX18_move_28 : decode cX18_move 28 = .ok (.iconst 1, 1) := by decide +kernel
theorem dX18_move_29 : decode cX18_move 29 = .ok (.goto 4, 3) := by decide +kernel
theorem dX18_door_0 : decode cX18_door 0 = .ok (.iload_n 1, 1) := by decide +kernel
theorem dX18_door_1 : decode cX18_door 1 = .ok (.aload_n 0, 1) := by decide +kernel
theorem dX18_door_2 : decode cX18_door 2 = .ok (.getfield 12, 3) := by decide +kernel
theorem dX18_door_5 : decode cX18_door 5 = .ok (.getfield 196, 3) := by decide +kernel
theorem dX18_door_8 : decode cX18_door 8 = .ok (.invokestatic 207, 3) := by decide +kernel
theorem dX18_door_11 : decode cX18_door 11 = .ok (.ifCond .eq 40, 3) := by decide +kernel
theorem dX18_door_51 : decode cX18_door 51 = .ok (.iconst 0, 1) := by decide +kernel
theorem dX18_door_52 : decode cX18_door 52 = .ok (.istore 5, 2) := by decide +kernel
theorem dX18_door_54 : decode cX18_door 54 = .ok (.aload_n 0, 1) := by decide +kernel
theorem dX18_door_55 : decode cX18_door 55 = .ok (.iload 5, 2) := by decide +kernel
theorem dX18_door_57 : decode cX18_door 57 = .ok (.aload_n 0, 1) := by decide +kernel
theorem dX18_door_58 : decode cX18_door 58 = .ok (.getfield 192, 3) := by decide +kernel
theorem dX18_door_61 : decode cX18_door 61 = .ok (.ifCond .ne 26, 3) := by decide +kernel
theorem dX18_door_87 : decode cX18_door 87 = .ok (.iconst 0, 1) := by decide +kernel
theorem dX18_door_88 : decode cX18_door 88 = .ok (.invokevirtual 199, 3) := by decide +kernel
theorem dX18_door_91 : decode cX18_door 91 = .ok (.ifCond .eq 18, 3) := by decide +kernel
theorem dX18_door_109 : decode cX18_door 109 = .ok (.iconst 0, 1) := by decide +kernel
theorem dX18_door_110 : decode cX18_door 110 = .ok (.ireturn, 1) := by decide +kernel
theorem dX18_door_94 : decode cX18_door 94 = .ok (.aload_n 0, 1) := by decide +kernel
theorem dX18_door_95 : decode cX18_door 95 = .ok (.getfield 12, 3) := by decide +kernel
theorem dX18_door_98 : decode cX18_door 98 = .ok (.iload_n 1, 1) := by decide +kernel
theorem dX18_door_99 : decode cX18_door 99 = .ok (.iload_n 2, 1) := by decide +kernel
theorem dX18_door_100 : decode cX18_door 100 = .ok (.iload_n 3, 1) := by decide +kernel
theorem dX18_door_101 : decode cX18_door 101 = .ok (.iload 4, 2) := by decide +kernel
theorem dX18_door_103 : decode cX18_door 103 = .ok (.invokevirtual 224, 3) := by decide +kernel
theorem dX18_door_106 : decode cX18_door 106 = .ok (.goto 4, 3) := by decide +kernel
theorem dX18_door_64 : decode cX18_door 64 = .ok (.iload 5, 2) := by decide +kernel
theorem dX18_door_66 : decode cX18_door 66 = .ok (.ifCond .eq 17, 3) := by decide +kernel
theorem dX18_door_83 : decode cX18_door 83 = .ok (.iconst 1, 1) := by decide +kernel
theorem dX18_door_84 : decode cX18_door 84 = .ok (.goto 4, 3) := by decide +kernel
theorem dX18_door_69 : decode cX18_door 69 = .ok (.aload_n 0, 1) := by decide +kernel
theorem dX18_door_70 : decode cX18_door 70 = .ok (.getfield 12, 3) := by decide +kernel
theorem dX18_door_73 : decode cX18_door 73 = .ok (.getfield 221, 3) := by decide +kernel
theorem dX18_door_76 : decode cX18_door 76 = .ok (.iload_n 1, 1) := by decide +kernel
theorem dX18_door_77 : decode cX18_door 77 = .ok (.iaload, 1) := by decide +kernel
theorem dX18_door_78 : decode cX18_door 78 = .ok (.bipush 6, 2) := by decide +kernel
theorem dX18_door_80 : decode cX18_door 80 = .ok (.if_icmp .ge 7, 3) := by decide +kernel
theorem dX18_door_14 : decode cX18_door 14 = .ok (.iload_n 2, 1) := by decide +kernel
theorem dX18_door_15 : decode cX18_door 15 = .ok (.ifCond .lt 36, 3) := by decide +kernel
theorem dX18_door_18 : decode cX18_door 18 = .ok (.iload_n 2, 1) := by decide +kernel
theorem dX18_door_19 : decode cX18_door 19 = .ok (.iload_n 3, 1) := by decide +kernel
theorem dX18_door_20 : decode cX18_door 20 = .ok (.if_icmp .ge 31, 3) := by decide +kernel
theorem dX18_door_23 : decode cX18_door 23 = .ok (.iload_n 3, 1) := by decide +kernel
theorem dX18_door_24 : decode cX18_door 24 = .ok (.aload_n 0, 1) := by decide +kernel
theorem dX18_door_25 : decode cX18_door 25 = .ok (.getfield 12, 3) := by decide +kernel
theorem dX18_door_28 : decode cX18_door 28 = .ok (.iload_n 1, 1) := by decide +kernel
theorem dX18_door_29 : decode cX18_door 29 = .ok (.invokevirtual 217, 3) := by decide +kernel
theorem dX18_door_32 : decode cX18_door 32 = .ok (.if_icmp .gt 19, 3) := by decide +kernel
theorem dX18_door_35 : decode cX18_door 35 = .ok (.iload 4, 2) := by decide +kernel
theorem dX18_door_37 : decode cX18_door 37 = .ok (.iconst 1, 1) := by decide +kernel
theorem dX18_door_38 : decode cX18_door 38 = .ok (.if_icmp .lt 13, 3) := by decide +kernel
theorem dX18_door_41 : decode cX18_door 41 = .ok (.iload 4, 2) := by decide +kernel
theorem dX18_door_43 : decode cX18_door 43 = .ok (.iconst 5, 1) := by decide +kernel
theorem dX18_door_44 : decode cX18_door 44 = .ok (.if_icmp .gt 7, 3) := by decide +kernel
theorem dX18_door_47 : decode cX18_door 47 = .ok (.iconst 1, 1) := by decide +kernel
theorem dX18_door_48 : decode cX18_door 48 = .ok (.goto 4, 3) := by decide +kernel
theorem dX18_find_0 : decode cX18_find 0 = .ok (.aload_n 0, 1) := by decide +kernel
theorem dX18_find_1 : decode cX18_find 1 = .ok (.aload_n 0, 1) := by decide +kernel
theorem dX18_find_2 : decode cX18_find 2 = .ok (.getfield 192, 3) := by decide +kernel
theorem dX18_find_5 : decode cX18_find 5 = .ok (.ifCond .ne 19, 3) := by decide +kernel
theorem dX18_find_24 : decode cX18_find 24 = .ok (.iconst 0, 1) := by decide +kernel
theorem dX18_find_25 : decode cX18_find 25 = .ok (.invokevirtual 230, 3) := by decide +kernel
theorem dX18_find_28 : decode cX18_find 28 = .ok (.ifCond .eq 13, 3) := by decide +kernel
theorem dX18_find_41 : decode cX18_find 41 = .ok (.iconst 0, 1) := by decide +kernel
theorem dX18_find_42 : decode cX18_find 42 = .ok (.ireturn, 1) := by decide +kernel
theorem dX18_find_31 : decode cX18_find 31 = .ok (.aload_n 0, 1) := by decide +kernel
theorem dX18_find_32 : decode cX18_find 32 = .ok (.getfield 12, 3) := by decide +kernel
theorem dX18_find_35 : decode cX18_find 35 = .ok (.invokevirtual 234, 3) := by decide +kernel
theorem dX18_find_38 : decode cX18_find 38 = .ok (.goto 4, 3) := by decide +kernel
theorem dX18_find_8 : decode cX18_find 8 = .ok (.aload_n 0, 1) := by decide +kernel
theorem dX18_find_9 : decode cX18_find 9 = .ok (.getfield 12, 3) := by decide +kernel
theorem dX18_find_12 : decode cX18_find 12 = .ok (.getfield 227, 3) := by decide +kernel
theorem dX18_find_15 : decode cX18_find 15 = .ok (.bipush 60, 2) := by decide +kernel
theorem dX18_find_17 : decode cX18_find 17 = .ok (.if_icmp .ge 7, 3) := by decide +kernel
theorem dX18_find_20 : decode cX18_find 20 = .ok (.iconst 1, 1) := by decide +kernel
theorem dX18_find_21 : decode cX18_find 21 = .ok (.goto 4, 3) := by decide +kernel
theorem dX18_count_0 : decode cX18_count 0 = .ok (.aload_n 0, 1) := by decide +kernel
theorem dX18_count_1 : decode cX18_count 1 = .ok (.iload_n 1, 1) := by decide +kernel
theorem dX18_count_2 : decode cX18_count 2 = .ok (.iconst 4, 1) := by decide +kernel
theorem dX18_count_3 : decode cX18_count 3 = .ok (.invokestatic 207, 3) := by decide +kernel
theorem dX18_count_6 : decode cX18_count 6 = .ok (.aload_n 0, 1) := by decide +kernel
theorem dX18_count_7 : decode cX18_count 7 = .ok (.getfield 12, 3) := by decide +kernel
theorem dX18_count_10 : decode cX18_count 10 = .ok (.getfield 238, 3) := by decide +kernel
theorem dX18_count_13 : decode cX18_count 13 = .ok (.invokevirtual 199, 3) := by decide +kernel
theorem dX18_count_16 : decode cX18_count 16 = .ok (.ifCond .ne 5, 3) := by decide +kernel
theorem dX18_count_21 : decode cX18_count 21 = .ok (.iload_n 1, 1) := by decide +kernel
theorem dX18_count_22 : decode cX18_count 22 = .ok (.ifCond .ne 13, 3) := by decide +kernel
theorem dX18_count_35 : decode cX18_count 35 = .ok (.iload_n 1, 1) := by decide +kernel
theorem dX18_count_36 : decode cX18_count 36 = .ok (.iconst 1, 1) := by decide +kernel
theorem dX18_count_37 : decode cX18_count 37 = .ok (.if_icmp .ne 13, 3) := by decide +kernel
theorem dX18_count_50 : decode cX18_count 50 = .ok (.iload_n 1, 1) := by decide +kernel
theorem dX18_count_51 : decode cX18_count 51 = .ok (.iconst 2, 1) := by decide +kernel
theorem dX18_count_52 : decode cX18_count 52 = .ok (.if_icmp .ne 13, 3) := by decide +kernel
theorem dX18_count_65 : decode cX18_count 65 = .ok (.aload_n 0, 1) := by decide +kernel
theorem dX18_count_66 : decode cX18_count 66 = .ok (.getfield 12, 3) := by decide +kernel
theorem dX18_count_69 : decode cX18_count 69 = .ok (.invokevirtual 250, 3) := by decide +kernel
theorem dX18_count_72 : decode cX18_count 72 = .ok (.ireturn, 1) := by decide +kernel
theorem dX18_count_55 : decode cX18_count 55 = .ok (.aload_n 0, 1) := by decide +kernel
theorem dX18_count_56 : decode cX18_count 56 = .ok (.getfield 12, 3) := by decide +kernel
theorem dX18_count_59 : decode cX18_count 59 = .ok (.getfield 247, 3) := by decide +kernel
theorem dX18_count_62 : decode cX18_count 62 = .ok (.goto 10, 3) := by decide +kernel
theorem dX18_count_40 : decode cX18_count 40 = .ok (.aload_n 0, 1) := by decide +kernel
theorem dX18_count_41 : decode cX18_count 41 = .ok (.getfield 12, 3) := by decide +kernel
theorem dX18_count_44 : decode cX18_count 44 = .ok (.getfield 244, 3) := by decide +kernel
theorem dX18_count_47 : decode cX18_count 47 = .ok (.goto 25, 3) := by decide +kernel
theorem dX18_count_25 : decode cX18_count 25 = .ok (.aload_n 0, 1) := by decide +kernel
theorem dX18_count_26 : decode cX18_count 26 = .ok (.getfield 12, 3) := by decide +kernel
theorem dX18_count_29 : decode cX18_count 29 = .ok (.getfield 241, 3) := by decide +kernel
theorem dX18_count_32 : decode cX18_count 32 = .ok (.goto 40, 3) := by decide +kernel
theorem dX18_count_19 : decode cX18_count 19 = .ok (.iconst 0, 1) := by decide +kernel
theorem dX18_count_20 : decode cX18_count 20 = .ok (.ireturn, 1) := by decide +kernel
theorem dX18_sides_0 : decode cX18_sides 0 = .ok (.aload_n 0, 1) := by decide +kernel
theorem dX18_sides_1 : decode cX18_sides 1 = .ok (.aload_n 0, 1) := by decide +kernel
theorem dX18_sides_2 : decode cX18_sides 2 = .ok (.getfield 12, 3) := by decide +kernel
theorem dX18_sides_5 : decode cX18_sides 5 = .ok (.iload_n 1, 1) := by decide +kernel
theorem dX18_sides_6 : decode cX18_sides 6 = .ok (.invokevirtual 253, 3) := by decide +kernel
theorem dX18_sides_9 : decode cX18_sides 9 = .ok (.ifCond .eq 11, 3) := by decide +kernel
theorem dX18_sides_20 : decode cX18_sides 20 = .ok (.iconst 0, 1) := by decide +kernel
theorem dX18_sides_21 : decode cX18_sides 21 = .ok (.aload_n 0, 1) := by decide +kernel
theorem dX18_sides_22 : decode cX18_sides 22 = .ok (.getfield 12, 3) := by decide +kernel
theorem dX18_sides_25 : decode cX18_sides 25 = .ok (.getfield 238, 3) := by decide +kernel
theorem dX18_sides_28 : decode cX18_sides 28 = .ok (.invokevirtual 199, 3) := by decide +kernel
theorem dX18_sides_31 : decode cX18_sides 31 = .ok (.ifCond .eq 15, 3) := by decide +kernel
theorem dX18_sides_46 : decode cX18_sides 46 = .ok (.iconst 0, 1) := by decide +kernel
theorem dX18_sides_47 : decode cX18_sides 47 = .ok (.ireturn, 1) := by decide +kernel
theorem dX18_sides_34 : decode cX18_sides 34 = .ok (.aload_n 0, 1) := by decide +kernel
theorem dX18_sides_35 : decode cX18_sides 35 = .ok (.getfield 12, 3) := by decide +kernel
theorem dX18_sides_38 : decode cX18_sides 38 = .ok (.iload_n 1, 1) := by decide +kernel
theorem dX18_sides_39 : decode cX18_sides 39 = .ok (.iload_n 2, 1) := by decide +kernel
theorem dX18_sides_40 : decode cX18_sides 40 = .ok (.invokevirtual 256, 3) := by decide +kernel
theorem dX18_sides_43 : decode cX18_sides 43 = .ok (.goto 4, 3) := by decide +kernel
theorem dX18_sides_12 : decode cX18_sides 12 = .ok (.iload_n 2, 1) := by decide +kernel
theorem dX18_sides_13 : decode cX18_sides 13 = .ok (.ifCond .lt 7, 3) := by decide +kernel
theorem dX18_sides_16 : decode cX18_sides 16 = .ok (.iconst 1, 1) := by decide +kernel
theorem dX18_sides_17 : decode cX18_sides 17 = .ok (.goto 4, 3) := by decide +kernel
theorem dX18_side_0 : decode cX18_side 0 = .ok (.aload_n 0, 1) := by decide +kernel
theorem dX18_side_1 : decode cX18_side 1 = .ok (.getfield 12, 3) := by decide +kernel
theorem dX18_side_4 : decode cX18_side 4 = .ok (.iload_n 1, 1) := by decide +kernel
theorem dX18_side_5 : decode cX18_side 5 = .ok (.invokevirtual 253, 3) := by decide +kernel
theorem dX18_side_8 : decode cX18_side 8 = .ok (.ifCond .eq 38, 3) := by decide +kernel
theorem dX18_side_46 : decode cX18_side 46 = .ok (.iconst 0, 1) := by decide +kernel
theorem dX18_side_47 : decode cX18_side 47 = .ok (.istore 5, 2) := by decide +kernel
theorem dX18_side_49 : decode cX18_side 49 = .ok (.aload_n 0, 1) := by decide +kernel
theorem dX18_side_50 : decode cX18_side 50 = .ok (.iload 5, 2) := by decide +kernel
theorem dX18_side_52 : decode cX18_side 52 = .ok (.aload_n 0, 1) := by decide +kernel
theorem dX18_side_53 : decode cX18_side 53 = .ok (.getfield 12, 3) := by decide +kernel
theorem dX18_side_56 : decode cX18_side 56 = .ok (.getfield 238, 3) := by decide +kernel
theorem dX18_side_59 : decode cX18_side 59 = .ok (.invokevirtual 199, 3) := by decide +kernel
theorem dX18_side_62 : decode cX18_side 62 = .ok (.ifCond .eq 18, 3) := by decide +kernel
theorem dX18_side_80 : decode cX18_side 80 = .ok (.iconst 0, 1) := by decide +kernel
theorem dX18_side_81 : decode cX18_side 81 = .ok (.ireturn, 1) := by decide +kernel
theorem dX18_side_65 : decode cX18_side 65 = .ok (.aload_n 0, 1) := by decide +kernel
theorem dX18_side_66 : decode cX18_side 66 = .ok (.getfield 12, 3) := by decide +kernel
theorem dX18_side_69 : decode cX18_side 69 = .ok (.iload_n 1, 1) := by decide +kernel
theorem dX18_side_70 : decode cX18_side 70 = .ok (.iload_n 2, 1) := by decide +kernel
theorem dX18_side_71 : decode cX18_side 71 = .ok (.iload_n 3, 1) := by decide +kernel
theorem dX18_side_72 : decode cX18_side 72 = .ok (.iload 4, 2) := by decide +kernel
theorem dX18_side_74 : decode cX18_side 74 = .ok (.invokevirtual 260, 3) := by decide +kernel
theorem dX18_side_77 : decode cX18_side 77 = .ok (.goto 4, 3) := by decide +kernel
theorem dX18_side_11 : decode cX18_side 11 = .ok (.iload_n 2, 1) := by decide +kernel
theorem dX18_side_12 : decode cX18_side 12 = .ok (.ifCond .lt 34, 3) := by decide +kernel
theorem dX18_side_15 : decode cX18_side 15 = .ok (.iload_n 3, 1) := by decide +kernel
theorem dX18_side_16 : decode cX18_side 16 = .ok (.ifCond .lt 30, 3) := by decide +kernel
theorem dX18_side_19 : decode cX18_side 19 = .ok (.iload_n 3, 1) := by decide +kernel
theorem dX18_side_20 : decode cX18_side 20 = .ok (.aload_n 0, 1) := by decide +kernel
theorem dX18_side_21 : decode cX18_side 21 = .ok (.getfield 12, 3) := by decide +kernel
theorem dX18_side_24 : decode cX18_side 24 = .ok (.iload_n 1, 1) := by decide +kernel
theorem dX18_side_25 : decode cX18_side 25 = .ok (.iload_n 2, 1) := by decide +kernel
theorem dX18_side_26 : decode cX18_side 26 = .ok (.invokevirtual 256, 3) := by decide +kernel
theorem dX18_side_29 : decode cX18_side 29 = .ok (.if_icmp .ge 17, 3) := by decide +kernel
theorem dX18_side_32 : decode cX18_side 32 = .ok (.iload 4, 2) := by decide +kernel
theorem dX18_side_34 : decode cX18_side 34 = .ok (.bipush 6, 2) := by decide +kernel
theorem dX18_side_36 : decode cX18_side 36 = .ok (.invokestatic 207, 3) := by decide +kernel
theorem dX18_side_39 : decode cX18_side 39 = .ok (.ifCond .eq 7, 3) := by decide +kernel
theorem dX18_side_42 : decode cX18_side 42 = .ok (.iconst 1, 1) := by decide +kernel
theorem dX18_side_43 : decode cX18_side 43 = .ok (.goto 4, 3) := by decide +kernel
theorem dX18_size_0 : decode cX18_size 0 = .ok (.aload_n 0, 1) := by decide +kernel
theorem dX18_size_1 : decode cX18_size 1 = .ok (.aload_n 0, 1) := by decide +kernel
theorem dX18_size_2 : decode cX18_size 2 = .ok (.getfield 12, 3) := by decide +kernel
theorem dX18_size_5 : decode cX18_size 5 = .ok (.iload_n 1, 1) := by decide +kernel
theorem dX18_size_6 : decode cX18_size 6 = .ok (.invokevirtual 253, 3) := by decide +kernel
theorem dX18_size_9 : decode cX18_size 9 = .ok (.ifCond .eq 15, 3) := by decide +kernel
theorem dX18_size_24 : decode cX18_size 24 = .ok (.iconst 0, 1) := by decide +kernel
theorem dX18_size_25 : decode cX18_size 25 = .ok (.aload_n 0, 1) := by decide +kernel
theorem dX18_size_26 : decode cX18_size 26 = .ok (.getfield 12, 3) := by decide +kernel
theorem dX18_size_29 : decode cX18_size 29 = .ok (.getfield 238, 3) := by decide +kernel
theorem dX18_size_32 : decode cX18_size 32 = .ok (.invokevirtual 199, 3) := by decide +kernel
theorem dX18_size_35 : decode cX18_size 35 = .ok (.ifCond .eq 15, 3) := by decide +kernel
theorem dX18_size_50 : decode cX18_size 50 = .ok (.iconst 0, 1) := by decide +kernel
theorem dX18_size_51 : decode cX18_size 51 = .ok (.ireturn, 1) := by decide +kernel
theorem dX18_size_38 : decode cX18_size 38 = .ok (.aload_n 0, 1) := by decide +kernel
theorem dX18_size_39 : decode cX18_size 39 = .ok (.getfield 12, 3) := by decide +kernel
theorem dX18_size_42 : decode cX18_size 42 = .ok (.iload_n 1, 1) := by decide +kernel
theorem dX18_size_43 : decode cX18_size 43 = .ok (.iload_n 2, 1) := by decide +kernel
theorem dX18_size_44 : decode cX18_size 44 = .ok (.invokevirtual 263, 3) := by decide +kernel
theorem dX18_size_47 : decode cX18_size 47 = .ok (.goto 4, 3) := by decide +kernel
theorem dX18_size_12 : decode cX18_size 12 = .ok (.iload_n 2, 1) := by decide +kernel
theorem dX18_size_13 : decode cX18_size 13 = .ok (.iconst 3, 1) := by decide +kernel
theorem dX18_size_14 : decode cX18_size 14 = .ok (.invokestatic 207, 3) := by decide +kernel
theorem dX18_size_17 : decode cX18_size 17 = .ok (.ifCond .eq 7, 3) := by decide +kernel
theorem dX18_size_20 : decode cX18_size 20 = .ok (.iconst 1, 1) := by decide +kernel
theorem dX18_size_21 : decode cX18_size 21 = .ok (.goto 4, 3) := by decide +kernel
theorem dX18_isCell_0 : decode cX18_isCell 0 = .ok (.iload_n 0, 1) := by decide +kernel
theorem dX18_isCell_1 : decode cX18_isCell 1 = .ok (.bipush 24, 2) := by decide +kernel
theorem dX18_isCell_3 : decode cX18_isCell 3 = .ok (.invokestatic 207, 3) := by decide +kernel
theorem dX18_isCell_6 : decode cX18_isCell 6 = .ok (.ifCond .eq 16, 3) := by decide +kernel
theorem dX18_isCell_22 : decode cX18_isCell 22 = .ok (.iconst 0, 1) := by decide +kernel
theorem dX18_isCell_23 : decode cX18_isCell 23 = .ok (.ireturn, 1) := by decide +kernel
theorem dX18_isCell_9 : decode cX18_isCell 9 = .ok (.iload_n 1, 1) := by decide +kernel
theorem dX18_isCell_10 : decode cX18_isCell 10 = .ok (.bipush 24, 2) := by decide +kernel
theorem dX18_isCell_12 : decode cX18_isCell 12 = .ok (.invokestatic 207, 3) := by decide +kernel
theorem dX18_isCell_15 : decode cX18_isCell 15 = .ok (.ifCond .eq 7, 3) := by decide +kernel
theorem dX18_isCell_18 : decode cX18_isCell 18 = .ok (.iconst 1, 1) := by decide +kernel
theorem dX18_isCell_19 : decode cX18_isCell 19 = .ok (.goto 4, 3) := by decide +kernel
theorem dX18_at_0 : decode cX18_at 0 = .ok (.aload_n 0, 1) := by decide +kernel
theorem dX18_at_1 : decode cX18_at 1 = .ok (.iload_n 1, 1) := by decide +kernel
theorem dX18_at_2 : decode cX18_at 2 = .ok (.iload_n 2, 1) := by decide +kernel
theorem dX18_at_3 : decode cX18_at 3 = .ok (.invokestatic 266, 3) := by decide +kernel
theorem dX18_at_6 : decode cX18_at 6 = .ok (.aload_n 0, 1) := by decide +kernel
theorem dX18_at_7 : decode cX18_at 7 = .ok (.getfield 12, 3) := by decide +kernel
theorem dX18_at_10 : decode cX18_at 10 = .ok (.getfield 238, 3) := by decide +kernel
theorem dX18_at_13 : decode cX18_at 13 = .ok (.invokevirtual 199, 3) := by decide +kernel
theorem dX18_at_16 : decode cX18_at 16 = .ok (.ifCond .eq 15, 3) := by decide +kernel
theorem dX18_at_31 : decode cX18_at 31 = .ok (.iconst 0, 1) := by decide +kernel
theorem dX18_at_32 : decode cX18_at 32 = .ok (.ireturn, 1) := by decide +kernel
theorem dX18_at_19 : decode cX18_at 19 = .ok (.aload_n 0, 1) := by decide +kernel
theorem dX18_at_20 : decode cX18_at 20 = .ok (.getfield 12, 3) := by decide +kernel
theorem dX18_at_23 : decode cX18_at 23 = .ok (.iload_n 1, 1) := by decide +kernel
theorem dX18_at_24 : decode cX18_at 24 = .ok (.iload_n 2, 1) := by decide +kernel
theorem dX18_at_25 : decode cX18_at 25 = .ok (.invokevirtual 269, 3) := by decide +kernel
theorem dX18_at_28 : decode cX18_at 28 = .ok (.goto 4, 3) := by decide +kernel
theorem dX18_between_0 : decode cX18_between 0 = .ok (.aload_n 0, 1) := by decide +kernel
theorem dX18_between_1 : decode cX18_between 1 = .ok (.aload_n 0, 1) := by decide +kernel
theorem dX18_between_2 : decode cX18_between 2 = .ok (.getfield 12, 3) := by decide +kernel
theorem dX18_between_5 : decode cX18_between 5 = .ok (.iload_n 1, 1) := by decide +kernel
theorem dX18_between_6 : decode cX18_between 6 = .ok (.invokevirtual 253, 3) := by decide +kernel
theorem dX18_between_9 : decode cX18_between 9 = .ok (.ifCond .eq 18, 3) := by decide +kernel
theorem dX18_between_27 : decode cX18_between 27 = .ok (.iconst 0, 1) := by decide +kernel
theorem dX18_between_28 : decode cX18_between 28 = .ok (.aload_n 0, 1) := by decide +kernel
theorem dX18_between_29 : decode cX18_between 29 = .ok (.getfield 12, 3) := by decide +kernel
theorem dX18_between_32 : decode cX18_between 32 = .ok (.getfield 238, 3) := by decide +kernel
theorem dX18_between_35 : decode cX18_between 35 = .ok (.invokevirtual 199, 3) := by decide +kernel
theorem dX18_between_38 : decode cX18_between 38 = .ok (.ifCond .eq 15, 3) := by decide +kernel
theorem dX18_between_53 : decode cX18_between 53 = .ok (.iconst 0, 1) := by decide +kernel
theorem dX18_between_54 : decode cX18_between 54 = .ok (.ireturn, 1) := by decide +kernel
theorem dX18_between_41 : decode cX18_between 41 = .ok (.aload_n 0, 1) := by decide +kernel
theorem dX18_between_42 : decode cX18_between 42 = .ok (.getfield 12, 3) := by decide +kernel
theorem dX18_between_45 : decode cX18_between 45 = .ok (.iload_n 1, 1) := by decide +kernel
theorem dX18_between_46 : decode cX18_between 46 = .ok (.iload_n 2, 1) := by decide +kernel
theorem dX18_between_47 : decode cX18_between 47 = .ok (.invokevirtual 275, 3) := by decide +kernel
theorem dX18_between_50 : decode cX18_between 50 = .ok (.goto 4, 3) := by decide +kernel
theorem dX18_between_12 : decode cX18_between 12 = .ok (.aload_n 0, 1) := by decide +kernel
theorem dX18_between_13 : decode cX18_between 13 = .ok (.getfield 12, 3) := by decide +kernel
theorem dX18_between_16 : decode cX18_between 16 = .ok (.iload_n 2, 1) := by decide +kernel
theorem dX18_between_17 : decode cX18_between 17 = .ok (.invokevirtual 272, 3) := by decide +kernel
theorem dX18_between_20 : decode cX18_between 20 = .ok (.ifCond .eq 7, 3) := by decide +kernel
theorem dX18_between_23 : decode cX18_between 23 = .ok (.iconst 1, 1) := by decide +kernel
theorem dX18_between_24 : decode cX18_between 24 = .ok (.goto 4, 3) := by decide +kernel
theorem dX18_way_0 : decode cX18_way 0 = .ok (.aload_n 0, 1) := by decide +kernel
theorem dX18_way_1 : decode cX18_way 1 = .ok (.aload_n 0, 1) := by decide +kernel
theorem dX18_way_2 : decode cX18_way 2 = .ok (.getfield 12, 3) := by decide +kernel
theorem dX18_way_5 : decode cX18_way 5 = .ok (.iload_n 1, 1) := by decide +kernel
theorem dX18_way_6 : decode cX18_way 6 = .ok (.invokevirtual 272, 3) := by decide +kernel
theorem dX18_way_9 : decode cX18_way 9 = .ok (.ifCond .eq 18, 3) := by decide +kernel
theorem dX18_way_27 : decode cX18_way 27 = .ok (.iconst 0, 1) := by decide +kernel
theorem dX18_way_28 : decode cX18_way 28 = .ok (.aload_n 0, 1) := by decide +kernel
theorem dX18_way_29 : decode cX18_way 29 = .ok (.getfield 12, 3) := by decide +kernel
theorem dX18_way_32 : decode cX18_way 32 = .ok (.getfield 238, 3) := by decide +kernel
theorem dX18_way_35 : decode cX18_way 35 = .ok (.invokevirtual 199, 3) := by decide +kernel
theorem dX18_way_38 : decode cX18_way 38 = .ok (.ifCond .eq 15, 3) := by decide +kernel
theorem dX18_way_53 : decode cX18_way 53 = .ok (.iconst 0, 1) := by decide +kernel
theorem dX18_way_54 : decode cX18_way 54 = .ok (.ireturn, 1) := by decide +kernel
theorem dX18_way_41 : decode cX18_way 41 = .ok (.aload_n 0, 1) := by decide +kernel
theorem dX18_way_42 : decode cX18_way 42 = .ok (.getfield 12, 3) := by decide +kernel
theorem dX18_way_45 : decode cX18_way 45 = .ok (.iload_n 1, 1) := by decide +kernel
theorem dX18_way_46 : decode cX18_way 46 = .ok (.iload_n 2, 1) := by decide +kernel
theorem dX18_way_47 : decode cX18_way 47 = .ok (.invokevirtual 278, 3) := by decide +kernel
theorem dX18_way_50 : decode cX18_way 50 = .ok (.goto 4, 3) := by decide +kernel
theorem dX18_way_12 : decode cX18_way 12 = .ok (.aload_n 0, 1) := by decide +kernel
theorem dX18_way_13 : decode cX18_way 13 = .ok (.getfield 12, 3) := by decide +kernel
theorem dX18_way_16 : decode cX18_way 16 = .ok (.iload_n 2, 1) := by decide +kernel
theorem dX18_way_17 : decode cX18_way 17 = .ok (.invokevirtual 272, 3) := by decide +kernel
theorem dX18_way_20 : decode cX18_way 20 = .ok (.ifCond .eq 7, 3) := by decide +kernel
theorem dX18_way_23 : decode cX18_way 23 = .ok (.iconst 1, 1) := by decide +kernel
theorem dX18_way_24 : decode cX18_way 24 = .ok (.goto 4, 3) := by decide +kernel
theorem dX18_name_0 : decode cX18_name 0 = .ok (.aload_n 0, 1) := by decide +kernel
theorem dX18_name_1 : decode cX18_name 1 = .ok (.aload_n 0, 1) := by decide +kernel
theorem dX18_name_2 : decode cX18_name 2 = .ok (.getfield 12, 3) := by decide +kernel
theorem dX18_name_5 : decode cX18_name 5 = .ok (.iload_n 1, 1) := by decide +kernel
theorem dX18_name_6 : decode cX18_name 6 = .ok (.invokevirtual 253, 3) := by decide +kernel
theorem dX18_name_9 : decode cX18_name 9 = .ok (.ifCond .eq 18, 3) := by decide +kernel
theorem dX18_name_27 : decode cX18_name 27 = .ok (.iconst 0, 1) := by decide +kernel
theorem dX18_name_28 : decode cX18_name 28 = .ok (.aload_n 0, 1) := by decide +kernel
theorem dX18_name_29 : decode cX18_name 29 = .ok (.getfield 12, 3) := by decide +kernel
theorem dX18_name_32 : decode cX18_name 32 = .ok (.getfield 238, 3) := by decide +kernel
theorem dX18_name_35 : decode cX18_name 35 = .ok (.ifCond .eq 14, 3) := by decide +kernel
theorem dX18_name_49 : decode cX18_name 49 = .ok (.iconst 0, 1) := by decide +kernel
theorem dX18_name_50 : decode cX18_name 50 = .ok (.invokevirtual 199, 3) := by decide +kernel
theorem dX18_name_53 : decode cX18_name 53 = .ok (.ifCond .ne 5, 3) := by decide +kernel
theorem dX18_name_58 : decode cX18_name 58 = .ok (.aload_n 0, 1) := by decide +kernel
theorem dX18_name_59 : decode cX18_name 59 = .ok (.getfield 12, 3) := by decide +kernel
theorem dX18_name_62 : decode cX18_name 62 = .ok (.getfield 281, 3) := by decide +kernel
theorem dX18_name_65 : decode cX18_name 65 = .ok (.iload_n 1, 1) := by decide +kernel
theorem dX18_name_66 : decode cX18_name 66 = .ok (.iaload, 1) := by decide +kernel
theorem dX18_name_67 : decode cX18_name 67 = .ok (.istore_n 3, 1) := by decide +kernel
theorem dX18_name_68 : decode cX18_name 68 = .ok (.aload_n 0, 1) := by decide +kernel
theorem dX18_name_69 : decode cX18_name 69 = .ok (.getfield 12, 3) := by decide +kernel
theorem dX18_name_72 : decode cX18_name 72 = .ok (.getfield 281, 3) := by decide +kernel
theorem dX18_name_75 : decode cX18_name 75 = .ok (.iload_n 1, 1) := by decide +kernel
theorem dX18_name_76 : decode cX18_name 76 = .ok (.iload_n 2, 1) := by decide +kernel
theorem dX18_name_77 : decode cX18_name 77 = .ok (.iastore, 1) := by decide +kernel
theorem dX18_name_78 : decode cX18_name 78 = .ok (.iload_n 3, 1) := by decide +kernel
theorem dX18_name_79 : decode cX18_name 79 = .ok (.ireturn, 1) := by decide +kernel
theorem dX18_name_56 : decode cX18_name 56 = .ok (.iconst 0, 1) := by decide +kernel
theorem dX18_name_57 : decode cX18_name 57 = .ok (.ireturn, 1) := by decide +kernel
theorem dX18_name_38 : decode cX18_name 38 = .ok (.aload_n 0, 1) := by decide +kernel
theorem dX18_name_39 : decode cX18_name 39 = .ok (.getfield 192, 3) := by decide +kernel
theorem dX18_name_42 : decode cX18_name 42 = .ok (.ifCond .ne 7, 3) := by decide +kernel
theorem dX18_name_45 : decode cX18_name 45 = .ok (.iconst 1, 1) := by decide +kernel
theorem dX18_name_46 : decode cX18_name 46 = .ok (.goto 4, 3) := by decide +kernel
theorem dX18_name_12 : decode cX18_name 12 = .ok (.iload_n 2, 1) := by decide +kernel
theorem dX18_name_13 : decode cX18_name 13 = .ok (.ifCond .lt 14, 3) := by decide +kernel
theorem dX18_name_16 : decode cX18_name 16 = .ok (.iload_n 2, 1) := by decide +kernel
theorem dX18_name_17 : decode cX18_name 17 = .ok (.sipush 1000, 3) := by decide +kernel
theorem dX18_name_20 : decode cX18_name 20 = .ok (.if_icmp .gt 7, 3) := by decide +kernel
theorem dX18_name_23 : decode cX18_name 23 = .ok (.iconst 1, 1) := by decide +kernel
theorem dX18_name_24 : decode cX18_name 24 = .ok (.goto 4, 3) := by decide +kernel
theorem dX18_nameOf_0 : decode cX18_nameOf 0 = .ok (.aload_n 0, 1) := by decide +kernel
theorem dX18_nameOf_1 : decode cX18_nameOf 1 = .ok (.aload_n 0, 1) := by decide +kernel
theorem dX18_nameOf_2 : decode cX18_nameOf 2 = .ok (.getfield 12, 3) := by decide +kernel
theorem dX18_nameOf_5 : decode cX18_nameOf 5 = .ok (.iload_n 1, 1) := by decide +kernel
theorem dX18_nameOf_6 : decode cX18_nameOf 6 = .ok (.invokevirtual 253, 3) := by decide +kernel
theorem dX18_nameOf_9 : decode cX18_nameOf 9 = .ok (.aload_n 0, 1) := by decide +kernel
theorem dX18_nameOf_10 : decode cX18_nameOf 10 = .ok (.getfield 12, 3) := by decide +kernel
theorem dX18_nameOf_13 : decode cX18_nameOf 13 = .ok (.getfield 238, 3) := by decide +kernel
theorem dX18_nameOf_16 : decode cX18_nameOf 16 = .ok (.invokevirtual 199, 3) := by decide +kernel
theorem dX18_nameOf_19 : decode cX18_nameOf 19 = .ok (.ifCond .eq 15, 3) := by decide +kernel
theorem dX18_nameOf_34 : decode cX18_nameOf 34 = .ok (.iconst 0, 1) := by decide +kernel
theorem dX18_nameOf_35 : decode cX18_nameOf 35 = .ok (.ireturn, 1) := by decide +kernel
theorem dX18_nameOf_22 : decode cX18_nameOf 22 = .ok (.aload_n 0, 1) := by decide +kernel
theorem dX18_nameOf_23 : decode cX18_nameOf 23 = .ok (.getfield 12, 3) := by decide +kernel
theorem dX18_nameOf_26 : decode cX18_nameOf 26 = .ok (.getfield 281, 3) := by decide +kernel
theorem dX18_nameOf_29 : decode cX18_nameOf 29 = .ok (.iload_n 1, 1) := by decide +kernel
theorem dX18_nameOf_30 : decode cX18_nameOf 30 = .ok (.iaload, 1) := by decide +kernel
theorem dX18_nameOf_31 : decode cX18_nameOf 31 = .ok (.goto 4, 3) := by decide +kernel
theorem dX18_say_0 : decode cX18_say 0 = .ok (.lload_n 1, 1) := by decide +kernel
theorem dX18_say_1 : decode cX18_say 1 = .ok (.invokestatic 284, 3) := by decide +kernel
theorem dX18_say_4 : decode cX18_say 4 = .ok (.istore_n 3, 1) := by decide +kernel
theorem dX18_say_5 : decode cX18_say 5 = .ok (.aload_n 0, 1) := by decide +kernel
theorem dX18_say_6 : decode cX18_say 6 = .ok (.iload_n 3, 1) := by decide +kernel
theorem dX18_say_7 : decode cX18_say 7 = .ok (.ifCond .lt 7, 3) := by decide +kernel
theorem dX18_say_14 : decode cX18_say 14 = .ok (.iconst 0, 1) := by decide +kernel
theorem dX18_say_15 : decode cX18_say 15 = .ok (.aload_n 0, 1) := by decide +kernel
theorem dX18_say_16 : decode cX18_say 16 = .ok (.getfield 21, 3) := by decide +kernel
theorem dX18_say_19 : decode cX18_say 19 = .ok (.getfield 288, 3) := by decide +kernel
theorem dX18_say_22 : decode cX18_say 22 = .ok (.iload_n 3, 1) := by decide +kernel
theorem dX18_say_23 : decode cX18_say 23 = .ok (.iadd, 1) := by decide +kernel
theorem dX18_say_24 : decode cX18_say 24 = .ok (.sipush 800, 3) := by decide +kernel
theorem dX18_say_27 : decode cX18_say 27 = .ok (.if_icmp .gt 7, 3) := by decide +kernel
theorem dX18_say_34 : decode cX18_say 34 = .ok (.iconst 0, 1) := by decide +kernel
theorem dX18_say_35 : decode cX18_say 35 = .ok (.invokevirtual 199, 3) := by decide +kernel
theorem dX18_say_38 : decode cX18_say 38 = .ok (.ifCond .eq 14, 3) := by decide +kernel
theorem dX18_say_52 : decode cX18_say 52 = .ok (.iconst 0, 1) := by decide +kernel
theorem dX18_say_53 : decode cX18_say 53 = .ok (.ireturn, 1) := by decide +kernel
theorem dX18_say_41 : decode cX18_say 41 = .ok (.aload_n 0, 1) := by decide +kernel
theorem dX18_say_42 : decode cX18_say 42 = .ok (.getfield 21, 3) := by decide +kernel
theorem dX18_say_45 : decode cX18_say 45 = .ok (.lload_n 1, 1) := by decide +kernel
theorem dX18_say_46 : decode cX18_say 46 = .ok (.invokevirtual 290, 3) := by decide +kernel
theorem dX18_say_49 : decode cX18_say 49 = .ok (.goto 4, 3) := by decide +kernel
theorem dX18_say_30 : decode cX18_say 30 = .ok (.iconst 1, 1) := by decide +kernel
theorem dX18_say_31 : decode cX18_say 31 = .ok (.goto 4, 3) := by decide +kernel
theorem dX18_say_10 : decode cX18_say 10 = .ok (.iconst 1, 1) := by decide +kernel
theorem dX18_say_11 : decode cX18_say 11 = .ok (.goto 4, 3) := by decide +kernel
theorem dX18_trim_0 : decode cX18_trim 0 = .ok (.aload_n 0, 1) := by decide +kernel
theorem dX18_trim_1 : decode cX18_trim 1 = .ok (.iload_n 1, 1) := by decide +kernel
theorem dX18_trim_2 : decode cX18_trim 2 = .ok (.ifCond .lt 18, 3) := by decide +kernel
theorem dX18_trim_20 : decode cX18_trim 20 = .ok (.iconst 0, 1) := by decide +kernel
theorem dX18_trim_21 : decode cX18_trim 21 = .ok (.iconst 1, 1) := by decide +kernel
theorem dX18_trim_22 : decode cX18_trim 22 = .ok (.invokevirtual 199, 3) := by decide +kernel
theorem dX18_trim_25 : decode cX18_trim 25 = .ok (.ifCond .ne 5, 3) := by decide +kernel
theorem dX18_trim_30 : decode cX18_trim 30 = .ok (.aload_n 0, 1) := by decide +kernel
theorem dX18_trim_31 : decode cX18_trim 31 = .ok (.getfield 21, 3) := by decide +kernel
theorem dX18_trim_34 : decode cX18_trim 34 = .ok (.dup, 1) := by decide +kernel
theorem dX18_trim_35 : decode cX18_trim 35 = .ok (.getfield 288, 3) := by decide +kernel
theorem dX18_trim_38 : decode cX18_trim 38 = .ok (.iload_n 1, 1) := by decide +kernel
theorem dX18_trim_39 : decode cX18_trim 39 = .ok (.isub, 1) := by decide +kernel
theorem dX18_trim_40 : decode cX18_trim 40 = .ok (.putfield 288, 3) := by decide +kernel
theorem dX18_trim_43 : decode cX18_trim 43 = .ok (.aload_n 0, 1) := by decide +kernel
theorem dX18_trim_44 : decode cX18_trim 44 = .ok (.getfield 21, 3) := by decide +kernel
theorem dX18_trim_47 : decode cX18_trim 47 = .ok (.getfield 288, 3) := by decide +kernel
theorem dX18_trim_50 : decode cX18_trim 50 = .ok (.ireturn, 1) := by decide +kernel
theorem dX18_trim_28 : decode cX18_trim 28 = .ok (.iconst 0, 1) := by decide +kernel
theorem dX18_trim_29 : decode cX18_trim 29 = .ok (.ireturn, 1) := by decide +kernel
theorem dX18_trim_5 : decode cX18_trim 5 = .ok (.iload_n 1, 1) := by decide +kernel
theorem dX18_trim_6 : decode cX18_trim 6 = .ok (.aload_n 0, 1) := by decide +kernel
theorem dX18_trim_7 : decode cX18_trim 7 = .ok (.getfield 21, 3) := by decide +kernel
theorem dX18_trim_10 : decode cX18_trim 10 = .ok (.getfield 288, 3) := by decide +kernel
theorem dX18_trim_13 : decode cX18_trim 13 = .ok (.if_icmp .gt 7, 3) := by decide +kernel
theorem dX18_trim_16 : decode cX18_trim 16 = .ok (.iconst 1, 1) := by decide +kernel
theorem dX18_trim_17 : decode cX18_trim 17 = .ok (.goto 4, 3) := by decide +kernel
theorem dX18_rules_0 : decode cX18_rules 0 = .ok (.aload_n 0, 1) := by decide +kernel
theorem dX18_rules_1 : decode cX18_rules 1 = .ok (.iconst 0, 1) := by decide +kernel
theorem dX18_rules_2 : decode cX18_rules 2 = .ok (.putfield 184, 3) := by decide +kernel
theorem dX18_rules_5 : decode cX18_rules 5 = .ok (.aload_n 0, 1) := by decide +kernel
theorem dX18_rules_6 : decode cX18_rules 6 = .ok (.getfield 21, 3) := by decide +kernel
theorem dX18_rules_9 : decode cX18_rules 9 = .ok (.invokevirtual 293, 3) := by decide +kernel
theorem dX18_rules_12 : decode cX18_rules 12 = .ok (.ireturn, 1) := by decide +kernel
theorem dX18_hasRoom_0 : decode cX18_hasRoom 0 = .ok (.aload_n 0, 1) := by decide +kernel
theorem dX18_hasRoom_1 : decode cX18_hasRoom 1 = .ok (.getfield 21, 3) := by decide +kernel
theorem dX18_hasRoom_4 : decode cX18_hasRoom 4 = .ok (.lload_n 1, 1) := by decide +kernel
theorem dX18_hasRoom_5 : decode cX18_hasRoom 5 = .ok (.invokevirtual 296, 3) := by decide +kernel
theorem dX18_hasRoom_8 : decode cX18_hasRoom 8 = .ok (.ifCond .ge 15, 3) := by decide +kernel
theorem dX18_hasRoom_23 : decode cX18_hasRoom 23 = .ok (.iconst 1, 1) := by decide +kernel
theorem dX18_hasRoom_24 : decode cX18_hasRoom 24 = .ok (.goto 4, 3) := by decide +kernel
theorem dX18_hasRoom_28 : decode cX18_hasRoom 28 = .ok (.ireturn, 1) := by decide +kernel
theorem dX18_hasRoom_11 : decode cX18_hasRoom 11 = .ok (.aload_n 0, 1) := by decide +kernel
theorem dX18_hasRoom_12 : decode cX18_hasRoom 12 = .ok (.getfield 21, 3) := by decide +kernel
theorem dX18_hasRoom_15 : decode cX18_hasRoom 15 = .ok (.getfield 299, 3) := by decide +kernel
theorem dX18_hasRoom_18 : decode cX18_hasRoom 18 = .ok (.bipush 40, 2) := by decide +kernel
theorem dX18_hasRoom_20 : decode cX18_hasRoom 20 = .ok (.if_icmp .ge 7, 3) := by decide +kernel
theorem dX18_hasRoom_27 : decode cX18_hasRoom 27 = .ok (.iconst 0, 1) := by decide +kernel
theorem dX18_fact_0 : decode cX18_fact 0 = .ok (.aload_n 0, 1) := by decide +kernel
theorem dX18_fact_1 : decode cX18_fact 1 = .ok (.lload_n 1, 1) := by decide +kernel
theorem dX18_fact_2 : decode cX18_fact 2 = .ok (.invokestatic 302, 3) := by decide +kernel
theorem dX18_fact_5 : decode cX18_fact 5 = .ok (.ifCond .eq 21, 3) := by decide +kernel
theorem dX18_fact_26 : decode cX18_fact 26 = .ok (.iconst 0, 1) := by decide +kernel
theorem dX18_fact_27 : decode cX18_fact 27 = .ok (.aload_n 0, 1) := by decide +kernel
theorem dX18_fact_28 : decode cX18_fact 28 = .ok (.lload_n 1, 1) := by decide +kernel
theorem dX18_fact_29 : decode cX18_fact 29 = .ok (.invokevirtual 308, 3) := by decide +kernel
theorem dX18_fact_32 : decode cX18_fact 32 = .ok (.invokevirtual 199, 3) := by decide +kernel
theorem dX18_fact_35 : decode cX18_fact 35 = .ok (.ifCond .eq 15, 3) := by decide +kernel
theorem dX18_fact_50 : decode cX18_fact 50 = .ok (.lconst 0, 1) := by decide +kernel
theorem dX18_fact_51 : decode cX18_fact 51 = .ok (.lreturn, 1) := by decide +kernel
theorem dX18_fact_38 : decode cX18_fact 38 = .ok (.aload_n 0, 1) := by decide +kernel
theorem dX18_fact_39 : decode cX18_fact 39 = .ok (.getfield 21, 3) := by decide +kernel
theorem dX18_fact_42 : decode cX18_fact 42 = .ok (.lload_n 1, 1) := by decide +kernel
theorem dX18_fact_43 : decode cX18_fact 43 = .ok (.iload_n 3, 1) := by decide +kernel
theorem dX18_fact_44 : decode cX18_fact 44 = .ok (.invokevirtual 311, 3) := by decide +kernel
theorem dX18_fact_47 : decode cX18_fact 47 = .ok (.goto 4, 3) := by decide +kernel
theorem dX18_fact_8 : decode cX18_fact 8 = .ok (.iload_n 3, 1) := by decide +kernel
theorem dX18_fact_9 : decode cX18_fact 9 = .ok (.ldc_w 306, 3) := by decide +kernel
theorem dX18_fact_12 : decode cX18_fact 12 = .ok (.if_icmp .lt 14, 3) := by decide +kernel
theorem dX18_fact_15 : decode cX18_fact 15 = .ok (.iload_n 3, 1) := by decide +kernel
theorem dX18_fact_16 : decode cX18_fact 16 = .ok (.ldc_w 307, 3) := by decide +kernel
theorem dX18_fact_19 : decode cX18_fact 19 = .ok (.if_icmp .gt 7, 3) := by decide +kernel
theorem dX18_fact_22 : decode cX18_fact 22 = .ok (.iconst 1, 1) := by decide +kernel
theorem dX18_fact_23 : decode cX18_fact 23 = .ok (.goto 4, 3) := by decide +kernel
theorem dX18_measure_0 : decode cX18_measure 0 = .ok (.aload_n 0, 1) := by decide +kernel
theorem dX18_measure_1 : decode cX18_measure 1 = .ok (.aload_n 0, 1) := by decide +kernel
theorem dX18_measure_2 : decode cX18_measure 2 = .ok (.getfield 12, 3) := by decide +kernel
theorem dX18_measure_5 : decode cX18_measure 5 = .ok (.iload_n 1, 1) := by decide +kernel
theorem dX18_measure_6 : decode cX18_measure 6 = .ok (.invokevirtual 253, 3) := by decide +kernel
theorem dX18_measure_9 : decode cX18_measure 9 = .ok (.ifCond .eq 22, 3) := by decide +kernel
theorem dX18_measure_31 : decode cX18_measure 31 = .ok (.iconst 0, 1) := by decide +kernel
theorem dX18_measure_32 : decode cX18_measure 32 = .ok (.aload_n 0, 1) := by decide +kernel
theorem dX18_measure_33 : decode cX18_measure 33 = .ok (.getfield 12, 3) := by decide +kernel
theorem dX18_measure_36 : decode cX18_measure 36 = .ok (.getfield 238, 3) := by decide +kernel
theorem dX18_measure_39 : decode cX18_measure 39 = .ok (.ifCond .eq 15, 3) := by decide +kernel
theorem dX18_measure_54 : decode cX18_measure 54 = .ok (.iconst 0, 1) := by decide +kernel
theorem dX18_measure_55 : decode cX18_measure 55 = .ok (.invokevirtual 199, 3) := by decide +kernel
theorem dX18_measure_58 : decode cX18_measure 58 = .ok (.ifCond .ne 5, 3) := by decide +kernel
theorem dX18_measure_63 : decode cX18_measure 63 = .ok (.aload_n 0, 1) := by decide +kernel
theorem dX18_measure_64 : decode cX18_measure 64 = .ok (.getfield 12, 3) := by decide +kernel
theorem dX18_measure_67 : decode cX18_measure 67 = .ok (.iload_n 1, 1) := by decide +kernel
theorem dX18_measure_68 : decode cX18_measure 68 = .ok (.iload_n 2, 1) := by decide +kernel
theorem dX18_measure_69 : decode cX18_measure 69 = .ok (.invokevirtual 263, 3) := by decide +kernel
theorem dX18_measure_72 : decode cX18_measure 72 = .ok (.istore 5, 2) := by decide +kernel
theorem dX18_measure_74 : decode cX18_measure 74 = .ok (.aload_n 0, 1) := by decide +kernel
theorem dX18_measure_75 : decode cX18_measure 75 = .ok (.getfield 21, 3) := by decide +kernel
theorem dX18_measure_78 : decode cX18_measure 78 = .ok (.lload_n 3, 1) := by decide +kernel
theorem dX18_measure_79 : decode cX18_measure 79 = .ok (.iload 5, 2) := by decide +kernel
theorem dX18_measure_81 : decode cX18_measure 81 = .ok (.invokevirtual 311, 3) := by decide +kernel
theorem dX18_measure_84 : decode cX18_measure 84 = .ok (.lstore 6, 2) := by decide +kernel
theorem dX18_measure_86 : decode cX18_measure 86 = .ok (.iload 5, 2) := by decide +kernel
theorem dX18_measure_88 : decode cX18_measure 88 = .ok (.ireturn, 1) := by decide +kernel
theorem dX18_measure_61 : decode cX18_measure 61 = .ok (.iconst 0, 1) := by decide +kernel
theorem dX18_measure_62 : decode cX18_measure 62 = .ok (.ireturn, 1) := by decide +kernel
theorem dX18_measure_42 : decode cX18_measure 42 = .ok (.aload_n 0, 1) := by decide +kernel
theorem dX18_measure_43 : decode cX18_measure 43 = .ok (.lload_n 3, 1) := by decide +kernel
theorem dX18_measure_44 : decode cX18_measure 44 = .ok (.invokevirtual 308, 3) := by decide +kernel
theorem dX18_measure_47 : decode cX18_measure 47 = .ok (.ifCond .eq 7, 3) := by decide +kernel
theorem dX18_measure_50 : decode cX18_measure 50 = .ok (.iconst 1, 1) := by decide +kernel
theorem dX18_measure_51 : decode cX18_measure 51 = .ok (.goto 4, 3) := by decide +kernel
theorem dX18_measure_12 : decode cX18_measure 12 = .ok (.iload_n 2, 1) := by decide +kernel
theorem dX18_measure_13 : decode cX18_measure 13 = .ok (.iconst 3, 1) := by decide +kernel
theorem dX18_measure_14 : decode cX18_measure 14 = .ok (.invokestatic 207, 3) := by decide +kernel
theorem dX18_measure_17 : decode cX18_measure 17 = .ok (.ifCond .eq 14, 3) := by decide +kernel
theorem dX18_measure_20 : decode cX18_measure 20 = .ok (.lload_n 3, 1) := by decide +kernel
theorem dX18_measure_21 : decode cX18_measure 21 = .ok (.invokestatic 302, 3) := by decide +kernel
theorem dX18_measure_24 : decode cX18_measure 24 = .ok (.ifCond .eq 7, 3) := by decide +kernel
theorem dX18_measure_27 : decode cX18_measure 27 = .ok (.iconst 1, 1) := by decide +kernel
theorem dX18_measure_28 : decode cX18_measure 28 = .ok (.goto 4, 3) := by decide +kernel
theorem zl_X17_56 : zm_F zk_E RX17 56 17 17 := ⟨RX17, TX17, 19, rfl, zk_i17, by decide, zk_b15 33 (by decide +kernel) rfl⟩
theorem zl_X17_19 : zm_F zk_E RX17 19 17 4 := ⟨RX17, TX17, 19, rfl, zk_i17, by decide, zk_b15 9 (by decide +kernel) rfl⟩
theorem zl_X17_25 : zm_F zk_E RX17 25 17 6 := ⟨RX17, TX17, 19, rfl, zk_i17, by decide, zk_b15 13 (by decide +kernel) rfl⟩
theorem zl_X17_44 : zm_F zk_E RX17 44 17 12 := ⟨RX17, TX17, 19, rfl, zk_i17, by decide, zk_b15 25 (by decide +kernel) rfl⟩
theorem zl_X17_79 : zm_F zk_E RX17 79 17 14 := ⟨RX17, TX17, 19, rfl, zk_i17, by decide, zk_b15 29 (by decide +kernel) rfl⟩
theorem zl_X17_16 : zm_F zk_E RX17 16 17 3 := ⟨RX17, TX17, 19, rfl, zk_i17, by decide, zk_b15 7 (by decide +kernel) rfl⟩
theorem zl_X17_34 : zm_F zk_E RX17 34 17 9 := ⟨RX17, TX17, 19, rfl, zk_i17, by decide, zk_b15 19 (by decide +kernel) rfl⟩
theorem zl_X17_31 : zm_F zk_E RX17 31 17 8 := ⟨RX17, TX17, 19, rfl, zk_i17, by decide, zk_b15 17 (by decide +kernel) rfl⟩
theorem zl_X17_82 : zm_L zk_E RX17 82 yX17_ramp (.code yX17_ramp cX17_ramp 7 (some .int)) 2 ∧ Cond.instanceMethod yX17_ramp ∈ zk_E.2.2.1 ∧ Cond.selects yX17_ramp.cls yX17_ramp yX17_ramp ∈ zk_E.2.2.1 := ⟨⟨zk_b21 132 (by decide +kernel) rfl, zk_b1 17 (by decide +kernel) rfl, zk_b21 129 (by decide +kernel) rfl, by decide +kernel, by decide +kernel, by decide +kernel⟩, zk_b21 131 (by decide +kernel) rfl, zk_s18 (q := (yX17_ramp, 19)) 15 (by decide +kernel)⟩
theorem zl_X17_85 : zm_L zk_E RX17 85 yX17_count (.code yX17_count cX17_count 4 (some .int)) 3 ∧ Cond.instanceMethod yX17_count ∈ zk_E.2.2.1 ∧ Cond.selects yX17_count.cls yX17_count yX17_count ∈ zk_E.2.2.1 := ⟨⟨zk_b21 136 (by decide +kernel) rfl, zk_b1 17 (by decide +kernel) rfl, zk_b21 133 (by decide +kernel) rfl, by decide +kernel, by decide +kernel, by decide +kernel⟩, zk_b21 135 (by decide +kernel) rfl, zk_s19 (q := (yX17_count, 19)) 0 (by decide +kernel)⟩
theorem zl_X17_89 : zm_L zk_E RX17 89 yX17_clock (.code yX17_clock cX17_clock 5 (some .int)) 1 ∧ Cond.instanceMethod yX17_clock ∈ zk_E.2.2.1 ∧ Cond.selects yX17_clock.cls yX17_clock yX17_clock ∈ zk_E.2.2.1 := ⟨⟨zk_b21 140 (by decide +kernel) rfl, zk_b1 17 (by decide +kernel) rfl, zk_b21 137 (by decide +kernel) rfl, by decide +kernel, by decide +kernel, by decide +kernel⟩, zk_b21 139 (by decide +kernel) rfl, zk_s19 (q := (yX17_clock, 19)) 1 (by decide +kernel)⟩
theorem zl_X17_92 : zm_L zk_E RX17 92 yX17_pulse (.code yX17_pulse cX17_pulse 3 (some .int)) 2 ∧ Cond.instanceMethod yX17_pulse ∈ zk_E.2.2.1 ∧ Cond.selects yX17_pulse.cls yX17_pulse yX17_pulse ∈ zk_E.2.2.1 := ⟨⟨zk_b21 144 (by decide +kernel) rfl, zk_b1 17 (by decide +kernel) rfl, zk_b21 141 (by decide +kernel) rfl, by decide +kernel, by decide +kernel, by decide +kernel⟩, zk_b21 143 (by decide +kernel) rfl, zk_s19 (q := (yX17_pulse, 19)) 2 (by decide +kernel)⟩
theorem zl_X17_95 : zm_L zk_E RX17 95 yX17_failure (.code yX17_failure cX17_failure 4 (some .int)) 1 ∧ Cond.instanceMethod yX17_failure ∈ zk_E.2.2.1 ∧ Cond.selects yX17_failure.cls yX17_failure yX17_failure ∈ zk_E.2.2.1 := ⟨⟨zk_b21 112 (by decide +kernel) rfl, zk_b1 17 (by decide +kernel) rfl, zk_b21 109 (by decide +kernel) rfl, by decide +kernel, by decide +kernel, by decide +kernel⟩, zk_b21 111 (by decide +kernel) rfl, zk_s18 (q := (yX17_failure, 19)) 10 (by decide +kernel)⟩
theorem zl_X17_105 : zm_L zk_E RX17 105 yX17_kept (.code yX17_kept cX17_kept 5 (some .int)) 3 ∧ Cond.instanceMethod yX17_kept ∈ zk_E.2.2.1 ∧ Cond.selects yX17_kept.cls yX17_kept yX17_kept ∈ zk_E.2.2.1 := ⟨⟨zk_b21 128 (by decide +kernel) rfl, zk_b1 17 (by decide +kernel) rfl, zk_b21 125 (by decide +kernel) rfl, by decide +kernel, by decide +kernel, by decide +kernel⟩, zk_b21 127 (by decide +kernel) rfl, zk_s18 (q := (yX17_kept, 19)) 14 (by decide +kernel)⟩
theorem zl_X17_37 : zm_F zk_E RX17 37 17 10 := ⟨RX17, TX17, 19, rfl, zk_i17, by decide, zk_b15 21 (by decide +kernel) rfl⟩
theorem zl_X17_41 : zm_F zk_E RX17 41 17 11 := ⟨RX17, TX17, 19, rfl, zk_i17, by decide, zk_b15 23 (by decide +kernel) rfl⟩
theorem zl_X17_102 : zm_L zk_E RX17 102 yX17_plain (.code yX17_plain cX17_plain 4 (some .int)) 3 ∧ Cond.instanceMethod yX17_plain ∈ zk_E.2.2.1 ∧ Cond.selects yX17_plain.cls yX17_plain yX17_plain ∈ zk_E.2.2.1 := ⟨⟨zk_b21 124 (by decide +kernel) rfl, zk_b1 17 (by decide +kernel) rfl, zk_b21 121 (by decide +kernel) rfl, by decide +kernel, by decide +kernel, by decide +kernel⟩, zk_b21 123 (by decide +kernel) rfl, zk_s18 (q := (yX17_plain, 19)) 13 (by decide +kernel)⟩
theorem zl_X17_98 : zm_L zk_E RX17 98 yX17_fails (.code yX17_fails cX17_fails 3 none) 2 ∧ Cond.instanceMethod yX17_fails ∈ zk_E.2.2.1 ∧ Cond.selects yX17_fails.cls yX17_fails yX17_fails ∈ zk_E.2.2.1 := ⟨⟨zk_b21 120 (by decide +kernel) rfl, zk_b1 17 (by decide +kernel) rfl, zk_b21 117 (by decide +kernel) rfl, by decide +kernel, by decide +kernel, by decide +kernel⟩, zk_b21 119 (by decide +kernel) rfl, zk_s18 (q := (yX17_fails, 19)) 12 (by decide +kernel)⟩
theorem zl_X17_108 : zm_F zk_E RX17 108 17 18 := ⟨RX17, TX17, 19, rfl, zk_i17, by decide, zk_b15 35 (by decide +kernel) rfl⟩
theorem zl_X17_112 : zm_L zk_E RX17 112 yX17_reckon (.code yX17_reckon cX17_reckon 6 none) 1 ∧ Cond.instanceMethod yX17_reckon ∈ zk_E.2.2.1 ∧ Cond.selects yX17_reckon.cls yX17_reckon yX17_reckon ∈ zk_E.2.2.1 := ⟨⟨zk_b21 108 (by decide +kernel) rfl, zk_b1 17 (by decide +kernel) rfl, zk_b21 105 (by decide +kernel) rfl, by decide +kernel, by decide +kernel, by decide +kernel⟩, zk_b21 107 (by decide +kernel) rfl, zk_s18 (q := (yX17_reckon, 19)) 9 (by decide +kernel)⟩
theorem zt_17_18 : zm_T zk_E RX17 17 18 .boolean false := ⟨RX17, TX17, 19, tyX17, rfl, tyX17_ok, nmX17, rfl, rfl, rfl⟩
theorem zl_X18_184 : zm_F zk_E RX18 184 18 0 := ⟨RX18, TX18, 60, rfl, zk_i18, by decide, zk_b16 27 (by decide +kernel) rfl⟩
theorem zt_18_0 : zm_T zk_E RX18 18 0 .int false := ⟨RX18, TX18, 60, tyX18, rfl, tyX18_ok, nmX18, rfl, rfl, rfl⟩
theorem zl_X18_188 : zm_L zk_E RX18 188 yX16_isIn (.code yX16_isIn cX16_isIn 1 (some .boolean)) 1 ∧ Cond.static yX16_isIn ∈ zk_E.2.2.1 := ⟨⟨zk_b16 218 (by decide +kernel) rfl, zk_b1 14 (by decide +kernel) rfl, zk_b16 216 (by decide +kernel) rfl, by decide +kernel, by decide +kernel, by decide +kernel⟩, zk_b16 217 (by decide +kernel) rfl⟩
theorem zl_X18_192 : zm_F zk_E RX18 192 18 1 := ⟨RX18, TX18, 60, rfl, zk_i18, by decide, zk_b16 28 (by decide +kernel) rfl⟩
theorem zl_X18_199 : zm_L zk_E RX18 199 yX18_goes (.code yX18_goes cX18_goes 3 (some .boolean)) 2 ∧ Cond.instanceMethod yX18_goes ∈ zk_E.2.2.1 ∧ Cond.selects yX18_goes.cls yX18_goes yX18_goes ∈ zk_E.2.2.1 := ⟨⟨zk_b16 222 (by decide +kernel) rfl, zk_b1 13 (by decide +kernel) rfl, zk_b16 219 (by decide +kernel) rfl, by decide +kernel, by decide +kernel, by decide +kernel⟩, zk_b16 221 (by decide +kernel) rfl, zk_s11 (q := (yX18_goes, 60)) 7 (by decide +kernel)⟩
theorem zl_X18_12 : zm_F zk_E RX18 12 18 3 := ⟨RX18, TX18, 60, rfl, zk_i18, by decide, zk_b16 30 (by decide +kernel) rfl⟩
theorem zl_X18_203 : zm_L zk_E RX18 203 yX16_line (.code yX16_line cX16_line 5 (some .int)) 4 ∧ Cond.instanceMethod yX16_line ∈ zk_E.2.2.1 ∧ Cond.selects yX16_line.cls yX16_line yX16_line ∈ zk_E.2.2.1 := ⟨⟨zk_b16 226 (by decide +kernel) rfl, zk_b1 14 (by decide +kernel) rfl, zk_b16 223 (by decide +kernel) rfl, by decide +kernel, by decide +kernel, by decide +kernel⟩, zk_b16 224 (by decide +kernel) rfl, zk_b16 225 (by decide +kernel) rfl⟩
theorem zl_X18_196 : zm_F zk_E RX18 196 16 0 := ⟨RX16, TX16, 40, rfl, zk_i16, by decide, zk_b13 75 (by decide +kernel) rfl⟩
theorem zl_X18_207 : zm_L zk_E RX18 207 yX18_isIn (.code yX18_isIn cX18_isIn 2 (some .boolean)) 2 ∧ Cond.static yX18_isIn ∈ zk_E.2.2.1 := ⟨⟨zk_b17 9 (by decide +kernel) rfl, zk_b1 13 (by decide +kernel) rfl, zk_b17 7 (by decide +kernel) rfl, by decide +kernel, by decide +kernel, by decide +kernel⟩, zk_b17 8 (by decide +kernel) rfl⟩
theorem zl_X18_214 : zm_L zk_E RX18 214 yX16_move (.code yX16_move cX16_move 5 (some .boolean)) 3 ∧ Cond.instanceMethod yX16_move ∈ zk_E.2.2.1 ∧ Cond.selects yX16_move.cls yX16_move yX16_move ∈ zk_E.2.2.1 := ⟨⟨zk_b17 18 (by decide +kernel) rfl, zk_b1 14 (by decide +kernel) rfl, zk_b17 15 (by decide +kernel) rfl, by decide +kernel, by decide +kernel, by decide +kernel⟩, zk_b17 16 (by decide +kernel) rfl, zk_b17 17 (by decide +kernel) rfl⟩
theorem zl_X18_210 : zm_L zk_E RX18 210 yX16_mayGo (.code yX16_mayGo cX16_mayGo 4 (some .boolean)) 3 ∧ Cond.instanceMethod yX16_mayGo ∈ zk_E.2.2.1 ∧ Cond.selects yX16_mayGo.cls yX16_mayGo yX16_mayGo ∈ zk_E.2.2.1 := ⟨⟨zk_b17 13 (by decide +kernel) rfl, zk_b1 14 (by decide +kernel) rfl, zk_b17 10 (by decide +kernel) rfl, by decide +kernel, by decide +kernel, by decide +kernel⟩, zk_b17 11 (by decide +kernel) rfl, zk_b17 12 (by decide +kernel) rfl⟩
theorem zl_X18_224 : zm_L zk_E RX18 224 yX16_door (.code yX16_door cX16_door 5 (some .int)) 4 ∧ Cond.instanceMethod yX16_door ∈ zk_E.2.2.1 ∧ Cond.selects yX16_door.cls yX16_door yX16_door ∈ zk_E.2.2.1 := ⟨⟨zk_b17 30 (by decide +kernel) rfl, zk_b1 14 (by decide +kernel) rfl, zk_b17 27 (by decide +kernel) rfl, by decide +kernel, by decide +kernel, by decide +kernel⟩, zk_b17 28 (by decide +kernel) rfl, zk_b17 29 (by decide +kernel) rfl⟩
theorem zl_X18_221 : zm_F zk_E RX18 221 16 5 := ⟨RX16, TX16, 40, rfl, zk_i16, by decide, zk_b13 81 (by decide +kernel) rfl⟩
theorem zl_X18_217 : zm_L zk_E RX18 217 yX16_lengthOf (.code yX16_lengthOf cX16_lengthOf 2 (some .int)) 1 ∧ Cond.instanceMethod yX16_lengthOf ∈ zk_E.2.2.1 ∧ Cond.selects yX16_lengthOf.cls yX16_lengthOf yX16_lengthOf ∈ zk_E.2.2.1 := ⟨⟨zk_b17 26 (by decide +kernel) rfl, zk_b1 14 (by decide +kernel) rfl, zk_b17 23 (by decide +kernel) rfl, by decide +kernel, by decide +kernel, by decide +kernel⟩, zk_b17 24 (by decide +kernel) rfl, zk_b17 25 (by decide +kernel) rfl⟩
theorem zl_X18_230 : zm_L zk_E RX18 230 yX18_stays (.code yX18_stays cX18_stays 2 (some .boolean)) 1 ∧ Cond.instanceMethod yX18_stays ∈ zk_E.2.2.1 ∧ Cond.selects yX18_stays.cls yX18_stays yX18_stays ∈ zk_E.2.2.1 := ⟨⟨zk_b17 38 (by decide +kernel) rfl, zk_b1 13 (by decide +kernel) rfl, zk_b17 35 (by decide +kernel) rfl, by decide +kernel, by decide +kernel, by decide +kernel⟩, zk_b17 37 (by decide +kernel) rfl, zk_s11 (q := (yX18_stays, 60)) 12 (by decide +kernel)⟩
theorem zl_X18_234 : zm_L zk_E RX18 234 yX16_run (.code yX16_run cX16_run 2 (some .int)) 0 ∧ Cond.instanceMethod yX16_run ∈ zk_E.2.2.1 ∧ Cond.selects yX16_run.cls yX16_run yX16_run ∈ zk_E.2.2.1 := ⟨⟨zk_b17 42 (by decide +kernel) rfl, zk_b1 14 (by decide +kernel) rfl, zk_b17 39 (by decide +kernel) rfl, by decide +kernel, by decide +kernel, by decide +kernel⟩, zk_b17 40 (by decide +kernel) rfl, zk_b17 41 (by decide +kernel) rfl⟩
theorem zl_X18_227 : zm_F zk_E RX18 227 16 11 := ⟨RX16, TX16, 40, rfl, zk_i16, by decide, zk_b13 89 (by decide +kernel) rfl⟩
theorem zl_X18_238 : zm_F zk_E RX18 238 16 10 := ⟨RX16, TX16, 40, rfl, zk_i16, by decide, zk_b13 88 (by decide +kernel) rfl⟩
theorem zl_X18_250 : zm_L zk_E RX18 250 yX16_outerSides (.code yX16_outerSides cX16_outerSides 3 (some .int)) 0 ∧ Cond.instanceMethod yX16_outerSides ∈ zk_E.2.2.1 ∧ Cond.selects yX16_outerSides.cls yX16_outerSides yX16_outerSides ∈ zk_E.2.2.1 := ⟨⟨zk_b17 131 (by decide +kernel) rfl, zk_b1 14 (by decide +kernel) rfl, zk_b17 128 (by decide +kernel) rfl, by decide +kernel, by decide +kernel, by decide +kernel⟩, zk_b17 129 (by decide +kernel) rfl, zk_b17 130 (by decide +kernel) rfl⟩
theorem zl_X18_247 : zm_F zk_E RX18 247 16 30 := ⟨RX16, TX16, 40, rfl, zk_i16, by decide, zk_b13 112 (by decide +kernel) rfl⟩
theorem zl_X18_244 : zm_F zk_E RX18 244 16 27 := ⟨RX16, TX16, 40, rfl, zk_i16, by decide, zk_b13 108 (by decide +kernel) rfl⟩
theorem zl_X18_241 : zm_F zk_E RX18 241 16 17 := ⟨RX16, TX16, 40, rfl, zk_i16, by decide, zk_b13 96 (by decide +kernel) rfl⟩
theorem zl_X18_253 : zm_L zk_E RX18 253 yX16_isSpace (.code yX16_isSpace cX16_isSpace 2 (some .boolean)) 1 ∧ Cond.instanceMethod yX16_isSpace ∈ zk_E.2.2.1 ∧ Cond.selects yX16_isSpace.cls yX16_isSpace yX16_isSpace ∈ zk_E.2.2.1 := ⟨⟨zk_b17 139 (by decide +kernel) rfl, zk_b1 14 (by decide +kernel) rfl, zk_b17 136 (by decide +kernel) rfl, by decide +kernel, by decide +kernel, by decide +kernel⟩, zk_b17 137 (by decide +kernel) rfl, zk_b17 138 (by decide +kernel) rfl⟩
theorem zl_X18_256 : zm_L zk_E RX18 256 yX16_sides (.code yX16_sides cX16_sides 4 (some .int)) 2 ∧ Cond.instanceMethod yX16_sides ∈ zk_E.2.2.1 ∧ Cond.selects yX16_sides.cls yX16_sides yX16_sides ∈ zk_E.2.2.1 := ⟨⟨zk_b17 143 (by decide +kernel) rfl, zk_b1 14 (by decide +kernel) rfl, zk_b17 140 (by decide +kernel) rfl, by decide +kernel, by decide +kernel, by decide +kernel⟩, zk_b17 141 (by decide +kernel) rfl, zk_b17 142 (by decide +kernel) rfl⟩
theorem zl_X18_260 : zm_L zk_E RX18 260 yX16_side (.code yX16_side cX16_side 7 (some .int)) 4 ∧ Cond.instanceMethod yX16_side ∈ zk_E.2.2.1 ∧ Cond.selects yX16_side.cls yX16_side yX16_side ∈ zk_E.2.2.1 := ⟨⟨zk_b17 156 (by decide +kernel) rfl, zk_b1 14 (by decide +kernel) rfl, zk_b17 153 (by decide +kernel) rfl, by decide +kernel, by decide +kernel, by decide +kernel⟩, zk_b17 154 (by decide +kernel) rfl, zk_b17 155 (by decide +kernel) rfl⟩
theorem zl_X18_263 : zm_L zk_E RX18 263 yX16_size (.code yX16_size cX16_size 6 (some .int)) 2 ∧ Cond.instanceMethod yX16_size ∈ zk_E.2.2.1 ∧ Cond.selects yX16_size.cls yX16_size yX16_size ∈ zk_E.2.2.1 := ⟨⟨zk_b17 168 (by decide +kernel) rfl, zk_b1 14 (by decide +kernel) rfl, zk_b17 165 (by decide +kernel) rfl, by decide +kernel, by decide +kernel, by decide +kernel⟩, zk_b17 166 (by decide +kernel) rfl, zk_b17 167 (by decide +kernel) rfl⟩
theorem zl_X18_266 : zm_L zk_E RX18 266 yX18_isCell (.code yX18_isCell cX18_isCell 2 (some .boolean)) 2 ∧ Cond.static yX18_isCell ∈ zk_E.2.2.1 := ⟨⟨zk_b17 183 (by decide +kernel) rfl, zk_b1 13 (by decide +kernel) rfl, zk_b17 181 (by decide +kernel) rfl, by decide +kernel, by decide +kernel, by decide +kernel⟩, zk_b17 182 (by decide +kernel) rfl⟩
theorem zl_X18_269 : zm_L zk_E RX18 269 yX16_at (.code yX16_at cX16_at 5 (some .int)) 2 ∧ Cond.instanceMethod yX16_at ∈ zk_E.2.2.1 ∧ Cond.selects yX16_at.cls yX16_at yX16_at ∈ zk_E.2.2.1 := ⟨⟨zk_b17 187 (by decide +kernel) rfl, zk_b1 14 (by decide +kernel) rfl, zk_b17 184 (by decide +kernel) rfl, by decide +kernel, by decide +kernel, by decide +kernel⟩, zk_b17 185 (by decide +kernel) rfl, zk_b17 186 (by decide +kernel) rfl⟩
theorem zl_X18_275 : zm_L zk_E RX18 275 yX16_between (.code yX16_between cX16_between 3 (some .int)) 2 ∧ Cond.instanceMethod yX16_between ∈ zk_E.2.2.1 ∧ Cond.selects yX16_between.cls yX16_between yX16_between ∈ zk_E.2.2.1 := ⟨⟨zk_b17 199 (by decide +kernel) rfl, zk_b1 14 (by decide +kernel) rfl, zk_b17 196 (by decide +kernel) rfl, by decide +kernel, by decide +kernel, by decide +kernel⟩, zk_b17 197 (by decide +kernel) rfl, zk_b17 198 (by decide +kernel) rfl⟩
theorem zl_X18_272 : zm_L zk_E RX18 272 yX16_isAny (.code yX16_isAny cX16_isAny 2 (some .boolean)) 1 ∧ Cond.instanceMethod yX16_isAny ∈ zk_E.2.2.1 ∧ Cond.selects yX16_isAny.cls yX16_isAny yX16_isAny ∈ zk_E.2.2.1 := ⟨⟨zk_b17 195 (by decide +kernel) rfl, zk_b1 14 (by decide +kernel) rfl, zk_b17 192 (by decide +kernel) rfl, by decide +kernel, by decide +kernel, by decide +kernel⟩, zk_b17 193 (by decide +kernel) rfl, zk_b17 194 (by decide +kernel) rfl⟩
theorem zl_X18_278 : zm_L zk_E RX18 278 yX16_way (.code yX16_way cX16_way 5 (some .int)) 2 ∧ Cond.instanceMethod yX16_way ∈ zk_E.2.2.1 ∧ Cond.selects yX16_way.cls yX16_way yX16_way ∈ zk_E.2.2.1 := ⟨⟨zk_b17 211 (by decide +kernel) rfl, zk_b1 14 (by decide +kernel) rfl, zk_b17 208 (by decide +kernel) rfl, by decide +kernel, by decide +kernel, by decide +kernel⟩, zk_b17 209 (by decide +kernel) rfl, zk_b17 210 (by decide +kernel) rfl⟩
theorem zl_X18_281 : zm_F zk_E RX18 281 16 25 := ⟨RX16, TX16, 40, rfl, zk_i16, by decide, zk_b13 106 (by decide +kernel) rfl⟩
theorem zl_X18_284 : zm_L zk_E RX18 284 yX15_characters (.code yX15_characters cX15_characters 5 (some .int)) 1 ∧ Cond.static yX15_characters ∈ zk_E.2.2.1 := ⟨⟨zk_b17 230 (by decide +kernel) rfl, zk_b1 15 (by decide +kernel) rfl, zk_b17 228 (by decide +kernel) rfl, by decide +kernel, by decide +kernel, by decide +kernel⟩, zk_b17 229 (by decide +kernel) rfl⟩
theorem zl_X18_21 : zm_F zk_E RX18 21 18 4 := ⟨RX18, TX18, 60, rfl, zk_i18, by decide, zk_b16 31 (by decide +kernel) rfl⟩
theorem zl_X18_288 : zm_F zk_E RX18 288 15 1 := ⟨RX15, TX15, 44, rfl, zk_i15, by decide, zk_b13 212 (by decide +kernel) rfl⟩
theorem zl_X18_290 : zm_L zk_E RX18 290 yX15_say (.code yX15_say cX15_say 4 (some .int)) 1 ∧ Cond.instanceMethod yX15_say ∈ zk_E.2.2.1 ∧ Cond.selects yX15_say.cls yX15_say yX15_say ∈ zk_E.2.2.1 := ⟨⟨zk_b17 238 (by decide +kernel) rfl, zk_b1 15 (by decide +kernel) rfl, zk_b17 235 (by decide +kernel) rfl, by decide +kernel, by decide +kernel, by decide +kernel⟩, zk_b17 236 (by decide +kernel) rfl, zk_b17 237 (by decide +kernel) rfl⟩
theorem zl_X18_293 : zm_L zk_E RX18 293 yX15_read (.code yX15_read cX15_read 1 (some .int)) 0 ∧ Cond.instanceMethod yX15_read ∈ zk_E.2.2.1 ∧ Cond.selects yX15_read.cls yX15_read yX15_read ∈ zk_E.2.2.1 := ⟨⟨zk_b18 10 (by decide +kernel) rfl, zk_b1 15 (by decide +kernel) rfl, zk_b18 7 (by decide +kernel) rfl, by decide +kernel, by decide +kernel, by decide +kernel⟩, zk_b18 8 (by decide +kernel) rfl, zk_b18 9 (by decide +kernel) rfl⟩
theorem zl_X18_296 : zm_L zk_E RX18 296 yX15_factOf (.code yX15_factOf cX15_factOf 5 (some .int)) 1 ∧ Cond.instanceMethod yX15_factOf ∈ zk_E.2.2.1 ∧ Cond.selects yX15_factOf.cls yX15_factOf yX15_factOf ∈ zk_E.2.2.1 := ⟨⟨zk_b18 84 (by decide +kernel) rfl, zk_b1 15 (by decide +kernel) rfl, zk_b18 81 (by decide +kernel) rfl, by decide +kernel, by decide +kernel, by decide +kernel⟩, zk_b18 82 (by decide +kernel) rfl, zk_b18 83 (by decide +kernel) rfl⟩
theorem zl_X18_299 : zm_F zk_E RX18 299 15 2 := ⟨RX15, TX15, 44, rfl, zk_i15, by decide, zk_b13 214 (by decide +kernel) rfl⟩
theorem zl_X18_302 : zm_L zk_E RX18 302 yX15_isName (.code yX15_isName cX15_isName 6 (some .boolean)) 1 ∧ Cond.static yX15_isName ∈ zk_E.2.2.1 := ⟨⟨zk_b18 74 (by decide +kernel) rfl, zk_b1 15 (by decide +kernel) rfl, zk_b18 72 (by decide +kernel) rfl, by decide +kernel, by decide +kernel, by decide +kernel⟩, zk_b18 73 (by decide +kernel) rfl⟩
theorem zl_X18_308 : zm_L zk_E RX18 308 yX18_hasRoom (.code yX18_hasRoom cX18_hasRoom 3 (some .boolean)) 1 ∧ Cond.instanceMethod yX18_hasRoom ∈ zk_E.2.2.1 ∧ Cond.selects yX18_hasRoom.cls yX18_hasRoom yX18_hasRoom ∈ zk_E.2.2.1 := ⟨⟨zk_b18 80 (by decide +kernel) rfl, zk_b1 13 (by decide +kernel) rfl, zk_b18 77 (by decide +kernel) rfl, by decide +kernel, by decide +kernel, by decide +kernel⟩, zk_b18 79 (by decide +kernel) rfl, zk_s13 (q := (yX18_hasRoom, 60)) 15 (by decide +kernel)⟩
theorem zl_X18_311 : zm_L zk_E RX18 311 yX15_fact (.code yX15_fact cX15_fact 7 (some .long)) 2 ∧ Cond.instanceMethod yX15_fact ∈ zk_E.2.2.1 ∧ Cond.selects yX15_fact.cls yX15_fact yX15_fact ∈ zk_E.2.2.1 := ⟨⟨zk_b18 88 (by decide +kernel) rfl, zk_b1 15 (by decide +kernel) rfl, zk_b18 85 (by decide +kernel) rfl, by decide +kernel, by decide +kernel, by decide +kernel⟩, zk_b18 86 (by decide +kernel) rfl, zk_b18 87 (by decide +kernel) rfl⟩
theorem zl_X18_306 : Cond.constant RX18 306 (-1000000000 : Int32) ∈ zk_E.2.2.1 := zk_b18 75 (by decide +kernel) rfl
theorem zl_X18_307 : Cond.constant RX18 307 (1000000000 : Int32) ∈ zk_E.2.2.1 := zk_b18 76 (by decide +kernel) rfl
def zf_X17_fails (N : Nat) (a0 : Nat) (i1 : Int32) (i2 : Int32) (S : zm_S) : Option (Unit × zm_S) := (zg_r S a0 17 17).bind (fun b1 => (za_x S 0 b1 (0 : Int32)).bind (fun v2 => (zs_i S b1 (0 : Int32) (v2 + (1 : Int32))).bind (fun S3 => (zg_r S3 a0 17 17).bind (fun b4 => (za_x S3 0 b4 i2).bind (fun v5 => (zs_i S3 b4 i2 (v5 + (1 : Int32))).bind (fun S6 => (zg_r S6 a0 17 7).bind (fun b7 => (zg_r S6 a0 17 4).bind (fun b8 => (za_x S6 0 b8 i1).bind (fun v9 => (zs_i S6 b7 i1 v9).bind (fun S10 => some ((), S10)))))))))))
set_option maxHeartbeats 4000000 in
set_option maxRecDepth 100000 in
theorem zt_X17_fails {l : Launch} {V : zm_V} {N : Nat} {S : zm_S} {out : (Unit × zm_S)} {d : Nat} {a0 : Nat} {i1 : Int32} {i2 : Int32} (hd : 1 ≤ d) (h : zf_X17_fails N a0 i1 i2 S = some out) : zm_Met l zk_E V yX17_fails (.code yX17_fails cX17_fails 3 none) d [.ref a0, .int i1, .int i2] S 0 0 (zo_v out) zo_x := by
  refine zm_of (by decide +kernel) (Nat.le_of_ble_eq_true rfl) ?_
  intro p e R s m args below meth c hRR hX hr hxt
  have hR : R.frames = d ∧ R.locals = 64 * d := by rw [hRR]; exact ⟨rfl, rfl⟩
  have hX : zm_X p R s m args meth c RX17 "fails" cX17_fails 3 zk_E V 0 0 := hX
  unfold zf_X17_fails at h
  refine zw_sub (lv' := [(0, .ref a0), (1, .int i1), (2, .int i2)]) (List.forall_mem_cons.mpr ⟨rfl, (List.forall_mem_cons.mpr ⟨rfl, (List.forall_mem_cons.mpr ⟨rfl, zs_nil⟩)⟩)⟩) ?_
  refine zw_aload_n hX dX17_fails_0 rfl ?_
  obtain ⟨b1, g, h⟩ := zb_some h
  refine zw_getr hX zl_X17_56 dX17_fails_1 g ?_
  refine zw_iconst (v := (0 : Int32)) hX dX17_fails_4 (by decide) ?_
  refine zw_dup2 hX dX17_fails_5 rfl rfl ?_
  obtain ⟨v2, g, h⟩ := zb_some h
  refine zw_xi hX dX17_fails_6 g ?_
  refine zw_iconst (v := (1 : Int32)) hX dX17_fails_7 (by decide) ?_
  refine zw_iadd hX dX17_fails_8 ?_
  obtain ⟨S3, g, h⟩ := zb_some h
  refine zw_si hX dX17_fails_9 g ?_
  refine zw_aload_n hX dX17_fails_10 rfl ?_
  obtain ⟨b4, g, h⟩ := zb_some h
  refine zw_getr hX zl_X17_56 dX17_fails_11 g ?_
  refine zw_iload_n hX dX17_fails_14 rfl ?_
  refine zw_dup2 hX dX17_fails_15 rfl rfl ?_
  obtain ⟨v5, g, h⟩ := zb_some h
  refine zw_xi hX dX17_fails_16 g ?_
  refine zw_iconst (v := (1 : Int32)) hX dX17_fails_17 (by decide) ?_
  refine zw_iadd hX dX17_fails_18 ?_
  obtain ⟨S6, g, h⟩ := zb_some h
  refine zw_si hX dX17_fails_19 g ?_
  refine zw_aload_n hX dX17_fails_20 rfl ?_
  obtain ⟨b7, g, h⟩ := zb_some h
  refine zw_getr hX zl_X17_28 dX17_fails_21 g ?_
  refine zw_iload_n hX dX17_fails_24 rfl ?_
  refine zw_aload_n hX dX17_fails_25 rfl ?_
  obtain ⟨b8, g, h⟩ := zb_some h
  refine zw_getr hX zl_X17_19 dX17_fails_26 g ?_
  refine zw_iload_n hX dX17_fails_29 rfl ?_
  obtain ⟨v9, g, h⟩ := zb_some h
  refine zw_xi hX dX17_fails_30 g ?_
  obtain ⟨S10, g, h⟩ := zb_some h
  refine zw_si hX dX17_fails_31 g ?_
  obtain rfl := Option.some.inj h
  exact zw_vret hX hr dX17_fails_32 ⟨rfl, rfl⟩
def zf_X17_plain (N : Nat) (a0 : Nat) (i1 : Int32) (i2 : Int32) (i3 : Int32) (S : zm_S) : Option (Int32 × zm_S) := (zg_r S a0 17 1).bind (fun b1 => (za_x S 0 b1 i1).bind (fun v2 => if (v2).toInt = 0 then (zg_r S a0 17 12).bind (fun b5 => (zg_r S a0 17 2).bind (fun b6 => (za_x S 0 b6 i1).bind (fun v7 => (za_x S 0 b5 v7).bind (fun v8 => some (v8, S))))) else if (v2).toInt = 1 then (zg_r S a0 17 2).bind (fun b9 => (za_x S 0 b9 i1).bind (fun v10 => some (v10, S))) else if (v2).toInt = 2 then some ((i2 + i3), S) else if (v2).toInt = 3 then some ((i2 - i3), S) else if (v2).toInt = 4 then some ((i2 * i3), S) else if (v2).toInt = 5 then if i3 = 0 then none else some ((i2 / i3), S) else if (v2).toInt = 6 then if i3 = 0 then none else some ((i2 - (i3 * (i2 / i3))), S) else if (v2).toInt = 7 then if i3 ≤ i2 then some (i3, S) else some (i2, S) else if (v2).toInt = 8 then if i2 ≤ i3 then some (i3, S) else some (i2, S) else if (v2).toInt = 9 then if i3 ≤ i2 then some ((0 : Int32), S) else some ((1 : Int32), S) else if (v2).toInt = 10 then if i2 = i3 then some ((1 : Int32), S) else some ((0 : Int32), S) else if (v2).toInt = 11 then if i2 = 0 then some ((0 : Int32), S) else if i3 = 0 then some ((0 : Int32), S) else some ((1 : Int32), S) else if (v2).toInt = 12 then if i2 = 0 then if i3 = 0 then some ((0 : Int32), S) else some ((1 : Int32), S) else some ((1 : Int32), S) else if (v2).toInt = 13 then if i2 = 0 then some ((1 : Int32), S) else some ((0 : Int32), S) else if (v2).toInt = 14 then if i2 = 0 then (zi S a0 17).bind (fun _ => (zf_X17_in N a0 i1 (2 : Int32) S).bind (fun r13 => some (r13.1, r13.2))) else some (i3, S) else (zg_r S a0 17 6).bind (fun b3 => (za_x S 0 b3 (((8 : Int32) * i1) + i2)).bind (fun v4 => some (v4, S)))))
set_option maxHeartbeats 4000000 in
set_option maxRecDepth 100000 in
theorem zt_X17_plain {l : Launch} {V : zm_V} {N : Nat} {S : zm_S} {out : (Int32 × zm_S)} {d : Nat} {a0 : Nat} {i1 : Int32} {i2 : Int32} {i3 : Int32} (hd : 2 ≤ d) (h : zf_X17_plain N a0 i1 i2 i3 S = some out) : zm_Met l zk_E V yX17_plain (.code yX17_plain cX17_plain 4 (some .int)) d [.ref a0, .int i1, .int i2, .int i3] S 0 0 (zo_i out) zo_x := by
  refine zm_of (by decide +kernel) (Nat.le_of_ble_eq_true rfl) ?_
  intro p e R s m args below meth c hRR hX hr hxt
  have hR : R.frames = d ∧ R.locals = 64 * d := by rw [hRR]; exact ⟨rfl, rfl⟩
  have hX : zm_X p R s m args meth c RX17 "plain" cX17_plain 4 zk_E V 0 0 := hX
  unfold zf_X17_plain at h
  refine zw_sub (lv' := [(0, .ref a0), (1, .int i1), (2, .int i2), (3, .int i3)]) (List.forall_mem_cons.mpr ⟨rfl, (List.forall_mem_cons.mpr ⟨rfl, (List.forall_mem_cons.mpr ⟨rfl, (List.forall_mem_cons.mpr ⟨rfl, zs_nil⟩)⟩)⟩)⟩) ?_
  refine zw_aload_n hX dX17_plain_0 rfl ?_
  obtain ⟨b1, g, h⟩ := zb_some h
  refine zw_getr hX zl_X17_7 dX17_plain_1 g ?_
  refine zw_iload_n hX dX17_plain_4 rfl ?_
  obtain ⟨v2, g, h⟩ := zb_some h
  refine zw_xi hX dX17_plain_5 g ?_
  by_cases c6_0 : (v2).toInt = 0
  · rw [if_pos c6_0] at h
    refine zw_tableIn (off := 74) (tgt := 80) hX dX17_plain_6 (by rw [c6_0]; decide) (by rw [c6_0]; decide) (by rw [c6_0]; decide) (by decide) ?_
    refine zw_aload_n hX dX17_plain_80 rfl ?_
    obtain ⟨b5, g, h⟩ := zb_some h
    refine zw_getr hX zl_X17_44 dX17_plain_81 g ?_
    refine zw_aload_n hX dX17_plain_84 rfl ?_
    obtain ⟨b6, g, h⟩ := zb_some h
    refine zw_getr hX zl_X17_13 dX17_plain_85 g ?_
    refine zw_iload_n hX dX17_plain_88 rfl ?_
    obtain ⟨v7, g, h⟩ := zb_some h
    refine zw_xi hX dX17_plain_89 g ?_
    obtain ⟨v8, g, h⟩ := zb_some h
    refine zw_xi hX dX17_plain_90 g ?_
    obtain rfl := Option.some.inj h
    exact zw_iret hX hr dX17_plain_91 rfl ⟨rfl, rfl⟩
  rw [if_neg c6_0] at h
  by_cases c6_1 : (v2).toInt = 1
  · rw [if_pos c6_1] at h
    refine zw_tableIn (off := 86) (tgt := 92) hX dX17_plain_6 (by rw [c6_1]; decide) (by rw [c6_1]; decide) (by rw [c6_1]; decide) (by decide) ?_
    refine zw_aload_n hX dX17_plain_92 rfl ?_
    obtain ⟨b9, g, h⟩ := zb_some h
    refine zw_getr hX zl_X17_13 dX17_plain_93 g ?_
    refine zw_iload_n hX dX17_plain_96 rfl ?_
    obtain ⟨v10, g, h⟩ := zb_some h
    refine zw_xi hX dX17_plain_97 g ?_
    obtain rfl := Option.some.inj h
    exact zw_iret hX hr dX17_plain_98 rfl ⟨rfl, rfl⟩
  rw [if_neg c6_1] at h
  by_cases c6_2 : (v2).toInt = 2
  · rw [if_pos c6_2] at h
    refine zw_tableIn (off := 93) (tgt := 99) hX dX17_plain_6 (by rw [c6_2]; decide) (by rw [c6_2]; decide) (by rw [c6_2]; decide) (by decide) ?_
    refine zw_iload_n hX dX17_plain_99 rfl ?_
    refine zw_iload_n hX dX17_plain_100 rfl ?_
    refine zw_iadd hX dX17_plain_101 ?_
    obtain rfl := Option.some.inj h
    exact zw_iret hX hr dX17_plain_102 rfl ⟨rfl, rfl⟩
  rw [if_neg c6_2] at h
  by_cases c6_3 : (v2).toInt = 3
  · rw [if_pos c6_3] at h
    refine zw_tableIn (off := 97) (tgt := 103) hX dX17_plain_6 (by rw [c6_3]; decide) (by rw [c6_3]; decide) (by rw [c6_3]; decide) (by decide) ?_
    refine zw_iload_n hX dX17_plain_103 rfl ?_
    refine zw_iload_n hX dX17_plain_104 rfl ?_
    refine zw_isub hX dX17_plain_105 ?_
    obtain rfl := Option.some.inj h
    exact zw_iret hX hr dX17_plain_106 rfl ⟨rfl, rfl⟩
  rw [if_neg c6_3] at h
  by_cases c6_4 : (v2).toInt = 4
  · rw [if_pos c6_4] at h
    refine zw_tableIn (off := 101) (tgt := 107) hX dX17_plain_6 (by rw [c6_4]; decide) (by rw [c6_4]; decide) (by rw [c6_4]; decide) (by decide) ?_
    refine zw_iload_n hX dX17_plain_107 rfl ?_
    refine zw_iload_n hX dX17_plain_108 rfl ?_
    refine zw_imul hX dX17_plain_109 ?_
    obtain rfl := Option.some.inj h
    exact zw_iret hX hr dX17_plain_110 rfl ⟨rfl, rfl⟩
  rw [if_neg c6_4] at h
  by_cases c6_5 : (v2).toInt = 5
  · rw [if_pos c6_5] at h
    refine zw_tableIn (off := 105) (tgt := 111) hX dX17_plain_6 (by rw [c6_5]; decide) (by rw [c6_5]; decide) (by rw [c6_5]; decide) (by decide) ?_
    refine zw_iload_n hX dX17_plain_111 rfl ?_
    refine zw_iload_n hX dX17_plain_112 rfl ?_
    by_cases c0 : i3 = 0
    · rw [if_pos c0] at h
      cases h
    rw [if_neg c0] at h
    refine zw_idiv hX dX17_plain_113 c0 ?_
    obtain rfl := Option.some.inj h
    exact zw_iret hX hr dX17_plain_114 rfl ⟨rfl, rfl⟩
  rw [if_neg c6_5] at h
  by_cases c6_6 : (v2).toInt = 6
  · rw [if_pos c6_6] at h
    refine zw_tableIn (off := 109) (tgt := 115) hX dX17_plain_6 (by rw [c6_6]; decide) (by rw [c6_6]; decide) (by rw [c6_6]; decide) (by decide) ?_
    refine zw_iload_n hX dX17_plain_115 rfl ?_
    refine zw_iload_n hX dX17_plain_116 rfl ?_
    refine zw_iload_n hX dX17_plain_117 rfl ?_
    refine zw_iload_n hX dX17_plain_118 rfl ?_
    by_cases c0 : i3 = 0
    · rw [if_pos c0] at h
      cases h
    rw [if_neg c0] at h
    refine zw_idiv hX dX17_plain_119 c0 ?_
    refine zw_imul hX dX17_plain_120 ?_
    refine zw_isub hX dX17_plain_121 ?_
    obtain rfl := Option.some.inj h
    exact zw_iret hX hr dX17_plain_122 rfl ⟨rfl, rfl⟩
  rw [if_neg c6_6] at h
  by_cases c6_7 : (v2).toInt = 7
  · rw [if_pos c6_7] at h
    refine zw_tableIn (off := 117) (tgt := 123) hX dX17_plain_6 (by rw [c6_7]; decide) (by rw [c6_7]; decide) (by rw [c6_7]; decide) (by decide) ?_
    refine zw_iload_n hX dX17_plain_123 rfl ?_
    refine zw_iload_n hX dX17_plain_124 rfl ?_
    refine zw_icmp_ge (tgt := 132) hX dX17_plain_125 (by decide) (fun c125 => ?_) (fun c125 => ?_)
    · rw [if_pos c125] at h
      refine zw_iload_n hX dX17_plain_132 rfl ?_
      obtain rfl := Option.some.inj h
      exact zw_iret hX hr dX17_plain_133 rfl ⟨rfl, rfl⟩
    · rw [if_neg c125] at h
      refine zw_iload_n hX dX17_plain_128 rfl ?_
      refine zw_goto (tgt := 133) hX dX17_plain_129 (by decide) ?_
      obtain rfl := Option.some.inj h
      exact zw_iret hX hr dX17_plain_133 rfl ⟨rfl, rfl⟩
  rw [if_neg c6_7] at h
  by_cases c6_8 : (v2).toInt = 8
  · rw [if_pos c6_8] at h
    refine zw_tableIn (off := 128) (tgt := 134) hX dX17_plain_6 (by rw [c6_8]; decide) (by rw [c6_8]; decide) (by rw [c6_8]; decide) (by decide) ?_
    refine zw_iload_n hX dX17_plain_134 rfl ?_
    refine zw_iload_n hX dX17_plain_135 rfl ?_
    refine zw_icmp_le (tgt := 143) hX dX17_plain_136 (by decide) (fun c136 => ?_) (fun c136 => ?_)
    · rw [if_pos c136] at h
      refine zw_iload_n hX dX17_plain_143 rfl ?_
      obtain rfl := Option.some.inj h
      exact zw_iret hX hr dX17_plain_144 rfl ⟨rfl, rfl⟩
    · rw [if_neg c136] at h
      refine zw_iload_n hX dX17_plain_139 rfl ?_
      refine zw_goto (tgt := 144) hX dX17_plain_140 (by decide) ?_
      obtain rfl := Option.some.inj h
      exact zw_iret hX hr dX17_plain_144 rfl ⟨rfl, rfl⟩
  rw [if_neg c6_8] at h
  by_cases c6_9 : (v2).toInt = 9
  · rw [if_pos c6_9] at h
    refine zw_tableIn (off := 139) (tgt := 145) hX dX17_plain_6 (by rw [c6_9]; decide) (by rw [c6_9]; decide) (by rw [c6_9]; decide) (by decide) ?_
    refine zw_iload_n hX dX17_plain_145 rfl ?_
    refine zw_iload_n hX dX17_plain_146 rfl ?_
    refine zw_icmp_ge (tgt := 154) hX dX17_plain_147 (by decide) (fun c147 => ?_) (fun c147 => ?_)
    · rw [if_pos c147] at h
      refine zw_iconst (v := (0 : Int32)) hX dX17_plain_154 (by decide) ?_
      obtain rfl := Option.some.inj h
      exact zw_iret hX hr dX17_plain_155 rfl ⟨rfl, rfl⟩
    · rw [if_neg c147] at h
      refine zw_iconst (v := (1 : Int32)) hX dX17_plain_150 (by decide) ?_
      refine zw_goto (tgt := 155) hX dX17_plain_151 (by decide) ?_
      obtain rfl := Option.some.inj h
      exact zw_iret hX hr dX17_plain_155 rfl ⟨rfl, rfl⟩
  rw [if_neg c6_9] at h
  by_cases c6_10 : (v2).toInt = 10
  · rw [if_pos c6_10] at h
    refine zw_tableIn (off := 150) (tgt := 156) hX dX17_plain_6 (by rw [c6_10]; decide) (by rw [c6_10]; decide) (by rw [c6_10]; decide) (by decide) ?_
    refine zw_iload_n hX dX17_plain_156 rfl ?_
    refine zw_iload_n hX dX17_plain_157 rfl ?_
    refine zw_icmp_ne (tgt := 165) hX dX17_plain_158 (by decide) (fun c158 => ?_) (fun c158 => ?_)
    · rw [if_neg c158] at h
      refine zw_iconst (v := (0 : Int32)) hX dX17_plain_165 (by decide) ?_
      obtain rfl := Option.some.inj h
      exact zw_iret hX hr dX17_plain_166 rfl ⟨rfl, rfl⟩
    · rw [if_pos c158] at h
      refine zw_iconst (v := (1 : Int32)) hX dX17_plain_161 (by decide) ?_
      refine zw_goto (tgt := 166) hX dX17_plain_162 (by decide) ?_
      obtain rfl := Option.some.inj h
      exact zw_iret hX hr dX17_plain_166 rfl ⟨rfl, rfl⟩
  rw [if_neg c6_10] at h
  by_cases c6_11 : (v2).toInt = 11
  · rw [if_pos c6_11] at h
    refine zw_tableIn (off := 161) (tgt := 167) hX dX17_plain_6 (by rw [c6_11]; decide) (by rw [c6_11]; decide) (by rw [c6_11]; decide) (by decide) ?_
    refine zw_iload_n hX dX17_plain_167 rfl ?_
    refine zw_if_eq (tgt := 179) hX dX17_plain_168 (by decide) (fun c168 => ?_) (fun c168 => ?_)
    · rw [if_pos c168] at h
      refine zw_iconst (v := (0 : Int32)) hX dX17_plain_179 (by decide) ?_
      obtain rfl := Option.some.inj h
      exact zw_iret hX hr dX17_plain_180 rfl ⟨rfl, rfl⟩
    · rw [if_neg c168] at h
      refine zw_iload_n hX dX17_plain_171 rfl ?_
      refine zw_if_eq (tgt := 179) hX dX17_plain_172 (by decide) (fun c172 => ?_) (fun c172 => ?_)
      · rw [if_pos c172] at h
        refine zw_iconst (v := (0 : Int32)) hX dX17_plain_179 (by decide) ?_
        obtain rfl := Option.some.inj h
        exact zw_iret hX hr dX17_plain_180 rfl ⟨rfl, rfl⟩
      · rw [if_neg c172] at h
        refine zw_iconst (v := (1 : Int32)) hX dX17_plain_175 (by decide) ?_
        refine zw_goto (tgt := 180) hX dX17_plain_176 (by decide) ?_
        obtain rfl := Option.some.inj h
        exact zw_iret hX hr dX17_plain_180 rfl ⟨rfl, rfl⟩
  rw [if_neg c6_11] at h
  by_cases c6_12 : (v2).toInt = 12
  · rw [if_pos c6_12] at h
    refine zw_tableIn (off := 175) (tgt := 181) hX dX17_plain_6 (by rw [c6_12]; decide) (by rw [c6_12]; decide) (by rw [c6_12]; decide) (by decide) ?_
    refine zw_iload_n hX dX17_plain_181 rfl ?_
    refine zw_if_ne (tgt := 189) hX dX17_plain_182 (by decide) (fun c182 => ?_) (fun c182 => ?_)
    · rw [if_neg c182] at h
      refine zw_iconst (v := (1 : Int32)) hX dX17_plain_189 (by decide) ?_
      refine zw_goto (tgt := 194) hX dX17_plain_190 (by decide) ?_
      obtain rfl := Option.some.inj h
      exact zw_iret hX hr dX17_plain_194 rfl ⟨rfl, rfl⟩
    · rw [if_pos c182] at h
      refine zw_iload_n hX dX17_plain_185 rfl ?_
      refine zw_if_eq (tgt := 193) hX dX17_plain_186 (by decide) (fun c186 => ?_) (fun c186 => ?_)
      · rw [if_pos c186] at h
        refine zw_iconst (v := (0 : Int32)) hX dX17_plain_193 (by decide) ?_
        obtain rfl := Option.some.inj h
        exact zw_iret hX hr dX17_plain_194 rfl ⟨rfl, rfl⟩
      · rw [if_neg c186] at h
        refine zw_iconst (v := (1 : Int32)) hX dX17_plain_189 (by decide) ?_
        refine zw_goto (tgt := 194) hX dX17_plain_190 (by decide) ?_
        obtain rfl := Option.some.inj h
        exact zw_iret hX hr dX17_plain_194 rfl ⟨rfl, rfl⟩
  rw [if_neg c6_12] at h
  by_cases c6_13 : (v2).toInt = 13
  · rw [if_pos c6_13] at h
    refine zw_tableIn (off := 189) (tgt := 195) hX dX17_plain_6 (by rw [c6_13]; decide) (by rw [c6_13]; decide) (by rw [c6_13]; decide) (by decide) ?_
    refine zw_iload_n hX dX17_plain_195 rfl ?_
    refine zw_if_ne (tgt := 203) hX dX17_plain_196 (by decide) (fun c196 => ?_) (fun c196 => ?_)
    · rw [if_neg c196] at h
      refine zw_iconst (v := (0 : Int32)) hX dX17_plain_203 (by decide) ?_
      obtain rfl := Option.some.inj h
      exact zw_iret hX hr dX17_plain_204 rfl ⟨rfl, rfl⟩
    · rw [if_pos c196] at h
      refine zw_iconst (v := (1 : Int32)) hX dX17_plain_199 (by decide) ?_
      refine zw_goto (tgt := 204) hX dX17_plain_200 (by decide) ?_
      obtain rfl := Option.some.inj h
      exact zw_iret hX hr dX17_plain_204 rfl ⟨rfl, rfl⟩
  rw [if_neg c6_13] at h
  by_cases c6_14 : (v2).toInt = 14
  · rw [if_pos c6_14] at h
    refine zw_tableIn (off := 199) (tgt := 205) hX dX17_plain_6 (by rw [c6_14]; decide) (by rw [c6_14]; decide) (by rw [c6_14]; decide) (by decide) ?_
    refine zw_iload_n hX dX17_plain_205 rfl ?_
    refine zw_if_eq (tgt := 213) hX dX17_plain_206 (by decide) (fun c206 => ?_) (fun c206 => ?_)
    · rw [if_pos c206] at h
      refine zw_aload_n hX dX17_plain_213 rfl ?_
      refine zw_iload_n hX dX17_plain_214 rfl ?_
      refine zw_iconst (v := (2 : Int32)) hX dX17_plain_215 (by decide) ?_
      obtain ⟨_, gi, h⟩ := zb_some h
      obtain ⟨r13, g, h⟩ := zb_some h
      refine zc_Vi (as := [.int i1, .int (2 : Int32)]) hX gi (zt_X17_in (d := d - 1) (by omega) g) zl_X17_75 rfl dX17_plain_216 ⟨rfl, rfl, Nat.le_of_ble_eq_true rfl⟩ ⟨by omega, by omega⟩ ?_
      obtain rfl := Option.some.inj h
      exact zw_iret hX hr dX17_plain_219 rfl ⟨rfl, rfl⟩
    · rw [if_neg c206] at h
      refine zw_iload_n hX dX17_plain_209 rfl ?_
      refine zw_goto (tgt := 219) hX dX17_plain_210 (by decide) ?_
      obtain rfl := Option.some.inj h
      exact zw_iret hX hr dX17_plain_219 rfl ⟨rfl, rfl⟩
  rw [if_neg c6_14] at h
  refine zw_tableOut (tgt := 220) hX dX17_plain_6 (by omega) (by decide) ?_
  refine zw_aload_n hX dX17_plain_220 rfl ?_
  obtain ⟨b3, g, h⟩ := zb_some h
  refine zw_getr hX zl_X17_25 dX17_plain_221 g ?_
  refine zw_bipush (v := (8 : Int32)) hX dX17_plain_224 (by decide) ?_
  refine zw_iload_n hX dX17_plain_226 rfl ?_
  refine zw_imul hX dX17_plain_227 ?_
  refine zw_iload_n hX dX17_plain_228 rfl ?_
  refine zw_iadd hX dX17_plain_229 ?_
  obtain ⟨v4, g, h⟩ := zb_some h
  refine zw_xi hX dX17_plain_230 g ?_
  obtain rfl := Option.some.inj h
  exact zw_iret hX hr dX17_plain_231 rfl ⟨rfl, rfl⟩
def zf_X17_ramp_J55 (N : Nat) (a0 : Nat) (i1 : Int32) (j3 : Int64) (S : zm_S) : Option (Int32 × zm_S) := (zg_r S a0 17 7).bind (fun b7 => (za_x S 0 b7 i1).bind (fun v8 => some ((((v8).toInt64 + j3)).toInt32, S)))
set_option maxHeartbeats 4000000 in
set_option maxRecDepth 100000 in
theorem zt_X17_ramp_J55 {p : Program} {l : Launch} {e : Env} {R : Room} {s : State} {m : MethodId} {args : Array Value} {below : List Frame} {meth : Method} {c : Code} {V : zm_V} {mc ms d rc rs : Nat} (hX : zm_X p R s m args meth c RX17 "ramp" cX17_ramp 7 zk_E V mc ms) (hr : meth.sig.returnType = (some .int)) (hR : R.frames = d ∧ R.locals = 64 * d) (hd : 1 ≤ d) {N : Nat} {a0 : Nat} {i1 : Int32} {j3 : Int64} {out : (Int32 × zm_S)} {S : zm_S} (h : zf_X17_ramp_J55 N a0 i1 j3 S = some out) : zw p l e R s m args below meth c (vx_MQ below (zm_Qc zk_E V (zo_i out)) (zm_XC zk_E V zo_x) args s mc ms (fun q => V.2.2.2.1 ≤ q)) 7 zk_E V mc ms 55 [(0, .ref a0), (1, .int i1), (3, .long j3)] [] S rc rs := by
  unfold zf_X17_ramp_J55 at h
  refine zw_aload_n hX dX17_ramp_55 rfl ?_
  obtain ⟨b7, g, h⟩ := zb_some h
  refine zw_getr hX zl_X17_28 dX17_ramp_56 g ?_
  refine zw_iload_n hX dX17_ramp_59 rfl ?_
  obtain ⟨v8, g, h⟩ := zb_some h
  refine zw_xi hX dX17_ramp_60 g ?_
  refine zw_i2l hX dX17_ramp_61 ?_
  refine zw_lload_n hX dX17_ramp_62 rfl ?_
  refine zw_ladd hX dX17_ramp_63 ?_
  refine zw_l2i hX dX17_ramp_64 ?_
  obtain rfl := Option.some.inj h
  exact zw_iret hX hr dX17_ramp_65 rfl ⟨rfl, rfl⟩
def zf_X17_ramp_J43 (N : Nat) (a0 : Nat) (i1 : Int32) (j3 : Int64) (j5 : Int64) (S : zm_S) : Option (Int32 × zm_S) := if 0 ≤ (lg_cmp j3 (-j5)) then zf_X17_ramp_J55 N a0 i1 j3 S else zf_X17_ramp_J55 N a0 i1 (-j5) S
set_option maxHeartbeats 4000000 in
set_option maxRecDepth 100000 in
theorem zt_X17_ramp_J43 {p : Program} {l : Launch} {e : Env} {R : Room} {s : State} {m : MethodId} {args : Array Value} {below : List Frame} {meth : Method} {c : Code} {V : zm_V} {mc ms d rc rs : Nat} (hX : zm_X p R s m args meth c RX17 "ramp" cX17_ramp 7 zk_E V mc ms) (hr : meth.sig.returnType = (some .int)) (hR : R.frames = d ∧ R.locals = 64 * d) (hd : 1 ≤ d) {N : Nat} {a0 : Nat} {i1 : Int32} {j3 : Int64} {j5 : Int64} {out : (Int32 × zm_S)} {S : zm_S} (h : zf_X17_ramp_J43 N a0 i1 j3 j5 S = some out) : zw p l e R s m args below meth c (vx_MQ below (zm_Qc zk_E V (zo_i out)) (zm_XC zk_E V zo_x) args s mc ms (fun q => V.2.2.2.1 ≤ q)) 7 zk_E V mc ms 43 [(0, .ref a0), (1, .int i1), (3, .long j3), (5, .long j5)] [] S rc rs := by
  unfold zf_X17_ramp_J43 at h
  refine zw_lload_n hX dX17_ramp_43 rfl ?_
  refine zw_lload hX dX17_ramp_44 rfl ?_
  refine zw_lneg hX dX17_ramp_46 ?_
  refine zw_lcmp hX dX17_ramp_47 ?_
  refine zw_if_ge (tgt := 55) hX dX17_ramp_48 (by decide) (fun c48 => ?_) (fun c48 => ?_)
  · rw [if_pos c48] at h
    refine zw_sub (lv' := [(0, .ref a0), (1, .int i1), (3, .long j3)]) (List.forall_mem_cons.mpr ⟨rfl, (List.forall_mem_cons.mpr ⟨rfl, (List.forall_mem_cons.mpr ⟨rfl, zs_nil⟩)⟩)⟩) ?_
    exact zt_X17_ramp_J55 hX hr hR hd h
  · rw [if_neg c48] at h
    refine zw_lload hX dX17_ramp_51 rfl ?_
    refine zw_lneg hX dX17_ramp_53 ?_
    refine zw_lstore_n hX dX17_ramp_54 (by decide) ?_
    refine zw_sub (lv' := [(0, .ref a0), (1, .int i1), (3, .long (-j5))]) (List.forall_mem_cons.mpr ⟨rfl, (List.forall_mem_cons.mpr ⟨rfl, (List.forall_mem_cons.mpr ⟨rfl, zs_nil⟩)⟩)⟩) ?_
    exact zt_X17_ramp_J55 hX hr hR hd h
def zf_X17_ramp_J31 (N : Nat) (a0 : Nat) (i1 : Int32) (j3 : Int64) (t0 : Int64) (S : zm_S) : Option (Int32 × zm_S) := if (lg_cmp j3 t0) ≤ 0 then zf_X17_ramp_J43 N a0 i1 j3 t0 S else zf_X17_ramp_J43 N a0 i1 t0 t0 S
set_option maxHeartbeats 4000000 in
set_option maxRecDepth 100000 in
theorem zt_X17_ramp_J31 {p : Program} {l : Launch} {e : Env} {R : Room} {s : State} {m : MethodId} {args : Array Value} {below : List Frame} {meth : Method} {c : Code} {V : zm_V} {mc ms d rc rs : Nat} (hX : zm_X p R s m args meth c RX17 "ramp" cX17_ramp 7 zk_E V mc ms) (hr : meth.sig.returnType = (some .int)) (hR : R.frames = d ∧ R.locals = 64 * d) (hd : 1 ≤ d) {N : Nat} {a0 : Nat} {i1 : Int32} {j3 : Int64} {t0 : Int64} {out : (Int32 × zm_S)} {S : zm_S} (h : zf_X17_ramp_J31 N a0 i1 j3 t0 S = some out) : zw p l e R s m args below meth c (vx_MQ below (zm_Qc zk_E V (zo_i out)) (zm_XC zk_E V zo_x) args s mc ms (fun q => V.2.2.2.1 ≤ q)) 7 zk_E V mc ms 31 [(0, .ref a0), (1, .int i1), (3, .long j3)] [.long t0] S rc rs := by
  unfold zf_X17_ramp_J31 at h
  refine zw_lstore hX dX17_ramp_31 (by decide) ?_
  refine zw_lload_n hX dX17_ramp_33 rfl ?_
  refine zw_lload hX dX17_ramp_34 rfl ?_
  refine zw_lcmp hX dX17_ramp_36 ?_
  refine zw_if_le (tgt := 43) hX dX17_ramp_37 (by decide) (fun c37 => ?_) (fun c37 => ?_)
  · rw [if_pos c37] at h
    refine zw_sub (lv' := [(0, .ref a0), (1, .int i1), (3, .long j3), (5, .long t0)]) (List.forall_mem_cons.mpr ⟨rfl, (List.forall_mem_cons.mpr ⟨rfl, (List.forall_mem_cons.mpr ⟨rfl, (List.forall_mem_cons.mpr ⟨rfl, zs_nil⟩)⟩)⟩)⟩) ?_
    exact zt_X17_ramp_J43 hX hr hR hd h
  · rw [if_neg c37] at h
    refine zw_lload hX dX17_ramp_40 rfl ?_
    refine zw_lstore_n hX dX17_ramp_42 (by decide) ?_
    refine zw_sub (lv' := [(0, .ref a0), (1, .int i1), (3, .long t0), (5, .long t0)]) (List.forall_mem_cons.mpr ⟨rfl, (List.forall_mem_cons.mpr ⟨rfl, (List.forall_mem_cons.mpr ⟨rfl, (List.forall_mem_cons.mpr ⟨rfl, zs_nil⟩)⟩)⟩)⟩) ?_
    exact zt_X17_ramp_J43 hX hr hR hd h
def zf_X17_ramp (N : Nat) (a0 : Nat) (i1 : Int32) (i2 : Int32) (S : zm_S) : Option (Int32 × zm_S) := (zg_r S a0 17 7).bind (fun b1 => (za_x S 0 b1 i1).bind (fun v2 => (zg_r S a0 17 2).bind (fun b3 => (za_x S 0 b3 i1).bind (fun v4 => if 0 ≤ v4 then (zg_r S a0 17 2).bind (fun b5 => (za_x S 0 b5 i1).bind (fun v6 => zf_X17_ramp_J31 N a0 i1 ((i2).toInt64 - (v2).toInt64) ((v6).toInt64) S)) else zf_X17_ramp_J31 N a0 i1 ((i2).toInt64 - (v2).toInt64) (0 : Int64) S))))
set_option maxHeartbeats 4000000 in
set_option maxRecDepth 100000 in
theorem zt_X17_ramp {l : Launch} {V : zm_V} {N : Nat} {S : zm_S} {out : (Int32 × zm_S)} {d : Nat} {a0 : Nat} {i1 : Int32} {i2 : Int32} (hd : 1 ≤ d) (h : zf_X17_ramp N a0 i1 i2 S = some out) : zm_Met l zk_E V yX17_ramp (.code yX17_ramp cX17_ramp 7 (some .int)) d [.ref a0, .int i1, .int i2] S 0 0 (zo_i out) zo_x := by
  refine zm_of (by decide +kernel) (Nat.le_of_ble_eq_true rfl) ?_
  intro p e R s m args below meth c hRR hX hr hxt
  have hR : R.frames = d ∧ R.locals = 64 * d := by rw [hRR]; exact ⟨rfl, rfl⟩
  have hX : zm_X p R s m args meth c RX17 "ramp" cX17_ramp 7 zk_E V 0 0 := hX
  unfold zf_X17_ramp at h
  refine zw_sub (lv' := [(0, .ref a0), (1, .int i1), (2, .int i2)]) (List.forall_mem_cons.mpr ⟨rfl, (List.forall_mem_cons.mpr ⟨rfl, (List.forall_mem_cons.mpr ⟨rfl, zs_nil⟩)⟩)⟩) ?_
  refine zw_iload_n hX dX17_ramp_0 rfl ?_
  refine zw_i2l hX dX17_ramp_1 ?_
  refine zw_aload_n hX dX17_ramp_2 rfl ?_
  obtain ⟨b1, g, h⟩ := zb_some h
  refine zw_getr hX zl_X17_28 dX17_ramp_3 g ?_
  refine zw_iload_n hX dX17_ramp_6 rfl ?_
  obtain ⟨v2, g, h⟩ := zb_some h
  refine zw_xi hX dX17_ramp_7 g ?_
  refine zw_i2l hX dX17_ramp_8 ?_
  refine zw_lsub hX dX17_ramp_9 ?_
  refine zw_lstore_n hX dX17_ramp_10 (by decide) ?_
  refine zw_aload_n hX dX17_ramp_11 rfl ?_
  obtain ⟨b3, g, h⟩ := zb_some h
  refine zw_getr hX zl_X17_13 dX17_ramp_12 g ?_
  refine zw_iload_n hX dX17_ramp_15 rfl ?_
  obtain ⟨v4, g, h⟩ := zb_some h
  refine zw_xi hX dX17_ramp_16 g ?_
  refine zw_if_ge (tgt := 24) hX dX17_ramp_17 (by decide) (fun c17 => ?_) (fun c17 => ?_)
  · rw [if_pos c17] at h
    refine zw_aload_n hX dX17_ramp_24 rfl ?_
    obtain ⟨b5, g, h⟩ := zb_some h
    refine zw_getr hX zl_X17_13 dX17_ramp_25 g ?_
    refine zw_iload_n hX dX17_ramp_28 rfl ?_
    obtain ⟨v6, g, h⟩ := zb_some h
    refine zw_xi hX dX17_ramp_29 g ?_
    refine zw_i2l hX dX17_ramp_30 ?_
    refine zw_sub (lv' := [(0, .ref a0), (1, .int i1), (3, .long ((i2).toInt64 - (v2).toInt64))]) (List.forall_mem_cons.mpr ⟨rfl, (List.forall_mem_cons.mpr ⟨rfl, (List.forall_mem_cons.mpr ⟨rfl, zs_nil⟩)⟩)⟩) ?_
    exact zt_X17_ramp_J31 hX hr hR hd h
  · rw [if_neg c17] at h
    refine zw_lconst (v := (0 : Int64)) hX dX17_ramp_20 (by decide) ?_
    refine zw_goto (tgt := 31) hX dX17_ramp_21 (by decide) ?_
    refine zw_sub (lv' := [(0, .ref a0), (1, .int i1), (3, .long ((i2).toInt64 - (v2).toInt64))]) (List.forall_mem_cons.mpr ⟨rfl, (List.forall_mem_cons.mpr ⟨rfl, (List.forall_mem_cons.mpr ⟨rfl, zs_nil⟩)⟩)⟩) ?_
    exact zt_X17_ramp_J31 hX hr hR hd h
def zf_X17_clock_J40 (N : Nat) (a0 : Nat) (i1 : Int32) (i3 : Int32) (t0 : Int32) (S : zm_S) : Option (Int32 × zm_S) := (zg_r S a0 17 2).bind (fun b6 => (za_x S 0 b6 i1).bind (fun v7 => (zg_r S a0 17 3).bind (fun b8 => (za_x S 0 b8 i1).bind (fun v9 => if v9 < v7 then if i3 = 0 then if t0 = 0 then some ((0 : Int32), S) else some ((1 : Int32), S) else some ((1 : Int32), S) else if i3 = 0 then some ((0 : Int32), S) else if t0 = 0 then some ((0 : Int32), S) else some ((1 : Int32), S)))))
set_option maxHeartbeats 4000000 in
set_option maxRecDepth 100000 in
theorem zt_X17_clock_J40 {p : Program} {l : Launch} {e : Env} {R : Room} {s : State} {m : MethodId} {args : Array Value} {below : List Frame} {meth : Method} {c : Code} {V : zm_V} {mc ms d rc rs : Nat} (hX : zm_X p R s m args meth c RX17 "clock" cX17_clock 5 zk_E V mc ms) (hr : meth.sig.returnType = (some .int)) (hR : R.frames = d ∧ R.locals = 64 * d) (hd : 1 ≤ d) {N : Nat} {a0 : Nat} {i1 : Int32} {i3 : Int32} {t0 : Int32} {out : (Int32 × zm_S)} {S : zm_S} (h : zf_X17_clock_J40 N a0 i1 i3 t0 S = some out) : zw p l e R s m args below meth c (vx_MQ below (zm_Qc zk_E V (zo_i out)) (zm_XC zk_E V zo_x) args s mc ms (fun q => V.2.2.2.1 ≤ q)) 5 zk_E V mc ms 40 [(0, .ref a0), (1, .int i1), (3, .int i3)] [.int t0] S rc rs := by
  unfold zf_X17_clock_J40 at h
  refine zw_istore hX dX17_clock_40 (by decide) ?_
  refine zw_aload_n hX dX17_clock_42 rfl ?_
  obtain ⟨b6, g, h⟩ := zb_some h
  refine zw_getr hX zl_X17_13 dX17_clock_43 g ?_
  refine zw_iload_n hX dX17_clock_46 rfl ?_
  obtain ⟨v7, g, h⟩ := zb_some h
  refine zw_xi hX dX17_clock_47 g ?_
  refine zw_aload_n hX dX17_clock_48 rfl ?_
  obtain ⟨b8, g, h⟩ := zb_some h
  refine zw_getr hX zl_X17_16 dX17_clock_49 g ?_
  refine zw_iload_n hX dX17_clock_52 rfl ?_
  obtain ⟨v9, g, h⟩ := zb_some h
  refine zw_xi hX dX17_clock_53 g ?_
  refine zw_icmp_gt (tgt := 69) hX dX17_clock_54 (by decide) (fun c54 => ?_) (fun c54 => ?_)
  · rw [if_pos c54] at h
    refine zw_iload_n hX dX17_clock_69 rfl ?_
    refine zw_if_ne (tgt := 78) hX dX17_clock_70 (by decide) (fun c70 => ?_) (fun c70 => ?_)
    · rw [if_neg c70] at h
      refine zw_iconst (v := (1 : Int32)) hX dX17_clock_78 (by decide) ?_
      refine zw_goto (tgt := 83) hX dX17_clock_79 (by decide) ?_
      obtain rfl := Option.some.inj h
      exact zw_iret hX hr dX17_clock_83 rfl ⟨rfl, rfl⟩
    · rw [if_pos c70] at h
      refine zw_iload hX dX17_clock_73 rfl ?_
      refine zw_if_eq (tgt := 82) hX dX17_clock_75 (by decide) (fun c75 => ?_) (fun c75 => ?_)
      · rw [if_pos c75] at h
        refine zw_iconst (v := (0 : Int32)) hX dX17_clock_82 (by decide) ?_
        obtain rfl := Option.some.inj h
        exact zw_iret hX hr dX17_clock_83 rfl ⟨rfl, rfl⟩
      · rw [if_neg c75] at h
        refine zw_iconst (v := (1 : Int32)) hX dX17_clock_78 (by decide) ?_
        refine zw_goto (tgt := 83) hX dX17_clock_79 (by decide) ?_
        obtain rfl := Option.some.inj h
        exact zw_iret hX hr dX17_clock_83 rfl ⟨rfl, rfl⟩
  · rw [if_neg c54] at h
    refine zw_iload_n hX dX17_clock_57 rfl ?_
    refine zw_if_eq (tgt := 82) hX dX17_clock_58 (by decide) (fun c58 => ?_) (fun c58 => ?_)
    · rw [if_pos c58] at h
      refine zw_iconst (v := (0 : Int32)) hX dX17_clock_82 (by decide) ?_
      obtain rfl := Option.some.inj h
      exact zw_iret hX hr dX17_clock_83 rfl ⟨rfl, rfl⟩
    · rw [if_neg c58] at h
      refine zw_iload hX dX17_clock_61 rfl ?_
      refine zw_if_eq (tgt := 82) hX dX17_clock_63 (by decide) (fun c63 => ?_) (fun c63 => ?_)
      · rw [if_pos c63] at h
        refine zw_iconst (v := (0 : Int32)) hX dX17_clock_82 (by decide) ?_
        obtain rfl := Option.some.inj h
        exact zw_iret hX hr dX17_clock_83 rfl ⟨rfl, rfl⟩
      · rw [if_neg c63] at h
        refine zw_goto (tgt := 78) hX dX17_clock_66 (by decide) ?_
        refine zw_iconst (v := (1 : Int32)) hX dX17_clock_78 (by decide) ?_
        refine zw_goto (tgt := 83) hX dX17_clock_79 (by decide) ?_
        obtain rfl := Option.some.inj h
        exact zw_iret hX hr dX17_clock_83 rfl ⟨rfl, rfl⟩
def zf_X17_clock_J24 (N : Nat) (a0 : Nat) (i1 : Int32) (i2 : Int32) (t0 : Int32) (S : zm_S) : Option (Int32 × zm_S) := (zg_r S a0 17 3).bind (fun b4 => (za_x S 0 b4 i1).bind (fun v5 => if v5 ≤ i2 then zf_X17_clock_J40 N a0 i1 t0 (0 : Int32) S else zf_X17_clock_J40 N a0 i1 t0 (1 : Int32) S))
set_option maxHeartbeats 4000000 in
set_option maxRecDepth 100000 in
theorem zt_X17_clock_J24 {p : Program} {l : Launch} {e : Env} {R : Room} {s : State} {m : MethodId} {args : Array Value} {below : List Frame} {meth : Method} {c : Code} {V : zm_V} {mc ms d rc rs : Nat} (hX : zm_X p R s m args meth c RX17 "clock" cX17_clock 5 zk_E V mc ms) (hr : meth.sig.returnType = (some .int)) (hR : R.frames = d ∧ R.locals = 64 * d) (hd : 1 ≤ d) {N : Nat} {a0 : Nat} {i1 : Int32} {i2 : Int32} {t0 : Int32} {out : (Int32 × zm_S)} {S : zm_S} (h : zf_X17_clock_J24 N a0 i1 i2 t0 S = some out) : zw p l e R s m args below meth c (vx_MQ below (zm_Qc zk_E V (zo_i out)) (zm_XC zk_E V zo_x) args s mc ms (fun q => V.2.2.2.1 ≤ q)) 5 zk_E V mc ms 24 [(0, .ref a0), (1, .int i1), (2, .int i2)] [.int t0] S rc rs := by
  unfold zf_X17_clock_J24 at h
  refine zw_istore_n hX dX17_clock_24 (by decide) ?_
  refine zw_iload_n hX dX17_clock_25 rfl ?_
  refine zw_aload_n hX dX17_clock_26 rfl ?_
  obtain ⟨b4, g, h⟩ := zb_some h
  refine zw_getr hX zl_X17_16 dX17_clock_27 g ?_
  refine zw_iload_n hX dX17_clock_30 rfl ?_
  obtain ⟨v5, g, h⟩ := zb_some h
  refine zw_xi hX dX17_clock_31 g ?_
  refine zw_icmp_ge (tgt := 39) hX dX17_clock_32 (by decide) (fun c32 => ?_) (fun c32 => ?_)
  · rw [if_pos c32] at h
    refine zw_iconst (v := (0 : Int32)) hX dX17_clock_39 (by decide) ?_
    refine zw_sub (lv' := [(0, .ref a0), (1, .int i1), (3, .int t0)]) (List.forall_mem_cons.mpr ⟨rfl, (List.forall_mem_cons.mpr ⟨rfl, (List.forall_mem_cons.mpr ⟨rfl, zs_nil⟩)⟩)⟩) ?_
    exact zt_X17_clock_J40 hX hr hR hd h
  · rw [if_neg c32] at h
    refine zw_iconst (v := (1 : Int32)) hX dX17_clock_35 (by decide) ?_
    refine zw_goto (tgt := 40) hX dX17_clock_36 (by decide) ?_
    refine zw_sub (lv' := [(0, .ref a0), (1, .int i1), (3, .int t0)]) (List.forall_mem_cons.mpr ⟨rfl, (List.forall_mem_cons.mpr ⟨rfl, (List.forall_mem_cons.mpr ⟨rfl, zs_nil⟩)⟩)⟩) ?_
    exact zt_X17_clock_J40 hX hr hR hd h
def zf_X17_clock (N : Nat) (a0 : Nat) (i1 : Int32) (S : zm_S) : Option (Int32 × zm_S) := (zg_i S a0 17 14).bind (fun v1 => (zg_r S a0 17 2).bind (fun b2 => (za_x S 0 b2 i1).bind (fun v3 => if (v1 - v1 / (1440 : Int32) * (1440 : Int32)) < v3 then zf_X17_clock_J24 N a0 i1 (v1 - v1 / (1440 : Int32) * (1440 : Int32)) (0 : Int32) S else zf_X17_clock_J24 N a0 i1 (v1 - v1 / (1440 : Int32) * (1440 : Int32)) (1 : Int32) S)))
set_option maxHeartbeats 4000000 in
set_option maxRecDepth 100000 in
theorem zt_X17_clock {l : Launch} {V : zm_V} {N : Nat} {S : zm_S} {out : (Int32 × zm_S)} {d : Nat} {a0 : Nat} {i1 : Int32} (hd : 1 ≤ d) (h : zf_X17_clock N a0 i1 S = some out) : zm_Met l zk_E V yX17_clock (.code yX17_clock cX17_clock 5 (some .int)) d [.ref a0, .int i1] S 0 0 (zo_i out) zo_x := by
  refine zm_of (by decide +kernel) (Nat.le_of_ble_eq_true rfl) ?_
  intro p e R s m args below meth c hRR hX hr hxt
  have hR : R.frames = d ∧ R.locals = 64 * d := by rw [hRR]; exact ⟨rfl, rfl⟩
  have hX : zm_X p R s m args meth c RX17 "clock" cX17_clock 5 zk_E V 0 0 := hX
  unfold zf_X17_clock at h
  refine zw_sub (lv' := [(0, .ref a0), (1, .int i1)]) (List.forall_mem_cons.mpr ⟨rfl, (List.forall_mem_cons.mpr ⟨rfl, zs_nil⟩)⟩) ?_
  refine zw_aload_n hX dX17_clock_0 rfl ?_
  obtain ⟨v1, g, h⟩ := zb_some h
  refine zw_geti hX zl_X17_79 dX17_clock_1 g ?_
  refine zw_sipush (v := (1440 : Int32)) hX dX17_clock_4 (by decide) ?_
  refine zw_irem hX dX17_clock_7 (by decide) ?_
  refine zw_istore_n hX dX17_clock_8 (by decide) ?_
  refine zw_iload_n hX dX17_clock_9 rfl ?_
  refine zw_aload_n hX dX17_clock_10 rfl ?_
  obtain ⟨b2, g, h⟩ := zb_some h
  refine zw_getr hX zl_X17_13 dX17_clock_11 g ?_
  refine zw_iload_n hX dX17_clock_14 rfl ?_
  obtain ⟨v3, g, h⟩ := zb_some h
  refine zw_xi hX dX17_clock_15 g ?_
  refine zw_icmp_lt (tgt := 23) hX dX17_clock_16 (by decide) (fun c16 => ?_) (fun c16 => ?_)
  · rw [if_pos c16] at h
    refine zw_iconst (v := (0 : Int32)) hX dX17_clock_23 (by decide) ?_
    refine zw_sub (lv' := [(0, .ref a0), (1, .int i1), (2, .int (v1 - v1 / (1440 : Int32) * (1440 : Int32)))]) (List.forall_mem_cons.mpr ⟨rfl, (List.forall_mem_cons.mpr ⟨rfl, (List.forall_mem_cons.mpr ⟨rfl, zs_nil⟩)⟩)⟩) ?_
    exact zt_X17_clock_J24 hX hr hR hd h
  · rw [if_neg c16] at h
    refine zw_iconst (v := (1 : Int32)) hX dX17_clock_19 (by decide) ?_
    refine zw_goto (tgt := 24) hX dX17_clock_20 (by decide) ?_
    refine zw_sub (lv' := [(0, .ref a0), (1, .int i1), (2, .int (v1 - v1 / (1440 : Int32) * (1440 : Int32)))]) (List.forall_mem_cons.mpr ⟨rfl, (List.forall_mem_cons.mpr ⟨rfl, (List.forall_mem_cons.mpr ⟨rfl, zs_nil⟩)⟩)⟩) ?_
    exact zt_X17_clock_J24 hX hr hR hd h
def zf_X17_pulse_J25 (N : Nat) (a0 : Nat) (i1 : Int32) (i2 : Int32) (S : zm_S) : Option (Int32 × zm_S) := (zg_r S a0 17 9).bind (fun b1 => (zs_i S b1 i1 i2).bind (fun S2 => (zg_r S2 a0 17 8).bind (fun b3 => (za_x S2 0 b3 i1).bind (fun v4 => if 0 < v4 then (zg_r S2 a0 17 8).bind (fun b5 => (za_x S2 0 b5 i1).bind (fun v6 => (zs_i S2 b5 i1 (v6 - (1 : Int32))).bind (fun S7 => some ((1 : Int32), S7)))) else some ((0 : Int32), S2)))))
set_option maxHeartbeats 4000000 in
set_option maxRecDepth 100000 in
theorem zt_X17_pulse_J25 {p : Program} {l : Launch} {e : Env} {R : Room} {s : State} {m : MethodId} {args : Array Value} {below : List Frame} {meth : Method} {c : Code} {V : zm_V} {mc ms d rc rs : Nat} (hX : zm_X p R s m args meth c RX17 "pulse" cX17_pulse 3 zk_E V mc ms) (hr : meth.sig.returnType = (some .int)) (hR : R.frames = d ∧ R.locals = 64 * d) (hd : 1 ≤ d) {N : Nat} {a0 : Nat} {i1 : Int32} {i2 : Int32} {out : (Int32 × zm_S)} {S : zm_S} (h : zf_X17_pulse_J25 N a0 i1 i2 S = some out) : zw p l e R s m args below meth c (vx_MQ below (zm_Qc zk_E V (zo_i out)) (zm_XC zk_E V zo_x) args s mc ms (fun q => V.2.2.2.1 ≤ q)) 3 zk_E V mc ms 25 [(0, .ref a0), (1, .int i1), (2, .int i2)] [] S rc rs := by
  unfold zf_X17_pulse_J25 at h
  refine zw_aload_n hX dX17_pulse_25 rfl ?_
  obtain ⟨b1, g, h⟩ := zb_some h
  refine zw_getr hX zl_X17_34 dX17_pulse_26 g ?_
  refine zw_iload_n hX dX17_pulse_29 rfl ?_
  refine zw_iload_n hX dX17_pulse_30 rfl ?_
  obtain ⟨S2, g, h⟩ := zb_some h
  refine zw_si hX dX17_pulse_31 g ?_
  refine zw_aload_n hX dX17_pulse_32 rfl ?_
  obtain ⟨b3, g, h⟩ := zb_some h
  refine zw_getr hX zl_X17_31 dX17_pulse_33 g ?_
  refine zw_iload_n hX dX17_pulse_36 rfl ?_
  obtain ⟨v4, g, h⟩ := zb_some h
  refine zw_xi hX dX17_pulse_37 g ?_
  refine zw_if_gt (tgt := 43) hX dX17_pulse_38 (by decide) (fun c38 => ?_) (fun c38 => ?_)
  · rw [if_pos c38] at h
    refine zw_aload_n hX dX17_pulse_43 rfl ?_
    obtain ⟨b5, g, h⟩ := zb_some h
    refine zw_getr hX zl_X17_31 dX17_pulse_44 g ?_
    refine zw_iload_n hX dX17_pulse_47 rfl ?_
    refine zw_dup2 hX dX17_pulse_48 rfl rfl ?_
    obtain ⟨v6, g, h⟩ := zb_some h
    refine zw_xi hX dX17_pulse_49 g ?_
    refine zw_iconst (v := (1 : Int32)) hX dX17_pulse_50 (by decide) ?_
    refine zw_isub hX dX17_pulse_51 ?_
    obtain ⟨S7, g, h⟩ := zb_some h
    refine zw_si hX dX17_pulse_52 g ?_
    refine zw_iconst (v := (1 : Int32)) hX dX17_pulse_53 (by decide) ?_
    obtain rfl := Option.some.inj h
    exact zw_iret hX hr dX17_pulse_54 rfl ⟨rfl, rfl⟩
  · rw [if_neg c38] at h
    refine zw_iconst (v := (0 : Int32)) hX dX17_pulse_41 (by decide) ?_
    obtain rfl := Option.some.inj h
    exact zw_iret hX hr dX17_pulse_42 rfl ⟨rfl, rfl⟩
def zf_X17_pulse (N : Nat) (a0 : Nat) (i1 : Int32) (i2 : Int32) (S : zm_S) : Option (Int32 × zm_S) := if i2 = 0 then zf_X17_pulse_J25 N a0 i1 i2 S else (zg_r S a0 17 9).bind (fun b8 => (za_x S 0 b8 i1).bind (fun v9 => if v9 = 0 then (zg_r S a0 17 8).bind (fun b10 => (zg_r S a0 17 2).bind (fun b11 => (za_x S 0 b11 i1).bind (fun v12 => (zs_i S b10 i1 v12).bind (fun S13 => zf_X17_pulse_J25 N a0 i1 i2 S13)))) else zf_X17_pulse_J25 N a0 i1 i2 S))
set_option maxHeartbeats 4000000 in
set_option maxRecDepth 100000 in
theorem zt_X17_pulse {l : Launch} {V : zm_V} {N : Nat} {S : zm_S} {out : (Int32 × zm_S)} {d : Nat} {a0 : Nat} {i1 : Int32} {i2 : Int32} (hd : 1 ≤ d) (h : zf_X17_pulse N a0 i1 i2 S = some out) : zm_Met l zk_E V yX17_pulse (.code yX17_pulse cX17_pulse 3 (some .int)) d [.ref a0, .int i1, .int i2] S 0 0 (zo_i out) zo_x := by
  refine zm_of (by decide +kernel) (Nat.le_of_ble_eq_true rfl) ?_
  intro p e R s m args below meth c hRR hX hr hxt
  have hR : R.frames = d ∧ R.locals = 64 * d := by rw [hRR]; exact ⟨rfl, rfl⟩
  have hX : zm_X p R s m args meth c RX17 "pulse" cX17_pulse 3 zk_E V 0 0 := hX
  unfold zf_X17_pulse at h
  refine zw_sub (lv' := [(0, .ref a0), (1, .int i1), (2, .int i2)]) (List.forall_mem_cons.mpr ⟨rfl, (List.forall_mem_cons.mpr ⟨rfl, (List.forall_mem_cons.mpr ⟨rfl, zs_nil⟩)⟩)⟩) ?_
  refine zw_iload_n hX dX17_pulse_0 rfl ?_
  refine zw_if_eq (tgt := 25) hX dX17_pulse_1 (by decide) (fun c1 => ?_) (fun c1 => ?_)
  · rw [if_pos c1] at h
    refine zw_sub (lv' := [(0, .ref a0), (1, .int i1), (2, .int i2)]) (List.forall_mem_cons.mpr ⟨rfl, (List.forall_mem_cons.mpr ⟨rfl, (List.forall_mem_cons.mpr ⟨rfl, zs_nil⟩)⟩)⟩) ?_
    exact zt_X17_pulse_J25 hX hr hR hd h
  · rw [if_neg c1] at h
    refine zw_aload_n hX dX17_pulse_4 rfl ?_
    obtain ⟨b8, g, h⟩ := zb_some h
    refine zw_getr hX zl_X17_34 dX17_pulse_5 g ?_
    refine zw_iload_n hX dX17_pulse_8 rfl ?_
    obtain ⟨v9, g, h⟩ := zb_some h
    refine zw_xi hX dX17_pulse_9 g ?_
    refine zw_if_ne (tgt := 25) hX dX17_pulse_10 (by decide) (fun c10 => ?_) (fun c10 => ?_)
    · rw [if_neg c10] at h
      refine zw_sub (lv' := [(0, .ref a0), (1, .int i1), (2, .int i2)]) (List.forall_mem_cons.mpr ⟨rfl, (List.forall_mem_cons.mpr ⟨rfl, (List.forall_mem_cons.mpr ⟨rfl, zs_nil⟩)⟩)⟩) ?_
      exact zt_X17_pulse_J25 hX hr hR hd h
    · rw [if_pos c10] at h
      refine zw_aload_n hX dX17_pulse_13 rfl ?_
      obtain ⟨b10, g, h⟩ := zb_some h
      refine zw_getr hX zl_X17_31 dX17_pulse_14 g ?_
      refine zw_iload_n hX dX17_pulse_17 rfl ?_
      refine zw_aload_n hX dX17_pulse_18 rfl ?_
      obtain ⟨b11, g, h⟩ := zb_some h
      refine zw_getr hX zl_X17_13 dX17_pulse_19 g ?_
      refine zw_iload_n hX dX17_pulse_22 rfl ?_
      obtain ⟨v12, g, h⟩ := zb_some h
      refine zw_xi hX dX17_pulse_23 g ?_
      obtain ⟨S13, g, h⟩ := zb_some h
      refine zw_si hX dX17_pulse_24 g ?_
      refine zw_sub (lv' := [(0, .ref a0), (1, .int i1), (2, .int i2)]) (List.forall_mem_cons.mpr ⟨rfl, (List.forall_mem_cons.mpr ⟨rfl, (List.forall_mem_cons.mpr ⟨rfl, zs_nil⟩)⟩)⟩) ?_
      exact zt_X17_pulse_J25 hX hr hR hd h
def zf_X17_count_J37 (N : Nat) (a0 : Nat) (i1 : Int32) (i2 : Int32) (S : zm_S) : Option (Int32 × zm_S) := (zg_r S a0 17 9).bind (fun b1 => (zs_i S b1 i1 i2).bind (fun S2 => (zg_r S2 a0 17 8).bind (fun b3 => (za_x S2 0 b3 i1).bind (fun v4 => some (v4, S2)))))
set_option maxHeartbeats 4000000 in
set_option maxRecDepth 100000 in
theorem zt_X17_count_J37 {p : Program} {l : Launch} {e : Env} {R : Room} {s : State} {m : MethodId} {args : Array Value} {below : List Frame} {meth : Method} {c : Code} {V : zm_V} {mc ms d rc rs : Nat} (hX : zm_X p R s m args meth c RX17 "count" cX17_count 4 zk_E V mc ms) (hr : meth.sig.returnType = (some .int)) (hR : R.frames = d ∧ R.locals = 64 * d) (hd : 1 ≤ d) {N : Nat} {a0 : Nat} {i1 : Int32} {i2 : Int32} {out : (Int32 × zm_S)} {S : zm_S} (h : zf_X17_count_J37 N a0 i1 i2 S = some out) : zw p l e R s m args below meth c (vx_MQ below (zm_Qc zk_E V (zo_i out)) (zm_XC zk_E V zo_x) args s mc ms (fun q => V.2.2.2.1 ≤ q)) 4 zk_E V mc ms 37 [(0, .ref a0), (1, .int i1), (2, .int i2)] [] S rc rs := by
  unfold zf_X17_count_J37 at h
  refine zw_aload_n hX dX17_count_37 rfl ?_
  obtain ⟨b1, g, h⟩ := zb_some h
  refine zw_getr hX zl_X17_34 dX17_count_38 g ?_
  refine zw_iload_n hX dX17_count_41 rfl ?_
  refine zw_iload_n hX dX17_count_42 rfl ?_
  obtain ⟨S2, g, h⟩ := zb_some h
  refine zw_si hX dX17_count_43 g ?_
  refine zw_aload_n hX dX17_count_44 rfl ?_
  obtain ⟨b3, g, h⟩ := zb_some h
  refine zw_getr hX zl_X17_31 dX17_count_45 g ?_
  refine zw_iload_n hX dX17_count_48 rfl ?_
  obtain ⟨v4, g, h⟩ := zb_some h
  refine zw_xi hX dX17_count_49 g ?_
  obtain rfl := Option.some.inj h
  exact zw_iret hX hr dX17_count_50 rfl ⟨rfl, rfl⟩
def zf_X17_count (N : Nat) (a0 : Nat) (i1 : Int32) (i2 : Int32) (i3 : Int32) (S : zm_S) : Option (Int32 × zm_S) := if i3 = 0 then if i2 = 0 then zf_X17_count_J37 N a0 i1 i2 S else (zg_r S a0 17 9).bind (fun b5 => (za_x S 0 b5 i1).bind (fun v6 => if v6 = 0 then (zg_r S a0 17 8).bind (fun b7 => (za_x S 0 b7 i1).bind (fun v8 => (zs_i S b7 i1 (v8 + (1 : Int32))).bind (fun S9 => zf_X17_count_J37 N a0 i1 i2 S9))) else zf_X17_count_J37 N a0 i1 i2 S)) else (zg_r S a0 17 8).bind (fun b10 => (zs_i S b10 i1 (0 : Int32)).bind (fun S11 => zf_X17_count_J37 N a0 i1 i2 S11))
set_option maxHeartbeats 4000000 in
set_option maxRecDepth 100000 in
theorem zt_X17_count {l : Launch} {V : zm_V} {N : Nat} {S : zm_S} {out : (Int32 × zm_S)} {d : Nat} {a0 : Nat} {i1 : Int32} {i2 : Int32} {i3 : Int32} (hd : 1 ≤ d) (h : zf_X17_count N a0 i1 i2 i3 S = some out) : zm_Met l zk_E V yX17_count (.code yX17_count cX17_count 4 (some .int)) d [.ref a0, .int i1, .int i2, .int i3] S 0 0 (zo_i out) zo_x := by
  refine zm_of (by decide +kernel) (Nat.le_of_ble_eq_true rfl) ?_
  intro p e R s m args below meth c hRR hX hr hxt
  have hR : R.frames = d ∧ R.locals = 64 * d := by rw [hRR]; exact ⟨rfl, rfl⟩
  have hX : zm_X p R s m args meth c RX17 "count" cX17_count 4 zk_E V 0 0 := hX
  unfold zf_X17_count at h
  refine zw_sub (lv' := [(0, .ref a0), (1, .int i1), (2, .int i2), (3, .int i3)]) (List.forall_mem_cons.mpr ⟨rfl, (List.forall_mem_cons.mpr ⟨rfl, (List.forall_mem_cons.mpr ⟨rfl, (List.forall_mem_cons.mpr ⟨rfl, zs_nil⟩)⟩)⟩)⟩) ?_
  refine zw_iload_n hX dX17_count_0 rfl ?_
  refine zw_if_eq (tgt := 14) hX dX17_count_1 (by decide) (fun c1 => ?_) (fun c1 => ?_)
  · rw [if_pos c1] at h
    refine zw_iload_n hX dX17_count_14 rfl ?_
    refine zw_if_eq (tgt := 37) hX dX17_count_15 (by decide) (fun c15 => ?_) (fun c15 => ?_)
    · rw [if_pos c15] at h
      refine zw_sub (lv' := [(0, .ref a0), (1, .int i1), (2, .int i2)]) (List.forall_mem_cons.mpr ⟨rfl, (List.forall_mem_cons.mpr ⟨rfl, (List.forall_mem_cons.mpr ⟨rfl, zs_nil⟩)⟩)⟩) ?_
      exact zt_X17_count_J37 hX hr hR hd h
    · rw [if_neg c15] at h
      refine zw_aload_n hX dX17_count_18 rfl ?_
      obtain ⟨b5, g, h⟩ := zb_some h
      refine zw_getr hX zl_X17_34 dX17_count_19 g ?_
      refine zw_iload_n hX dX17_count_22 rfl ?_
      obtain ⟨v6, g, h⟩ := zb_some h
      refine zw_xi hX dX17_count_23 g ?_
      refine zw_if_ne (tgt := 37) hX dX17_count_24 (by decide) (fun c24 => ?_) (fun c24 => ?_)
      · rw [if_neg c24] at h
        refine zw_sub (lv' := [(0, .ref a0), (1, .int i1), (2, .int i2)]) (List.forall_mem_cons.mpr ⟨rfl, (List.forall_mem_cons.mpr ⟨rfl, (List.forall_mem_cons.mpr ⟨rfl, zs_nil⟩)⟩)⟩) ?_
        exact zt_X17_count_J37 hX hr hR hd h
      · rw [if_pos c24] at h
        refine zw_aload_n hX dX17_count_27 rfl ?_
        obtain ⟨b7, g, h⟩ := zb_some h
        refine zw_getr hX zl_X17_31 dX17_count_28 g ?_
        refine zw_iload_n hX dX17_count_31 rfl ?_
        refine zw_dup2 hX dX17_count_32 rfl rfl ?_
        obtain ⟨v8, g, h⟩ := zb_some h
        refine zw_xi hX dX17_count_33 g ?_
        refine zw_iconst (v := (1 : Int32)) hX dX17_count_34 (by decide) ?_
        refine zw_iadd hX dX17_count_35 ?_
        obtain ⟨S9, g, h⟩ := zb_some h
        refine zw_si hX dX17_count_36 g ?_
        refine zw_sub (lv' := [(0, .ref a0), (1, .int i1), (2, .int i2)]) (List.forall_mem_cons.mpr ⟨rfl, (List.forall_mem_cons.mpr ⟨rfl, (List.forall_mem_cons.mpr ⟨rfl, zs_nil⟩)⟩)⟩) ?_
        exact zt_X17_count_J37 hX hr hR hd h
  · rw [if_neg c1] at h
    refine zw_aload_n hX dX17_count_4 rfl ?_
    obtain ⟨b10, g, h⟩ := zb_some h
    refine zw_getr hX zl_X17_31 dX17_count_5 g ?_
    refine zw_iload_n hX dX17_count_8 rfl ?_
    refine zw_iconst (v := (0 : Int32)) hX dX17_count_9 (by decide) ?_
    obtain ⟨S11, g, h⟩ := zb_some h
    refine zw_si hX dX17_count_10 g ?_
    refine zw_goto (tgt := 37) hX dX17_count_11 (by decide) ?_
    refine zw_sub (lv' := [(0, .ref a0), (1, .int i1), (2, .int i2)]) (List.forall_mem_cons.mpr ⟨rfl, (List.forall_mem_cons.mpr ⟨rfl, (List.forall_mem_cons.mpr ⟨rfl, zs_nil⟩)⟩)⟩) ?_
    exact zt_X17_count_J37 hX hr hR hd h
def zf_X17_kept_J255 (N : Nat) (a0 : Nat) (i1 : Int32) (t0 : Nat) (t1 : Int32) (t2 : Int32) (S : zm_S) : Option (Int32 × zm_S) := (zs_i S t0 t1 t2).bind (fun S10 => (zg_r S10 a0 17 8).bind (fun b11 => (za_x S10 0 b11 i1).bind (fun v12 => some (v12, S10))))
set_option maxHeartbeats 4000000 in
set_option maxRecDepth 100000 in
theorem zt_X17_kept_J255 {p : Program} {l : Launch} {e : Env} {R : Room} {s : State} {m : MethodId} {args : Array Value} {below : List Frame} {meth : Method} {c : Code} {V : zm_V} {mc ms d rc rs : Nat} (hX : zm_X p R s m args meth c RX17 "kept" cX17_kept 5 zk_E V mc ms) (hr : meth.sig.returnType = (some .int)) (hR : R.frames = d ∧ R.locals = 64 * d) (hd : 2 ≤ d) {N : Nat} {a0 : Nat} {i1 : Int32} {t0 : Nat} {t1 : Int32} {t2 : Int32} {out : (Int32 × zm_S)} {S : zm_S} (h : zf_X17_kept_J255 N a0 i1 t0 t1 t2 S = some out) : zw p l e R s m args below meth c (vx_MQ below (zm_Qc zk_E V (zo_i out)) (zm_XC zk_E V zo_x) args s mc ms (fun q => V.2.2.2.1 ≤ q)) 5 zk_E V mc ms 255 [(0, .ref a0), (1, .int i1)] [.int t2, .int t1, .ref t0] S rc rs := by
  unfold zf_X17_kept_J255 at h
  obtain ⟨S10, g, h⟩ := zb_some h
  refine zw_si hX dX17_kept_255 g ?_
  refine zw_aload_n hX dX17_kept_256 rfl ?_
  obtain ⟨b11, g, h⟩ := zb_some h
  refine zw_getr hX zl_X17_31 dX17_kept_257 g ?_
  refine zw_iload_n hX dX17_kept_260 rfl ?_
  obtain ⟨v12, g, h⟩ := zb_some h
  refine zw_xi hX dX17_kept_261 g ?_
  obtain rfl := Option.some.inj h
  exact zw_iret hX hr dX17_kept_262 rfl ⟨rfl, rfl⟩
def zf_X17_kept_J226 (N : Nat) (a0 : Nat) (i1 : Int32) (t0 : Int32) (S : zm_S) : Option (Int32 × zm_S) := (zg_r S a0 17 8).bind (fun b5 => (zg_r S a0 17 2).bind (fun b6 => (za_x S 0 b6 i1).bind (fun v7 => if v7 ≤ t0 then (zg_r S a0 17 2).bind (fun b8 => (za_x S 0 b8 i1).bind (fun v9 => zf_X17_kept_J255 N a0 i1 b5 i1 v9 S)) else zf_X17_kept_J255 N a0 i1 b5 i1 t0 S)))
set_option maxHeartbeats 4000000 in
set_option maxRecDepth 100000 in
theorem zt_X17_kept_J226 {p : Program} {l : Launch} {e : Env} {R : Room} {s : State} {m : MethodId} {args : Array Value} {below : List Frame} {meth : Method} {c : Code} {V : zm_V} {mc ms d rc rs : Nat} (hX : zm_X p R s m args meth c RX17 "kept" cX17_kept 5 zk_E V mc ms) (hr : meth.sig.returnType = (some .int)) (hR : R.frames = d ∧ R.locals = 64 * d) (hd : 2 ≤ d) {N : Nat} {a0 : Nat} {i1 : Int32} {t0 : Int32} {out : (Int32 × zm_S)} {S : zm_S} (h : zf_X17_kept_J226 N a0 i1 t0 S = some out) : zw p l e R s m args below meth c (vx_MQ below (zm_Qc zk_E V (zo_i out)) (zm_XC zk_E V zo_x) args s mc ms (fun q => V.2.2.2.1 ≤ q)) 5 zk_E V mc ms 226 [(0, .ref a0), (1, .int i1)] [.int t0] S rc rs := by
  unfold zf_X17_kept_J226 at h
  refine zw_istore hX dX17_kept_226 (by decide) ?_
  refine zw_aload_n hX dX17_kept_228 rfl ?_
  obtain ⟨b5, g, h⟩ := zb_some h
  refine zw_getr hX zl_X17_31 dX17_kept_229 g ?_
  refine zw_iload_n hX dX17_kept_232 rfl ?_
  refine zw_iload hX dX17_kept_233 rfl ?_
  refine zw_aload_n hX dX17_kept_235 rfl ?_
  obtain ⟨b6, g, h⟩ := zb_some h
  refine zw_getr hX zl_X17_13 dX17_kept_236 g ?_
  refine zw_iload_n hX dX17_kept_239 rfl ?_
  obtain ⟨v7, g, h⟩ := zb_some h
  refine zw_xi hX dX17_kept_240 g ?_
  refine zw_icmp_ge (tgt := 249) hX dX17_kept_241 (by decide) (fun c241 => ?_) (fun c241 => ?_)
  · rw [if_pos c241] at h
    refine zw_aload_n hX dX17_kept_249 rfl ?_
    obtain ⟨b8, g, h⟩ := zb_some h
    refine zw_getr hX zl_X17_13 dX17_kept_250 g ?_
    refine zw_iload_n hX dX17_kept_253 rfl ?_
    obtain ⟨v9, g, h⟩ := zb_some h
    refine zw_xi hX dX17_kept_254 g ?_
    refine zw_sub (lv' := [(0, .ref a0), (1, .int i1)]) (List.forall_mem_cons.mpr ⟨rfl, (List.forall_mem_cons.mpr ⟨rfl, zs_nil⟩)⟩) ?_
    exact zt_X17_kept_J255 hX hr hR hd h
  · rw [if_neg c241] at h
    refine zw_iload hX dX17_kept_244 rfl ?_
    refine zw_goto (tgt := 255) hX dX17_kept_246 (by decide) ?_
    refine zw_sub (lv' := [(0, .ref a0), (1, .int i1)]) (List.forall_mem_cons.mpr ⟨rfl, (List.forall_mem_cons.mpr ⟨rfl, zs_nil⟩)⟩) ?_
    exact zt_X17_kept_J255 hX hr hR hd h
def zf_X17_kept_J105 (N : Nat) (a0 : Nat) (i1 : Int32) (t0 : Nat) (t1 : Int32) (t2 : Int32) (S : zm_S) : Option (Int32 × zm_S) := (zs_i S t0 t1 t2).bind (fun S24 => (zg_r S24 a0 17 8).bind (fun b25 => (za_x S24 0 b25 i1).bind (fun v26 => some (v26, S24))))
set_option maxHeartbeats 4000000 in
set_option maxRecDepth 100000 in
theorem zt_X17_kept_J105 {p : Program} {l : Launch} {e : Env} {R : Room} {s : State} {m : MethodId} {args : Array Value} {below : List Frame} {meth : Method} {c : Code} {V : zm_V} {mc ms d rc rs : Nat} (hX : zm_X p R s m args meth c RX17 "kept" cX17_kept 5 zk_E V mc ms) (hr : meth.sig.returnType = (some .int)) (hR : R.frames = d ∧ R.locals = 64 * d) (hd : 2 ≤ d) {N : Nat} {a0 : Nat} {i1 : Int32} {t0 : Nat} {t1 : Int32} {t2 : Int32} {out : (Int32 × zm_S)} {S : zm_S} (h : zf_X17_kept_J105 N a0 i1 t0 t1 t2 S = some out) : zw p l e R s m args below meth c (vx_MQ below (zm_Qc zk_E V (zo_i out)) (zm_XC zk_E V zo_x) args s mc ms (fun q => V.2.2.2.1 ≤ q)) 5 zk_E V mc ms 105 [(0, .ref a0), (1, .int i1)] [.int t2, .int t1, .ref t0] S rc rs := by
  unfold zf_X17_kept_J105 at h
  obtain ⟨S24, g, h⟩ := zb_some h
  refine zw_si hX dX17_kept_105 g ?_
  refine zw_aload_n hX dX17_kept_106 rfl ?_
  obtain ⟨b25, g, h⟩ := zb_some h
  refine zw_getr hX zl_X17_31 dX17_kept_107 g ?_
  refine zw_iload_n hX dX17_kept_110 rfl ?_
  obtain ⟨v26, g, h⟩ := zb_some h
  refine zw_xi hX dX17_kept_111 g ?_
  obtain rfl := Option.some.inj h
  exact zw_iret hX hr dX17_kept_112 rfl ⟨rfl, rfl⟩
def zf_X17_kept_J202 (N : Nat) (a0 : Nat) (i1 : Int32) (t0 : Nat) (t1 : Int32) (t2 : Int32) (S : zm_S) : Option (Int32 × zm_S) := (zs_i S t0 t1 t2).bind (fun S46 => (zg_r S46 a0 17 8).bind (fun b47 => (za_x S46 0 b47 i1).bind (fun v48 => some (v48, S46))))
set_option maxHeartbeats 4000000 in
set_option maxRecDepth 100000 in
theorem zt_X17_kept_J202 {p : Program} {l : Launch} {e : Env} {R : Room} {s : State} {m : MethodId} {args : Array Value} {below : List Frame} {meth : Method} {c : Code} {V : zm_V} {mc ms d rc rs : Nat} (hX : zm_X p R s m args meth c RX17 "kept" cX17_kept 5 zk_E V mc ms) (hr : meth.sig.returnType = (some .int)) (hR : R.frames = d ∧ R.locals = 64 * d) (hd : 2 ≤ d) {N : Nat} {a0 : Nat} {i1 : Int32} {t0 : Nat} {t1 : Int32} {t2 : Int32} {out : (Int32 × zm_S)} {S : zm_S} (h : zf_X17_kept_J202 N a0 i1 t0 t1 t2 S = some out) : zw p l e R s m args below meth c (vx_MQ below (zm_Qc zk_E V (zo_i out)) (zm_XC zk_E V zo_x) args s mc ms (fun q => V.2.2.2.1 ≤ q)) 5 zk_E V mc ms 202 [(0, .ref a0), (1, .int i1)] [.int t2, .int t1, .ref t0] S rc rs := by
  unfold zf_X17_kept_J202 at h
  obtain ⟨S46, g, h⟩ := zb_some h
  refine zw_si hX dX17_kept_202 g ?_
  refine zw_aload_n hX dX17_kept_203 rfl ?_
  obtain ⟨b47, g, h⟩ := zb_some h
  refine zw_getr hX zl_X17_31 dX17_kept_204 g ?_
  refine zw_iload_n hX dX17_kept_207 rfl ?_
  obtain ⟨v48, g, h⟩ := zb_some h
  refine zw_xi hX dX17_kept_208 g ?_
  obtain rfl := Option.some.inj h
  exact zw_iret hX hr dX17_kept_209 rfl ⟨rfl, rfl⟩
def zf_X17_kept (N : Nat) (a0 : Nat) (i1 : Int32) (i2 : Int32) (i3 : Int32) (S : zm_S) : Option (Int32 × zm_S) := (zg_r S a0 17 1).bind (fun b1 => (za_x S 0 b1 i1).bind (fun v2 => if (v2).toInt = 16 then (zg_r S a0 17 8).bind (fun b13 => (za_x S 0 b13 i1).bind (fun v14 => some (v14, S))) else if (v2).toInt = 17 then (zi S a0 17).bind (fun _ => (zf_X17_ramp N a0 i1 i2 S).bind (fun r17 => some (r17.1, r17.2))) else if (v2).toInt = 18 then (zi S a0 17).bind (fun _ => (zf_X17_count N a0 i1 i2 i3 S).bind (fun r20 => some (r20.1, r20.2))) else if (v2).toInt = 19 then (zg_r S a0 17 8).bind (fun b21 => if i2 = 0 then if i3 = 0 then (zg_r S a0 17 8).bind (fun b22 => (za_x S 0 b22 i1).bind (fun v23 => zf_X17_kept_J105 N a0 i1 b21 i1 v23 S)) else zf_X17_kept_J105 N a0 i1 b21 i1 (0 : Int32) S else zf_X17_kept_J105 N a0 i1 b21 i1 (1 : Int32) S) else if (v2).toInt = 20 then (zi S a0 17).bind (fun _ => (zf_X17_clock N a0 i1 S).bind (fun r29 => some (r29.1, r29.2))) else if (v2).toInt = 21 then (zi S a0 17).bind (fun _ => (zf_X17_pulse N a0 i1 i2 S).bind (fun r32 => some (r32.1, r32.2))) else if (v2).toInt = 22 then (zg_r S a0 17 2).bind (fun b33 => (za_x S 0 b33 i1).bind (fun v34 => if v34 ≤ i2 then (zg_r S a0 17 3).bind (fun b35 => (za_x S 0 b35 i1).bind (fun v36 => if i2 ≤ v36 then some (i2, S) else (zg_r S a0 17 3).bind (fun b37 => (za_x S 0 b37 i1).bind (fun v38 => some (v38, S))))) else (zg_r S a0 17 2).bind (fun b39 => (za_x S 0 b39 i1).bind (fun v40 => some (v40, S))))) else if (v2).toInt = 23 then if i3 = 0 then some (i2, S) else (zg_r S a0 17 7).bind (fun b41 => (za_x S 0 b41 i1).bind (fun v42 => some (v42, S))) else if (v2).toInt = 24 then (zg_r S a0 17 8).bind (fun b43 => if i3 = 0 then (zg_r S a0 17 8).bind (fun b44 => (za_x S 0 b44 i1).bind (fun v45 => zf_X17_kept_J202 N a0 i1 b43 i1 (v45 + i2) S)) else zf_X17_kept_J202 N a0 i1 b43 i1 (0 : Int32) S) else if i2 = 0 then zf_X17_kept_J226 N a0 i1 (0 : Int32) S else (zg_r S a0 17 8).bind (fun b3 => (za_x S 0 b3 i1).bind (fun v4 => zf_X17_kept_J226 N a0 i1 (v4 + (1 : Int32)) S))))
set_option maxHeartbeats 4000000 in
set_option maxRecDepth 100000 in
theorem zt_X17_kept {l : Launch} {V : zm_V} {N : Nat} {S : zm_S} {out : (Int32 × zm_S)} {d : Nat} {a0 : Nat} {i1 : Int32} {i2 : Int32} {i3 : Int32} (hd : 2 ≤ d) (h : zf_X17_kept N a0 i1 i2 i3 S = some out) : zm_Met l zk_E V yX17_kept (.code yX17_kept cX17_kept 5 (some .int)) d [.ref a0, .int i1, .int i2, .int i3] S 0 0 (zo_i out) zo_x := by
  refine zm_of (by decide +kernel) (Nat.le_of_ble_eq_true rfl) ?_
  intro p e R s m args below meth c hRR hX hr hxt
  have hR : R.frames = d ∧ R.locals = 64 * d := by rw [hRR]; exact ⟨rfl, rfl⟩
  have hX : zm_X p R s m args meth c RX17 "kept" cX17_kept 5 zk_E V 0 0 := hX
  unfold zf_X17_kept at h
  refine zw_sub (lv' := [(0, .ref a0), (1, .int i1), (2, .int i2), (3, .int i3)]) (List.forall_mem_cons.mpr ⟨rfl, (List.forall_mem_cons.mpr ⟨rfl, (List.forall_mem_cons.mpr ⟨rfl, (List.forall_mem_cons.mpr ⟨rfl, zs_nil⟩)⟩)⟩)⟩) ?_
  refine zw_aload_n hX dX17_kept_0 rfl ?_
  obtain ⟨b1, g, h⟩ := zb_some h
  refine zw_getr hX zl_X17_7 dX17_kept_1 g ?_
  refine zw_iload_n hX dX17_kept_4 rfl ?_
  obtain ⟨v2, g, h⟩ := zb_some h
  refine zw_xi hX dX17_kept_5 g ?_
  by_cases c6_0 : (v2).toInt = 16
  · rw [if_pos c6_0] at h
    refine zw_tableIn (off := 50) (tgt := 56) hX dX17_kept_6 (by rw [c6_0]; decide) (by rw [c6_0]; decide) (by rw [c6_0]; decide) (by decide) ?_
    refine zw_aload_n hX dX17_kept_56 rfl ?_
    obtain ⟨b13, g, h⟩ := zb_some h
    refine zw_getr hX zl_X17_31 dX17_kept_57 g ?_
    refine zw_iload_n hX dX17_kept_60 rfl ?_
    obtain ⟨v14, g, h⟩ := zb_some h
    refine zw_xi hX dX17_kept_61 g ?_
    obtain rfl := Option.some.inj h
    exact zw_iret hX hr dX17_kept_62 rfl ⟨rfl, rfl⟩
  rw [if_neg c6_0] at h
  by_cases c6_1 : (v2).toInt = 17
  · rw [if_pos c6_1] at h
    refine zw_tableIn (off := 57) (tgt := 63) hX dX17_kept_6 (by rw [c6_1]; decide) (by rw [c6_1]; decide) (by rw [c6_1]; decide) (by decide) ?_
    refine zw_aload_n hX dX17_kept_63 rfl ?_
    refine zw_iload_n hX dX17_kept_64 rfl ?_
    refine zw_iload_n hX dX17_kept_65 rfl ?_
    obtain ⟨_, gi, h⟩ := zb_some h
    obtain ⟨r17, g, h⟩ := zb_some h
    refine zc_Vi (as := [.int i1, .int i2]) hX gi (zt_X17_ramp (d := d - 1) (by omega) g) zl_X17_82 rfl dX17_kept_66 ⟨rfl, rfl, Nat.le_of_ble_eq_true rfl⟩ ⟨by omega, by omega⟩ ?_
    obtain rfl := Option.some.inj h
    exact zw_iret hX hr dX17_kept_69 rfl ⟨rfl, rfl⟩
  rw [if_neg c6_1] at h
  by_cases c6_2 : (v2).toInt = 18
  · rw [if_pos c6_2] at h
    refine zw_tableIn (off := 64) (tgt := 70) hX dX17_kept_6 (by rw [c6_2]; decide) (by rw [c6_2]; decide) (by rw [c6_2]; decide) (by decide) ?_
    refine zw_aload_n hX dX17_kept_70 rfl ?_
    refine zw_iload_n hX dX17_kept_71 rfl ?_
    refine zw_iload_n hX dX17_kept_72 rfl ?_
    refine zw_iload_n hX dX17_kept_73 rfl ?_
    obtain ⟨_, gi, h⟩ := zb_some h
    obtain ⟨r20, g, h⟩ := zb_some h
    refine zc_Vi (as := [.int i1, .int i2, .int i3]) hX gi (zt_X17_count (d := d - 1) (by omega) g) zl_X17_85 rfl dX17_kept_74 ⟨rfl, rfl, Nat.le_of_ble_eq_true rfl⟩ ⟨by omega, by omega⟩ ?_
    obtain rfl := Option.some.inj h
    exact zw_iret hX hr dX17_kept_77 rfl ⟨rfl, rfl⟩
  rw [if_neg c6_2] at h
  by_cases c6_3 : (v2).toInt = 19
  · rw [if_pos c6_3] at h
    refine zw_tableIn (off := 72) (tgt := 78) hX dX17_kept_6 (by rw [c6_3]; decide) (by rw [c6_3]; decide) (by rw [c6_3]; decide) (by decide) ?_
    refine zw_aload_n hX dX17_kept_78 rfl ?_
    obtain ⟨b21, g, h⟩ := zb_some h
    refine zw_getr hX zl_X17_31 dX17_kept_79 g ?_
    refine zw_iload_n hX dX17_kept_82 rfl ?_
    refine zw_iload_n hX dX17_kept_83 rfl ?_
    refine zw_if_eq (tgt := 91) hX dX17_kept_84 (by decide) (fun c84 => ?_) (fun c84 => ?_)
    · rw [if_pos c84] at h
      refine zw_iload_n hX dX17_kept_91 rfl ?_
      refine zw_if_eq (tgt := 99) hX dX17_kept_92 (by decide) (fun c92 => ?_) (fun c92 => ?_)
      · rw [if_pos c92] at h
        refine zw_aload_n hX dX17_kept_99 rfl ?_
        obtain ⟨b22, g, h⟩ := zb_some h
        refine zw_getr hX zl_X17_31 dX17_kept_100 g ?_
        refine zw_iload_n hX dX17_kept_103 rfl ?_
        obtain ⟨v23, g, h⟩ := zb_some h
        refine zw_xi hX dX17_kept_104 g ?_
        refine zw_sub (lv' := [(0, .ref a0), (1, .int i1)]) (List.forall_mem_cons.mpr ⟨rfl, (List.forall_mem_cons.mpr ⟨rfl, zs_nil⟩)⟩) ?_
        exact zt_X17_kept_J105 hX hr hR hd h
      · rw [if_neg c92] at h
        refine zw_iconst (v := (0 : Int32)) hX dX17_kept_95 (by decide) ?_
        refine zw_goto (tgt := 105) hX dX17_kept_96 (by decide) ?_
        refine zw_sub (lv' := [(0, .ref a0), (1, .int i1)]) (List.forall_mem_cons.mpr ⟨rfl, (List.forall_mem_cons.mpr ⟨rfl, zs_nil⟩)⟩) ?_
        exact zt_X17_kept_J105 hX hr hR hd h
    · rw [if_neg c84] at h
      refine zw_iconst (v := (1 : Int32)) hX dX17_kept_87 (by decide) ?_
      refine zw_goto (tgt := 105) hX dX17_kept_88 (by decide) ?_
      refine zw_sub (lv' := [(0, .ref a0), (1, .int i1)]) (List.forall_mem_cons.mpr ⟨rfl, (List.forall_mem_cons.mpr ⟨rfl, zs_nil⟩)⟩) ?_
      exact zt_X17_kept_J105 hX hr hR hd h
  rw [if_neg c6_3] at h
  by_cases c6_4 : (v2).toInt = 20
  · rw [if_pos c6_4] at h
    refine zw_tableIn (off := 107) (tgt := 113) hX dX17_kept_6 (by rw [c6_4]; decide) (by rw [c6_4]; decide) (by rw [c6_4]; decide) (by decide) ?_
    refine zw_aload_n hX dX17_kept_113 rfl ?_
    refine zw_iload_n hX dX17_kept_114 rfl ?_
    obtain ⟨_, gi, h⟩ := zb_some h
    obtain ⟨r29, g, h⟩ := zb_some h
    refine zc_Vi (as := [.int i1]) hX gi (zt_X17_clock (d := d - 1) (by omega) g) zl_X17_89 rfl dX17_kept_115 ⟨rfl, rfl, Nat.le_of_ble_eq_true rfl⟩ ⟨by omega, by omega⟩ ?_
    obtain rfl := Option.some.inj h
    exact zw_iret hX hr dX17_kept_118 rfl ⟨rfl, rfl⟩
  rw [if_neg c6_4] at h
  by_cases c6_5 : (v2).toInt = 21
  · rw [if_pos c6_5] at h
    refine zw_tableIn (off := 113) (tgt := 119) hX dX17_kept_6 (by rw [c6_5]; decide) (by rw [c6_5]; decide) (by rw [c6_5]; decide) (by decide) ?_
    refine zw_aload_n hX dX17_kept_119 rfl ?_
    refine zw_iload_n hX dX17_kept_120 rfl ?_
    refine zw_iload_n hX dX17_kept_121 rfl ?_
    obtain ⟨_, gi, h⟩ := zb_some h
    obtain ⟨r32, g, h⟩ := zb_some h
    refine zc_Vi (as := [.int i1, .int i2]) hX gi (zt_X17_pulse (d := d - 1) (by omega) g) zl_X17_92 rfl dX17_kept_122 ⟨rfl, rfl, Nat.le_of_ble_eq_true rfl⟩ ⟨by omega, by omega⟩ ?_
    obtain rfl := Option.some.inj h
    exact zw_iret hX hr dX17_kept_125 rfl ⟨rfl, rfl⟩
  rw [if_neg c6_5] at h
  by_cases c6_6 : (v2).toInt = 22
  · rw [if_pos c6_6] at h
    refine zw_tableIn (off := 120) (tgt := 126) hX dX17_kept_6 (by rw [c6_6]; decide) (by rw [c6_6]; decide) (by rw [c6_6]; decide) (by decide) ?_
    refine zw_iload_n hX dX17_kept_126 rfl ?_
    refine zw_aload_n hX dX17_kept_127 rfl ?_
    obtain ⟨b33, g, h⟩ := zb_some h
    refine zw_getr hX zl_X17_13 dX17_kept_128 g ?_
    refine zw_iload_n hX dX17_kept_131 rfl ?_
    obtain ⟨v34, g, h⟩ := zb_some h
    refine zw_xi hX dX17_kept_132 g ?_
    refine zw_icmp_ge (tgt := 145) hX dX17_kept_133 (by decide) (fun c133 => ?_) (fun c133 => ?_)
    · rw [if_pos c133] at h
      refine zw_iload_n hX dX17_kept_145 rfl ?_
      refine zw_aload_n hX dX17_kept_146 rfl ?_
      obtain ⟨b35, g, h⟩ := zb_some h
      refine zw_getr hX zl_X17_16 dX17_kept_147 g ?_
      refine zw_iload_n hX dX17_kept_150 rfl ?_
      obtain ⟨v36, g, h⟩ := zb_some h
      refine zw_xi hX dX17_kept_151 g ?_
      refine zw_icmp_le (tgt := 164) hX dX17_kept_152 (by decide) (fun c152 => ?_) (fun c152 => ?_)
      · rw [if_pos c152] at h
        refine zw_iload_n hX dX17_kept_164 rfl ?_
        obtain rfl := Option.some.inj h
        exact zw_iret hX hr dX17_kept_165 rfl ⟨rfl, rfl⟩
      · rw [if_neg c152] at h
        refine zw_aload_n hX dX17_kept_155 rfl ?_
        obtain ⟨b37, g, h⟩ := zb_some h
        refine zw_getr hX zl_X17_16 dX17_kept_156 g ?_
        refine zw_iload_n hX dX17_kept_159 rfl ?_
        obtain ⟨v38, g, h⟩ := zb_some h
        refine zw_xi hX dX17_kept_160 g ?_
        refine zw_goto (tgt := 165) hX dX17_kept_161 (by decide) ?_
        obtain rfl := Option.some.inj h
        exact zw_iret hX hr dX17_kept_165 rfl ⟨rfl, rfl⟩
    · rw [if_neg c133] at h
      refine zw_aload_n hX dX17_kept_136 rfl ?_
      obtain ⟨b39, g, h⟩ := zb_some h
      refine zw_getr hX zl_X17_13 dX17_kept_137 g ?_
      refine zw_iload_n hX dX17_kept_140 rfl ?_
      obtain ⟨v40, g, h⟩ := zb_some h
      refine zw_xi hX dX17_kept_141 g ?_
      refine zw_goto (tgt := 165) hX dX17_kept_142 (by decide) ?_
      obtain rfl := Option.some.inj h
      exact zw_iret hX hr dX17_kept_165 rfl ⟨rfl, rfl⟩
  rw [if_neg c6_6] at h
  by_cases c6_7 : (v2).toInt = 23
  · rw [if_pos c6_7] at h
    refine zw_tableIn (off := 160) (tgt := 166) hX dX17_kept_6 (by rw [c6_7]; decide) (by rw [c6_7]; decide) (by rw [c6_7]; decide) (by decide) ?_
    refine zw_iload_n hX dX17_kept_166 rfl ?_
    refine zw_if_eq (tgt := 179) hX dX17_kept_167 (by decide) (fun c167 => ?_) (fun c167 => ?_)
    · rw [if_pos c167] at h
      refine zw_iload_n hX dX17_kept_179 rfl ?_
      obtain rfl := Option.some.inj h
      exact zw_iret hX hr dX17_kept_180 rfl ⟨rfl, rfl⟩
    · rw [if_neg c167] at h
      refine zw_aload_n hX dX17_kept_170 rfl ?_
      obtain ⟨b41, g, h⟩ := zb_some h
      refine zw_getr hX zl_X17_28 dX17_kept_171 g ?_
      refine zw_iload_n hX dX17_kept_174 rfl ?_
      obtain ⟨v42, g, h⟩ := zb_some h
      refine zw_xi hX dX17_kept_175 g ?_
      refine zw_goto (tgt := 180) hX dX17_kept_176 (by decide) ?_
      obtain rfl := Option.some.inj h
      exact zw_iret hX hr dX17_kept_180 rfl ⟨rfl, rfl⟩
  rw [if_neg c6_7] at h
  by_cases c6_8 : (v2).toInt = 24
  · rw [if_pos c6_8] at h
    refine zw_tableIn (off := 175) (tgt := 181) hX dX17_kept_6 (by rw [c6_8]; decide) (by rw [c6_8]; decide) (by rw [c6_8]; decide) (by decide) ?_
    refine zw_aload_n hX dX17_kept_181 rfl ?_
    obtain ⟨b43, g, h⟩ := zb_some h
    refine zw_getr hX zl_X17_31 dX17_kept_182 g ?_
    refine zw_iload_n hX dX17_kept_185 rfl ?_
    refine zw_iload_n hX dX17_kept_186 rfl ?_
    refine zw_if_eq (tgt := 194) hX dX17_kept_187 (by decide) (fun c187 => ?_) (fun c187 => ?_)
    · rw [if_pos c187] at h
      refine zw_aload_n hX dX17_kept_194 rfl ?_
      obtain ⟨b44, g, h⟩ := zb_some h
      refine zw_getr hX zl_X17_31 dX17_kept_195 g ?_
      refine zw_iload_n hX dX17_kept_198 rfl ?_
      obtain ⟨v45, g, h⟩ := zb_some h
      refine zw_xi hX dX17_kept_199 g ?_
      refine zw_iload_n hX dX17_kept_200 rfl ?_
      refine zw_iadd hX dX17_kept_201 ?_
      refine zw_sub (lv' := [(0, .ref a0), (1, .int i1)]) (List.forall_mem_cons.mpr ⟨rfl, (List.forall_mem_cons.mpr ⟨rfl, zs_nil⟩)⟩) ?_
      exact zt_X17_kept_J202 hX hr hR hd h
    · rw [if_neg c187] at h
      refine zw_iconst (v := (0 : Int32)) hX dX17_kept_190 (by decide) ?_
      refine zw_goto (tgt := 202) hX dX17_kept_191 (by decide) ?_
      refine zw_sub (lv' := [(0, .ref a0), (1, .int i1)]) (List.forall_mem_cons.mpr ⟨rfl, (List.forall_mem_cons.mpr ⟨rfl, zs_nil⟩)⟩) ?_
      exact zt_X17_kept_J202 hX hr hR hd h
  rw [if_neg c6_8] at h
  refine zw_tableOut (tgt := 210) hX dX17_kept_6 (by omega) (by decide) ?_
  refine zw_iload_n hX dX17_kept_210 rfl ?_
  refine zw_if_ne (tgt := 218) hX dX17_kept_211 (by decide) (fun c211 => ?_) (fun c211 => ?_)
  · rw [if_neg c211] at h
    refine zw_aload_n hX dX17_kept_218 rfl ?_
    obtain ⟨b3, g, h⟩ := zb_some h
    refine zw_getr hX zl_X17_31 dX17_kept_219 g ?_
    refine zw_iload_n hX dX17_kept_222 rfl ?_
    obtain ⟨v4, g, h⟩ := zb_some h
    refine zw_xi hX dX17_kept_223 g ?_
    refine zw_iconst (v := (1 : Int32)) hX dX17_kept_224 (by decide) ?_
    refine zw_iadd hX dX17_kept_225 ?_
    refine zw_sub (lv' := [(0, .ref a0), (1, .int i1)]) (List.forall_mem_cons.mpr ⟨rfl, (List.forall_mem_cons.mpr ⟨rfl, zs_nil⟩)⟩) ?_
    exact zt_X17_kept_J226 hX hr hR hd h
  · rw [if_pos c211] at h
    refine zw_iconst (v := (0 : Int32)) hX dX17_kept_214 (by decide) ?_
    refine zw_goto (tgt := 226) hX dX17_kept_215 (by decide) ?_
    refine zw_sub (lv' := [(0, .ref a0), (1, .int i1)]) (List.forall_mem_cons.mpr ⟨rfl, (List.forall_mem_cons.mpr ⟨rfl, zs_nil⟩)⟩) ?_
    exact zt_X17_kept_J226 hX hr hR hd h
def zf_X17_reckon_J115 (N : Nat) (a0 : Nat) (i1 : Int32) (S : zm_S) : Option (Unit × zm_S) := (zg_r S a0 17 7).bind (fun b18 => (zg_r S a0 17 10).bind (fun b19 => (za_x S 2 b19 i1).bind (fun v20 => if v20 = 0 then (zg_r S a0 17 7).bind (fun b21 => (za_x S 0 b21 i1).bind (fun v22 => (zs_i S b18 i1 v22).bind (fun S23 => some ((), S23)))) else (zg_r S a0 17 11).bind (fun b24 => (za_x S 0 b24 i1).bind (fun v25 => (zs_i S b18 i1 v25).bind (fun S26 => some ((), S26)))))))
set_option maxHeartbeats 4000000 in
set_option maxRecDepth 100000 in
theorem zt_X17_reckon_J115 {p : Program} {l : Launch} {e : Env} {R : Room} {s : State} {m : MethodId} {args : Array Value} {below : List Frame} {meth : Method} {c : Code} {V : zm_V} {mc ms d rc rs : Nat} (hX : zm_X p R s m args meth c RX17 "reckon" cX17_reckon 6 zk_E V mc ms) (hr : meth.sig.returnType = none) (hR : R.frames = d ∧ R.locals = 64 * d) (hd : 3 ≤ d) {N : Nat} {a0 : Nat} {i1 : Int32} {out : (Unit × zm_S)} {S : zm_S} (h : zf_X17_reckon_J115 N a0 i1 S = some out) : zw p l e R s m args below meth c (vx_MQ below (zm_Qc zk_E V (zo_v out)) (zm_XC zk_E V zo_x) args s mc ms (fun q => V.2.2.2.1 ≤ q)) 6 zk_E V mc ms 115 [(0, .ref a0), (1, .int i1)] [] S rc rs := by
  unfold zf_X17_reckon_J115 at h
  refine zw_aload_n hX dX17_reckon_115 rfl ?_
  obtain ⟨b18, g, h⟩ := zb_some h
  refine zw_getr hX zl_X17_28 dX17_reckon_116 g ?_
  refine zw_iload_n hX dX17_reckon_119 rfl ?_
  refine zw_aload_n hX dX17_reckon_120 rfl ?_
  obtain ⟨b19, g, h⟩ := zb_some h
  refine zw_getr hX zl_X17_37 dX17_reckon_121 g ?_
  refine zw_iload_n hX dX17_reckon_124 rfl ?_
  obtain ⟨v20, g, h⟩ := zb_some h
  refine zw_xz hX dX17_reckon_125 g ?_
  refine zw_if_eq (tgt := 138) hX dX17_reckon_126 (by decide) (fun c126 => ?_) (fun c126 => ?_)
  · rw [if_pos c126] at h
    refine zw_aload_n hX dX17_reckon_138 rfl ?_
    obtain ⟨b21, g, h⟩ := zb_some h
    refine zw_getr hX zl_X17_28 dX17_reckon_139 g ?_
    refine zw_iload_n hX dX17_reckon_142 rfl ?_
    obtain ⟨v22, g, h⟩ := zb_some h
    refine zw_xi hX dX17_reckon_143 g ?_
    obtain ⟨S23, g, h⟩ := zb_some h
    refine zw_si hX dX17_reckon_144 g ?_
    obtain rfl := Option.some.inj h
    exact zw_vret hX hr dX17_reckon_145 ⟨rfl, rfl⟩
  · rw [if_neg c126] at h
    refine zw_aload_n hX dX17_reckon_129 rfl ?_
    obtain ⟨b24, g, h⟩ := zb_some h
    refine zw_getr hX zl_X17_41 dX17_reckon_130 g ?_
    refine zw_iload_n hX dX17_reckon_133 rfl ?_
    obtain ⟨v25, g, h⟩ := zb_some h
    refine zw_xi hX dX17_reckon_134 g ?_
    refine zw_goto (tgt := 144) hX dX17_reckon_135 (by decide) ?_
    obtain ⟨S26, g, h⟩ := zb_some h
    refine zw_si hX dX17_reckon_144 g ?_
    obtain rfl := Option.some.inj h
    exact zw_vret hX hr dX17_reckon_145 ⟨rfl, rfl⟩
def zf_X17_reckon_J114 (N : Nat) (a0 : Nat) (i1 : Int32) (t0 : Nat) (t1 : Int32) (t2 : Int32) (S : zm_S) : Option (Unit × zm_S) := (zs_i S t0 t1 t2).bind (fun S17 => zf_X17_reckon_J115 N a0 i1 S17)
set_option maxHeartbeats 4000000 in
set_option maxRecDepth 100000 in
theorem zt_X17_reckon_J114 {p : Program} {l : Launch} {e : Env} {R : Room} {s : State} {m : MethodId} {args : Array Value} {below : List Frame} {meth : Method} {c : Code} {V : zm_V} {mc ms d rc rs : Nat} (hX : zm_X p R s m args meth c RX17 "reckon" cX17_reckon 6 zk_E V mc ms) (hr : meth.sig.returnType = none) (hR : R.frames = d ∧ R.locals = 64 * d) (hd : 3 ≤ d) {N : Nat} {a0 : Nat} {i1 : Int32} {t0 : Nat} {t1 : Int32} {t2 : Int32} {out : (Unit × zm_S)} {S : zm_S} (h : zf_X17_reckon_J114 N a0 i1 t0 t1 t2 S = some out) : zw p l e R s m args below meth c (vx_MQ below (zm_Qc zk_E V (zo_v out)) (zm_XC zk_E V zo_x) args s mc ms (fun q => V.2.2.2.1 ≤ q)) 6 zk_E V mc ms 114 [(0, .ref a0), (1, .int i1)] [.int t2, .int t1, .ref t0] S rc rs := by
  unfold zf_X17_reckon_J114 at h
  obtain ⟨S17, g, h⟩ := zb_some h
  refine zw_si hX dX17_reckon_114 g ?_
  refine zw_sub (lv' := [(0, .ref a0), (1, .int i1)]) (List.forall_mem_cons.mpr ⟨rfl, (List.forall_mem_cons.mpr ⟨rfl, zs_nil⟩)⟩) ?_
  exact zt_X17_reckon_J115 hX hr hR hd h
def zf_X17_reckon_J75 (N : Nat) (a0 : Nat) (i1 : Int32) (i4 : Int32) (t0 : Int32) (S : zm_S) : Option (Unit × zm_S) := (zg_r S a0 17 7).bind (fun b11 => (zg_r S a0 17 1).bind (fun b12 => (za_x S 0 b12 i1).bind (fun v13 => if (16 : Int32) ≤ v13 then (zi S a0 17).bind (fun _ => (zf_X17_kept N a0 i1 i4 t0 S).bind (fun r16 => zf_X17_reckon_J114 N a0 i1 b11 i1 r16.1 r16.2)) else (zi S a0 17).bind (fun _ => (zf_X17_plain N a0 i1 i4 t0 S).bind (fun r29 => zf_X17_reckon_J114 N a0 i1 b11 i1 r29.1 r29.2)))))
set_option maxHeartbeats 4000000 in
set_option maxRecDepth 100000 in
theorem zt_X17_reckon_J75 {p : Program} {l : Launch} {e : Env} {R : Room} {s : State} {m : MethodId} {args : Array Value} {below : List Frame} {meth : Method} {c : Code} {V : zm_V} {mc ms d rc rs : Nat} (hX : zm_X p R s m args meth c RX17 "reckon" cX17_reckon 6 zk_E V mc ms) (hr : meth.sig.returnType = none) (hR : R.frames = d ∧ R.locals = 64 * d) (hd : 3 ≤ d) {N : Nat} {a0 : Nat} {i1 : Int32} {i4 : Int32} {t0 : Int32} {out : (Unit × zm_S)} {S : zm_S} (h : zf_X17_reckon_J75 N a0 i1 i4 t0 S = some out) : zw p l e R s m args below meth c (vx_MQ below (zm_Qc zk_E V (zo_v out)) (zm_XC zk_E V zo_x) args s mc ms (fun q => V.2.2.2.1 ≤ q)) 6 zk_E V mc ms 75 [(0, .ref a0), (1, .int i1), (4, .int i4)] [.int t0] S rc rs := by
  unfold zf_X17_reckon_J75 at h
  refine zw_istore hX dX17_reckon_75 (by decide) ?_
  refine zw_aload_n hX dX17_reckon_77 rfl ?_
  obtain ⟨b11, g, h⟩ := zb_some h
  refine zw_getr hX zl_X17_28 dX17_reckon_78 g ?_
  refine zw_iload_n hX dX17_reckon_81 rfl ?_
  refine zw_aload_n hX dX17_reckon_82 rfl ?_
  obtain ⟨b12, g, h⟩ := zb_some h
  refine zw_getr hX zl_X17_7 dX17_reckon_83 g ?_
  refine zw_iload_n hX dX17_reckon_86 rfl ?_
  obtain ⟨v13, g, h⟩ := zb_some h
  refine zw_xi hX dX17_reckon_87 g ?_
  refine zw_bipush (v := (16 : Int32)) hX dX17_reckon_88 (by decide) ?_
  refine zw_icmp_ge (tgt := 105) hX dX17_reckon_90 (by decide) (fun c90 => ?_) (fun c90 => ?_)
  · rw [if_pos c90] at h
    refine zw_aload_n hX dX17_reckon_105 rfl ?_
    refine zw_iload_n hX dX17_reckon_106 rfl ?_
    refine zw_iload hX dX17_reckon_107 rfl ?_
    refine zw_iload hX dX17_reckon_109 rfl ?_
    obtain ⟨_, gi, h⟩ := zb_some h
    obtain ⟨r16, g, h⟩ := zb_some h
    refine zc_Vi (as := [.int i1, .int i4, .int t0]) hX gi (zt_X17_kept (d := d - 1) (by omega) g) zl_X17_105 rfl dX17_reckon_111 ⟨rfl, rfl, Nat.le_of_ble_eq_true rfl⟩ ⟨by omega, by omega⟩ ?_
    refine zw_sub (lv' := [(0, .ref a0), (1, .int i1)]) (List.forall_mem_cons.mpr ⟨rfl, (List.forall_mem_cons.mpr ⟨rfl, zs_nil⟩)⟩) ?_
    exact zt_X17_reckon_J114 hX hr hR hd h
  · rw [if_neg c90] at h
    refine zw_aload_n hX dX17_reckon_93 rfl ?_
    refine zw_iload_n hX dX17_reckon_94 rfl ?_
    refine zw_iload hX dX17_reckon_95 rfl ?_
    refine zw_iload hX dX17_reckon_97 rfl ?_
    obtain ⟨_, gi, h⟩ := zb_some h
    obtain ⟨r29, g, h⟩ := zb_some h
    refine zc_Vi (as := [.int i1, .int i4, .int t0]) hX gi (zt_X17_plain (d := d - 1) (by omega) g) zl_X17_102 rfl dX17_reckon_99 ⟨rfl, rfl, Nat.le_of_ble_eq_true rfl⟩ ⟨by omega, by omega⟩ ?_
    refine zw_goto (tgt := 114) hX dX17_reckon_102 (by decide) ?_
    refine zw_sub (lv' := [(0, .ref a0), (1, .int i1)]) (List.forall_mem_cons.mpr ⟨rfl, (List.forall_mem_cons.mpr ⟨rfl, zs_nil⟩)⟩) ?_
    exact zt_X17_reckon_J114 hX hr hR hd h
def zf_X17_reckon_J58 (N : Nat) (a0 : Nat) (i1 : Int32) (i3 : Int32) (t0 : Int32) (S : zm_S) : Option (Unit × zm_S) := if i3 ≤ (1 : Int32) then zf_X17_reckon_J75 N a0 i1 t0 (0 : Int32) S else (zi S a0 17).bind (fun _ => (zf_X17_in N a0 i1 (1 : Int32) S).bind (fun r32 => zf_X17_reckon_J75 N a0 i1 t0 r32.1 r32.2))
set_option maxHeartbeats 4000000 in
set_option maxRecDepth 100000 in
theorem zt_X17_reckon_J58 {p : Program} {l : Launch} {e : Env} {R : Room} {s : State} {m : MethodId} {args : Array Value} {below : List Frame} {meth : Method} {c : Code} {V : zm_V} {mc ms d rc rs : Nat} (hX : zm_X p R s m args meth c RX17 "reckon" cX17_reckon 6 zk_E V mc ms) (hr : meth.sig.returnType = none) (hR : R.frames = d ∧ R.locals = 64 * d) (hd : 3 ≤ d) {N : Nat} {a0 : Nat} {i1 : Int32} {i3 : Int32} {t0 : Int32} {out : (Unit × zm_S)} {S : zm_S} (h : zf_X17_reckon_J58 N a0 i1 i3 t0 S = some out) : zw p l e R s m args below meth c (vx_MQ below (zm_Qc zk_E V (zo_v out)) (zm_XC zk_E V zo_x) args s mc ms (fun q => V.2.2.2.1 ≤ q)) 6 zk_E V mc ms 58 [(0, .ref a0), (1, .int i1), (3, .int i3)] [.int t0] S rc rs := by
  unfold zf_X17_reckon_J58 at h
  refine zw_istore hX dX17_reckon_58 (by decide) ?_
  refine zw_iload_n hX dX17_reckon_60 rfl ?_
  refine zw_iconst (v := (1 : Int32)) hX dX17_reckon_61 (by decide) ?_
  refine zw_icmp_le (tgt := 74) hX dX17_reckon_62 (by decide) (fun c62 => ?_) (fun c62 => ?_)
  · rw [if_pos c62] at h
    refine zw_iconst (v := (0 : Int32)) hX dX17_reckon_74 (by decide) ?_
    refine zw_sub (lv' := [(0, .ref a0), (1, .int i1), (4, .int t0)]) (List.forall_mem_cons.mpr ⟨rfl, (List.forall_mem_cons.mpr ⟨rfl, (List.forall_mem_cons.mpr ⟨rfl, zs_nil⟩)⟩)⟩) ?_
    exact zt_X17_reckon_J75 hX hr hR hd h
  · rw [if_neg c62] at h
    refine zw_aload_n hX dX17_reckon_65 rfl ?_
    refine zw_iload_n hX dX17_reckon_66 rfl ?_
    refine zw_iconst (v := (1 : Int32)) hX dX17_reckon_67 (by decide) ?_
    obtain ⟨_, gi, h⟩ := zb_some h
    obtain ⟨r32, g, h⟩ := zb_some h
    refine zc_Vi (as := [.int i1, .int (1 : Int32)]) hX gi (zt_X17_in (d := d - 1) (by omega) g) zl_X17_75 rfl dX17_reckon_68 ⟨rfl, rfl, Nat.le_of_ble_eq_true rfl⟩ ⟨by omega, by omega⟩ ?_
    refine zw_goto (tgt := 75) hX dX17_reckon_71 (by decide) ?_
    refine zw_sub (lv' := [(0, .ref a0), (1, .int i1), (4, .int t0)]) (List.forall_mem_cons.mpr ⟨rfl, (List.forall_mem_cons.mpr ⟨rfl, (List.forall_mem_cons.mpr ⟨rfl, zs_nil⟩)⟩)⟩) ?_
    exact zt_X17_reckon_J75 hX hr hR hd h
def zf_X17_reckon_J43 (N : Nat) (a0 : Nat) (i1 : Int32) (t0 : Int32) (S : zm_S) : Option (Unit × zm_S) := if t0 ≤ 0 then zf_X17_reckon_J58 N a0 i1 t0 (0 : Int32) S else (zi S a0 17).bind (fun _ => (zf_X17_in N a0 i1 (0 : Int32) S).bind (fun r35 => zf_X17_reckon_J58 N a0 i1 t0 r35.1 r35.2))
set_option maxHeartbeats 4000000 in
set_option maxRecDepth 100000 in
theorem zt_X17_reckon_J43 {p : Program} {l : Launch} {e : Env} {R : Room} {s : State} {m : MethodId} {args : Array Value} {below : List Frame} {meth : Method} {c : Code} {V : zm_V} {mc ms d rc rs : Nat} (hX : zm_X p R s m args meth c RX17 "reckon" cX17_reckon 6 zk_E V mc ms) (hr : meth.sig.returnType = none) (hR : R.frames = d ∧ R.locals = 64 * d) (hd : 3 ≤ d) {N : Nat} {a0 : Nat} {i1 : Int32} {t0 : Int32} {out : (Unit × zm_S)} {S : zm_S} (h : zf_X17_reckon_J43 N a0 i1 t0 S = some out) : zw p l e R s m args below meth c (vx_MQ below (zm_Qc zk_E V (zo_v out)) (zm_XC zk_E V zo_x) args s mc ms (fun q => V.2.2.2.1 ≤ q)) 6 zk_E V mc ms 43 [(0, .ref a0), (1, .int i1)] [.int t0] S rc rs := by
  unfold zf_X17_reckon_J43 at h
  refine zw_istore_n hX dX17_reckon_43 (by decide) ?_
  refine zw_iload_n hX dX17_reckon_44 rfl ?_
  refine zw_if_le (tgt := 57) hX dX17_reckon_45 (by decide) (fun c45 => ?_) (fun c45 => ?_)
  · rw [if_pos c45] at h
    refine zw_iconst (v := (0 : Int32)) hX dX17_reckon_57 (by decide) ?_
    refine zw_sub (lv' := [(0, .ref a0), (1, .int i1), (3, .int t0)]) (List.forall_mem_cons.mpr ⟨rfl, (List.forall_mem_cons.mpr ⟨rfl, (List.forall_mem_cons.mpr ⟨rfl, zs_nil⟩)⟩)⟩) ?_
    exact zt_X17_reckon_J58 hX hr hR hd h
  · rw [if_neg c45] at h
    refine zw_aload_n hX dX17_reckon_48 rfl ?_
    refine zw_iload_n hX dX17_reckon_49 rfl ?_
    refine zw_iconst (v := (0 : Int32)) hX dX17_reckon_50 (by decide) ?_
    obtain ⟨_, gi, h⟩ := zb_some h
    obtain ⟨r35, g, h⟩ := zb_some h
    refine zc_Vi (as := [.int i1, .int (0 : Int32)]) hX gi (zt_X17_in (d := d - 1) (by omega) g) zl_X17_75 rfl dX17_reckon_51 ⟨rfl, rfl, Nat.le_of_ble_eq_true rfl⟩ ⟨by omega, by omega⟩ ?_
    refine zw_goto (tgt := 58) hX dX17_reckon_54 (by decide) ?_
    refine zw_sub (lv' := [(0, .ref a0), (1, .int i1), (3, .int t0)]) (List.forall_mem_cons.mpr ⟨rfl, (List.forall_mem_cons.mpr ⟨rfl, (List.forall_mem_cons.mpr ⟨rfl, zs_nil⟩)⟩)⟩) ?_
    exact zt_X17_reckon_J58 hX hr hR hd h
def zf_X17_reckon (N : Nat) (a0 : Nat) (i1 : Int32) (S : zm_S) : Option (Unit × zm_S) := (zi S a0 17).bind (fun _ => (zf_X17_failure N a0 i1 S).bind (fun r3 => if r3.1 ≤ 0 then (zg_r r3.2 a0 17 1).bind (fun b4 => (za_x r3.2 0 b4 i1).bind (fun v5 => if v5 = (16 : Int32) then zf_X17_reckon_J43 N a0 i1 (0 : Int32) r3.2 else (zg_r r3.2 a0 17 1).bind (fun b6 => (za_x r3.2 0 b6 i1).bind (fun v7 => (zf_X17_inputs N v7 r3.2).bind (fun r10 => zf_X17_reckon_J43 N a0 i1 r10.1 r10.2))))) else (zi r3.2 a0 17).bind (fun _ => (zf_X17_fails N a0 i1 r3.1 r3.2).bind (fun r38 => zf_X17_reckon_J115 N a0 i1 r38.2))))
set_option maxHeartbeats 4000000 in
set_option maxRecDepth 100000 in
theorem zt_X17_reckon {l : Launch} {V : zm_V} {N : Nat} {S : zm_S} {out : (Unit × zm_S)} {d : Nat} {a0 : Nat} {i1 : Int32} (hd : 3 ≤ d) (h : zf_X17_reckon N a0 i1 S = some out) : zm_Met l zk_E V yX17_reckon (.code yX17_reckon cX17_reckon 6 none) d [.ref a0, .int i1] S 0 0 (zo_v out) zo_x := by
  refine zm_of (by decide +kernel) (Nat.le_of_ble_eq_true rfl) ?_
  intro p e R s m args below meth c hRR hX hr hxt
  have hR : R.frames = d ∧ R.locals = 64 * d := by rw [hRR]; exact ⟨rfl, rfl⟩
  have hX : zm_X p R s m args meth c RX17 "reckon" cX17_reckon 6 zk_E V 0 0 := hX
  unfold zf_X17_reckon at h
  refine zw_sub (lv' := [(0, .ref a0), (1, .int i1)]) (List.forall_mem_cons.mpr ⟨rfl, (List.forall_mem_cons.mpr ⟨rfl, zs_nil⟩)⟩) ?_
  refine zw_aload_n hX dX17_reckon_0 rfl ?_
  refine zw_iload_n hX dX17_reckon_1 rfl ?_
  obtain ⟨_, gi, h⟩ := zb_some h
  obtain ⟨r3, g, h⟩ := zb_some h
  refine zc_Vi (as := [.int i1]) hX gi (zt_X17_failure (d := d - 1) (by omega) g) zl_X17_95 rfl dX17_reckon_2 ⟨rfl, rfl, Nat.le_of_ble_eq_true rfl⟩ ⟨by omega, by omega⟩ ?_
  refine zw_istore_n hX dX17_reckon_5 (by decide) ?_
  refine zw_iload_n hX dX17_reckon_6 rfl ?_
  refine zw_if_le (tgt := 19) hX dX17_reckon_7 (by decide) (fun c7 => ?_) (fun c7 => ?_)
  · rw [if_pos c7] at h
    refine zw_aload_n hX dX17_reckon_19 rfl ?_
    obtain ⟨b4, g, h⟩ := zb_some h
    refine zw_getr hX zl_X17_7 dX17_reckon_20 g ?_
    refine zw_iload_n hX dX17_reckon_23 rfl ?_
    obtain ⟨v5, g, h⟩ := zb_some h
    refine zw_xi hX dX17_reckon_24 g ?_
    refine zw_bipush (v := (16 : Int32)) hX dX17_reckon_25 (by decide) ?_
    refine zw_icmp_ne (tgt := 34) hX dX17_reckon_27 (by decide) (fun c27 => ?_) (fun c27 => ?_)
    · rw [if_neg c27] at h
      refine zw_aload_n hX dX17_reckon_34 rfl ?_
      obtain ⟨b6, g, h⟩ := zb_some h
      refine zw_getr hX zl_X17_7 dX17_reckon_35 g ?_
      refine zw_iload_n hX dX17_reckon_38 rfl ?_
      obtain ⟨v7, g, h⟩ := zb_some h
      refine zw_xi hX dX17_reckon_39 g ?_
      obtain ⟨r10, g, h⟩ := zb_some h
      refine zc_Si (as := [.int v7]) hX (zt_X17_inputs (d := d - 1) (by omega) g) zl_X17_59 dX17_reckon_40 ⟨rfl, rfl, Nat.le_of_ble_eq_true rfl⟩ ⟨by omega, by omega⟩ ?_
      refine zw_sub (lv' := [(0, .ref a0), (1, .int i1)]) (List.forall_mem_cons.mpr ⟨rfl, (List.forall_mem_cons.mpr ⟨rfl, zs_nil⟩)⟩) ?_
      exact zt_X17_reckon_J43 hX hr hR hd h
    · rw [if_pos c27] at h
      refine zw_iconst (v := (0 : Int32)) hX dX17_reckon_30 (by decide) ?_
      refine zw_goto (tgt := 43) hX dX17_reckon_31 (by decide) ?_
      refine zw_sub (lv' := [(0, .ref a0), (1, .int i1)]) (List.forall_mem_cons.mpr ⟨rfl, (List.forall_mem_cons.mpr ⟨rfl, zs_nil⟩)⟩) ?_
      exact zt_X17_reckon_J43 hX hr hR hd h
  · rw [if_neg c7] at h
    refine zw_aload_n hX dX17_reckon_10 rfl ?_
    refine zw_iload_n hX dX17_reckon_11 rfl ?_
    refine zw_iload_n hX dX17_reckon_12 rfl ?_
    obtain ⟨_, gi, h⟩ := zb_some h
    obtain ⟨r38, g, h⟩ := zb_some h
    refine zc_Vv (as := [.int i1, .int r3.1]) hX gi (zt_X17_fails (d := d - 1) (by omega) g) zl_X17_98 rfl dX17_reckon_13 ⟨rfl, rfl, Nat.le_of_ble_eq_true rfl⟩ ⟨by omega, by omega⟩ ?_
    refine zw_goto (tgt := 115) hX dX17_reckon_16 (by decide) ?_
    refine zw_sub (lv' := [(0, .ref a0), (1, .int i1)]) (List.forall_mem_cons.mpr ⟨rfl, (List.forall_mem_cons.mpr ⟨rfl, zs_nil⟩)⟩) ?_
    exact zt_X17_reckon_J115 hX hr hR hd h
def zf_X17_tick_L21 (N : Nat) : Nat → Nat → Int32 → zm_S → Option ((Unit × zm_S) ⊕ ((Unit) × zm_S))
  | 0, _, _, _ => none
  | n + 1, a0, i1, S => (zg_i S a0 17 0).bind (fun v6 => if v6 ≤ i1 then some (.inr ((), S)) else (zg_r S a0 17 15).bind (fun b7 => (za_x S 0 b7 i1).bind (fun v8 => (zi S a0 17).bind (fun _ => (zf_X17_reckon N a0 v8 S).bind (fun r11 => zf_X17_tick_L21 N n a0 (i1 + (1 : Int32)) r11.2)))))
set_option maxHeartbeats 4000000 in
set_option maxRecDepth 100000 in
theorem zt_X17_tick_L21 {p : Program} {l : Launch} {e : Env} {R : Room} {s : State} {m : MethodId} {args : Array Value} {below : List Frame} {meth : Method} {c : Code} {V : zm_V} {mc ms d rc rs : Nat} (hX : zm_X p R s m args meth c RX17 "tick" cX17_tick 2 zk_E V mc ms) (hr : meth.sig.returnType = none) (hR : R.frames = d ∧ R.locals = 64 * d) (hd : 4 ≤ d) {N : Nat} {res : (Unit × zm_S) ⊕ ((Unit) × zm_S)} {out : (Unit × zm_S)} (a0 : Nat) (hf : ∀ o, res = .inl o → o = out) (hk : ∀ (S' : zm_S), res = .inr ((), S') → zw p l e R s m args below meth c (vx_MQ below (zm_Qc zk_E V (zo_v out)) (zm_XC zk_E V zo_x) args s mc ms (fun q => V.2.2.2.1 ≤ q)) 2 zk_E V mc ms 45 [(0, .ref a0)] [] S' rc rs) : ∀ (n : Nat) (i1 : Int32) (S : zm_S), zf_X17_tick_L21 N n a0 i1 S = some res → zw p l e R s m args below meth c (vx_MQ below (zm_Qc zk_E V (zo_v out)) (zm_XC zk_E V zo_x) args s mc ms (fun q => V.2.2.2.1 ≤ q)) 2 zk_E V mc ms 21 [(0, .ref a0), (1, .int i1)] [] S rc rs := by
  intro n
  induction n with
  | zero => intro i1 S h; cases h
  | succ n ih =>
    intro i1 S h
    rw [zf_X17_tick_L21] at h
    refine zw_iload_n hX dX17_tick_21 rfl ?_
    refine zw_aload_n hX dX17_tick_22 rfl ?_
    obtain ⟨v6, g, h⟩ := zb_some h
    refine zw_geti hX zl_X17_63 dX17_tick_23 g ?_
    refine zw_icmp_ge (tgt := 45) hX dX17_tick_26 (by decide) (fun c26 => ?_) (fun c26 => ?_)
    · rw [if_pos c26] at h
      refine zw_sub (lv' := [(0, .ref a0)]) (List.forall_mem_cons.mpr ⟨rfl, zs_nil⟩) ?_
      exact hk  _ (Option.some.inj h).symm
    · rw [if_neg c26] at h
      refine zw_aload_n hX dX17_tick_29 rfl ?_
      refine zw_aload_n hX dX17_tick_30 rfl ?_
      obtain ⟨b7, g, h⟩ := zb_some h
      refine zw_getr hX zl_X17_50 dX17_tick_31 g ?_
      refine zw_iload_n hX dX17_tick_34 rfl ?_
      obtain ⟨v8, g, h⟩ := zb_some h
      refine zw_xi hX dX17_tick_35 g ?_
      obtain ⟨_, gi, h⟩ := zb_some h
      obtain ⟨r11, g, h⟩ := zb_some h
      refine zc_Vv (as := [.int v8]) hX gi (zt_X17_reckon (d := d - 1) (by omega) g) zl_X17_112 rfl dX17_tick_36 ⟨rfl, rfl, Nat.le_of_ble_eq_true rfl⟩ ⟨by omega, by omega⟩ ?_
      refine zw_iinc (v := (i1 + (1 : Int32))) hX dX17_tick_39 rfl rfl (by decide) ?_
      refine zw_goto (tgt := 21) hX dX17_tick_42 (by decide) ?_
      refine zw_sub (lv' := [(0, .ref a0), (1, .int (i1 + (1 : Int32)))]) (List.forall_mem_cons.mpr ⟨rfl, (List.forall_mem_cons.mpr ⟨rfl, zs_nil⟩)⟩) ?_
      exact ih _ _ h
def zf_X17_tick_J116 (N : Nat) (k : Nat → Int32 → zm_S → Option ((Unit × zm_S) ⊕ ((Unit) × zm_S))) (a0 : Nat) (i1 : Int32) (S : zm_S) : Option ((Unit × zm_S) ⊕ ((Unit) × zm_S)) := (zg_r S a0 17 1).bind (fun b16 => (za_x S 0 b16 i1).bind (fun v17 => if v17 = (16 : Int32) then (zg_r S a0 17 8).bind (fun b18 => (zi S a0 17).bind (fun _ => (zf_X17_in N a0 i1 (0 : Int32) S).bind (fun r21 => (zs_i r21.2 b18 i1 r21.1).bind (fun S22 => k a0 (i1 + (1 : Int32)) S22)))) else k a0 (i1 + (1 : Int32)) S))
set_option maxHeartbeats 4000000 in
set_option maxRecDepth 100000 in
theorem zt_X17_tick_J116 {p : Program} {l : Launch} {e : Env} {R : Room} {s : State} {m : MethodId} {args : Array Value} {below : List Frame} {meth : Method} {c : Code} {V : zm_V} {mc ms d rc rs : Nat} (hX : zm_X p R s m args meth c RX17 "tick" cX17_tick 2 zk_E V mc ms) (hr : meth.sig.returnType = none) (hR : R.frames = d ∧ R.locals = 64 * d) (hd : 4 ≤ d) {N : Nat} {k : Nat → Int32 → zm_S → Option ((Unit × zm_S) ⊕ ((Unit) × zm_S))} {a0 : Nat} {i1 : Int32} {res : (Unit × zm_S) ⊕ ((Unit) × zm_S)} {out : (Unit × zm_S)}   (hf : ∀ o, res = .inl o → o = out) (hk : ∀ (S' : zm_S), res = .inr ((), S') → zw p l e R s m args below meth c (vx_MQ below (zm_Qc zk_E V (zo_v out)) (zm_XC zk_E V zo_x) args s mc ms (fun q => V.2.2.2.1 ≤ q)) 2 zk_E V mc ms 145 [(0, .ref a0)] [] S' rc rs) (hrec : ∀ (i1' : Int32) (S : zm_S), k a0 i1' S = some res → zw p l e R s m args below meth c (vx_MQ below (zm_Qc zk_E V (zo_v out)) (zm_XC zk_E V zo_x) args s mc ms (fun q => V.2.2.2.1 ≤ q)) 2 zk_E V mc ms 47 [(0, .ref a0), (1, .int i1')] [] S rc rs) {S : zm_S} (h : zf_X17_tick_J116 N k a0 i1 S = some res) : zw p l e R s m args below meth c (vx_MQ below (zm_Qc zk_E V (zo_v out)) (zm_XC zk_E V zo_x) args s mc ms (fun q => V.2.2.2.1 ≤ q)) 2 zk_E V mc ms 116 [(0, .ref a0), (1, .int i1)] [] S rc rs := by
  unfold zf_X17_tick_J116 at h
  refine zw_aload_n hX dX17_tick_116 rfl ?_
  obtain ⟨b16, g, h⟩ := zb_some h
  refine zw_getr hX zl_X17_7 dX17_tick_117 g ?_
  refine zw_iload_n hX dX17_tick_120 rfl ?_
  obtain ⟨v17, g, h⟩ := zb_some h
  refine zw_xi hX dX17_tick_121 g ?_
  refine zw_bipush (v := (16 : Int32)) hX dX17_tick_122 (by decide) ?_
  refine zw_icmp_ne (tgt := 139) hX dX17_tick_124 (by decide) (fun c124 => ?_) (fun c124 => ?_)
  · rw [if_neg c124] at h
    refine zw_iinc (v := (i1 + (1 : Int32))) hX dX17_tick_139 rfl rfl (by decide) ?_
    refine zw_goto (tgt := 47) hX dX17_tick_142 (by decide) ?_
    refine zw_sub (lv' := [(0, .ref a0), (1, .int (i1 + (1 : Int32)))]) (List.forall_mem_cons.mpr ⟨rfl, (List.forall_mem_cons.mpr ⟨rfl, zs_nil⟩)⟩) ?_
    exact hrec _ _ h
  · rw [if_pos c124] at h
    refine zw_aload_n hX dX17_tick_127 rfl ?_
    obtain ⟨b18, g, h⟩ := zb_some h
    refine zw_getr hX zl_X17_31 dX17_tick_128 g ?_
    refine zw_iload_n hX dX17_tick_131 rfl ?_
    refine zw_aload_n hX dX17_tick_132 rfl ?_
    refine zw_iload_n hX dX17_tick_133 rfl ?_
    refine zw_iconst (v := (0 : Int32)) hX dX17_tick_134 (by decide) ?_
    obtain ⟨_, gi, h⟩ := zb_some h
    obtain ⟨r21, g, h⟩ := zb_some h
    refine zc_Vi (as := [.int i1, .int (0 : Int32)]) hX gi (zt_X17_in (d := d - 1) (by omega) g) zl_X17_75 rfl dX17_tick_135 ⟨rfl, rfl, Nat.le_of_ble_eq_true rfl⟩ ⟨by omega, by omega⟩ ?_
    obtain ⟨S22, g, h⟩ := zb_some h
    refine zw_si hX dX17_tick_138 g ?_
    refine zw_iinc (v := (i1 + (1 : Int32))) hX dX17_tick_139 rfl rfl (by decide) ?_
    refine zw_goto (tgt := 47) hX dX17_tick_142 (by decide) ?_
    refine zw_sub (lv' := [(0, .ref a0), (1, .int (i1 + (1 : Int32)))]) (List.forall_mem_cons.mpr ⟨rfl, (List.forall_mem_cons.mpr ⟨rfl, zs_nil⟩)⟩) ?_
    exact hrec _ _ h
def zf_X17_tick_J112 (N : Nat) (k : Nat → Int32 → zm_S → Option ((Unit × zm_S) ⊕ ((Unit) × zm_S))) (a0 : Nat) (i1 : Int32) (t0 : Nat) (t1 : Int32) (t2 : Int32) (S : zm_S) : Option ((Unit × zm_S) ⊕ ((Unit) × zm_S)) := (zs_i S t0 t1 t2).bind (fun S33 => k a0 (i1 + (1 : Int32)) S33)
set_option maxHeartbeats 4000000 in
set_option maxRecDepth 100000 in
theorem zt_X17_tick_J112 {p : Program} {l : Launch} {e : Env} {R : Room} {s : State} {m : MethodId} {args : Array Value} {below : List Frame} {meth : Method} {c : Code} {V : zm_V} {mc ms d rc rs : Nat} (hX : zm_X p R s m args meth c RX17 "tick" cX17_tick 2 zk_E V mc ms) (hr : meth.sig.returnType = none) (hR : R.frames = d ∧ R.locals = 64 * d) (hd : 4 ≤ d) {N : Nat} {k : Nat → Int32 → zm_S → Option ((Unit × zm_S) ⊕ ((Unit) × zm_S))} {a0 : Nat} {i1 : Int32} {t0 : Nat} {t1 : Int32} {t2 : Int32} {res : (Unit × zm_S) ⊕ ((Unit) × zm_S)} {out : (Unit × zm_S)}   (hf : ∀ o, res = .inl o → o = out) (hk : ∀ (S' : zm_S), res = .inr ((), S') → zw p l e R s m args below meth c (vx_MQ below (zm_Qc zk_E V (zo_v out)) (zm_XC zk_E V zo_x) args s mc ms (fun q => V.2.2.2.1 ≤ q)) 2 zk_E V mc ms 145 [(0, .ref a0)] [] S' rc rs) (hrec : ∀ (i1' : Int32) (S : zm_S), k a0 i1' S = some res → zw p l e R s m args below meth c (vx_MQ below (zm_Qc zk_E V (zo_v out)) (zm_XC zk_E V zo_x) args s mc ms (fun q => V.2.2.2.1 ≤ q)) 2 zk_E V mc ms 47 [(0, .ref a0), (1, .int i1')] [] S rc rs) {S : zm_S} (h : zf_X17_tick_J112 N k a0 i1 t0 t1 t2 S = some res) : zw p l e R s m args below meth c (vx_MQ below (zm_Qc zk_E V (zo_v out)) (zm_XC zk_E V zo_x) args s mc ms (fun q => V.2.2.2.1 ≤ q)) 2 zk_E V mc ms 112 [(0, .ref a0), (1, .int i1)] [.int t2, .int t1, .ref t0] S rc rs := by
  unfold zf_X17_tick_J112 at h
  obtain ⟨S33, g, h⟩ := zb_some h
  refine zw_si hX dX17_tick_112 g ?_
  refine zw_goto (tgt := 139) hX dX17_tick_113 (by decide) ?_
  refine zw_iinc (v := (i1 + (1 : Int32))) hX dX17_tick_139 rfl rfl (by decide) ?_
  refine zw_goto (tgt := 47) hX dX17_tick_142 (by decide) ?_
  refine zw_sub (lv' := [(0, .ref a0), (1, .int (i1 + (1 : Int32)))]) (List.forall_mem_cons.mpr ⟨rfl, (List.forall_mem_cons.mpr ⟨rfl, zs_nil⟩)⟩) ?_
  exact hrec _ _ h
def zf_X17_tick_L47 (N : Nat) : Nat → Nat → Int32 → zm_S → Option ((Unit × zm_S) ⊕ ((Unit) × zm_S))
  | 0, _, _, _ => none
  | n + 1, a0, i1, S => (zg_i S a0 17 0).bind (fun v13 => if v13 ≤ i1 then some (.inr ((), S)) else (zg_r S a0 17 1).bind (fun b14 => (za_x S 0 b14 i1).bind (fun v15 => if v15 = (16 : Int32) then (zg_r S a0 17 5).bind (fun b23 => (za_x S 0 b23 ((3 : Int32) * i1)).bind (fun v24 => if 0 ≤ v24 then zf_X17_tick_J116 N (zf_X17_tick_L47 N n) a0 i1 S else (zi S a0 17).bind (fun _ => (zf_X17_fails N a0 i1 (3 : Int32) S).bind (fun r27 => (zg_r r27.2 a0 17 7).bind (fun b28 => (zg_r r27.2 a0 17 10).bind (fun b29 => (za_x r27.2 2 b29 i1).bind (fun v30 => if v30 = 0 then (zg_r r27.2 a0 17 7).bind (fun b31 => (za_x r27.2 0 b31 i1).bind (fun v32 => zf_X17_tick_J112 N (zf_X17_tick_L47 N n) a0 i1 b28 i1 v32 r27.2)) else (zg_r r27.2 a0 17 11).bind (fun b34 => (za_x r27.2 0 b34 i1).bind (fun v35 => zf_X17_tick_J112 N (zf_X17_tick_L47 N n) a0 i1 b28 i1 v35 r27.2))))))))) else zf_X17_tick_J116 N (zf_X17_tick_L47 N n) a0 i1 S)))
set_option maxHeartbeats 4000000 in
set_option maxRecDepth 100000 in
theorem zt_X17_tick_L47 {p : Program} {l : Launch} {e : Env} {R : Room} {s : State} {m : MethodId} {args : Array Value} {below : List Frame} {meth : Method} {c : Code} {V : zm_V} {mc ms d rc rs : Nat} (hX : zm_X p R s m args meth c RX17 "tick" cX17_tick 2 zk_E V mc ms) (hr : meth.sig.returnType = none) (hR : R.frames = d ∧ R.locals = 64 * d) (hd : 4 ≤ d) {N : Nat} {res : (Unit × zm_S) ⊕ ((Unit) × zm_S)} {out : (Unit × zm_S)} (a0 : Nat) (hf : ∀ o, res = .inl o → o = out) (hk : ∀ (S' : zm_S), res = .inr ((), S') → zw p l e R s m args below meth c (vx_MQ below (zm_Qc zk_E V (zo_v out)) (zm_XC zk_E V zo_x) args s mc ms (fun q => V.2.2.2.1 ≤ q)) 2 zk_E V mc ms 145 [(0, .ref a0)] [] S' rc rs) : ∀ (n : Nat) (i1 : Int32) (S : zm_S), zf_X17_tick_L47 N n a0 i1 S = some res → zw p l e R s m args below meth c (vx_MQ below (zm_Qc zk_E V (zo_v out)) (zm_XC zk_E V zo_x) args s mc ms (fun q => V.2.2.2.1 ≤ q)) 2 zk_E V mc ms 47 [(0, .ref a0), (1, .int i1)] [] S rc rs := by
  intro n
  induction n with
  | zero => intro i1 S h; cases h
  | succ n ih =>
    intro i1 S h
    rw [zf_X17_tick_L47] at h
    refine zw_iload_n hX dX17_tick_47 rfl ?_
    refine zw_aload_n hX dX17_tick_48 rfl ?_
    obtain ⟨v13, g, h⟩ := zb_some h
    refine zw_geti hX zl_X17_63 dX17_tick_49 g ?_
    refine zw_icmp_ge (tgt := 145) hX dX17_tick_52 (by decide) (fun c52 => ?_) (fun c52 => ?_)
    · rw [if_pos c52] at h
      refine zw_sub (lv' := [(0, .ref a0)]) (List.forall_mem_cons.mpr ⟨rfl, zs_nil⟩) ?_
      exact hk  _ (Option.some.inj h).symm
    · rw [if_neg c52] at h
      refine zw_aload_n hX dX17_tick_55 rfl ?_
      obtain ⟨b14, g, h⟩ := zb_some h
      refine zw_getr hX zl_X17_7 dX17_tick_56 g ?_
      refine zw_iload_n hX dX17_tick_59 rfl ?_
      obtain ⟨v15, g, h⟩ := zb_some h
      refine zw_xi hX dX17_tick_60 g ?_
      refine zw_bipush (v := (16 : Int32)) hX dX17_tick_61 (by decide) ?_
      refine zw_icmp_ne (tgt := 116) hX dX17_tick_63 (by decide) (fun c63 => ?_) (fun c63 => ?_)
      · rw [if_neg c63] at h
        refine zw_sub (lv' := [(0, .ref a0), (1, .int i1)]) (List.forall_mem_cons.mpr ⟨rfl, (List.forall_mem_cons.mpr ⟨rfl, zs_nil⟩)⟩) ?_
        exact zt_X17_tick_J116 hX hr hR hd hf hk ih h
      · rw [if_pos c63] at h
        refine zw_aload_n hX dX17_tick_66 rfl ?_
        obtain ⟨b23, g, h⟩ := zb_some h
        refine zw_getr hX zl_X17_22 dX17_tick_67 g ?_
        refine zw_iconst (v := (3 : Int32)) hX dX17_tick_70 (by decide) ?_
        refine zw_iload_n hX dX17_tick_71 rfl ?_
        refine zw_imul hX dX17_tick_72 ?_
        obtain ⟨v24, g, h⟩ := zb_some h
        refine zw_xi hX dX17_tick_73 g ?_
        refine zw_if_ge (tgt := 116) hX dX17_tick_74 (by decide) (fun c74 => ?_) (fun c74 => ?_)
        · rw [if_pos c74] at h
          refine zw_sub (lv' := [(0, .ref a0), (1, .int i1)]) (List.forall_mem_cons.mpr ⟨rfl, (List.forall_mem_cons.mpr ⟨rfl, zs_nil⟩)⟩) ?_
          exact zt_X17_tick_J116 hX hr hR hd hf hk ih h
        · rw [if_neg c74] at h
          refine zw_aload_n hX dX17_tick_77 rfl ?_
          refine zw_iload_n hX dX17_tick_78 rfl ?_
          refine zw_iconst (v := (3 : Int32)) hX dX17_tick_79 (by decide) ?_
          obtain ⟨_, gi, h⟩ := zb_some h
          obtain ⟨r27, g, h⟩ := zb_some h
          refine zc_Vv (as := [.int i1, .int (3 : Int32)]) hX gi (zt_X17_fails (d := d - 1) (by omega) g) zl_X17_98 rfl dX17_tick_80 ⟨rfl, rfl, Nat.le_of_ble_eq_true rfl⟩ ⟨by omega, by omega⟩ ?_
          refine zw_aload_n hX dX17_tick_83 rfl ?_
          obtain ⟨b28, g, h⟩ := zb_some h
          refine zw_getr hX zl_X17_28 dX17_tick_84 g ?_
          refine zw_iload_n hX dX17_tick_87 rfl ?_
          refine zw_aload_n hX dX17_tick_88 rfl ?_
          obtain ⟨b29, g, h⟩ := zb_some h
          refine zw_getr hX zl_X17_37 dX17_tick_89 g ?_
          refine zw_iload_n hX dX17_tick_92 rfl ?_
          obtain ⟨v30, g, h⟩ := zb_some h
          refine zw_xz hX dX17_tick_93 g ?_
          refine zw_if_eq (tgt := 106) hX dX17_tick_94 (by decide) (fun c94 => ?_) (fun c94 => ?_)
          · rw [if_pos c94] at h
            refine zw_aload_n hX dX17_tick_106 rfl ?_
            obtain ⟨b31, g, h⟩ := zb_some h
            refine zw_getr hX zl_X17_28 dX17_tick_107 g ?_
            refine zw_iload_n hX dX17_tick_110 rfl ?_
            obtain ⟨v32, g, h⟩ := zb_some h
            refine zw_xi hX dX17_tick_111 g ?_
            refine zw_sub (lv' := [(0, .ref a0), (1, .int i1)]) (List.forall_mem_cons.mpr ⟨rfl, (List.forall_mem_cons.mpr ⟨rfl, zs_nil⟩)⟩) ?_
            exact zt_X17_tick_J112 hX hr hR hd hf hk ih h
          · rw [if_neg c94] at h
            refine zw_aload_n hX dX17_tick_97 rfl ?_
            obtain ⟨b34, g, h⟩ := zb_some h
            refine zw_getr hX zl_X17_41 dX17_tick_98 g ?_
            refine zw_iload_n hX dX17_tick_101 rfl ?_
            obtain ⟨v35, g, h⟩ := zb_some h
            refine zw_xi hX dX17_tick_102 g ?_
            refine zw_goto (tgt := 112) hX dX17_tick_103 (by decide) ?_
            refine zw_sub (lv' := [(0, .ref a0), (1, .int i1)]) (List.forall_mem_cons.mpr ⟨rfl, (List.forall_mem_cons.mpr ⟨rfl, zs_nil⟩)⟩) ?_
            exact zt_X17_tick_J112 hX hr hR hd hf hk ih h
def zf_X17_tick (N : Nat) (a0 : Nat) (S : zm_S) : Option (Unit × zm_S) := (zi S a0 17).bind (fun _ => (zf_X17_sort N a0 S).bind (fun r3 => (zg_i r3.2 a0 17 0).bind (fun v4 => if r3.1 < v4 then some ((), r3.2) else (zg_i r3.2 a0 17 18).bind (fun v5 => if v5 = 0 then (zf_X17_tick_L21 N N a0 (0 : Int32) r3.2).bind (fun r => match r with | .inl o => some o | .inr (_, S12) => (zf_X17_tick_L47 N N a0 (0 : Int32) S12).bind (fun r => match r with | .inl o => some o | .inr (_, S36) => (zg_r S36 a0 17 17).bind (fun b37 => (za_x S36 0 b37 (0 : Int32)).bind (fun v38 => if v38 < (20000 : Int32) then (zp S36 a0 17 18 (.int (0 : Int32))).bind (fun S39 => some ((), S39)) else (zp S36 a0 17 18 (.int (1 : Int32))).bind (fun S40 => some ((), S40)))))) else some ((), r3.2)))))
set_option maxHeartbeats 4000000 in
set_option maxRecDepth 100000 in
theorem zt_X17_tick {l : Launch} {V : zm_V} {N : Nat} {S : zm_S} {out : (Unit × zm_S)} {d : Nat} {a0 : Nat} (hd : 4 ≤ d) (h : zf_X17_tick N a0 S = some out) : zm_Met l zk_E V yX17_tick (.code yX17_tick cX17_tick 2 none) d [.ref a0] S 0 0 (zo_v out) zo_x := by
  refine zm_of (by decide +kernel) (Nat.le_of_ble_eq_true rfl) ?_
  intro p e R s m args below meth c hRR hX hr hxt
  have hR : R.frames = d ∧ R.locals = 64 * d := by rw [hRR]; exact ⟨rfl, rfl⟩
  have hX : zm_X p R s m args meth c RX17 "tick" cX17_tick 2 zk_E V 0 0 := hX
  unfold zf_X17_tick at h
  refine zw_sub (lv' := [(0, .ref a0)]) (List.forall_mem_cons.mpr ⟨rfl, zs_nil⟩) ?_
  refine zw_aload_n hX dX17_tick_0 rfl ?_
  obtain ⟨_, gi, h⟩ := zb_some h
  obtain ⟨r3, g, h⟩ := zb_some h
  refine zc_Vi (as := []) hX gi (zt_X17_sort (d := d - 1) (by omega) g) zl_X17_71 rfl dX17_tick_1 ⟨rfl, rfl, Nat.le_of_ble_eq_true rfl⟩ ⟨by omega, by omega⟩ ?_
  refine zw_aload_n hX dX17_tick_4 rfl ?_
  obtain ⟨v4, g, h⟩ := zb_some h
  refine zw_geti hX zl_X17_63 dX17_tick_5 g ?_
  refine zw_icmp_lt (tgt := 18) hX dX17_tick_8 (by decide) (fun c8 => ?_) (fun c8 => ?_)
  · rw [if_pos c8] at h
    obtain rfl := Option.some.inj h
    exact zw_vret hX hr dX17_tick_18 ⟨rfl, rfl⟩
  · rw [if_neg c8] at h
    refine zw_aload_n hX dX17_tick_11 rfl ?_
    obtain ⟨v5, g, h⟩ := zb_some h
    refine zw_geti hX zl_X17_108 dX17_tick_12 g ?_
    refine zw_if_eq (tgt := 19) hX dX17_tick_15 (by decide) (fun c15 => ?_) (fun c15 => ?_)
    · rw [if_pos c15] at h
      refine zw_iconst (v := (0 : Int32)) hX dX17_tick_19 (by decide) ?_
      refine zw_istore_n hX dX17_tick_20 (by decide) ?_
      obtain ⟨r, g, h⟩ := zb_some h
      refine zw_sub (lv' := [(0, .ref a0), (1, .int (0 : Int32))]) (List.forall_mem_cons.mpr ⟨rfl, (List.forall_mem_cons.mpr ⟨rfl, zs_nil⟩)⟩) ?_
      refine zt_X17_tick_L21 hX hr hR hd (res := r) (out := out) a0 ?_ ?_ N _ _ g
      · intro o ho
        subst ho
        exact Option.some.inj h
      · intro  S12 hx
        subst hx
        try dsimp only at h
        refine zw_iconst (v := (0 : Int32)) hX dX17_tick_45 (by decide) ?_
        refine zw_istore_n hX dX17_tick_46 (by decide) ?_
        obtain ⟨r, g, h⟩ := zb_some h
        refine zw_sub (lv' := [(0, .ref a0), (1, .int (0 : Int32))]) (List.forall_mem_cons.mpr ⟨rfl, (List.forall_mem_cons.mpr ⟨rfl, zs_nil⟩)⟩) ?_
        refine zt_X17_tick_L47 hX hr hR hd (res := r) (out := out) a0 ?_ ?_ N _ _ g
        · intro o ho
          subst ho
          exact Option.some.inj h
        · intro  S36 hx
          subst hx
          try dsimp only at h
          refine zw_aload_n hX dX17_tick_145 rfl ?_
          refine zw_aload_n hX dX17_tick_146 rfl ?_
          obtain ⟨b37, g, h⟩ := zb_some h
          refine zw_getr hX zl_X17_56 dX17_tick_147 g ?_
          refine zw_iconst (v := (0 : Int32)) hX dX17_tick_150 (by decide) ?_
          obtain ⟨v38, g, h⟩ := zb_some h
          refine zw_xi hX dX17_tick_151 g ?_
          refine zw_sipush (v := (20000 : Int32)) hX dX17_tick_152 (by decide) ?_
          refine zw_icmp_lt (tgt := 162) hX dX17_tick_155 (by decide) (fun c155 => ?_) (fun c155 => ?_)
          · rw [if_pos c155] at h
            refine zw_iconst (v := (0 : Int32)) hX dX17_tick_162 (by decide) ?_
            obtain ⟨S39, g, h⟩ := zb_some h
            refine zw_putv hX zl_X17_108 zt_17_18 dX17_tick_163 rfl (by decide) g ?_
            obtain rfl := Option.some.inj h
            exact zw_vret hX hr dX17_tick_166 ⟨rfl, rfl⟩
          · rw [if_neg c155] at h
            refine zw_iconst (v := (1 : Int32)) hX dX17_tick_158 (by decide) ?_
            refine zw_goto (tgt := 163) hX dX17_tick_159 (by decide) ?_
            obtain ⟨S40, g, h⟩ := zb_some h
            refine zw_putv hX zl_X17_108 zt_17_18 dX17_tick_163 rfl (by decide) g ?_
            obtain rfl := Option.some.inj h
            exact zw_vret hX hr dX17_tick_166 ⟨rfl, rfl⟩
    · rw [if_neg c15] at h
      obtain rfl := Option.some.inj h
      exact zw_vret hX hr dX17_tick_18 ⟨rfl, rfl⟩
def zf_X18_thrown (N : Nat) (a0 : Nat) (S : zm_S) : Option (Int32 × zm_S) := (zg_i S a0 18 0).bind (fun v1 => some (v1, S))
set_option maxHeartbeats 4000000 in
set_option maxRecDepth 100000 in
theorem zt_X18_thrown {l : Launch} {V : zm_V} {N : Nat} {S : zm_S} {out : (Int32 × zm_S)} {d : Nat} {a0 : Nat} (hd : 1 ≤ d) (h : zf_X18_thrown N a0 S = some out) : zm_Met l zk_E V yX18_thrown (.code yX18_thrown cX18_thrown 1 (some .int)) d [.ref a0] S 0 0 (zo_i out) zo_x := by
  refine zm_of (by decide +kernel) (Nat.le_of_ble_eq_true rfl) ?_
  intro p e R s m args below meth c hRR hX hr hxt
  have hR : R.frames = d ∧ R.locals = 64 * d := by rw [hRR]; exact ⟨rfl, rfl⟩
  have hX : zm_X p R s m args meth c RX18 "thrown" cX18_thrown 1 zk_E V 0 0 := hX
  unfold zf_X18_thrown at h
  refine zw_sub (lv' := [(0, .ref a0)]) (List.forall_mem_cons.mpr ⟨rfl, zs_nil⟩) ?_
  refine zw_aload_n hX dX18_thrown_0 rfl ?_
  obtain ⟨v1, g, h⟩ := zb_some h
  refine zw_geti hX zl_X18_184 dX18_thrown_1 g ?_
  obtain rfl := Option.some.inj h
  exact zw_iret hX hr dX18_thrown_4 rfl ⟨rfl, rfl⟩
def zf_X18_goes_J18 (N : Nat) (a0 : Nat) (t0 : Nat) (t1 : Int32) (S : zm_S) : Option (Int32 × zm_S) := (zp S t0 18 0 (.int t1)).bind (fun S1 => (zg_i S1 a0 18 0).bind (fun v2 => if v2 = 0 then some ((1 : Int32), S1) else some ((0 : Int32), S1)))
set_option maxHeartbeats 4000000 in
set_option maxRecDepth 100000 in
theorem zt_X18_goes_J18 {p : Program} {l : Launch} {e : Env} {R : Room} {s : State} {m : MethodId} {args : Array Value} {below : List Frame} {meth : Method} {c : Code} {V : zm_V} {mc ms d rc rs : Nat} (hX : zm_X p R s m args meth c RX18 "goes" cX18_goes 3 zk_E V mc ms) (hr : meth.sig.returnType = (some .boolean)) (hR : R.frames = d ∧ R.locals = 64 * d) (hd : 1 ≤ d) {N : Nat} {a0 : Nat} {t0 : Nat} {t1 : Int32} {out : (Int32 × zm_S)} {S : zm_S} (h : zf_X18_goes_J18 N a0 t0 t1 S = some out) : zw p l e R s m args below meth c (vx_MQ below (zm_Qc zk_E V (zo_i out)) (zm_XC zk_E V zo_x) args s mc ms (fun q => V.2.2.2.1 ≤ q)) 3 zk_E V mc ms 18 [(0, .ref a0)] [.int t1, .ref t0] S rc rs := by
  unfold zf_X18_goes_J18 at h
  obtain ⟨S1, g, h⟩ := zb_some h
  refine zw_putv hX zl_X18_184 zt_18_0 dX18_goes_18 rfl rfl g ?_
  refine zw_aload_n hX dX18_goes_21 rfl ?_
  obtain ⟨v2, g, h⟩ := zb_some h
  refine zw_geti hX zl_X18_184 dX18_goes_22 g ?_
  refine zw_if_ne (tgt := 32) hX dX18_goes_25 (by decide) (fun c25 => ?_) (fun c25 => ?_)
  · rw [if_neg c25] at h
    refine zw_iconst (v := (0 : Int32)) hX dX18_goes_32 (by decide) ?_
    obtain rfl := Option.some.inj h
    exact zw_iret hX hr dX18_goes_33 rfl ⟨rfl, rfl⟩
  · rw [if_pos c25] at h
    refine zw_iconst (v := (1 : Int32)) hX dX18_goes_28 (by decide) ?_
    refine zw_goto (tgt := 33) hX dX18_goes_29 (by decide) ?_
    obtain rfl := Option.some.inj h
    exact zw_iret hX hr dX18_goes_33 rfl ⟨rfl, rfl⟩
def zf_X18_goes (N : Nat) (a0 : Nat) (i1 : Int32) (i2 : Int32) (S : zm_S) : Option (Int32 × zm_S) := if i1 = 0 then zf_X18_goes_J18 N a0 a0 (1 : Int32) S else if i2 = 0 then zf_X18_goes_J18 N a0 a0 (2 : Int32) S else zf_X18_goes_J18 N a0 a0 (0 : Int32) S
set_option maxHeartbeats 4000000 in
set_option maxRecDepth 100000 in
theorem zt_X18_goes {l : Launch} {V : zm_V} {N : Nat} {S : zm_S} {out : (Int32 × zm_S)} {d : Nat} {a0 : Nat} {i1 : Int32} {i2 : Int32} (hd : 1 ≤ d) (h : zf_X18_goes N a0 i1 i2 S = some out) : zm_Met l zk_E V yX18_goes (.code yX18_goes cX18_goes 3 (some .boolean)) d [.ref a0, .int i1, .int i2] S 0 0 (zo_i out) zo_x := by
  refine zm_of (by decide +kernel) (Nat.le_of_ble_eq_true rfl) ?_
  intro p e R s m args below meth c hRR hX hr hxt
  have hR : R.frames = d ∧ R.locals = 64 * d := by rw [hRR]; exact ⟨rfl, rfl⟩
  have hX : zm_X p R s m args meth c RX18 "goes" cX18_goes 3 zk_E V 0 0 := hX
  unfold zf_X18_goes at h
  refine zw_sub (lv' := [(0, .ref a0), (1, .int i1), (2, .int i2)]) (List.forall_mem_cons.mpr ⟨rfl, (List.forall_mem_cons.mpr ⟨rfl, (List.forall_mem_cons.mpr ⟨rfl, zs_nil⟩)⟩)⟩) ?_
  refine zw_aload_n hX dX18_goes_0 rfl ?_
  refine zw_iload_n hX dX18_goes_1 rfl ?_
  refine zw_if_ne (tgt := 9) hX dX18_goes_2 (by decide) (fun c2 => ?_) (fun c2 => ?_)
  · rw [if_neg c2] at h
    refine zw_iload_n hX dX18_goes_9 rfl ?_
    refine zw_if_ne (tgt := 17) hX dX18_goes_10 (by decide) (fun c10 => ?_) (fun c10 => ?_)
    · rw [if_neg c10] at h
      refine zw_iconst (v := (0 : Int32)) hX dX18_goes_17 (by decide) ?_
      refine zw_sub (lv' := [(0, .ref a0)]) (List.forall_mem_cons.mpr ⟨rfl, zs_nil⟩) ?_
      exact zt_X18_goes_J18 hX hr hR hd h
    · rw [if_pos c10] at h
      refine zw_iconst (v := (2 : Int32)) hX dX18_goes_13 (by decide) ?_
      refine zw_goto (tgt := 18) hX dX18_goes_14 (by decide) ?_
      refine zw_sub (lv' := [(0, .ref a0)]) (List.forall_mem_cons.mpr ⟨rfl, zs_nil⟩) ?_
      exact zt_X18_goes_J18 hX hr hR hd h
  · rw [if_pos c2] at h
    refine zw_iconst (v := (1 : Int32)) hX dX18_goes_5 (by decide) ?_
    refine zw_goto (tgt := 18) hX dX18_goes_6 (by decide) ?_
    refine zw_sub (lv' := [(0, .ref a0)]) (List.forall_mem_cons.mpr ⟨rfl, zs_nil⟩) ?_
    exact zt_X18_goes_J18 hX hr hR hd h
def zf_X18_stays (N : Nat) (a0 : Nat) (i1 : Int32) (S : zm_S) : Option (Int32 × zm_S) := if i1 = 0 then (zp S a0 18 0 (.int (1 : Int32))).bind (fun S1 => if i1 = 0 ∨ i1 = 1 then some (i1, S1) else none) else (zp S a0 18 0 (.int (0 : Int32))).bind (fun S2 => if i1 = 0 ∨ i1 = 1 then some (i1, S2) else none)
set_option maxHeartbeats 4000000 in
set_option maxRecDepth 100000 in
theorem zt_X18_stays {l : Launch} {V : zm_V} {N : Nat} {S : zm_S} {out : (Int32 × zm_S)} {d : Nat} {a0 : Nat} {i1 : Int32} (hd : 1 ≤ d) (h : zf_X18_stays N a0 i1 S = some out) : zm_Met l zk_E V yX18_stays (.code yX18_stays cX18_stays 2 (some .boolean)) d [.ref a0, .int i1] S 0 0 (zo_i out) zo_x := by
  refine zm_of (by decide +kernel) (Nat.le_of_ble_eq_true rfl) ?_
  intro p e R s m args below meth c hRR hX hr hxt
  have hR : R.frames = d ∧ R.locals = 64 * d := by rw [hRR]; exact ⟨rfl, rfl⟩
  have hX : zm_X p R s m args meth c RX18 "stays" cX18_stays 2 zk_E V 0 0 := hX
  unfold zf_X18_stays at h
  refine zw_sub (lv' := [(0, .ref a0), (1, .int i1)]) (List.forall_mem_cons.mpr ⟨rfl, (List.forall_mem_cons.mpr ⟨rfl, zs_nil⟩)⟩) ?_
  refine zw_aload_n hX dX18_stays_0 rfl ?_
  refine zw_iload_n hX dX18_stays_1 rfl ?_
  refine zw_if_eq (tgt := 9) hX dX18_stays_2 (by decide) (fun c2 => ?_) (fun c2 => ?_)
  · rw [if_pos c2] at h
    refine zw_iconst (v := (1 : Int32)) hX dX18_stays_9 (by decide) ?_
    obtain ⟨S1, g, h⟩ := zb_some h
    refine zw_putv hX zl_X18_184 zt_18_0 dX18_stays_10 rfl rfl g ?_
    refine zw_iload_n hX dX18_stays_13 rfl ?_
    by_cases cz : i1 = 0 ∨ i1 = 1
    · rw [if_pos cz] at h
      obtain rfl := Option.some.inj h
      exact zw_iret hX hr dX18_stays_14 (zn_z cz) ⟨rfl, rfl⟩
    · rw [if_neg cz] at h
      cases h
  · rw [if_neg c2] at h
    refine zw_iconst (v := (0 : Int32)) hX dX18_stays_5 (by decide) ?_
    refine zw_goto (tgt := 10) hX dX18_stays_6 (by decide) ?_
    obtain ⟨S2, g, h⟩ := zb_some h
    refine zw_putv hX zl_X18_184 zt_18_0 dX18_stays_10 rfl rfl g ?_
    refine zw_iload_n hX dX18_stays_13 rfl ?_
    by_cases cz : i1 = 0 ∨ i1 = 1
    · rw [if_pos cz] at h
      obtain rfl := Option.some.inj h
      exact zw_iret hX hr dX18_stays_14 (zn_z cz) ⟨rfl, rfl⟩
    · rw [if_neg cz] at h
      cases h
def zf_X18_isIn (N : Nat) (i0 : Int32) (i1 : Int32) (S : zm_S) : Option (Int32 × zm_S) := if i0 < 0 then some ((0 : Int32), S) else if i1 ≤ i0 then some ((0 : Int32), S) else some ((1 : Int32), S)
set_option maxHeartbeats 4000000 in
set_option maxRecDepth 100000 in
theorem zt_X18_isIn {l : Launch} {V : zm_V} {N : Nat} {S : zm_S} {out : (Int32 × zm_S)} {d : Nat} {i0 : Int32} {i1 : Int32} (hd : 1 ≤ d) (h : zf_X18_isIn N i0 i1 S = some out) : zm_Met l zk_E V yX18_isIn (.code yX18_isIn cX18_isIn 2 (some .boolean)) d [.int i0, .int i1] S 0 0 (zo_i out) zo_x := by
  refine zm_of (by decide +kernel) (Nat.le_of_ble_eq_true rfl) ?_
  intro p e R s m args below meth c hRR hX hr hxt
  have hR : R.frames = d ∧ R.locals = 64 * d := by rw [hRR]; exact ⟨rfl, rfl⟩
  have hX : zm_X p R s m args meth c RX18 "isIn" cX18_isIn 2 zk_E V 0 0 := hX
  unfold zf_X18_isIn at h
  refine zw_sub (lv' := [(0, .int i0), (1, .int i1)]) (List.forall_mem_cons.mpr ⟨rfl, (List.forall_mem_cons.mpr ⟨rfl, zs_nil⟩)⟩) ?_
  refine zw_iload_n hX dX18_isIn_0 rfl ?_
  refine zw_if_lt (tgt := 13) hX dX18_isIn_1 (by decide) (fun c1 => ?_) (fun c1 => ?_)
  · rw [if_pos c1] at h
    refine zw_iconst (v := (0 : Int32)) hX dX18_isIn_13 (by decide) ?_
    obtain rfl := Option.some.inj h
    exact zw_iret hX hr dX18_isIn_14 rfl ⟨rfl, rfl⟩
  · rw [if_neg c1] at h
    refine zw_iload_n hX dX18_isIn_4 rfl ?_
    refine zw_iload_n hX dX18_isIn_5 rfl ?_
    refine zw_icmp_ge (tgt := 13) hX dX18_isIn_6 (by decide) (fun c6 => ?_) (fun c6 => ?_)
    · rw [if_pos c6] at h
      refine zw_iconst (v := (0 : Int32)) hX dX18_isIn_13 (by decide) ?_
      obtain rfl := Option.some.inj h
      exact zw_iret hX hr dX18_isIn_14 rfl ⟨rfl, rfl⟩
    · rw [if_neg c6] at h
      refine zw_iconst (v := (1 : Int32)) hX dX18_isIn_9 (by decide) ?_
      refine zw_goto (tgt := 14) hX dX18_isIn_10 (by decide) ?_
      obtain rfl := Option.some.inj h
      exact zw_iret hX hr dX18_isIn_14 rfl ⟨rfl, rfl⟩
def zf_X18_line_J83 (N : Nat) (a0 : Nat) (i1 : Int32) (i2 : Int32) (i3 : Int32) (i4 : Int32) (t0 : Nat) (t1 : Int32) (t2 : Int32) (S : zm_S) : Option (Int32 × zm_S) := (zi S t0 18).bind (fun _ => (zf_X18_goes N t0 t1 t2 S).bind (fun r7 => if r7.1 = 0 then some ((0 : Int32), r7.2) else (zg_r r7.2 a0 18 3).bind (fun b8 => (zi r7.2 b8 16).bind (fun _ => (zf_X16_line N b8 i1 i2 i3 i4 r7.2).bind (fun r11 => some (r11.1, r11.2))))))
set_option maxHeartbeats 4000000 in
set_option maxRecDepth 100000 in
theorem zt_X18_line_J83 {p : Program} {l : Launch} {e : Env} {R : Room} {s : State} {m : MethodId} {args : Array Value} {below : List Frame} {meth : Method} {c : Code} {V : zm_V} {mc ms d rc rs : Nat} (hX : zm_X p R s m args meth c RX18 "line" cX18_line 6 zk_E V mc ms) (hr : meth.sig.returnType = (some .int)) (hR : R.frames = d ∧ R.locals = 64 * d) (hd : 5 ≤ d) {N : Nat} {a0 : Nat} {i1 : Int32} {i2 : Int32} {i3 : Int32} {i4 : Int32} {t0 : Nat} {t1 : Int32} {t2 : Int32} {out : (Int32 × zm_S)} {S : zm_S} (h : zf_X18_line_J83 N a0 i1 i2 i3 i4 t0 t1 t2 S = some out) : zw p l e R s m args below meth c (vx_MQ below (zm_Qc zk_E V (zo_i out)) (zm_XC zk_E V zo_x) args s mc ms (fun q => V.2.2.2.1 ≤ q)) 6 zk_E V mc ms 83 [(0, .ref a0), (1, .int i1), (2, .int i2), (3, .int i3), (4, .int i4)] [.int t2, .int t1, .ref t0] S rc rs := by
  unfold zf_X18_line_J83 at h
  obtain ⟨_, gi, h⟩ := zb_some h
  obtain ⟨r7, g, h⟩ := zb_some h
  refine zc_Vi (as := [.int t1, .int t2]) hX gi (zt_X18_goes (d := d - 1) (by omega) g) zl_X18_199 rfl dX18_line_83 ⟨rfl, rfl, Nat.le_of_ble_eq_true rfl⟩ ⟨by omega, by omega⟩ ?_
  refine zw_if_eq (tgt := 104) hX dX18_line_86 (by decide) (fun c86 => ?_) (fun c86 => ?_)
  · rw [if_pos c86] at h
    refine zw_iconst (v := (0 : Int32)) hX dX18_line_104 (by decide) ?_
    obtain rfl := Option.some.inj h
    exact zw_iret hX hr dX18_line_105 rfl ⟨rfl, rfl⟩
  · rw [if_neg c86] at h
    refine zw_aload_n hX dX18_line_89 rfl ?_
    obtain ⟨b8, g, h⟩ := zb_some h
    refine zw_getr hX zl_X18_12 dX18_line_90 g ?_
    refine zw_iload_n hX dX18_line_93 rfl ?_
    refine zw_iload_n hX dX18_line_94 rfl ?_
    refine zw_iload_n hX dX18_line_95 rfl ?_
    refine zw_iload hX dX18_line_96 rfl ?_
    obtain ⟨_, gi, h⟩ := zb_some h
    obtain ⟨r11, g, h⟩ := zb_some h
    refine zc_Vi (as := [.int i1, .int i2, .int i3, .int i4]) hX gi (zt_X16_line (d := d - 1) (by omega) g) zl_X18_203 rfl dX18_line_98 ⟨rfl, rfl, Nat.le_of_ble_eq_true rfl⟩ ⟨by omega, by omega⟩ ?_
    refine zw_goto (tgt := 105) hX dX18_line_101 (by decide) ?_
    obtain rfl := Option.some.inj h
    exact zw_iret hX hr dX18_line_105 rfl ⟨rfl, rfl⟩
def zf_X18_line_J82 (N : Nat) (a0 : Nat) (i1 : Int32) (i2 : Int32) (i3 : Int32) (i4 : Int32) (t0 : Nat) (t1 : Int32) (S : zm_S) : Option (Int32 × zm_S) := zf_X18_line_J83 N a0 i1 i2 i3 i4 t0 t1 (0 : Int32) S
set_option maxHeartbeats 4000000 in
set_option maxRecDepth 100000 in
theorem zt_X18_line_J82 {p : Program} {l : Launch} {e : Env} {R : Room} {s : State} {m : MethodId} {args : Array Value} {below : List Frame} {meth : Method} {c : Code} {V : zm_V} {mc ms d rc rs : Nat} (hX : zm_X p R s m args meth c RX18 "line" cX18_line 6 zk_E V mc ms) (hr : meth.sig.returnType = (some .int)) (hR : R.frames = d ∧ R.locals = 64 * d) (hd : 5 ≤ d) {N : Nat} {a0 : Nat} {i1 : Int32} {i2 : Int32} {i3 : Int32} {i4 : Int32} {t0 : Nat} {t1 : Int32} {out : (Int32 × zm_S)} {S : zm_S} (h : zf_X18_line_J82 N a0 i1 i2 i3 i4 t0 t1 S = some out) : zw p l e R s m args below meth c (vx_MQ below (zm_Qc zk_E V (zo_i out)) (zm_XC zk_E V zo_x) args s mc ms (fun q => V.2.2.2.1 ≤ q)) 6 zk_E V mc ms 82 [(0, .ref a0), (1, .int i1), (2, .int i2), (3, .int i3), (4, .int i4)] [.int t1, .ref t0] S rc rs := by
  unfold zf_X18_line_J82 at h
  refine zw_iconst (v := (0 : Int32)) hX dX18_line_82 (by decide) ?_
  refine zw_sub (lv' := [(0, .ref a0), (1, .int i1), (2, .int i2), (3, .int i3), (4, .int i4)]) (List.forall_mem_cons.mpr ⟨rfl, (List.forall_mem_cons.mpr ⟨rfl, (List.forall_mem_cons.mpr ⟨rfl, (List.forall_mem_cons.mpr ⟨rfl, (List.forall_mem_cons.mpr ⟨rfl, zs_nil⟩)⟩)⟩)⟩)⟩) ?_
  exact zt_X18_line_J83 hX hr hR hd h
def zf_X18_line_J54 (N : Nat) (a0 : Nat) (i1 : Int32) (i2 : Int32) (i3 : Int32) (i4 : Int32) (t0 : Int32) (S : zm_S) : Option (Int32 × zm_S) := (zg_i S a0 18 1).bind (fun v4 => if v4 = 0 then (zg_r S a0 18 3).bind (fun b12 => (zg_i S b12 16 0).bind (fun v13 => if (20 : Int32) ≤ v13 then zf_X18_line_J82 N a0 i1 i2 i3 i4 a0 t0 S else zf_X18_line_J83 N a0 i1 i2 i3 i4 a0 t0 (1 : Int32) S)) else zf_X18_line_J82 N a0 i1 i2 i3 i4 a0 t0 S)
set_option maxHeartbeats 4000000 in
set_option maxRecDepth 100000 in
theorem zt_X18_line_J54 {p : Program} {l : Launch} {e : Env} {R : Room} {s : State} {m : MethodId} {args : Array Value} {below : List Frame} {meth : Method} {c : Code} {V : zm_V} {mc ms d rc rs : Nat} (hX : zm_X p R s m args meth c RX18 "line" cX18_line 6 zk_E V mc ms) (hr : meth.sig.returnType = (some .int)) (hR : R.frames = d ∧ R.locals = 64 * d) (hd : 5 ≤ d) {N : Nat} {a0 : Nat} {i1 : Int32} {i2 : Int32} {i3 : Int32} {i4 : Int32} {t0 : Int32} {out : (Int32 × zm_S)} {S : zm_S} (h : zf_X18_line_J54 N a0 i1 i2 i3 i4 t0 S = some out) : zw p l e R s m args below meth c (vx_MQ below (zm_Qc zk_E V (zo_i out)) (zm_XC zk_E V zo_x) args s mc ms (fun q => V.2.2.2.1 ≤ q)) 6 zk_E V mc ms 54 [(0, .ref a0), (1, .int i1), (2, .int i2), (3, .int i3), (4, .int i4)] [.int t0] S rc rs := by
  unfold zf_X18_line_J54 at h
  refine zw_istore hX dX18_line_54 (by decide) ?_
  refine zw_aload_n hX dX18_line_56 rfl ?_
  refine zw_iload hX dX18_line_57 rfl ?_
  refine zw_aload_n hX dX18_line_59 rfl ?_
  obtain ⟨v4, g, h⟩ := zb_some h
  refine zw_geti hX zl_X18_192 dX18_line_60 g ?_
  refine zw_if_ne (tgt := 82) hX dX18_line_63 (by decide) (fun c63 => ?_) (fun c63 => ?_)
  · rw [if_neg c63] at h
    refine zw_sub (lv' := [(0, .ref a0), (1, .int i1), (2, .int i2), (3, .int i3), (4, .int i4)]) (List.forall_mem_cons.mpr ⟨rfl, (List.forall_mem_cons.mpr ⟨rfl, (List.forall_mem_cons.mpr ⟨rfl, (List.forall_mem_cons.mpr ⟨rfl, (List.forall_mem_cons.mpr ⟨rfl, zs_nil⟩)⟩)⟩)⟩)⟩) ?_
    exact zt_X18_line_J82 hX hr hR hd h
  · rw [if_pos c63] at h
    refine zw_aload_n hX dX18_line_66 rfl ?_
    obtain ⟨b12, g, h⟩ := zb_some h
    refine zw_getr hX zl_X18_12 dX18_line_67 g ?_
    obtain ⟨v13, g, h⟩ := zb_some h
    refine zw_geti hX zl_X18_196 dX18_line_70 g ?_
    refine zw_bipush (v := (20 : Int32)) hX dX18_line_73 (by decide) ?_
    refine zw_icmp_ge (tgt := 82) hX dX18_line_75 (by decide) (fun c75 => ?_) (fun c75 => ?_)
    · rw [if_pos c75] at h
      refine zw_sub (lv' := [(0, .ref a0), (1, .int i1), (2, .int i2), (3, .int i3), (4, .int i4)]) (List.forall_mem_cons.mpr ⟨rfl, (List.forall_mem_cons.mpr ⟨rfl, (List.forall_mem_cons.mpr ⟨rfl, (List.forall_mem_cons.mpr ⟨rfl, (List.forall_mem_cons.mpr ⟨rfl, zs_nil⟩)⟩)⟩)⟩)⟩) ?_
      exact zt_X18_line_J82 hX hr hR hd h
    · rw [if_neg c75] at h
      refine zw_iconst (v := (1 : Int32)) hX dX18_line_78 (by decide) ?_
      refine zw_goto (tgt := 83) hX dX18_line_79 (by decide) ?_
      refine zw_sub (lv' := [(0, .ref a0), (1, .int i1), (2, .int i2), (3, .int i3), (4, .int i4)]) (List.forall_mem_cons.mpr ⟨rfl, (List.forall_mem_cons.mpr ⟨rfl, (List.forall_mem_cons.mpr ⟨rfl, (List.forall_mem_cons.mpr ⟨rfl, (List.forall_mem_cons.mpr ⟨rfl, zs_nil⟩)⟩)⟩)⟩)⟩) ?_
      exact zt_X18_line_J83 hX hr hR hd h
def zf_X18_line_J53 (N : Nat) (a0 : Nat) (i1 : Int32) (i2 : Int32) (i3 : Int32) (i4 : Int32) (S : zm_S) : Option (Int32 × zm_S) := zf_X18_line_J54 N a0 i1 i2 i3 i4 (0 : Int32) S
set_option maxHeartbeats 4000000 in
set_option maxRecDepth 100000 in
theorem zt_X18_line_J53 {p : Program} {l : Launch} {e : Env} {R : Room} {s : State} {m : MethodId} {args : Array Value} {below : List Frame} {meth : Method} {c : Code} {V : zm_V} {mc ms d rc rs : Nat} (hX : zm_X p R s m args meth c RX18 "line" cX18_line 6 zk_E V mc ms) (hr : meth.sig.returnType = (some .int)) (hR : R.frames = d ∧ R.locals = 64 * d) (hd : 5 ≤ d) {N : Nat} {a0 : Nat} {i1 : Int32} {i2 : Int32} {i3 : Int32} {i4 : Int32} {out : (Int32 × zm_S)} {S : zm_S} (h : zf_X18_line_J53 N a0 i1 i2 i3 i4 S = some out) : zw p l e R s m args below meth c (vx_MQ below (zm_Qc zk_E V (zo_i out)) (zm_XC zk_E V zo_x) args s mc ms (fun q => V.2.2.2.1 ≤ q)) 6 zk_E V mc ms 53 [(0, .ref a0), (1, .int i1), (2, .int i2), (3, .int i3), (4, .int i4)] [] S rc rs := by
  unfold zf_X18_line_J53 at h
  refine zw_iconst (v := (0 : Int32)) hX dX18_line_53 (by decide) ?_
  refine zw_sub (lv' := [(0, .ref a0), (1, .int i1), (2, .int i2), (3, .int i3), (4, .int i4)]) (List.forall_mem_cons.mpr ⟨rfl, (List.forall_mem_cons.mpr ⟨rfl, (List.forall_mem_cons.mpr ⟨rfl, (List.forall_mem_cons.mpr ⟨rfl, (List.forall_mem_cons.mpr ⟨rfl, zs_nil⟩)⟩)⟩)⟩)⟩) ?_
  exact zt_X18_line_J54 hX hr hR hd h
def zf_X18_line_J49 (N : Nat) (a0 : Nat) (i1 : Int32) (i2 : Int32) (i3 : Int32) (i4 : Int32) (S : zm_S) : Option (Int32 × zm_S) := zf_X18_line_J54 N a0 i1 i2 i3 i4 (1 : Int32) S
set_option maxHeartbeats 4000000 in
set_option maxRecDepth 100000 in
theorem zt_X18_line_J49 {p : Program} {l : Launch} {e : Env} {R : Room} {s : State} {m : MethodId} {args : Array Value} {below : List Frame} {meth : Method} {c : Code} {V : zm_V} {mc ms d rc rs : Nat} (hX : zm_X p R s m args meth c RX18 "line" cX18_line 6 zk_E V mc ms) (hr : meth.sig.returnType = (some .int)) (hR : R.frames = d ∧ R.locals = 64 * d) (hd : 5 ≤ d) {N : Nat} {a0 : Nat} {i1 : Int32} {i2 : Int32} {i3 : Int32} {i4 : Int32} {out : (Int32 × zm_S)} {S : zm_S} (h : zf_X18_line_J49 N a0 i1 i2 i3 i4 S = some out) : zw p l e R s m args below meth c (vx_MQ below (zm_Qc zk_E V (zo_i out)) (zm_XC zk_E V zo_x) args s mc ms (fun q => V.2.2.2.1 ≤ q)) 6 zk_E V mc ms 49 [(0, .ref a0), (1, .int i1), (2, .int i2), (3, .int i3), (4, .int i4)] [] S rc rs := by
  unfold zf_X18_line_J49 at h
  refine zw_iconst (v := (1 : Int32)) hX dX18_line_49 (by decide) ?_
  refine zw_goto (tgt := 54) hX dX18_line_50 (by decide) ?_
  refine zw_sub (lv' := [(0, .ref a0), (1, .int i1), (2, .int i2), (3, .int i3), (4, .int i4)]) (List.forall_mem_cons.mpr ⟨rfl, (List.forall_mem_cons.mpr ⟨rfl, (List.forall_mem_cons.mpr ⟨rfl, (List.forall_mem_cons.mpr ⟨rfl, (List.forall_mem_cons.mpr ⟨rfl, zs_nil⟩)⟩)⟩)⟩)⟩) ?_
  exact zt_X18_line_J54 hX hr hR hd h
def zf_X18_line (N : Nat) (a0 : Nat) (i1 : Int32) (i2 : Int32) (i3 : Int32) (i4 : Int32) (S : zm_S) : Option (Int32 × zm_S) := (zf_X16_isIn N i1 S).bind (fun r3 => if r3.1 = 0 then zf_X18_line_J53 N a0 i1 i2 i3 i4 r3.2 else (zf_X16_isIn N i2 r3.2).bind (fun r16 => if r16.1 = 0 then zf_X18_line_J53 N a0 i1 i2 i3 i4 r16.2 else (zf_X16_isIn N i3 r16.2).bind (fun r19 => if r19.1 = 0 then zf_X18_line_J53 N a0 i1 i2 i3 i4 r19.2 else (zf_X16_isIn N i4 r19.2).bind (fun r22 => if r22.1 = 0 then zf_X18_line_J53 N a0 i1 i2 i3 i4 r22.2 else if i1 = i3 then if i2 = i4 then zf_X18_line_J53 N a0 i1 i2 i3 i4 r22.2 else zf_X18_line_J49 N a0 i1 i2 i3 i4 r22.2 else if i2 = i4 then zf_X18_line_J49 N a0 i1 i2 i3 i4 r22.2 else zf_X18_line_J53 N a0 i1 i2 i3 i4 r22.2))))
set_option maxHeartbeats 4000000 in
set_option maxRecDepth 100000 in
theorem zt_X18_line {l : Launch} {V : zm_V} {N : Nat} {S : zm_S} {out : (Int32 × zm_S)} {d : Nat} {a0 : Nat} {i1 : Int32} {i2 : Int32} {i3 : Int32} {i4 : Int32} (hd : 5 ≤ d) (h : zf_X18_line N a0 i1 i2 i3 i4 S = some out) : zm_Met l zk_E V yX18_line (.code yX18_line cX18_line 6 (some .int)) d [.ref a0, .int i1, .int i2, .int i3, .int i4] S 0 0 (zo_i out) zo_x := by
  refine zm_of (by decide +kernel) (Nat.le_of_ble_eq_true rfl) ?_
  intro p e R s m args below meth c hRR hX hr hxt
  have hR : R.frames = d ∧ R.locals = 64 * d := by rw [hRR]; exact ⟨rfl, rfl⟩
  have hX : zm_X p R s m args meth c RX18 "line" cX18_line 6 zk_E V 0 0 := hX
  unfold zf_X18_line at h
  refine zw_sub (lv' := [(0, .ref a0), (1, .int i1), (2, .int i2), (3, .int i3), (4, .int i4)]) (List.forall_mem_cons.mpr ⟨rfl, (List.forall_mem_cons.mpr ⟨rfl, (List.forall_mem_cons.mpr ⟨rfl, (List.forall_mem_cons.mpr ⟨rfl, (List.forall_mem_cons.mpr ⟨rfl, zs_nil⟩)⟩)⟩)⟩)⟩) ?_
  refine zw_iload_n hX dX18_line_0 rfl ?_
  obtain ⟨r3, g, h⟩ := zb_some h
  refine zc_Si (as := [.int i1]) hX (zt_X16_isIn (d := d - 1) (by omega) g) zl_X18_188 dX18_line_1 ⟨rfl, rfl, Nat.le_of_ble_eq_true rfl⟩ ⟨by omega, by omega⟩ ?_
  refine zw_if_eq (tgt := 53) hX dX18_line_4 (by decide) (fun c4 => ?_) (fun c4 => ?_)
  · rw [if_pos c4] at h
    refine zw_sub (lv' := [(0, .ref a0), (1, .int i1), (2, .int i2), (3, .int i3), (4, .int i4)]) (List.forall_mem_cons.mpr ⟨rfl, (List.forall_mem_cons.mpr ⟨rfl, (List.forall_mem_cons.mpr ⟨rfl, (List.forall_mem_cons.mpr ⟨rfl, (List.forall_mem_cons.mpr ⟨rfl, zs_nil⟩)⟩)⟩)⟩)⟩) ?_
    exact zt_X18_line_J53 hX hr hR hd h
  · rw [if_neg c4] at h
    refine zw_iload_n hX dX18_line_7 rfl ?_
    obtain ⟨r16, g, h⟩ := zb_some h
    refine zc_Si (as := [.int i2]) hX (zt_X16_isIn (d := d - 1) (by omega) g) zl_X18_188 dX18_line_8 ⟨rfl, rfl, Nat.le_of_ble_eq_true rfl⟩ ⟨by omega, by omega⟩ ?_
    refine zw_if_eq (tgt := 53) hX dX18_line_11 (by decide) (fun c11 => ?_) (fun c11 => ?_)
    · rw [if_pos c11] at h
      refine zw_sub (lv' := [(0, .ref a0), (1, .int i1), (2, .int i2), (3, .int i3), (4, .int i4)]) (List.forall_mem_cons.mpr ⟨rfl, (List.forall_mem_cons.mpr ⟨rfl, (List.forall_mem_cons.mpr ⟨rfl, (List.forall_mem_cons.mpr ⟨rfl, (List.forall_mem_cons.mpr ⟨rfl, zs_nil⟩)⟩)⟩)⟩)⟩) ?_
      exact zt_X18_line_J53 hX hr hR hd h
    · rw [if_neg c11] at h
      refine zw_iload_n hX dX18_line_14 rfl ?_
      obtain ⟨r19, g, h⟩ := zb_some h
      refine zc_Si (as := [.int i3]) hX (zt_X16_isIn (d := d - 1) (by omega) g) zl_X18_188 dX18_line_15 ⟨rfl, rfl, Nat.le_of_ble_eq_true rfl⟩ ⟨by omega, by omega⟩ ?_
      refine zw_if_eq (tgt := 53) hX dX18_line_18 (by decide) (fun c18 => ?_) (fun c18 => ?_)
      · rw [if_pos c18] at h
        refine zw_sub (lv' := [(0, .ref a0), (1, .int i1), (2, .int i2), (3, .int i3), (4, .int i4)]) (List.forall_mem_cons.mpr ⟨rfl, (List.forall_mem_cons.mpr ⟨rfl, (List.forall_mem_cons.mpr ⟨rfl, (List.forall_mem_cons.mpr ⟨rfl, (List.forall_mem_cons.mpr ⟨rfl, zs_nil⟩)⟩)⟩)⟩)⟩) ?_
        exact zt_X18_line_J53 hX hr hR hd h
      · rw [if_neg c18] at h
        refine zw_iload hX dX18_line_21 rfl ?_
        obtain ⟨r22, g, h⟩ := zb_some h
        refine zc_Si (as := [.int i4]) hX (zt_X16_isIn (d := d - 1) (by omega) g) zl_X18_188 dX18_line_23 ⟨rfl, rfl, Nat.le_of_ble_eq_true rfl⟩ ⟨by omega, by omega⟩ ?_
        refine zw_if_eq (tgt := 53) hX dX18_line_26 (by decide) (fun c26 => ?_) (fun c26 => ?_)
        · rw [if_pos c26] at h
          refine zw_sub (lv' := [(0, .ref a0), (1, .int i1), (2, .int i2), (3, .int i3), (4, .int i4)]) (List.forall_mem_cons.mpr ⟨rfl, (List.forall_mem_cons.mpr ⟨rfl, (List.forall_mem_cons.mpr ⟨rfl, (List.forall_mem_cons.mpr ⟨rfl, (List.forall_mem_cons.mpr ⟨rfl, zs_nil⟩)⟩)⟩)⟩)⟩) ?_
          exact zt_X18_line_J53 hX hr hR hd h
        · rw [if_neg c26] at h
          refine zw_iload_n hX dX18_line_29 rfl ?_
          refine zw_iload_n hX dX18_line_30 rfl ?_
          refine zw_icmp_ne (tgt := 43) hX dX18_line_31 (by decide) (fun c31 => ?_) (fun c31 => ?_)
          · rw [if_neg c31] at h
            refine zw_iload_n hX dX18_line_43 rfl ?_
            refine zw_iload hX dX18_line_44 rfl ?_
            refine zw_icmp_ne (tgt := 53) hX dX18_line_46 (by decide) (fun c46 => ?_) (fun c46 => ?_)
            · rw [if_neg c46] at h
              refine zw_sub (lv' := [(0, .ref a0), (1, .int i1), (2, .int i2), (3, .int i3), (4, .int i4)]) (List.forall_mem_cons.mpr ⟨rfl, (List.forall_mem_cons.mpr ⟨rfl, (List.forall_mem_cons.mpr ⟨rfl, (List.forall_mem_cons.mpr ⟨rfl, (List.forall_mem_cons.mpr ⟨rfl, zs_nil⟩)⟩)⟩)⟩)⟩) ?_
              exact zt_X18_line_J53 hX hr hR hd h
            · rw [if_pos c46] at h
              refine zw_sub (lv' := [(0, .ref a0), (1, .int i1), (2, .int i2), (3, .int i3), (4, .int i4)]) (List.forall_mem_cons.mpr ⟨rfl, (List.forall_mem_cons.mpr ⟨rfl, (List.forall_mem_cons.mpr ⟨rfl, (List.forall_mem_cons.mpr ⟨rfl, (List.forall_mem_cons.mpr ⟨rfl, zs_nil⟩)⟩)⟩)⟩)⟩) ?_
              exact zt_X18_line_J49 hX hr hR hd h
          · rw [if_pos c31] at h
            refine zw_iload_n hX dX18_line_34 rfl ?_
            refine zw_iload hX dX18_line_35 rfl ?_
            refine zw_icmp_eq (tgt := 53) hX dX18_line_37 (by decide) (fun c37 => ?_) (fun c37 => ?_)
            · rw [if_pos c37] at h
              refine zw_sub (lv' := [(0, .ref a0), (1, .int i1), (2, .int i2), (3, .int i3), (4, .int i4)]) (List.forall_mem_cons.mpr ⟨rfl, (List.forall_mem_cons.mpr ⟨rfl, (List.forall_mem_cons.mpr ⟨rfl, (List.forall_mem_cons.mpr ⟨rfl, (List.forall_mem_cons.mpr ⟨rfl, zs_nil⟩)⟩)⟩)⟩)⟩) ?_
              exact zt_X18_line_J53 hX hr hR hd h
            · rw [if_neg c37] at h
              refine zw_goto (tgt := 49) hX dX18_line_40 (by decide) ?_
              refine zw_sub (lv' := [(0, .ref a0), (1, .int i1), (2, .int i2), (3, .int i3), (4, .int i4)]) (List.forall_mem_cons.mpr ⟨rfl, (List.forall_mem_cons.mpr ⟨rfl, (List.forall_mem_cons.mpr ⟨rfl, (List.forall_mem_cons.mpr ⟨rfl, (List.forall_mem_cons.mpr ⟨rfl, zs_nil⟩)⟩)⟩)⟩)⟩) ?_
              exact zt_X18_line_J49 hX hr hR hd h
def zf_X18_move_J45 (N : Nat) (a0 : Nat) (i1 : Int32) (i2 : Int32) (i3 : Int32) (t0 : Nat) (t1 : Int32) (t2 : Int32) (S : zm_S) : Option (Int32 × zm_S) := (zi S t0 18).bind (fun _ => (zf_X18_goes N t0 t1 t2 S).bind (fun r9 => if r9.1 = 0 then some ((0 : Int32), r9.2) else (zg_r r9.2 a0 18 3).bind (fun b10 => (zi r9.2 b10 16).bind (fun _ => (zf_X16_move N b10 i1 i2 i3 r9.2).bind (fun r13 => if r13.1 = 0 then some ((0 : Int32), r13.2) else some ((1 : Int32), r13.2))))))
set_option maxHeartbeats 4000000 in
set_option maxRecDepth 100000 in
theorem zt_X18_move_J45 {p : Program} {l : Launch} {e : Env} {R : Room} {s : State} {m : MethodId} {args : Array Value} {below : List Frame} {meth : Method} {c : Code} {V : zm_V} {mc ms d rc rs : Nat} (hX : zm_X p R s m args meth c RX18 "move" cX18_move 4 zk_E V mc ms) (hr : meth.sig.returnType = (some .boolean)) (hR : R.frames = d ∧ R.locals = 64 * d) (hd : 5 ≤ d) {N : Nat} {a0 : Nat} {i1 : Int32} {i2 : Int32} {i3 : Int32} {t0 : Nat} {t1 : Int32} {t2 : Int32} {out : (Int32 × zm_S)} {S : zm_S} (h : zf_X18_move_J45 N a0 i1 i2 i3 t0 t1 t2 S = some out) : zw p l e R s m args below meth c (vx_MQ below (zm_Qc zk_E V (zo_i out)) (zm_XC zk_E V zo_x) args s mc ms (fun q => V.2.2.2.1 ≤ q)) 4 zk_E V mc ms 45 [(0, .ref a0), (1, .int i1), (2, .int i2), (3, .int i3)] [.int t2, .int t1, .ref t0] S rc rs := by
  unfold zf_X18_move_J45 at h
  obtain ⟨_, gi, h⟩ := zb_some h
  obtain ⟨r9, g, h⟩ := zb_some h
  refine zc_Vi (as := [.int t1, .int t2]) hX gi (zt_X18_goes (d := d - 1) (by omega) g) zl_X18_199 rfl dX18_move_45 ⟨rfl, rfl, Nat.le_of_ble_eq_true rfl⟩ ⟨by omega, by omega⟩ ?_
  refine zw_if_eq (tgt := 68) hX dX18_move_48 (by decide) (fun c48 => ?_) (fun c48 => ?_)
  · rw [if_pos c48] at h
    refine zw_iconst (v := (0 : Int32)) hX dX18_move_68 (by decide) ?_
    obtain rfl := Option.some.inj h
    exact zw_iret hX hr dX18_move_69 rfl ⟨rfl, rfl⟩
  · rw [if_neg c48] at h
    refine zw_aload_n hX dX18_move_51 rfl ?_
    obtain ⟨b10, g, h⟩ := zb_some h
    refine zw_getr hX zl_X18_12 dX18_move_52 g ?_
    refine zw_iload_n hX dX18_move_55 rfl ?_
    refine zw_iload_n hX dX18_move_56 rfl ?_
    refine zw_iload_n hX dX18_move_57 rfl ?_
    obtain ⟨_, gi, h⟩ := zb_some h
    obtain ⟨r13, g, h⟩ := zb_some h
    refine zc_Vi (as := [.int i1, .int i2, .int i3]) hX gi (zt_X16_move (d := d - 1) (by omega) g) zl_X18_214 rfl dX18_move_58 ⟨rfl, rfl, Nat.le_of_ble_eq_true rfl⟩ ⟨by omega, by omega⟩ ?_
    refine zw_if_eq (tgt := 68) hX dX18_move_61 (by decide) (fun c61 => ?_) (fun c61 => ?_)
    · rw [if_pos c61] at h
      refine zw_iconst (v := (0 : Int32)) hX dX18_move_68 (by decide) ?_
      obtain rfl := Option.some.inj h
      exact zw_iret hX hr dX18_move_69 rfl ⟨rfl, rfl⟩
    · rw [if_neg c61] at h
      refine zw_iconst (v := (1 : Int32)) hX dX18_move_64 (by decide) ?_
      refine zw_goto (tgt := 69) hX dX18_move_65 (by decide) ?_
      obtain rfl := Option.some.inj h
      exact zw_iret hX hr dX18_move_69 rfl ⟨rfl, rfl⟩
def zf_X18_move_J33 (N : Nat) (a0 : Nat) (i1 : Int32) (i2 : Int32) (i3 : Int32) (t0 : Nat) (t1 : Int32) (S : zm_S) : Option (Int32 × zm_S) := (zg_i S a0 18 1).bind (fun v6 => if v6 = 0 then zf_X18_move_J45 N a0 i1 i2 i3 t0 t1 (1 : Int32) S else zf_X18_move_J45 N a0 i1 i2 i3 t0 t1 (0 : Int32) S)
set_option maxHeartbeats 4000000 in
set_option maxRecDepth 100000 in
theorem zt_X18_move_J33 {p : Program} {l : Launch} {e : Env} {R : Room} {s : State} {m : MethodId} {args : Array Value} {below : List Frame} {meth : Method} {c : Code} {V : zm_V} {mc ms d rc rs : Nat} (hX : zm_X p R s m args meth c RX18 "move" cX18_move 4 zk_E V mc ms) (hr : meth.sig.returnType = (some .boolean)) (hR : R.frames = d ∧ R.locals = 64 * d) (hd : 5 ≤ d) {N : Nat} {a0 : Nat} {i1 : Int32} {i2 : Int32} {i3 : Int32} {t0 : Nat} {t1 : Int32} {out : (Int32 × zm_S)} {S : zm_S} (h : zf_X18_move_J33 N a0 i1 i2 i3 t0 t1 S = some out) : zw p l e R s m args below meth c (vx_MQ below (zm_Qc zk_E V (zo_i out)) (zm_XC zk_E V zo_x) args s mc ms (fun q => V.2.2.2.1 ≤ q)) 4 zk_E V mc ms 33 [(0, .ref a0), (1, .int i1), (2, .int i2), (3, .int i3)] [.int t1, .ref t0] S rc rs := by
  unfold zf_X18_move_J33 at h
  refine zw_aload_n hX dX18_move_33 rfl ?_
  obtain ⟨v6, g, h⟩ := zb_some h
  refine zw_geti hX zl_X18_192 dX18_move_34 g ?_
  refine zw_if_ne (tgt := 44) hX dX18_move_37 (by decide) (fun c37 => ?_) (fun c37 => ?_)
  · rw [if_neg c37] at h
    refine zw_iconst (v := (0 : Int32)) hX dX18_move_44 (by decide) ?_
    refine zw_sub (lv' := [(0, .ref a0), (1, .int i1), (2, .int i2), (3, .int i3)]) (List.forall_mem_cons.mpr ⟨rfl, (List.forall_mem_cons.mpr ⟨rfl, (List.forall_mem_cons.mpr ⟨rfl, (List.forall_mem_cons.mpr ⟨rfl, zs_nil⟩)⟩)⟩)⟩) ?_
    exact zt_X18_move_J45 hX hr hR hd h
  · rw [if_pos c37] at h
    refine zw_iconst (v := (1 : Int32)) hX dX18_move_40 (by decide) ?_
    refine zw_goto (tgt := 45) hX dX18_move_41 (by decide) ?_
    refine zw_sub (lv' := [(0, .ref a0), (1, .int i1), (2, .int i2), (3, .int i3)]) (List.forall_mem_cons.mpr ⟨rfl, (List.forall_mem_cons.mpr ⟨rfl, (List.forall_mem_cons.mpr ⟨rfl, (List.forall_mem_cons.mpr ⟨rfl, zs_nil⟩)⟩)⟩)⟩) ?_
    exact zt_X18_move_J45 hX hr hR hd h
def zf_X18_move_J32 (N : Nat) (a0 : Nat) (i1 : Int32) (i2 : Int32) (i3 : Int32) (t0 : Nat) (S : zm_S) : Option (Int32 × zm_S) := zf_X18_move_J33 N a0 i1 i2 i3 t0 (0 : Int32) S
set_option maxHeartbeats 4000000 in
set_option maxRecDepth 100000 in
theorem zt_X18_move_J32 {p : Program} {l : Launch} {e : Env} {R : Room} {s : State} {m : MethodId} {args : Array Value} {below : List Frame} {meth : Method} {c : Code} {V : zm_V} {mc ms d rc rs : Nat} (hX : zm_X p R s m args meth c RX18 "move" cX18_move 4 zk_E V mc ms) (hr : meth.sig.returnType = (some .boolean)) (hR : R.frames = d ∧ R.locals = 64 * d) (hd : 5 ≤ d) {N : Nat} {a0 : Nat} {i1 : Int32} {i2 : Int32} {i3 : Int32} {t0 : Nat} {out : (Int32 × zm_S)} {S : zm_S} (h : zf_X18_move_J32 N a0 i1 i2 i3 t0 S = some out) : zw p l e R s m args below meth c (vx_MQ below (zm_Qc zk_E V (zo_i out)) (zm_XC zk_E V zo_x) args s mc ms (fun q => V.2.2.2.1 ≤ q)) 4 zk_E V mc ms 32 [(0, .ref a0), (1, .int i1), (2, .int i2), (3, .int i3)] [.ref t0] S rc rs := by
  unfold zf_X18_move_J32 at h
  refine zw_iconst (v := (0 : Int32)) hX dX18_move_32 (by decide) ?_
  refine zw_sub (lv' := [(0, .ref a0), (1, .int i1), (2, .int i2), (3, .int i3)]) (List.forall_mem_cons.mpr ⟨rfl, (List.forall_mem_cons.mpr ⟨rfl, (List.forall_mem_cons.mpr ⟨rfl, (List.forall_mem_cons.mpr ⟨rfl, zs_nil⟩)⟩)⟩)⟩) ?_
  exact zt_X18_move_J33 hX hr hR hd h
def zf_X18_move (N : Nat) (a0 : Nat) (i1 : Int32) (i2 : Int32) (i3 : Int32) (S : zm_S) : Option (Int32 × zm_S) := (zg_r S a0 18 3).bind (fun b1 => (zg_i S b1 16 0).bind (fun v2 => (zf_X18_isIn N i1 v2 S).bind (fun r5 => if r5.1 = 0 then zf_X18_move_J32 N a0 i1 i2 i3 a0 r5.2 else (zg_r r5.2 a0 18 3).bind (fun b14 => (zi r5.2 b14 16).bind (fun _ => (zf_X16_mayGo N b14 i1 i2 i3 r5.2).bind (fun r17 => if r17.1 = 0 then zf_X18_move_J32 N a0 i1 i2 i3 a0 r17.2 else zf_X18_move_J33 N a0 i1 i2 i3 a0 (1 : Int32) r17.2))))))
set_option maxHeartbeats 4000000 in
set_option maxRecDepth 100000 in
theorem zt_X18_move {l : Launch} {V : zm_V} {N : Nat} {S : zm_S} {out : (Int32 × zm_S)} {d : Nat} {a0 : Nat} {i1 : Int32} {i2 : Int32} {i3 : Int32} (hd : 5 ≤ d) (h : zf_X18_move N a0 i1 i2 i3 S = some out) : zm_Met l zk_E V yX18_move (.code yX18_move cX18_move 4 (some .boolean)) d [.ref a0, .int i1, .int i2, .int i3] S 0 0 (zo_i out) zo_x := by
  refine zm_of (by decide +kernel) (Nat.le_of_ble_eq_true rfl) ?_
  intro p e R s m args below meth c hRR hX hr hxt
  have hR : R.frames = d ∧ R.locals = 64 * d := by rw [hRR]; exact ⟨rfl, rfl⟩
  have hX : zm_X p R s m args meth c RX18 "move" cX18_move 4 zk_E V 0 0 := hX
  unfold zf_X18_move at h
  refine zw_sub (lv' := [(0, .ref a0), (1, .int i1), (2, .int i2), (3, .int i3)]) (List.forall_mem_cons.mpr ⟨rfl, (List.forall_mem_cons.mpr ⟨rfl, (List.forall_mem_cons.mpr ⟨rfl, (List.forall_mem_cons.mpr ⟨rfl, zs_nil⟩)⟩)⟩)⟩) ?_
  refine zw_aload_n hX dX18_move_0 rfl ?_
  refine zw_iload_n hX dX18_move_1 rfl ?_
  refine zw_aload_n hX dX18_move_2 rfl ?_
  obtain ⟨b1, g, h⟩ := zb_some h
  refine zw_getr hX zl_X18_12 dX18_move_3 g ?_
  obtain ⟨v2, g, h⟩ := zb_some h
  refine zw_geti hX zl_X18_196 dX18_move_6 g ?_
  obtain ⟨r5, g, h⟩ := zb_some h
  refine zc_Si (as := [.int i1, .int v2]) hX (zt_X18_isIn (d := d - 1) (by omega) g) zl_X18_207 dX18_move_9 ⟨rfl, rfl, Nat.le_of_ble_eq_true rfl⟩ ⟨by omega, by omega⟩ ?_
  refine zw_if_eq (tgt := 32) hX dX18_move_12 (by decide) (fun c12 => ?_) (fun c12 => ?_)
  · rw [if_pos c12] at h
    refine zw_sub (lv' := [(0, .ref a0), (1, .int i1), (2, .int i2), (3, .int i3)]) (List.forall_mem_cons.mpr ⟨rfl, (List.forall_mem_cons.mpr ⟨rfl, (List.forall_mem_cons.mpr ⟨rfl, (List.forall_mem_cons.mpr ⟨rfl, zs_nil⟩)⟩)⟩)⟩) ?_
    exact zt_X18_move_J32 hX hr hR hd h
  · rw [if_neg c12] at h
    refine zw_aload_n hX dX18_move_15 rfl ?_
    obtain ⟨b14, g, h⟩ := zb_some h
    refine zw_getr hX zl_X18_12 dX18_move_16 g ?_
    refine zw_iload_n hX dX18_move_19 rfl ?_
    refine zw_iload_n hX dX18_move_20 rfl ?_
    refine zw_iload_n hX dX18_move_21 rfl ?_
    obtain ⟨_, gi, h⟩ := zb_some h
    obtain ⟨r17, g, h⟩ := zb_some h
    refine zc_Vi (as := [.int i1, .int i2, .int i3]) hX gi (zt_X16_mayGo (d := d - 1) (by omega) g) zl_X18_210 rfl dX18_move_22 ⟨rfl, rfl, Nat.le_of_ble_eq_true rfl⟩ ⟨by omega, by omega⟩ ?_
    refine zw_if_eq (tgt := 32) hX dX18_move_25 (by decide) (fun c25 => ?_) (fun c25 => ?_)
    · rw [if_pos c25] at h
      refine zw_sub (lv' := [(0, .ref a0), (1, .int i1), (2, .int i2), (3, .int i3)]) (List.forall_mem_cons.mpr ⟨rfl, (List.forall_mem_cons.mpr ⟨rfl, (List.forall_mem_cons.mpr ⟨rfl, (List.forall_mem_cons.mpr ⟨rfl, zs_nil⟩)⟩)⟩)⟩) ?_
      exact zt_X18_move_J32 hX hr hR hd h
    · rw [if_neg c25] at h
      refine zw_iconst (v := (1 : Int32)) hX dX18_move_28 (by decide) ?_
      refine zw_goto (tgt := 33) hX dX18_move_29 (by decide) ?_
      refine zw_sub (lv' := [(0, .ref a0), (1, .int i1), (2, .int i2), (3, .int i3)]) (List.forall_mem_cons.mpr ⟨rfl, (List.forall_mem_cons.mpr ⟨rfl, (List.forall_mem_cons.mpr ⟨rfl, (List.forall_mem_cons.mpr ⟨rfl, zs_nil⟩)⟩)⟩)⟩) ?_
      exact zt_X18_move_J33 hX hr hR hd h
def zf_X18_door_J88 (N : Nat) (a0 : Nat) (i1 : Int32) (i2 : Int32) (i3 : Int32) (i4 : Int32) (t0 : Nat) (t1 : Int32) (t2 : Int32) (S : zm_S) : Option (Int32 × zm_S) := (zi S t0 18).bind (fun _ => (zf_X18_goes N t0 t1 t2 S).bind (fun r9 => if r9.1 = 0 then some ((0 : Int32), r9.2) else (zg_r r9.2 a0 18 3).bind (fun b10 => (zi r9.2 b10 16).bind (fun _ => (zf_X16_door N b10 i1 i2 i3 i4 r9.2).bind (fun r13 => some (r13.1, r13.2))))))
set_option maxHeartbeats 4000000 in
set_option maxRecDepth 100000 in
theorem zt_X18_door_J88 {p : Program} {l : Launch} {e : Env} {R : Room} {s : State} {m : MethodId} {args : Array Value} {below : List Frame} {meth : Method} {c : Code} {V : zm_V} {mc ms d rc rs : Nat} (hX : zm_X p R s m args meth c RX18 "door" cX18_door 6 zk_E V mc ms) (hr : meth.sig.returnType = (some .int)) (hR : R.frames = d ∧ R.locals = 64 * d) (hd : 2 ≤ d) {N : Nat} {a0 : Nat} {i1 : Int32} {i2 : Int32} {i3 : Int32} {i4 : Int32} {t0 : Nat} {t1 : Int32} {t2 : Int32} {out : (Int32 × zm_S)} {S : zm_S} (h : zf_X18_door_J88 N a0 i1 i2 i3 i4 t0 t1 t2 S = some out) : zw p l e R s m args below meth c (vx_MQ below (zm_Qc zk_E V (zo_i out)) (zm_XC zk_E V zo_x) args s mc ms (fun q => V.2.2.2.1 ≤ q)) 6 zk_E V mc ms 88 [(0, .ref a0), (1, .int i1), (2, .int i2), (3, .int i3), (4, .int i4)] [.int t2, .int t1, .ref t0] S rc rs := by
  unfold zf_X18_door_J88 at h
  obtain ⟨_, gi, h⟩ := zb_some h
  obtain ⟨r9, g, h⟩ := zb_some h
  refine zc_Vi (as := [.int t1, .int t2]) hX gi (zt_X18_goes (d := d - 1) (by omega) g) zl_X18_199 rfl dX18_door_88 ⟨rfl, rfl, Nat.le_of_ble_eq_true rfl⟩ ⟨by omega, by omega⟩ ?_
  refine zw_if_eq (tgt := 109) hX dX18_door_91 (by decide) (fun c91 => ?_) (fun c91 => ?_)
  · rw [if_pos c91] at h
    refine zw_iconst (v := (0 : Int32)) hX dX18_door_109 (by decide) ?_
    obtain rfl := Option.some.inj h
    exact zw_iret hX hr dX18_door_110 rfl ⟨rfl, rfl⟩
  · rw [if_neg c91] at h
    refine zw_aload_n hX dX18_door_94 rfl ?_
    obtain ⟨b10, g, h⟩ := zb_some h
    refine zw_getr hX zl_X18_12 dX18_door_95 g ?_
    refine zw_iload_n hX dX18_door_98 rfl ?_
    refine zw_iload_n hX dX18_door_99 rfl ?_
    refine zw_iload_n hX dX18_door_100 rfl ?_
    refine zw_iload hX dX18_door_101 rfl ?_
    obtain ⟨_, gi, h⟩ := zb_some h
    obtain ⟨r13, g, h⟩ := zb_some h
    refine zc_Vi (as := [.int i1, .int i2, .int i3, .int i4]) hX gi (zt_X16_door (d := d - 1) (by omega) g) zl_X18_224 rfl dX18_door_103 ⟨rfl, rfl, Nat.le_of_ble_eq_true rfl⟩ ⟨by omega, by omega⟩ ?_
    refine zw_goto (tgt := 110) hX dX18_door_106 (by decide) ?_
    obtain rfl := Option.some.inj h
    exact zw_iret hX hr dX18_door_110 rfl ⟨rfl, rfl⟩
def zf_X18_door_J87 (N : Nat) (a0 : Nat) (i1 : Int32) (i2 : Int32) (i3 : Int32) (i4 : Int32) (t0 : Nat) (t1 : Int32) (S : zm_S) : Option (Int32 × zm_S) := zf_X18_door_J88 N a0 i1 i2 i3 i4 t0 t1 (0 : Int32) S
set_option maxHeartbeats 4000000 in
set_option maxRecDepth 100000 in
theorem zt_X18_door_J87 {p : Program} {l : Launch} {e : Env} {R : Room} {s : State} {m : MethodId} {args : Array Value} {below : List Frame} {meth : Method} {c : Code} {V : zm_V} {mc ms d rc rs : Nat} (hX : zm_X p R s m args meth c RX18 "door" cX18_door 6 zk_E V mc ms) (hr : meth.sig.returnType = (some .int)) (hR : R.frames = d ∧ R.locals = 64 * d) (hd : 2 ≤ d) {N : Nat} {a0 : Nat} {i1 : Int32} {i2 : Int32} {i3 : Int32} {i4 : Int32} {t0 : Nat} {t1 : Int32} {out : (Int32 × zm_S)} {S : zm_S} (h : zf_X18_door_J87 N a0 i1 i2 i3 i4 t0 t1 S = some out) : zw p l e R s m args below meth c (vx_MQ below (zm_Qc zk_E V (zo_i out)) (zm_XC zk_E V zo_x) args s mc ms (fun q => V.2.2.2.1 ≤ q)) 6 zk_E V mc ms 87 [(0, .ref a0), (1, .int i1), (2, .int i2), (3, .int i3), (4, .int i4)] [.int t1, .ref t0] S rc rs := by
  unfold zf_X18_door_J87 at h
  refine zw_iconst (v := (0 : Int32)) hX dX18_door_87 (by decide) ?_
  refine zw_sub (lv' := [(0, .ref a0), (1, .int i1), (2, .int i2), (3, .int i3), (4, .int i4)]) (List.forall_mem_cons.mpr ⟨rfl, (List.forall_mem_cons.mpr ⟨rfl, (List.forall_mem_cons.mpr ⟨rfl, (List.forall_mem_cons.mpr ⟨rfl, (List.forall_mem_cons.mpr ⟨rfl, zs_nil⟩)⟩)⟩)⟩)⟩) ?_
  exact zt_X18_door_J88 hX hr hR hd h
def zf_X18_door_J83 (N : Nat) (a0 : Nat) (i1 : Int32) (i2 : Int32) (i3 : Int32) (i4 : Int32) (t0 : Nat) (t1 : Int32) (S : zm_S) : Option (Int32 × zm_S) := zf_X18_door_J88 N a0 i1 i2 i3 i4 t0 t1 (1 : Int32) S
set_option maxHeartbeats 4000000 in
set_option maxRecDepth 100000 in
theorem zt_X18_door_J83 {p : Program} {l : Launch} {e : Env} {R : Room} {s : State} {m : MethodId} {args : Array Value} {below : List Frame} {meth : Method} {c : Code} {V : zm_V} {mc ms d rc rs : Nat} (hX : zm_X p R s m args meth c RX18 "door" cX18_door 6 zk_E V mc ms) (hr : meth.sig.returnType = (some .int)) (hR : R.frames = d ∧ R.locals = 64 * d) (hd : 2 ≤ d) {N : Nat} {a0 : Nat} {i1 : Int32} {i2 : Int32} {i3 : Int32} {i4 : Int32} {t0 : Nat} {t1 : Int32} {out : (Int32 × zm_S)} {S : zm_S} (h : zf_X18_door_J83 N a0 i1 i2 i3 i4 t0 t1 S = some out) : zw p l e R s m args below meth c (vx_MQ below (zm_Qc zk_E V (zo_i out)) (zm_XC zk_E V zo_x) args s mc ms (fun q => V.2.2.2.1 ≤ q)) 6 zk_E V mc ms 83 [(0, .ref a0), (1, .int i1), (2, .int i2), (3, .int i3), (4, .int i4)] [.int t1, .ref t0] S rc rs := by
  unfold zf_X18_door_J83 at h
  refine zw_iconst (v := (1 : Int32)) hX dX18_door_83 (by decide) ?_
  refine zw_goto (tgt := 88) hX dX18_door_84 (by decide) ?_
  refine zw_sub (lv' := [(0, .ref a0), (1, .int i1), (2, .int i2), (3, .int i3), (4, .int i4)]) (List.forall_mem_cons.mpr ⟨rfl, (List.forall_mem_cons.mpr ⟨rfl, (List.forall_mem_cons.mpr ⟨rfl, (List.forall_mem_cons.mpr ⟨rfl, (List.forall_mem_cons.mpr ⟨rfl, zs_nil⟩)⟩)⟩)⟩)⟩) ?_
  exact zt_X18_door_J88 hX hr hR hd h
def zf_X18_door_J52 (N : Nat) (a0 : Nat) (i1 : Int32) (i2 : Int32) (i3 : Int32) (i4 : Int32) (t0 : Int32) (S : zm_S) : Option (Int32 × zm_S) := (zg_i S a0 18 1).bind (fun v6 => if v6 = 0 then if t0 = 0 then zf_X18_door_J83 N a0 i1 i2 i3 i4 a0 t0 S else (zg_r S a0 18 3).bind (fun b14 => (zg_r S b14 16 5).bind (fun b15 => (za_x S 0 b15 i1).bind (fun v16 => if (6 : Int32) ≤ v16 then zf_X18_door_J87 N a0 i1 i2 i3 i4 a0 t0 S else zf_X18_door_J83 N a0 i1 i2 i3 i4 a0 t0 S))) else zf_X18_door_J87 N a0 i1 i2 i3 i4 a0 t0 S)
set_option maxHeartbeats 4000000 in
set_option maxRecDepth 100000 in
theorem zt_X18_door_J52 {p : Program} {l : Launch} {e : Env} {R : Room} {s : State} {m : MethodId} {args : Array Value} {below : List Frame} {meth : Method} {c : Code} {V : zm_V} {mc ms d rc rs : Nat} (hX : zm_X p R s m args meth c RX18 "door" cX18_door 6 zk_E V mc ms) (hr : meth.sig.returnType = (some .int)) (hR : R.frames = d ∧ R.locals = 64 * d) (hd : 2 ≤ d) {N : Nat} {a0 : Nat} {i1 : Int32} {i2 : Int32} {i3 : Int32} {i4 : Int32} {t0 : Int32} {out : (Int32 × zm_S)} {S : zm_S} (h : zf_X18_door_J52 N a0 i1 i2 i3 i4 t0 S = some out) : zw p l e R s m args below meth c (vx_MQ below (zm_Qc zk_E V (zo_i out)) (zm_XC zk_E V zo_x) args s mc ms (fun q => V.2.2.2.1 ≤ q)) 6 zk_E V mc ms 52 [(0, .ref a0), (1, .int i1), (2, .int i2), (3, .int i3), (4, .int i4)] [.int t0] S rc rs := by
  unfold zf_X18_door_J52 at h
  refine zw_istore hX dX18_door_52 (by decide) ?_
  refine zw_aload_n hX dX18_door_54 rfl ?_
  refine zw_iload hX dX18_door_55 rfl ?_
  refine zw_aload_n hX dX18_door_57 rfl ?_
  obtain ⟨v6, g, h⟩ := zb_some h
  refine zw_geti hX zl_X18_192 dX18_door_58 g ?_
  refine zw_if_ne (tgt := 87) hX dX18_door_61 (by decide) (fun c61 => ?_) (fun c61 => ?_)
  · rw [if_neg c61] at h
    refine zw_sub (lv' := [(0, .ref a0), (1, .int i1), (2, .int i2), (3, .int i3), (4, .int i4)]) (List.forall_mem_cons.mpr ⟨rfl, (List.forall_mem_cons.mpr ⟨rfl, (List.forall_mem_cons.mpr ⟨rfl, (List.forall_mem_cons.mpr ⟨rfl, (List.forall_mem_cons.mpr ⟨rfl, zs_nil⟩)⟩)⟩)⟩)⟩) ?_
    exact zt_X18_door_J87 hX hr hR hd h
  · rw [if_pos c61] at h
    refine zw_iload hX dX18_door_64 rfl ?_
    refine zw_if_eq (tgt := 83) hX dX18_door_66 (by decide) (fun c66 => ?_) (fun c66 => ?_)
    · rw [if_pos c66] at h
      refine zw_sub (lv' := [(0, .ref a0), (1, .int i1), (2, .int i2), (3, .int i3), (4, .int i4)]) (List.forall_mem_cons.mpr ⟨rfl, (List.forall_mem_cons.mpr ⟨rfl, (List.forall_mem_cons.mpr ⟨rfl, (List.forall_mem_cons.mpr ⟨rfl, (List.forall_mem_cons.mpr ⟨rfl, zs_nil⟩)⟩)⟩)⟩)⟩) ?_
      exact zt_X18_door_J83 hX hr hR hd h
    · rw [if_neg c66] at h
      refine zw_aload_n hX dX18_door_69 rfl ?_
      obtain ⟨b14, g, h⟩ := zb_some h
      refine zw_getr hX zl_X18_12 dX18_door_70 g ?_
      obtain ⟨b15, g, h⟩ := zb_some h
      refine zw_getr hX zl_X18_221 dX18_door_73 g ?_
      refine zw_iload_n hX dX18_door_76 rfl ?_
      obtain ⟨v16, g, h⟩ := zb_some h
      refine zw_xi hX dX18_door_77 g ?_
      refine zw_bipush (v := (6 : Int32)) hX dX18_door_78 (by decide) ?_
      refine zw_icmp_ge (tgt := 87) hX dX18_door_80 (by decide) (fun c80 => ?_) (fun c80 => ?_)
      · rw [if_pos c80] at h
        refine zw_sub (lv' := [(0, .ref a0), (1, .int i1), (2, .int i2), (3, .int i3), (4, .int i4)]) (List.forall_mem_cons.mpr ⟨rfl, (List.forall_mem_cons.mpr ⟨rfl, (List.forall_mem_cons.mpr ⟨rfl, (List.forall_mem_cons.mpr ⟨rfl, (List.forall_mem_cons.mpr ⟨rfl, zs_nil⟩)⟩)⟩)⟩)⟩) ?_
        exact zt_X18_door_J87 hX hr hR hd h
      · rw [if_neg c80] at h
        refine zw_sub (lv' := [(0, .ref a0), (1, .int i1), (2, .int i2), (3, .int i3), (4, .int i4)]) (List.forall_mem_cons.mpr ⟨rfl, (List.forall_mem_cons.mpr ⟨rfl, (List.forall_mem_cons.mpr ⟨rfl, (List.forall_mem_cons.mpr ⟨rfl, (List.forall_mem_cons.mpr ⟨rfl, zs_nil⟩)⟩)⟩)⟩)⟩) ?_
        exact zt_X18_door_J83 hX hr hR hd h
def zf_X18_door_J51 (N : Nat) (a0 : Nat) (i1 : Int32) (i2 : Int32) (i3 : Int32) (i4 : Int32) (S : zm_S) : Option (Int32 × zm_S) := zf_X18_door_J52 N a0 i1 i2 i3 i4 (0 : Int32) S
set_option maxHeartbeats 4000000 in
set_option maxRecDepth 100000 in
theorem zt_X18_door_J51 {p : Program} {l : Launch} {e : Env} {R : Room} {s : State} {m : MethodId} {args : Array Value} {below : List Frame} {meth : Method} {c : Code} {V : zm_V} {mc ms d rc rs : Nat} (hX : zm_X p R s m args meth c RX18 "door" cX18_door 6 zk_E V mc ms) (hr : meth.sig.returnType = (some .int)) (hR : R.frames = d ∧ R.locals = 64 * d) (hd : 2 ≤ d) {N : Nat} {a0 : Nat} {i1 : Int32} {i2 : Int32} {i3 : Int32} {i4 : Int32} {out : (Int32 × zm_S)} {S : zm_S} (h : zf_X18_door_J51 N a0 i1 i2 i3 i4 S = some out) : zw p l e R s m args below meth c (vx_MQ below (zm_Qc zk_E V (zo_i out)) (zm_XC zk_E V zo_x) args s mc ms (fun q => V.2.2.2.1 ≤ q)) 6 zk_E V mc ms 51 [(0, .ref a0), (1, .int i1), (2, .int i2), (3, .int i3), (4, .int i4)] [] S rc rs := by
  unfold zf_X18_door_J51 at h
  refine zw_iconst (v := (0 : Int32)) hX dX18_door_51 (by decide) ?_
  refine zw_sub (lv' := [(0, .ref a0), (1, .int i1), (2, .int i2), (3, .int i3), (4, .int i4)]) (List.forall_mem_cons.mpr ⟨rfl, (List.forall_mem_cons.mpr ⟨rfl, (List.forall_mem_cons.mpr ⟨rfl, (List.forall_mem_cons.mpr ⟨rfl, (List.forall_mem_cons.mpr ⟨rfl, zs_nil⟩)⟩)⟩)⟩)⟩) ?_
  exact zt_X18_door_J52 hX hr hR hd h
def zf_X18_door (N : Nat) (a0 : Nat) (i1 : Int32) (i2 : Int32) (i3 : Int32) (i4 : Int32) (S : zm_S) : Option (Int32 × zm_S) := (zg_r S a0 18 3).bind (fun b1 => (zg_i S b1 16 0).bind (fun v2 => (zf_X18_isIn N i1 v2 S).bind (fun r5 => if r5.1 = 0 then zf_X18_door_J51 N a0 i1 i2 i3 i4 r5.2 else if i2 < 0 then zf_X18_door_J51 N a0 i1 i2 i3 i4 r5.2 else if i3 ≤ i2 then zf_X18_door_J51 N a0 i1 i2 i3 i4 r5.2 else (zg_r r5.2 a0 18 3).bind (fun b17 => (zi r5.2 b17 16).bind (fun _ => (zf_X16_lengthOf N b17 i1 r5.2).bind (fun r20 => if r20.1 < i3 then zf_X18_door_J51 N a0 i1 i2 i3 i4 r20.2 else if i4 < (1 : Int32) then zf_X18_door_J51 N a0 i1 i2 i3 i4 r20.2 else if (5 : Int32) < i4 then zf_X18_door_J51 N a0 i1 i2 i3 i4 r20.2 else zf_X18_door_J52 N a0 i1 i2 i3 i4 (1 : Int32) r20.2))))))
set_option maxHeartbeats 4000000 in
set_option maxRecDepth 100000 in
theorem zt_X18_door {l : Launch} {V : zm_V} {N : Nat} {S : zm_S} {out : (Int32 × zm_S)} {d : Nat} {a0 : Nat} {i1 : Int32} {i2 : Int32} {i3 : Int32} {i4 : Int32} (hd : 2 ≤ d) (h : zf_X18_door N a0 i1 i2 i3 i4 S = some out) : zm_Met l zk_E V yX18_door (.code yX18_door cX18_door 6 (some .int)) d [.ref a0, .int i1, .int i2, .int i3, .int i4] S 0 0 (zo_i out) zo_x := by
  refine zm_of (by decide +kernel) (Nat.le_of_ble_eq_true rfl) ?_
  intro p e R s m args below meth c hRR hX hr hxt
  have hR : R.frames = d ∧ R.locals = 64 * d := by rw [hRR]; exact ⟨rfl, rfl⟩
  have hX : zm_X p R s m args meth c RX18 "door" cX18_door 6 zk_E V 0 0 := hX
  unfold zf_X18_door at h
  refine zw_sub (lv' := [(0, .ref a0), (1, .int i1), (2, .int i2), (3, .int i3), (4, .int i4)]) (List.forall_mem_cons.mpr ⟨rfl, (List.forall_mem_cons.mpr ⟨rfl, (List.forall_mem_cons.mpr ⟨rfl, (List.forall_mem_cons.mpr ⟨rfl, (List.forall_mem_cons.mpr ⟨rfl, zs_nil⟩)⟩)⟩)⟩)⟩) ?_
  refine zw_iload_n hX dX18_door_0 rfl ?_
  refine zw_aload_n hX dX18_door_1 rfl ?_
  obtain ⟨b1, g, h⟩ := zb_some h
  refine zw_getr hX zl_X18_12 dX18_door_2 g ?_
  obtain ⟨v2, g, h⟩ := zb_some h
  refine zw_geti hX zl_X18_196 dX18_door_5 g ?_
  obtain ⟨r5, g, h⟩ := zb_some h
  refine zc_Si (as := [.int i1, .int v2]) hX (zt_X18_isIn (d := d - 1) (by omega) g) zl_X18_207 dX18_door_8 ⟨rfl, rfl, Nat.le_of_ble_eq_true rfl⟩ ⟨by omega, by omega⟩ ?_
  refine zw_if_eq (tgt := 51) hX dX18_door_11 (by decide) (fun c11 => ?_) (fun c11 => ?_)
  · rw [if_pos c11] at h
    refine zw_sub (lv' := [(0, .ref a0), (1, .int i1), (2, .int i2), (3, .int i3), (4, .int i4)]) (List.forall_mem_cons.mpr ⟨rfl, (List.forall_mem_cons.mpr ⟨rfl, (List.forall_mem_cons.mpr ⟨rfl, (List.forall_mem_cons.mpr ⟨rfl, (List.forall_mem_cons.mpr ⟨rfl, zs_nil⟩)⟩)⟩)⟩)⟩) ?_
    exact zt_X18_door_J51 hX hr hR hd h
  · rw [if_neg c11] at h
    refine zw_iload_n hX dX18_door_14 rfl ?_
    refine zw_if_lt (tgt := 51) hX dX18_door_15 (by decide) (fun c15 => ?_) (fun c15 => ?_)
    · rw [if_pos c15] at h
      refine zw_sub (lv' := [(0, .ref a0), (1, .int i1), (2, .int i2), (3, .int i3), (4, .int i4)]) (List.forall_mem_cons.mpr ⟨rfl, (List.forall_mem_cons.mpr ⟨rfl, (List.forall_mem_cons.mpr ⟨rfl, (List.forall_mem_cons.mpr ⟨rfl, (List.forall_mem_cons.mpr ⟨rfl, zs_nil⟩)⟩)⟩)⟩)⟩) ?_
      exact zt_X18_door_J51 hX hr hR hd h
    · rw [if_neg c15] at h
      refine zw_iload_n hX dX18_door_18 rfl ?_
      refine zw_iload_n hX dX18_door_19 rfl ?_
      refine zw_icmp_ge (tgt := 51) hX dX18_door_20 (by decide) (fun c20 => ?_) (fun c20 => ?_)
      · rw [if_pos c20] at h
        refine zw_sub (lv' := [(0, .ref a0), (1, .int i1), (2, .int i2), (3, .int i3), (4, .int i4)]) (List.forall_mem_cons.mpr ⟨rfl, (List.forall_mem_cons.mpr ⟨rfl, (List.forall_mem_cons.mpr ⟨rfl, (List.forall_mem_cons.mpr ⟨rfl, (List.forall_mem_cons.mpr ⟨rfl, zs_nil⟩)⟩)⟩)⟩)⟩) ?_
        exact zt_X18_door_J51 hX hr hR hd h
      · rw [if_neg c20] at h
        refine zw_iload_n hX dX18_door_23 rfl ?_
        refine zw_aload_n hX dX18_door_24 rfl ?_
        obtain ⟨b17, g, h⟩ := zb_some h
        refine zw_getr hX zl_X18_12 dX18_door_25 g ?_
        refine zw_iload_n hX dX18_door_28 rfl ?_
        obtain ⟨_, gi, h⟩ := zb_some h
        obtain ⟨r20, g, h⟩ := zb_some h
        refine zc_Vi (as := [.int i1]) hX gi (zt_X16_lengthOf (d := d - 1) (by omega) g) zl_X18_217 rfl dX18_door_29 ⟨rfl, rfl, Nat.le_of_ble_eq_true rfl⟩ ⟨by omega, by omega⟩ ?_
        refine zw_icmp_gt (tgt := 51) hX dX18_door_32 (by decide) (fun c32 => ?_) (fun c32 => ?_)
        · rw [if_pos c32] at h
          refine zw_sub (lv' := [(0, .ref a0), (1, .int i1), (2, .int i2), (3, .int i3), (4, .int i4)]) (List.forall_mem_cons.mpr ⟨rfl, (List.forall_mem_cons.mpr ⟨rfl, (List.forall_mem_cons.mpr ⟨rfl, (List.forall_mem_cons.mpr ⟨rfl, (List.forall_mem_cons.mpr ⟨rfl, zs_nil⟩)⟩)⟩)⟩)⟩) ?_
          exact zt_X18_door_J51 hX hr hR hd h
        · rw [if_neg c32] at h
          refine zw_iload hX dX18_door_35 rfl ?_
          refine zw_iconst (v := (1 : Int32)) hX dX18_door_37 (by decide) ?_
          refine zw_icmp_lt (tgt := 51) hX dX18_door_38 (by decide) (fun c38 => ?_) (fun c38 => ?_)
          · rw [if_pos c38] at h
            refine zw_sub (lv' := [(0, .ref a0), (1, .int i1), (2, .int i2), (3, .int i3), (4, .int i4)]) (List.forall_mem_cons.mpr ⟨rfl, (List.forall_mem_cons.mpr ⟨rfl, (List.forall_mem_cons.mpr ⟨rfl, (List.forall_mem_cons.mpr ⟨rfl, (List.forall_mem_cons.mpr ⟨rfl, zs_nil⟩)⟩)⟩)⟩)⟩) ?_
            exact zt_X18_door_J51 hX hr hR hd h
          · rw [if_neg c38] at h
            refine zw_iload hX dX18_door_41 rfl ?_
            refine zw_iconst (v := (5 : Int32)) hX dX18_door_43 (by decide) ?_
            refine zw_icmp_gt (tgt := 51) hX dX18_door_44 (by decide) (fun c44 => ?_) (fun c44 => ?_)
            · rw [if_pos c44] at h
              refine zw_sub (lv' := [(0, .ref a0), (1, .int i1), (2, .int i2), (3, .int i3), (4, .int i4)]) (List.forall_mem_cons.mpr ⟨rfl, (List.forall_mem_cons.mpr ⟨rfl, (List.forall_mem_cons.mpr ⟨rfl, (List.forall_mem_cons.mpr ⟨rfl, (List.forall_mem_cons.mpr ⟨rfl, zs_nil⟩)⟩)⟩)⟩)⟩) ?_
              exact zt_X18_door_J51 hX hr hR hd h
            · rw [if_neg c44] at h
              refine zw_iconst (v := (1 : Int32)) hX dX18_door_47 (by decide) ?_
              refine zw_goto (tgt := 52) hX dX18_door_48 (by decide) ?_
              refine zw_sub (lv' := [(0, .ref a0), (1, .int i1), (2, .int i2), (3, .int i3), (4, .int i4)]) (List.forall_mem_cons.mpr ⟨rfl, (List.forall_mem_cons.mpr ⟨rfl, (List.forall_mem_cons.mpr ⟨rfl, (List.forall_mem_cons.mpr ⟨rfl, (List.forall_mem_cons.mpr ⟨rfl, zs_nil⟩)⟩)⟩)⟩)⟩) ?_
              exact zt_X18_door_J52 hX hr hR hd h
def zf_X18_find_J25 (N : Nat) (a0 : Nat) (t0 : Nat) (t1 : Int32) (S : zm_S) : Option (Int32 × zm_S) := (zi S t0 18).bind (fun _ => (zf_X18_stays N t0 t1 S).bind (fun r4 => if r4.1 = 0 then some ((0 : Int32), r4.2) else (zg_r r4.2 a0 18 3).bind (fun b5 => (zi r4.2 b5 16).bind (fun _ => (zf_X16_run N b5 r4.2).bind (fun r8 => some (r8.1, r8.2))))))
set_option maxHeartbeats 4000000 in
set_option maxRecDepth 100000 in
theorem zt_X18_find_J25 {p : Program} {l : Launch} {e : Env} {R : Room} {s : State} {m : MethodId} {args : Array Value} {below : List Frame} {meth : Method} {c : Code} {V : zm_V} {mc ms d rc rs : Nat} (hX : zm_X p R s m args meth c RX18 "find" cX18_find 1 zk_E V mc ms) (hr : meth.sig.returnType = (some .int)) (hR : R.frames = d ∧ R.locals = 64 * d) (hd : 6 ≤ d) {N : Nat} {a0 : Nat} {t0 : Nat} {t1 : Int32} {out : (Int32 × zm_S)} {S : zm_S} (h : zf_X18_find_J25 N a0 t0 t1 S = some out) : zw p l e R s m args below meth c (vx_MQ below (zm_Qc zk_E V (zo_i out)) (zm_XC zk_E V zo_x) args s mc ms (fun q => V.2.2.2.1 ≤ q)) 1 zk_E V mc ms 25 [(0, .ref a0)] [.int t1, .ref t0] S rc rs := by
  unfold zf_X18_find_J25 at h
  obtain ⟨_, gi, h⟩ := zb_some h
  obtain ⟨r4, g, h⟩ := zb_some h
  refine zc_Vi (as := [.int t1]) hX gi (zt_X18_stays (d := d - 1) (by omega) g) zl_X18_230 rfl dX18_find_25 ⟨rfl, rfl, Nat.le_of_ble_eq_true rfl⟩ ⟨by omega, by omega⟩ ?_
  refine zw_if_eq (tgt := 41) hX dX18_find_28 (by decide) (fun c28 => ?_) (fun c28 => ?_)
  · rw [if_pos c28] at h
    refine zw_iconst (v := (0 : Int32)) hX dX18_find_41 (by decide) ?_
    obtain rfl := Option.some.inj h
    exact zw_iret hX hr dX18_find_42 rfl ⟨rfl, rfl⟩
  · rw [if_neg c28] at h
    refine zw_aload_n hX dX18_find_31 rfl ?_
    obtain ⟨b5, g, h⟩ := zb_some h
    refine zw_getr hX zl_X18_12 dX18_find_32 g ?_
    obtain ⟨_, gi, h⟩ := zb_some h
    obtain ⟨r8, g, h⟩ := zb_some h
    refine zc_Vi (as := []) hX gi (zt_X16_run (d := d - 1) (by omega) g) zl_X18_234 rfl dX18_find_35 ⟨rfl, rfl, Nat.le_of_ble_eq_true rfl⟩ ⟨by omega, by omega⟩ ?_
    refine zw_goto (tgt := 42) hX dX18_find_38 (by decide) ?_
    obtain rfl := Option.some.inj h
    exact zw_iret hX hr dX18_find_42 rfl ⟨rfl, rfl⟩
def zf_X18_find_J24 (N : Nat) (a0 : Nat) (t0 : Nat) (S : zm_S) : Option (Int32 × zm_S) := zf_X18_find_J25 N a0 t0 (0 : Int32) S
set_option maxHeartbeats 4000000 in
set_option maxRecDepth 100000 in
theorem zt_X18_find_J24 {p : Program} {l : Launch} {e : Env} {R : Room} {s : State} {m : MethodId} {args : Array Value} {below : List Frame} {meth : Method} {c : Code} {V : zm_V} {mc ms d rc rs : Nat} (hX : zm_X p R s m args meth c RX18 "find" cX18_find 1 zk_E V mc ms) (hr : meth.sig.returnType = (some .int)) (hR : R.frames = d ∧ R.locals = 64 * d) (hd : 6 ≤ d) {N : Nat} {a0 : Nat} {t0 : Nat} {out : (Int32 × zm_S)} {S : zm_S} (h : zf_X18_find_J24 N a0 t0 S = some out) : zw p l e R s m args below meth c (vx_MQ below (zm_Qc zk_E V (zo_i out)) (zm_XC zk_E V zo_x) args s mc ms (fun q => V.2.2.2.1 ≤ q)) 1 zk_E V mc ms 24 [(0, .ref a0)] [.ref t0] S rc rs := by
  unfold zf_X18_find_J24 at h
  refine zw_iconst (v := (0 : Int32)) hX dX18_find_24 (by decide) ?_
  refine zw_sub (lv' := [(0, .ref a0)]) (List.forall_mem_cons.mpr ⟨rfl, zs_nil⟩) ?_
  exact zt_X18_find_J25 hX hr hR hd h
def zf_X18_find (N : Nat) (a0 : Nat) (S : zm_S) : Option (Int32 × zm_S) := (zg_i S a0 18 1).bind (fun v1 => if v1 = 0 then (zg_r S a0 18 3).bind (fun b9 => (zg_i S b9 16 11).bind (fun v10 => if (60 : Int32) ≤ v10 then zf_X18_find_J24 N a0 a0 S else zf_X18_find_J25 N a0 a0 (1 : Int32) S)) else zf_X18_find_J24 N a0 a0 S)
set_option maxHeartbeats 4000000 in
set_option maxRecDepth 100000 in
theorem zt_X18_find {l : Launch} {V : zm_V} {N : Nat} {S : zm_S} {out : (Int32 × zm_S)} {d : Nat} {a0 : Nat} (hd : 6 ≤ d) (h : zf_X18_find N a0 S = some out) : zm_Met l zk_E V yX18_find (.code yX18_find cX18_find 1 (some .int)) d [.ref a0] S 0 0 (zo_i out) zo_x := by
  refine zm_of (by decide +kernel) (Nat.le_of_ble_eq_true rfl) ?_
  intro p e R s m args below meth c hRR hX hr hxt
  have hR : R.frames = d ∧ R.locals = 64 * d := by rw [hRR]; exact ⟨rfl, rfl⟩
  have hX : zm_X p R s m args meth c RX18 "find" cX18_find 1 zk_E V 0 0 := hX
  unfold zf_X18_find at h
  refine zw_sub (lv' := [(0, .ref a0)]) (List.forall_mem_cons.mpr ⟨rfl, zs_nil⟩) ?_
  refine zw_aload_n hX dX18_find_0 rfl ?_
  refine zw_aload_n hX dX18_find_1 rfl ?_
  obtain ⟨v1, g, h⟩ := zb_some h
  refine zw_geti hX zl_X18_192 dX18_find_2 g ?_
  refine zw_if_ne (tgt := 24) hX dX18_find_5 (by decide) (fun c5 => ?_) (fun c5 => ?_)
  · rw [if_neg c5] at h
    refine zw_sub (lv' := [(0, .ref a0)]) (List.forall_mem_cons.mpr ⟨rfl, zs_nil⟩) ?_
    exact zt_X18_find_J24 hX hr hR hd h
  · rw [if_pos c5] at h
    refine zw_aload_n hX dX18_find_8 rfl ?_
    obtain ⟨b9, g, h⟩ := zb_some h
    refine zw_getr hX zl_X18_12 dX18_find_9 g ?_
    obtain ⟨v10, g, h⟩ := zb_some h
    refine zw_geti hX zl_X18_227 dX18_find_12 g ?_
    refine zw_bipush (v := (60 : Int32)) hX dX18_find_15 (by decide) ?_
    refine zw_icmp_ge (tgt := 24) hX dX18_find_17 (by decide) (fun c17 => ?_) (fun c17 => ?_)
    · rw [if_pos c17] at h
      refine zw_sub (lv' := [(0, .ref a0)]) (List.forall_mem_cons.mpr ⟨rfl, zs_nil⟩) ?_
      exact zt_X18_find_J24 hX hr hR hd h
    · rw [if_neg c17] at h
      refine zw_iconst (v := (1 : Int32)) hX dX18_find_20 (by decide) ?_
      refine zw_goto (tgt := 25) hX dX18_find_21 (by decide) ?_
      refine zw_sub (lv' := [(0, .ref a0)]) (List.forall_mem_cons.mpr ⟨rfl, zs_nil⟩) ?_
      exact zt_X18_find_J25 hX hr hR hd h
def zf_X18_count (N : Nat) (a0 : Nat) (i1 : Int32) (S : zm_S) : Option (Int32 × zm_S) := (zf_X18_isIn N i1 (4 : Int32) S).bind (fun r3 => (zg_r r3.2 a0 18 3).bind (fun b4 => (zg_i r3.2 b4 16 10).bind (fun v5 => (zi r3.2 a0 18).bind (fun _ => (zf_X18_goes N a0 r3.1 v5 r3.2).bind (fun r8 => if r8.1 = 0 then some ((0 : Int32), r8.2) else if i1 = 0 then (zg_r r8.2 a0 18 3).bind (fun b17 => (zg_i r8.2 b17 16 17).bind (fun v18 => some (v18, r8.2))) else if i1 = (1 : Int32) then (zg_r r8.2 a0 18 3).bind (fun b15 => (zg_i r8.2 b15 16 27).bind (fun v16 => some (v16, r8.2))) else if i1 = (2 : Int32) then (zg_r r8.2 a0 18 3).bind (fun b13 => (zg_i r8.2 b13 16 30).bind (fun v14 => some (v14, r8.2))) else (zg_r r8.2 a0 18 3).bind (fun b9 => (zi r8.2 b9 16).bind (fun _ => (zf_X16_outerSides N b9 r8.2).bind (fun r12 => some (r12.1, r12.2)))))))))
set_option maxHeartbeats 4000000 in
set_option maxRecDepth 100000 in
theorem zt_X18_count {l : Launch} {V : zm_V} {N : Nat} {S : zm_S} {out : (Int32 × zm_S)} {d : Nat} {a0 : Nat} {i1 : Int32} (hd : 4 ≤ d) (h : zf_X18_count N a0 i1 S = some out) : zm_Met l zk_E V yX18_count (.code yX18_count cX18_count 2 (some .int)) d [.ref a0, .int i1] S 0 0 (zo_i out) zo_x := by
  refine zm_of (by decide +kernel) (Nat.le_of_ble_eq_true rfl) ?_
  intro p e R s m args below meth c hRR hX hr hxt
  have hR : R.frames = d ∧ R.locals = 64 * d := by rw [hRR]; exact ⟨rfl, rfl⟩
  have hX : zm_X p R s m args meth c RX18 "count" cX18_count 2 zk_E V 0 0 := hX
  unfold zf_X18_count at h
  refine zw_sub (lv' := [(0, .ref a0), (1, .int i1)]) (List.forall_mem_cons.mpr ⟨rfl, (List.forall_mem_cons.mpr ⟨rfl, zs_nil⟩)⟩) ?_
  refine zw_aload_n hX dX18_count_0 rfl ?_
  refine zw_iload_n hX dX18_count_1 rfl ?_
  refine zw_iconst (v := (4 : Int32)) hX dX18_count_2 (by decide) ?_
  obtain ⟨r3, g, h⟩ := zb_some h
  refine zc_Si (as := [.int i1, .int (4 : Int32)]) hX (zt_X18_isIn (d := d - 1) (by omega) g) zl_X18_207 dX18_count_3 ⟨rfl, rfl, Nat.le_of_ble_eq_true rfl⟩ ⟨by omega, by omega⟩ ?_
  refine zw_aload_n hX dX18_count_6 rfl ?_
  obtain ⟨b4, g, h⟩ := zb_some h
  refine zw_getr hX zl_X18_12 dX18_count_7 g ?_
  obtain ⟨v5, g, h⟩ := zb_some h
  refine zw_geti hX zl_X18_238 dX18_count_10 g ?_
  obtain ⟨_, gi, h⟩ := zb_some h
  obtain ⟨r8, g, h⟩ := zb_some h
  refine zc_Vi (as := [.int r3.1, .int v5]) hX gi (zt_X18_goes (d := d - 1) (by omega) g) zl_X18_199 rfl dX18_count_13 ⟨rfl, rfl, Nat.le_of_ble_eq_true rfl⟩ ⟨by omega, by omega⟩ ?_
  refine zw_if_ne (tgt := 21) hX dX18_count_16 (by decide) (fun c16 => ?_) (fun c16 => ?_)
  · rw [if_neg c16] at h
    refine zw_iload_n hX dX18_count_21 rfl ?_
    refine zw_if_ne (tgt := 35) hX dX18_count_22 (by decide) (fun c22 => ?_) (fun c22 => ?_)
    · rw [if_neg c22] at h
      refine zw_iload_n hX dX18_count_35 rfl ?_
      refine zw_iconst (v := (1 : Int32)) hX dX18_count_36 (by decide) ?_
      refine zw_icmp_ne (tgt := 50) hX dX18_count_37 (by decide) (fun c37 => ?_) (fun c37 => ?_)
      · rw [if_neg c37] at h
        refine zw_iload_n hX dX18_count_50 rfl ?_
        refine zw_iconst (v := (2 : Int32)) hX dX18_count_51 (by decide) ?_
        refine zw_icmp_ne (tgt := 65) hX dX18_count_52 (by decide) (fun c52 => ?_) (fun c52 => ?_)
        · rw [if_neg c52] at h
          refine zw_aload_n hX dX18_count_65 rfl ?_
          obtain ⟨b9, g, h⟩ := zb_some h
          refine zw_getr hX zl_X18_12 dX18_count_66 g ?_
          obtain ⟨_, gi, h⟩ := zb_some h
          obtain ⟨r12, g, h⟩ := zb_some h
          refine zc_Vi (as := []) hX gi (zt_X16_outerSides (d := d - 1) (by omega) g) zl_X18_250 rfl dX18_count_69 ⟨rfl, rfl, Nat.le_of_ble_eq_true rfl⟩ ⟨by omega, by omega⟩ ?_
          obtain rfl := Option.some.inj h
          exact zw_iret hX hr dX18_count_72 rfl ⟨rfl, rfl⟩
        · rw [if_pos c52] at h
          refine zw_aload_n hX dX18_count_55 rfl ?_
          obtain ⟨b13, g, h⟩ := zb_some h
          refine zw_getr hX zl_X18_12 dX18_count_56 g ?_
          obtain ⟨v14, g, h⟩ := zb_some h
          refine zw_geti hX zl_X18_247 dX18_count_59 g ?_
          refine zw_goto (tgt := 72) hX dX18_count_62 (by decide) ?_
          obtain rfl := Option.some.inj h
          exact zw_iret hX hr dX18_count_72 rfl ⟨rfl, rfl⟩
      · rw [if_pos c37] at h
        refine zw_aload_n hX dX18_count_40 rfl ?_
        obtain ⟨b15, g, h⟩ := zb_some h
        refine zw_getr hX zl_X18_12 dX18_count_41 g ?_
        obtain ⟨v16, g, h⟩ := zb_some h
        refine zw_geti hX zl_X18_244 dX18_count_44 g ?_
        refine zw_goto (tgt := 72) hX dX18_count_47 (by decide) ?_
        obtain rfl := Option.some.inj h
        exact zw_iret hX hr dX18_count_72 rfl ⟨rfl, rfl⟩
    · rw [if_pos c22] at h
      refine zw_aload_n hX dX18_count_25 rfl ?_
      obtain ⟨b17, g, h⟩ := zb_some h
      refine zw_getr hX zl_X18_12 dX18_count_26 g ?_
      obtain ⟨v18, g, h⟩ := zb_some h
      refine zw_geti hX zl_X18_241 dX18_count_29 g ?_
      refine zw_goto (tgt := 72) hX dX18_count_32 (by decide) ?_
      obtain rfl := Option.some.inj h
      exact zw_iret hX hr dX18_count_72 rfl ⟨rfl, rfl⟩
  · rw [if_pos c16] at h
    refine zw_iconst (v := (0 : Int32)) hX dX18_count_19 (by decide) ?_
    obtain rfl := Option.some.inj h
    exact zw_iret hX hr dX18_count_20 rfl ⟨rfl, rfl⟩
def zf_X18_sides_J21 (N : Nat) (a0 : Nat) (i1 : Int32) (i2 : Int32) (t0 : Nat) (t1 : Int32) (S : zm_S) : Option (Int32 × zm_S) := (zg_r S a0 18 3).bind (fun b5 => (zg_i S b5 16 10).bind (fun v6 => (zi S t0 18).bind (fun _ => (zf_X18_goes N t0 t1 v6 S).bind (fun r9 => if r9.1 = 0 then some ((0 : Int32), r9.2) else (zg_r r9.2 a0 18 3).bind (fun b10 => (zi r9.2 b10 16).bind (fun _ => (zf_X16_sides N b10 i1 i2 r9.2).bind (fun r13 => some (r13.1, r13.2))))))))
set_option maxHeartbeats 4000000 in
set_option maxRecDepth 100000 in
theorem zt_X18_sides_J21 {p : Program} {l : Launch} {e : Env} {R : Room} {s : State} {m : MethodId} {args : Array Value} {below : List Frame} {meth : Method} {c : Code} {V : zm_V} {mc ms d rc rs : Nat} (hX : zm_X p R s m args meth c RX18 "sides" cX18_sides 3 zk_E V mc ms) (hr : meth.sig.returnType = (some .int)) (hR : R.frames = d ∧ R.locals = 64 * d) (hd : 5 ≤ d) {N : Nat} {a0 : Nat} {i1 : Int32} {i2 : Int32} {t0 : Nat} {t1 : Int32} {out : (Int32 × zm_S)} {S : zm_S} (h : zf_X18_sides_J21 N a0 i1 i2 t0 t1 S = some out) : zw p l e R s m args below meth c (vx_MQ below (zm_Qc zk_E V (zo_i out)) (zm_XC zk_E V zo_x) args s mc ms (fun q => V.2.2.2.1 ≤ q)) 3 zk_E V mc ms 21 [(0, .ref a0), (1, .int i1), (2, .int i2)] [.int t1, .ref t0] S rc rs := by
  unfold zf_X18_sides_J21 at h
  refine zw_aload_n hX dX18_sides_21 rfl ?_
  obtain ⟨b5, g, h⟩ := zb_some h
  refine zw_getr hX zl_X18_12 dX18_sides_22 g ?_
  obtain ⟨v6, g, h⟩ := zb_some h
  refine zw_geti hX zl_X18_238 dX18_sides_25 g ?_
  obtain ⟨_, gi, h⟩ := zb_some h
  obtain ⟨r9, g, h⟩ := zb_some h
  refine zc_Vi (as := [.int t1, .int v6]) hX gi (zt_X18_goes (d := d - 1) (by omega) g) zl_X18_199 rfl dX18_sides_28 ⟨rfl, rfl, Nat.le_of_ble_eq_true rfl⟩ ⟨by omega, by omega⟩ ?_
  refine zw_if_eq (tgt := 46) hX dX18_sides_31 (by decide) (fun c31 => ?_) (fun c31 => ?_)
  · rw [if_pos c31] at h
    refine zw_iconst (v := (0 : Int32)) hX dX18_sides_46 (by decide) ?_
    obtain rfl := Option.some.inj h
    exact zw_iret hX hr dX18_sides_47 rfl ⟨rfl, rfl⟩
  · rw [if_neg c31] at h
    refine zw_aload_n hX dX18_sides_34 rfl ?_
    obtain ⟨b10, g, h⟩ := zb_some h
    refine zw_getr hX zl_X18_12 dX18_sides_35 g ?_
    refine zw_iload_n hX dX18_sides_38 rfl ?_
    refine zw_iload_n hX dX18_sides_39 rfl ?_
    obtain ⟨_, gi, h⟩ := zb_some h
    obtain ⟨r13, g, h⟩ := zb_some h
    refine zc_Vi (as := [.int i1, .int i2]) hX gi (zt_X16_sides (d := d - 1) (by omega) g) zl_X18_256 rfl dX18_sides_40 ⟨rfl, rfl, Nat.le_of_ble_eq_true rfl⟩ ⟨by omega, by omega⟩ ?_
    refine zw_goto (tgt := 47) hX dX18_sides_43 (by decide) ?_
    obtain rfl := Option.some.inj h
    exact zw_iret hX hr dX18_sides_47 rfl ⟨rfl, rfl⟩
def zf_X18_sides_J20 (N : Nat) (a0 : Nat) (i1 : Int32) (i2 : Int32) (t0 : Nat) (S : zm_S) : Option (Int32 × zm_S) := zf_X18_sides_J21 N a0 i1 i2 t0 (0 : Int32) S
set_option maxHeartbeats 4000000 in
set_option maxRecDepth 100000 in
theorem zt_X18_sides_J20 {p : Program} {l : Launch} {e : Env} {R : Room} {s : State} {m : MethodId} {args : Array Value} {below : List Frame} {meth : Method} {c : Code} {V : zm_V} {mc ms d rc rs : Nat} (hX : zm_X p R s m args meth c RX18 "sides" cX18_sides 3 zk_E V mc ms) (hr : meth.sig.returnType = (some .int)) (hR : R.frames = d ∧ R.locals = 64 * d) (hd : 5 ≤ d) {N : Nat} {a0 : Nat} {i1 : Int32} {i2 : Int32} {t0 : Nat} {out : (Int32 × zm_S)} {S : zm_S} (h : zf_X18_sides_J20 N a0 i1 i2 t0 S = some out) : zw p l e R s m args below meth c (vx_MQ below (zm_Qc zk_E V (zo_i out)) (zm_XC zk_E V zo_x) args s mc ms (fun q => V.2.2.2.1 ≤ q)) 3 zk_E V mc ms 20 [(0, .ref a0), (1, .int i1), (2, .int i2)] [.ref t0] S rc rs := by
  unfold zf_X18_sides_J20 at h
  refine zw_iconst (v := (0 : Int32)) hX dX18_sides_20 (by decide) ?_
  refine zw_sub (lv' := [(0, .ref a0), (1, .int i1), (2, .int i2)]) (List.forall_mem_cons.mpr ⟨rfl, (List.forall_mem_cons.mpr ⟨rfl, (List.forall_mem_cons.mpr ⟨rfl, zs_nil⟩)⟩)⟩) ?_
  exact zt_X18_sides_J21 hX hr hR hd h
def zf_X18_sides (N : Nat) (a0 : Nat) (i1 : Int32) (i2 : Int32) (S : zm_S) : Option (Int32 × zm_S) := (zg_r S a0 18 3).bind (fun b1 => (zi S b1 16).bind (fun _ => (zf_X16_isSpace N b1 i1 S).bind (fun r4 => if r4.1 = 0 then zf_X18_sides_J20 N a0 i1 i2 a0 r4.2 else if i2 < 0 then zf_X18_sides_J20 N a0 i1 i2 a0 r4.2 else zf_X18_sides_J21 N a0 i1 i2 a0 (1 : Int32) r4.2)))
set_option maxHeartbeats 4000000 in
set_option maxRecDepth 100000 in
theorem zt_X18_sides {l : Launch} {V : zm_V} {N : Nat} {S : zm_S} {out : (Int32 × zm_S)} {d : Nat} {a0 : Nat} {i1 : Int32} {i2 : Int32} (hd : 5 ≤ d) (h : zf_X18_sides N a0 i1 i2 S = some out) : zm_Met l zk_E V yX18_sides (.code yX18_sides cX18_sides 3 (some .int)) d [.ref a0, .int i1, .int i2] S 0 0 (zo_i out) zo_x := by
  refine zm_of (by decide +kernel) (Nat.le_of_ble_eq_true rfl) ?_
  intro p e R s m args below meth c hRR hX hr hxt
  have hR : R.frames = d ∧ R.locals = 64 * d := by rw [hRR]; exact ⟨rfl, rfl⟩
  have hX : zm_X p R s m args meth c RX18 "sides" cX18_sides 3 zk_E V 0 0 := hX
  unfold zf_X18_sides at h
  refine zw_sub (lv' := [(0, .ref a0), (1, .int i1), (2, .int i2)]) (List.forall_mem_cons.mpr ⟨rfl, (List.forall_mem_cons.mpr ⟨rfl, (List.forall_mem_cons.mpr ⟨rfl, zs_nil⟩)⟩)⟩) ?_
  refine zw_aload_n hX dX18_sides_0 rfl ?_
  refine zw_aload_n hX dX18_sides_1 rfl ?_
  obtain ⟨b1, g, h⟩ := zb_some h
  refine zw_getr hX zl_X18_12 dX18_sides_2 g ?_
  refine zw_iload_n hX dX18_sides_5 rfl ?_
  obtain ⟨_, gi, h⟩ := zb_some h
  obtain ⟨r4, g, h⟩ := zb_some h
  refine zc_Vi (as := [.int i1]) hX gi (zt_X16_isSpace (d := d - 1) (by omega) g) zl_X18_253 rfl dX18_sides_6 ⟨rfl, rfl, Nat.le_of_ble_eq_true rfl⟩ ⟨by omega, by omega⟩ ?_
  refine zw_if_eq (tgt := 20) hX dX18_sides_9 (by decide) (fun c9 => ?_) (fun c9 => ?_)
  · rw [if_pos c9] at h
    refine zw_sub (lv' := [(0, .ref a0), (1, .int i1), (2, .int i2)]) (List.forall_mem_cons.mpr ⟨rfl, (List.forall_mem_cons.mpr ⟨rfl, (List.forall_mem_cons.mpr ⟨rfl, zs_nil⟩)⟩)⟩) ?_
    exact zt_X18_sides_J20 hX hr hR hd h
  · rw [if_neg c9] at h
    refine zw_iload_n hX dX18_sides_12 rfl ?_
    refine zw_if_lt (tgt := 20) hX dX18_sides_13 (by decide) (fun c13 => ?_) (fun c13 => ?_)
    · rw [if_pos c13] at h
      refine zw_sub (lv' := [(0, .ref a0), (1, .int i1), (2, .int i2)]) (List.forall_mem_cons.mpr ⟨rfl, (List.forall_mem_cons.mpr ⟨rfl, (List.forall_mem_cons.mpr ⟨rfl, zs_nil⟩)⟩)⟩) ?_
      exact zt_X18_sides_J20 hX hr hR hd h
    · rw [if_neg c13] at h
      refine zw_iconst (v := (1 : Int32)) hX dX18_sides_16 (by decide) ?_
      refine zw_goto (tgt := 21) hX dX18_sides_17 (by decide) ?_
      refine zw_sub (lv' := [(0, .ref a0), (1, .int i1), (2, .int i2)]) (List.forall_mem_cons.mpr ⟨rfl, (List.forall_mem_cons.mpr ⟨rfl, (List.forall_mem_cons.mpr ⟨rfl, zs_nil⟩)⟩)⟩) ?_
      exact zt_X18_sides_J21 hX hr hR hd h
def zf_X18_side_J47 (N : Nat) (a0 : Nat) (i1 : Int32) (i2 : Int32) (i3 : Int32) (i4 : Int32) (t0 : Int32) (S : zm_S) : Option (Int32 × zm_S) := (zg_r S a0 18 3).bind (fun b5 => (zg_i S b5 16 10).bind (fun v6 => (zi S a0 18).bind (fun _ => (zf_X18_goes N a0 t0 v6 S).bind (fun r9 => if r9.1 = 0 then some ((0 : Int32), r9.2) else (zg_r r9.2 a0 18 3).bind (fun b10 => (zi r9.2 b10 16).bind (fun _ => (zf_X16_side N b10 i1 i2 i3 i4 r9.2).bind (fun r13 => some (r13.1, r13.2))))))))
set_option maxHeartbeats 4000000 in
set_option maxRecDepth 100000 in
theorem zt_X18_side_J47 {p : Program} {l : Launch} {e : Env} {R : Room} {s : State} {m : MethodId} {args : Array Value} {below : List Frame} {meth : Method} {c : Code} {V : zm_V} {mc ms d rc rs : Nat} (hX : zm_X p R s m args meth c RX18 "side" cX18_side 6 zk_E V mc ms) (hr : meth.sig.returnType = (some .int)) (hR : R.frames = d ∧ R.locals = 64 * d) (hd : 5 ≤ d) {N : Nat} {a0 : Nat} {i1 : Int32} {i2 : Int32} {i3 : Int32} {i4 : Int32} {t0 : Int32} {out : (Int32 × zm_S)} {S : zm_S} (h : zf_X18_side_J47 N a0 i1 i2 i3 i4 t0 S = some out) : zw p l e R s m args below meth c (vx_MQ below (zm_Qc zk_E V (zo_i out)) (zm_XC zk_E V zo_x) args s mc ms (fun q => V.2.2.2.1 ≤ q)) 6 zk_E V mc ms 47 [(0, .ref a0), (1, .int i1), (2, .int i2), (3, .int i3), (4, .int i4)] [.int t0] S rc rs := by
  unfold zf_X18_side_J47 at h
  refine zw_istore hX dX18_side_47 (by decide) ?_
  refine zw_aload_n hX dX18_side_49 rfl ?_
  refine zw_iload hX dX18_side_50 rfl ?_
  refine zw_aload_n hX dX18_side_52 rfl ?_
  obtain ⟨b5, g, h⟩ := zb_some h
  refine zw_getr hX zl_X18_12 dX18_side_53 g ?_
  obtain ⟨v6, g, h⟩ := zb_some h
  refine zw_geti hX zl_X18_238 dX18_side_56 g ?_
  obtain ⟨_, gi, h⟩ := zb_some h
  obtain ⟨r9, g, h⟩ := zb_some h
  refine zc_Vi (as := [.int t0, .int v6]) hX gi (zt_X18_goes (d := d - 1) (by omega) g) zl_X18_199 rfl dX18_side_59 ⟨rfl, rfl, Nat.le_of_ble_eq_true rfl⟩ ⟨by omega, by omega⟩ ?_
  refine zw_if_eq (tgt := 80) hX dX18_side_62 (by decide) (fun c62 => ?_) (fun c62 => ?_)
  · rw [if_pos c62] at h
    refine zw_iconst (v := (0 : Int32)) hX dX18_side_80 (by decide) ?_
    obtain rfl := Option.some.inj h
    exact zw_iret hX hr dX18_side_81 rfl ⟨rfl, rfl⟩
  · rw [if_neg c62] at h
    refine zw_aload_n hX dX18_side_65 rfl ?_
    obtain ⟨b10, g, h⟩ := zb_some h
    refine zw_getr hX zl_X18_12 dX18_side_66 g ?_
    refine zw_iload_n hX dX18_side_69 rfl ?_
    refine zw_iload_n hX dX18_side_70 rfl ?_
    refine zw_iload_n hX dX18_side_71 rfl ?_
    refine zw_iload hX dX18_side_72 rfl ?_
    obtain ⟨_, gi, h⟩ := zb_some h
    obtain ⟨r13, g, h⟩ := zb_some h
    refine zc_Vi (as := [.int i1, .int i2, .int i3, .int i4]) hX gi (zt_X16_side (d := d - 1) (by omega) g) zl_X18_260 rfl dX18_side_74 ⟨rfl, rfl, Nat.le_of_ble_eq_true rfl⟩ ⟨by omega, by omega⟩ ?_
    refine zw_goto (tgt := 81) hX dX18_side_77 (by decide) ?_
    obtain rfl := Option.some.inj h
    exact zw_iret hX hr dX18_side_81 rfl ⟨rfl, rfl⟩
def zf_X18_side_J46 (N : Nat) (a0 : Nat) (i1 : Int32) (i2 : Int32) (i3 : Int32) (i4 : Int32) (S : zm_S) : Option (Int32 × zm_S) := zf_X18_side_J47 N a0 i1 i2 i3 i4 (0 : Int32) S
set_option maxHeartbeats 4000000 in
set_option maxRecDepth 100000 in
theorem zt_X18_side_J46 {p : Program} {l : Launch} {e : Env} {R : Room} {s : State} {m : MethodId} {args : Array Value} {below : List Frame} {meth : Method} {c : Code} {V : zm_V} {mc ms d rc rs : Nat} (hX : zm_X p R s m args meth c RX18 "side" cX18_side 6 zk_E V mc ms) (hr : meth.sig.returnType = (some .int)) (hR : R.frames = d ∧ R.locals = 64 * d) (hd : 5 ≤ d) {N : Nat} {a0 : Nat} {i1 : Int32} {i2 : Int32} {i3 : Int32} {i4 : Int32} {out : (Int32 × zm_S)} {S : zm_S} (h : zf_X18_side_J46 N a0 i1 i2 i3 i4 S = some out) : zw p l e R s m args below meth c (vx_MQ below (zm_Qc zk_E V (zo_i out)) (zm_XC zk_E V zo_x) args s mc ms (fun q => V.2.2.2.1 ≤ q)) 6 zk_E V mc ms 46 [(0, .ref a0), (1, .int i1), (2, .int i2), (3, .int i3), (4, .int i4)] [] S rc rs := by
  unfold zf_X18_side_J46 at h
  refine zw_iconst (v := (0 : Int32)) hX dX18_side_46 (by decide) ?_
  refine zw_sub (lv' := [(0, .ref a0), (1, .int i1), (2, .int i2), (3, .int i3), (4, .int i4)]) (List.forall_mem_cons.mpr ⟨rfl, (List.forall_mem_cons.mpr ⟨rfl, (List.forall_mem_cons.mpr ⟨rfl, (List.forall_mem_cons.mpr ⟨rfl, (List.forall_mem_cons.mpr ⟨rfl, zs_nil⟩)⟩)⟩)⟩)⟩) ?_
  exact zt_X18_side_J47 hX hr hR hd h
def zf_X18_side (N : Nat) (a0 : Nat) (i1 : Int32) (i2 : Int32) (i3 : Int32) (i4 : Int32) (S : zm_S) : Option (Int32 × zm_S) := (zg_r S a0 18 3).bind (fun b1 => (zi S b1 16).bind (fun _ => (zf_X16_isSpace N b1 i1 S).bind (fun r4 => if r4.1 = 0 then zf_X18_side_J46 N a0 i1 i2 i3 i4 r4.2 else if i2 < 0 then zf_X18_side_J46 N a0 i1 i2 i3 i4 r4.2 else if i3 < 0 then zf_X18_side_J46 N a0 i1 i2 i3 i4 r4.2 else (zg_r r4.2 a0 18 3).bind (fun b14 => (zi r4.2 b14 16).bind (fun _ => (zf_X16_sides N b14 i1 i2 r4.2).bind (fun r17 => if r17.1 ≤ i3 then zf_X18_side_J46 N a0 i1 i2 i3 i4 r17.2 else (zf_X18_isIn N i4 (6 : Int32) r17.2).bind (fun r20 => if r20.1 = 0 then zf_X18_side_J46 N a0 i1 i2 i3 i4 r20.2 else zf_X18_side_J47 N a0 i1 i2 i3 i4 (1 : Int32) r20.2)))))))
set_option maxHeartbeats 4000000 in
set_option maxRecDepth 100000 in
theorem zt_X18_side {l : Launch} {V : zm_V} {N : Nat} {S : zm_S} {out : (Int32 × zm_S)} {d : Nat} {a0 : Nat} {i1 : Int32} {i2 : Int32} {i3 : Int32} {i4 : Int32} (hd : 5 ≤ d) (h : zf_X18_side N a0 i1 i2 i3 i4 S = some out) : zm_Met l zk_E V yX18_side (.code yX18_side cX18_side 6 (some .int)) d [.ref a0, .int i1, .int i2, .int i3, .int i4] S 0 0 (zo_i out) zo_x := by
  refine zm_of (by decide +kernel) (Nat.le_of_ble_eq_true rfl) ?_
  intro p e R s m args below meth c hRR hX hr hxt
  have hR : R.frames = d ∧ R.locals = 64 * d := by rw [hRR]; exact ⟨rfl, rfl⟩
  have hX : zm_X p R s m args meth c RX18 "side" cX18_side 6 zk_E V 0 0 := hX
  unfold zf_X18_side at h
  refine zw_sub (lv' := [(0, .ref a0), (1, .int i1), (2, .int i2), (3, .int i3), (4, .int i4)]) (List.forall_mem_cons.mpr ⟨rfl, (List.forall_mem_cons.mpr ⟨rfl, (List.forall_mem_cons.mpr ⟨rfl, (List.forall_mem_cons.mpr ⟨rfl, (List.forall_mem_cons.mpr ⟨rfl, zs_nil⟩)⟩)⟩)⟩)⟩) ?_
  refine zw_aload_n hX dX18_side_0 rfl ?_
  obtain ⟨b1, g, h⟩ := zb_some h
  refine zw_getr hX zl_X18_12 dX18_side_1 g ?_
  refine zw_iload_n hX dX18_side_4 rfl ?_
  obtain ⟨_, gi, h⟩ := zb_some h
  obtain ⟨r4, g, h⟩ := zb_some h
  refine zc_Vi (as := [.int i1]) hX gi (zt_X16_isSpace (d := d - 1) (by omega) g) zl_X18_253 rfl dX18_side_5 ⟨rfl, rfl, Nat.le_of_ble_eq_true rfl⟩ ⟨by omega, by omega⟩ ?_
  refine zw_if_eq (tgt := 46) hX dX18_side_8 (by decide) (fun c8 => ?_) (fun c8 => ?_)
  · rw [if_pos c8] at h
    refine zw_sub (lv' := [(0, .ref a0), (1, .int i1), (2, .int i2), (3, .int i3), (4, .int i4)]) (List.forall_mem_cons.mpr ⟨rfl, (List.forall_mem_cons.mpr ⟨rfl, (List.forall_mem_cons.mpr ⟨rfl, (List.forall_mem_cons.mpr ⟨rfl, (List.forall_mem_cons.mpr ⟨rfl, zs_nil⟩)⟩)⟩)⟩)⟩) ?_
    exact zt_X18_side_J46 hX hr hR hd h
  · rw [if_neg c8] at h
    refine zw_iload_n hX dX18_side_11 rfl ?_
    refine zw_if_lt (tgt := 46) hX dX18_side_12 (by decide) (fun c12 => ?_) (fun c12 => ?_)
    · rw [if_pos c12] at h
      refine zw_sub (lv' := [(0, .ref a0), (1, .int i1), (2, .int i2), (3, .int i3), (4, .int i4)]) (List.forall_mem_cons.mpr ⟨rfl, (List.forall_mem_cons.mpr ⟨rfl, (List.forall_mem_cons.mpr ⟨rfl, (List.forall_mem_cons.mpr ⟨rfl, (List.forall_mem_cons.mpr ⟨rfl, zs_nil⟩)⟩)⟩)⟩)⟩) ?_
      exact zt_X18_side_J46 hX hr hR hd h
    · rw [if_neg c12] at h
      refine zw_iload_n hX dX18_side_15 rfl ?_
      refine zw_if_lt (tgt := 46) hX dX18_side_16 (by decide) (fun c16 => ?_) (fun c16 => ?_)
      · rw [if_pos c16] at h
        refine zw_sub (lv' := [(0, .ref a0), (1, .int i1), (2, .int i2), (3, .int i3), (4, .int i4)]) (List.forall_mem_cons.mpr ⟨rfl, (List.forall_mem_cons.mpr ⟨rfl, (List.forall_mem_cons.mpr ⟨rfl, (List.forall_mem_cons.mpr ⟨rfl, (List.forall_mem_cons.mpr ⟨rfl, zs_nil⟩)⟩)⟩)⟩)⟩) ?_
        exact zt_X18_side_J46 hX hr hR hd h
      · rw [if_neg c16] at h
        refine zw_iload_n hX dX18_side_19 rfl ?_
        refine zw_aload_n hX dX18_side_20 rfl ?_
        obtain ⟨b14, g, h⟩ := zb_some h
        refine zw_getr hX zl_X18_12 dX18_side_21 g ?_
        refine zw_iload_n hX dX18_side_24 rfl ?_
        refine zw_iload_n hX dX18_side_25 rfl ?_
        obtain ⟨_, gi, h⟩ := zb_some h
        obtain ⟨r17, g, h⟩ := zb_some h
        refine zc_Vi (as := [.int i1, .int i2]) hX gi (zt_X16_sides (d := d - 1) (by omega) g) zl_X18_256 rfl dX18_side_26 ⟨rfl, rfl, Nat.le_of_ble_eq_true rfl⟩ ⟨by omega, by omega⟩ ?_
        refine zw_icmp_ge (tgt := 46) hX dX18_side_29 (by decide) (fun c29 => ?_) (fun c29 => ?_)
        · rw [if_pos c29] at h
          refine zw_sub (lv' := [(0, .ref a0), (1, .int i1), (2, .int i2), (3, .int i3), (4, .int i4)]) (List.forall_mem_cons.mpr ⟨rfl, (List.forall_mem_cons.mpr ⟨rfl, (List.forall_mem_cons.mpr ⟨rfl, (List.forall_mem_cons.mpr ⟨rfl, (List.forall_mem_cons.mpr ⟨rfl, zs_nil⟩)⟩)⟩)⟩)⟩) ?_
          exact zt_X18_side_J46 hX hr hR hd h
        · rw [if_neg c29] at h
          refine zw_iload hX dX18_side_32 rfl ?_
          refine zw_bipush (v := (6 : Int32)) hX dX18_side_34 (by decide) ?_
          obtain ⟨r20, g, h⟩ := zb_some h
          refine zc_Si (as := [.int i4, .int (6 : Int32)]) hX (zt_X18_isIn (d := d - 1) (by omega) g) zl_X18_207 dX18_side_36 ⟨rfl, rfl, Nat.le_of_ble_eq_true rfl⟩ ⟨by omega, by omega⟩ ?_
          refine zw_if_eq (tgt := 46) hX dX18_side_39 (by decide) (fun c39 => ?_) (fun c39 => ?_)
          · rw [if_pos c39] at h
            refine zw_sub (lv' := [(0, .ref a0), (1, .int i1), (2, .int i2), (3, .int i3), (4, .int i4)]) (List.forall_mem_cons.mpr ⟨rfl, (List.forall_mem_cons.mpr ⟨rfl, (List.forall_mem_cons.mpr ⟨rfl, (List.forall_mem_cons.mpr ⟨rfl, (List.forall_mem_cons.mpr ⟨rfl, zs_nil⟩)⟩)⟩)⟩)⟩) ?_
            exact zt_X18_side_J46 hX hr hR hd h
          · rw [if_neg c39] at h
            refine zw_iconst (v := (1 : Int32)) hX dX18_side_42 (by decide) ?_
            refine zw_goto (tgt := 47) hX dX18_side_43 (by decide) ?_
            refine zw_sub (lv' := [(0, .ref a0), (1, .int i1), (2, .int i2), (3, .int i3), (4, .int i4)]) (List.forall_mem_cons.mpr ⟨rfl, (List.forall_mem_cons.mpr ⟨rfl, (List.forall_mem_cons.mpr ⟨rfl, (List.forall_mem_cons.mpr ⟨rfl, (List.forall_mem_cons.mpr ⟨rfl, zs_nil⟩)⟩)⟩)⟩)⟩) ?_
            exact zt_X18_side_J47 hX hr hR hd h
def zf_X18_size_J25 (N : Nat) (a0 : Nat) (i1 : Int32) (i2 : Int32) (t0 : Nat) (t1 : Int32) (S : zm_S) : Option (Int32 × zm_S) := (zg_r S a0 18 3).bind (fun b5 => (zg_i S b5 16 10).bind (fun v6 => (zi S t0 18).bind (fun _ => (zf_X18_goes N t0 t1 v6 S).bind (fun r9 => if r9.1 = 0 then some ((0 : Int32), r9.2) else (zg_r r9.2 a0 18 3).bind (fun b10 => (zi r9.2 b10 16).bind (fun _ => (zf_X16_size N b10 i1 i2 r9.2).bind (fun r13 => some (r13.1, r13.2))))))))
set_option maxHeartbeats 4000000 in
set_option maxRecDepth 100000 in
theorem zt_X18_size_J25 {p : Program} {l : Launch} {e : Env} {R : Room} {s : State} {m : MethodId} {args : Array Value} {below : List Frame} {meth : Method} {c : Code} {V : zm_V} {mc ms d rc rs : Nat} (hX : zm_X p R s m args meth c RX18 "size" cX18_size 3 zk_E V mc ms) (hr : meth.sig.returnType = (some .int)) (hR : R.frames = d ∧ R.locals = 64 * d) (hd : 5 ≤ d) {N : Nat} {a0 : Nat} {i1 : Int32} {i2 : Int32} {t0 : Nat} {t1 : Int32} {out : (Int32 × zm_S)} {S : zm_S} (h : zf_X18_size_J25 N a0 i1 i2 t0 t1 S = some out) : zw p l e R s m args below meth c (vx_MQ below (zm_Qc zk_E V (zo_i out)) (zm_XC zk_E V zo_x) args s mc ms (fun q => V.2.2.2.1 ≤ q)) 3 zk_E V mc ms 25 [(0, .ref a0), (1, .int i1), (2, .int i2)] [.int t1, .ref t0] S rc rs := by
  unfold zf_X18_size_J25 at h
  refine zw_aload_n hX dX18_size_25 rfl ?_
  obtain ⟨b5, g, h⟩ := zb_some h
  refine zw_getr hX zl_X18_12 dX18_size_26 g ?_
  obtain ⟨v6, g, h⟩ := zb_some h
  refine zw_geti hX zl_X18_238 dX18_size_29 g ?_
  obtain ⟨_, gi, h⟩ := zb_some h
  obtain ⟨r9, g, h⟩ := zb_some h
  refine zc_Vi (as := [.int t1, .int v6]) hX gi (zt_X18_goes (d := d - 1) (by omega) g) zl_X18_199 rfl dX18_size_32 ⟨rfl, rfl, Nat.le_of_ble_eq_true rfl⟩ ⟨by omega, by omega⟩ ?_
  refine zw_if_eq (tgt := 50) hX dX18_size_35 (by decide) (fun c35 => ?_) (fun c35 => ?_)
  · rw [if_pos c35] at h
    refine zw_iconst (v := (0 : Int32)) hX dX18_size_50 (by decide) ?_
    obtain rfl := Option.some.inj h
    exact zw_iret hX hr dX18_size_51 rfl ⟨rfl, rfl⟩
  · rw [if_neg c35] at h
    refine zw_aload_n hX dX18_size_38 rfl ?_
    obtain ⟨b10, g, h⟩ := zb_some h
    refine zw_getr hX zl_X18_12 dX18_size_39 g ?_
    refine zw_iload_n hX dX18_size_42 rfl ?_
    refine zw_iload_n hX dX18_size_43 rfl ?_
    obtain ⟨_, gi, h⟩ := zb_some h
    obtain ⟨r13, g, h⟩ := zb_some h
    refine zc_Vi (as := [.int i1, .int i2]) hX gi (zt_X16_size (d := d - 1) (by omega) g) zl_X18_263 rfl dX18_size_44 ⟨rfl, rfl, Nat.le_of_ble_eq_true rfl⟩ ⟨by omega, by omega⟩ ?_
    refine zw_goto (tgt := 51) hX dX18_size_47 (by decide) ?_
    obtain rfl := Option.some.inj h
    exact zw_iret hX hr dX18_size_51 rfl ⟨rfl, rfl⟩
def zf_X18_size_J24 (N : Nat) (a0 : Nat) (i1 : Int32) (i2 : Int32) (t0 : Nat) (S : zm_S) : Option (Int32 × zm_S) := zf_X18_size_J25 N a0 i1 i2 t0 (0 : Int32) S
set_option maxHeartbeats 4000000 in
set_option maxRecDepth 100000 in
theorem zt_X18_size_J24 {p : Program} {l : Launch} {e : Env} {R : Room} {s : State} {m : MethodId} {args : Array Value} {below : List Frame} {meth : Method} {c : Code} {V : zm_V} {mc ms d rc rs : Nat} (hX : zm_X p R s m args meth c RX18 "size" cX18_size 3 zk_E V mc ms) (hr : meth.sig.returnType = (some .int)) (hR : R.frames = d ∧ R.locals = 64 * d) (hd : 5 ≤ d) {N : Nat} {a0 : Nat} {i1 : Int32} {i2 : Int32} {t0 : Nat} {out : (Int32 × zm_S)} {S : zm_S} (h : zf_X18_size_J24 N a0 i1 i2 t0 S = some out) : zw p l e R s m args below meth c (vx_MQ below (zm_Qc zk_E V (zo_i out)) (zm_XC zk_E V zo_x) args s mc ms (fun q => V.2.2.2.1 ≤ q)) 3 zk_E V mc ms 24 [(0, .ref a0), (1, .int i1), (2, .int i2)] [.ref t0] S rc rs := by
  unfold zf_X18_size_J24 at h
  refine zw_iconst (v := (0 : Int32)) hX dX18_size_24 (by decide) ?_
  refine zw_sub (lv' := [(0, .ref a0), (1, .int i1), (2, .int i2)]) (List.forall_mem_cons.mpr ⟨rfl, (List.forall_mem_cons.mpr ⟨rfl, (List.forall_mem_cons.mpr ⟨rfl, zs_nil⟩)⟩)⟩) ?_
  exact zt_X18_size_J25 hX hr hR hd h
def zf_X18_size (N : Nat) (a0 : Nat) (i1 : Int32) (i2 : Int32) (S : zm_S) : Option (Int32 × zm_S) := (zg_r S a0 18 3).bind (fun b1 => (zi S b1 16).bind (fun _ => (zf_X16_isSpace N b1 i1 S).bind (fun r4 => if r4.1 = 0 then zf_X18_size_J24 N a0 i1 i2 a0 r4.2 else (zf_X18_isIn N i2 (3 : Int32) r4.2).bind (fun r16 => if r16.1 = 0 then zf_X18_size_J24 N a0 i1 i2 a0 r16.2 else zf_X18_size_J25 N a0 i1 i2 a0 (1 : Int32) r16.2))))
set_option maxHeartbeats 4000000 in
set_option maxRecDepth 100000 in
theorem zt_X18_size {l : Launch} {V : zm_V} {N : Nat} {S : zm_S} {out : (Int32 × zm_S)} {d : Nat} {a0 : Nat} {i1 : Int32} {i2 : Int32} (hd : 5 ≤ d) (h : zf_X18_size N a0 i1 i2 S = some out) : zm_Met l zk_E V yX18_size (.code yX18_size cX18_size 3 (some .int)) d [.ref a0, .int i1, .int i2] S 0 0 (zo_i out) zo_x := by
  refine zm_of (by decide +kernel) (Nat.le_of_ble_eq_true rfl) ?_
  intro p e R s m args below meth c hRR hX hr hxt
  have hR : R.frames = d ∧ R.locals = 64 * d := by rw [hRR]; exact ⟨rfl, rfl⟩
  have hX : zm_X p R s m args meth c RX18 "size" cX18_size 3 zk_E V 0 0 := hX
  unfold zf_X18_size at h
  refine zw_sub (lv' := [(0, .ref a0), (1, .int i1), (2, .int i2)]) (List.forall_mem_cons.mpr ⟨rfl, (List.forall_mem_cons.mpr ⟨rfl, (List.forall_mem_cons.mpr ⟨rfl, zs_nil⟩)⟩)⟩) ?_
  refine zw_aload_n hX dX18_size_0 rfl ?_
  refine zw_aload_n hX dX18_size_1 rfl ?_
  obtain ⟨b1, g, h⟩ := zb_some h
  refine zw_getr hX zl_X18_12 dX18_size_2 g ?_
  refine zw_iload_n hX dX18_size_5 rfl ?_
  obtain ⟨_, gi, h⟩ := zb_some h
  obtain ⟨r4, g, h⟩ := zb_some h
  refine zc_Vi (as := [.int i1]) hX gi (zt_X16_isSpace (d := d - 1) (by omega) g) zl_X18_253 rfl dX18_size_6 ⟨rfl, rfl, Nat.le_of_ble_eq_true rfl⟩ ⟨by omega, by omega⟩ ?_
  refine zw_if_eq (tgt := 24) hX dX18_size_9 (by decide) (fun c9 => ?_) (fun c9 => ?_)
  · rw [if_pos c9] at h
    refine zw_sub (lv' := [(0, .ref a0), (1, .int i1), (2, .int i2)]) (List.forall_mem_cons.mpr ⟨rfl, (List.forall_mem_cons.mpr ⟨rfl, (List.forall_mem_cons.mpr ⟨rfl, zs_nil⟩)⟩)⟩) ?_
    exact zt_X18_size_J24 hX hr hR hd h
  · rw [if_neg c9] at h
    refine zw_iload_n hX dX18_size_12 rfl ?_
    refine zw_iconst (v := (3 : Int32)) hX dX18_size_13 (by decide) ?_
    obtain ⟨r16, g, h⟩ := zb_some h
    refine zc_Si (as := [.int i2, .int (3 : Int32)]) hX (zt_X18_isIn (d := d - 1) (by omega) g) zl_X18_207 dX18_size_14 ⟨rfl, rfl, Nat.le_of_ble_eq_true rfl⟩ ⟨by omega, by omega⟩ ?_
    refine zw_if_eq (tgt := 24) hX dX18_size_17 (by decide) (fun c17 => ?_) (fun c17 => ?_)
    · rw [if_pos c17] at h
      refine zw_sub (lv' := [(0, .ref a0), (1, .int i1), (2, .int i2)]) (List.forall_mem_cons.mpr ⟨rfl, (List.forall_mem_cons.mpr ⟨rfl, (List.forall_mem_cons.mpr ⟨rfl, zs_nil⟩)⟩)⟩) ?_
      exact zt_X18_size_J24 hX hr hR hd h
    · rw [if_neg c17] at h
      refine zw_iconst (v := (1 : Int32)) hX dX18_size_20 (by decide) ?_
      refine zw_goto (tgt := 25) hX dX18_size_21 (by decide) ?_
      refine zw_sub (lv' := [(0, .ref a0), (1, .int i1), (2, .int i2)]) (List.forall_mem_cons.mpr ⟨rfl, (List.forall_mem_cons.mpr ⟨rfl, (List.forall_mem_cons.mpr ⟨rfl, zs_nil⟩)⟩)⟩) ?_
      exact zt_X18_size_J25 hX hr hR hd h
def zf_X18_isCell (N : Nat) (i0 : Int32) (i1 : Int32) (S : zm_S) : Option (Int32 × zm_S) := (zf_X18_isIn N i0 (24 : Int32) S).bind (fun r3 => if r3.1 = 0 then some ((0 : Int32), r3.2) else (zf_X18_isIn N i1 (24 : Int32) r3.2).bind (fun r6 => if r6.1 = 0 then some ((0 : Int32), r6.2) else some ((1 : Int32), r6.2)))
set_option maxHeartbeats 4000000 in
set_option maxRecDepth 100000 in
theorem zt_X18_isCell {l : Launch} {V : zm_V} {N : Nat} {S : zm_S} {out : (Int32 × zm_S)} {d : Nat} {i0 : Int32} {i1 : Int32} (hd : 2 ≤ d) (h : zf_X18_isCell N i0 i1 S = some out) : zm_Met l zk_E V yX18_isCell (.code yX18_isCell cX18_isCell 2 (some .boolean)) d [.int i0, .int i1] S 0 0 (zo_i out) zo_x := by
  refine zm_of (by decide +kernel) (Nat.le_of_ble_eq_true rfl) ?_
  intro p e R s m args below meth c hRR hX hr hxt
  have hR : R.frames = d ∧ R.locals = 64 * d := by rw [hRR]; exact ⟨rfl, rfl⟩
  have hX : zm_X p R s m args meth c RX18 "isCell" cX18_isCell 2 zk_E V 0 0 := hX
  unfold zf_X18_isCell at h
  refine zw_sub (lv' := [(0, .int i0), (1, .int i1)]) (List.forall_mem_cons.mpr ⟨rfl, (List.forall_mem_cons.mpr ⟨rfl, zs_nil⟩)⟩) ?_
  refine zw_iload_n hX dX18_isCell_0 rfl ?_
  refine zw_bipush (v := (24 : Int32)) hX dX18_isCell_1 (by decide) ?_
  obtain ⟨r3, g, h⟩ := zb_some h
  refine zc_Si (as := [.int i0, .int (24 : Int32)]) hX (zt_X18_isIn (d := d - 1) (by omega) g) zl_X18_207 dX18_isCell_3 ⟨rfl, rfl, Nat.le_of_ble_eq_true rfl⟩ ⟨by omega, by omega⟩ ?_
  refine zw_if_eq (tgt := 22) hX dX18_isCell_6 (by decide) (fun c6 => ?_) (fun c6 => ?_)
  · rw [if_pos c6] at h
    refine zw_iconst (v := (0 : Int32)) hX dX18_isCell_22 (by decide) ?_
    obtain rfl := Option.some.inj h
    exact zw_iret hX hr dX18_isCell_23 rfl ⟨rfl, rfl⟩
  · rw [if_neg c6] at h
    refine zw_iload_n hX dX18_isCell_9 rfl ?_
    refine zw_bipush (v := (24 : Int32)) hX dX18_isCell_10 (by decide) ?_
    obtain ⟨r6, g, h⟩ := zb_some h
    refine zc_Si (as := [.int i1, .int (24 : Int32)]) hX (zt_X18_isIn (d := d - 1) (by omega) g) zl_X18_207 dX18_isCell_12 ⟨rfl, rfl, Nat.le_of_ble_eq_true rfl⟩ ⟨by omega, by omega⟩ ?_
    refine zw_if_eq (tgt := 22) hX dX18_isCell_15 (by decide) (fun c15 => ?_) (fun c15 => ?_)
    · rw [if_pos c15] at h
      refine zw_iconst (v := (0 : Int32)) hX dX18_isCell_22 (by decide) ?_
      obtain rfl := Option.some.inj h
      exact zw_iret hX hr dX18_isCell_23 rfl ⟨rfl, rfl⟩
    · rw [if_neg c15] at h
      refine zw_iconst (v := (1 : Int32)) hX dX18_isCell_18 (by decide) ?_
      refine zw_goto (tgt := 23) hX dX18_isCell_19 (by decide) ?_
      obtain rfl := Option.some.inj h
      exact zw_iret hX hr dX18_isCell_23 rfl ⟨rfl, rfl⟩
def zf_X18_at (N : Nat) (a0 : Nat) (i1 : Int32) (i2 : Int32) (S : zm_S) : Option (Int32 × zm_S) := (zf_X18_isCell N i1 i2 S).bind (fun r3 => (zg_r r3.2 a0 18 3).bind (fun b4 => (zg_i r3.2 b4 16 10).bind (fun v5 => (zi r3.2 a0 18).bind (fun _ => (zf_X18_goes N a0 r3.1 v5 r3.2).bind (fun r8 => if r8.1 = 0 then some ((0 : Int32), r8.2) else (zg_r r8.2 a0 18 3).bind (fun b9 => (zi r8.2 b9 16).bind (fun _ => (zf_X16_at N b9 i1 i2 r8.2).bind (fun r12 => some (r12.1, r12.2)))))))))
set_option maxHeartbeats 4000000 in
set_option maxRecDepth 100000 in
theorem zt_X18_at {l : Launch} {V : zm_V} {N : Nat} {S : zm_S} {out : (Int32 × zm_S)} {d : Nat} {a0 : Nat} {i1 : Int32} {i2 : Int32} (hd : 3 ≤ d) (h : zf_X18_at N a0 i1 i2 S = some out) : zm_Met l zk_E V yX18_at (.code yX18_at cX18_at 3 (some .int)) d [.ref a0, .int i1, .int i2] S 0 0 (zo_i out) zo_x := by
  refine zm_of (by decide +kernel) (Nat.le_of_ble_eq_true rfl) ?_
  intro p e R s m args below meth c hRR hX hr hxt
  have hR : R.frames = d ∧ R.locals = 64 * d := by rw [hRR]; exact ⟨rfl, rfl⟩
  have hX : zm_X p R s m args meth c RX18 "at" cX18_at 3 zk_E V 0 0 := hX
  unfold zf_X18_at at h
  refine zw_sub (lv' := [(0, .ref a0), (1, .int i1), (2, .int i2)]) (List.forall_mem_cons.mpr ⟨rfl, (List.forall_mem_cons.mpr ⟨rfl, (List.forall_mem_cons.mpr ⟨rfl, zs_nil⟩)⟩)⟩) ?_
  refine zw_aload_n hX dX18_at_0 rfl ?_
  refine zw_iload_n hX dX18_at_1 rfl ?_
  refine zw_iload_n hX dX18_at_2 rfl ?_
  obtain ⟨r3, g, h⟩ := zb_some h
  refine zc_Si (as := [.int i1, .int i2]) hX (zt_X18_isCell (d := d - 1) (by omega) g) zl_X18_266 dX18_at_3 ⟨rfl, rfl, Nat.le_of_ble_eq_true rfl⟩ ⟨by omega, by omega⟩ ?_
  refine zw_aload_n hX dX18_at_6 rfl ?_
  obtain ⟨b4, g, h⟩ := zb_some h
  refine zw_getr hX zl_X18_12 dX18_at_7 g ?_
  obtain ⟨v5, g, h⟩ := zb_some h
  refine zw_geti hX zl_X18_238 dX18_at_10 g ?_
  obtain ⟨_, gi, h⟩ := zb_some h
  obtain ⟨r8, g, h⟩ := zb_some h
  refine zc_Vi (as := [.int r3.1, .int v5]) hX gi (zt_X18_goes (d := d - 1) (by omega) g) zl_X18_199 rfl dX18_at_13 ⟨rfl, rfl, Nat.le_of_ble_eq_true rfl⟩ ⟨by omega, by omega⟩ ?_
  refine zw_if_eq (tgt := 31) hX dX18_at_16 (by decide) (fun c16 => ?_) (fun c16 => ?_)
  · rw [if_pos c16] at h
    refine zw_iconst (v := (0 : Int32)) hX dX18_at_31 (by decide) ?_
    obtain rfl := Option.some.inj h
    exact zw_iret hX hr dX18_at_32 rfl ⟨rfl, rfl⟩
  · rw [if_neg c16] at h
    refine zw_aload_n hX dX18_at_19 rfl ?_
    obtain ⟨b9, g, h⟩ := zb_some h
    refine zw_getr hX zl_X18_12 dX18_at_20 g ?_
    refine zw_iload_n hX dX18_at_23 rfl ?_
    refine zw_iload_n hX dX18_at_24 rfl ?_
    obtain ⟨_, gi, h⟩ := zb_some h
    obtain ⟨r12, g, h⟩ := zb_some h
    refine zc_Vi (as := [.int i1, .int i2]) hX gi (zt_X16_at (d := d - 1) (by omega) g) zl_X18_269 rfl dX18_at_25 ⟨rfl, rfl, Nat.le_of_ble_eq_true rfl⟩ ⟨by omega, by omega⟩ ?_
    refine zw_goto (tgt := 32) hX dX18_at_28 (by decide) ?_
    obtain rfl := Option.some.inj h
    exact zw_iret hX hr dX18_at_32 rfl ⟨rfl, rfl⟩
def zf_X18_between_J28 (N : Nat) (a0 : Nat) (i1 : Int32) (i2 : Int32) (t0 : Nat) (t1 : Int32) (S : zm_S) : Option (Int32 × zm_S) := (zg_r S a0 18 3).bind (fun b5 => (zg_i S b5 16 10).bind (fun v6 => (zi S t0 18).bind (fun _ => (zf_X18_goes N t0 t1 v6 S).bind (fun r9 => if r9.1 = 0 then some ((0 : Int32), r9.2) else (zg_r r9.2 a0 18 3).bind (fun b10 => (zi r9.2 b10 16).bind (fun _ => (zf_X16_between N b10 i1 i2 r9.2).bind (fun r13 => some (r13.1, r13.2))))))))
set_option maxHeartbeats 4000000 in
set_option maxRecDepth 100000 in
theorem zt_X18_between_J28 {p : Program} {l : Launch} {e : Env} {R : Room} {s : State} {m : MethodId} {args : Array Value} {below : List Frame} {meth : Method} {c : Code} {V : zm_V} {mc ms d rc rs : Nat} (hX : zm_X p R s m args meth c RX18 "between" cX18_between 3 zk_E V mc ms) (hr : meth.sig.returnType = (some .int)) (hR : R.frames = d ∧ R.locals = 64 * d) (hd : 6 ≤ d) {N : Nat} {a0 : Nat} {i1 : Int32} {i2 : Int32} {t0 : Nat} {t1 : Int32} {out : (Int32 × zm_S)} {S : zm_S} (h : zf_X18_between_J28 N a0 i1 i2 t0 t1 S = some out) : zw p l e R s m args below meth c (vx_MQ below (zm_Qc zk_E V (zo_i out)) (zm_XC zk_E V zo_x) args s mc ms (fun q => V.2.2.2.1 ≤ q)) 3 zk_E V mc ms 28 [(0, .ref a0), (1, .int i1), (2, .int i2)] [.int t1, .ref t0] S rc rs := by
  unfold zf_X18_between_J28 at h
  refine zw_aload_n hX dX18_between_28 rfl ?_
  obtain ⟨b5, g, h⟩ := zb_some h
  refine zw_getr hX zl_X18_12 dX18_between_29 g ?_
  obtain ⟨v6, g, h⟩ := zb_some h
  refine zw_geti hX zl_X18_238 dX18_between_32 g ?_
  obtain ⟨_, gi, h⟩ := zb_some h
  obtain ⟨r9, g, h⟩ := zb_some h
  refine zc_Vi (as := [.int t1, .int v6]) hX gi (zt_X18_goes (d := d - 1) (by omega) g) zl_X18_199 rfl dX18_between_35 ⟨rfl, rfl, Nat.le_of_ble_eq_true rfl⟩ ⟨by omega, by omega⟩ ?_
  refine zw_if_eq (tgt := 53) hX dX18_between_38 (by decide) (fun c38 => ?_) (fun c38 => ?_)
  · rw [if_pos c38] at h
    refine zw_iconst (v := (0 : Int32)) hX dX18_between_53 (by decide) ?_
    obtain rfl := Option.some.inj h
    exact zw_iret hX hr dX18_between_54 rfl ⟨rfl, rfl⟩
  · rw [if_neg c38] at h
    refine zw_aload_n hX dX18_between_41 rfl ?_
    obtain ⟨b10, g, h⟩ := zb_some h
    refine zw_getr hX zl_X18_12 dX18_between_42 g ?_
    refine zw_iload_n hX dX18_between_45 rfl ?_
    refine zw_iload_n hX dX18_between_46 rfl ?_
    obtain ⟨_, gi, h⟩ := zb_some h
    obtain ⟨r13, g, h⟩ := zb_some h
    refine zc_Vi (as := [.int i1, .int i2]) hX gi (zt_X16_between (d := d - 1) (by omega) g) zl_X18_275 rfl dX18_between_47 ⟨rfl, rfl, Nat.le_of_ble_eq_true rfl⟩ ⟨by omega, by omega⟩ ?_
    refine zw_goto (tgt := 54) hX dX18_between_50 (by decide) ?_
    obtain rfl := Option.some.inj h
    exact zw_iret hX hr dX18_between_54 rfl ⟨rfl, rfl⟩
def zf_X18_between_J27 (N : Nat) (a0 : Nat) (i1 : Int32) (i2 : Int32) (t0 : Nat) (S : zm_S) : Option (Int32 × zm_S) := zf_X18_between_J28 N a0 i1 i2 t0 (0 : Int32) S
set_option maxHeartbeats 4000000 in
set_option maxRecDepth 100000 in
theorem zt_X18_between_J27 {p : Program} {l : Launch} {e : Env} {R : Room} {s : State} {m : MethodId} {args : Array Value} {below : List Frame} {meth : Method} {c : Code} {V : zm_V} {mc ms d rc rs : Nat} (hX : zm_X p R s m args meth c RX18 "between" cX18_between 3 zk_E V mc ms) (hr : meth.sig.returnType = (some .int)) (hR : R.frames = d ∧ R.locals = 64 * d) (hd : 6 ≤ d) {N : Nat} {a0 : Nat} {i1 : Int32} {i2 : Int32} {t0 : Nat} {out : (Int32 × zm_S)} {S : zm_S} (h : zf_X18_between_J27 N a0 i1 i2 t0 S = some out) : zw p l e R s m args below meth c (vx_MQ below (zm_Qc zk_E V (zo_i out)) (zm_XC zk_E V zo_x) args s mc ms (fun q => V.2.2.2.1 ≤ q)) 3 zk_E V mc ms 27 [(0, .ref a0), (1, .int i1), (2, .int i2)] [.ref t0] S rc rs := by
  unfold zf_X18_between_J27 at h
  refine zw_iconst (v := (0 : Int32)) hX dX18_between_27 (by decide) ?_
  refine zw_sub (lv' := [(0, .ref a0), (1, .int i1), (2, .int i2)]) (List.forall_mem_cons.mpr ⟨rfl, (List.forall_mem_cons.mpr ⟨rfl, (List.forall_mem_cons.mpr ⟨rfl, zs_nil⟩)⟩)⟩) ?_
  exact zt_X18_between_J28 hX hr hR hd h
def zf_X18_between (N : Nat) (a0 : Nat) (i1 : Int32) (i2 : Int32) (S : zm_S) : Option (Int32 × zm_S) := (zg_r S a0 18 3).bind (fun b1 => (zi S b1 16).bind (fun _ => (zf_X16_isSpace N b1 i1 S).bind (fun r4 => if r4.1 = 0 then zf_X18_between_J27 N a0 i1 i2 a0 r4.2 else (zg_r r4.2 a0 18 3).bind (fun b14 => (zi r4.2 b14 16).bind (fun _ => (zf_X16_isAny N b14 i2 r4.2).bind (fun r17 => if r17.1 = 0 then zf_X18_between_J27 N a0 i1 i2 a0 r17.2 else zf_X18_between_J28 N a0 i1 i2 a0 (1 : Int32) r17.2))))))
set_option maxHeartbeats 4000000 in
set_option maxRecDepth 100000 in
theorem zt_X18_between {l : Launch} {V : zm_V} {N : Nat} {S : zm_S} {out : (Int32 × zm_S)} {d : Nat} {a0 : Nat} {i1 : Int32} {i2 : Int32} (hd : 6 ≤ d) (h : zf_X18_between N a0 i1 i2 S = some out) : zm_Met l zk_E V yX18_between (.code yX18_between cX18_between 3 (some .int)) d [.ref a0, .int i1, .int i2] S 0 0 (zo_i out) zo_x := by
  refine zm_of (by decide +kernel) (Nat.le_of_ble_eq_true rfl) ?_
  intro p e R s m args below meth c hRR hX hr hxt
  have hR : R.frames = d ∧ R.locals = 64 * d := by rw [hRR]; exact ⟨rfl, rfl⟩
  have hX : zm_X p R s m args meth c RX18 "between" cX18_between 3 zk_E V 0 0 := hX
  unfold zf_X18_between at h
  refine zw_sub (lv' := [(0, .ref a0), (1, .int i1), (2, .int i2)]) (List.forall_mem_cons.mpr ⟨rfl, (List.forall_mem_cons.mpr ⟨rfl, (List.forall_mem_cons.mpr ⟨rfl, zs_nil⟩)⟩)⟩) ?_
  refine zw_aload_n hX dX18_between_0 rfl ?_
  refine zw_aload_n hX dX18_between_1 rfl ?_
  obtain ⟨b1, g, h⟩ := zb_some h
  refine zw_getr hX zl_X18_12 dX18_between_2 g ?_
  refine zw_iload_n hX dX18_between_5 rfl ?_
  obtain ⟨_, gi, h⟩ := zb_some h
  obtain ⟨r4, g, h⟩ := zb_some h
  refine zc_Vi (as := [.int i1]) hX gi (zt_X16_isSpace (d := d - 1) (by omega) g) zl_X18_253 rfl dX18_between_6 ⟨rfl, rfl, Nat.le_of_ble_eq_true rfl⟩ ⟨by omega, by omega⟩ ?_
  refine zw_if_eq (tgt := 27) hX dX18_between_9 (by decide) (fun c9 => ?_) (fun c9 => ?_)
  · rw [if_pos c9] at h
    refine zw_sub (lv' := [(0, .ref a0), (1, .int i1), (2, .int i2)]) (List.forall_mem_cons.mpr ⟨rfl, (List.forall_mem_cons.mpr ⟨rfl, (List.forall_mem_cons.mpr ⟨rfl, zs_nil⟩)⟩)⟩) ?_
    exact zt_X18_between_J27 hX hr hR hd h
  · rw [if_neg c9] at h
    refine zw_aload_n hX dX18_between_12 rfl ?_
    obtain ⟨b14, g, h⟩ := zb_some h
    refine zw_getr hX zl_X18_12 dX18_between_13 g ?_
    refine zw_iload_n hX dX18_between_16 rfl ?_
    obtain ⟨_, gi, h⟩ := zb_some h
    obtain ⟨r17, g, h⟩ := zb_some h
    refine zc_Vi (as := [.int i2]) hX gi (zt_X16_isAny (d := d - 1) (by omega) g) zl_X18_272 rfl dX18_between_17 ⟨rfl, rfl, Nat.le_of_ble_eq_true rfl⟩ ⟨by omega, by omega⟩ ?_
    refine zw_if_eq (tgt := 27) hX dX18_between_20 (by decide) (fun c20 => ?_) (fun c20 => ?_)
    · rw [if_pos c20] at h
      refine zw_sub (lv' := [(0, .ref a0), (1, .int i1), (2, .int i2)]) (List.forall_mem_cons.mpr ⟨rfl, (List.forall_mem_cons.mpr ⟨rfl, (List.forall_mem_cons.mpr ⟨rfl, zs_nil⟩)⟩)⟩) ?_
      exact zt_X18_between_J27 hX hr hR hd h
    · rw [if_neg c20] at h
      refine zw_iconst (v := (1 : Int32)) hX dX18_between_23 (by decide) ?_
      refine zw_goto (tgt := 28) hX dX18_between_24 (by decide) ?_
      refine zw_sub (lv' := [(0, .ref a0), (1, .int i1), (2, .int i2)]) (List.forall_mem_cons.mpr ⟨rfl, (List.forall_mem_cons.mpr ⟨rfl, (List.forall_mem_cons.mpr ⟨rfl, zs_nil⟩)⟩)⟩) ?_
      exact zt_X18_between_J28 hX hr hR hd h
def zf_X18_way_J28 (N : Nat) (a0 : Nat) (i1 : Int32) (i2 : Int32) (t0 : Nat) (t1 : Int32) (S : zm_S) : Option (Int32 × zm_S) := (zg_r S a0 18 3).bind (fun b5 => (zg_i S b5 16 10).bind (fun v6 => (zi S t0 18).bind (fun _ => (zf_X18_goes N t0 t1 v6 S).bind (fun r9 => if r9.1 = 0 then some ((0 : Int32), r9.2) else (zg_r r9.2 a0 18 3).bind (fun b10 => (zi r9.2 b10 16).bind (fun _ => (zf_X16_way N b10 i1 i2 r9.2).bind (fun r13 => some (r13.1, r13.2))))))))
set_option maxHeartbeats 4000000 in
set_option maxRecDepth 100000 in
theorem zt_X18_way_J28 {p : Program} {l : Launch} {e : Env} {R : Room} {s : State} {m : MethodId} {args : Array Value} {below : List Frame} {meth : Method} {c : Code} {V : zm_V} {mc ms d rc rs : Nat} (hX : zm_X p R s m args meth c RX18 "way" cX18_way 3 zk_E V mc ms) (hr : meth.sig.returnType = (some .int)) (hR : R.frames = d ∧ R.locals = 64 * d) (hd : 5 ≤ d) {N : Nat} {a0 : Nat} {i1 : Int32} {i2 : Int32} {t0 : Nat} {t1 : Int32} {out : (Int32 × zm_S)} {S : zm_S} (h : zf_X18_way_J28 N a0 i1 i2 t0 t1 S = some out) : zw p l e R s m args below meth c (vx_MQ below (zm_Qc zk_E V (zo_i out)) (zm_XC zk_E V zo_x) args s mc ms (fun q => V.2.2.2.1 ≤ q)) 3 zk_E V mc ms 28 [(0, .ref a0), (1, .int i1), (2, .int i2)] [.int t1, .ref t0] S rc rs := by
  unfold zf_X18_way_J28 at h
  refine zw_aload_n hX dX18_way_28 rfl ?_
  obtain ⟨b5, g, h⟩ := zb_some h
  refine zw_getr hX zl_X18_12 dX18_way_29 g ?_
  obtain ⟨v6, g, h⟩ := zb_some h
  refine zw_geti hX zl_X18_238 dX18_way_32 g ?_
  obtain ⟨_, gi, h⟩ := zb_some h
  obtain ⟨r9, g, h⟩ := zb_some h
  refine zc_Vi (as := [.int t1, .int v6]) hX gi (zt_X18_goes (d := d - 1) (by omega) g) zl_X18_199 rfl dX18_way_35 ⟨rfl, rfl, Nat.le_of_ble_eq_true rfl⟩ ⟨by omega, by omega⟩ ?_
  refine zw_if_eq (tgt := 53) hX dX18_way_38 (by decide) (fun c38 => ?_) (fun c38 => ?_)
  · rw [if_pos c38] at h
    refine zw_iconst (v := (0 : Int32)) hX dX18_way_53 (by decide) ?_
    obtain rfl := Option.some.inj h
    exact zw_iret hX hr dX18_way_54 rfl ⟨rfl, rfl⟩
  · rw [if_neg c38] at h
    refine zw_aload_n hX dX18_way_41 rfl ?_
    obtain ⟨b10, g, h⟩ := zb_some h
    refine zw_getr hX zl_X18_12 dX18_way_42 g ?_
    refine zw_iload_n hX dX18_way_45 rfl ?_
    refine zw_iload_n hX dX18_way_46 rfl ?_
    obtain ⟨_, gi, h⟩ := zb_some h
    obtain ⟨r13, g, h⟩ := zb_some h
    refine zc_Vi (as := [.int i1, .int i2]) hX gi (zt_X16_way (d := d - 1) (by omega) g) zl_X18_278 rfl dX18_way_47 ⟨rfl, rfl, Nat.le_of_ble_eq_true rfl⟩ ⟨by omega, by omega⟩ ?_
    refine zw_goto (tgt := 54) hX dX18_way_50 (by decide) ?_
    obtain rfl := Option.some.inj h
    exact zw_iret hX hr dX18_way_54 rfl ⟨rfl, rfl⟩
def zf_X18_way_J27 (N : Nat) (a0 : Nat) (i1 : Int32) (i2 : Int32) (t0 : Nat) (S : zm_S) : Option (Int32 × zm_S) := zf_X18_way_J28 N a0 i1 i2 t0 (0 : Int32) S
set_option maxHeartbeats 4000000 in
set_option maxRecDepth 100000 in
theorem zt_X18_way_J27 {p : Program} {l : Launch} {e : Env} {R : Room} {s : State} {m : MethodId} {args : Array Value} {below : List Frame} {meth : Method} {c : Code} {V : zm_V} {mc ms d rc rs : Nat} (hX : zm_X p R s m args meth c RX18 "way" cX18_way 3 zk_E V mc ms) (hr : meth.sig.returnType = (some .int)) (hR : R.frames = d ∧ R.locals = 64 * d) (hd : 5 ≤ d) {N : Nat} {a0 : Nat} {i1 : Int32} {i2 : Int32} {t0 : Nat} {out : (Int32 × zm_S)} {S : zm_S} (h : zf_X18_way_J27 N a0 i1 i2 t0 S = some out) : zw p l e R s m args below meth c (vx_MQ below (zm_Qc zk_E V (zo_i out)) (zm_XC zk_E V zo_x) args s mc ms (fun q => V.2.2.2.1 ≤ q)) 3 zk_E V mc ms 27 [(0, .ref a0), (1, .int i1), (2, .int i2)] [.ref t0] S rc rs := by
  unfold zf_X18_way_J27 at h
  refine zw_iconst (v := (0 : Int32)) hX dX18_way_27 (by decide) ?_
  refine zw_sub (lv' := [(0, .ref a0), (1, .int i1), (2, .int i2)]) (List.forall_mem_cons.mpr ⟨rfl, (List.forall_mem_cons.mpr ⟨rfl, (List.forall_mem_cons.mpr ⟨rfl, zs_nil⟩)⟩)⟩) ?_
  exact zt_X18_way_J28 hX hr hR hd h
def zf_X18_way (N : Nat) (a0 : Nat) (i1 : Int32) (i2 : Int32) (S : zm_S) : Option (Int32 × zm_S) := (zg_r S a0 18 3).bind (fun b1 => (zi S b1 16).bind (fun _ => (zf_X16_isAny N b1 i1 S).bind (fun r4 => if r4.1 = 0 then zf_X18_way_J27 N a0 i1 i2 a0 r4.2 else (zg_r r4.2 a0 18 3).bind (fun b14 => (zi r4.2 b14 16).bind (fun _ => (zf_X16_isAny N b14 i2 r4.2).bind (fun r17 => if r17.1 = 0 then zf_X18_way_J27 N a0 i1 i2 a0 r17.2 else zf_X18_way_J28 N a0 i1 i2 a0 (1 : Int32) r17.2))))))
set_option maxHeartbeats 4000000 in
set_option maxRecDepth 100000 in
theorem zt_X18_way {l : Launch} {V : zm_V} {N : Nat} {S : zm_S} {out : (Int32 × zm_S)} {d : Nat} {a0 : Nat} {i1 : Int32} {i2 : Int32} (hd : 5 ≤ d) (h : zf_X18_way N a0 i1 i2 S = some out) : zm_Met l zk_E V yX18_way (.code yX18_way cX18_way 3 (some .int)) d [.ref a0, .int i1, .int i2] S 0 0 (zo_i out) zo_x := by
  refine zm_of (by decide +kernel) (Nat.le_of_ble_eq_true rfl) ?_
  intro p e R s m args below meth c hRR hX hr hxt
  have hR : R.frames = d ∧ R.locals = 64 * d := by rw [hRR]; exact ⟨rfl, rfl⟩
  have hX : zm_X p R s m args meth c RX18 "way" cX18_way 3 zk_E V 0 0 := hX
  unfold zf_X18_way at h
  refine zw_sub (lv' := [(0, .ref a0), (1, .int i1), (2, .int i2)]) (List.forall_mem_cons.mpr ⟨rfl, (List.forall_mem_cons.mpr ⟨rfl, (List.forall_mem_cons.mpr ⟨rfl, zs_nil⟩)⟩)⟩) ?_
  refine zw_aload_n hX dX18_way_0 rfl ?_
  refine zw_aload_n hX dX18_way_1 rfl ?_
  obtain ⟨b1, g, h⟩ := zb_some h
  refine zw_getr hX zl_X18_12 dX18_way_2 g ?_
  refine zw_iload_n hX dX18_way_5 rfl ?_
  obtain ⟨_, gi, h⟩ := zb_some h
  obtain ⟨r4, g, h⟩ := zb_some h
  refine zc_Vi (as := [.int i1]) hX gi (zt_X16_isAny (d := d - 1) (by omega) g) zl_X18_272 rfl dX18_way_6 ⟨rfl, rfl, Nat.le_of_ble_eq_true rfl⟩ ⟨by omega, by omega⟩ ?_
  refine zw_if_eq (tgt := 27) hX dX18_way_9 (by decide) (fun c9 => ?_) (fun c9 => ?_)
  · rw [if_pos c9] at h
    refine zw_sub (lv' := [(0, .ref a0), (1, .int i1), (2, .int i2)]) (List.forall_mem_cons.mpr ⟨rfl, (List.forall_mem_cons.mpr ⟨rfl, (List.forall_mem_cons.mpr ⟨rfl, zs_nil⟩)⟩)⟩) ?_
    exact zt_X18_way_J27 hX hr hR hd h
  · rw [if_neg c9] at h
    refine zw_aload_n hX dX18_way_12 rfl ?_
    obtain ⟨b14, g, h⟩ := zb_some h
    refine zw_getr hX zl_X18_12 dX18_way_13 g ?_
    refine zw_iload_n hX dX18_way_16 rfl ?_
    obtain ⟨_, gi, h⟩ := zb_some h
    obtain ⟨r17, g, h⟩ := zb_some h
    refine zc_Vi (as := [.int i2]) hX gi (zt_X16_isAny (d := d - 1) (by omega) g) zl_X18_272 rfl dX18_way_17 ⟨rfl, rfl, Nat.le_of_ble_eq_true rfl⟩ ⟨by omega, by omega⟩ ?_
    refine zw_if_eq (tgt := 27) hX dX18_way_20 (by decide) (fun c20 => ?_) (fun c20 => ?_)
    · rw [if_pos c20] at h
      refine zw_sub (lv' := [(0, .ref a0), (1, .int i1), (2, .int i2)]) (List.forall_mem_cons.mpr ⟨rfl, (List.forall_mem_cons.mpr ⟨rfl, (List.forall_mem_cons.mpr ⟨rfl, zs_nil⟩)⟩)⟩) ?_
      exact zt_X18_way_J27 hX hr hR hd h
    · rw [if_neg c20] at h
      refine zw_iconst (v := (1 : Int32)) hX dX18_way_23 (by decide) ?_
      refine zw_goto (tgt := 28) hX dX18_way_24 (by decide) ?_
      refine zw_sub (lv' := [(0, .ref a0), (1, .int i1), (2, .int i2)]) (List.forall_mem_cons.mpr ⟨rfl, (List.forall_mem_cons.mpr ⟨rfl, (List.forall_mem_cons.mpr ⟨rfl, zs_nil⟩)⟩)⟩) ?_
      exact zt_X18_way_J28 hX hr hR hd h
def zf_X18_name_J50 (N : Nat) (a0 : Nat) (i1 : Int32) (i2 : Int32) (t0 : Nat) (t1 : Int32) (t2 : Int32) (S : zm_S) : Option (Int32 × zm_S) := (zi S t0 18).bind (fun _ => (zf_X18_goes N t0 t1 t2 S).bind (fun r9 => if r9.1 = 0 then some ((0 : Int32), r9.2) else (zg_r r9.2 a0 18 3).bind (fun b10 => (zg_r r9.2 b10 16 25).bind (fun b11 => (za_x r9.2 0 b11 i1).bind (fun v12 => (zg_r r9.2 a0 18 3).bind (fun b13 => (zg_r r9.2 b13 16 25).bind (fun b14 => (zs_i r9.2 b14 i1 i2).bind (fun S15 => some (v12, S15)))))))))
set_option maxHeartbeats 4000000 in
set_option maxRecDepth 100000 in
theorem zt_X18_name_J50 {p : Program} {l : Launch} {e : Env} {R : Room} {s : State} {m : MethodId} {args : Array Value} {below : List Frame} {meth : Method} {c : Code} {V : zm_V} {mc ms d rc rs : Nat} (hX : zm_X p R s m args meth c RX18 "name" cX18_name 4 zk_E V mc ms) (hr : meth.sig.returnType = (some .int)) (hR : R.frames = d ∧ R.locals = 64 * d) (hd : 2 ≤ d) {N : Nat} {a0 : Nat} {i1 : Int32} {i2 : Int32} {t0 : Nat} {t1 : Int32} {t2 : Int32} {out : (Int32 × zm_S)} {S : zm_S} (h : zf_X18_name_J50 N a0 i1 i2 t0 t1 t2 S = some out) : zw p l e R s m args below meth c (vx_MQ below (zm_Qc zk_E V (zo_i out)) (zm_XC zk_E V zo_x) args s mc ms (fun q => V.2.2.2.1 ≤ q)) 4 zk_E V mc ms 50 [(0, .ref a0), (1, .int i1), (2, .int i2)] [.int t2, .int t1, .ref t0] S rc rs := by
  unfold zf_X18_name_J50 at h
  obtain ⟨_, gi, h⟩ := zb_some h
  obtain ⟨r9, g, h⟩ := zb_some h
  refine zc_Vi (as := [.int t1, .int t2]) hX gi (zt_X18_goes (d := d - 1) (by omega) g) zl_X18_199 rfl dX18_name_50 ⟨rfl, rfl, Nat.le_of_ble_eq_true rfl⟩ ⟨by omega, by omega⟩ ?_
  refine zw_if_ne (tgt := 58) hX dX18_name_53 (by decide) (fun c53 => ?_) (fun c53 => ?_)
  · rw [if_neg c53] at h
    refine zw_aload_n hX dX18_name_58 rfl ?_
    obtain ⟨b10, g, h⟩ := zb_some h
    refine zw_getr hX zl_X18_12 dX18_name_59 g ?_
    obtain ⟨b11, g, h⟩ := zb_some h
    refine zw_getr hX zl_X18_281 dX18_name_62 g ?_
    refine zw_iload_n hX dX18_name_65 rfl ?_
    obtain ⟨v12, g, h⟩ := zb_some h
    refine zw_xi hX dX18_name_66 g ?_
    refine zw_istore_n hX dX18_name_67 (by decide) ?_
    refine zw_aload_n hX dX18_name_68 rfl ?_
    obtain ⟨b13, g, h⟩ := zb_some h
    refine zw_getr hX zl_X18_12 dX18_name_69 g ?_
    obtain ⟨b14, g, h⟩ := zb_some h
    refine zw_getr hX zl_X18_281 dX18_name_72 g ?_
    refine zw_iload_n hX dX18_name_75 rfl ?_
    refine zw_iload_n hX dX18_name_76 rfl ?_
    obtain ⟨S15, g, h⟩ := zb_some h
    refine zw_si hX dX18_name_77 g ?_
    refine zw_iload_n hX dX18_name_78 rfl ?_
    obtain rfl := Option.some.inj h
    exact zw_iret hX hr dX18_name_79 rfl ⟨rfl, rfl⟩
  · rw [if_pos c53] at h
    refine zw_iconst (v := (0 : Int32)) hX dX18_name_56 (by decide) ?_
    obtain rfl := Option.some.inj h
    exact zw_iret hX hr dX18_name_57 rfl ⟨rfl, rfl⟩
def zf_X18_name_J49 (N : Nat) (a0 : Nat) (i1 : Int32) (i2 : Int32) (t0 : Nat) (t1 : Int32) (S : zm_S) : Option (Int32 × zm_S) := zf_X18_name_J50 N a0 i1 i2 t0 t1 (0 : Int32) S
set_option maxHeartbeats 4000000 in
set_option maxRecDepth 100000 in
theorem zt_X18_name_J49 {p : Program} {l : Launch} {e : Env} {R : Room} {s : State} {m : MethodId} {args : Array Value} {below : List Frame} {meth : Method} {c : Code} {V : zm_V} {mc ms d rc rs : Nat} (hX : zm_X p R s m args meth c RX18 "name" cX18_name 4 zk_E V mc ms) (hr : meth.sig.returnType = (some .int)) (hR : R.frames = d ∧ R.locals = 64 * d) (hd : 2 ≤ d) {N : Nat} {a0 : Nat} {i1 : Int32} {i2 : Int32} {t0 : Nat} {t1 : Int32} {out : (Int32 × zm_S)} {S : zm_S} (h : zf_X18_name_J49 N a0 i1 i2 t0 t1 S = some out) : zw p l e R s m args below meth c (vx_MQ below (zm_Qc zk_E V (zo_i out)) (zm_XC zk_E V zo_x) args s mc ms (fun q => V.2.2.2.1 ≤ q)) 4 zk_E V mc ms 49 [(0, .ref a0), (1, .int i1), (2, .int i2)] [.int t1, .ref t0] S rc rs := by
  unfold zf_X18_name_J49 at h
  refine zw_iconst (v := (0 : Int32)) hX dX18_name_49 (by decide) ?_
  refine zw_sub (lv' := [(0, .ref a0), (1, .int i1), (2, .int i2)]) (List.forall_mem_cons.mpr ⟨rfl, (List.forall_mem_cons.mpr ⟨rfl, (List.forall_mem_cons.mpr ⟨rfl, zs_nil⟩)⟩)⟩) ?_
  exact zt_X18_name_J50 hX hr hR hd h
def zf_X18_name_J28 (N : Nat) (a0 : Nat) (i1 : Int32) (i2 : Int32) (t0 : Nat) (t1 : Int32) (S : zm_S) : Option (Int32 × zm_S) := (zg_r S a0 18 3).bind (fun b5 => (zg_i S b5 16 10).bind (fun v6 => if v6 = 0 then zf_X18_name_J49 N a0 i1 i2 t0 t1 S else (zg_i S a0 18 1).bind (fun v16 => if v16 = 0 then zf_X18_name_J50 N a0 i1 i2 t0 t1 (1 : Int32) S else zf_X18_name_J49 N a0 i1 i2 t0 t1 S)))
set_option maxHeartbeats 4000000 in
set_option maxRecDepth 100000 in
theorem zt_X18_name_J28 {p : Program} {l : Launch} {e : Env} {R : Room} {s : State} {m : MethodId} {args : Array Value} {below : List Frame} {meth : Method} {c : Code} {V : zm_V} {mc ms d rc rs : Nat} (hX : zm_X p R s m args meth c RX18 "name" cX18_name 4 zk_E V mc ms) (hr : meth.sig.returnType = (some .int)) (hR : R.frames = d ∧ R.locals = 64 * d) (hd : 2 ≤ d) {N : Nat} {a0 : Nat} {i1 : Int32} {i2 : Int32} {t0 : Nat} {t1 : Int32} {out : (Int32 × zm_S)} {S : zm_S} (h : zf_X18_name_J28 N a0 i1 i2 t0 t1 S = some out) : zw p l e R s m args below meth c (vx_MQ below (zm_Qc zk_E V (zo_i out)) (zm_XC zk_E V zo_x) args s mc ms (fun q => V.2.2.2.1 ≤ q)) 4 zk_E V mc ms 28 [(0, .ref a0), (1, .int i1), (2, .int i2)] [.int t1, .ref t0] S rc rs := by
  unfold zf_X18_name_J28 at h
  refine zw_aload_n hX dX18_name_28 rfl ?_
  obtain ⟨b5, g, h⟩ := zb_some h
  refine zw_getr hX zl_X18_12 dX18_name_29 g ?_
  obtain ⟨v6, g, h⟩ := zb_some h
  refine zw_geti hX zl_X18_238 dX18_name_32 g ?_
  refine zw_if_eq (tgt := 49) hX dX18_name_35 (by decide) (fun c35 => ?_) (fun c35 => ?_)
  · rw [if_pos c35] at h
    refine zw_sub (lv' := [(0, .ref a0), (1, .int i1), (2, .int i2)]) (List.forall_mem_cons.mpr ⟨rfl, (List.forall_mem_cons.mpr ⟨rfl, (List.forall_mem_cons.mpr ⟨rfl, zs_nil⟩)⟩)⟩) ?_
    exact zt_X18_name_J49 hX hr hR hd h
  · rw [if_neg c35] at h
    refine zw_aload_n hX dX18_name_38 rfl ?_
    obtain ⟨v16, g, h⟩ := zb_some h
    refine zw_geti hX zl_X18_192 dX18_name_39 g ?_
    refine zw_if_ne (tgt := 49) hX dX18_name_42 (by decide) (fun c42 => ?_) (fun c42 => ?_)
    · rw [if_neg c42] at h
      refine zw_sub (lv' := [(0, .ref a0), (1, .int i1), (2, .int i2)]) (List.forall_mem_cons.mpr ⟨rfl, (List.forall_mem_cons.mpr ⟨rfl, (List.forall_mem_cons.mpr ⟨rfl, zs_nil⟩)⟩)⟩) ?_
      exact zt_X18_name_J49 hX hr hR hd h
    · rw [if_pos c42] at h
      refine zw_iconst (v := (1 : Int32)) hX dX18_name_45 (by decide) ?_
      refine zw_goto (tgt := 50) hX dX18_name_46 (by decide) ?_
      refine zw_sub (lv' := [(0, .ref a0), (1, .int i1), (2, .int i2)]) (List.forall_mem_cons.mpr ⟨rfl, (List.forall_mem_cons.mpr ⟨rfl, (List.forall_mem_cons.mpr ⟨rfl, zs_nil⟩)⟩)⟩) ?_
      exact zt_X18_name_J50 hX hr hR hd h
def zf_X18_name_J27 (N : Nat) (a0 : Nat) (i1 : Int32) (i2 : Int32) (t0 : Nat) (S : zm_S) : Option (Int32 × zm_S) := zf_X18_name_J28 N a0 i1 i2 t0 (0 : Int32) S
set_option maxHeartbeats 4000000 in
set_option maxRecDepth 100000 in
theorem zt_X18_name_J27 {p : Program} {l : Launch} {e : Env} {R : Room} {s : State} {m : MethodId} {args : Array Value} {below : List Frame} {meth : Method} {c : Code} {V : zm_V} {mc ms d rc rs : Nat} (hX : zm_X p R s m args meth c RX18 "name" cX18_name 4 zk_E V mc ms) (hr : meth.sig.returnType = (some .int)) (hR : R.frames = d ∧ R.locals = 64 * d) (hd : 2 ≤ d) {N : Nat} {a0 : Nat} {i1 : Int32} {i2 : Int32} {t0 : Nat} {out : (Int32 × zm_S)} {S : zm_S} (h : zf_X18_name_J27 N a0 i1 i2 t0 S = some out) : zw p l e R s m args below meth c (vx_MQ below (zm_Qc zk_E V (zo_i out)) (zm_XC zk_E V zo_x) args s mc ms (fun q => V.2.2.2.1 ≤ q)) 4 zk_E V mc ms 27 [(0, .ref a0), (1, .int i1), (2, .int i2)] [.ref t0] S rc rs := by
  unfold zf_X18_name_J27 at h
  refine zw_iconst (v := (0 : Int32)) hX dX18_name_27 (by decide) ?_
  refine zw_sub (lv' := [(0, .ref a0), (1, .int i1), (2, .int i2)]) (List.forall_mem_cons.mpr ⟨rfl, (List.forall_mem_cons.mpr ⟨rfl, (List.forall_mem_cons.mpr ⟨rfl, zs_nil⟩)⟩)⟩) ?_
  exact zt_X18_name_J28 hX hr hR hd h
def zf_X18_name (N : Nat) (a0 : Nat) (i1 : Int32) (i2 : Int32) (S : zm_S) : Option (Int32 × zm_S) := (zg_r S a0 18 3).bind (fun b1 => (zi S b1 16).bind (fun _ => (zf_X16_isSpace N b1 i1 S).bind (fun r4 => if r4.1 = 0 then zf_X18_name_J27 N a0 i1 i2 a0 r4.2 else if i2 < 0 then zf_X18_name_J27 N a0 i1 i2 a0 r4.2 else if (1000 : Int32) < i2 then zf_X18_name_J27 N a0 i1 i2 a0 r4.2 else zf_X18_name_J28 N a0 i1 i2 a0 (1 : Int32) r4.2)))
set_option maxHeartbeats 4000000 in
set_option maxRecDepth 100000 in
theorem zt_X18_name {l : Launch} {V : zm_V} {N : Nat} {S : zm_S} {out : (Int32 × zm_S)} {d : Nat} {a0 : Nat} {i1 : Int32} {i2 : Int32} (hd : 2 ≤ d) (h : zf_X18_name N a0 i1 i2 S = some out) : zm_Met l zk_E V yX18_name (.code yX18_name cX18_name 4 (some .int)) d [.ref a0, .int i1, .int i2] S 0 0 (zo_i out) zo_x := by
  refine zm_of (by decide +kernel) (Nat.le_of_ble_eq_true rfl) ?_
  intro p e R s m args below meth c hRR hX hr hxt
  have hR : R.frames = d ∧ R.locals = 64 * d := by rw [hRR]; exact ⟨rfl, rfl⟩
  have hX : zm_X p R s m args meth c RX18 "name" cX18_name 4 zk_E V 0 0 := hX
  unfold zf_X18_name at h
  refine zw_sub (lv' := [(0, .ref a0), (1, .int i1), (2, .int i2)]) (List.forall_mem_cons.mpr ⟨rfl, (List.forall_mem_cons.mpr ⟨rfl, (List.forall_mem_cons.mpr ⟨rfl, zs_nil⟩)⟩)⟩) ?_
  refine zw_aload_n hX dX18_name_0 rfl ?_
  refine zw_aload_n hX dX18_name_1 rfl ?_
  obtain ⟨b1, g, h⟩ := zb_some h
  refine zw_getr hX zl_X18_12 dX18_name_2 g ?_
  refine zw_iload_n hX dX18_name_5 rfl ?_
  obtain ⟨_, gi, h⟩ := zb_some h
  obtain ⟨r4, g, h⟩ := zb_some h
  refine zc_Vi (as := [.int i1]) hX gi (zt_X16_isSpace (d := d - 1) (by omega) g) zl_X18_253 rfl dX18_name_6 ⟨rfl, rfl, Nat.le_of_ble_eq_true rfl⟩ ⟨by omega, by omega⟩ ?_
  refine zw_if_eq (tgt := 27) hX dX18_name_9 (by decide) (fun c9 => ?_) (fun c9 => ?_)
  · rw [if_pos c9] at h
    refine zw_sub (lv' := [(0, .ref a0), (1, .int i1), (2, .int i2)]) (List.forall_mem_cons.mpr ⟨rfl, (List.forall_mem_cons.mpr ⟨rfl, (List.forall_mem_cons.mpr ⟨rfl, zs_nil⟩)⟩)⟩) ?_
    exact zt_X18_name_J27 hX hr hR hd h
  · rw [if_neg c9] at h
    refine zw_iload_n hX dX18_name_12 rfl ?_
    refine zw_if_lt (tgt := 27) hX dX18_name_13 (by decide) (fun c13 => ?_) (fun c13 => ?_)
    · rw [if_pos c13] at h
      refine zw_sub (lv' := [(0, .ref a0), (1, .int i1), (2, .int i2)]) (List.forall_mem_cons.mpr ⟨rfl, (List.forall_mem_cons.mpr ⟨rfl, (List.forall_mem_cons.mpr ⟨rfl, zs_nil⟩)⟩)⟩) ?_
      exact zt_X18_name_J27 hX hr hR hd h
    · rw [if_neg c13] at h
      refine zw_iload_n hX dX18_name_16 rfl ?_
      refine zw_sipush (v := (1000 : Int32)) hX dX18_name_17 (by decide) ?_
      refine zw_icmp_gt (tgt := 27) hX dX18_name_20 (by decide) (fun c20 => ?_) (fun c20 => ?_)
      · rw [if_pos c20] at h
        refine zw_sub (lv' := [(0, .ref a0), (1, .int i1), (2, .int i2)]) (List.forall_mem_cons.mpr ⟨rfl, (List.forall_mem_cons.mpr ⟨rfl, (List.forall_mem_cons.mpr ⟨rfl, zs_nil⟩)⟩)⟩) ?_
        exact zt_X18_name_J27 hX hr hR hd h
      · rw [if_neg c20] at h
        refine zw_iconst (v := (1 : Int32)) hX dX18_name_23 (by decide) ?_
        refine zw_goto (tgt := 28) hX dX18_name_24 (by decide) ?_
        refine zw_sub (lv' := [(0, .ref a0), (1, .int i1), (2, .int i2)]) (List.forall_mem_cons.mpr ⟨rfl, (List.forall_mem_cons.mpr ⟨rfl, (List.forall_mem_cons.mpr ⟨rfl, zs_nil⟩)⟩)⟩) ?_
        exact zt_X18_name_J28 hX hr hR hd h
def zf_X18_nameOf (N : Nat) (a0 : Nat) (i1 : Int32) (S : zm_S) : Option (Int32 × zm_S) := (zg_r S a0 18 3).bind (fun b1 => (zi S b1 16).bind (fun _ => (zf_X16_isSpace N b1 i1 S).bind (fun r4 => (zg_r r4.2 a0 18 3).bind (fun b5 => (zg_i r4.2 b5 16 10).bind (fun v6 => (zi r4.2 a0 18).bind (fun _ => (zf_X18_goes N a0 r4.1 v6 r4.2).bind (fun r9 => if r9.1 = 0 then some ((0 : Int32), r9.2) else (zg_r r9.2 a0 18 3).bind (fun b10 => (zg_r r9.2 b10 16 25).bind (fun b11 => (za_x r9.2 0 b11 i1).bind (fun v12 => some (v12, r9.2)))))))))))
set_option maxHeartbeats 4000000 in
set_option maxRecDepth 100000 in
theorem zt_X18_nameOf {l : Launch} {V : zm_V} {N : Nat} {S : zm_S} {out : (Int32 × zm_S)} {d : Nat} {a0 : Nat} {i1 : Int32} (hd : 2 ≤ d) (h : zf_X18_nameOf N a0 i1 S = some out) : zm_Met l zk_E V yX18_nameOf (.code yX18_nameOf cX18_nameOf 2 (some .int)) d [.ref a0, .int i1] S 0 0 (zo_i out) zo_x := by
  refine zm_of (by decide +kernel) (Nat.le_of_ble_eq_true rfl) ?_
  intro p e R s m args below meth c hRR hX hr hxt
  have hR : R.frames = d ∧ R.locals = 64 * d := by rw [hRR]; exact ⟨rfl, rfl⟩
  have hX : zm_X p R s m args meth c RX18 "nameOf" cX18_nameOf 2 zk_E V 0 0 := hX
  unfold zf_X18_nameOf at h
  refine zw_sub (lv' := [(0, .ref a0), (1, .int i1)]) (List.forall_mem_cons.mpr ⟨rfl, (List.forall_mem_cons.mpr ⟨rfl, zs_nil⟩)⟩) ?_
  refine zw_aload_n hX dX18_nameOf_0 rfl ?_
  refine zw_aload_n hX dX18_nameOf_1 rfl ?_
  obtain ⟨b1, g, h⟩ := zb_some h
  refine zw_getr hX zl_X18_12 dX18_nameOf_2 g ?_
  refine zw_iload_n hX dX18_nameOf_5 rfl ?_
  obtain ⟨_, gi, h⟩ := zb_some h
  obtain ⟨r4, g, h⟩ := zb_some h
  refine zc_Vi (as := [.int i1]) hX gi (zt_X16_isSpace (d := d - 1) (by omega) g) zl_X18_253 rfl dX18_nameOf_6 ⟨rfl, rfl, Nat.le_of_ble_eq_true rfl⟩ ⟨by omega, by omega⟩ ?_
  refine zw_aload_n hX dX18_nameOf_9 rfl ?_
  obtain ⟨b5, g, h⟩ := zb_some h
  refine zw_getr hX zl_X18_12 dX18_nameOf_10 g ?_
  obtain ⟨v6, g, h⟩ := zb_some h
  refine zw_geti hX zl_X18_238 dX18_nameOf_13 g ?_
  obtain ⟨_, gi, h⟩ := zb_some h
  obtain ⟨r9, g, h⟩ := zb_some h
  refine zc_Vi (as := [.int r4.1, .int v6]) hX gi (zt_X18_goes (d := d - 1) (by omega) g) zl_X18_199 rfl dX18_nameOf_16 ⟨rfl, rfl, Nat.le_of_ble_eq_true rfl⟩ ⟨by omega, by omega⟩ ?_
  refine zw_if_eq (tgt := 34) hX dX18_nameOf_19 (by decide) (fun c19 => ?_) (fun c19 => ?_)
  · rw [if_pos c19] at h
    refine zw_iconst (v := (0 : Int32)) hX dX18_nameOf_34 (by decide) ?_
    obtain rfl := Option.some.inj h
    exact zw_iret hX hr dX18_nameOf_35 rfl ⟨rfl, rfl⟩
  · rw [if_neg c19] at h
    refine zw_aload_n hX dX18_nameOf_22 rfl ?_
    obtain ⟨b10, g, h⟩ := zb_some h
    refine zw_getr hX zl_X18_12 dX18_nameOf_23 g ?_
    obtain ⟨b11, g, h⟩ := zb_some h
    refine zw_getr hX zl_X18_281 dX18_nameOf_26 g ?_
    refine zw_iload_n hX dX18_nameOf_29 rfl ?_
    obtain ⟨v12, g, h⟩ := zb_some h
    refine zw_xi hX dX18_nameOf_30 g ?_
    refine zw_goto (tgt := 35) hX dX18_nameOf_31 (by decide) ?_
    obtain rfl := Option.some.inj h
    exact zw_iret hX hr dX18_nameOf_35 rfl ⟨rfl, rfl⟩
def zf_X18_say_J35 (N : Nat) (a0 : Nat) (j1 : Int64) (t0 : Nat) (t1 : Int32) (t2 : Int32) (S : zm_S) : Option (Int32 × zm_S) := (zi S t0 18).bind (fun _ => (zf_X18_goes N t0 t1 t2 S).bind (fun r8 => if r8.1 = 0 then some ((0 : Int32), r8.2) else (zg_r r8.2 a0 18 4).bind (fun b9 => (zi r8.2 b9 15).bind (fun _ => (zf_X15_say N b9 j1 r8.2).bind (fun r12 => some (r12.1, r12.2))))))
set_option maxHeartbeats 4000000 in
set_option maxRecDepth 100000 in
theorem zt_X18_say_J35 {p : Program} {l : Launch} {e : Env} {R : Room} {s : State} {m : MethodId} {args : Array Value} {below : List Frame} {meth : Method} {c : Code} {V : zm_V} {mc ms d rc rs : Nat} (hX : zm_X p R s m args meth c RX18 "say" cX18_say 4 zk_E V mc ms) (hr : meth.sig.returnType = (some .int)) (hR : R.frames = d ∧ R.locals = 64 * d) (hd : 3 ≤ d) {N : Nat} {a0 : Nat} {j1 : Int64} {t0 : Nat} {t1 : Int32} {t2 : Int32} {out : (Int32 × zm_S)} {S : zm_S} (h : zf_X18_say_J35 N a0 j1 t0 t1 t2 S = some out) : zw p l e R s m args below meth c (vx_MQ below (zm_Qc zk_E V (zo_i out)) (zm_XC zk_E V zo_x) args s mc ms (fun q => V.2.2.2.1 ≤ q)) 4 zk_E V mc ms 35 [(0, .ref a0), (1, .long j1)] [.int t2, .int t1, .ref t0] S rc rs := by
  unfold zf_X18_say_J35 at h
  obtain ⟨_, gi, h⟩ := zb_some h
  obtain ⟨r8, g, h⟩ := zb_some h
  refine zc_Vi (as := [.int t1, .int t2]) hX gi (zt_X18_goes (d := d - 1) (by omega) g) zl_X18_199 rfl dX18_say_35 ⟨rfl, rfl, Nat.le_of_ble_eq_true rfl⟩ ⟨by omega, by omega⟩ ?_
  refine zw_if_eq (tgt := 52) hX dX18_say_38 (by decide) (fun c38 => ?_) (fun c38 => ?_)
  · rw [if_pos c38] at h
    refine zw_iconst (v := (0 : Int32)) hX dX18_say_52 (by decide) ?_
    obtain rfl := Option.some.inj h
    exact zw_iret hX hr dX18_say_53 rfl ⟨rfl, rfl⟩
  · rw [if_neg c38] at h
    refine zw_aload_n hX dX18_say_41 rfl ?_
    obtain ⟨b9, g, h⟩ := zb_some h
    refine zw_getr hX zl_X18_21 dX18_say_42 g ?_
    refine zw_lload_n hX dX18_say_45 rfl ?_
    obtain ⟨_, gi, h⟩ := zb_some h
    obtain ⟨r12, g, h⟩ := zb_some h
    refine zc_Vi (as := [.long j1]) hX gi (zt_X15_say (d := d - 1) (by omega) g) zl_X18_290 rfl dX18_say_46 ⟨rfl, rfl, Nat.le_of_ble_eq_true rfl⟩ ⟨by omega, by omega⟩ ?_
    refine zw_goto (tgt := 53) hX dX18_say_49 (by decide) ?_
    obtain rfl := Option.some.inj h
    exact zw_iret hX hr dX18_say_53 rfl ⟨rfl, rfl⟩
def zf_X18_say_J15 (N : Nat) (a0 : Nat) (j1 : Int64) (i3 : Int32) (t0 : Nat) (t1 : Int32) (S : zm_S) : Option (Int32 × zm_S) := (zg_r S a0 18 4).bind (fun b4 => (zg_i S b4 15 1).bind (fun v5 => if (800 : Int32) < (v5 + i3) then zf_X18_say_J35 N a0 j1 t0 t1 (0 : Int32) S else zf_X18_say_J35 N a0 j1 t0 t1 (1 : Int32) S))
set_option maxHeartbeats 4000000 in
set_option maxRecDepth 100000 in
theorem zt_X18_say_J15 {p : Program} {l : Launch} {e : Env} {R : Room} {s : State} {m : MethodId} {args : Array Value} {below : List Frame} {meth : Method} {c : Code} {V : zm_V} {mc ms d rc rs : Nat} (hX : zm_X p R s m args meth c RX18 "say" cX18_say 4 zk_E V mc ms) (hr : meth.sig.returnType = (some .int)) (hR : R.frames = d ∧ R.locals = 64 * d) (hd : 3 ≤ d) {N : Nat} {a0 : Nat} {j1 : Int64} {i3 : Int32} {t0 : Nat} {t1 : Int32} {out : (Int32 × zm_S)} {S : zm_S} (h : zf_X18_say_J15 N a0 j1 i3 t0 t1 S = some out) : zw p l e R s m args below meth c (vx_MQ below (zm_Qc zk_E V (zo_i out)) (zm_XC zk_E V zo_x) args s mc ms (fun q => V.2.2.2.1 ≤ q)) 4 zk_E V mc ms 15 [(0, .ref a0), (1, .long j1), (3, .int i3)] [.int t1, .ref t0] S rc rs := by
  unfold zf_X18_say_J15 at h
  refine zw_aload_n hX dX18_say_15 rfl ?_
  obtain ⟨b4, g, h⟩ := zb_some h
  refine zw_getr hX zl_X18_21 dX18_say_16 g ?_
  obtain ⟨v5, g, h⟩ := zb_some h
  refine zw_geti hX zl_X18_288 dX18_say_19 g ?_
  refine zw_iload_n hX dX18_say_22 rfl ?_
  refine zw_iadd hX dX18_say_23 ?_
  refine zw_sipush (v := (800 : Int32)) hX dX18_say_24 (by decide) ?_
  refine zw_icmp_gt (tgt := 34) hX dX18_say_27 (by decide) (fun c27 => ?_) (fun c27 => ?_)
  · rw [if_pos c27] at h
    refine zw_iconst (v := (0 : Int32)) hX dX18_say_34 (by decide) ?_
    refine zw_sub (lv' := [(0, .ref a0), (1, .long j1)]) (List.forall_mem_cons.mpr ⟨rfl, (List.forall_mem_cons.mpr ⟨rfl, zs_nil⟩)⟩) ?_
    exact zt_X18_say_J35 hX hr hR hd h
  · rw [if_neg c27] at h
    refine zw_iconst (v := (1 : Int32)) hX dX18_say_30 (by decide) ?_
    refine zw_goto (tgt := 35) hX dX18_say_31 (by decide) ?_
    refine zw_sub (lv' := [(0, .ref a0), (1, .long j1)]) (List.forall_mem_cons.mpr ⟨rfl, (List.forall_mem_cons.mpr ⟨rfl, zs_nil⟩)⟩) ?_
    exact zt_X18_say_J35 hX hr hR hd h
def zf_X18_say (N : Nat) (a0 : Nat) (j1 : Int64) (S : zm_S) : Option (Int32 × zm_S) := (zf_X15_characters N j1 S).bind (fun r3 => if r3.1 < 0 then zf_X18_say_J15 N a0 j1 r3.1 a0 (0 : Int32) r3.2 else zf_X18_say_J15 N a0 j1 r3.1 a0 (1 : Int32) r3.2)
set_option maxHeartbeats 4000000 in
set_option maxRecDepth 100000 in
theorem zt_X18_say {l : Launch} {V : zm_V} {N : Nat} {S : zm_S} {out : (Int32 × zm_S)} {d : Nat} {a0 : Nat} {j1 : Int64} (hd : 3 ≤ d) (h : zf_X18_say N a0 j1 S = some out) : zm_Met l zk_E V yX18_say (.code yX18_say cX18_say 4 (some .int)) d [.ref a0, .long j1] S 0 0 (zo_i out) zo_x := by
  refine zm_of (by decide +kernel) (Nat.le_of_ble_eq_true rfl) ?_
  intro p e R s m args below meth c hRR hX hr hxt
  have hR : R.frames = d ∧ R.locals = 64 * d := by rw [hRR]; exact ⟨rfl, rfl⟩
  have hX : zm_X p R s m args meth c RX18 "say" cX18_say 4 zk_E V 0 0 := hX
  unfold zf_X18_say at h
  refine zw_sub (lv' := [(0, .ref a0), (1, .long j1)]) (List.forall_mem_cons.mpr ⟨rfl, (List.forall_mem_cons.mpr ⟨rfl, zs_nil⟩)⟩) ?_
  refine zw_lload_n hX dX18_say_0 rfl ?_
  obtain ⟨r3, g, h⟩ := zb_some h
  refine zc_Si (as := [.long j1]) hX (zt_X15_characters (d := d - 1) (by omega) g) zl_X18_284 dX18_say_1 ⟨rfl, rfl, Nat.le_of_ble_eq_true rfl⟩ ⟨by omega, by omega⟩ ?_
  refine zw_istore_n hX dX18_say_4 (by decide) ?_
  refine zw_aload_n hX dX18_say_5 rfl ?_
  refine zw_iload_n hX dX18_say_6 rfl ?_
  refine zw_if_lt (tgt := 14) hX dX18_say_7 (by decide) (fun c7 => ?_) (fun c7 => ?_)
  · rw [if_pos c7] at h
    refine zw_iconst (v := (0 : Int32)) hX dX18_say_14 (by decide) ?_
    refine zw_sub (lv' := [(0, .ref a0), (1, .long j1), (3, .int r3.1)]) (List.forall_mem_cons.mpr ⟨rfl, (List.forall_mem_cons.mpr ⟨rfl, (List.forall_mem_cons.mpr ⟨rfl, zs_nil⟩)⟩)⟩) ?_
    exact zt_X18_say_J15 hX hr hR hd h
  · rw [if_neg c7] at h
    refine zw_iconst (v := (1 : Int32)) hX dX18_say_10 (by decide) ?_
    refine zw_goto (tgt := 15) hX dX18_say_11 (by decide) ?_
    refine zw_sub (lv' := [(0, .ref a0), (1, .long j1), (3, .int r3.1)]) (List.forall_mem_cons.mpr ⟨rfl, (List.forall_mem_cons.mpr ⟨rfl, (List.forall_mem_cons.mpr ⟨rfl, zs_nil⟩)⟩)⟩) ?_
    exact zt_X18_say_J15 hX hr hR hd h
def zf_X18_trim_J21 (N : Nat) (a0 : Nat) (i1 : Int32) (t0 : Nat) (t1 : Int32) (S : zm_S) : Option (Int32 × zm_S) := (zi S t0 18).bind (fun _ => (zf_X18_goes N t0 t1 (1 : Int32) S).bind (fun r3 => if r3.1 = 0 then some ((0 : Int32), r3.2) else (zg_r r3.2 a0 18 4).bind (fun b4 => (zg_i r3.2 b4 15 1).bind (fun v5 => (zp r3.2 b4 15 1 (.int (v5 - i1))).bind (fun S6 => (zg_r S6 a0 18 4).bind (fun b7 => (zg_i S6 b7 15 1).bind (fun v8 => some (v8, S6))))))))
set_option maxHeartbeats 4000000 in
set_option maxRecDepth 100000 in
theorem zt_X18_trim_J21 {p : Program} {l : Launch} {e : Env} {R : Room} {s : State} {m : MethodId} {args : Array Value} {below : List Frame} {meth : Method} {c : Code} {V : zm_V} {mc ms d rc rs : Nat} (hX : zm_X p R s m args meth c RX18 "trim" cX18_trim 2 zk_E V mc ms) (hr : meth.sig.returnType = (some .int)) (hR : R.frames = d ∧ R.locals = 64 * d) (hd : 2 ≤ d) {N : Nat} {a0 : Nat} {i1 : Int32} {t0 : Nat} {t1 : Int32} {out : (Int32 × zm_S)} {S : zm_S} (h : zf_X18_trim_J21 N a0 i1 t0 t1 S = some out) : zw p l e R s m args below meth c (vx_MQ below (zm_Qc zk_E V (zo_i out)) (zm_XC zk_E V zo_x) args s mc ms (fun q => V.2.2.2.1 ≤ q)) 2 zk_E V mc ms 21 [(0, .ref a0), (1, .int i1)] [.int t1, .ref t0] S rc rs := by
  unfold zf_X18_trim_J21 at h
  refine zw_iconst (v := (1 : Int32)) hX dX18_trim_21 (by decide) ?_
  obtain ⟨_, gi, h⟩ := zb_some h
  obtain ⟨r3, g, h⟩ := zb_some h
  refine zc_Vi (as := [.int t1, .int (1 : Int32)]) hX gi (zt_X18_goes (d := d - 1) (by omega) g) zl_X18_199 rfl dX18_trim_22 ⟨rfl, rfl, Nat.le_of_ble_eq_true rfl⟩ ⟨by omega, by omega⟩ ?_
  refine zw_if_ne (tgt := 30) hX dX18_trim_25 (by decide) (fun c25 => ?_) (fun c25 => ?_)
  · rw [if_neg c25] at h
    refine zw_aload_n hX dX18_trim_30 rfl ?_
    obtain ⟨b4, g, h⟩ := zb_some h
    refine zw_getr hX zl_X18_21 dX18_trim_31 g ?_
    refine zw_dup hX dX18_trim_34 rfl ?_
    obtain ⟨v5, g, h⟩ := zb_some h
    refine zw_geti hX zl_X18_288 dX18_trim_35 g ?_
    refine zw_iload_n hX dX18_trim_38 rfl ?_
    refine zw_isub hX dX18_trim_39 ?_
    obtain ⟨S6, g, h⟩ := zb_some h
    refine zw_putv hX zl_X18_288 zt_15_1 dX18_trim_40 rfl rfl g ?_
    refine zw_aload_n hX dX18_trim_43 rfl ?_
    obtain ⟨b7, g, h⟩ := zb_some h
    refine zw_getr hX zl_X18_21 dX18_trim_44 g ?_
    obtain ⟨v8, g, h⟩ := zb_some h
    refine zw_geti hX zl_X18_288 dX18_trim_47 g ?_
    obtain rfl := Option.some.inj h
    exact zw_iret hX hr dX18_trim_50 rfl ⟨rfl, rfl⟩
  · rw [if_pos c25] at h
    refine zw_iconst (v := (0 : Int32)) hX dX18_trim_28 (by decide) ?_
    obtain rfl := Option.some.inj h
    exact zw_iret hX hr dX18_trim_29 rfl ⟨rfl, rfl⟩
def zf_X18_trim_J20 (N : Nat) (a0 : Nat) (i1 : Int32) (t0 : Nat) (S : zm_S) : Option (Int32 × zm_S) := zf_X18_trim_J21 N a0 i1 t0 (0 : Int32) S
set_option maxHeartbeats 4000000 in
set_option maxRecDepth 100000 in
theorem zt_X18_trim_J20 {p : Program} {l : Launch} {e : Env} {R : Room} {s : State} {m : MethodId} {args : Array Value} {below : List Frame} {meth : Method} {c : Code} {V : zm_V} {mc ms d rc rs : Nat} (hX : zm_X p R s m args meth c RX18 "trim" cX18_trim 2 zk_E V mc ms) (hr : meth.sig.returnType = (some .int)) (hR : R.frames = d ∧ R.locals = 64 * d) (hd : 2 ≤ d) {N : Nat} {a0 : Nat} {i1 : Int32} {t0 : Nat} {out : (Int32 × zm_S)} {S : zm_S} (h : zf_X18_trim_J20 N a0 i1 t0 S = some out) : zw p l e R s m args below meth c (vx_MQ below (zm_Qc zk_E V (zo_i out)) (zm_XC zk_E V zo_x) args s mc ms (fun q => V.2.2.2.1 ≤ q)) 2 zk_E V mc ms 20 [(0, .ref a0), (1, .int i1)] [.ref t0] S rc rs := by
  unfold zf_X18_trim_J20 at h
  refine zw_iconst (v := (0 : Int32)) hX dX18_trim_20 (by decide) ?_
  refine zw_sub (lv' := [(0, .ref a0), (1, .int i1)]) (List.forall_mem_cons.mpr ⟨rfl, (List.forall_mem_cons.mpr ⟨rfl, zs_nil⟩)⟩) ?_
  exact zt_X18_trim_J21 hX hr hR hd h
def zf_X18_trim (N : Nat) (a0 : Nat) (i1 : Int32) (S : zm_S) : Option (Int32 × zm_S) := if i1 < 0 then zf_X18_trim_J20 N a0 i1 a0 S else (zg_r S a0 18 4).bind (fun b9 => (zg_i S b9 15 1).bind (fun v10 => if v10 < i1 then zf_X18_trim_J20 N a0 i1 a0 S else zf_X18_trim_J21 N a0 i1 a0 (1 : Int32) S))
set_option maxHeartbeats 4000000 in
set_option maxRecDepth 100000 in
theorem zt_X18_trim {l : Launch} {V : zm_V} {N : Nat} {S : zm_S} {out : (Int32 × zm_S)} {d : Nat} {a0 : Nat} {i1 : Int32} (hd : 2 ≤ d) (h : zf_X18_trim N a0 i1 S = some out) : zm_Met l zk_E V yX18_trim (.code yX18_trim cX18_trim 2 (some .int)) d [.ref a0, .int i1] S 0 0 (zo_i out) zo_x := by
  refine zm_of (by decide +kernel) (Nat.le_of_ble_eq_true rfl) ?_
  intro p e R s m args below meth c hRR hX hr hxt
  have hR : R.frames = d ∧ R.locals = 64 * d := by rw [hRR]; exact ⟨rfl, rfl⟩
  have hX : zm_X p R s m args meth c RX18 "trim" cX18_trim 2 zk_E V 0 0 := hX
  unfold zf_X18_trim at h
  refine zw_sub (lv' := [(0, .ref a0), (1, .int i1)]) (List.forall_mem_cons.mpr ⟨rfl, (List.forall_mem_cons.mpr ⟨rfl, zs_nil⟩)⟩) ?_
  refine zw_aload_n hX dX18_trim_0 rfl ?_
  refine zw_iload_n hX dX18_trim_1 rfl ?_
  refine zw_if_lt (tgt := 20) hX dX18_trim_2 (by decide) (fun c2 => ?_) (fun c2 => ?_)
  · rw [if_pos c2] at h
    refine zw_sub (lv' := [(0, .ref a0), (1, .int i1)]) (List.forall_mem_cons.mpr ⟨rfl, (List.forall_mem_cons.mpr ⟨rfl, zs_nil⟩)⟩) ?_
    exact zt_X18_trim_J20 hX hr hR hd h
  · rw [if_neg c2] at h
    refine zw_iload_n hX dX18_trim_5 rfl ?_
    refine zw_aload_n hX dX18_trim_6 rfl ?_
    obtain ⟨b9, g, h⟩ := zb_some h
    refine zw_getr hX zl_X18_21 dX18_trim_7 g ?_
    obtain ⟨v10, g, h⟩ := zb_some h
    refine zw_geti hX zl_X18_288 dX18_trim_10 g ?_
    refine zw_icmp_gt (tgt := 20) hX dX18_trim_13 (by decide) (fun c13 => ?_) (fun c13 => ?_)
    · rw [if_pos c13] at h
      refine zw_sub (lv' := [(0, .ref a0), (1, .int i1)]) (List.forall_mem_cons.mpr ⟨rfl, (List.forall_mem_cons.mpr ⟨rfl, zs_nil⟩)⟩) ?_
      exact zt_X18_trim_J20 hX hr hR hd h
    · rw [if_neg c13] at h
      refine zw_iconst (v := (1 : Int32)) hX dX18_trim_16 (by decide) ?_
      refine zw_goto (tgt := 21) hX dX18_trim_17 (by decide) ?_
      refine zw_sub (lv' := [(0, .ref a0), (1, .int i1)]) (List.forall_mem_cons.mpr ⟨rfl, (List.forall_mem_cons.mpr ⟨rfl, zs_nil⟩)⟩) ?_
      exact zt_X18_trim_J21 hX hr hR hd h
def zf_X18_rules (N : Nat) (a0 : Nat) (S : zm_S) : Option (Int32 × zm_S) := (zp S a0 18 0 (.int (0 : Int32))).bind (fun S1 => (zg_r S1 a0 18 4).bind (fun b2 => (zi S1 b2 15).bind (fun _ => (zf_X15_read N b2 S1).bind (fun r5 => some (r5.1, r5.2)))))
set_option maxHeartbeats 4000000 in
set_option maxRecDepth 100000 in
theorem zt_X18_rules {l : Launch} {V : zm_V} {N : Nat} {S : zm_S} {out : (Int32 × zm_S)} {d : Nat} {a0 : Nat} (hd : 8 ≤ d) (h : zf_X18_rules N a0 S = some out) : zm_Met l zk_E V yX18_rules (.code yX18_rules cX18_rules 1 (some .int)) d [.ref a0] S 0 0 (zo_i out) zo_x := by
  refine zm_of (by decide +kernel) (Nat.le_of_ble_eq_true rfl) ?_
  intro p e R s m args below meth c hRR hX hr hxt
  have hR : R.frames = d ∧ R.locals = 64 * d := by rw [hRR]; exact ⟨rfl, rfl⟩
  have hX : zm_X p R s m args meth c RX18 "rules" cX18_rules 1 zk_E V 0 0 := hX
  unfold zf_X18_rules at h
  refine zw_sub (lv' := [(0, .ref a0)]) (List.forall_mem_cons.mpr ⟨rfl, zs_nil⟩) ?_
  refine zw_aload_n hX dX18_rules_0 rfl ?_
  refine zw_iconst (v := (0 : Int32)) hX dX18_rules_1 (by decide) ?_
  obtain ⟨S1, g, h⟩ := zb_some h
  refine zw_putv hX zl_X18_184 zt_18_0 dX18_rules_2 rfl rfl g ?_
  refine zw_aload_n hX dX18_rules_5 rfl ?_
  obtain ⟨b2, g, h⟩ := zb_some h
  refine zw_getr hX zl_X18_21 dX18_rules_6 g ?_
  obtain ⟨_, gi, h⟩ := zb_some h
  obtain ⟨r5, g, h⟩ := zb_some h
  refine zc_Vi (as := []) hX gi (zt_X15_read (d := d - 1) (by omega) g) zl_X18_293 rfl dX18_rules_9 ⟨rfl, rfl, Nat.le_of_ble_eq_true rfl⟩ ⟨by omega, by omega⟩ ?_
  obtain rfl := Option.some.inj h
  exact zw_iret hX hr dX18_rules_12 rfl ⟨rfl, rfl⟩
def zf_X18_hasRoom (N : Nat) (a0 : Nat) (j1 : Int64) (S : zm_S) : Option (Int32 × zm_S) := (zg_r S a0 18 4).bind (fun b1 => (zi S b1 15).bind (fun _ => (zf_X15_factOf N b1 j1 S).bind (fun r4 => if 0 ≤ r4.1 then some ((1 : Int32), r4.2) else (zg_r r4.2 a0 18 4).bind (fun b5 => (zg_i r4.2 b5 15 2).bind (fun v6 => if (40 : Int32) ≤ v6 then some ((0 : Int32), r4.2) else some ((1 : Int32), r4.2))))))
set_option maxHeartbeats 4000000 in
set_option maxRecDepth 100000 in
theorem zt_X18_hasRoom {l : Launch} {V : zm_V} {N : Nat} {S : zm_S} {out : (Int32 × zm_S)} {d : Nat} {a0 : Nat} {j1 : Int64} (hd : 2 ≤ d) (h : zf_X18_hasRoom N a0 j1 S = some out) : zm_Met l zk_E V yX18_hasRoom (.code yX18_hasRoom cX18_hasRoom 3 (some .boolean)) d [.ref a0, .long j1] S 0 0 (zo_i out) zo_x := by
  refine zm_of (by decide +kernel) (Nat.le_of_ble_eq_true rfl) ?_
  intro p e R s m args below meth c hRR hX hr hxt
  have hR : R.frames = d ∧ R.locals = 64 * d := by rw [hRR]; exact ⟨rfl, rfl⟩
  have hX : zm_X p R s m args meth c RX18 "hasRoom" cX18_hasRoom 3 zk_E V 0 0 := hX
  unfold zf_X18_hasRoom at h
  refine zw_sub (lv' := [(0, .ref a0), (1, .long j1)]) (List.forall_mem_cons.mpr ⟨rfl, (List.forall_mem_cons.mpr ⟨rfl, zs_nil⟩)⟩) ?_
  refine zw_aload_n hX dX18_hasRoom_0 rfl ?_
  obtain ⟨b1, g, h⟩ := zb_some h
  refine zw_getr hX zl_X18_21 dX18_hasRoom_1 g ?_
  refine zw_lload_n hX dX18_hasRoom_4 rfl ?_
  obtain ⟨_, gi, h⟩ := zb_some h
  obtain ⟨r4, g, h⟩ := zb_some h
  refine zc_Vi (as := [.long j1]) hX gi (zt_X15_factOf (d := d - 1) (by omega) g) zl_X18_296 rfl dX18_hasRoom_5 ⟨rfl, rfl, Nat.le_of_ble_eq_true rfl⟩ ⟨by omega, by omega⟩ ?_
  refine zw_if_ge (tgt := 23) hX dX18_hasRoom_8 (by decide) (fun c8 => ?_) (fun c8 => ?_)
  · rw [if_pos c8] at h
    refine zw_iconst (v := (1 : Int32)) hX dX18_hasRoom_23 (by decide) ?_
    refine zw_goto (tgt := 28) hX dX18_hasRoom_24 (by decide) ?_
    obtain rfl := Option.some.inj h
    exact zw_iret hX hr dX18_hasRoom_28 rfl ⟨rfl, rfl⟩
  · rw [if_neg c8] at h
    refine zw_aload_n hX dX18_hasRoom_11 rfl ?_
    obtain ⟨b5, g, h⟩ := zb_some h
    refine zw_getr hX zl_X18_21 dX18_hasRoom_12 g ?_
    obtain ⟨v6, g, h⟩ := zb_some h
    refine zw_geti hX zl_X18_299 dX18_hasRoom_15 g ?_
    refine zw_bipush (v := (40 : Int32)) hX dX18_hasRoom_18 (by decide) ?_
    refine zw_icmp_ge (tgt := 27) hX dX18_hasRoom_20 (by decide) (fun c20 => ?_) (fun c20 => ?_)
    · rw [if_pos c20] at h
      refine zw_iconst (v := (0 : Int32)) hX dX18_hasRoom_27 (by decide) ?_
      obtain rfl := Option.some.inj h
      exact zw_iret hX hr dX18_hasRoom_28 rfl ⟨rfl, rfl⟩
    · rw [if_neg c20] at h
      refine zw_iconst (v := (1 : Int32)) hX dX18_hasRoom_23 (by decide) ?_
      refine zw_goto (tgt := 28) hX dX18_hasRoom_24 (by decide) ?_
      obtain rfl := Option.some.inj h
      exact zw_iret hX hr dX18_hasRoom_28 rfl ⟨rfl, rfl⟩
def zf_X18_fact_J27 (N : Nat) (a0 : Nat) (j1 : Int64) (i3 : Int32) (t0 : Nat) (t1 : Int32) (S : zm_S) : Option (Int64 × zm_S) := (zi S a0 18).bind (fun _ => (zf_X18_hasRoom N a0 j1 S).bind (fun r6 => (zi r6.2 t0 18).bind (fun _ => (zf_X18_goes N t0 t1 r6.1 r6.2).bind (fun r9 => if r9.1 = 0 then some ((0 : Int64), r9.2) else (zg_r r9.2 a0 18 4).bind (fun b10 => (zi r9.2 b10 15).bind (fun _ => (zf_X15_fact N b10 j1 i3 r9.2).bind (fun r13 => some (r13.1, r13.2))))))))
set_option maxHeartbeats 4000000 in
set_option maxRecDepth 100000 in
theorem zt_X18_fact_J27 {p : Program} {l : Launch} {e : Env} {R : Room} {s : State} {m : MethodId} {args : Array Value} {below : List Frame} {meth : Method} {c : Code} {V : zm_V} {mc ms d rc rs : Nat} (hX : zm_X p R s m args meth c RX18 "fact" cX18_fact 4 zk_E V mc ms) (hr : meth.sig.returnType = (some .long)) (hR : R.frames = d ∧ R.locals = 64 * d) (hd : 3 ≤ d) {N : Nat} {a0 : Nat} {j1 : Int64} {i3 : Int32} {t0 : Nat} {t1 : Int32} {out : (Int64 × zm_S)} {S : zm_S} (h : zf_X18_fact_J27 N a0 j1 i3 t0 t1 S = some out) : zw p l e R s m args below meth c (vx_MQ below (zm_Qc zk_E V (zo_l out)) (zm_XC zk_E V zo_x) args s mc ms (fun q => V.2.2.2.1 ≤ q)) 4 zk_E V mc ms 27 [(0, .ref a0), (1, .long j1), (3, .int i3)] [.int t1, .ref t0] S rc rs := by
  unfold zf_X18_fact_J27 at h
  refine zw_aload_n hX dX18_fact_27 rfl ?_
  refine zw_lload_n hX dX18_fact_28 rfl ?_
  obtain ⟨_, gi, h⟩ := zb_some h
  obtain ⟨r6, g, h⟩ := zb_some h
  refine zc_Vi (as := [.long j1]) hX gi (zt_X18_hasRoom (d := d - 1) (by omega) g) zl_X18_308 rfl dX18_fact_29 ⟨rfl, rfl, Nat.le_of_ble_eq_true rfl⟩ ⟨by omega, by omega⟩ ?_
  obtain ⟨_, gi, h⟩ := zb_some h
  obtain ⟨r9, g, h⟩ := zb_some h
  refine zc_Vi (as := [.int t1, .int r6.1]) hX gi (zt_X18_goes (d := d - 1) (by omega) g) zl_X18_199 rfl dX18_fact_32 ⟨rfl, rfl, Nat.le_of_ble_eq_true rfl⟩ ⟨by omega, by omega⟩ ?_
  refine zw_if_eq (tgt := 50) hX dX18_fact_35 (by decide) (fun c35 => ?_) (fun c35 => ?_)
  · rw [if_pos c35] at h
    refine zw_lconst (v := (0 : Int64)) hX dX18_fact_50 (by decide) ?_
    obtain rfl := Option.some.inj h
    exact zw_lret hX hr dX18_fact_51 ⟨rfl, rfl⟩
  · rw [if_neg c35] at h
    refine zw_aload_n hX dX18_fact_38 rfl ?_
    obtain ⟨b10, g, h⟩ := zb_some h
    refine zw_getr hX zl_X18_21 dX18_fact_39 g ?_
    refine zw_lload_n hX dX18_fact_42 rfl ?_
    refine zw_iload_n hX dX18_fact_43 rfl ?_
    obtain ⟨_, gi, h⟩ := zb_some h
    obtain ⟨r13, g, h⟩ := zb_some h
    refine zc_Vl (as := [.long j1, .int i3]) hX gi (zt_X15_fact (d := d - 1) (by omega) g) zl_X18_311 rfl dX18_fact_44 ⟨rfl, rfl, Nat.le_of_ble_eq_true rfl⟩ ⟨by omega, by omega⟩ ?_
    refine zw_goto (tgt := 51) hX dX18_fact_47 (by decide) ?_
    obtain rfl := Option.some.inj h
    exact zw_lret hX hr dX18_fact_51 ⟨rfl, rfl⟩
def zf_X18_fact_J26 (N : Nat) (a0 : Nat) (j1 : Int64) (i3 : Int32) (t0 : Nat) (S : zm_S) : Option (Int64 × zm_S) := zf_X18_fact_J27 N a0 j1 i3 t0 (0 : Int32) S
set_option maxHeartbeats 4000000 in
set_option maxRecDepth 100000 in
theorem zt_X18_fact_J26 {p : Program} {l : Launch} {e : Env} {R : Room} {s : State} {m : MethodId} {args : Array Value} {below : List Frame} {meth : Method} {c : Code} {V : zm_V} {mc ms d rc rs : Nat} (hX : zm_X p R s m args meth c RX18 "fact" cX18_fact 4 zk_E V mc ms) (hr : meth.sig.returnType = (some .long)) (hR : R.frames = d ∧ R.locals = 64 * d) (hd : 3 ≤ d) {N : Nat} {a0 : Nat} {j1 : Int64} {i3 : Int32} {t0 : Nat} {out : (Int64 × zm_S)} {S : zm_S} (h : zf_X18_fact_J26 N a0 j1 i3 t0 S = some out) : zw p l e R s m args below meth c (vx_MQ below (zm_Qc zk_E V (zo_l out)) (zm_XC zk_E V zo_x) args s mc ms (fun q => V.2.2.2.1 ≤ q)) 4 zk_E V mc ms 26 [(0, .ref a0), (1, .long j1), (3, .int i3)] [.ref t0] S rc rs := by
  unfold zf_X18_fact_J26 at h
  refine zw_iconst (v := (0 : Int32)) hX dX18_fact_26 (by decide) ?_
  refine zw_sub (lv' := [(0, .ref a0), (1, .long j1), (3, .int i3)]) (List.forall_mem_cons.mpr ⟨rfl, (List.forall_mem_cons.mpr ⟨rfl, (List.forall_mem_cons.mpr ⟨rfl, zs_nil⟩)⟩)⟩) ?_
  exact zt_X18_fact_J27 hX hr hR hd h
def zf_X18_fact (N : Nat) (a0 : Nat) (j1 : Int64) (i3 : Int32) (S : zm_S) : Option (Int64 × zm_S) := (zf_X15_isName N j1 S).bind (fun r3 => if r3.1 = 0 then zf_X18_fact_J26 N a0 j1 i3 a0 r3.2 else if i3 < (-1000000000 : Int32) then zf_X18_fact_J26 N a0 j1 i3 a0 r3.2 else if (1000000000 : Int32) < i3 then zf_X18_fact_J26 N a0 j1 i3 a0 r3.2 else zf_X18_fact_J27 N a0 j1 i3 a0 (1 : Int32) r3.2)
set_option maxHeartbeats 4000000 in
set_option maxRecDepth 100000 in
theorem zt_X18_fact {l : Launch} {V : zm_V} {N : Nat} {S : zm_S} {out : (Int64 × zm_S)} {d : Nat} {a0 : Nat} {j1 : Int64} {i3 : Int32} (hd : 3 ≤ d) (h : zf_X18_fact N a0 j1 i3 S = some out) : zm_Met l zk_E V yX18_fact (.code yX18_fact cX18_fact 4 (some .long)) d [.ref a0, .long j1, .int i3] S 0 0 (zo_l out) zo_x := by
  refine zm_of (by decide +kernel) (Nat.le_of_ble_eq_true rfl) ?_
  intro p e R s m args below meth c hRR hX hr hxt
  have hR : R.frames = d ∧ R.locals = 64 * d := by rw [hRR]; exact ⟨rfl, rfl⟩
  have hX : zm_X p R s m args meth c RX18 "fact" cX18_fact 4 zk_E V 0 0 := hX
  unfold zf_X18_fact at h
  refine zw_sub (lv' := [(0, .ref a0), (1, .long j1), (3, .int i3)]) (List.forall_mem_cons.mpr ⟨rfl, (List.forall_mem_cons.mpr ⟨rfl, (List.forall_mem_cons.mpr ⟨rfl, zs_nil⟩)⟩)⟩) ?_
  refine zw_aload_n hX dX18_fact_0 rfl ?_
  refine zw_lload_n hX dX18_fact_1 rfl ?_
  obtain ⟨r3, g, h⟩ := zb_some h
  refine zc_Si (as := [.long j1]) hX (zt_X15_isName (d := d - 1) (by omega) g) zl_X18_302 dX18_fact_2 ⟨rfl, rfl, Nat.le_of_ble_eq_true rfl⟩ ⟨by omega, by omega⟩ ?_
  refine zw_if_eq (tgt := 26) hX dX18_fact_5 (by decide) (fun c5 => ?_) (fun c5 => ?_)
  · rw [if_pos c5] at h
    refine zw_sub (lv' := [(0, .ref a0), (1, .long j1), (3, .int i3)]) (List.forall_mem_cons.mpr ⟨rfl, (List.forall_mem_cons.mpr ⟨rfl, (List.forall_mem_cons.mpr ⟨rfl, zs_nil⟩)⟩)⟩) ?_
    exact zt_X18_fact_J26 hX hr hR hd h
  · rw [if_neg c5] at h
    refine zw_iload_n hX dX18_fact_8 rfl ?_
    refine zw_ldcw (v := (-1000000000 : Int32)) hX dX18_fact_9 zl_X18_306 ?_
    refine zw_icmp_lt (tgt := 26) hX dX18_fact_12 (by decide) (fun c12 => ?_) (fun c12 => ?_)
    · rw [if_pos c12] at h
      refine zw_sub (lv' := [(0, .ref a0), (1, .long j1), (3, .int i3)]) (List.forall_mem_cons.mpr ⟨rfl, (List.forall_mem_cons.mpr ⟨rfl, (List.forall_mem_cons.mpr ⟨rfl, zs_nil⟩)⟩)⟩) ?_
      exact zt_X18_fact_J26 hX hr hR hd h
    · rw [if_neg c12] at h
      refine zw_iload_n hX dX18_fact_15 rfl ?_
      refine zw_ldcw (v := (1000000000 : Int32)) hX dX18_fact_16 zl_X18_307 ?_
      refine zw_icmp_gt (tgt := 26) hX dX18_fact_19 (by decide) (fun c19 => ?_) (fun c19 => ?_)
      · rw [if_pos c19] at h
        refine zw_sub (lv' := [(0, .ref a0), (1, .long j1), (3, .int i3)]) (List.forall_mem_cons.mpr ⟨rfl, (List.forall_mem_cons.mpr ⟨rfl, (List.forall_mem_cons.mpr ⟨rfl, zs_nil⟩)⟩)⟩) ?_
        exact zt_X18_fact_J26 hX hr hR hd h
      · rw [if_neg c19] at h
        refine zw_iconst (v := (1 : Int32)) hX dX18_fact_22 (by decide) ?_
        refine zw_goto (tgt := 27) hX dX18_fact_23 (by decide) ?_
        refine zw_sub (lv' := [(0, .ref a0), (1, .long j1), (3, .int i3)]) (List.forall_mem_cons.mpr ⟨rfl, (List.forall_mem_cons.mpr ⟨rfl, (List.forall_mem_cons.mpr ⟨rfl, zs_nil⟩)⟩)⟩) ?_
        exact zt_X18_fact_J27 hX hr hR hd h
def zf_X18_measure_J55 (N : Nat) (a0 : Nat) (i1 : Int32) (i2 : Int32) (j3 : Int64) (t0 : Nat) (t1 : Int32) (t2 : Int32) (S : zm_S) : Option (Int32 × zm_S) := (zi S t0 18).bind (fun _ => (zf_X18_goes N t0 t1 t2 S).bind (fun r9 => if r9.1 = 0 then some ((0 : Int32), r9.2) else (zg_r r9.2 a0 18 3).bind (fun b10 => (zi r9.2 b10 16).bind (fun _ => (zf_X16_size N b10 i1 i2 r9.2).bind (fun r13 => (zg_r r13.2 a0 18 4).bind (fun b14 => (zi r13.2 b14 15).bind (fun _ => (zf_X15_fact N b14 j3 r13.1 r13.2).bind (fun r17 => some (r13.1, r17.2)))))))))
set_option maxHeartbeats 4000000 in
set_option maxRecDepth 100000 in
theorem zt_X18_measure_J55 {p : Program} {l : Launch} {e : Env} {R : Room} {s : State} {m : MethodId} {args : Array Value} {below : List Frame} {meth : Method} {c : Code} {V : zm_V} {mc ms d rc rs : Nat} (hX : zm_X p R s m args meth c RX18 "measure" cX18_measure 8 zk_E V mc ms) (hr : meth.sig.returnType = (some .int)) (hR : R.frames = d ∧ R.locals = 64 * d) (hd : 5 ≤ d) {N : Nat} {a0 : Nat} {i1 : Int32} {i2 : Int32} {j3 : Int64} {t0 : Nat} {t1 : Int32} {t2 : Int32} {out : (Int32 × zm_S)} {S : zm_S} (h : zf_X18_measure_J55 N a0 i1 i2 j3 t0 t1 t2 S = some out) : zw p l e R s m args below meth c (vx_MQ below (zm_Qc zk_E V (zo_i out)) (zm_XC zk_E V zo_x) args s mc ms (fun q => V.2.2.2.1 ≤ q)) 8 zk_E V mc ms 55 [(0, .ref a0), (1, .int i1), (2, .int i2), (3, .long j3)] [.int t2, .int t1, .ref t0] S rc rs := by
  unfold zf_X18_measure_J55 at h
  obtain ⟨_, gi, h⟩ := zb_some h
  obtain ⟨r9, g, h⟩ := zb_some h
  refine zc_Vi (as := [.int t1, .int t2]) hX gi (zt_X18_goes (d := d - 1) (by omega) g) zl_X18_199 rfl dX18_measure_55 ⟨rfl, rfl, Nat.le_of_ble_eq_true rfl⟩ ⟨by omega, by omega⟩ ?_
  refine zw_if_ne (tgt := 63) hX dX18_measure_58 (by decide) (fun c58 => ?_) (fun c58 => ?_)
  · rw [if_neg c58] at h
    refine zw_aload_n hX dX18_measure_63 rfl ?_
    obtain ⟨b10, g, h⟩ := zb_some h
    refine zw_getr hX zl_X18_12 dX18_measure_64 g ?_
    refine zw_iload_n hX dX18_measure_67 rfl ?_
    refine zw_iload_n hX dX18_measure_68 rfl ?_
    obtain ⟨_, gi, h⟩ := zb_some h
    obtain ⟨r13, g, h⟩ := zb_some h
    refine zc_Vi (as := [.int i1, .int i2]) hX gi (zt_X16_size (d := d - 1) (by omega) g) zl_X18_263 rfl dX18_measure_69 ⟨rfl, rfl, Nat.le_of_ble_eq_true rfl⟩ ⟨by omega, by omega⟩ ?_
    refine zw_istore hX dX18_measure_72 (by decide) ?_
    refine zw_aload_n hX dX18_measure_74 rfl ?_
    obtain ⟨b14, g, h⟩ := zb_some h
    refine zw_getr hX zl_X18_21 dX18_measure_75 g ?_
    refine zw_lload_n hX dX18_measure_78 rfl ?_
    refine zw_iload hX dX18_measure_79 rfl ?_
    obtain ⟨_, gi, h⟩ := zb_some h
    obtain ⟨r17, g, h⟩ := zb_some h
    refine zc_Vl (as := [.long j3, .int r13.1]) hX gi (zt_X15_fact (d := d - 1) (by omega) g) zl_X18_311 rfl dX18_measure_81 ⟨rfl, rfl, Nat.le_of_ble_eq_true rfl⟩ ⟨by omega, by omega⟩ ?_
    refine zw_lstore hX dX18_measure_84 (by decide) ?_
    refine zw_iload hX dX18_measure_86 rfl ?_
    obtain rfl := Option.some.inj h
    exact zw_iret hX hr dX18_measure_88 rfl ⟨rfl, rfl⟩
  · rw [if_pos c58] at h
    refine zw_iconst (v := (0 : Int32)) hX dX18_measure_61 (by decide) ?_
    obtain rfl := Option.some.inj h
    exact zw_iret hX hr dX18_measure_62 rfl ⟨rfl, rfl⟩
def zf_X18_measure_J54 (N : Nat) (a0 : Nat) (i1 : Int32) (i2 : Int32) (j3 : Int64) (t0 : Nat) (t1 : Int32) (S : zm_S) : Option (Int32 × zm_S) := zf_X18_measure_J55 N a0 i1 i2 j3 t0 t1 (0 : Int32) S
set_option maxHeartbeats 4000000 in
set_option maxRecDepth 100000 in
theorem zt_X18_measure_J54 {p : Program} {l : Launch} {e : Env} {R : Room} {s : State} {m : MethodId} {args : Array Value} {below : List Frame} {meth : Method} {c : Code} {V : zm_V} {mc ms d rc rs : Nat} (hX : zm_X p R s m args meth c RX18 "measure" cX18_measure 8 zk_E V mc ms) (hr : meth.sig.returnType = (some .int)) (hR : R.frames = d ∧ R.locals = 64 * d) (hd : 5 ≤ d) {N : Nat} {a0 : Nat} {i1 : Int32} {i2 : Int32} {j3 : Int64} {t0 : Nat} {t1 : Int32} {out : (Int32 × zm_S)} {S : zm_S} (h : zf_X18_measure_J54 N a0 i1 i2 j3 t0 t1 S = some out) : zw p l e R s m args below meth c (vx_MQ below (zm_Qc zk_E V (zo_i out)) (zm_XC zk_E V zo_x) args s mc ms (fun q => V.2.2.2.1 ≤ q)) 8 zk_E V mc ms 54 [(0, .ref a0), (1, .int i1), (2, .int i2), (3, .long j3)] [.int t1, .ref t0] S rc rs := by
  unfold zf_X18_measure_J54 at h
  refine zw_iconst (v := (0 : Int32)) hX dX18_measure_54 (by decide) ?_
  refine zw_sub (lv' := [(0, .ref a0), (1, .int i1), (2, .int i2), (3, .long j3)]) (List.forall_mem_cons.mpr ⟨rfl, (List.forall_mem_cons.mpr ⟨rfl, (List.forall_mem_cons.mpr ⟨rfl, (List.forall_mem_cons.mpr ⟨rfl, zs_nil⟩)⟩)⟩)⟩) ?_
  exact zt_X18_measure_J55 hX hr hR hd h
def zf_X18_measure_J32 (N : Nat) (a0 : Nat) (i1 : Int32) (i2 : Int32) (j3 : Int64) (t0 : Nat) (t1 : Int32) (S : zm_S) : Option (Int32 × zm_S) := (zg_r S a0 18 3).bind (fun b5 => (zg_i S b5 16 10).bind (fun v6 => if v6 = 0 then zf_X18_measure_J54 N a0 i1 i2 j3 t0 t1 S else (zi S a0 18).bind (fun _ => (zf_X18_hasRoom N a0 j3 S).bind (fun r20 => if r20.1 = 0 then zf_X18_measure_J54 N a0 i1 i2 j3 t0 t1 r20.2 else zf_X18_measure_J55 N a0 i1 i2 j3 t0 t1 (1 : Int32) r20.2))))
set_option maxHeartbeats 4000000 in
set_option maxRecDepth 100000 in
theorem zt_X18_measure_J32 {p : Program} {l : Launch} {e : Env} {R : Room} {s : State} {m : MethodId} {args : Array Value} {below : List Frame} {meth : Method} {c : Code} {V : zm_V} {mc ms d rc rs : Nat} (hX : zm_X p R s m args meth c RX18 "measure" cX18_measure 8 zk_E V mc ms) (hr : meth.sig.returnType = (some .int)) (hR : R.frames = d ∧ R.locals = 64 * d) (hd : 5 ≤ d) {N : Nat} {a0 : Nat} {i1 : Int32} {i2 : Int32} {j3 : Int64} {t0 : Nat} {t1 : Int32} {out : (Int32 × zm_S)} {S : zm_S} (h : zf_X18_measure_J32 N a0 i1 i2 j3 t0 t1 S = some out) : zw p l e R s m args below meth c (vx_MQ below (zm_Qc zk_E V (zo_i out)) (zm_XC zk_E V zo_x) args s mc ms (fun q => V.2.2.2.1 ≤ q)) 8 zk_E V mc ms 32 [(0, .ref a0), (1, .int i1), (2, .int i2), (3, .long j3)] [.int t1, .ref t0] S rc rs := by
  unfold zf_X18_measure_J32 at h
  refine zw_aload_n hX dX18_measure_32 rfl ?_
  obtain ⟨b5, g, h⟩ := zb_some h
  refine zw_getr hX zl_X18_12 dX18_measure_33 g ?_
  obtain ⟨v6, g, h⟩ := zb_some h
  refine zw_geti hX zl_X18_238 dX18_measure_36 g ?_
  refine zw_if_eq (tgt := 54) hX dX18_measure_39 (by decide) (fun c39 => ?_) (fun c39 => ?_)
  · rw [if_pos c39] at h
    refine zw_sub (lv' := [(0, .ref a0), (1, .int i1), (2, .int i2), (3, .long j3)]) (List.forall_mem_cons.mpr ⟨rfl, (List.forall_mem_cons.mpr ⟨rfl, (List.forall_mem_cons.mpr ⟨rfl, (List.forall_mem_cons.mpr ⟨rfl, zs_nil⟩)⟩)⟩)⟩) ?_
    exact zt_X18_measure_J54 hX hr hR hd h
  · rw [if_neg c39] at h
    refine zw_aload_n hX dX18_measure_42 rfl ?_
    refine zw_lload_n hX dX18_measure_43 rfl ?_
    obtain ⟨_, gi, h⟩ := zb_some h
    obtain ⟨r20, g, h⟩ := zb_some h
    refine zc_Vi (as := [.long j3]) hX gi (zt_X18_hasRoom (d := d - 1) (by omega) g) zl_X18_308 rfl dX18_measure_44 ⟨rfl, rfl, Nat.le_of_ble_eq_true rfl⟩ ⟨by omega, by omega⟩ ?_
    refine zw_if_eq (tgt := 54) hX dX18_measure_47 (by decide) (fun c47 => ?_) (fun c47 => ?_)
    · rw [if_pos c47] at h
      refine zw_sub (lv' := [(0, .ref a0), (1, .int i1), (2, .int i2), (3, .long j3)]) (List.forall_mem_cons.mpr ⟨rfl, (List.forall_mem_cons.mpr ⟨rfl, (List.forall_mem_cons.mpr ⟨rfl, (List.forall_mem_cons.mpr ⟨rfl, zs_nil⟩)⟩)⟩)⟩) ?_
      exact zt_X18_measure_J54 hX hr hR hd h
    · rw [if_neg c47] at h
      refine zw_iconst (v := (1 : Int32)) hX dX18_measure_50 (by decide) ?_
      refine zw_goto (tgt := 55) hX dX18_measure_51 (by decide) ?_
      refine zw_sub (lv' := [(0, .ref a0), (1, .int i1), (2, .int i2), (3, .long j3)]) (List.forall_mem_cons.mpr ⟨rfl, (List.forall_mem_cons.mpr ⟨rfl, (List.forall_mem_cons.mpr ⟨rfl, (List.forall_mem_cons.mpr ⟨rfl, zs_nil⟩)⟩)⟩)⟩) ?_
      exact zt_X18_measure_J55 hX hr hR hd h
def zf_X18_measure_J31 (N : Nat) (a0 : Nat) (i1 : Int32) (i2 : Int32) (j3 : Int64) (t0 : Nat) (S : zm_S) : Option (Int32 × zm_S) := zf_X18_measure_J32 N a0 i1 i2 j3 t0 (0 : Int32) S
set_option maxHeartbeats 4000000 in
set_option maxRecDepth 100000 in
theorem zt_X18_measure_J31 {p : Program} {l : Launch} {e : Env} {R : Room} {s : State} {m : MethodId} {args : Array Value} {below : List Frame} {meth : Method} {c : Code} {V : zm_V} {mc ms d rc rs : Nat} (hX : zm_X p R s m args meth c RX18 "measure" cX18_measure 8 zk_E V mc ms) (hr : meth.sig.returnType = (some .int)) (hR : R.frames = d ∧ R.locals = 64 * d) (hd : 5 ≤ d) {N : Nat} {a0 : Nat} {i1 : Int32} {i2 : Int32} {j3 : Int64} {t0 : Nat} {out : (Int32 × zm_S)} {S : zm_S} (h : zf_X18_measure_J31 N a0 i1 i2 j3 t0 S = some out) : zw p l e R s m args below meth c (vx_MQ below (zm_Qc zk_E V (zo_i out)) (zm_XC zk_E V zo_x) args s mc ms (fun q => V.2.2.2.1 ≤ q)) 8 zk_E V mc ms 31 [(0, .ref a0), (1, .int i1), (2, .int i2), (3, .long j3)] [.ref t0] S rc rs := by
  unfold zf_X18_measure_J31 at h
  refine zw_iconst (v := (0 : Int32)) hX dX18_measure_31 (by decide) ?_
  refine zw_sub (lv' := [(0, .ref a0), (1, .int i1), (2, .int i2), (3, .long j3)]) (List.forall_mem_cons.mpr ⟨rfl, (List.forall_mem_cons.mpr ⟨rfl, (List.forall_mem_cons.mpr ⟨rfl, (List.forall_mem_cons.mpr ⟨rfl, zs_nil⟩)⟩)⟩)⟩) ?_
  exact zt_X18_measure_J32 hX hr hR hd h
def zf_X18_measure (N : Nat) (a0 : Nat) (i1 : Int32) (i2 : Int32) (j3 : Int64) (S : zm_S) : Option (Int32 × zm_S) := (zg_r S a0 18 3).bind (fun b1 => (zi S b1 16).bind (fun _ => (zf_X16_isSpace N b1 i1 S).bind (fun r4 => if r4.1 = 0 then zf_X18_measure_J31 N a0 i1 i2 j3 a0 r4.2 else (zf_X18_isIn N i2 (3 : Int32) r4.2).bind (fun r23 => if r23.1 = 0 then zf_X18_measure_J31 N a0 i1 i2 j3 a0 r23.2 else (zf_X15_isName N j3 r23.2).bind (fun r26 => if r26.1 = 0 then zf_X18_measure_J31 N a0 i1 i2 j3 a0 r26.2 else zf_X18_measure_J32 N a0 i1 i2 j3 a0 (1 : Int32) r26.2)))))
set_option maxHeartbeats 4000000 in
set_option maxRecDepth 100000 in
theorem zt_X18_measure {l : Launch} {V : zm_V} {N : Nat} {S : zm_S} {out : (Int32 × zm_S)} {d : Nat} {a0 : Nat} {i1 : Int32} {i2 : Int32} {j3 : Int64} (hd : 5 ≤ d) (h : zf_X18_measure N a0 i1 i2 j3 S = some out) : zm_Met l zk_E V yX18_measure (.code yX18_measure cX18_measure 8 (some .int)) d [.ref a0, .int i1, .int i2, .long j3] S 0 0 (zo_i out) zo_x := by
  refine zm_of (by decide +kernel) (Nat.le_of_ble_eq_true rfl) ?_
  intro p e R s m args below meth c hRR hX hr hxt
  have hR : R.frames = d ∧ R.locals = 64 * d := by rw [hRR]; exact ⟨rfl, rfl⟩
  have hX : zm_X p R s m args meth c RX18 "measure" cX18_measure 8 zk_E V 0 0 := hX
  unfold zf_X18_measure at h
  refine zw_sub (lv' := [(0, .ref a0), (1, .int i1), (2, .int i2), (3, .long j3)]) (List.forall_mem_cons.mpr ⟨rfl, (List.forall_mem_cons.mpr ⟨rfl, (List.forall_mem_cons.mpr ⟨rfl, (List.forall_mem_cons.mpr ⟨rfl, zs_nil⟩)⟩)⟩)⟩) ?_
  refine zw_aload_n hX dX18_measure_0 rfl ?_
  refine zw_aload_n hX dX18_measure_1 rfl ?_
  obtain ⟨b1, g, h⟩ := zb_some h
  refine zw_getr hX zl_X18_12 dX18_measure_2 g ?_
  refine zw_iload_n hX dX18_measure_5 rfl ?_
  obtain ⟨_, gi, h⟩ := zb_some h
  obtain ⟨r4, g, h⟩ := zb_some h
  refine zc_Vi (as := [.int i1]) hX gi (zt_X16_isSpace (d := d - 1) (by omega) g) zl_X18_253 rfl dX18_measure_6 ⟨rfl, rfl, Nat.le_of_ble_eq_true rfl⟩ ⟨by omega, by omega⟩ ?_
  refine zw_if_eq (tgt := 31) hX dX18_measure_9 (by decide) (fun c9 => ?_) (fun c9 => ?_)
  · rw [if_pos c9] at h
    refine zw_sub (lv' := [(0, .ref a0), (1, .int i1), (2, .int i2), (3, .long j3)]) (List.forall_mem_cons.mpr ⟨rfl, (List.forall_mem_cons.mpr ⟨rfl, (List.forall_mem_cons.mpr ⟨rfl, (List.forall_mem_cons.mpr ⟨rfl, zs_nil⟩)⟩)⟩)⟩) ?_
    exact zt_X18_measure_J31 hX hr hR hd h
  · rw [if_neg c9] at h
    refine zw_iload_n hX dX18_measure_12 rfl ?_
    refine zw_iconst (v := (3 : Int32)) hX dX18_measure_13 (by decide) ?_
    obtain ⟨r23, g, h⟩ := zb_some h
    refine zc_Si (as := [.int i2, .int (3 : Int32)]) hX (zt_X18_isIn (d := d - 1) (by omega) g) zl_X18_207 dX18_measure_14 ⟨rfl, rfl, Nat.le_of_ble_eq_true rfl⟩ ⟨by omega, by omega⟩ ?_
    refine zw_if_eq (tgt := 31) hX dX18_measure_17 (by decide) (fun c17 => ?_) (fun c17 => ?_)
    · rw [if_pos c17] at h
      refine zw_sub (lv' := [(0, .ref a0), (1, .int i1), (2, .int i2), (3, .long j3)]) (List.forall_mem_cons.mpr ⟨rfl, (List.forall_mem_cons.mpr ⟨rfl, (List.forall_mem_cons.mpr ⟨rfl, (List.forall_mem_cons.mpr ⟨rfl, zs_nil⟩)⟩)⟩)⟩) ?_
      exact zt_X18_measure_J31 hX hr hR hd h
    · rw [if_neg c17] at h
      refine zw_lload_n hX dX18_measure_20 rfl ?_
      obtain ⟨r26, g, h⟩ := zb_some h
      refine zc_Si (as := [.long j3]) hX (zt_X15_isName (d := d - 1) (by omega) g) zl_X18_302 dX18_measure_21 ⟨rfl, rfl, Nat.le_of_ble_eq_true rfl⟩ ⟨by omega, by omega⟩ ?_
      refine zw_if_eq (tgt := 31) hX dX18_measure_24 (by decide) (fun c24 => ?_) (fun c24 => ?_)
      · rw [if_pos c24] at h
        refine zw_sub (lv' := [(0, .ref a0), (1, .int i1), (2, .int i2), (3, .long j3)]) (List.forall_mem_cons.mpr ⟨rfl, (List.forall_mem_cons.mpr ⟨rfl, (List.forall_mem_cons.mpr ⟨rfl, (List.forall_mem_cons.mpr ⟨rfl, zs_nil⟩)⟩)⟩)⟩) ?_
        exact zt_X18_measure_J31 hX hr hR hd h
      · rw [if_neg c24] at h
        refine zw_iconst (v := (1 : Int32)) hX dX18_measure_27 (by decide) ?_
        refine zw_goto (tgt := 32) hX dX18_measure_28 (by decide) ?_
        refine zw_sub (lv' := [(0, .ref a0), (1, .int i1), (2, .int i2), (3, .long j3)]) (List.forall_mem_cons.mpr ⟨rfl, (List.forall_mem_cons.mpr ⟨rfl, (List.forall_mem_cons.mpr ⟨rfl, (List.forall_mem_cons.mpr ⟨rfl, zs_nil⟩)⟩)⟩)⟩) ?_
        exact zt_X18_measure_J32 hX hr hR hd h
