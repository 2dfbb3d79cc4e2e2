/-! ===== functions of methods, by program (wip/whole/tools/gen11.py) ===== -/
theorem dX9_fail_0 : decode cX9_fail 0 = .ok (.aload_n 0, 1) := by decide +kernel
theorem dX9_fail_1 : decode cX9_fail 1 = .ok (.iload_n 1, 1) := by decide +kernel
theorem dX9_fail_2 : decode cX9_fail 2 = .ok (.putfield 105, 3) := by decide +kernel
theorem dX9_fail_5 : decode cX9_fail 5 = .ok (.iconst 0, 1) := by decide +kernel
theorem dX9_fail_6 : decode cX9_fail 6 = .ok (.ireturn, 1) := by decide +kernel
theorem dX9_inputOf_0 : decode cX9_inputOf 0 = .ok (.aload_n 0, 1) := by decide +kernel
theorem dX9_inputOf_1 : decode cX9_inputOf 1 = .ok (.getfield 26, 3) := by decide +kernel
theorem dX9_inputOf_4 : decode cX9_inputOf 4 = .ok (.iload_n 1, 1) := by decide +kernel
theorem dX9_inputOf_5 : decode cX9_inputOf 5 = .ok (.aaload, 1) := by decide +kernel
theorem dX9_inputOf_6 : decode cX9_inputOf 6 = .ok (.iload_n 2, 1) := by decide +kernel
theorem dX9_inputOf_7 : decode cX9_inputOf 7 = .ok (.iaload, 1) := by decide +kernel
theorem dX9_inputOf_8 : decode cX9_inputOf 8 = .ok (.istore_n 3, 1) := by decide +kernel
theorem dX9_inputOf_9 : decode cX9_inputOf 9 = .ok (.iload_n 3, 1) := by decide +kernel
theorem dX9_inputOf_10 : decode cX9_inputOf 10 = .ok (.iconst (-1), 1) := by decide +kernel
theorem dX9_inputOf_11 : decode cX9_inputOf 11 = .ok (.if_icmp .ne 7, 3) := by decide +kernel
theorem dX9_inputOf_18 : decode cX9_inputOf 18 = .ok (.aload_n 0, 1) := by decide +kernel
theorem dX9_inputOf_19 : decode cX9_inputOf 19 = .ok (.getfield 29, 3) := by decide +kernel
theorem dX9_inputOf_22 : decode cX9_inputOf 22 = .ok (.iload_n 3, 1) := by decide +kernel
theorem dX9_inputOf_23 : decode cX9_inputOf 23 = .ok (.iaload, 1) := by decide +kernel
theorem dX9_inputOf_24 : decode cX9_inputOf 24 = .ok (.ireturn, 1) := by decide +kernel
theorem dX9_inputOf_14 : decode cX9_inputOf 14 = .ok (.iconst 0, 1) := by decide +kernel
theorem dX9_inputOf_15 : decode cX9_inputOf 15 = .ok (.goto 9, 3) := by decide +kernel
theorem dX9_reckonPlain_0 : decode cX9_reckonPlain 0 = .ok (.iload_n 1, 1) := by decide +kernel
theorem dX9_reckonPlain_1 : decode cX9_reckonPlain 1 = .ok (.tableswitch 183 2 13 #[63, 67, 71, 75, 91, 111, 117, 123, 134, 145, 159, 173], 63) := by decide +kernel
theorem dX9_reckonPlain_184 : decode cX9_reckonPlain 184 = .ok (.iload_n 2, 1) := by decide +kernel
theorem dX9_reckonPlain_185 : decode cX9_reckonPlain 185 = .ok (.ifCond .eq 7, 3) := by decide +kernel
theorem dX9_reckonPlain_192 : decode cX9_reckonPlain 192 = .ok (.iload 4, 2) := by decide +kernel
theorem dX9_reckonPlain_194 : decode cX9_reckonPlain 194 = .ok (.ireturn, 1) := by decide +kernel
theorem dX9_reckonPlain_188 : decode cX9_reckonPlain 188 = .ok (.iload_n 3, 1) := by decide +kernel
theorem dX9_reckonPlain_189 : decode cX9_reckonPlain 189 = .ok (.goto 5, 3) := by decide +kernel
theorem dX9_reckonPlain_64 : decode cX9_reckonPlain 64 = .ok (.iload_n 2, 1) := by decide +kernel
theorem dX9_reckonPlain_65 : decode cX9_reckonPlain 65 = .ok (.iload_n 3, 1) := by decide +kernel
theorem dX9_reckonPlain_66 : decode cX9_reckonPlain 66 = .ok (.iadd, 1) := by decide +kernel
theorem dX9_reckonPlain_67 : decode cX9_reckonPlain 67 = .ok (.ireturn, 1) := by decide +kernel
theorem dX9_reckonPlain_68 : decode cX9_reckonPlain 68 = .ok (.iload_n 2, 1) := by decide +kernel
theorem dX9_reckonPlain_69 : decode cX9_reckonPlain 69 = .ok (.iload_n 3, 1) := by decide +kernel
theorem dX9_reckonPlain_70 : decode cX9_reckonPlain 70 = .ok (.isub, 1) := by decide +kernel
theorem dX9_reckonPlain_71 : decode cX9_reckonPlain 71 = .ok (.ireturn, 1) := by decide +kernel
theorem dX9_reckonPlain_72 : decode cX9_reckonPlain 72 = .ok (.iload_n 2, 1) := by decide +kernel
theorem dX9_reckonPlain_73 : decode cX9_reckonPlain 73 = .ok (.iload_n 3, 1) := by decide +kernel
theorem dX9_reckonPlain_74 : decode cX9_reckonPlain 74 = .ok (.imul, 1) := by decide +kernel
theorem dX9_reckonPlain_75 : decode cX9_reckonPlain 75 = .ok (.ireturn, 1) := by decide +kernel
theorem dX9_reckonPlain_76 : decode cX9_reckonPlain 76 = .ok (.iload_n 3, 1) := by decide +kernel
theorem dX9_reckonPlain_77 : decode cX9_reckonPlain 77 = .ok (.ifCond .ne 11, 3) := by decide +kernel
theorem dX9_reckonPlain_88 : decode cX9_reckonPlain 88 = .ok (.iload_n 2, 1) := by decide +kernel
theorem dX9_reckonPlain_89 : decode cX9_reckonPlain 89 = .ok (.iload_n 3, 1) := by decide +kernel
theorem dX9_reckonPlain_90 : decode cX9_reckonPlain 90 = .ok (.idiv, 1) := by decide +kernel
theorem dX9_reckonPlain_91 : decode cX9_reckonPlain 91 = .ok (.ireturn, 1) := by decide +kernel
theorem dX9_reckonPlain_80 : decode cX9_reckonPlain 80 = .ok (.aload_n 0, 1) := by decide +kernel
theorem dX9_reckonPlain_81 : decode cX9_reckonPlain 81 = .ok (.iconst 1, 1) := by decide +kernel
theorem dX9_reckonPlain_82 : decode cX9_reckonPlain 82 = .ok (.invokevirtual 118, 3) := by decide +kernel
theorem dX9_reckonPlain_85 : decode cX9_reckonPlain 85 = .ok (.goto 6, 3) := by decide +kernel
theorem dX9_reckonPlain_92 : decode cX9_reckonPlain 92 = .ok (.iload_n 3, 1) := by decide +kernel
theorem dX9_reckonPlain_93 : decode cX9_reckonPlain 93 = .ok (.ifCond .ne 11, 3) := by decide +kernel
theorem dX9_reckonPlain_104 : decode cX9_reckonPlain 104 = .ok (.iload_n 2, 1) := by decide +kernel
theorem dX9_reckonPlain_105 : decode cX9_reckonPlain 105 = .ok (.iload_n 3, 1) := by decide +kernel
theorem dX9_reckonPlain_106 : decode cX9_reckonPlain 106 = .ok (.iload_n 2, 1) := by decide +kernel
theorem dX9_reckonPlain_107 : decode cX9_reckonPlain 107 = .ok (.iload_n 3, 1) := by decide +kernel
theorem dX9_reckonPlain_108 : decode cX9_reckonPlain 108 = .ok (.idiv, 1) := by decide +kernel
theorem dX9_reckonPlain_109 : decode cX9_reckonPlain 109 = .ok (.imul, 1) := by decide +kernel
theorem dX9_reckonPlain_110 : decode cX9_reckonPlain 110 = .ok (.isub, 1) := by decide +kernel
theorem dX9_reckonPlain_111 : decode cX9_reckonPlain 111 = .ok (.ireturn, 1) := by decide +kernel
theorem dX9_reckonPlain_96 : decode cX9_reckonPlain 96 = .ok (.aload_n 0, 1) := by decide +kernel
theorem dX9_reckonPlain_97 : decode cX9_reckonPlain 97 = .ok (.iconst 1, 1) := by decide +kernel
theorem dX9_reckonPlain_98 : decode cX9_reckonPlain 98 = .ok (.invokevirtual 118, 3) := by decide +kernel
theorem dX9_reckonPlain_101 : decode cX9_reckonPlain 101 = .ok (.goto 10, 3) := by decide +kernel
theorem dX9_reckonPlain_112 : decode cX9_reckonPlain 112 = .ok (.iload_n 2, 1) := by decide +kernel
theorem dX9_reckonPlain_113 : decode cX9_reckonPlain 113 = .ok (.iload_n 3, 1) := by decide +kernel
theorem dX9_reckonPlain_114 : decode cX9_reckonPlain 114 = .ok (.invokestatic 132, 3) := by decide +kernel
theorem dX9_reckonPlain_117 : decode cX9_reckonPlain 117 = .ok (.ireturn, 1) := by decide +kernel
theorem dX9_reckonPlain_118 : decode cX9_reckonPlain 118 = .ok (.iload_n 2, 1) := by decide +kernel
theorem dX9_reckonPlain_119 : decode cX9_reckonPlain 119 = .ok (.iload_n 3, 1) := by decide +kernel
theorem dX9_reckonPlain_120 : decode cX9_reckonPlain 120 = .ok (.invokestatic 137, 3) := by decide +kernel
theorem dX9_reckonPlain_123 : decode cX9_reckonPlain 123 = .ok (.ireturn, 1) := by decide +kernel
theorem dX9_reckonPlain_124 : decode cX9_reckonPlain 124 = .ok (.iload_n 2, 1) := by decide +kernel
theorem dX9_reckonPlain_125 : decode cX9_reckonPlain 125 = .ok (.iload_n 3, 1) := by decide +kernel
theorem dX9_reckonPlain_126 : decode cX9_reckonPlain 126 = .ok (.if_icmp .ge 7, 3) := by decide +kernel
theorem dX9_reckonPlain_133 : decode cX9_reckonPlain 133 = .ok (.iconst 0, 1) := by decide +kernel
theorem dX9_reckonPlain_134 : decode cX9_reckonPlain 134 = .ok (.ireturn, 1) := by decide +kernel
theorem dX9_reckonPlain_129 : decode cX9_reckonPlain 129 = .ok (.iconst 1, 1) := by decide +kernel
theorem dX9_reckonPlain_130 : decode cX9_reckonPlain 130 = .ok (.goto 4, 3) := by decide +kernel
theorem dX9_reckonPlain_135 : decode cX9_reckonPlain 135 = .ok (.iload_n 2, 1) := by decide +kernel
theorem dX9_reckonPlain_136 : decode cX9_reckonPlain 136 = .ok (.iload_n 3, 1) := by decide +kernel
theorem dX9_reckonPlain_137 : decode cX9_reckonPlain 137 = .ok (.if_icmp .ne 7, 3) := by decide +kernel
theorem dX9_reckonPlain_144 : decode cX9_reckonPlain 144 = .ok (.iconst 0, 1) := by decide +kernel
theorem dX9_reckonPlain_145 : decode cX9_reckonPlain 145 = .ok (.ireturn, 1) := by decide +kernel
theorem dX9_reckonPlain_140 : decode cX9_reckonPlain 140 = .ok (.iconst 1, 1) := by decide +kernel
theorem dX9_reckonPlain_141 : decode cX9_reckonPlain 141 = .ok (.goto 4, 3) := by decide +kernel
theorem dX9_reckonPlain_146 : decode cX9_reckonPlain 146 = .ok (.iload_n 2, 1) := by decide +kernel
theorem dX9_reckonPlain_147 : decode cX9_reckonPlain 147 = .ok (.ifCond .eq 11, 3) := by decide +kernel
theorem dX9_reckonPlain_158 : decode cX9_reckonPlain 158 = .ok (.iconst 0, 1) := by decide +kernel
theorem dX9_reckonPlain_159 : decode cX9_reckonPlain 159 = .ok (.ireturn, 1) := by decide +kernel
theorem dX9_reckonPlain_150 : decode cX9_reckonPlain 150 = .ok (.iload_n 3, 1) := by decide +kernel
theorem dX9_reckonPlain_151 : decode cX9_reckonPlain 151 = .ok (.ifCond .eq 7, 3) := by decide +kernel
theorem dX9_reckonPlain_154 : decode cX9_reckonPlain 154 = .ok (.iconst 1, 1) := by decide +kernel
theorem dX9_reckonPlain_155 : decode cX9_reckonPlain 155 = .ok (.goto 4, 3) := by decide +kernel
theorem dX9_reckonPlain_160 : decode cX9_reckonPlain 160 = .ok (.iload_n 2, 1) := by decide +kernel
theorem dX9_reckonPlain_161 : decode cX9_reckonPlain 161 = .ok (.ifCond .ne 7, 3) := by decide +kernel
theorem dX9_reckonPlain_168 : decode cX9_reckonPlain 168 = .ok (.iconst 1, 1) := by decide +kernel
theorem dX9_reckonPlain_169 : decode cX9_reckonPlain 169 = .ok (.goto 4, 3) := by decide +kernel
theorem dX9_reckonPlain_173 : decode cX9_reckonPlain 173 = .ok (.ireturn, 1) := by decide +kernel
theorem dX9_reckonPlain_164 : decode cX9_reckonPlain 164 = .ok (.iload_n 3, 1) := by decide +kernel
theorem dX9_reckonPlain_165 : decode cX9_reckonPlain 165 = .ok (.ifCond .eq 7, 3) := by decide +kernel
theorem dX9_reckonPlain_172 : decode cX9_reckonPlain 172 = .ok (.iconst 0, 1) := by decide +kernel
theorem dX9_reckonPlain_174 : decode cX9_reckonPlain 174 = .ok (.iload_n 2, 1) := by decide +kernel
theorem dX9_reckonPlain_175 : decode cX9_reckonPlain 175 = .ok (.ifCond .ne 7, 3) := by decide +kernel
theorem dX9_reckonPlain_182 : decode cX9_reckonPlain 182 = .ok (.iconst 0, 1) := by decide +kernel
theorem dX9_reckonPlain_183 : decode cX9_reckonPlain 183 = .ok (.ireturn, 1) := by decide +kernel
theorem dX9_reckonPlain_178 : decode cX9_reckonPlain 178 = .ok (.iconst 1, 1) := by decide +kernel
theorem dX9_reckonPlain_179 : decode cX9_reckonPlain 179 = .ok (.goto 4, 3) := by decide +kernel
theorem dX9_ramp_0 : decode cX9_ramp 0 = .ok (.iload_n 2, 1) := by decide +kernel
theorem dX9_ramp_1 : decode cX9_ramp 1 = .ok (.iconst 0, 1) := by decide +kernel
theorem dX9_ramp_2 : decode cX9_ramp 2 = .ok (.invokestatic 137, 3) := by decide +kernel
theorem dX9_ramp_5 : decode cX9_ramp 5 = .ok (.i2l, 1) := by decide +kernel
theorem dX9_ramp_6 : decode cX9_ramp 6 = .ok (.lstore_n 3, 1) := by decide +kernel
theorem dX9_ramp_7 : decode cX9_ramp 7 = .ok (.iload_n 1, 1) := by decide +kernel
theorem dX9_ramp_8 : decode cX9_ramp 8 = .ok (.i2l, 1) := by decide +kernel
theorem dX9_ramp_9 : decode cX9_ramp 9 = .ok (.iload_n 0, 1) := by decide +kernel
theorem dX9_ramp_10 : decode cX9_ramp 10 = .ok (.i2l, 1) := by decide +kernel
theorem dX9_ramp_11 : decode cX9_ramp 11 = .ok (.lsub, 1) := by decide +kernel
theorem dX9_ramp_12 : decode cX9_ramp 12 = .ok (.lstore 5, 2) := by decide +kernel
theorem dX9_ramp_14 : decode cX9_ramp 14 = .ok (.lload 5, 2) := by decide +kernel
theorem dX9_ramp_16 : decode cX9_ramp 16 = .ok (.lload_n 3, 1) := by decide +kernel
theorem dX9_ramp_17 : decode cX9_ramp 17 = .ok (.lcmp, 1) := by decide +kernel
theorem dX9_ramp_18 : decode cX9_ramp 18 = .ok (.ifCond .gt 13, 3) := by decide +kernel
theorem dX9_ramp_31 : decode cX9_ramp 31 = .ok (.lload 5, 2) := by decide +kernel
theorem dX9_ramp_33 : decode cX9_ramp 33 = .ok (.lconst 0, 1) := by decide +kernel
theorem dX9_ramp_34 : decode cX9_ramp 34 = .ok (.lcmp, 1) := by decide +kernel
theorem dX9_ramp_35 : decode cX9_ramp 35 = .ok (.ifCond .le 10, 3) := by decide +kernel
theorem dX9_ramp_45 : decode cX9_ramp 45 = .ok (.iload_n 0, 1) := by decide +kernel
theorem dX9_ramp_46 : decode cX9_ramp 46 = .ok (.i2l, 1) := by decide +kernel
theorem dX9_ramp_47 : decode cX9_ramp 47 = .ok (.lload_n 3, 1) := by decide +kernel
theorem dX9_ramp_48 : decode cX9_ramp 48 = .ok (.lsub, 1) := by decide +kernel
theorem dX9_ramp_49 : decode cX9_ramp 49 = .ok (.l2i, 1) := by decide +kernel
theorem dX9_ramp_50 : decode cX9_ramp 50 = .ok (.ireturn, 1) := by decide +kernel
theorem dX9_ramp_38 : decode cX9_ramp 38 = .ok (.iload_n 0, 1) := by decide +kernel
theorem dX9_ramp_39 : decode cX9_ramp 39 = .ok (.i2l, 1) := by decide +kernel
theorem dX9_ramp_40 : decode cX9_ramp 40 = .ok (.lload_n 3, 1) := by decide +kernel
theorem dX9_ramp_41 : decode cX9_ramp 41 = .ok (.ladd, 1) := by decide +kernel
theorem dX9_ramp_42 : decode cX9_ramp 42 = .ok (.goto 7, 3) := by decide +kernel
theorem dX9_ramp_21 : decode cX9_ramp 21 = .ok (.lload 5, 2) := by decide +kernel
theorem dX9_ramp_23 : decode cX9_ramp 23 = .ok (.lload_n 3, 1) := by decide +kernel
theorem dX9_ramp_24 : decode cX9_ramp 24 = .ok (.lneg, 1) := by decide +kernel
theorem dX9_ramp_25 : decode cX9_ramp 25 = .ok (.lcmp, 1) := by decide +kernel
theorem dX9_ramp_26 : decode cX9_ramp 26 = .ok (.ifCond .lt 5, 3) := by decide +kernel
theorem dX9_ramp_29 : decode cX9_ramp 29 = .ok (.iload_n 1, 1) := by decide +kernel
theorem dX9_ramp_30 : decode cX9_ramp 30 = .ok (.ireturn, 1) := by decide +kernel
theorem dX9_countUp_0 : decode cX9_countUp 0 = .ok (.iload_n 2, 1) := by decide +kernel
theorem dX9_countUp_1 : decode cX9_countUp 1 = .ok (.ifCond .eq 10, 3) := by decide +kernel
theorem dX9_countUp_11 : decode cX9_countUp 11 = .ok (.iload_n 1, 1) := by decide +kernel
theorem dX9_countUp_12 : decode cX9_countUp 12 = .ok (.ifCond .eq 16, 3) := by decide +kernel
theorem dX9_countUp_28 : decode cX9_countUp 28 = .ok (.aload_n 0, 1) := by decide +kernel
theorem dX9_countUp_29 : decode cX9_countUp 29 = .ok (.iconst 1, 1) := by decide +kernel
theorem dX9_countUp_30 : decode cX9_countUp 30 = .ok (.iload_n 1, 1) := by decide +kernel
theorem dX9_countUp_31 : decode cX9_countUp 31 = .ok (.iastore, 1) := by decide +kernel
theorem dX9_countUp_32 : decode cX9_countUp 32 = .ok (.aload_n 0, 1) := by decide +kernel
theorem dX9_countUp_33 : decode cX9_countUp 33 = .ok (.iconst 0, 1) := by decide +kernel
theorem dX9_countUp_34 : decode cX9_countUp 34 = .ok (.iaload, 1) := by decide +kernel
theorem dX9_countUp_35 : decode cX9_countUp 35 = .ok (.ireturn, 1) := by decide +kernel
theorem dX9_countUp_15 : decode cX9_countUp 15 = .ok (.aload_n 0, 1) := by decide +kernel
theorem dX9_countUp_16 : decode cX9_countUp 16 = .ok (.iconst 1, 1) := by decide +kernel
theorem dX9_countUp_17 : decode cX9_countUp 17 = .ok (.iaload, 1) := by decide +kernel
theorem dX9_countUp_18 : decode cX9_countUp 18 = .ok (.ifCond .ne 10, 3) := by decide +kernel
theorem dX9_countUp_21 : decode cX9_countUp 21 = .ok (.aload_n 0, 1) := by decide +kernel
theorem dX9_countUp_22 : decode cX9_countUp 22 = .ok (.iconst 0, 1) := by decide +kernel
theorem dX9_countUp_23 : decode cX9_countUp 23 = .ok (.dup2, 1) := by decide +kernel
theorem dX9_countUp_24 : decode cX9_countUp 24 = .ok (.iaload, 1) := by decide +kernel
theorem dX9_countUp_25 : decode cX9_countUp 25 = .ok (.iconst 1, 1) := by decide +kernel
theorem dX9_countUp_26 : decode cX9_countUp 26 = .ok (.iadd, 1) := by decide +kernel
theorem dX9_countUp_27 : decode cX9_countUp 27 = .ok (.iastore, 1) := by decide +kernel
theorem dX9_countUp_4 : decode cX9_countUp 4 = .ok (.aload_n 0, 1) := by decide +kernel
theorem dX9_countUp_5 : decode cX9_countUp 5 = .ok (.iconst 0, 1) := by decide +kernel
theorem dX9_countUp_6 : decode cX9_countUp 6 = .ok (.iconst 0, 1) := by decide +kernel
theorem dX9_countUp_7 : decode cX9_countUp 7 = .ok (.iastore, 1) := by decide +kernel
theorem dX9_countUp_8 : decode cX9_countUp 8 = .ok (.goto 20, 3) := by decide +kernel
theorem dX9_latch_0 : decode cX9_latch 0 = .ok (.iload_n 1, 1) := by decide +kernel
theorem dX9_latch_1 : decode cX9_latch 1 = .ok (.ifCond .eq 10, 3) := by decide +kernel
theorem dX9_latch_11 : decode cX9_latch 11 = .ok (.iload_n 2, 1) := by decide +kernel
theorem dX9_latch_12 : decode cX9_latch 12 = .ok (.ifCond .eq 7, 3) := by decide +kernel
theorem dX9_latch_19 : decode cX9_latch 19 = .ok (.aload_n 0, 1) := by decide +kernel
theorem dX9_latch_20 : decode cX9_latch 20 = .ok (.iconst 0, 1) := by decide +kernel
theorem dX9_latch_21 : decode cX9_latch 21 = .ok (.iaload, 1) := by decide +kernel
theorem dX9_latch_22 : decode cX9_latch 22 = .ok (.ireturn, 1) := by decide +kernel
theorem dX9_latch_15 : decode cX9_latch 15 = .ok (.aload_n 0, 1) := by decide +kernel
theorem dX9_latch_16 : decode cX9_latch 16 = .ok (.iconst 0, 1) := by decide +kernel
theorem dX9_latch_17 : decode cX9_latch 17 = .ok (.iconst 0, 1) := by decide +kernel
theorem dX9_latch_18 : decode cX9_latch 18 = .ok (.iastore, 1) := by decide +kernel
theorem dX9_latch_4 : decode cX9_latch 4 = .ok (.aload_n 0, 1) := by decide +kernel
theorem dX9_latch_5 : decode cX9_latch 5 = .ok (.iconst 0, 1) := by decide +kernel
theorem dX9_latch_6 : decode cX9_latch 6 = .ok (.iconst 1, 1) := by decide +kernel
theorem dX9_latch_7 : decode cX9_latch 7 = .ok (.iastore, 1) := by decide +kernel
theorem dX9_latch_8 : decode cX9_latch 8 = .ok (.goto 11, 3) := by decide +kernel
theorem dX9_isInSpan_0 : decode cX9_isInSpan 0 = .ok (.iload_n 1, 1) := by decide +kernel
theorem dX9_isInSpan_1 : decode cX9_isInSpan 1 = .ok (.iload_n 2, 1) := by decide +kernel
theorem dX9_isInSpan_2 : decode cX9_isInSpan 2 = .ok (.if_icmp .gt 21, 3) := by decide +kernel
theorem dX9_isInSpan_23 : decode cX9_isInSpan 23 = .ok (.iload_n 0, 1) := by decide +kernel
theorem dX9_isInSpan_24 : decode cX9_isInSpan 24 = .ok (.iload_n 1, 1) := by decide +kernel
theorem dX9_isInSpan_25 : decode cX9_isInSpan 25 = .ok (.if_icmp .ge 8, 3) := by decide +kernel
theorem dX9_isInSpan_33 : decode cX9_isInSpan 33 = .ok (.iconst 1, 1) := by decide +kernel
theorem dX9_isInSpan_34 : decode cX9_isInSpan 34 = .ok (.goto 4, 3) := by decide +kernel
theorem dX9_isInSpan_38 : decode cX9_isInSpan 38 = .ok (.ireturn, 1) := by decide +kernel
theorem dX9_isInSpan_28 : decode cX9_isInSpan 28 = .ok (.iload_n 0, 1) := by decide +kernel
theorem dX9_isInSpan_29 : decode cX9_isInSpan 29 = .ok (.iload_n 2, 1) := by decide +kernel
theorem dX9_isInSpan_30 : decode cX9_isInSpan 30 = .ok (.if_icmp .ge 7, 3) := by decide +kernel
theorem dX9_isInSpan_37 : decode cX9_isInSpan 37 = .ok (.iconst 0, 1) := by decide +kernel
theorem dX9_isInSpan_5 : decode cX9_isInSpan 5 = .ok (.iload_n 1, 1) := by decide +kernel
theorem dX9_isInSpan_6 : decode cX9_isInSpan 6 = .ok (.iload_n 0, 1) := by decide +kernel
theorem dX9_isInSpan_7 : decode cX9_isInSpan 7 = .ok (.if_icmp .gt 12, 3) := by decide +kernel
theorem dX9_isInSpan_19 : decode cX9_isInSpan 19 = .ok (.iconst 0, 1) := by decide +kernel
theorem dX9_isInSpan_20 : decode cX9_isInSpan 20 = .ok (.goto 18, 3) := by decide +kernel
theorem dX9_isInSpan_10 : decode cX9_isInSpan 10 = .ok (.iload_n 0, 1) := by decide +kernel
theorem dX9_isInSpan_11 : decode cX9_isInSpan 11 = .ok (.iload_n 2, 1) := by decide +kernel
theorem dX9_isInSpan_12 : decode cX9_isInSpan 12 = .ok (.if_icmp .ge 7, 3) := by decide +kernel
theorem dX9_isInSpan_15 : decode cX9_isInSpan 15 = .ok (.iconst 1, 1) := by decide +kernel
theorem dX9_isInSpan_16 : decode cX9_isInSpan 16 = .ok (.goto 22, 3) := by decide +kernel
theorem dX9_pulse_0 : decode cX9_pulse 0 = .ok (.iload_n 1, 1) := by decide +kernel
theorem dX9_pulse_1 : decode cX9_pulse 1 = .ok (.ifCond .eq 13, 3) := by decide +kernel
theorem dX9_pulse_14 : decode cX9_pulse 14 = .ok (.aload_n 0, 1) := by decide +kernel
theorem dX9_pulse_15 : decode cX9_pulse 15 = .ok (.iconst 1, 1) := by decide +kernel
theorem dX9_pulse_16 : decode cX9_pulse 16 = .ok (.iload_n 1, 1) := by decide +kernel
theorem dX9_pulse_17 : decode cX9_pulse 17 = .ok (.iastore, 1) := by decide +kernel
theorem dX9_pulse_18 : decode cX9_pulse 18 = .ok (.aload_n 0, 1) := by decide +kernel
theorem dX9_pulse_19 : decode cX9_pulse 19 = .ok (.iconst 0, 1) := by decide +kernel
theorem dX9_pulse_20 : decode cX9_pulse 20 = .ok (.iaload, 1) := by decide +kernel
theorem dX9_pulse_21 : decode cX9_pulse 21 = .ok (.ifCond .le 12, 3) := by decide +kernel
theorem dX9_pulse_33 : decode cX9_pulse 33 = .ok (.iconst 0, 1) := by decide +kernel
theorem dX9_pulse_34 : decode cX9_pulse 34 = .ok (.ireturn, 1) := by decide +kernel
theorem dX9_pulse_24 : decode cX9_pulse 24 = .ok (.aload_n 0, 1) := by decide +kernel
theorem dX9_pulse_25 : decode cX9_pulse 25 = .ok (.iconst 0, 1) := by decide +kernel
theorem dX9_pulse_26 : decode cX9_pulse 26 = .ok (.dup2, 1) := by decide +kernel
theorem dX9_pulse_27 : decode cX9_pulse 27 = .ok (.iaload, 1) := by decide +kernel
theorem dX9_pulse_28 : decode cX9_pulse 28 = .ok (.iconst 1, 1) := by decide +kernel
theorem dX9_pulse_29 : decode cX9_pulse 29 = .ok (.isub, 1) := by decide +kernel
theorem dX9_pulse_30 : decode cX9_pulse 30 = .ok (.iastore, 1) := by decide +kernel
theorem dX9_pulse_31 : decode cX9_pulse 31 = .ok (.iconst 1, 1) := by decide +kernel
theorem dX9_pulse_32 : decode cX9_pulse 32 = .ok (.ireturn, 1) := by decide +kernel
theorem dX9_pulse_4 : decode cX9_pulse 4 = .ok (.aload_n 0, 1) := by decide +kernel
theorem dX9_pulse_5 : decode cX9_pulse 5 = .ok (.iconst 1, 1) := by decide +kernel
theorem dX9_pulse_6 : decode cX9_pulse 6 = .ok (.iaload, 1) := by decide +kernel
theorem dX9_pulse_7 : decode cX9_pulse 7 = .ok (.ifCond .ne 7, 3) := by decide +kernel
theorem dX9_pulse_10 : decode cX9_pulse 10 = .ok (.aload_n 0, 1) := by decide +kernel
theorem dX9_pulse_11 : decode cX9_pulse 11 = .ok (.iconst 0, 1) := by decide +kernel
theorem dX9_pulse_12 : decode cX9_pulse 12 = .ok (.iload_n 2, 1) := by decide +kernel
theorem dX9_pulse_13 : decode cX9_pulse 13 = .ok (.iastore, 1) := by decide +kernel
theorem dX9_limit_0 : decode cX9_limit 0 = .ok (.iload_n 0, 1) := by decide +kernel
theorem dX9_limit_1 : decode cX9_limit 1 = .ok (.iload_n 1, 1) := by decide +kernel
theorem dX9_limit_2 : decode cX9_limit 2 = .ok (.if_icmp .ge 5, 3) := by decide +kernel
theorem dX9_limit_7 : decode cX9_limit 7 = .ok (.iload_n 0, 1) := by decide +kernel
theorem dX9_limit_8 : decode cX9_limit 8 = .ok (.iload_n 2, 1) := by decide +kernel
theorem dX9_limit_9 : decode cX9_limit 9 = .ok (.if_icmp .le 7, 3) := by decide +kernel
theorem dX9_limit_16 : decode cX9_limit 16 = .ok (.iload_n 0, 1) := by decide +kernel
theorem dX9_limit_17 : decode cX9_limit 17 = .ok (.ireturn, 1) := by decide +kernel
theorem dX9_limit_12 : decode cX9_limit 12 = .ok (.iload_n 2, 1) := by decide +kernel
theorem dX9_limit_13 : decode cX9_limit 13 = .ok (.goto 4, 3) := by decide +kernel
theorem dX9_limit_5 : decode cX9_limit 5 = .ok (.iload_n 1, 1) := by decide +kernel
theorem dX9_limit_6 : decode cX9_limit 6 = .ok (.ireturn, 1) := by decide +kernel
theorem dX9_since_0 : decode cX9_since 0 = .ok (.iload_n 1, 1) := by decide +kernel
theorem dX9_since_1 : decode cX9_since 1 = .ok (.ifCond .eq 11, 3) := by decide +kernel
theorem dX9_since_12 : decode cX9_since 12 = .ok (.iconst 0, 1) := by decide +kernel
theorem dX9_since_13 : decode cX9_since 13 = .ok (.istore_n 3, 1) := by decide +kernel
theorem dX9_since_14 : decode cX9_since 14 = .ok (.aload_n 0, 1) := by decide +kernel
theorem dX9_since_15 : decode cX9_since 15 = .ok (.iconst 0, 1) := by decide +kernel
theorem dX9_since_16 : decode cX9_since 16 = .ok (.iload_n 3, 1) := by decide +kernel
theorem dX9_since_17 : decode cX9_since 17 = .ok (.iload_n 2, 1) := by decide +kernel
theorem dX9_since_18 : decode cX9_since 18 = .ok (.invokestatic 132, 3) := by decide +kernel
theorem dX9_since_21 : decode cX9_since 21 = .ok (.iastore, 1) := by decide +kernel
theorem dX9_since_22 : decode cX9_since 22 = .ok (.aload_n 0, 1) := by decide +kernel
theorem dX9_since_23 : decode cX9_since 23 = .ok (.iconst 0, 1) := by decide +kernel
theorem dX9_since_24 : decode cX9_since 24 = .ok (.iaload, 1) := by decide +kernel
theorem dX9_since_25 : decode cX9_since 25 = .ok (.ireturn, 1) := by decide +kernel
theorem dX9_since_4 : decode cX9_since 4 = .ok (.aload_n 0, 1) := by decide +kernel
theorem dX9_since_5 : decode cX9_since 5 = .ok (.iconst 0, 1) := by decide +kernel
theorem dX9_since_6 : decode cX9_since 6 = .ok (.iaload, 1) := by decide +kernel
theorem dX9_since_7 : decode cX9_since 7 = .ok (.iconst 1, 1) := by decide +kernel
theorem dX9_since_8 : decode cX9_since 8 = .ok (.iadd, 1) := by decide +kernel
theorem dX9_since_9 : decode cX9_since 9 = .ok (.goto 4, 3) := by decide +kernel
theorem dX9_countFailure_0 : decode cX9_countFailure 0 = .ok (.aload_n 0, 1) := by decide +kernel
theorem dX9_countFailure_1 : decode cX9_countFailure 1 = .ok (.getfield 57, 3) := by decide +kernel
theorem dX9_countFailure_4 : decode cX9_countFailure 4 = .ok (.iload_n 1, 1) := by decide +kernel
theorem dX9_countFailure_5 : decode cX9_countFailure 5 = .ok (.dup2, 1) := by decide +kernel
theorem dX9_countFailure_6 : decode cX9_countFailure 6 = .ok (.iaload, 1) := by decide +kernel
theorem dX9_countFailure_7 : decode cX9_countFailure 7 = .ok (.iconst 1, 1) := by decide +kernel
theorem dX9_countFailure_8 : decode cX9_countFailure 8 = .ok (.iadd, 1) := by decide +kernel
theorem dX9_countFailure_9 : decode cX9_countFailure 9 = .ok (.iastore, 1) := by decide +kernel
theorem dX9_countFailure_10 : decode cX9_countFailure 10 = .ok (.aload_n 0, 1) := by decide +kernel
theorem dX9_countFailure_11 : decode cX9_countFailure 11 = .ok (.getfield 57, 3) := by decide +kernel
theorem dX9_countFailure_14 : decode cX9_countFailure 14 = .ok (.iconst 0, 1) := by decide +kernel
theorem dX9_countFailure_15 : decode cX9_countFailure 15 = .ok (.dup2, 1) := by decide +kernel
theorem dX9_countFailure_16 : decode cX9_countFailure 16 = .ok (.iaload, 1) := by decide +kernel
theorem dX9_countFailure_17 : decode cX9_countFailure 17 = .ok (.iconst 1, 1) := by decide +kernel
theorem dX9_countFailure_18 : decode cX9_countFailure 18 = .ok (.iadd, 1) := by decide +kernel
theorem dX9_countFailure_19 : decode cX9_countFailure 19 = .ok (.iastore, 1) := by decide +kernel
theorem dX9_countFailure_20 : decode cX9_countFailure 20 = .ok (.return_, 1) := by decide +kernel
theorem dX9_takeDelayed_0 : decode cX9_takeDelayed 0 = .ok (.aload_n 0, 1) := by decide +kernel
theorem dX9_takeDelayed_1 : decode cX9_takeDelayed 1 = .ok (.getfield 26, 3) := by decide +kernel
theorem dX9_takeDelayed_4 : decode cX9_takeDelayed 4 = .ok (.iload_n 1, 1) := by decide +kernel
theorem dX9_takeDelayed_5 : decode cX9_takeDelayed 5 = .ok (.aaload, 1) := by decide +kernel
theorem dX9_takeDelayed_6 : decode cX9_takeDelayed 6 = .ok (.iconst 0, 1) := by decide +kernel
theorem dX9_takeDelayed_7 : decode cX9_takeDelayed 7 = .ok (.iaload, 1) := by decide +kernel
theorem dX9_takeDelayed_8 : decode cX9_takeDelayed 8 = .ok (.istore_n 2, 1) := by decide +kernel
theorem dX9_takeDelayed_9 : decode cX9_takeDelayed 9 = .ok (.iload_n 2, 1) := by decide +kernel
theorem dX9_takeDelayed_10 : decode cX9_takeDelayed 10 = .ok (.iconst (-1), 1) := by decide +kernel
theorem dX9_takeDelayed_11 : decode cX9_takeDelayed 11 = .ok (.if_icmp .eq 18, 3) := by decide +kernel
theorem dX9_takeDelayed_29 : decode cX9_takeDelayed 29 = .ok (.aload_n 0, 1) := by decide +kernel
theorem dX9_takeDelayed_30 : decode cX9_takeDelayed 30 = .ok (.iconst 3, 1) := by decide +kernel
theorem dX9_takeDelayed_31 : decode cX9_takeDelayed 31 = .ok (.invokevirtual 112, 3) := by decide +kernel
theorem dX9_takeDelayed_34 : decode cX9_takeDelayed 34 = .ok (.aload_n 0, 1) := by decide +kernel
theorem dX9_takeDelayed_35 : decode cX9_takeDelayed 35 = .ok (.getfield 38, 3) := by decide +kernel
theorem dX9_takeDelayed_38 : decode cX9_takeDelayed 38 = .ok (.iload_n 1, 1) := by decide +kernel
theorem dX9_takeDelayed_39 : decode cX9_takeDelayed 39 = .ok (.baload, 1) := by decide +kernel
theorem dX9_takeDelayed_40 : decode cX9_takeDelayed 40 = .ok (.ifCond .ne 15, 3) := by decide +kernel
theorem dX9_takeDelayed_55 : decode cX9_takeDelayed 55 = .ok (.return_, 1) := by decide +kernel
theorem dX9_takeDelayed_43 : decode cX9_takeDelayed 43 = .ok (.aload_n 0, 1) := by decide +kernel
theorem dX9_takeDelayed_44 : decode cX9_takeDelayed 44 = .ok (.getfield 29, 3) := by decide +kernel
theorem dX9_takeDelayed_47 : decode cX9_takeDelayed 47 = .ok (.iload_n 1, 1) := by decide +kernel
theorem dX9_takeDelayed_48 : decode cX9_takeDelayed 48 = .ok (.aload_n 0, 1) := by decide +kernel
theorem dX9_takeDelayed_49 : decode cX9_takeDelayed 49 = .ok (.getfield 21, 3) := by decide +kernel
theorem dX9_takeDelayed_52 : decode cX9_takeDelayed 52 = .ok (.iload_n 1, 1) := by decide +kernel
theorem dX9_takeDelayed_53 : decode cX9_takeDelayed 53 = .ok (.iaload, 1) := by decide +kernel
theorem dX9_takeDelayed_54 : decode cX9_takeDelayed 54 = .ok (.iastore, 1) := by decide +kernel
theorem dX9_takeDelayed_14 : decode cX9_takeDelayed 14 = .ok (.aload_n 0, 1) := by decide +kernel
theorem dX9_takeDelayed_15 : decode cX9_takeDelayed 15 = .ok (.getfield 32, 3) := by decide +kernel
theorem dX9_takeDelayed_18 : decode cX9_takeDelayed 18 = .ok (.iload_n 1, 1) := by decide +kernel
theorem dX9_takeDelayed_19 : decode cX9_takeDelayed 19 = .ok (.aaload, 1) := by decide +kernel
theorem dX9_takeDelayed_20 : decode cX9_takeDelayed 20 = .ok (.iconst 0, 1) := by decide +kernel
theorem dX9_takeDelayed_21 : decode cX9_takeDelayed 21 = .ok (.aload_n 0, 1) := by decide +kernel
theorem dX9_takeDelayed_22 : decode cX9_takeDelayed 22 = .ok (.getfield 29, 3) := by decide +kernel
theorem dX9_takeDelayed_25 : decode cX9_takeDelayed 25 = .ok (.iload_n 2, 1) := by decide +kernel
theorem dX9_takeDelayed_26 : decode cX9_takeDelayed 26 = .ok (.iaload, 1) := by decide +kernel
theorem dX9_takeDelayed_27 : decode cX9_takeDelayed 27 = .ok (.iastore, 1) := by decide +kernel
theorem dX9_takeDelayed_28 : decode cX9_takeDelayed 28 = .ok (.return_, 1) := by decide +kernel
theorem dX10_isInSpace_0 : decode cX10_isInSpace 0 = .ok (.iload_n 1, 1) := by decide +kernel
theorem dX10_isInSpace_1 : decode cX10_isInSpace 1 = .ok (.ifCond .lt 27, 3) := by decide +kernel
theorem dX10_isInSpace_28 : decode cX10_isInSpace 28 = .ok (.iconst 0, 1) := by decide +kernel
theorem dX10_isInSpace_29 : decode cX10_isInSpace 29 = .ok (.ireturn, 1) := by decide +kernel
theorem dX10_isInSpace_4 : decode cX10_isInSpace 4 = .ok (.iload_n 1, 1) := by decide +kernel
theorem dX10_isInSpace_5 : decode cX10_isInSpace 5 = .ok (.sipush 576, 3) := by decide +kernel
theorem dX10_isInSpace_8 : decode cX10_isInSpace 8 = .ok (.if_icmp .ge 20, 3) := by decide +kernel
theorem dX10_isInSpace_11 : decode cX10_isInSpace 11 = .ok (.aload_n 0, 1) := by decide +kernel
theorem dX10_isInSpace_12 : decode cX10_isInSpace 12 = .ok (.getfield 44, 3) := by decide +kernel
theorem dX10_isInSpace_15 : decode cX10_isInSpace 15 = .ok (.getfield 55, 3) := by decide +kernel
theorem dX10_isInSpace_18 : decode cX10_isInSpace 18 = .ok (.iload_n 1, 1) := by decide +kernel
theorem dX10_isInSpace_19 : decode cX10_isInSpace 19 = .ok (.iaload, 1) := by decide +kernel
theorem dX10_isInSpace_20 : decode cX10_isInSpace 20 = .ok (.iconst (-1), 1) := by decide +kernel
theorem dX10_isInSpace_21 : decode cX10_isInSpace 21 = .ok (.if_icmp .eq 7, 3) := by decide +kernel
theorem dX10_isInSpace_24 : decode cX10_isInSpace 24 = .ok (.iconst 1, 1) := by decide +kernel
theorem dX10_isInSpace_25 : decode cX10_isInSpace 25 = .ok (.goto 4, 3) := by decide +kernel
theorem dX10_canGo_0 : decode cX10_canGo 0 = .ok (.aload_n 0, 1) := by decide +kernel
theorem dX10_canGo_1 : decode cX10_canGo 1 = .ok (.getfield 44, 3) := by decide +kernel
theorem dX10_canGo_4 : decode cX10_canGo 4 = .ok (.iload_n 1, 1) := by decide +kernel
theorem dX10_canGo_5 : decode cX10_canGo 5 = .ok (.iload_n 2, 1) := by decide +kernel
theorem dX10_canGo_6 : decode cX10_canGo 6 = .ok (.invokevirtual 58, 3) := by decide +kernel
theorem dX10_canGo_9 : decode cX10_canGo 9 = .ok (.istore_n 3, 1) := by decide +kernel
theorem dX10_canGo_10 : decode cX10_canGo 10 = .ok (.iload_n 3, 1) := by decide +kernel
theorem dX10_canGo_11 : decode cX10_canGo 11 = .ok (.iconst (-1), 1) := by decide +kernel
theorem dX10_canGo_12 : decode cX10_canGo 12 = .ok (.if_icmp .eq 24, 3) := by decide +kernel
theorem dX10_canGo_36 : decode cX10_canGo 36 = .ok (.iconst 1, 1) := by decide +kernel
theorem dX10_canGo_37 : decode cX10_canGo 37 = .ok (.goto 4, 3) := by decide +kernel
theorem dX10_canGo_41 : decode cX10_canGo 41 = .ok (.ireturn, 1) := by decide +kernel
theorem dX10_canGo_15 : decode cX10_canGo 15 = .ok (.aload_n 0, 1) := by decide +kernel
theorem dX10_canGo_16 : decode cX10_canGo 16 = .ok (.getfield 40, 3) := by decide +kernel
theorem dX10_canGo_19 : decode cX10_canGo 19 = .ok (.iload_n 3, 1) := by decide +kernel
theorem dX10_canGo_20 : decode cX10_canGo 20 = .ok (.aload_n 0, 1) := by decide +kernel
theorem dX10_canGo_21 : decode cX10_canGo 21 = .ok (.getfield 44, 3) := by decide +kernel
theorem dX10_canGo_24 : decode cX10_canGo 24 = .ok (.iload_n 1, 1) := by decide +kernel
theorem dX10_canGo_25 : decode cX10_canGo 25 = .ok (.iload_n 2, 1) := by decide +kernel
theorem dX10_canGo_26 : decode cX10_canGo 26 = .ok (.iload_n 3, 1) := by decide +kernel
theorem dX10_canGo_27 : decode cX10_canGo 27 = .ok (.invokevirtual 62, 3) := by decide +kernel
theorem dX10_canGo_30 : decode cX10_canGo 30 = .ok (.invokevirtual 66, 3) := by decide +kernel
theorem dX10_canGo_33 : decode cX10_canGo 33 = .ok (.ifCond .eq 7, 3) := by decide +kernel
theorem dX10_canGo_40 : decode cX10_canGo 40 = .ok (.iconst 0, 1) := by decide +kernel
theorem dX10_isBesideOutside_0 : decode cX10_isBesideOutside 0 = .ok (.iconst 0, 1) := by decide +kernel
theorem dX10_isBesideOutside_1 : decode cX10_isBesideOutside 1 = .ok (.istore_n 2, 1) := by decide +kernel
theorem dX10_isBesideOutside_2 : decode cX10_isBesideOutside 2 = .ok (.iload_n 2, 1) := by decide +kernel
theorem dX10_isBesideOutside_3 : decode cX10_isBesideOutside 3 = .ok (.iconst 4, 1) := by decide +kernel
theorem dX10_isBesideOutside_4 : decode cX10_isBesideOutside 4 = .ok (.if_icmp .ge 36, 3) := by decide +kernel
theorem dX10_isBesideOutside_7 : decode cX10_isBesideOutside 7 = .ok (.aload_n 0, 1) := by decide +kernel
theorem dX10_isBesideOutside_8 : decode cX10_isBesideOutside 8 = .ok (.aload_n 0, 1) := by decide +kernel
theorem dX10_isBesideOutside_9 : decode cX10_isBesideOutside 9 = .ok (.getfield 44, 3) := by decide +kernel
theorem dX10_isBesideOutside_12 : decode cX10_isBesideOutside 12 = .ok (.iload_n 1, 1) := by decide +kernel
theorem dX10_isBesideOutside_13 : decode cX10_isBesideOutside 13 = .ok (.iload_n 2, 1) := by decide +kernel
theorem dX10_isBesideOutside_14 : decode cX10_isBesideOutside 14 = .ok (.invokevirtual 77, 3) := by decide +kernel
theorem dX10_isBesideOutside_17 : decode cX10_isBesideOutside 17 = .ok (.invokevirtual 70, 3) := by decide +kernel
theorem dX10_isBesideOutside_20 : decode cX10_isBesideOutside 20 = .ok (.ifCond .ne 14, 3) := by decide +kernel
theorem dX10_isBesideOutside_34 : decode cX10_isBesideOutside 34 = .ok (.iinc 2 1, 3) := by decide +kernel
theorem dX10_isBesideOutside_37 : decode cX10_isBesideOutside 37 = .ok (.goto (-35), 3) := by decide +kernel
theorem dX10_isBesideOutside_23 : decode cX10_isBesideOutside 23 = .ok (.aload_n 0, 1) := by decide +kernel
theorem dX10_isBesideOutside_24 : decode cX10_isBesideOutside 24 = .ok (.iload_n 1, 1) := by decide +kernel
theorem dX10_isBesideOutside_25 : decode cX10_isBesideOutside 25 = .ok (.iload_n 2, 1) := by decide +kernel
theorem dX10_isBesideOutside_26 : decode cX10_isBesideOutside 26 = .ok (.invokevirtual 80, 3) := by decide +kernel
theorem dX10_isBesideOutside_29 : decode cX10_isBesideOutside 29 = .ok (.ifCond .eq 5, 3) := by decide +kernel
theorem dX10_isBesideOutside_32 : decode cX10_isBesideOutside 32 = .ok (.iconst 1, 1) := by decide +kernel
theorem dX10_isBesideOutside_33 : decode cX10_isBesideOutside 33 = .ok (.ireturn, 1) := by decide +kernel
theorem dX10_isBesideOutside_40 : decode cX10_isBesideOutside 40 = .ok (.iconst 0, 1) := by decide +kernel
theorem dX10_isBesideOutside_41 : decode cX10_isBesideOutside 41 = .ok (.ireturn, 1) := by decide +kernel
theorem dX10_numberCells_0 : decode cX10_numberCells 0 = .ok (.iconst 0, 1) := by decide +kernel
theorem dX10_numberCells_1 : decode cX10_numberCells 1 = .ok (.istore_n 1, 1) := by decide +kernel
theorem dX10_numberCells_2 : decode cX10_numberCells 2 = .ok (.iconst 0, 1) := by decide +kernel
theorem dX10_numberCells_3 : decode cX10_numberCells 3 = .ok (.istore_n 2, 1) := by decide +kernel
theorem dX10_numberCells_4 : decode cX10_numberCells 4 = .ok (.iload_n 2, 1) := by decide +kernel
theorem dX10_numberCells_5 : decode cX10_numberCells 5 = .ok (.sipush 576, 3) := by decide +kernel
theorem dX10_numberCells_8 : decode cX10_numberCells 8 = .ok (.if_icmp .ge 49, 3) := by decide +kernel
theorem dX10_numberCells_11 : decode cX10_numberCells 11 = .ok (.aload_n 0, 1) := by decide +kernel
theorem dX10_numberCells_12 : decode cX10_numberCells 12 = .ok (.getfield 21, 3) := by decide +kernel
theorem dX10_numberCells_15 : decode cX10_numberCells 15 = .ok (.iload_n 2, 1) := by decide +kernel
theorem dX10_numberCells_16 : decode cX10_numberCells 16 = .ok (.iconst (-1), 1) := by decide +kernel
theorem dX10_numberCells_17 : decode cX10_numberCells 17 = .ok (.iastore, 1) := by decide +kernel
theorem dX10_numberCells_18 : decode cX10_numberCells 18 = .ok (.aload_n 0, 1) := by decide +kernel
theorem dX10_numberCells_19 : decode cX10_numberCells 19 = .ok (.iload_n 2, 1) := by decide +kernel
theorem dX10_numberCells_20 : decode cX10_numberCells 20 = .ok (.invokevirtual 70, 3) := by decide +kernel
theorem dX10_numberCells_23 : decode cX10_numberCells 23 = .ok (.ifCond .eq 28, 3) := by decide +kernel
theorem dX10_numberCells_51 : decode cX10_numberCells 51 = .ok (.iinc 2 1, 3) := by decide +kernel
theorem dX10_numberCells_54 : decode cX10_numberCells 54 = .ok (.goto (-50), 3) := by decide +kernel
theorem dX10_numberCells_26 : decode cX10_numberCells 26 = .ok (.aload_n 0, 1) := by decide +kernel
theorem dX10_numberCells_27 : decode cX10_numberCells 27 = .ok (.iload_n 2, 1) := by decide +kernel
theorem dX10_numberCells_28 : decode cX10_numberCells 28 = .ok (.invokevirtual 74, 3) := by decide +kernel
theorem dX10_numberCells_31 : decode cX10_numberCells 31 = .ok (.ifCond .eq 20, 3) := by decide +kernel
theorem dX10_numberCells_34 : decode cX10_numberCells 34 = .ok (.aload_n 0, 1) := by decide +kernel
theorem dX10_numberCells_35 : decode cX10_numberCells 35 = .ok (.getfield 21, 3) := by decide +kernel
theorem dX10_numberCells_38 : decode cX10_numberCells 38 = .ok (.iload_n 2, 1) := by decide +kernel
theorem dX10_numberCells_39 : decode cX10_numberCells 39 = .ok (.iconst 1, 1) := by decide +kernel
theorem dX10_numberCells_40 : decode cX10_numberCells 40 = .ok (.iastore, 1) := by decide +kernel
theorem dX10_numberCells_41 : decode cX10_numberCells 41 = .ok (.aload_n 0, 1) := by decide +kernel
theorem dX10_numberCells_42 : decode cX10_numberCells 42 = .ok (.getfield 24, 3) := by decide +kernel
theorem dX10_numberCells_45 : decode cX10_numberCells 45 = .ok (.iload_n 1, 1) := by decide +kernel
theorem dX10_numberCells_46 : decode cX10_numberCells 46 = .ok (.iload_n 2, 1) := by decide +kernel
theorem dX10_numberCells_47 : decode cX10_numberCells 47 = .ok (.iastore, 1) := by decide +kernel
theorem dX10_numberCells_48 : decode cX10_numberCells 48 = .ok (.iinc 1 1, 3) := by decide +kernel
theorem dX10_numberCells_57 : decode cX10_numberCells 57 = .ok (.iconst 0, 1) := by decide +kernel
theorem dX10_numberCells_58 : decode cX10_numberCells 58 = .ok (.istore_n 2, 1) := by decide +kernel
theorem dX10_numberCells_59 : decode cX10_numberCells 59 = .ok (.iload_n 2, 1) := by decide +kernel
theorem dX10_numberCells_60 : decode cX10_numberCells 60 = .ok (.iload_n 1, 1) := by decide +kernel
theorem dX10_numberCells_61 : decode cX10_numberCells 61 = .ok (.if_icmp .ge 122, 3) := by decide +kernel
theorem dX10_numberCells_64 : decode cX10_numberCells 64 = .ok (.iconst 0, 1) := by decide +kernel
theorem dX10_numberCells_65 : decode cX10_numberCells 65 = .ok (.istore_n 3, 1) := by decide +kernel
theorem dX10_numberCells_66 : decode cX10_numberCells 66 = .ok (.iload_n 3, 1) := by decide +kernel
theorem dX10_numberCells_67 : decode cX10_numberCells 67 = .ok (.iconst 4, 1) := by decide +kernel
theorem dX10_numberCells_68 : decode cX10_numberCells 68 = .ok (.if_icmp .ge 109, 3) := by decide +kernel
theorem dX10_numberCells_71 : decode cX10_numberCells 71 = .ok (.aload_n 0, 1) := by decide +kernel
theorem dX10_numberCells_72 : decode cX10_numberCells 72 = .ok (.getfield 44, 3) := by decide +kernel
theorem dX10_numberCells_75 : decode cX10_numberCells 75 = .ok (.aload_n 0, 1) := by decide +kernel
theorem dX10_numberCells_76 : decode cX10_numberCells 76 = .ok (.getfield 24, 3) := by decide +kernel
theorem dX10_numberCells_79 : decode cX10_numberCells 79 = .ok (.iload_n 2, 1) := by decide +kernel
theorem dX10_numberCells_80 : decode cX10_numberCells 80 = .ok (.iaload, 1) := by decide +kernel
theorem dX10_numberCells_81 : decode cX10_numberCells 81 = .ok (.iload_n 3, 1) := by decide +kernel
theorem dX10_numberCells_82 : decode cX10_numberCells 82 = .ok (.invokevirtual 77, 3) := by decide +kernel
theorem dX10_numberCells_85 : decode cX10_numberCells 85 = .ok (.istore 4, 2) := by decide +kernel
theorem dX10_numberCells_87 : decode cX10_numberCells 87 = .ok (.aload_n 0, 1) := by decide +kernel
theorem dX10_numberCells_88 : decode cX10_numberCells 88 = .ok (.iload 4, 2) := by decide +kernel
theorem dX10_numberCells_90 : decode cX10_numberCells 90 = .ok (.invokevirtual 70, 3) := by decide +kernel
theorem dX10_numberCells_93 : decode cX10_numberCells 93 = .ok (.ifCond .eq 25, 3) := by decide +kernel
theorem dX10_numberCells_118 : decode cX10_numberCells 118 = .ok (.iconst 0, 1) := by decide +kernel
theorem dX10_numberCells_119 : decode cX10_numberCells 119 = .ok (.istore 5, 2) := by decide +kernel
theorem dX10_numberCells_121 : decode cX10_numberCells 121 = .ok (.iload 5, 2) := by decide +kernel
theorem dX10_numberCells_123 : decode cX10_numberCells 123 = .ok (.ifCond .eq 48, 3) := by decide +kernel
theorem dX10_numberCells_171 : decode cX10_numberCells 171 = .ok (.iinc 3 1, 3) := by decide +kernel
theorem dX10_numberCells_174 : decode cX10_numberCells 174 = .ok (.goto (-108), 3) := by decide +kernel
theorem dX10_numberCells_126 : decode cX10_numberCells 126 = .ok (.aload_n 0, 1) := by decide +kernel
theorem dX10_numberCells_127 : decode cX10_numberCells 127 = .ok (.aload_n 0, 1) := by decide +kernel
theorem dX10_numberCells_128 : decode cX10_numberCells 128 = .ok (.getfield 24, 3) := by decide +kernel
theorem dX10_numberCells_131 : decode cX10_numberCells 131 = .ok (.iload_n 2, 1) := by decide +kernel
theorem dX10_numberCells_132 : decode cX10_numberCells 132 = .ok (.iaload, 1) := by decide +kernel
theorem dX10_numberCells_133 : decode cX10_numberCells 133 = .ok (.iload_n 3, 1) := by decide +kernel
theorem dX10_numberCells_134 : decode cX10_numberCells 134 = .ok (.invokevirtual 80, 3) := by decide +kernel
theorem dX10_numberCells_137 : decode cX10_numberCells 137 = .ok (.ifCond .eq 34, 3) := by decide +kernel
theorem dX10_numberCells_140 : decode cX10_numberCells 140 = .ok (.aload_n 0, 1) := by decide +kernel
theorem dX10_numberCells_141 : decode cX10_numberCells 141 = .ok (.getfield 21, 3) := by decide +kernel
theorem dX10_numberCells_144 : decode cX10_numberCells 144 = .ok (.iload 4, 2) := by decide +kernel
theorem dX10_numberCells_146 : decode cX10_numberCells 146 = .ok (.aload_n 0, 1) := by decide +kernel
theorem dX10_numberCells_147 : decode cX10_numberCells 147 = .ok (.getfield 21, 3) := by decide +kernel
theorem dX10_numberCells_150 : decode cX10_numberCells 150 = .ok (.aload_n 0, 1) := by decide +kernel
theorem dX10_numberCells_151 : decode cX10_numberCells 151 = .ok (.getfield 24, 3) := by decide +kernel
theorem dX10_numberCells_154 : decode cX10_numberCells 154 = .ok (.iload_n 2, 1) := by decide +kernel
theorem dX10_numberCells_155 : decode cX10_numberCells 155 = .ok (.iaload, 1) := by decide +kernel
theorem dX10_numberCells_156 : decode cX10_numberCells 156 = .ok (.iaload, 1) := by decide +kernel
theorem dX10_numberCells_157 : decode cX10_numberCells 157 = .ok (.iconst 1, 1) := by decide +kernel
theorem dX10_numberCells_158 : decode cX10_numberCells 158 = .ok (.iadd, 1) := by decide +kernel
theorem dX10_numberCells_159 : decode cX10_numberCells 159 = .ok (.iastore, 1) := by decide +kernel
theorem dX10_numberCells_160 : decode cX10_numberCells 160 = .ok (.aload_n 0, 1) := by decide +kernel
theorem dX10_numberCells_161 : decode cX10_numberCells 161 = .ok (.getfield 24, 3) := by decide +kernel
theorem dX10_numberCells_164 : decode cX10_numberCells 164 = .ok (.iload_n 1, 1) := by decide +kernel
theorem dX10_numberCells_165 : decode cX10_numberCells 165 = .ok (.iload 4, 2) := by decide +kernel
theorem dX10_numberCells_167 : decode cX10_numberCells 167 = .ok (.iastore, 1) := by decide +kernel
theorem dX10_numberCells_168 : decode cX10_numberCells 168 = .ok (.iinc 1 1, 3) := by decide +kernel
theorem dX10_numberCells_96 : decode cX10_numberCells 96 = .ok (.aload_n 0, 1) := by decide +kernel
theorem dX10_numberCells_97 : decode cX10_numberCells 97 = .ok (.getfield 21, 3) := by decide +kernel
theorem dX10_numberCells_100 : decode cX10_numberCells 100 = .ok (.iload 4, 2) := by decide +kernel
theorem dX10_numberCells_102 : decode cX10_numberCells 102 = .ok (.iaload, 1) := by decide +kernel
theorem dX10_numberCells_103 : decode cX10_numberCells 103 = .ok (.iconst (-1), 1) := by decide +kernel
theorem dX10_numberCells_104 : decode cX10_numberCells 104 = .ok (.if_icmp .ne 14, 3) := by decide +kernel
theorem dX10_numberCells_107 : decode cX10_numberCells 107 = .ok (.iload_n 1, 1) := by decide +kernel
theorem dX10_numberCells_108 : decode cX10_numberCells 108 = .ok (.sipush 576, 3) := by decide +kernel
theorem dX10_numberCells_111 : decode cX10_numberCells 111 = .ok (.if_icmp .ge 7, 3) := by decide +kernel
theorem dX10_numberCells_114 : decode cX10_numberCells 114 = .ok (.iconst 1, 1) := by decide +kernel
theorem dX10_numberCells_115 : decode cX10_numberCells 115 = .ok (.goto 4, 3) := by decide +kernel
theorem dX10_numberCells_177 : decode cX10_numberCells 177 = .ok (.iinc 2 1, 3) := by decide +kernel
theorem dX10_numberCells_180 : decode cX10_numberCells 180 = .ok (.goto (-121), 3) := by decide +kernel
theorem dX10_numberCells_183 : decode cX10_numberCells 183 = .ok (.return_, 1) := by decide +kernel
theorem dX10_addSmoke_0 : decode cX10_addSmoke 0 = .ok (.aload_n 0, 1) := by decide +kernel
theorem dX10_addSmoke_1 : decode cX10_addSmoke 1 = .ok (.getfield 11, 3) := by decide +kernel
theorem dX10_addSmoke_4 : decode cX10_addSmoke 4 = .ok (.iload_n 1, 1) := by decide +kernel
theorem dX10_addSmoke_5 : decode cX10_addSmoke 5 = .ok (.baload, 1) := by decide +kernel
theorem dX10_addSmoke_6 : decode cX10_addSmoke 6 = .ok (.ifCond .eq 5, 3) := by decide +kernel
theorem dX10_addSmoke_11 : decode cX10_addSmoke 11 = .ok (.aload_n 0, 1) := by decide +kernel
theorem dX10_addSmoke_12 : decode cX10_addSmoke 12 = .ok (.getfield 11, 3) := by decide +kernel
theorem dX10_addSmoke_15 : decode cX10_addSmoke 15 = .ok (.iload_n 1, 1) := by decide +kernel
theorem dX10_addSmoke_16 : decode cX10_addSmoke 16 = .ok (.iconst 1, 1) := by decide +kernel
theorem dX10_addSmoke_17 : decode cX10_addSmoke 17 = .ok (.bastore, 1) := by decide +kernel
theorem dX10_addSmoke_18 : decode cX10_addSmoke 18 = .ok (.aload_n 0, 1) := by decide +kernel
theorem dX10_addSmoke_19 : decode cX10_addSmoke 19 = .ok (.dup, 1) := by decide +kernel
theorem dX10_addSmoke_20 : decode cX10_addSmoke 20 = .ok (.getfield 83, 3) := by decide +kernel
theorem dX10_addSmoke_23 : decode cX10_addSmoke 23 = .ok (.iconst 1, 1) := by decide +kernel
theorem dX10_addSmoke_24 : decode cX10_addSmoke 24 = .ok (.iadd, 1) := by decide +kernel
theorem dX10_addSmoke_25 : decode cX10_addSmoke 25 = .ok (.putfield 83, 3) := by decide +kernel
theorem dX10_addSmoke_28 : decode cX10_addSmoke 28 = .ok (.aload_n 0, 1) := by decide +kernel
theorem dX10_addSmoke_29 : decode cX10_addSmoke 29 = .ok (.getfield 44, 3) := by decide +kernel
theorem dX10_addSmoke_32 : decode cX10_addSmoke 32 = .ok (.getfield 55, 3) := by decide +kernel
theorem dX10_addSmoke_35 : decode cX10_addSmoke 35 = .ok (.iload_n 1, 1) := by decide +kernel
theorem dX10_addSmoke_36 : decode cX10_addSmoke 36 = .ok (.iaload, 1) := by decide +kernel
theorem dX10_addSmoke_37 : decode cX10_addSmoke 37 = .ok (.istore_n 2, 1) := by decide +kernel
theorem dX10_addSmoke_38 : decode cX10_addSmoke 38 = .ok (.iload_n 2, 1) := by decide +kernel
theorem dX10_addSmoke_39 : decode cX10_addSmoke 39 = .ok (.ifCond .lt 19, 3) := by decide +kernel
theorem dX10_addSmoke_58 : decode cX10_addSmoke 58 = .ok (.iconst 1, 1) := by decide +kernel
theorem dX10_addSmoke_59 : decode cX10_addSmoke 59 = .ok (.ireturn, 1) := by decide +kernel
theorem dX10_addSmoke_42 : decode cX10_addSmoke 42 = .ok (.iload_n 2, 1) := by decide +kernel
theorem dX10_addSmoke_43 : decode cX10_addSmoke 43 = .ok (.bipush 40, 2) := by decide +kernel
theorem dX10_addSmoke_45 : decode cX10_addSmoke 45 = .ok (.if_icmp .ge 13, 3) := by decide +kernel
theorem dX10_addSmoke_48 : decode cX10_addSmoke 48 = .ok (.aload_n 0, 1) := by decide +kernel
theorem dX10_addSmoke_49 : decode cX10_addSmoke 49 = .ok (.getfield 17, 3) := by decide +kernel
theorem dX10_addSmoke_52 : decode cX10_addSmoke 52 = .ok (.iload_n 2, 1) := by decide +kernel
theorem dX10_addSmoke_53 : decode cX10_addSmoke 53 = .ok (.dup2, 1) := by decide +kernel
theorem dX10_addSmoke_54 : decode cX10_addSmoke 54 = .ok (.iaload, 1) := by decide +kernel
theorem dX10_addSmoke_55 : decode cX10_addSmoke 55 = .ok (.iconst 1, 1) := by decide +kernel
theorem dX10_addSmoke_56 : decode cX10_addSmoke 56 = .ok (.iadd, 1) := by decide +kernel
theorem dX10_addSmoke_57 : decode cX10_addSmoke 57 = .ok (.iastore, 1) := by decide +kernel
theorem dX10_addSmoke_9 : decode cX10_addSmoke 9 = .ok (.iconst 0, 1) := by decide +kernel
theorem dX10_addSmoke_10 : decode cX10_addSmoke 10 = .ok (.ireturn, 1) := by decide +kernel
theorem dX10_spreadSmoke_0 : decode cX10_spreadSmoke 0 = .ok (.iload_n 1, 1) := by decide +kernel
theorem dX10_spreadSmoke_1 : decode cX10_spreadSmoke 1 = .ok (.bipush 10, 2) := by decide +kernel
theorem dX10_spreadSmoke_3 : decode cX10_spreadSmoke 3 = .ok (.irem, 1) := by decide +kernel
theorem dX10_spreadSmoke_4 : decode cX10_spreadSmoke 4 = .ok (.ifCond .eq 4, 3) := by decide +kernel
theorem dX10_spreadSmoke_8 : decode cX10_spreadSmoke 8 = .ok (.iconst 0, 1) := by decide +kernel
theorem dX10_spreadSmoke_9 : decode cX10_spreadSmoke 9 = .ok (.istore_n 2, 1) := by decide +kernel
theorem dX10_spreadSmoke_10 : decode cX10_spreadSmoke 10 = .ok (.iconst 0, 1) := by decide +kernel
theorem dX10_spreadSmoke_11 : decode cX10_spreadSmoke 11 = .ok (.istore_n 3, 1) := by decide +kernel
theorem dX10_spreadSmoke_12 : decode cX10_spreadSmoke 12 = .ok (.iload_n 3, 1) := by decide +kernel
theorem dX10_spreadSmoke_13 : decode cX10_spreadSmoke 13 = .ok (.sipush 576, 3) := by decide +kernel
theorem dX10_spreadSmoke_16 : decode cX10_spreadSmoke 16 = .ok (.if_icmp .ge 28, 3) := by decide +kernel
theorem dX10_spreadSmoke_19 : decode cX10_spreadSmoke 19 = .ok (.aload_n 0, 1) := by decide +kernel
theorem dX10_spreadSmoke_20 : decode cX10_spreadSmoke 20 = .ok (.getfield 11, 3) := by decide +kernel
theorem dX10_spreadSmoke_23 : decode cX10_spreadSmoke 23 = .ok (.iload_n 3, 1) := by decide +kernel
theorem dX10_spreadSmoke_24 : decode cX10_spreadSmoke 24 = .ok (.baload, 1) := by decide +kernel
theorem dX10_spreadSmoke_25 : decode cX10_spreadSmoke 25 = .ok (.ifCond .eq 13, 3) := by decide +kernel
theorem dX10_spreadSmoke_38 : decode cX10_spreadSmoke 38 = .ok (.iinc 3 1, 3) := by decide +kernel
theorem dX10_spreadSmoke_41 : decode cX10_spreadSmoke 41 = .ok (.goto (-29), 3) := by decide +kernel
theorem dX10_spreadSmoke_28 : decode cX10_spreadSmoke 28 = .ok (.aload_n 0, 1) := by decide +kernel
theorem dX10_spreadSmoke_29 : decode cX10_spreadSmoke 29 = .ok (.getfield 24, 3) := by decide +kernel
theorem dX10_spreadSmoke_32 : decode cX10_spreadSmoke 32 = .ok (.iload_n 2, 1) := by decide +kernel
theorem dX10_spreadSmoke_33 : decode cX10_spreadSmoke 33 = .ok (.iload_n 3, 1) := by decide +kernel
theorem dX10_spreadSmoke_34 : decode cX10_spreadSmoke 34 = .ok (.iastore, 1) := by decide +kernel
theorem dX10_spreadSmoke_35 : decode cX10_spreadSmoke 35 = .ok (.iinc 2 1, 3) := by decide +kernel
theorem dX10_spreadSmoke_44 : decode cX10_spreadSmoke 44 = .ok (.iconst 0, 1) := by decide +kernel
theorem dX10_spreadSmoke_45 : decode cX10_spreadSmoke 45 = .ok (.istore_n 3, 1) := by decide +kernel
theorem dX10_spreadSmoke_46 : decode cX10_spreadSmoke 46 = .ok (.iload_n 3, 1) := by decide +kernel
theorem dX10_spreadSmoke_47 : decode cX10_spreadSmoke 47 = .ok (.iload_n 2, 1) := by decide +kernel
theorem dX10_spreadSmoke_48 : decode cX10_spreadSmoke 48 = .ok (.if_icmp .ge 79, 3) := by decide +kernel
theorem dX10_spreadSmoke_51 : decode cX10_spreadSmoke 51 = .ok (.iconst 0, 1) := by decide +kernel
theorem dX10_spreadSmoke_52 : decode cX10_spreadSmoke 52 = .ok (.istore 4, 2) := by decide +kernel
theorem dX10_spreadSmoke_54 : decode cX10_spreadSmoke 54 = .ok (.iload 4, 2) := by decide +kernel
theorem dX10_spreadSmoke_56 : decode cX10_spreadSmoke 56 = .ok (.iconst 4, 1) := by decide +kernel
theorem dX10_spreadSmoke_57 : decode cX10_spreadSmoke 57 = .ok (.if_icmp .ge 64, 3) := by decide +kernel
theorem dX10_spreadSmoke_60 : decode cX10_spreadSmoke 60 = .ok (.aload_n 0, 1) := by decide +kernel
theorem dX10_spreadSmoke_61 : decode cX10_spreadSmoke 61 = .ok (.getfield 44, 3) := by decide +kernel
theorem dX10_spreadSmoke_64 : decode cX10_spreadSmoke 64 = .ok (.aload_n 0, 1) := by decide +kernel
theorem dX10_spreadSmoke_65 : decode cX10_spreadSmoke 65 = .ok (.getfield 24, 3) := by decide +kernel
theorem dX10_spreadSmoke_68 : decode cX10_spreadSmoke 68 = .ok (.iload_n 3, 1) := by decide +kernel
theorem dX10_spreadSmoke_69 : decode cX10_spreadSmoke 69 = .ok (.iaload, 1) := by decide +kernel
theorem dX10_spreadSmoke_70 : decode cX10_spreadSmoke 70 = .ok (.iload 4, 2) := by decide +kernel
theorem dX10_spreadSmoke_72 : decode cX10_spreadSmoke 72 = .ok (.invokevirtual 77, 3) := by decide +kernel
theorem dX10_spreadSmoke_75 : decode cX10_spreadSmoke 75 = .ok (.istore 5, 2) := by decide +kernel
theorem dX10_spreadSmoke_77 : decode cX10_spreadSmoke 77 = .ok (.iload 5, 2) := by decide +kernel
theorem dX10_spreadSmoke_79 : decode cX10_spreadSmoke 79 = .ok (.iconst (-1), 1) := by decide +kernel
theorem dX10_spreadSmoke_80 : decode cX10_spreadSmoke 80 = .ok (.if_icmp .eq 35, 3) := by decide +kernel
theorem dX10_spreadSmoke_115 : decode cX10_spreadSmoke 115 = .ok (.iinc 4 1, 3) := by decide +kernel
theorem dX10_spreadSmoke_118 : decode cX10_spreadSmoke 118 = .ok (.goto (-64), 3) := by decide +kernel
theorem dX10_spreadSmoke_83 : decode cX10_spreadSmoke 83 = .ok (.aload_n 0, 1) := by decide +kernel
theorem dX10_spreadSmoke_84 : decode cX10_spreadSmoke 84 = .ok (.getfield 11, 3) := by decide +kernel
theorem dX10_spreadSmoke_87 : decode cX10_spreadSmoke 87 = .ok (.iload 5, 2) := by decide +kernel
theorem dX10_spreadSmoke_89 : decode cX10_spreadSmoke 89 = .ok (.baload, 1) := by decide +kernel
theorem dX10_spreadSmoke_90 : decode cX10_spreadSmoke 90 = .ok (.ifCond .ne 25, 3) := by decide +kernel
theorem dX10_spreadSmoke_93 : decode cX10_spreadSmoke 93 = .ok (.aload_n 0, 1) := by decide +kernel
theorem dX10_spreadSmoke_94 : decode cX10_spreadSmoke 94 = .ok (.aload_n 0, 1) := by decide +kernel
theorem dX10_spreadSmoke_95 : decode cX10_spreadSmoke 95 = .ok (.getfield 24, 3) := by decide +kernel
theorem dX10_spreadSmoke_98 : decode cX10_spreadSmoke 98 = .ok (.iload_n 3, 1) := by decide +kernel
theorem dX10_spreadSmoke_99 : decode cX10_spreadSmoke 99 = .ok (.iaload, 1) := by decide +kernel
theorem dX10_spreadSmoke_100 : decode cX10_spreadSmoke 100 = .ok (.iload 4, 2) := by decide +kernel
theorem dX10_spreadSmoke_102 : decode cX10_spreadSmoke 102 = .ok (.invokevirtual 80, 3) := by decide +kernel
theorem dX10_spreadSmoke_105 : decode cX10_spreadSmoke 105 = .ok (.ifCond .eq 10, 3) := by decide +kernel
theorem dX10_spreadSmoke_108 : decode cX10_spreadSmoke 108 = .ok (.aload_n 0, 1) := by decide +kernel
theorem dX10_spreadSmoke_109 : decode cX10_spreadSmoke 109 = .ok (.iload 5, 2) := by decide +kernel
theorem dX10_spreadSmoke_111 : decode cX10_spreadSmoke 111 = .ok (.invokevirtual 86, 3) := by decide +kernel
theorem dX10_spreadSmoke_114 : decode cX10_spreadSmoke 114 = .ok (.pop, 1) := by decide +kernel
theorem dX10_spreadSmoke_121 : decode cX10_spreadSmoke 121 = .ok (.iinc 3 1, 3) := by decide +kernel
theorem dX10_spreadSmoke_124 : decode cX10_spreadSmoke 124 = .ok (.goto (-78), 3) := by decide +kernel
theorem dX10_spreadSmoke_127 : decode cX10_spreadSmoke 127 = .ok (.return_, 1) := by decide +kernel
theorem dX10_spreadSmoke_7 : decode cX10_spreadSmoke 7 = .ok (.return_, 1) := by decide +kernel
theorem dX10_cellOf_0 : decode cX10_cellOf 0 = .ok (.aload_n 0, 1) := by decide +kernel
theorem dX10_cellOf_1 : decode cX10_cellOf 1 = .ok (.getfield 29, 3) := by decide +kernel
theorem dX10_cellOf_4 : decode cX10_cellOf 4 = .ok (.iload_n 1, 1) := by decide +kernel
theorem dX10_cellOf_5 : decode cX10_cellOf 5 = .ok (.aaload, 1) := by decide +kernel
theorem dX10_cellOf_6 : decode cX10_cellOf 6 = .ok (.astore_n 2, 1) := by decide +kernel
theorem dX10_cellOf_7 : decode cX10_cellOf 7 = .ok (.aload_n 2, 1) := by decide +kernel
theorem dX10_cellOf_8 : decode cX10_cellOf 8 = .ok (.iconst 1, 1) := by decide +kernel
theorem dX10_cellOf_9 : decode cX10_cellOf 9 = .ok (.iaload, 1) := by decide +kernel
theorem dX10_cellOf_10 : decode cX10_cellOf 10 = .ok (.iconst (-1), 1) := by decide +kernel
theorem dX10_cellOf_11 : decode cX10_cellOf 11 = .ok (.if_icmp .ne 7, 3) := by decide +kernel
theorem dX10_cellOf_18 : decode cX10_cellOf 18 = .ok (.aload_n 2, 1) := by decide +kernel
theorem dX10_cellOf_19 : decode cX10_cellOf 19 = .ok (.iconst 1, 1) := by decide +kernel
theorem dX10_cellOf_20 : decode cX10_cellOf 20 = .ok (.iaload, 1) := by decide +kernel
theorem dX10_cellOf_21 : decode cX10_cellOf 21 = .ok (.aload_n 2, 1) := by decide +kernel
theorem dX10_cellOf_22 : decode cX10_cellOf 22 = .ok (.iconst 2, 1) := by decide +kernel
theorem dX10_cellOf_23 : decode cX10_cellOf 23 = .ok (.iaload, 1) := by decide +kernel
theorem dX10_cellOf_24 : decode cX10_cellOf 24 = .ok (.invokestatic 106, 3) := by decide +kernel
theorem dX10_cellOf_27 : decode cX10_cellOf 27 = .ok (.ireturn, 1) := by decide +kernel
theorem dX10_cellOf_14 : decode cX10_cellOf 14 = .ok (.iconst (-1), 1) := by decide +kernel
theorem dX10_cellOf_15 : decode cX10_cellOf 15 = .ok (.goto 12, 3) := by decide +kernel
theorem dX10_countInCell_0 : decode cX10_countInCell 0 = .ok (.iconst 0, 1) := by decide +kernel
theorem dX10_countInCell_1 : decode cX10_countInCell 1 = .ok (.istore_n 2, 1) := by decide +kernel
theorem dX10_countInCell_2 : decode cX10_countInCell 2 = .ok (.iconst 0, 1) := by decide +kernel
theorem dX10_countInCell_3 : decode cX10_countInCell 3 = .ok (.istore_n 3, 1) := by decide +kernel
theorem dX10_countInCell_4 : decode cX10_countInCell 4 = .ok (.iload_n 3, 1) := by decide +kernel
theorem dX10_countInCell_5 : decode cX10_countInCell 5 = .ok (.aload_n 0, 1) := by decide +kernel
theorem dX10_countInCell_6 : decode cX10_countInCell 6 = .ok (.getfield 93, 3) := by decide +kernel
theorem dX10_countInCell_9 : decode cX10_countInCell 9 = .ok (.if_icmp .ge 34, 3) := by decide +kernel
theorem dX10_countInCell_12 : decode cX10_countInCell 12 = .ok (.iload_n 2, 1) := by decide +kernel
theorem dX10_countInCell_13 : decode cX10_countInCell 13 = .ok (.aload_n 0, 1) := by decide +kernel
theorem dX10_countInCell_14 : decode cX10_countInCell 14 = .ok (.iload_n 3, 1) := by decide +kernel
theorem dX10_countInCell_15 : decode cX10_countInCell 15 = .ok (.invokevirtual 96, 3) := by decide +kernel
theorem dX10_countInCell_18 : decode cX10_countInCell 18 = .ok (.iload_n 1, 1) := by decide +kernel
theorem dX10_countInCell_19 : decode cX10_countInCell 19 = .ok (.if_icmp .ne 15, 3) := by decide +kernel
theorem dX10_countInCell_34 : decode cX10_countInCell 34 = .ok (.iconst 0, 1) := by decide +kernel
theorem dX10_countInCell_35 : decode cX10_countInCell 35 = .ok (.iadd, 1) := by decide +kernel
theorem dX10_countInCell_36 : decode cX10_countInCell 36 = .ok (.istore_n 2, 1) := by decide +kernel
theorem dX10_countInCell_37 : decode cX10_countInCell 37 = .ok (.iinc 3 1, 3) := by decide +kernel
theorem dX10_countInCell_40 : decode cX10_countInCell 40 = .ok (.goto (-36), 3) := by decide +kernel
theorem dX10_countInCell_22 : decode cX10_countInCell 22 = .ok (.aload_n 0, 1) := by decide +kernel
theorem dX10_countInCell_23 : decode cX10_countInCell 23 = .ok (.iload_n 3, 1) := by decide +kernel
theorem dX10_countInCell_24 : decode cX10_countInCell 24 = .ok (.invokevirtual 99, 3) := by decide +kernel
theorem dX10_countInCell_27 : decode cX10_countInCell 27 = .ok (.ifCond .ne 7, 3) := by decide +kernel
theorem dX10_countInCell_30 : decode cX10_countInCell 30 = .ok (.iconst 1, 1) := by decide +kernel
theorem dX10_countInCell_31 : decode cX10_countInCell 31 = .ok (.goto 4, 3) := by decide +kernel
theorem dX10_countInCell_43 : decode cX10_countInCell 43 = .ok (.iload_n 2, 1) := by decide +kernel
theorem dX10_countInCell_44 : decode cX10_countInCell 44 = .ok (.ireturn, 1) := by decide +kernel
theorem dX10_cellFact_0 : decode cX10_cellFact 0 = .ok (.iload_n 2, 1) := by decide +kernel
theorem dX10_cellFact_1 : decode cX10_cellFact 1 = .ok (.lookupswitch 49 #[(0, 27), (1, 42)], 27) := by decide +kernel
theorem dX10_cellFact_50 : decode cX10_cellFact 50 = .ok (.aload_n 0, 1) := by decide +kernel
theorem dX10_cellFact_51 : decode cX10_cellFact 51 = .ok (.iload_n 1, 1) := by decide +kernel
theorem dX10_cellFact_52 : decode cX10_cellFact 52 = .ok (.invokevirtual 89, 3) := by decide +kernel
theorem dX10_cellFact_55 : decode cX10_cellFact 55 = .ok (.ireturn, 1) := by decide +kernel
theorem dX10_cellFact_28 : decode cX10_cellFact 28 = .ok (.aload_n 0, 1) := by decide +kernel
theorem dX10_cellFact_29 : decode cX10_cellFact 29 = .ok (.getfield 11, 3) := by decide +kernel
theorem dX10_cellFact_32 : decode cX10_cellFact 32 = .ok (.iload_n 1, 1) := by decide +kernel
theorem dX10_cellFact_33 : decode cX10_cellFact 33 = .ok (.baload, 1) := by decide +kernel
theorem dX10_cellFact_34 : decode cX10_cellFact 34 = .ok (.ifCond .eq 7, 3) := by decide +kernel
theorem dX10_cellFact_41 : decode cX10_cellFact 41 = .ok (.iconst 0, 1) := by decide +kernel
theorem dX10_cellFact_42 : decode cX10_cellFact 42 = .ok (.ireturn, 1) := by decide +kernel
theorem dX10_cellFact_37 : decode cX10_cellFact 37 = .ok (.iconst 1, 1) := by decide +kernel
theorem dX10_cellFact_38 : decode cX10_cellFact 38 = .ok (.goto 4, 3) := by decide +kernel
theorem dX10_cellFact_43 : decode cX10_cellFact 43 = .ok (.aload_n 0, 1) := by decide +kernel
theorem dX10_cellFact_44 : decode cX10_cellFact 44 = .ok (.getfield 21, 3) := by decide +kernel
theorem dX10_cellFact_47 : decode cX10_cellFact 47 = .ok (.iload_n 1, 1) := by decide +kernel
theorem dX10_cellFact_48 : decode cX10_cellFact 48 = .ok (.iaload, 1) := by decide +kernel
theorem dX10_cellFact_49 : decode cX10_cellFact 49 = .ok (.ireturn, 1) := by decide +kernel
theorem dX10_addPerson_0 : decode cX10_addPerson 0 = .ok (.aload_n 0, 1) := by decide +kernel
theorem dX10_addPerson_1 : decode cX10_addPerson 1 = .ok (.getfield 93, 3) := by decide +kernel
theorem dX10_addPerson_4 : decode cX10_addPerson 4 = .ok (.bipush 40, 2) := by decide +kernel
theorem dX10_addPerson_6 : decode cX10_addPerson 6 = .ok (.if_icmp .lt 5, 3) := by decide +kernel
theorem dX10_addPerson_11 : decode cX10_addPerson 11 = .ok (.aload_n 0, 1) := by decide +kernel
theorem dX10_addPerson_12 : decode cX10_addPerson 12 = .ok (.getfield 29, 3) := by decide +kernel
theorem dX10_addPerson_15 : decode cX10_addPerson 15 = .ok (.aload_n 0, 1) := by decide +kernel
theorem dX10_addPerson_16 : decode cX10_addPerson 16 = .ok (.getfield 93, 3) := by decide +kernel
theorem dX10_addPerson_19 : decode cX10_addPerson 19 = .ok (.aaload, 1) := by decide +kernel
theorem dX10_addPerson_20 : decode cX10_addPerson 20 = .ok (.astore_n 3, 1) := by decide +kernel
theorem dX10_addPerson_21 : decode cX10_addPerson 21 = .ok (.aload_n 3, 1) := by decide +kernel
theorem dX10_addPerson_22 : decode cX10_addPerson 22 = .ok (.iconst 0, 1) := by decide +kernel
theorem dX10_addPerson_23 : decode cX10_addPerson 23 = .ok (.aload_n 0, 1) := by decide +kernel
theorem dX10_addPerson_24 : decode cX10_addPerson 24 = .ok (.invokevirtual 102, 3) := by decide +kernel
theorem dX10_addPerson_27 : decode cX10_addPerson 27 = .ok (.iastore, 1) := by decide +kernel
theorem dX10_addPerson_28 : decode cX10_addPerson 28 = .ok (.aload_n 3, 1) := by decide +kernel
theorem dX10_addPerson_29 : decode cX10_addPerson 29 = .ok (.iconst 1, 1) := by decide +kernel
theorem dX10_addPerson_30 : decode cX10_addPerson 30 = .ok (.iconst (-1), 1) := by decide +kernel
theorem dX10_addPerson_31 : decode cX10_addPerson 31 = .ok (.iastore, 1) := by decide +kernel
theorem dX10_addPerson_32 : decode cX10_addPerson 32 = .ok (.aload_n 3, 1) := by decide +kernel
theorem dX10_addPerson_33 : decode cX10_addPerson 33 = .ok (.iconst 2, 1) := by decide +kernel
theorem dX10_addPerson_34 : decode cX10_addPerson 34 = .ok (.iconst (-1), 1) := by decide +kernel
theorem dX10_addPerson_35 : decode cX10_addPerson 35 = .ok (.iastore, 1) := by decide +kernel
theorem dX10_addPerson_36 : decode cX10_addPerson 36 = .ok (.aload_n 3, 1) := by decide +kernel
theorem dX10_addPerson_37 : decode cX10_addPerson 37 = .ok (.iconst 3, 1) := by decide +kernel
theorem dX10_addPerson_38 : decode cX10_addPerson 38 = .ok (.iconst (-1), 1) := by decide +kernel
theorem dX10_addPerson_39 : decode cX10_addPerson 39 = .ok (.iastore, 1) := by decide +kernel
theorem dX10_addPerson_40 : decode cX10_addPerson 40 = .ok (.aload_n 3, 1) := by decide +kernel
theorem dX10_addPerson_41 : decode cX10_addPerson 41 = .ok (.bipush 6, 2) := by decide +kernel
theorem dX10_addPerson_43 : decode cX10_addPerson 43 = .ok (.iload_n 1, 1) := by decide +kernel
theorem dX10_addPerson_44 : decode cX10_addPerson 44 = .ok (.iastore, 1) := by decide +kernel
theorem dX10_addPerson_45 : decode cX10_addPerson 45 = .ok (.aload_n 3, 1) := by decide +kernel
theorem dX10_addPerson_46 : decode cX10_addPerson 46 = .ok (.bipush 7, 2) := by decide +kernel
theorem dX10_addPerson_48 : decode cX10_addPerson 48 = .ok (.iload_n 2, 1) := by decide +kernel
theorem dX10_addPerson_49 : decode cX10_addPerson 49 = .ok (.iastore, 1) := by decide +kernel
theorem dX10_addPerson_50 : decode cX10_addPerson 50 = .ok (.aload_n 0, 1) := by decide +kernel
theorem dX10_addPerson_51 : decode cX10_addPerson 51 = .ok (.dup, 1) := by decide +kernel
theorem dX10_addPerson_52 : decode cX10_addPerson 52 = .ok (.getfield 93, 3) := by decide +kernel
theorem dX10_addPerson_55 : decode cX10_addPerson 55 = .ok (.iconst 1, 1) := by decide +kernel
theorem dX10_addPerson_56 : decode cX10_addPerson 56 = .ok (.iadd, 1) := by decide +kernel
theorem dX10_addPerson_57 : decode cX10_addPerson 57 = .ok (.putfield 93, 3) := by decide +kernel
theorem dX10_addPerson_60 : decode cX10_addPerson 60 = .ok (.aload_n 0, 1) := by decide +kernel
theorem dX10_addPerson_61 : decode cX10_addPerson 61 = .ok (.getfield 93, 3) := by decide +kernel
theorem dX10_addPerson_64 : decode cX10_addPerson 64 = .ok (.iconst 1, 1) := by decide +kernel
theorem dX10_addPerson_65 : decode cX10_addPerson 65 = .ok (.isub, 1) := by decide +kernel
theorem dX10_addPerson_66 : decode cX10_addPerson 66 = .ok (.ireturn, 1) := by decide +kernel
theorem dX10_addPerson_9 : decode cX10_addPerson 9 = .ok (.iconst (-1), 1) := by decide +kernel
theorem dX10_addPerson_10 : decode cX10_addPerson 10 = .ok (.ireturn, 1) := by decide +kernel
theorem dX10_personFact_0 : decode cX10_personFact 0 = .ok (.aload_n 0, 1) := by decide +kernel
theorem dX10_personFact_1 : decode cX10_personFact 1 = .ok (.getfield 29, 3) := by decide +kernel
theorem dX10_personFact_4 : decode cX10_personFact 4 = .ok (.iload_n 1, 1) := by decide +kernel
theorem dX10_personFact_5 : decode cX10_personFact 5 = .ok (.aaload, 1) := by decide +kernel
theorem dX10_personFact_6 : decode cX10_personFact 6 = .ok (.iload_n 2, 1) := by decide +kernel
theorem dX10_personFact_7 : decode cX10_personFact 7 = .ok (.iaload, 1) := by decide +kernel
theorem dX10_personFact_8 : decode cX10_personFact 8 = .ok (.ireturn, 1) := by decide +kernel
theorem dX10_countInZone_0 : decode cX10_countInZone 0 = .ok (.iconst 0, 1) := by decide +kernel
theorem dX10_countInZone_1 : decode cX10_countInZone 1 = .ok (.istore_n 2, 1) := by decide +kernel
theorem dX10_countInZone_2 : decode cX10_countInZone 2 = .ok (.iconst 0, 1) := by decide +kernel
theorem dX10_countInZone_3 : decode cX10_countInZone 3 = .ok (.istore_n 3, 1) := by decide +kernel
theorem dX10_countInZone_4 : decode cX10_countInZone 4 = .ok (.iload_n 3, 1) := by decide +kernel
theorem dX10_countInZone_5 : decode cX10_countInZone 5 = .ok (.aload_n 0, 1) := by decide +kernel
theorem dX10_countInZone_6 : decode cX10_countInZone 6 = .ok (.getfield 93, 3) := by decide +kernel
theorem dX10_countInZone_9 : decode cX10_countInZone 9 = .ok (.if_icmp .ge 30, 3) := by decide +kernel
theorem dX10_countInZone_12 : decode cX10_countInZone 12 = .ok (.iload_n 2, 1) := by decide +kernel
theorem dX10_countInZone_13 : decode cX10_countInZone 13 = .ok (.aload_n 0, 1) := by decide +kernel
theorem dX10_countInZone_14 : decode cX10_countInZone 14 = .ok (.aload_n 0, 1) := by decide +kernel
theorem dX10_countInZone_15 : decode cX10_countInZone 15 = .ok (.iload_n 3, 1) := by decide +kernel
theorem dX10_countInZone_16 : decode cX10_countInZone 16 = .ok (.invokevirtual 109, 3) := by decide +kernel
theorem dX10_countInZone_19 : decode cX10_countInZone 19 = .ok (.invokevirtual 112, 3) := by decide +kernel
theorem dX10_countInZone_22 : decode cX10_countInZone 22 = .ok (.iload_n 1, 1) := by decide +kernel
theorem dX10_countInZone_23 : decode cX10_countInZone 23 = .ok (.if_icmp .ne 7, 3) := by decide +kernel
theorem dX10_countInZone_30 : decode cX10_countInZone 30 = .ok (.iconst 0, 1) := by decide +kernel
theorem dX10_countInZone_31 : decode cX10_countInZone 31 = .ok (.iadd, 1) := by decide +kernel
theorem dX10_countInZone_32 : decode cX10_countInZone 32 = .ok (.istore_n 2, 1) := by decide +kernel
theorem dX10_countInZone_33 : decode cX10_countInZone 33 = .ok (.iinc 3 1, 3) := by decide +kernel
theorem dX10_countInZone_36 : decode cX10_countInZone 36 = .ok (.goto (-32), 3) := by decide +kernel
theorem dX10_countInZone_26 : decode cX10_countInZone 26 = .ok (.iconst 1, 1) := by decide +kernel
theorem dX10_countInZone_27 : decode cX10_countInZone 27 = .ok (.goto 4, 3) := by decide +kernel
theorem dX10_countInZone_39 : decode cX10_countInZone 39 = .ok (.iload_n 2, 1) := by decide +kernel
theorem dX10_countInZone_40 : decode cX10_countInZone 40 = .ok (.ireturn, 1) := by decide +kernel
theorem dX10_isFreeInside_0 : decode cX10_isFreeInside 0 = .ok (.aload_n 0, 1) := by decide +kernel
theorem dX10_isFreeInside_1 : decode cX10_isFreeInside 1 = .ok (.iload_n 1, 1) := by decide +kernel
theorem dX10_isFreeInside_2 : decode cX10_isFreeInside 2 = .ok (.invokevirtual 96, 3) := by decide +kernel
theorem dX10_isFreeInside_5 : decode cX10_isFreeInside 5 = .ok (.iconst (-1), 1) := by decide +kernel
theorem dX10_isFreeInside_6 : decode cX10_isFreeInside 6 = .ok (.if_icmp .eq 15, 3) := by decide +kernel
theorem dX10_isFreeInside_21 : decode cX10_isFreeInside 21 = .ok (.iconst 0, 1) := by decide +kernel
theorem dX10_isFreeInside_22 : decode cX10_isFreeInside 22 = .ok (.ireturn, 1) := by decide +kernel
theorem dX10_isFreeInside_9 : decode cX10_isFreeInside 9 = .ok (.aload_n 0, 1) := by decide +kernel
theorem dX10_isFreeInside_10 : decode cX10_isFreeInside 10 = .ok (.iload_n 1, 1) := by decide +kernel
theorem dX10_isFreeInside_11 : decode cX10_isFreeInside 11 = .ok (.invokevirtual 99, 3) := by decide +kernel
theorem dX10_isFreeInside_14 : decode cX10_isFreeInside 14 = .ok (.ifCond .ne 7, 3) := by decide +kernel
theorem dX10_isFreeInside_17 : decode cX10_isFreeInside 17 = .ok (.iconst 1, 1) := by decide +kernel
theorem dX10_isFreeInside_18 : decode cX10_isFreeInside 18 = .ok (.goto 4, 3) := by decide +kernel
theorem dX10_countFreeInside_0 : decode cX10_countFreeInside 0 = .ok (.iconst 0, 1) := by decide +kernel
theorem dX10_countFreeInside_1 : decode cX10_countFreeInside 1 = .ok (.istore_n 1, 1) := by decide +kernel
theorem dX10_countFreeInside_2 : decode cX10_countFreeInside 2 = .ok (.iconst 0, 1) := by decide +kernel
theorem dX10_countFreeInside_3 : decode cX10_countFreeInside 3 = .ok (.istore_n 2, 1) := by decide +kernel
theorem dX10_countFreeInside_4 : decode cX10_countFreeInside 4 = .ok (.iload_n 2, 1) := by decide +kernel
theorem dX10_countFreeInside_5 : decode cX10_countFreeInside 5 = .ok (.aload_n 0, 1) := by decide +kernel
theorem dX10_countFreeInside_6 : decode cX10_countFreeInside 6 = .ok (.getfield 93, 3) := by decide +kernel
theorem dX10_countFreeInside_9 : decode cX10_countFreeInside 9 = .ok (.if_icmp .ge 25, 3) := by decide +kernel
theorem dX10_countFreeInside_12 : decode cX10_countFreeInside 12 = .ok (.iload_n 1, 1) := by decide +kernel
theorem dX10_countFreeInside_13 : decode cX10_countFreeInside 13 = .ok (.aload_n 0, 1) := by decide +kernel
theorem dX10_countFreeInside_14 : decode cX10_countFreeInside 14 = .ok (.iload_n 2, 1) := by decide +kernel
theorem dX10_countFreeInside_15 : decode cX10_countFreeInside 15 = .ok (.invokevirtual 115, 3) := by decide +kernel
theorem dX10_countFreeInside_18 : decode cX10_countFreeInside 18 = .ok (.ifCond .eq 7, 3) := by decide +kernel
theorem dX10_countFreeInside_25 : decode cX10_countFreeInside 25 = .ok (.iconst 0, 1) := by decide +kernel
theorem dX10_countFreeInside_26 : decode cX10_countFreeInside 26 = .ok (.iadd, 1) := by decide +kernel
theorem dX10_countFreeInside_27 : decode cX10_countFreeInside 27 = .ok (.istore_n 1, 1) := by decide +kernel
theorem dX10_countFreeInside_28 : decode cX10_countFreeInside 28 = .ok (.iinc 2 1, 3) := by decide +kernel
theorem dX10_countFreeInside_31 : decode cX10_countFreeInside 31 = .ok (.goto (-27), 3) := by decide +kernel
theorem dX10_countFreeInside_21 : decode cX10_countFreeInside 21 = .ok (.iconst 1, 1) := by decide +kernel
theorem dX10_countFreeInside_22 : decode cX10_countFreeInside 22 = .ok (.goto 4, 3) := by decide +kernel
theorem dX10_countFreeInside_34 : decode cX10_countFreeInside 34 = .ok (.iload_n 1, 1) := by decide +kernel
theorem dX10_countFreeInside_35 : decode cX10_countFreeInside 35 = .ok (.ireturn, 1) := by decide +kernel
theorem dX10_catchPersons_0 : decode cX10_catchPersons 0 = .ok (.iconst 0, 1) := by decide +kernel
theorem dX10_catchPersons_1 : decode cX10_catchPersons 1 = .ok (.istore_n 2, 1) := by decide +kernel
theorem dX10_catchPersons_2 : decode cX10_catchPersons 2 = .ok (.iload_n 2, 1) := by decide +kernel
theorem dX10_catchPersons_3 : decode cX10_catchPersons 3 = .ok (.aload_n 0, 1) := by decide +kernel
theorem dX10_catchPersons_4 : decode cX10_catchPersons 4 = .ok (.getfield 93, 3) := by decide +kernel
theorem dX10_catchPersons_7 : decode cX10_catchPersons 7 = .ok (.if_icmp .ge 39, 3) := by decide +kernel
theorem dX10_catchPersons_10 : decode cX10_catchPersons 10 = .ok (.aload_n 0, 1) := by decide +kernel
theorem dX10_catchPersons_11 : decode cX10_catchPersons 11 = .ok (.iload_n 2, 1) := by decide +kernel
theorem dX10_catchPersons_12 : decode cX10_catchPersons 12 = .ok (.invokevirtual 115, 3) := by decide +kernel
theorem dX10_catchPersons_15 : decode cX10_catchPersons 15 = .ok (.ifCond .eq 25, 3) := by decide +kernel
theorem dX10_catchPersons_40 : decode cX10_catchPersons 40 = .ok (.iinc 2 1, 3) := by decide +kernel
theorem dX10_catchPersons_43 : decode cX10_catchPersons 43 = .ok (.goto (-41), 3) := by decide +kernel
theorem dX10_catchPersons_18 : decode cX10_catchPersons 18 = .ok (.aload_n 0, 1) := by decide +kernel
theorem dX10_catchPersons_19 : decode cX10_catchPersons 19 = .ok (.getfield 11, 3) := by decide +kernel
theorem dX10_catchPersons_22 : decode cX10_catchPersons 22 = .ok (.aload_n 0, 1) := by decide +kernel
theorem dX10_catchPersons_23 : decode cX10_catchPersons 23 = .ok (.iload_n 2, 1) := by decide +kernel
theorem dX10_catchPersons_24 : decode cX10_catchPersons 24 = .ok (.invokevirtual 96, 3) := by decide +kernel
theorem dX10_catchPersons_27 : decode cX10_catchPersons 27 = .ok (.baload, 1) := by decide +kernel
theorem dX10_catchPersons_28 : decode cX10_catchPersons 28 = .ok (.ifCond .eq 12, 3) := by decide +kernel
theorem dX10_catchPersons_31 : decode cX10_catchPersons 31 = .ok (.aload_n 0, 1) := by decide +kernel
theorem dX10_catchPersons_32 : decode cX10_catchPersons 32 = .ok (.getfield 29, 3) := by decide +kernel
theorem dX10_catchPersons_35 : decode cX10_catchPersons 35 = .ok (.iload_n 2, 1) := by decide +kernel
theorem dX10_catchPersons_36 : decode cX10_catchPersons 36 = .ok (.aaload, 1) := by decide +kernel
theorem dX10_catchPersons_37 : decode cX10_catchPersons 37 = .ok (.iconst 3, 1) := by decide +kernel
theorem dX10_catchPersons_38 : decode cX10_catchPersons 38 = .ok (.iload_n 1, 1) := by decide +kernel
theorem dX10_catchPersons_39 : decode cX10_catchPersons 39 = .ok (.iastore, 1) := by decide +kernel
theorem dX10_catchPersons_46 : decode cX10_catchPersons 46 = .ok (.return_, 1) := by decide +kernel
theorem dX10_urgencyOf_0 : decode cX10_urgencyOf 0 = .ok (.aload_n 0, 1) := by decide +kernel
theorem dX10_urgencyOf_1 : decode cX10_urgencyOf 1 = .ok (.getfield 21, 3) := by decide +kernel
theorem dX10_urgencyOf_4 : decode cX10_urgencyOf 4 = .ok (.aload_n 0, 1) := by decide +kernel
theorem dX10_urgencyOf_5 : decode cX10_urgencyOf 5 = .ok (.iload_n 1, 1) := by decide +kernel
theorem dX10_urgencyOf_6 : decode cX10_urgencyOf 6 = .ok (.invokevirtual 96, 3) := by decide +kernel
theorem dX10_urgencyOf_9 : decode cX10_urgencyOf 9 = .ok (.iaload, 1) := by decide +kernel
theorem dX10_urgencyOf_10 : decode cX10_urgencyOf 10 = .ok (.istore_n 2, 1) := by decide +kernel
theorem dX10_urgencyOf_11 : decode cX10_urgencyOf 11 = .ok (.iload_n 2, 1) := by decide +kernel
theorem dX10_urgencyOf_12 : decode cX10_urgencyOf 12 = .ok (.iconst (-1), 1) := by decide +kernel
theorem dX10_urgencyOf_13 : decode cX10_urgencyOf 13 = .ok (.if_icmp .ne 8, 3) := by decide +kernel
theorem dX10_urgencyOf_21 : decode cX10_urgencyOf 21 = .ok (.iload_n 2, 1) := by decide +kernel
theorem dX10_urgencyOf_22 : decode cX10_urgencyOf 22 = .ok (.ireturn, 1) := by decide +kernel
theorem dX10_urgencyOf_16 : decode cX10_urgencyOf 16 = .ok (.ldc 139, 2) := by decide +kernel
theorem dX10_urgencyOf_18 : decode cX10_urgencyOf 18 = .ok (.goto 4, 3) := by decide +kernel
theorem dX10_lineUp_0 : decode cX10_lineUp 0 = .ok (.iconst 0, 1) := by decide +kernel
theorem dX10_lineUp_1 : decode cX10_lineUp 1 = .ok (.istore_n 2, 1) := by decide +kernel
theorem dX10_lineUp_2 : decode cX10_lineUp 2 = .ok (.iconst 0, 1) := by decide +kernel
theorem dX10_lineUp_3 : decode cX10_lineUp 3 = .ok (.istore_n 3, 1) := by decide +kernel
theorem dX10_lineUp_4 : decode cX10_lineUp 4 = .ok (.iload_n 3, 1) := by decide +kernel
theorem dX10_lineUp_5 : decode cX10_lineUp 5 = .ok (.aload_n 0, 1) := by decide +kernel
theorem dX10_lineUp_6 : decode cX10_lineUp 6 = .ok (.getfield 93, 3) := by decide +kernel
theorem dX10_lineUp_9 : decode cX10_lineUp 9 = .ok (.if_icmp .ge 101, 3) := by decide +kernel
theorem dX10_lineUp_12 : decode cX10_lineUp 12 = .ok (.aload_n 0, 1) := by decide +kernel
theorem dX10_lineUp_13 : decode cX10_lineUp 13 = .ok (.getfield 29, 3) := by decide +kernel
theorem dX10_lineUp_16 : decode cX10_lineUp 16 = .ok (.iload_n 3, 1) := by decide +kernel
theorem dX10_lineUp_17 : decode cX10_lineUp 17 = .ok (.aaload, 1) := by decide +kernel
theorem dX10_lineUp_18 : decode cX10_lineUp 18 = .ok (.astore 4, 2) := by decide +kernel
theorem dX10_lineUp_20 : decode cX10_lineUp 20 = .ok (.aload_n 0, 1) := by decide +kernel
theorem dX10_lineUp_21 : decode cX10_lineUp 21 = .ok (.iload_n 3, 1) := by decide +kernel
theorem dX10_lineUp_22 : decode cX10_lineUp 22 = .ok (.invokevirtual 115, 3) := by decide +kernel
theorem dX10_lineUp_25 : decode cX10_lineUp 25 = .ok (.ifCond .eq 79, 3) := by decide +kernel
theorem dX10_lineUp_104 : decode cX10_lineUp 104 = .ok (.iinc 3 1, 3) := by decide +kernel
theorem dX10_lineUp_107 : decode cX10_lineUp 107 = .ok (.goto (-103), 3) := by decide +kernel
theorem dX10_lineUp_28 : decode cX10_lineUp 28 = .ok (.iload_n 1, 1) := by decide +kernel
theorem dX10_lineUp_29 : decode cX10_lineUp 29 = .ok (.aload 4, 2) := by decide +kernel
theorem dX10_lineUp_31 : decode cX10_lineUp 31 = .ok (.iconst 5, 1) := by decide +kernel
theorem dX10_lineUp_32 : decode cX10_lineUp 32 = .ok (.iaload, 1) := by decide +kernel
theorem dX10_lineUp_33 : decode cX10_lineUp 33 = .ok (.isub, 1) := by decide +kernel
theorem dX10_lineUp_34 : decode cX10_lineUp 34 = .ok (.aload 4, 2) := by decide +kernel
theorem dX10_lineUp_36 : decode cX10_lineUp 36 = .ok (.bipush 7, 2) := by decide +kernel
theorem dX10_lineUp_38 : decode cX10_lineUp 38 = .ok (.iaload, 1) := by decide +kernel
theorem dX10_lineUp_39 : decode cX10_lineUp 39 = .ok (.if_icmp .lt 65, 3) := by decide +kernel
theorem dX10_lineUp_42 : decode cX10_lineUp 42 = .ok (.iload_n 2, 1) := by decide +kernel
theorem dX10_lineUp_43 : decode cX10_lineUp 43 = .ok (.istore 5, 2) := by decide +kernel
theorem dX10_lineUp_45 : decode cX10_lineUp 45 = .ok (.iload 5, 2) := by decide +kernel
theorem dX10_lineUp_47 : decode cX10_lineUp 47 = .ok (.ifCond .le 46, 3) := by decide +kernel
theorem dX10_lineUp_50 : decode cX10_lineUp 50 = .ok (.aload_n 0, 1) := by decide +kernel
theorem dX10_lineUp_51 : decode cX10_lineUp 51 = .ok (.aload_n 0, 1) := by decide +kernel
theorem dX10_lineUp_52 : decode cX10_lineUp 52 = .ok (.getfield 32, 3) := by decide +kernel
theorem dX10_lineUp_55 : decode cX10_lineUp 55 = .ok (.iload 5, 2) := by decide +kernel
theorem dX10_lineUp_57 : decode cX10_lineUp 57 = .ok (.iconst 1, 1) := by decide +kernel
theorem dX10_lineUp_58 : decode cX10_lineUp 58 = .ok (.isub, 1) := by decide +kernel
theorem dX10_lineUp_59 : decode cX10_lineUp 59 = .ok (.iaload, 1) := by decide +kernel
theorem dX10_lineUp_60 : decode cX10_lineUp 60 = .ok (.invokevirtual 134, 3) := by decide +kernel
theorem dX10_lineUp_63 : decode cX10_lineUp 63 = .ok (.aload_n 0, 1) := by decide +kernel
theorem dX10_lineUp_64 : decode cX10_lineUp 64 = .ok (.iload_n 3, 1) := by decide +kernel
theorem dX10_lineUp_65 : decode cX10_lineUp 65 = .ok (.invokevirtual 134, 3) := by decide +kernel
theorem dX10_lineUp_68 : decode cX10_lineUp 68 = .ok (.if_icmp .le 25, 3) := by decide +kernel
theorem dX10_lineUp_71 : decode cX10_lineUp 71 = .ok (.aload_n 0, 1) := by decide +kernel
theorem dX10_lineUp_72 : decode cX10_lineUp 72 = .ok (.getfield 32, 3) := by decide +kernel
theorem dX10_lineUp_75 : decode cX10_lineUp 75 = .ok (.iload 5, 2) := by decide +kernel
theorem dX10_lineUp_77 : decode cX10_lineUp 77 = .ok (.aload_n 0, 1) := by decide +kernel
theorem dX10_lineUp_78 : decode cX10_lineUp 78 = .ok (.getfield 32, 3) := by decide +kernel
theorem dX10_lineUp_81 : decode cX10_lineUp 81 = .ok (.iload 5, 2) := by decide +kernel
theorem dX10_lineUp_83 : decode cX10_lineUp 83 = .ok (.iconst 1, 1) := by decide +kernel
theorem dX10_lineUp_84 : decode cX10_lineUp 84 = .ok (.isub, 1) := by decide +kernel
theorem dX10_lineUp_85 : decode cX10_lineUp 85 = .ok (.iaload, 1) := by decide +kernel
theorem dX10_lineUp_86 : decode cX10_lineUp 86 = .ok (.iastore, 1) := by decide +kernel
theorem dX10_lineUp_87 : decode cX10_lineUp 87 = .ok (.iinc 5 (-1), 3) := by decide +kernel
theorem dX10_lineUp_90 : decode cX10_lineUp 90 = .ok (.goto (-45), 3) := by decide +kernel
theorem dX10_lineUp_93 : decode cX10_lineUp 93 = .ok (.aload_n 0, 1) := by decide +kernel
theorem dX10_lineUp_94 : decode cX10_lineUp 94 = .ok (.getfield 32, 3) := by decide +kernel
theorem dX10_lineUp_97 : decode cX10_lineUp 97 = .ok (.iload 5, 2) := by decide +kernel
theorem dX10_lineUp_99 : decode cX10_lineUp 99 = .ok (.iload_n 3, 1) := by decide +kernel
theorem dX10_lineUp_100 : decode cX10_lineUp 100 = .ok (.iastore, 1) := by decide +kernel
theorem dX10_lineUp_101 : decode cX10_lineUp 101 = .ok (.iinc 2 1, 3) := by decide +kernel
theorem dX10_lineUp_110 : decode cX10_lineUp 110 = .ok (.iload_n 2, 1) := by decide +kernel
theorem dX10_lineUp_111 : decode cX10_lineUp 111 = .ok (.ireturn, 1) := by decide +kernel
theorem dX10_isBetter_0 : decode cX10_isBetter 0 = .ok (.aload_n 0, 1) := by decide +kernel
theorem dX10_isBetter_1 : decode cX10_isBetter 1 = .ok (.getfield 44, 3) := by decide +kernel
theorem dX10_isBetter_4 : decode cX10_isBetter 4 = .ok (.iload_n 1, 1) := by decide +kernel
theorem dX10_isBetter_5 : decode cX10_isBetter 5 = .ok (.iload_n 2, 1) := by decide +kernel
theorem dX10_isBetter_6 : decode cX10_isBetter 6 = .ok (.invokevirtual 77, 3) := by decide +kernel
theorem dX10_isBetter_9 : decode cX10_isBetter 9 = .ok (.istore_n 3, 1) := by decide +kernel
theorem dX10_isBetter_10 : decode cX10_isBetter 10 = .ok (.aload_n 0, 1) := by decide +kernel
theorem dX10_isBetter_11 : decode cX10_isBetter 11 = .ok (.getfield 21, 3) := by decide +kernel
theorem dX10_isBetter_14 : decode cX10_isBetter 14 = .ok (.iload_n 1, 1) := by decide +kernel
theorem dX10_isBetter_15 : decode cX10_isBetter 15 = .ok (.iaload, 1) := by decide +kernel
theorem dX10_isBetter_16 : decode cX10_isBetter 16 = .ok (.istore 4, 2) := by decide +kernel
theorem dX10_isBetter_18 : decode cX10_isBetter 18 = .ok (.iload_n 3, 1) := by decide +kernel
theorem dX10_isBetter_19 : decode cX10_isBetter 19 = .ok (.iconst (-1), 1) := by decide +kernel
theorem dX10_isBetter_20 : decode cX10_isBetter 20 = .ok (.if_icmp .eq 14, 3) := by decide +kernel
theorem dX10_isBetter_34 : decode cX10_isBetter 34 = .ok (.aload_n 0, 1) := by decide +kernel
theorem dX10_isBetter_35 : decode cX10_isBetter 35 = .ok (.iload_n 3, 1) := by decide +kernel
theorem dX10_isBetter_36 : decode cX10_isBetter 36 = .ok (.invokevirtual 70, 3) := by decide +kernel
theorem dX10_isBetter_39 : decode cX10_isBetter 39 = .ok (.ifCond .eq 32, 3) := by decide +kernel
theorem dX10_isBetter_71 : decode cX10_isBetter 71 = .ok (.iload 4, 2) := by decide +kernel
theorem dX10_isBetter_73 : decode cX10_isBetter 73 = .ok (.iconst 1, 1) := by decide +kernel
theorem dX10_isBetter_74 : decode cX10_isBetter 74 = .ok (.if_icmp .ne 7, 3) := by decide +kernel
theorem dX10_isBetter_81 : decode cX10_isBetter 81 = .ok (.iconst 0, 1) := by decide +kernel
theorem dX10_isBetter_82 : decode cX10_isBetter 82 = .ok (.ireturn, 1) := by decide +kernel
theorem dX10_isBetter_77 : decode cX10_isBetter 77 = .ok (.iconst 1, 1) := by decide +kernel
theorem dX10_isBetter_78 : decode cX10_isBetter 78 = .ok (.goto 4, 3) := by decide +kernel
theorem dX10_isBetter_42 : decode cX10_isBetter 42 = .ok (.aload_n 0, 1) := by decide +kernel
theorem dX10_isBetter_43 : decode cX10_isBetter 43 = .ok (.getfield 21, 3) := by decide +kernel
theorem dX10_isBetter_46 : decode cX10_isBetter 46 = .ok (.iload_n 3, 1) := by decide +kernel
theorem dX10_isBetter_47 : decode cX10_isBetter 47 = .ok (.iaload, 1) := by decide +kernel
theorem dX10_isBetter_48 : decode cX10_isBetter 48 = .ok (.iconst (-1), 1) := by decide +kernel
theorem dX10_isBetter_49 : decode cX10_isBetter 49 = .ok (.if_icmp .eq 18, 3) := by decide +kernel
theorem dX10_isBetter_67 : decode cX10_isBetter 67 = .ok (.iconst 0, 1) := by decide +kernel
theorem dX10_isBetter_68 : decode cX10_isBetter 68 = .ok (.goto 14, 3) := by decide +kernel
theorem dX10_isBetter_52 : decode cX10_isBetter 52 = .ok (.aload_n 0, 1) := by decide +kernel
theorem dX10_isBetter_53 : decode cX10_isBetter 53 = .ok (.getfield 21, 3) := by decide +kernel
theorem dX10_isBetter_56 : decode cX10_isBetter 56 = .ok (.iload_n 3, 1) := by decide +kernel
theorem dX10_isBetter_57 : decode cX10_isBetter 57 = .ok (.iaload, 1) := by decide +kernel
theorem dX10_isBetter_58 : decode cX10_isBetter 58 = .ok (.iload 4, 2) := by decide +kernel
theorem dX10_isBetter_60 : decode cX10_isBetter 60 = .ok (.if_icmp .ge 7, 3) := by decide +kernel
theorem dX10_isBetter_63 : decode cX10_isBetter 63 = .ok (.iconst 1, 1) := by decide +kernel
theorem dX10_isBetter_64 : decode cX10_isBetter 64 = .ok (.goto 18, 3) := by decide +kernel
theorem dX10_isBetter_23 : decode cX10_isBetter 23 = .ok (.aload_n 0, 1) := by decide +kernel
theorem dX10_isBetter_24 : decode cX10_isBetter 24 = .ok (.getfield 11, 3) := by decide +kernel
theorem dX10_isBetter_27 : decode cX10_isBetter 27 = .ok (.iload_n 3, 1) := by decide +kernel
theorem dX10_isBetter_28 : decode cX10_isBetter 28 = .ok (.baload, 1) := by decide +kernel
theorem dX10_isBetter_29 : decode cX10_isBetter 29 = .ok (.ifCond .eq 5, 3) := by decide +kernel
theorem dX10_isBetter_32 : decode cX10_isBetter 32 = .ok (.iconst 0, 1) := by decide +kernel
theorem dX10_isBetter_33 : decode cX10_isBetter 33 = .ok (.ireturn, 1) := by decide +kernel
theorem dX10_goesThrough_0 : decode cX10_goesThrough 0 = .ok (.aload_n 0, 1) := by decide +kernel
theorem dX10_goesThrough_1 : decode cX10_goesThrough 1 = .ok (.getfield 44, 3) := by decide +kernel
theorem dX10_goesThrough_4 : decode cX10_goesThrough 4 = .ok (.iload_n 1, 1) := by decide +kernel
theorem dX10_goesThrough_5 : decode cX10_goesThrough 5 = .ok (.iload_n 2, 1) := by decide +kernel
theorem dX10_goesThrough_6 : decode cX10_goesThrough 6 = .ok (.invokevirtual 58, 3) := by decide +kernel
theorem dX10_goesThrough_9 : decode cX10_goesThrough 9 = .ok (.istore_n 3, 1) := by decide +kernel
theorem dX10_goesThrough_10 : decode cX10_goesThrough 10 = .ok (.iload_n 3, 1) := by decide +kernel
theorem dX10_goesThrough_11 : decode cX10_goesThrough 11 = .ok (.iconst (-1), 1) := by decide +kernel
theorem dX10_goesThrough_12 : decode cX10_goesThrough 12 = .ok (.if_icmp .ne 5, 3) := by decide +kernel
theorem dX10_goesThrough_17 : decode cX10_goesThrough 17 = .ok (.aload_n 0, 1) := by decide +kernel
theorem dX10_goesThrough_18 : decode cX10_goesThrough 18 = .ok (.getfield 44, 3) := by decide +kernel
theorem dX10_goesThrough_21 : decode cX10_goesThrough 21 = .ok (.iload_n 1, 1) := by decide +kernel
theorem dX10_goesThrough_22 : decode cX10_goesThrough 22 = .ok (.iload_n 2, 1) := by decide +kernel
theorem dX10_goesThrough_23 : decode cX10_goesThrough 23 = .ok (.iload_n 3, 1) := by decide +kernel
theorem dX10_goesThrough_24 : decode cX10_goesThrough 24 = .ok (.invokevirtual 62, 3) := by decide +kernel
theorem dX10_goesThrough_27 : decode cX10_goesThrough 27 = .ok (.istore 4, 2) := by decide +kernel
theorem dX10_goesThrough_29 : decode cX10_goesThrough 29 = .ok (.iconst 0, 1) := by decide +kernel
theorem dX10_goesThrough_30 : decode cX10_goesThrough 30 = .ok (.istore 5, 2) := by decide +kernel
theorem dX10_goesThrough_32 : decode cX10_goesThrough 32 = .ok (.iload 5, 2) := by decide +kernel
theorem dX10_goesThrough_34 : decode cX10_goesThrough 34 = .ok (.aload_n 0, 1) := by decide +kernel
theorem dX10_goesThrough_35 : decode cX10_goesThrough 35 = .ok (.getfield 40, 3) := by decide +kernel
theorem dX10_goesThrough_38 : decode cX10_goesThrough 38 = .ok (.getfield 150, 3) := by decide +kernel
theorem dX10_goesThrough_41 : decode cX10_goesThrough 41 = .ok (.iload_n 3, 1) := by decide +kernel
theorem dX10_goesThrough_42 : decode cX10_goesThrough 42 = .ok (.iaload, 1) := by decide +kernel
theorem dX10_goesThrough_43 : decode cX10_goesThrough 43 = .ok (.if_icmp .ge 61, 3) := by decide +kernel
theorem dX10_goesThrough_46 : decode cX10_goesThrough 46 = .ok (.aload_n 0, 1) := by decide +kernel
theorem dX10_goesThrough_47 : decode cX10_goesThrough 47 = .ok (.getfield 40, 3) := by decide +kernel
theorem dX10_goesThrough_50 : decode cX10_goesThrough 50 = .ok (.iload_n 3, 1) := by decide +kernel
theorem dX10_goesThrough_51 : decode cX10_goesThrough 51 = .ok (.iload 5, 2) := by decide +kernel
theorem dX10_goesThrough_53 : decode cX10_goesThrough 53 = .ok (.iload 4, 2) := by decide +kernel
theorem dX10_goesThrough_55 : decode cX10_goesThrough 55 = .ok (.invokevirtual 153, 3) := by decide +kernel
theorem dX10_goesThrough_58 : decode cX10_goesThrough 58 = .ok (.ifCond .eq 40, 3) := by decide +kernel
theorem dX10_goesThrough_98 : decode cX10_goesThrough 98 = .ok (.iinc 5 1, 3) := by decide +kernel
theorem dX10_goesThrough_101 : decode cX10_goesThrough 101 = .ok (.goto (-69), 3) := by decide +kernel
theorem dX10_goesThrough_61 : decode cX10_goesThrough 61 = .ok (.aload_n 0, 1) := by decide +kernel
theorem dX10_goesThrough_62 : decode cX10_goesThrough 62 = .ok (.getfield 37, 3) := by decide +kernel
theorem dX10_goesThrough_65 : decode cX10_goesThrough 65 = .ok (.iload_n 3, 1) := by decide +kernel
theorem dX10_goesThrough_66 : decode cX10_goesThrough 66 = .ok (.aaload, 1) := by decide +kernel
theorem dX10_goesThrough_67 : decode cX10_goesThrough 67 = .ok (.iload 5, 2) := by decide +kernel
theorem dX10_goesThrough_69 : decode cX10_goesThrough 69 = .ok (.iaload, 1) := by decide +kernel
theorem dX10_goesThrough_70 : decode cX10_goesThrough 70 = .ok (.aload_n 0, 1) := by decide +kernel
theorem dX10_goesThrough_71 : decode cX10_goesThrough 71 = .ok (.getfield 40, 3) := by decide +kernel
theorem dX10_goesThrough_74 : decode cX10_goesThrough 74 = .ok (.iload_n 3, 1) := by decide +kernel
theorem dX10_goesThrough_75 : decode cX10_goesThrough 75 = .ok (.iload 5, 2) := by decide +kernel
theorem dX10_goesThrough_77 : decode cX10_goesThrough 77 = .ok (.invokevirtual 157, 3) := by decide +kernel
theorem dX10_goesThrough_80 : decode cX10_goesThrough 80 = .ok (.if_icmp .ge 18, 3) := by decide +kernel
theorem dX10_goesThrough_83 : decode cX10_goesThrough 83 = .ok (.aload_n 0, 1) := by decide +kernel
theorem dX10_goesThrough_84 : decode cX10_goesThrough 84 = .ok (.getfield 37, 3) := by decide +kernel
theorem dX10_goesThrough_87 : decode cX10_goesThrough 87 = .ok (.iload_n 3, 1) := by decide +kernel
theorem dX10_goesThrough_88 : decode cX10_goesThrough 88 = .ok (.aaload, 1) := by decide +kernel
theorem dX10_goesThrough_89 : decode cX10_goesThrough 89 = .ok (.iload 5, 2) := by decide +kernel
theorem dX10_goesThrough_91 : decode cX10_goesThrough 91 = .ok (.dup2, 1) := by decide +kernel
theorem dX10_goesThrough_92 : decode cX10_goesThrough 92 = .ok (.iaload, 1) := by decide +kernel
theorem dX10_goesThrough_93 : decode cX10_goesThrough 93 = .ok (.iconst 1, 1) := by decide +kernel
theorem dX10_goesThrough_94 : decode cX10_goesThrough 94 = .ok (.iadd, 1) := by decide +kernel
theorem dX10_goesThrough_95 : decode cX10_goesThrough 95 = .ok (.iastore, 1) := by decide +kernel
theorem dX10_goesThrough_96 : decode cX10_goesThrough 96 = .ok (.iconst 1, 1) := by decide +kernel
theorem dX10_goesThrough_97 : decode cX10_goesThrough 97 = .ok (.ireturn, 1) := by decide +kernel
theorem dX10_goesThrough_104 : decode cX10_goesThrough 104 = .ok (.iconst 0, 1) := by decide +kernel
theorem dX10_goesThrough_105 : decode cX10_goesThrough 105 = .ok (.ireturn, 1) := by decide +kernel
theorem dX10_goesThrough_15 : decode cX10_goesThrough 15 = .ok (.iconst 1, 1) := by decide +kernel
theorem dX10_goesThrough_16 : decode cX10_goesThrough 16 = .ok (.ireturn, 1) := by decide +kernel
theorem dX10_step_0 : decode cX10_step 0 = .ok (.aload_n 0, 1) := by decide +kernel
theorem dX10_step_1 : decode cX10_step 1 = .ok (.getfield 29, 3) := by decide +kernel
theorem dX10_step_4 : decode cX10_step 4 = .ok (.iload_n 1, 1) := by decide +kernel
theorem dX10_step_5 : decode cX10_step 5 = .ok (.aaload, 1) := by decide +kernel
theorem dX10_step_6 : decode cX10_step 6 = .ok (.iconst 4, 1) := by decide +kernel
theorem dX10_step_7 : decode cX10_step 7 = .ok (.dup2, 1) := by decide +kernel
theorem dX10_step_8 : decode cX10_step 8 = .ok (.iaload, 1) := by decide +kernel
theorem dX10_step_9 : decode cX10_step 9 = .ok (.iconst 1, 1) := by decide +kernel
theorem dX10_step_10 : decode cX10_step 10 = .ok (.iadd, 1) := by decide +kernel
theorem dX10_step_11 : decode cX10_step 11 = .ok (.iastore, 1) := by decide +kernel
theorem dX10_step_12 : decode cX10_step 12 = .ok (.aload_n 0, 1) := by decide +kernel
theorem dX10_step_13 : decode cX10_step 13 = .ok (.iload_n 2, 1) := by decide +kernel
theorem dX10_step_14 : decode cX10_step 14 = .ok (.invokevirtual 70, 3) := by decide +kernel
theorem dX10_step_17 : decode cX10_step 17 = .ok (.ifCond .eq 29, 3) := by decide +kernel
theorem dX10_step_46 : decode cX10_step 46 = .ok (.aload_n 0, 1) := by decide +kernel
theorem dX10_step_47 : decode cX10_step 47 = .ok (.iload_n 1, 1) := by decide +kernel
theorem dX10_step_48 : decode cX10_step 48 = .ok (.aload_n 0, 1) := by decide +kernel
theorem dX10_step_49 : decode cX10_step 49 = .ok (.invokevirtual 102, 3) := by decide +kernel
theorem dX10_step_52 : decode cX10_step 52 = .ok (.iconst (-1), 1) := by decide +kernel
theorem dX10_step_53 : decode cX10_step 53 = .ok (.iconst (-1), 1) := by decide +kernel
theorem dX10_step_54 : decode cX10_step 54 = .ok (.iload_n 3, 1) := by decide +kernel
theorem dX10_step_55 : decode cX10_step 55 = .ok (.invokevirtual 160, 3) := by decide +kernel
theorem dX10_step_58 : decode cX10_step 58 = .ok (.return_, 1) := by decide +kernel
theorem dX10_step_20 : decode cX10_step 20 = .ok (.aload_n 0, 1) := by decide +kernel
theorem dX10_step_21 : decode cX10_step 21 = .ok (.iload_n 1, 1) := by decide +kernel
theorem dX10_step_22 : decode cX10_step 22 = .ok (.aload_n 0, 1) := by decide +kernel
theorem dX10_step_23 : decode cX10_step 23 = .ok (.getfield 44, 3) := by decide +kernel
theorem dX10_step_26 : decode cX10_step 26 = .ok (.getfield 55, 3) := by decide +kernel
theorem dX10_step_29 : decode cX10_step 29 = .ok (.iload_n 2, 1) := by decide +kernel
theorem dX10_step_30 : decode cX10_step 30 = .ok (.iaload, 1) := by decide +kernel
theorem dX10_step_31 : decode cX10_step 31 = .ok (.iload_n 2, 1) := by decide +kernel
theorem dX10_step_32 : decode cX10_step 32 = .ok (.bipush 24, 2) := by decide +kernel
theorem dX10_step_34 : decode cX10_step 34 = .ok (.idiv, 1) := by decide +kernel
theorem dX10_step_35 : decode cX10_step 35 = .ok (.iload_n 2, 1) := by decide +kernel
theorem dX10_step_36 : decode cX10_step 36 = .ok (.bipush 24, 2) := by decide +kernel
theorem dX10_step_38 : decode cX10_step 38 = .ok (.irem, 1) := by decide +kernel
theorem dX10_step_39 : decode cX10_step 39 = .ok (.iload_n 3, 1) := by decide +kernel
theorem dX10_step_40 : decode cX10_step 40 = .ok (.invokevirtual 160, 3) := by decide +kernel
theorem dX10_step_43 : decode cX10_step 43 = .ok (.goto 15, 3) := by decide +kernel
theorem dX10_moveOne_0 : decode cX10_moveOne 0 = .ok (.aload_n 0, 1) := by decide +kernel
theorem dX10_moveOne_1 : decode cX10_moveOne 1 = .ok (.iload_n 1, 1) := by decide +kernel
theorem dX10_moveOne_2 : decode cX10_moveOne 2 = .ok (.invokevirtual 96, 3) := by decide +kernel
theorem dX10_moveOne_5 : decode cX10_moveOne 5 = .ok (.istore_n 3, 1) := by decide +kernel
theorem dX10_moveOne_6 : decode cX10_moveOne 6 = .ok (.iconst 0, 1) := by decide +kernel
theorem dX10_moveOne_7 : decode cX10_moveOne 7 = .ok (.istore 4, 2) := by decide +kernel
theorem dX10_moveOne_9 : decode cX10_moveOne 9 = .ok (.iload 4, 2) := by decide +kernel
theorem dX10_moveOne_11 : decode cX10_moveOne 11 = .ok (.iconst 4, 1) := by decide +kernel
theorem dX10_moveOne_12 : decode cX10_moveOne 12 = .ok (.if_icmp .ge 46, 3) := by decide +kernel
theorem dX10_moveOne_15 : decode cX10_moveOne 15 = .ok (.aload_n 0, 1) := by decide +kernel
theorem dX10_moveOne_16 : decode cX10_moveOne 16 = .ok (.iload_n 3, 1) := by decide +kernel
theorem dX10_moveOne_17 : decode cX10_moveOne 17 = .ok (.iload 4, 2) := by decide +kernel
theorem dX10_moveOne_19 : decode cX10_moveOne 19 = .ok (.invokevirtual 140, 3) := by decide +kernel
theorem dX10_moveOne_22 : decode cX10_moveOne 22 = .ok (.ifCond .eq 30, 3) := by decide +kernel
theorem dX10_moveOne_52 : decode cX10_moveOne 52 = .ok (.iinc 4 1, 3) := by decide +kernel
theorem dX10_moveOne_55 : decode cX10_moveOne 55 = .ok (.goto (-46), 3) := by decide +kernel
theorem dX10_moveOne_25 : decode cX10_moveOne 25 = .ok (.aload_n 0, 1) := by decide +kernel
theorem dX10_moveOne_26 : decode cX10_moveOne 26 = .ok (.iload_n 3, 1) := by decide +kernel
theorem dX10_moveOne_27 : decode cX10_moveOne 27 = .ok (.iload 4, 2) := by decide +kernel
theorem dX10_moveOne_29 : decode cX10_moveOne 29 = .ok (.invokevirtual 143, 3) := by decide +kernel
theorem dX10_moveOne_32 : decode cX10_moveOne 32 = .ok (.ifCond .eq 20, 3) := by decide +kernel
theorem dX10_moveOne_35 : decode cX10_moveOne 35 = .ok (.aload_n 0, 1) := by decide +kernel
theorem dX10_moveOne_36 : decode cX10_moveOne 36 = .ok (.iload_n 1, 1) := by decide +kernel
theorem dX10_moveOne_37 : decode cX10_moveOne 37 = .ok (.aload_n 0, 1) := by decide +kernel
theorem dX10_moveOne_38 : decode cX10_moveOne 38 = .ok (.getfield 44, 3) := by decide +kernel
theorem dX10_moveOne_41 : decode cX10_moveOne 41 = .ok (.iload_n 3, 1) := by decide +kernel
theorem dX10_moveOne_42 : decode cX10_moveOne 42 = .ok (.iload 4, 2) := by decide +kernel
theorem dX10_moveOne_44 : decode cX10_moveOne 44 = .ok (.invokevirtual 77, 3) := by decide +kernel
theorem dX10_moveOne_47 : decode cX10_moveOne 47 = .ok (.iload_n 2, 1) := by decide +kernel
theorem dX10_moveOne_48 : decode cX10_moveOne 48 = .ok (.invokevirtual 146, 3) := by decide +kernel
theorem dX10_moveOne_51 : decode cX10_moveOne 51 = .ok (.return_, 1) := by decide +kernel
theorem dX10_moveOne_58 : decode cX10_moveOne 58 = .ok (.return_, 1) := by decide +kernel
theorem dX10_movePersons_0 : decode cX10_movePersons 0 = .ok (.iconst 0, 1) := by decide +kernel
theorem dX10_movePersons_1 : decode cX10_movePersons 1 = .ok (.istore_n 2, 1) := by decide +kernel
theorem dX10_movePersons_2 : decode cX10_movePersons 2 = .ok (.iload_n 2, 1) := by decide +kernel
theorem dX10_movePersons_3 : decode cX10_movePersons 3 = .ok (.aload_n 0, 1) := by decide +kernel
theorem dX10_movePersons_4 : decode cX10_movePersons 4 = .ok (.getfield 40, 3) := by decide +kernel
theorem dX10_movePersons_7 : decode cX10_movePersons 7 = .ok (.getfield 118, 3) := by decide +kernel
theorem dX10_movePersons_10 : decode cX10_movePersons 10 = .ok (.if_icmp .ge 19, 3) := by decide +kernel
theorem dX10_movePersons_13 : decode cX10_movePersons 13 = .ok (.aload_n 0, 1) := by decide +kernel
theorem dX10_movePersons_14 : decode cX10_movePersons 14 = .ok (.getfield 37, 3) := by decide +kernel
theorem dX10_movePersons_17 : decode cX10_movePersons 17 = .ok (.iload_n 2, 1) := by decide +kernel
theorem dX10_movePersons_18 : decode cX10_movePersons 18 = .ok (.aaload, 1) := by decide +kernel
theorem dX10_movePersons_19 : decode cX10_movePersons 19 = .ok (.iconst 0, 1) := by decide +kernel
theorem dX10_movePersons_20 : decode cX10_movePersons 20 = .ok (.invokestatic 121, 3) := by decide +kernel
theorem dX10_movePersons_23 : decode cX10_movePersons 23 = .ok (.iinc 2 1, 3) := by decide +kernel
theorem dX10_movePersons_26 : decode cX10_movePersons 26 = .ok (.goto (-24), 3) := by decide +kernel
theorem dX10_movePersons_29 : decode cX10_movePersons 29 = .ok (.aload_n 0, 1) := by decide +kernel
theorem dX10_movePersons_30 : decode cX10_movePersons 30 = .ok (.iload_n 1, 1) := by decide +kernel
theorem dX10_movePersons_31 : decode cX10_movePersons 31 = .ok (.invokevirtual 127, 3) := by decide +kernel
theorem dX10_movePersons_34 : decode cX10_movePersons 34 = .ok (.istore_n 2, 1) := by decide +kernel
theorem dX10_movePersons_35 : decode cX10_movePersons 35 = .ok (.iconst 0, 1) := by decide +kernel
theorem dX10_movePersons_36 : decode cX10_movePersons 36 = .ok (.istore_n 3, 1) := by decide +kernel
theorem dX10_movePersons_37 : decode cX10_movePersons 37 = .ok (.iload_n 3, 1) := by decide +kernel
theorem dX10_movePersons_38 : decode cX10_movePersons 38 = .ok (.iload_n 2, 1) := by decide +kernel
theorem dX10_movePersons_39 : decode cX10_movePersons 39 = .ok (.if_icmp .ge 20, 3) := by decide +kernel
theorem dX10_movePersons_42 : decode cX10_movePersons 42 = .ok (.aload_n 0, 1) := by decide +kernel
theorem dX10_movePersons_43 : decode cX10_movePersons 43 = .ok (.aload_n 0, 1) := by decide +kernel
theorem dX10_movePersons_44 : decode cX10_movePersons 44 = .ok (.getfield 32, 3) := by decide +kernel
theorem dX10_movePersons_47 : decode cX10_movePersons 47 = .ok (.iload_n 3, 1) := by decide +kernel
theorem dX10_movePersons_48 : decode cX10_movePersons 48 = .ok (.iaload, 1) := by decide +kernel
theorem dX10_movePersons_49 : decode cX10_movePersons 49 = .ok (.iload_n 1, 1) := by decide +kernel
theorem dX10_movePersons_50 : decode cX10_movePersons 50 = .ok (.invokevirtual 130, 3) := by decide +kernel
theorem dX10_movePersons_53 : decode cX10_movePersons 53 = .ok (.iinc 3 1, 3) := by decide +kernel
theorem dX10_movePersons_56 : decode cX10_movePersons 56 = .ok (.goto (-19), 3) := by decide +kernel
theorem dX10_movePersons_59 : decode cX10_movePersons 59 = .ok (.return_, 1) := by decide +kernel
theorem dX12_check_0 : decode cX12_check 0 = .ok (.aload_n 0, 1) := by decide +kernel
theorem dX12_check_1 : decode cX12_check 1 = .ok (.getfield 31, 3) := by decide +kernel
theorem dX12_check_4 : decode cX12_check 4 = .ok (.iload_n 1, 1) := by decide +kernel
theorem dX12_check_5 : decode cX12_check 5 = .ok (.bipush 21, 2) := by decide +kernel
theorem dX12_check_7 : decode cX12_check 7 = .ok (.iadd, 1) := by decide +kernel
theorem dX12_check_8 : decode cX12_check 8 = .ok (.iaload, 1) := by decide +kernel
theorem dX12_check_9 : decode cX12_check 9 = .ok (.istore_n 2, 1) := by decide +kernel
theorem dX12_check_10 : decode cX12_check 10 = .ok (.sipush 255, 3) := by decide +kernel
theorem dX12_check_13 : decode cX12_check 13 = .ok (.istore_n 3, 1) := by decide +kernel
theorem dX12_check_14 : decode cX12_check 14 = .ok (.iconst 0, 1) := by decide +kernel
theorem dX12_check_15 : decode cX12_check 15 = .ok (.istore 4, 2) := by decide +kernel
theorem dX12_check_17 : decode cX12_check 17 = .ok (.iload 4, 2) := by decide +kernel
theorem dX12_check_19 : decode cX12_check 19 = .ok (.iload_n 2, 1) := by decide +kernel
theorem dX12_check_20 : decode cX12_check 20 = .ok (.iconst 1, 1) := by decide +kernel
theorem dX12_check_21 : decode cX12_check 21 = .ok (.isub, 1) := by decide +kernel
theorem dX12_check_22 : decode cX12_check 22 = .ok (.if_icmp .ge 21, 3) := by decide +kernel
theorem dX12_check_25 : decode cX12_check 25 = .ok (.iload_n 3, 1) := by decide +kernel
theorem dX12_check_26 : decode cX12_check 26 = .ok (.aload_n 0, 1) := by decide +kernel
theorem dX12_check_27 : decode cX12_check 27 = .ok (.getfield 31, 3) := by decide +kernel
theorem dX12_check_30 : decode cX12_check 30 = .ok (.iload_n 1, 1) := by decide +kernel
theorem dX12_check_31 : decode cX12_check 31 = .ok (.iload 4, 2) := by decide +kernel
theorem dX12_check_33 : decode cX12_check 33 = .ok (.iadd, 1) := by decide +kernel
theorem dX12_check_34 : decode cX12_check 34 = .ok (.iaload, 1) := by decide +kernel
theorem dX12_check_35 : decode cX12_check 35 = .ok (.ixor, 1) := by decide +kernel
theorem dX12_check_36 : decode cX12_check 36 = .ok (.istore_n 3, 1) := by decide +kernel
theorem dX12_check_37 : decode cX12_check 37 = .ok (.iinc 4 1, 3) := by decide +kernel
theorem dX12_check_40 : decode cX12_check 40 = .ok (.goto (-23), 3) := by decide +kernel
theorem dX12_check_43 : decode cX12_check 43 = .ok (.aload_n 0, 1) := by decide +kernel
theorem dX12_check_44 : decode cX12_check 44 = .ok (.getfield 31, 3) := by decide +kernel
theorem dX12_check_47 : decode cX12_check 47 = .ok (.iload_n 1, 1) := by decide +kernel
theorem dX12_check_48 : decode cX12_check 48 = .ok (.iload_n 2, 1) := by decide +kernel
theorem dX12_check_49 : decode cX12_check 49 = .ok (.iadd, 1) := by decide +kernel
theorem dX12_check_50 : decode cX12_check 50 = .ok (.iconst 1, 1) := by decide +kernel
theorem dX12_check_51 : decode cX12_check 51 = .ok (.isub, 1) := by decide +kernel
theorem dX12_check_52 : decode cX12_check 52 = .ok (.iload_n 3, 1) := by decide +kernel
theorem dX12_check_53 : decode cX12_check 53 = .ok (.iastore, 1) := by decide +kernel
theorem dX12_check_54 : decode cX12_check 54 = .ok (.return_, 1) := by decide +kernel
theorem dX12_send_0 : decode cX12_send 0 = .ok (.bipush 24, 2) := by decide +kernel
theorem dX12_send_2 : decode cX12_send 2 = .ok (.bipush 6, 2) := by decide +kernel
theorem dX12_send_4 : decode cX12_send 4 = .ok (.iload_n 1, 1) := by decide +kernel
theorem dX12_send_5 : decode cX12_send 5 = .ok (.imul, 1) := by decide +kernel
theorem dX12_send_6 : decode cX12_send 6 = .ok (.aload_n 0, 1) := by decide +kernel
theorem dX12_send_7 : decode cX12_send 7 = .ok (.getfield 28, 3) := by decide +kernel
theorem dX12_send_10 : decode cX12_send 10 = .ok (.iload_n 1, 1) := by decide +kernel
theorem dX12_send_11 : decode cX12_send 11 = .ok (.iaload, 1) := by decide +kernel
theorem dX12_send_12 : decode cX12_send 12 = .ok (.iadd, 1) := by decide +kernel
theorem dX12_send_13 : decode cX12_send 13 = .ok (.imul, 1) := by decide +kernel
theorem dX12_send_14 : decode cX12_send 14 = .ok (.istore 7, 2) := by decide +kernel
theorem dX12_send_16 : decode cX12_send 16 = .ok (.aload_n 0, 1) := by decide +kernel
theorem dX12_send_17 : decode cX12_send 17 = .ok (.getfield 31, 3) := by decide +kernel
theorem dX12_send_20 : decode cX12_send 20 = .ok (.iload 7, 2) := by decide +kernel
theorem dX12_send_22 : decode cX12_send 22 = .ok (.sipush 176, 3) := by decide +kernel
theorem dX12_send_25 : decode cX12_send 25 = .ok (.iconst 4, 1) := by decide +kernel
theorem dX12_send_26 : decode cX12_send 26 = .ok (.iload_n 2, 1) := by decide +kernel
theorem dX12_send_27 : decode cX12_send 27 = .ok (.imul, 1) := by decide +kernel
theorem dX12_send_28 : decode cX12_send 28 = .ok (.iadd, 1) := by decide +kernel
theorem dX12_send_29 : decode cX12_send 29 = .ok (.iastore, 1) := by decide +kernel
theorem dX12_send_30 : decode cX12_send 30 = .ok (.aload_n 0, 1) := by decide +kernel
theorem dX12_send_31 : decode cX12_send 31 = .ok (.getfield 31, 3) := by decide +kernel
theorem dX12_send_34 : decode cX12_send 34 = .ok (.iload 7, 2) := by decide +kernel
theorem dX12_send_36 : decode cX12_send 36 = .ok (.iconst 1, 1) := by decide +kernel
theorem dX12_send_37 : decode cX12_send 37 = .ok (.iadd, 1) := by decide +kernel
theorem dX12_send_38 : decode cX12_send 38 = .ok (.aload_n 0, 1) := by decide +kernel
theorem dX12_send_39 : decode cX12_send 39 = .ok (.getfield 18, 3) := by decide +kernel
theorem dX12_send_42 : decode cX12_send 42 = .ok (.iload_n 1, 1) := by decide +kernel
theorem dX12_send_43 : decode cX12_send 43 = .ok (.iaload, 1) := by decide +kernel
theorem dX12_send_44 : decode cX12_send 44 = .ok (.sipush 256, 3) := by decide +kernel
theorem dX12_send_47 : decode cX12_send 47 = .ok (.idiv, 1) := by decide +kernel
theorem dX12_send_48 : decode cX12_send 48 = .ok (.iastore, 1) := by decide +kernel
theorem dX12_send_49 : decode cX12_send 49 = .ok (.aload_n 0, 1) := by decide +kernel
theorem dX12_send_50 : decode cX12_send 50 = .ok (.getfield 31, 3) := by decide +kernel
theorem dX12_send_53 : decode cX12_send 53 = .ok (.iload 7, 2) := by decide +kernel
theorem dX12_send_55 : decode cX12_send 55 = .ok (.iconst 2, 1) := by decide +kernel
theorem dX12_send_56 : decode cX12_send 56 = .ok (.iadd, 1) := by decide +kernel
theorem dX12_send_57 : decode cX12_send 57 = .ok (.aload_n 0, 1) := by decide +kernel
theorem dX12_send_58 : decode cX12_send 58 = .ok (.getfield 18, 3) := by decide +kernel
theorem dX12_send_61 : decode cX12_send 61 = .ok (.iload_n 1, 1) := by decide +kernel
theorem dX12_send_62 : decode cX12_send 62 = .ok (.iaload, 1) := by decide +kernel
theorem dX12_send_63 : decode cX12_send 63 = .ok (.sipush 256, 3) := by decide +kernel
theorem dX12_send_66 : decode cX12_send 66 = .ok (.irem, 1) := by decide +kernel
theorem dX12_send_67 : decode cX12_send 67 = .ok (.iastore, 1) := by decide +kernel
theorem dX12_send_68 : decode cX12_send 68 = .ok (.aload_n 0, 1) := by decide +kernel
theorem dX12_send_69 : decode cX12_send 69 = .ok (.getfield 31, 3) := by decide +kernel
theorem dX12_send_72 : decode cX12_send 72 = .ok (.iload 7, 2) := by decide +kernel
theorem dX12_send_74 : decode cX12_send 74 = .ok (.iconst 3, 1) := by decide +kernel
theorem dX12_send_75 : decode cX12_send 75 = .ok (.iadd, 1) := by decide +kernel
theorem dX12_send_76 : decode cX12_send 76 = .ok (.iload_n 3, 1) := by decide +kernel
theorem dX12_send_77 : decode cX12_send 77 = .ok (.sipush 256, 3) := by decide +kernel
theorem dX12_send_80 : decode cX12_send 80 = .ok (.idiv, 1) := by decide +kernel
theorem dX12_send_81 : decode cX12_send 81 = .ok (.iastore, 1) := by decide +kernel
theorem dX12_send_82 : decode cX12_send 82 = .ok (.aload_n 0, 1) := by decide +kernel
theorem dX12_send_83 : decode cX12_send 83 = .ok (.getfield 31, 3) := by decide +kernel
theorem dX12_send_86 : decode cX12_send 86 = .ok (.iload 7, 2) := by decide +kernel
theorem dX12_send_88 : decode cX12_send 88 = .ok (.iconst 4, 1) := by decide +kernel
theorem dX12_send_89 : decode cX12_send 89 = .ok (.iadd, 1) := by decide +kernel
theorem dX12_send_90 : decode cX12_send 90 = .ok (.iload_n 3, 1) := by decide +kernel
theorem dX12_send_91 : decode cX12_send 91 = .ok (.sipush 256, 3) := by decide +kernel
theorem dX12_send_94 : decode cX12_send 94 = .ok (.irem, 1) := by decide +kernel
theorem dX12_send_95 : decode cX12_send 95 = .ok (.iastore, 1) := by decide +kernel
theorem dX12_send_96 : decode cX12_send 96 = .ok (.aload_n 0, 1) := by decide +kernel
theorem dX12_send_97 : decode cX12_send 97 = .ok (.getfield 31, 3) := by decide +kernel
theorem dX12_send_100 : decode cX12_send 100 = .ok (.iload 7, 2) := by decide +kernel
theorem dX12_send_102 : decode cX12_send 102 = .ok (.iconst 5, 1) := by decide +kernel
theorem dX12_send_103 : decode cX12_send 103 = .ok (.iadd, 1) := by decide +kernel
theorem dX12_send_104 : decode cX12_send 104 = .ok (.iload 5, 2) := by decide +kernel
theorem dX12_send_106 : decode cX12_send 106 = .ok (.iconst 1, 1) := by decide +kernel
theorem dX12_send_107 : decode cX12_send 107 = .ok (.isub, 1) := by decide +kernel
theorem dX12_send_108 : decode cX12_send 108 = .ok (.iload 4, 2) := by decide +kernel
theorem dX12_send_110 : decode cX12_send 110 = .ok (.ifCond .eq 9, 3) := by decide +kernel
theorem dX12_send_119 : decode cX12_send 119 = .ok (.iconst 0, 1) := by decide +kernel
theorem dX12_send_120 : decode cX12_send 120 = .ok (.iadd, 1) := by decide +kernel
theorem dX12_send_121 : decode cX12_send 121 = .ok (.iastore, 1) := by decide +kernel
theorem dX12_send_122 : decode cX12_send 122 = .ok (.iconst 0, 1) := by decide +kernel
theorem dX12_send_123 : decode cX12_send 123 = .ok (.istore 8, 2) := by decide +kernel
theorem dX12_send_125 : decode cX12_send 125 = .ok (.iload 8, 2) := by decide +kernel
theorem dX12_send_127 : decode cX12_send 127 = .ok (.iload 5, 2) := by decide +kernel
theorem dX12_send_129 : decode cX12_send 129 = .ok (.if_icmp .ge 31, 3) := by decide +kernel
theorem dX12_send_132 : decode cX12_send 132 = .ok (.aload_n 0, 1) := by decide +kernel
theorem dX12_send_133 : decode cX12_send 133 = .ok (.getfield 31, 3) := by decide +kernel
theorem dX12_send_136 : decode cX12_send 136 = .ok (.iload 7, 2) := by decide +kernel
theorem dX12_send_138 : decode cX12_send 138 = .ok (.bipush 6, 2) := by decide +kernel
theorem dX12_send_140 : decode cX12_send 140 = .ok (.iadd, 1) := by decide +kernel
theorem dX12_send_141 : decode cX12_send 141 = .ok (.iload 8, 2) := by decide +kernel
theorem dX12_send_143 : decode cX12_send 143 = .ok (.iadd, 1) := by decide +kernel
theorem dX12_send_144 : decode cX12_send 144 = .ok (.iload 6, 2) := by decide +kernel
theorem dX12_send_146 : decode cX12_send 146 = .ok (.iload 8, 2) := by decide +kernel
theorem dX12_send_148 : decode cX12_send 148 = .ok (.iadd, 1) := by decide +kernel
theorem dX12_send_149 : decode cX12_send 149 = .ok (.sipush 256, 3) := by decide +kernel
theorem dX12_send_152 : decode cX12_send 152 = .ok (.irem, 1) := by decide +kernel
theorem dX12_send_153 : decode cX12_send 153 = .ok (.iastore, 1) := by decide +kernel
theorem dX12_send_154 : decode cX12_send 154 = .ok (.iinc 8 1, 3) := by decide +kernel
theorem dX12_send_157 : decode cX12_send 157 = .ok (.goto (-32), 3) := by decide +kernel
theorem dX12_send_160 : decode cX12_send 160 = .ok (.aload_n 0, 1) := by decide +kernel
theorem dX12_send_161 : decode cX12_send 161 = .ok (.getfield 31, 3) := by decide +kernel
theorem dX12_send_164 : decode cX12_send 164 = .ok (.iload 7, 2) := by decide +kernel
theorem dX12_send_166 : decode cX12_send 166 = .ok (.bipush 21, 2) := by decide +kernel
theorem dX12_send_168 : decode cX12_send 168 = .ok (.iadd, 1) := by decide +kernel
theorem dX12_send_169 : decode cX12_send 169 = .ok (.iload 5, 2) := by decide +kernel
theorem dX12_send_171 : decode cX12_send 171 = .ok (.bipush 7, 2) := by decide +kernel
theorem dX12_send_173 : decode cX12_send 173 = .ok (.iadd, 1) := by decide +kernel
theorem dX12_send_174 : decode cX12_send 174 = .ok (.iastore, 1) := by decide +kernel
theorem dX12_send_175 : decode cX12_send 175 = .ok (.aload_n 0, 1) := by decide +kernel
theorem dX12_send_176 : decode cX12_send 176 = .ok (.getfield 31, 3) := by decide +kernel
theorem dX12_send_179 : decode cX12_send 179 = .ok (.iload 7, 2) := by decide +kernel
theorem dX12_send_181 : decode cX12_send 181 = .ok (.bipush 22, 2) := by decide +kernel
theorem dX12_send_183 : decode cX12_send 183 = .ok (.iadd, 1) := by decide +kernel
theorem dX12_send_184 : decode cX12_send 184 = .ok (.iload_n 2, 1) := by decide +kernel
theorem dX12_send_185 : decode cX12_send 185 = .ok (.iastore, 1) := by decide +kernel
theorem dX12_send_186 : decode cX12_send 186 = .ok (.aload_n 0, 1) := by decide +kernel
theorem dX12_send_187 : decode cX12_send 187 = .ok (.getfield 31, 3) := by decide +kernel
theorem dX12_send_190 : decode cX12_send 190 = .ok (.iload 7, 2) := by decide +kernel
theorem dX12_send_192 : decode cX12_send 192 = .ok (.bipush 23, 2) := by decide +kernel
theorem dX12_send_194 : decode cX12_send 194 = .ok (.iadd, 1) := by decide +kernel
theorem dX12_send_195 : decode cX12_send 195 = .ok (.iconst 0, 1) := by decide +kernel
theorem dX12_send_196 : decode cX12_send 196 = .ok (.iastore, 1) := by decide +kernel
theorem dX12_send_197 : decode cX12_send 197 = .ok (.aload_n 0, 1) := by decide +kernel
theorem dX12_send_198 : decode cX12_send 198 = .ok (.iload 7, 2) := by decide +kernel
theorem dX12_send_200 : decode cX12_send 200 = .ok (.invokevirtual 68, 3) := by decide +kernel
theorem dX12_send_203 : decode cX12_send 203 = .ok (.aload_n 0, 1) := by decide +kernel
theorem dX12_send_204 : decode cX12_send 204 = .ok (.getfield 28, 3) := by decide +kernel
theorem dX12_send_207 : decode cX12_send 207 = .ok (.iload_n 1, 1) := by decide +kernel
theorem dX12_send_208 : decode cX12_send 208 = .ok (.dup2, 1) := by decide +kernel
theorem dX12_send_209 : decode cX12_send 209 = .ok (.iaload, 1) := by decide +kernel
theorem dX12_send_210 : decode cX12_send 210 = .ok (.iconst 1, 1) := by decide +kernel
theorem dX12_send_211 : decode cX12_send 211 = .ok (.iadd, 1) := by decide +kernel
theorem dX12_send_212 : decode cX12_send 212 = .ok (.iastore, 1) := by decide +kernel
theorem dX12_send_213 : decode cX12_send 213 = .ok (.aload_n 0, 1) := by decide +kernel
theorem dX12_send_214 : decode cX12_send 214 = .ok (.getfield 28, 3) := by decide +kernel
theorem dX12_send_217 : decode cX12_send 217 = .ok (.iload_n 1, 1) := by decide +kernel
theorem dX12_send_218 : decode cX12_send 218 = .ok (.iaload, 1) := by decide +kernel
theorem dX12_send_219 : decode cX12_send 219 = .ok (.ireturn, 1) := by decide +kernel
theorem dX12_send_113 : decode cX12_send 113 = .ok (.sipush 128, 3) := by decide +kernel
theorem dX12_send_116 : decode cX12_send 116 = .ok (.goto 4, 3) := by decide +kernel
theorem zl_X9_105 : zm_F zk_E RX9 105 9 19 := ⟨RX9, TX9, 20, rfl, zk_i9, by decide, zk_b2 220 (by decide +kernel) rfl⟩
theorem zt_9_19 : zm_T zk_E RX9 9 19 .int false := ⟨RX9, TX9, 20, tyX9, rfl, tyX9_ok, nmX9, rfl, rfl, rfl⟩
theorem zl_X9_118 : zm_L zk_E RX9 118 yX9_fail (.code yX9_fail cX9_fail 2 (some .int)) 1 ∧ Cond.instanceMethod yX9_fail ∈ zk_E.2.2.1 ∧ Cond.selects yX9_fail.cls yX9_fail yX9_fail ∈ zk_E.2.2.1 := ⟨⟨zk_b12 127 (by decide +kernel) rfl, zk_b1 9 (by decide +kernel) rfl, zk_b12 124 (by decide +kernel) rfl, by decide +kernel, by decide +kernel, by decide +kernel⟩, zk_b12 126 (by decide +kernel) rfl, zk_s9 (q := (yX9_fail, 20)) 9 (by decide +kernel)⟩
theorem zl_X9_132 : zm_L zk_E RX9 132 yJ9_min_7cf53 (.code yJ9_min_7cf53 cJ9_min_7cf53 2 (some .int)) 2 ∧ Cond.static yJ9_min_7cf53 ∈ zk_E.2.2.1 := ⟨⟨zk_b4 215 (by decide +kernel) rfl, zk_b1 25 (by decide +kernel) rfl, zk_b12 136 (by decide +kernel) rfl, by decide +kernel, by decide +kernel, by decide +kernel⟩, zk_b4 214 (by decide +kernel) rfl⟩
theorem zl_X9_137 : zm_L zk_E RX9 137 yJ9_max_7cf53 (.code yJ9_max_7cf53 cJ9_max_7cf53 2 (some .int)) 2 ∧ Cond.static yJ9_max_7cf53 ∈ zk_E.2.2.1 := ⟨⟨zk_b4 218 (by decide +kernel) rfl, zk_b1 25 (by decide +kernel) rfl, zk_b12 137 (by decide +kernel) rfl, by decide +kernel, by decide +kernel, by decide +kernel⟩, zk_b4 217 (by decide +kernel) rfl⟩
theorem zl_X9_57 : zm_F zk_E RX9 57 9 17 := ⟨RX9, TX9, 20, rfl, zk_i9, by decide, zk_b2 217 (by decide +kernel) rfl⟩
theorem zl_X9_112 : zm_L zk_E RX9 112 yX9_countFailure (.code yX9_countFailure cX9_countFailure 2 none) 1 ∧ Cond.instanceMethod yX9_countFailure ∈ zk_E.2.2.1 ∧ Cond.selects yX9_countFailure.cls yX9_countFailure yX9_countFailure ∈ zk_E.2.2.1 := ⟨⟨zk_b12 166 (by decide +kernel) rfl, zk_b1 9 (by decide +kernel) rfl, zk_b12 163 (by decide +kernel) rfl, by decide +kernel, by decide +kernel, by decide +kernel⟩, zk_b12 165 (by decide +kernel) rfl, zk_s9 (q := (yX9_countFailure, 20)) 13 (by decide +kernel)⟩
theorem zl_X9_38 : zm_F zk_E RX9 38 9 9 := ⟨RX9, TX9, 20, rfl, zk_i9, by decide, zk_b2 202 (by decide +kernel) rfl⟩
theorem zl_X9_21 : zm_F zk_E RX9 21 9 4 := ⟨RX9, TX9, 20, rfl, zk_i9, by decide, zk_b2 194 (by decide +kernel) rfl⟩
theorem zl_X10_55 : zm_FN zk_E RX10 55 2 6 := ⟨RX2, TX2, 19, "TowerHouse", rfl, zk_i2, by decide, zk_n1 94 (by decide +kernel) rfl⟩
theorem zl_X10_58 : zm_L zk_E RX10 58 yX2_wallBeside (.code yX2_wallBeside cX2_wallBeside 4 (some .int)) 2 ∧ Cond.instanceMethod yX2_wallBeside ∈ zk_E.2.2.1 ∧ Cond.selects yX2_wallBeside.cls yX2_wallBeside yX2_wallBeside ∈ zk_E.2.2.1 := ⟨⟨zk_b5 71 (by decide +kernel) rfl, zk_b1 3 (by decide +kernel) rfl, zk_b7 215 (by decide +kernel) rfl, by decide +kernel, by decide +kernel, by decide +kernel⟩, zk_b5 69 (by decide +kernel) rfl, zk_b5 70 (by decide +kernel) rfl⟩
theorem zl_X10_40 : zm_F zk_E RX10 40 10 0 := ⟨RX10, TX10, 11, rfl, zk_i10, by decide, zk_b2 20 (by decide +kernel) rfl⟩
theorem zl_X10_62 : zm_L zk_E RX10 62 yX2_distanceBeside (.code yX2_distanceBeside cX2_distanceBeside 5 (some .int)) 3 ∧ Cond.instanceMethod yX2_distanceBeside ∈ zk_E.2.2.1 ∧ Cond.selects yX2_distanceBeside.cls yX2_distanceBeside yX2_distanceBeside ∈ zk_E.2.2.1 := ⟨⟨zk_b7 219 (by decide +kernel) rfl, zk_b1 3 (by decide +kernel) rfl, zk_b7 216 (by decide +kernel) rfl, by decide +kernel, by decide +kernel, by decide +kernel⟩, zk_b7 217 (by decide +kernel) rfl, zk_b7 218 (by decide +kernel) rfl⟩
theorem zl_X10_66 : zm_L zk_E RX10 66 yX8_hasDoorAt (.code yX8_hasDoorAt cX8_hasDoorAt 4 (some .boolean)) 2 ∧ Cond.instanceMethod yX8_hasDoorAt ∈ zk_E.2.2.1 ∧ Cond.selects yX8_hasDoorAt.cls yX8_hasDoorAt yX8_hasDoorAt ∈ zk_E.2.2.1 := ⟨⟨zk_b7 227 (by decide +kernel) rfl, zk_b1 2 (by decide +kernel) rfl, zk_b7 224 (by decide +kernel) rfl, by decide +kernel, by decide +kernel, by decide +kernel⟩, zk_b7 225 (by decide +kernel) rfl, zk_b7 226 (by decide +kernel) rfl⟩
theorem zl_X10_77 : zm_L zk_E RX10 77 yX2_cellBeside (.code yX2_cellBeside cX2_cellBeside 5 (some .int)) 2 ∧ Cond.instanceMethod yX2_cellBeside ∈ zk_E.2.2.1 ∧ Cond.selects yX2_cellBeside.cls yX2_cellBeside yX2_cellBeside ∈ zk_E.2.2.1 := ⟨⟨zk_b5 83 (by decide +kernel) rfl, zk_b1 3 (by decide +kernel) rfl, zk_b7 210 (by decide +kernel) rfl, by decide +kernel, by decide +kernel, by decide +kernel⟩, zk_b5 81 (by decide +kernel) rfl, zk_b5 82 (by decide +kernel) rfl⟩
theorem zl_X10_70 : zm_L zk_E RX10 70 yX10_isInSpace (.code yX10_isInSpace cX10_isInSpace 2 (some .boolean)) 1 ∧ Cond.instanceMethod yX10_isInSpace ∈ zk_E.2.2.1 ∧ Cond.selects yX10_isInSpace.cls yX10_isInSpace yX10_isInSpace ∈ zk_E.2.2.1 := ⟨⟨zk_b7 205 (by decide +kernel) rfl, zk_b1 6 (by decide +kernel) rfl, zk_b7 202 (by decide +kernel) rfl, by decide +kernel, by decide +kernel, by decide +kernel⟩, zk_b7 204 (by decide +kernel) rfl, zk_s4 (q := (yX10_isInSpace, 11)) 4 (by decide +kernel)⟩
theorem zl_X10_80 : zm_L zk_E RX10 80 yX10_canGo (.code yX10_canGo cX10_canGo 4 (some .boolean)) 2 ∧ Cond.instanceMethod yX10_canGo ∈ zk_E.2.2.1 ∧ Cond.selects yX10_canGo.cls yX10_canGo yX10_canGo ∈ zk_E.2.2.1 := ⟨⟨zk_b7 214 (by decide +kernel) rfl, zk_b1 6 (by decide +kernel) rfl, zk_b7 211 (by decide +kernel) rfl, by decide +kernel, by decide +kernel, by decide +kernel⟩, zk_b7 213 (by decide +kernel) rfl, zk_s4 (q := (yX10_canGo, 11)) 6 (by decide +kernel)⟩
theorem zl_X10_21 : zm_F zk_E RX10 21 10 5 := ⟨RX10, TX10, 11, rfl, zk_i10, by decide, zk_b2 27 (by decide +kernel) rfl⟩
theorem zl_X10_74 : zm_L zk_E RX10 74 yX10_isBesideOutside (.code yX10_isBesideOutside cX10_isBesideOutside 3 (some .boolean)) 1 ∧ Cond.instanceMethod yX10_isBesideOutside ∈ zk_E.2.2.1 ∧ Cond.selects yX10_isBesideOutside.cls yX10_isBesideOutside yX10_isBesideOutside ∈ zk_E.2.2.1 := ⟨⟨zk_b7 209 (by decide +kernel) rfl, zk_b1 6 (by decide +kernel) rfl, zk_b7 206 (by decide +kernel) rfl, by decide +kernel, by decide +kernel, by decide +kernel⟩, zk_b7 208 (by decide +kernel) rfl, zk_s4 (q := (yX10_isBesideOutside, 11)) 5 (by decide +kernel)⟩
theorem zl_X10_24 : zm_F zk_E RX10 24 10 6 := ⟨RX10, TX10, 11, rfl, zk_i10, by decide, zk_b2 28 (by decide +kernel) rfl⟩
theorem zl_X10_11 : zm_F zk_E RX10 11 10 2 := ⟨RX10, TX10, 11, rfl, zk_i10, by decide, zk_b2 22 (by decide +kernel) rfl⟩
theorem zl_X10_83 : zm_F zk_E RX10 83 10 4 := ⟨RX10, TX10, 11, rfl, zk_i10, by decide, zk_b2 25 (by decide +kernel) rfl⟩
theorem zt_10_4 : zm_T zk_E RX10 10 4 .int false := ⟨RX10, TX10, 11, tyX10, rfl, tyX10_ok, nmX10, rfl, rfl, rfl⟩
theorem zl_X10_17 : zm_F zk_E RX10 17 10 3 := ⟨RX10, TX10, 11, rfl, zk_i10, by decide, zk_b2 23 (by decide +kernel) rfl⟩
theorem zl_X10_86 : zm_L zk_E RX10 86 yX10_addSmoke (.code yX10_addSmoke cX10_addSmoke 3 (some .boolean)) 1 ∧ Cond.instanceMethod yX10_addSmoke ∈ zk_E.2.2.1 ∧ Cond.selects yX10_addSmoke.cls yX10_addSmoke yX10_addSmoke ∈ zk_E.2.2.1 := ⟨⟨zk_b12 35 (by decide +kernel) rfl, zk_b1 6 (by decide +kernel) rfl, zk_b12 72 (by decide +kernel) rfl, by decide +kernel, by decide +kernel, by decide +kernel⟩, zk_b12 33 (by decide +kernel) rfl, zk_b12 34 (by decide +kernel) rfl⟩
theorem zl_X10_106 : zm_L zk_E RX10 106 yX2_cellNumber (.code yX2_cellNumber cX2_cellNumber 2 (some .int)) 2 ∧ Cond.static yX2_cellNumber ∈ zk_E.2.2.1 := ⟨⟨zk_b5 63 (by decide +kernel) rfl, zk_b1 3 (by decide +kernel) rfl, zk_b12 55 (by decide +kernel) rfl, by decide +kernel, by decide +kernel, by decide +kernel⟩, zk_b5 62 (by decide +kernel) rfl⟩
theorem zl_X10_93 : zm_F zk_E RX10 93 10 7 := ⟨RX10, TX10, 11, rfl, zk_i10, by decide, zk_b2 29 (by decide +kernel) rfl⟩
theorem zl_X10_96 : zm_L zk_E RX10 96 yX10_cellOf (.code yX10_cellOf cX10_cellOf 3 (some .int)) 1 ∧ Cond.instanceMethod yX10_cellOf ∈ zk_E.2.2.1 ∧ Cond.selects yX10_cellOf.cls yX10_cellOf yX10_cellOf ∈ zk_E.2.2.1 := ⟨⟨zk_b12 54 (by decide +kernel) rfl, zk_b1 6 (by decide +kernel) rfl, zk_b12 51 (by decide +kernel) rfl, by decide +kernel, by decide +kernel, by decide +kernel⟩, zk_b12 53 (by decide +kernel) rfl, zk_s9 (q := (yX10_cellOf, 11)) 0 (by decide +kernel)⟩
theorem zl_X10_99 : zm_L zk_E RX10 99 yX10_isCaught (.code yX10_isCaught cX10_isCaught 2 (some .boolean)) 1 ∧ Cond.instanceMethod yX10_isCaught ∈ zk_E.2.2.1 ∧ Cond.selects yX10_isCaught.cls yX10_isCaught yX10_isCaught ∈ zk_E.2.2.1 := ⟨⟨zk_b8 189 (by decide +kernel) rfl, zk_b1 6 (by decide +kernel) rfl, zk_b12 56 (by decide +kernel) rfl, by decide +kernel, by decide +kernel, by decide +kernel⟩, zk_b8 187 (by decide +kernel) rfl, zk_b8 188 (by decide +kernel) rfl⟩
theorem zl_X10_89 : zm_L zk_E RX10 89 yX10_countInCell (.code yX10_countInCell cX10_countInCell 4 (some .int)) 1 ∧ Cond.instanceMethod yX10_countInCell ∈ zk_E.2.2.1 ∧ Cond.selects yX10_countInCell.cls yX10_countInCell yX10_countInCell ∈ zk_E.2.2.1 := ⟨⟨zk_b12 50 (by decide +kernel) rfl, zk_b1 6 (by decide +kernel) rfl, zk_b12 47 (by decide +kernel) rfl, by decide +kernel, by decide +kernel, by decide +kernel⟩, zk_b12 49 (by decide +kernel) rfl, zk_s8 (q := (yX10_countInCell, 11)) 15 (by decide +kernel)⟩
theorem zt_10_7 : zm_T zk_E RX10 10 7 .int false := ⟨RX10, TX10, 11, tyX10, rfl, tyX10_ok, nmX10, rfl, rfl, rfl⟩
theorem zl_X10_109 : zm_L zk_E RX10 109 yX10_roomOf (.code yX10_roomOf cX10_roomOf 2 (some .int)) 1 ∧ Cond.instanceMethod yX10_roomOf ∈ zk_E.2.2.1 ∧ Cond.selects yX10_roomOf.cls yX10_roomOf yX10_roomOf ∈ zk_E.2.2.1 := ⟨⟨zk_b9 31 (by decide +kernel) rfl, zk_b1 6 (by decide +kernel) rfl, zk_b9 73 (by decide +kernel) rfl, by decide +kernel, by decide +kernel, by decide +kernel⟩, zk_b9 29 (by decide +kernel) rfl, zk_b9 30 (by decide +kernel) rfl⟩
theorem zl_X10_112 : zm_L zk_E RX10 112 yX10_zoneOf (.code yX10_zoneOf cX10_zoneOf 2 (some .int)) 1 ∧ Cond.instanceMethod yX10_zoneOf ∈ zk_E.2.2.1 ∧ Cond.selects yX10_zoneOf.cls yX10_zoneOf yX10_zoneOf ∈ zk_E.2.2.1 := ⟨⟨zk_b8 221 (by decide +kernel) rfl, zk_b1 6 (by decide +kernel) rfl, zk_b9 74 (by decide +kernel) rfl, by decide +kernel, by decide +kernel, by decide +kernel⟩, zk_b8 219 (by decide +kernel) rfl, zk_b8 220 (by decide +kernel) rfl⟩
theorem zl_X10_115 : zm_L zk_E RX10 115 yX10_isFreeInside (.code yX10_isFreeInside cX10_isFreeInside 2 (some .boolean)) 1 ∧ Cond.instanceMethod yX10_isFreeInside ∈ zk_E.2.2.1 ∧ Cond.selects yX10_isFreeInside.cls yX10_isFreeInside yX10_isFreeInside ∈ zk_E.2.2.1 := ⟨⟨zk_b12 103 (by decide +kernel) rfl, zk_b1 6 (by decide +kernel) rfl, zk_b12 100 (by decide +kernel) rfl, by decide +kernel, by decide +kernel, by decide +kernel⟩, zk_b12 102 (by decide +kernel) rfl, zk_s9 (q := (yX10_isFreeInside, 11)) 5 (by decide +kernel)⟩
theorem zl_X10_139 : Cond.constant RX10 139 (2147483647 : Int32) ∈ zk_E.2.2.1 := zk_b13 32 (by decide +kernel) rfl
theorem zl_X10_32 : zm_F zk_E RX10 32 10 9 := ⟨RX10, TX10, 11, rfl, zk_i10, by decide, zk_b2 32 (by decide +kernel) rfl⟩
theorem zl_X10_134 : zm_L zk_E RX10 134 yX10_urgencyOf (.code yX10_urgencyOf cX10_urgencyOf 3 (some .int)) 1 ∧ Cond.instanceMethod yX10_urgencyOf ∈ zk_E.2.2.1 ∧ Cond.selects yX10_urgencyOf.cls yX10_urgencyOf yX10_urgencyOf ∈ zk_E.2.2.1 := ⟨⟨zk_b13 31 (by decide +kernel) rfl, zk_b1 6 (by decide +kernel) rfl, zk_b13 28 (by decide +kernel) rfl, by decide +kernel, by decide +kernel, by decide +kernel⟩, zk_b13 30 (by decide +kernel) rfl, zk_s11 (q := (yX10_urgencyOf, 11)) 2 (by decide +kernel)⟩
theorem zl_X10_150 : zm_FN zk_E RX10 150 8 2 := ⟨RX8, TX8, 4, "TowerHouse", rfl, zk_i8, by decide, zk_n1 63 (by decide +kernel) rfl⟩
theorem zl_X10_153 : zm_L zk_E RX10 153 yX8_isDoorAt (.code yX8_isDoorAt cX8_isDoorAt 4 (some .boolean)) 3 ∧ Cond.instanceMethod yX8_isDoorAt ∈ zk_E.2.2.1 ∧ Cond.selects yX8_isDoorAt.cls yX8_isDoorAt yX8_isDoorAt ∈ zk_E.2.2.1 := ⟨⟨zk_b7 231 (by decide +kernel) rfl, zk_b1 2 (by decide +kernel) rfl, zk_b13 45 (by decide +kernel) rfl, by decide +kernel, by decide +kernel, by decide +kernel⟩, zk_b7 229 (by decide +kernel) rfl, zk_b7 230 (by decide +kernel) rfl⟩
theorem zl_X10_37 : zm_F zk_E RX10 37 10 10 := ⟨RX10, TX10, 11, rfl, zk_i10, by decide, zk_b2 33 (by decide +kernel) rfl⟩
theorem zl_X10_157 : zm_L zk_E RX10 157 yX8_rateOf (.code yX8_rateOf cX8_rateOf 3 (some .int)) 2 ∧ Cond.instanceMethod yX8_rateOf ∈ zk_E.2.2.1 ∧ Cond.selects yX8_rateOf.cls yX8_rateOf yX8_rateOf ∈ zk_E.2.2.1 := ⟨⟨zk_b13 49 (by decide +kernel) rfl, zk_b1 2 (by decide +kernel) rfl, zk_b13 46 (by decide +kernel) rfl, by decide +kernel, by decide +kernel, by decide +kernel⟩, zk_b13 47 (by decide +kernel) rfl, zk_b13 48 (by decide +kernel) rfl⟩
theorem zl_X10_160 : zm_L zk_E RX10 160 yX10_putInto (.code yX10_putInto cX10_putInto 8 none) 5 ∧ Cond.instanceMethod yX10_putInto ∈ zk_E.2.2.1 ∧ Cond.selects yX10_putInto.cls yX10_putInto yX10_putInto ∈ zk_E.2.2.1 := ⟨⟨zk_b8 197 (by decide +kernel) rfl, zk_b1 6 (by decide +kernel) rfl, zk_b13 54 (by decide +kernel) rfl, by decide +kernel, by decide +kernel, by decide +kernel⟩, zk_b8 195 (by decide +kernel) rfl, zk_b8 196 (by decide +kernel) rfl⟩
theorem zl_X10_140 : zm_L zk_E RX10 140 yX10_isBetter (.code yX10_isBetter cX10_isBetter 5 (some .boolean)) 2 ∧ Cond.instanceMethod yX10_isBetter ∈ zk_E.2.2.1 ∧ Cond.selects yX10_isBetter.cls yX10_isBetter yX10_isBetter ∈ zk_E.2.2.1 := ⟨⟨zk_b13 40 (by decide +kernel) rfl, zk_b1 6 (by decide +kernel) rfl, zk_b13 37 (by decide +kernel) rfl, by decide +kernel, by decide +kernel, by decide +kernel⟩, zk_b13 39 (by decide +kernel) rfl, zk_s11 (q := (yX10_isBetter, 11)) 4 (by decide +kernel)⟩
theorem zl_X10_143 : zm_L zk_E RX10 143 yX10_goesThrough (.code yX10_goesThrough cX10_goesThrough 6 (some .boolean)) 2 ∧ Cond.instanceMethod yX10_goesThrough ∈ zk_E.2.2.1 ∧ Cond.selects yX10_goesThrough.cls yX10_goesThrough yX10_goesThrough ∈ zk_E.2.2.1 := ⟨⟨zk_b13 44 (by decide +kernel) rfl, zk_b1 6 (by decide +kernel) rfl, zk_b13 41 (by decide +kernel) rfl, by decide +kernel, by decide +kernel, by decide +kernel⟩, zk_b13 43 (by decide +kernel) rfl, zk_s11 (q := (yX10_goesThrough, 11)) 5 (by decide +kernel)⟩
theorem zl_X10_146 : zm_L zk_E RX10 146 yX10_step (.code yX10_step cX10_step 4 none) 3 ∧ Cond.instanceMethod yX10_step ∈ zk_E.2.2.1 ∧ Cond.selects yX10_step.cls yX10_step yX10_step ∈ zk_E.2.2.1 := ⟨⟨zk_b13 53 (by decide +kernel) rfl, zk_b1 6 (by decide +kernel) rfl, zk_b13 50 (by decide +kernel) rfl, by decide +kernel, by decide +kernel, by decide +kernel⟩, zk_b13 52 (by decide +kernel) rfl, zk_s11 (q := (yX10_step, 11)) 6 (by decide +kernel)⟩
theorem zl_X10_118 : zm_FN zk_E RX10 118 8 0 := ⟨RX8, TX8, 4, "TowerHouse", rfl, zk_i8, by decide, zk_n1 57 (by decide +kernel) rfl⟩
theorem zl_X10_121 : zm_L zk_E RX10 121 yJ7_fill_53178 (.code yJ7_fill_53178 cJ7_fill_53178 4 none) 2 ∧ Cond.static yJ7_fill_53178 ∈ zk_E.2.2.1 := ⟨⟨zk_b5 43 (by decide +kernel) rfl, zk_b1 26 (by decide +kernel) rfl, zk_b13 23 (by decide +kernel) rfl, by decide +kernel, by decide +kernel, by decide +kernel⟩, zk_b5 42 (by decide +kernel) rfl⟩
theorem zl_X10_127 : zm_L zk_E RX10 127 yX10_lineUp (.code yX10_lineUp cX10_lineUp 6 (some .int)) 1 ∧ Cond.instanceMethod yX10_lineUp ∈ zk_E.2.2.1 ∧ Cond.selects yX10_lineUp.cls yX10_lineUp yX10_lineUp ∈ zk_E.2.2.1 := ⟨⟨zk_b13 27 (by decide +kernel) rfl, zk_b1 6 (by decide +kernel) rfl, zk_b13 24 (by decide +kernel) rfl, by decide +kernel, by decide +kernel, by decide +kernel⟩, zk_b13 26 (by decide +kernel) rfl, zk_s11 (q := (yX10_lineUp, 11)) 1 (by decide +kernel)⟩
theorem zl_X10_130 : zm_L zk_E RX10 130 yX10_moveOne (.code yX10_moveOne cX10_moveOne 5 none) 2 ∧ Cond.instanceMethod yX10_moveOne ∈ zk_E.2.2.1 ∧ Cond.selects yX10_moveOne.cls yX10_moveOne yX10_moveOne ∈ zk_E.2.2.1 := ⟨⟨zk_b13 36 (by decide +kernel) rfl, zk_b1 6 (by decide +kernel) rfl, zk_b13 33 (by decide +kernel) rfl, by decide +kernel, by decide +kernel, by decide +kernel⟩, zk_b13 35 (by decide +kernel) rfl, zk_s11 (q := (yX10_moveOne, 11)) 3 (by decide +kernel)⟩
theorem zl_X12_31 : zm_F zk_E RX12 31 12 8 := ⟨RX12, TX12, 29, rfl, zk_i12, by decide, zk_b15 95 (by decide +kernel) rfl⟩
theorem zl_X12_28 : zm_F zk_E RX12 28 12 7 := ⟨RX12, TX12, 29, rfl, zk_i12, by decide, zk_b15 93 (by decide +kernel) rfl⟩
theorem zl_X12_18 : zm_F zk_E RX12 18 12 4 := ⟨RX12, TX12, 29, rfl, zk_i12, by decide, zk_b15 87 (by decide +kernel) rfl⟩
theorem zl_X12_68 : zm_L zk_E RX12 68 yX12_check (.code yX12_check cX12_check 5 none) 1 ∧ Cond.instanceMethod yX12_check ∈ zk_E.2.2.1 ∧ Cond.selects yX12_check.cls yX12_check yX12_check ∈ zk_E.2.2.1 := ⟨⟨zk_b20 51 (by decide +kernel) rfl, zk_b1 18 (by decide +kernel) rfl, zk_b20 48 (by decide +kernel) rfl, by decide +kernel, by decide +kernel, by decide +kernel⟩, zk_b20 50 (by decide +kernel) rfl, zk_s17 (q := (yX12_check, 29)) 5 (by decide +kernel)⟩
def zf_X9_fail (N : Nat) (a0 : Nat) (i1 : Int32) (S : zm_S) : Option (Int32 × zm_S) := (zp S a0 9 19 (.int i1)).bind (fun S1 => some ((0 : Int32), S1))
set_option maxHeartbeats 4000000 in
set_option maxRecDepth 100000 in
theorem zt_X9_fail {l : Launch} {V : zm_V} {N : Nat} {S : zm_S} {out : (Int32 × zm_S)} {d : Nat} {a0 : Nat} {i1 : Int32} (hd : 1 ≤ d) (h : zf_X9_fail N a0 i1 S = some out) : zm_Met l zk_E V yX9_fail (.code yX9_fail cX9_fail 2 (some .int)) d [.ref a0, .int i1] S 0 0 (zo_i out) zo_x := by
  refine zm_of (by decide +kernel) (Nat.le_of_ble_eq_true rfl) ?_
  intro p e R s m args below meth c hRR hX hr hxt
  have hR : R.frames = d ∧ R.locals = 64 * d := by rw [hRR]; exact ⟨rfl, rfl⟩
  have hX : zm_X p R s m args meth c RX9 "fail" cX9_fail 2 zk_E V 0 0 := hX
  unfold zf_X9_fail at h
  refine zw_sub (lv' := [(0, .ref a0), (1, .int i1)]) (List.forall_mem_cons.mpr ⟨rfl, (List.forall_mem_cons.mpr ⟨rfl, zs_nil⟩)⟩) ?_
  refine zw_aload_n hX dX9_fail_0 rfl ?_
  refine zw_iload_n hX dX9_fail_1 rfl ?_
  obtain ⟨S1, g, h⟩ := zb_some h
  refine zw_putv hX zl_X9_105 zt_9_19 dX9_fail_2 rfl rfl g ?_
  refine zw_iconst (v := (0 : Int32)) hX dX9_fail_5 (by decide) ?_
  obtain rfl := Option.some.inj h
  exact zw_iret hX hr dX9_fail_6 rfl ⟨rfl, rfl⟩
def zf_X9_inputOf (N : Nat) (a0 : Nat) (i1 : Int32) (i2 : Int32) (S : zm_S) : Option (Int32 × zm_S) := (zg_r S a0 9 5).bind (fun b1 => (za_r S b1 i1).bind (fun b2 => (za_x S 0 b2 i2).bind (fun v3 => if v3 = (-1 : Int32) then some ((0 : Int32), S) else (zg_r S a0 9 6).bind (fun b4 => (za_x S 0 b4 v3).bind (fun v5 => some (v5, S))))))
set_option maxHeartbeats 4000000 in
set_option maxRecDepth 100000 in
theorem zt_X9_inputOf {l : Launch} {V : zm_V} {N : Nat} {S : zm_S} {out : (Int32 × zm_S)} {d : Nat} {a0 : Nat} {i1 : Int32} {i2 : Int32} (hd : 1 ≤ d) (h : zf_X9_inputOf N a0 i1 i2 S = some out) : zm_Met l zk_E V yX9_inputOf (.code yX9_inputOf cX9_inputOf 4 (some .int)) d [.ref a0, .int i1, .int i2] S 0 0 (zo_i out) zo_x := by
  refine zm_of (by decide +kernel) (Nat.le_of_ble_eq_true rfl) ?_
  intro p e R s m args below meth c hRR hX hr hxt
  have hR : R.frames = d ∧ R.locals = 64 * d := by rw [hRR]; exact ⟨rfl, rfl⟩
  have hX : zm_X p R s m args meth c RX9 "inputOf" cX9_inputOf 4 zk_E V 0 0 := hX
  unfold zf_X9_inputOf at h
  refine zw_sub (lv' := [(0, .ref a0), (1, .int i1), (2, .int i2)]) (List.forall_mem_cons.mpr ⟨rfl, (List.forall_mem_cons.mpr ⟨rfl, (List.forall_mem_cons.mpr ⟨rfl, zs_nil⟩)⟩)⟩) ?_
  refine zw_aload_n hX dX9_inputOf_0 rfl ?_
  obtain ⟨b1, g, h⟩ := zb_some h
  refine zw_getr hX zl_X9_26 dX9_inputOf_1 g ?_
  refine zw_iload_n hX dX9_inputOf_4 rfl ?_
  obtain ⟨b2, g, h⟩ := zb_some h
  refine zw_xr hX dX9_inputOf_5 g ?_
  refine zw_iload_n hX dX9_inputOf_6 rfl ?_
  obtain ⟨v3, g, h⟩ := zb_some h
  refine zw_xi hX dX9_inputOf_7 g ?_
  refine zw_istore_n hX dX9_inputOf_8 (by decide) ?_
  refine zw_iload_n hX dX9_inputOf_9 rfl ?_
  refine zw_iconst (v := (-1 : Int32)) hX dX9_inputOf_10 (by decide) ?_
  refine zw_icmp_ne (tgt := 18) hX dX9_inputOf_11 (by decide) (fun c11 => ?_) (fun c11 => ?_)
  · rw [if_neg c11] at h
    refine zw_aload_n hX dX9_inputOf_18 rfl ?_
    obtain ⟨b4, g, h⟩ := zb_some h
    refine zw_getr hX zl_X9_29 dX9_inputOf_19 g ?_
    refine zw_iload_n hX dX9_inputOf_22 rfl ?_
    obtain ⟨v5, g, h⟩ := zb_some h
    refine zw_xi hX dX9_inputOf_23 g ?_
    obtain rfl := Option.some.inj h
    exact zw_iret hX hr dX9_inputOf_24 rfl ⟨rfl, rfl⟩
  · rw [if_pos c11] at h
    refine zw_iconst (v := (0 : Int32)) hX dX9_inputOf_14 (by decide) ?_
    refine zw_goto (tgt := 24) hX dX9_inputOf_15 (by decide) ?_
    obtain rfl := Option.some.inj h
    exact zw_iret hX hr dX9_inputOf_24 rfl ⟨rfl, rfl⟩
def zf_X9_reckonPlain (N : Nat) (a0 : Nat) (i1 : Int32) (i2 : Int32) (i3 : Int32) (i4 : Int32) (S : zm_S) : Option (Int32 × zm_S) := if (i1).toInt = 2 then some ((i2 + i3), S) else if (i1).toInt = 3 then some ((i2 - i3), S) else if (i1).toInt = 4 then some ((i2 * i3), S) else if (i1).toInt = 5 then if i3 = 0 then (zi S a0 9).bind (fun _ => (zf_X9_fail N a0 (1 : Int32) S).bind (fun r3 => some (r3.1, r3.2))) else if i3 = 0 then none else some ((i2 / i3), S) else if (i1).toInt = 6 then if i3 = 0 then (zi S a0 9).bind (fun _ => (zf_X9_fail N a0 (1 : Int32) S).bind (fun r6 => some (r6.1, r6.2))) else if i3 = 0 then none else some ((i2 - (i3 * (i2 / i3))), S) else if (i1).toInt = 7 then (zf_J9_min_7cf53 N i2 i3 S).bind (fun r9 => some (r9.1, r9.2)) else if (i1).toInt = 8 then (zf_J9_max_7cf53 N i2 i3 S).bind (fun r12 => some (r12.1, r12.2)) else if (i1).toInt = 9 then if i3 ≤ i2 then some ((0 : Int32), S) else some ((1 : Int32), S) else if (i1).toInt = 10 then if i2 = i3 then some ((1 : Int32), S) else some ((0 : Int32), S) else if (i1).toInt = 11 then if i2 = 0 then some ((0 : Int32), S) else if i3 = 0 then some ((0 : Int32), S) else some ((1 : Int32), S) else if (i1).toInt = 12 then if i2 = 0 then if i3 = 0 then some ((0 : Int32), S) else some ((1 : Int32), S) else some ((1 : Int32), S) else if (i1).toInt = 13 then if i2 = 0 then some ((1 : Int32), S) else some ((0 : Int32), S) else if i2 = 0 then some (i4, S) else some (i3, S)
set_option maxHeartbeats 4000000 in
set_option maxRecDepth 100000 in
theorem zt_X9_reckonPlain {l : Launch} {V : zm_V} {N : Nat} {S : zm_S} {out : (Int32 × zm_S)} {d : Nat} {a0 : Nat} {i1 : Int32} {i2 : Int32} {i3 : Int32} {i4 : Int32} (hd : 2 ≤ d) (h : zf_X9_reckonPlain N a0 i1 i2 i3 i4 S = some out) : zm_Met l zk_E V yX9_reckonPlain (.code yX9_reckonPlain cX9_reckonPlain 5 (some .int)) d [.ref a0, .int i1, .int i2, .int i3, .int i4] S 0 0 (zo_i out) zo_x := by
  refine zm_of (by decide +kernel) (Nat.le_of_ble_eq_true rfl) ?_
  intro p e R s m args below meth c hRR hX hr hxt
  have hR : R.frames = d ∧ R.locals = 64 * d := by rw [hRR]; exact ⟨rfl, rfl⟩
  have hX : zm_X p R s m args meth c RX9 "reckonPlain" cX9_reckonPlain 5 zk_E V 0 0 := hX
  unfold zf_X9_reckonPlain at h
  refine zw_sub (lv' := [(0, .ref a0), (1, .int i1), (2, .int i2), (3, .int i3), (4, .int i4)]) (List.forall_mem_cons.mpr ⟨rfl, (List.forall_mem_cons.mpr ⟨rfl, (List.forall_mem_cons.mpr ⟨rfl, (List.forall_mem_cons.mpr ⟨rfl, (List.forall_mem_cons.mpr ⟨rfl, zs_nil⟩)⟩)⟩)⟩)⟩) ?_
  refine zw_iload_n hX dX9_reckonPlain_0 rfl ?_
  by_cases c1_0 : (i1).toInt = 2
  · rw [if_pos c1_0] at h
    refine zw_tableIn (off := 63) (tgt := 64) hX dX9_reckonPlain_1 (by rw [c1_0]; decide) (by rw [c1_0]; decide) (by rw [c1_0]; decide) (by decide) ?_
    refine zw_iload_n hX dX9_reckonPlain_64 rfl ?_
    refine zw_iload_n hX dX9_reckonPlain_65 rfl ?_
    refine zw_iadd hX dX9_reckonPlain_66 ?_
    obtain rfl := Option.some.inj h
    exact zw_iret hX hr dX9_reckonPlain_67 rfl ⟨rfl, rfl⟩
  rw [if_neg c1_0] at h
  by_cases c1_1 : (i1).toInt = 3
  · rw [if_pos c1_1] at h
    refine zw_tableIn (off := 67) (tgt := 68) hX dX9_reckonPlain_1 (by rw [c1_1]; decide) (by rw [c1_1]; decide) (by rw [c1_1]; decide) (by decide) ?_
    refine zw_iload_n hX dX9_reckonPlain_68 rfl ?_
    refine zw_iload_n hX dX9_reckonPlain_69 rfl ?_
    refine zw_isub hX dX9_reckonPlain_70 ?_
    obtain rfl := Option.some.inj h
    exact zw_iret hX hr dX9_reckonPlain_71 rfl ⟨rfl, rfl⟩
  rw [if_neg c1_1] at h
  by_cases c1_2 : (i1).toInt = 4
  · rw [if_pos c1_2] at h
    refine zw_tableIn (off := 71) (tgt := 72) hX dX9_reckonPlain_1 (by rw [c1_2]; decide) (by rw [c1_2]; decide) (by rw [c1_2]; decide) (by decide) ?_
    refine zw_iload_n hX dX9_reckonPlain_72 rfl ?_
    refine zw_iload_n hX dX9_reckonPlain_73 rfl ?_
    refine zw_imul hX dX9_reckonPlain_74 ?_
    obtain rfl := Option.some.inj h
    exact zw_iret hX hr dX9_reckonPlain_75 rfl ⟨rfl, rfl⟩
  rw [if_neg c1_2] at h
  by_cases c1_3 : (i1).toInt = 5
  · rw [if_pos c1_3] at h
    refine zw_tableIn (off := 75) (tgt := 76) hX dX9_reckonPlain_1 (by rw [c1_3]; decide) (by rw [c1_3]; decide) (by rw [c1_3]; decide) (by decide) ?_
    refine zw_iload_n hX dX9_reckonPlain_76 rfl ?_
    refine zw_if_ne (tgt := 88) hX dX9_reckonPlain_77 (by decide) (fun c77 => ?_) (fun c77 => ?_)
    · rw [if_neg c77] at h
      refine zw_iload_n hX dX9_reckonPlain_88 rfl ?_
      refine zw_iload_n hX dX9_reckonPlain_89 rfl ?_
      by_cases c0 : i3 = 0
      · rw [if_pos c0] at h
        cases h
      rw [if_neg c0] at h
      refine zw_idiv hX dX9_reckonPlain_90 c0 ?_
      obtain rfl := Option.some.inj h
      exact zw_iret hX hr dX9_reckonPlain_91 rfl ⟨rfl, rfl⟩
    · rw [if_pos c77] at h
      refine zw_aload_n hX dX9_reckonPlain_80 rfl ?_
      refine zw_iconst (v := (1 : Int32)) hX dX9_reckonPlain_81 (by decide) ?_
      obtain ⟨_, gi, h⟩ := zb_some h
      obtain ⟨r3, g, h⟩ := zb_some h
      refine zc_Vi (as := [.int (1 : Int32)]) hX gi (zt_X9_fail (d := d - 1) (by omega) g) zl_X9_118 rfl dX9_reckonPlain_82 ⟨rfl, rfl, Nat.le_of_ble_eq_true rfl⟩ ⟨by omega, by omega⟩ ?_
      refine zw_goto (tgt := 91) hX dX9_reckonPlain_85 (by decide) ?_
      obtain rfl := Option.some.inj h
      exact zw_iret hX hr dX9_reckonPlain_91 rfl ⟨rfl, rfl⟩
  rw [if_neg c1_3] at h
  by_cases c1_4 : (i1).toInt = 6
  · rw [if_pos c1_4] at h
    refine zw_tableIn (off := 91) (tgt := 92) hX dX9_reckonPlain_1 (by rw [c1_4]; decide) (by rw [c1_4]; decide) (by rw [c1_4]; decide) (by decide) ?_
    refine zw_iload_n hX dX9_reckonPlain_92 rfl ?_
    refine zw_if_ne (tgt := 104) hX dX9_reckonPlain_93 (by decide) (fun c93 => ?_) (fun c93 => ?_)
    · rw [if_neg c93] at h
      refine zw_iload_n hX dX9_reckonPlain_104 rfl ?_
      refine zw_iload_n hX dX9_reckonPlain_105 rfl ?_
      refine zw_iload_n hX dX9_reckonPlain_106 rfl ?_
      refine zw_iload_n hX dX9_reckonPlain_107 rfl ?_
      by_cases c0 : i3 = 0
      · rw [if_pos c0] at h
        cases h
      rw [if_neg c0] at h
      refine zw_idiv hX dX9_reckonPlain_108 c0 ?_
      refine zw_imul hX dX9_reckonPlain_109 ?_
      refine zw_isub hX dX9_reckonPlain_110 ?_
      obtain rfl := Option.some.inj h
      exact zw_iret hX hr dX9_reckonPlain_111 rfl ⟨rfl, rfl⟩
    · rw [if_pos c93] at h
      refine zw_aload_n hX dX9_reckonPlain_96 rfl ?_
      refine zw_iconst (v := (1 : Int32)) hX dX9_reckonPlain_97 (by decide) ?_
      obtain ⟨_, gi, h⟩ := zb_some h
      obtain ⟨r6, g, h⟩ := zb_some h
      refine zc_Vi (as := [.int (1 : Int32)]) hX gi (zt_X9_fail (d := d - 1) (by omega) g) zl_X9_118 rfl dX9_reckonPlain_98 ⟨rfl, rfl, Nat.le_of_ble_eq_true rfl⟩ ⟨by omega, by omega⟩ ?_
      refine zw_goto (tgt := 111) hX dX9_reckonPlain_101 (by decide) ?_
      obtain rfl := Option.some.inj h
      exact zw_iret hX hr dX9_reckonPlain_111 rfl ⟨rfl, rfl⟩
  rw [if_neg c1_4] at h
  by_cases c1_5 : (i1).toInt = 7
  · rw [if_pos c1_5] at h
    refine zw_tableIn (off := 111) (tgt := 112) hX dX9_reckonPlain_1 (by rw [c1_5]; decide) (by rw [c1_5]; decide) (by rw [c1_5]; decide) (by decide) ?_
    refine zw_iload_n hX dX9_reckonPlain_112 rfl ?_
    refine zw_iload_n hX dX9_reckonPlain_113 rfl ?_
    obtain ⟨r9, g, h⟩ := zb_some h
    refine zc_Si (as := [.int i2, .int i3]) hX (zt_J9_min_7cf53 (d := d - 1) (by omega) g) zl_X9_132 dX9_reckonPlain_114 ⟨rfl, rfl, Nat.le_of_ble_eq_true rfl⟩ ⟨by omega, by omega⟩ ?_
    obtain rfl := Option.some.inj h
    exact zw_iret hX hr dX9_reckonPlain_117 rfl ⟨rfl, rfl⟩
  rw [if_neg c1_5] at h
  by_cases c1_6 : (i1).toInt = 8
  · rw [if_pos c1_6] at h
    refine zw_tableIn (off := 117) (tgt := 118) hX dX9_reckonPlain_1 (by rw [c1_6]; decide) (by rw [c1_6]; decide) (by rw [c1_6]; decide) (by decide) ?_
    refine zw_iload_n hX dX9_reckonPlain_118 rfl ?_
    refine zw_iload_n hX dX9_reckonPlain_119 rfl ?_
    obtain ⟨r12, g, h⟩ := zb_some h
    refine zc_Si (as := [.int i2, .int i3]) hX (zt_J9_max_7cf53 (d := d - 1) (by omega) g) zl_X9_137 dX9_reckonPlain_120 ⟨rfl, rfl, Nat.le_of_ble_eq_true rfl⟩ ⟨by omega, by omega⟩ ?_
    obtain rfl := Option.some.inj h
    exact zw_iret hX hr dX9_reckonPlain_123 rfl ⟨rfl, rfl⟩
  rw [if_neg c1_6] at h
  by_cases c1_7 : (i1).toInt = 9
  · rw [if_pos c1_7] at h
    refine zw_tableIn (off := 123) (tgt := 124) hX dX9_reckonPlain_1 (by rw [c1_7]; decide) (by rw [c1_7]; decide) (by rw [c1_7]; decide) (by decide) ?_
    refine zw_iload_n hX dX9_reckonPlain_124 rfl ?_
    refine zw_iload_n hX dX9_reckonPlain_125 rfl ?_
    refine zw_icmp_ge (tgt := 133) hX dX9_reckonPlain_126 (by decide) (fun c126 => ?_) (fun c126 => ?_)
    · rw [if_pos c126] at h
      refine zw_iconst (v := (0 : Int32)) hX dX9_reckonPlain_133 (by decide) ?_
      obtain rfl := Option.some.inj h
      exact zw_iret hX hr dX9_reckonPlain_134 rfl ⟨rfl, rfl⟩
    · rw [if_neg c126] at h
      refine zw_iconst (v := (1 : Int32)) hX dX9_reckonPlain_129 (by decide) ?_
      refine zw_goto (tgt := 134) hX dX9_reckonPlain_130 (by decide) ?_
      obtain rfl := Option.some.inj h
      exact zw_iret hX hr dX9_reckonPlain_134 rfl ⟨rfl, rfl⟩
  rw [if_neg c1_7] at h
  by_cases c1_8 : (i1).toInt = 10
  · rw [if_pos c1_8] at h
    refine zw_tableIn (off := 134) (tgt := 135) hX dX9_reckonPlain_1 (by rw [c1_8]; decide) (by rw [c1_8]; decide) (by rw [c1_8]; decide) (by decide) ?_
    refine zw_iload_n hX dX9_reckonPlain_135 rfl ?_
    refine zw_iload_n hX dX9_reckonPlain_136 rfl ?_
    refine zw_icmp_ne (tgt := 144) hX dX9_reckonPlain_137 (by decide) (fun c137 => ?_) (fun c137 => ?_)
    · rw [if_neg c137] at h
      refine zw_iconst (v := (0 : Int32)) hX dX9_reckonPlain_144 (by decide) ?_
      obtain rfl := Option.some.inj h
      exact zw_iret hX hr dX9_reckonPlain_145 rfl ⟨rfl, rfl⟩
    · rw [if_pos c137] at h
      refine zw_iconst (v := (1 : Int32)) hX dX9_reckonPlain_140 (by decide) ?_
      refine zw_goto (tgt := 145) hX dX9_reckonPlain_141 (by decide) ?_
      obtain rfl := Option.some.inj h
      exact zw_iret hX hr dX9_reckonPlain_145 rfl ⟨rfl, rfl⟩
  rw [if_neg c1_8] at h
  by_cases c1_9 : (i1).toInt = 11
  · rw [if_pos c1_9] at h
    refine zw_tableIn (off := 145) (tgt := 146) hX dX9_reckonPlain_1 (by rw [c1_9]; decide) (by rw [c1_9]; decide) (by rw [c1_9]; decide) (by decide) ?_
    refine zw_iload_n hX dX9_reckonPlain_146 rfl ?_
    refine zw_if_eq (tgt := 158) hX dX9_reckonPlain_147 (by decide) (fun c147 => ?_) (fun c147 => ?_)
    · rw [if_pos c147] at h
      refine zw_iconst (v := (0 : Int32)) hX dX9_reckonPlain_158 (by decide) ?_
      obtain rfl := Option.some.inj h
      exact zw_iret hX hr dX9_reckonPlain_159 rfl ⟨rfl, rfl⟩
    · rw [if_neg c147] at h
      refine zw_iload_n hX dX9_reckonPlain_150 rfl ?_
      refine zw_if_eq (tgt := 158) hX dX9_reckonPlain_151 (by decide) (fun c151 => ?_) (fun c151 => ?_)
      · rw [if_pos c151] at h
        refine zw_iconst (v := (0 : Int32)) hX dX9_reckonPlain_158 (by decide) ?_
        obtain rfl := Option.some.inj h
        exact zw_iret hX hr dX9_reckonPlain_159 rfl ⟨rfl, rfl⟩
      · rw [if_neg c151] at h
        refine zw_iconst (v := (1 : Int32)) hX dX9_reckonPlain_154 (by decide) ?_
        refine zw_goto (tgt := 159) hX dX9_reckonPlain_155 (by decide) ?_
        obtain rfl := Option.some.inj h
        exact zw_iret hX hr dX9_reckonPlain_159 rfl ⟨rfl, rfl⟩
  rw [if_neg c1_9] at h
  by_cases c1_10 : (i1).toInt = 12
  · rw [if_pos c1_10] at h
    refine zw_tableIn (off := 159) (tgt := 160) hX dX9_reckonPlain_1 (by rw [c1_10]; decide) (by rw [c1_10]; decide) (by rw [c1_10]; decide) (by decide) ?_
    refine zw_iload_n hX dX9_reckonPlain_160 rfl ?_
    refine zw_if_ne (tgt := 168) hX dX9_reckonPlain_161 (by decide) (fun c161 => ?_) (fun c161 => ?_)
    · rw [if_neg c161] at h
      refine zw_iconst (v := (1 : Int32)) hX dX9_reckonPlain_168 (by decide) ?_
      refine zw_goto (tgt := 173) hX dX9_reckonPlain_169 (by decide) ?_
      obtain rfl := Option.some.inj h
      exact zw_iret hX hr dX9_reckonPlain_173 rfl ⟨rfl, rfl⟩
    · rw [if_pos c161] at h
      refine zw_iload_n hX dX9_reckonPlain_164 rfl ?_
      refine zw_if_eq (tgt := 172) hX dX9_reckonPlain_165 (by decide) (fun c165 => ?_) (fun c165 => ?_)
      · rw [if_pos c165] at h
        refine zw_iconst (v := (0 : Int32)) hX dX9_reckonPlain_172 (by decide) ?_
        obtain rfl := Option.some.inj h
        exact zw_iret hX hr dX9_reckonPlain_173 rfl ⟨rfl, rfl⟩
      · rw [if_neg c165] at h
        refine zw_iconst (v := (1 : Int32)) hX dX9_reckonPlain_168 (by decide) ?_
        refine zw_goto (tgt := 173) hX dX9_reckonPlain_169 (by decide) ?_
        obtain rfl := Option.some.inj h
        exact zw_iret hX hr dX9_reckonPlain_173 rfl ⟨rfl, rfl⟩
  rw [if_neg c1_10] at h
  by_cases c1_11 : (i1).toInt = 13
  · rw [if_pos c1_11] at h
    refine zw_tableIn (off := 173) (tgt := 174) hX dX9_reckonPlain_1 (by rw [c1_11]; decide) (by rw [c1_11]; decide) (by rw [c1_11]; decide) (by decide) ?_
    refine zw_iload_n hX dX9_reckonPlain_174 rfl ?_
    refine zw_if_ne (tgt := 182) hX dX9_reckonPlain_175 (by decide) (fun c175 => ?_) (fun c175 => ?_)
    · rw [if_neg c175] at h
      refine zw_iconst (v := (0 : Int32)) hX dX9_reckonPlain_182 (by decide) ?_
      obtain rfl := Option.some.inj h
      exact zw_iret hX hr dX9_reckonPlain_183 rfl ⟨rfl, rfl⟩
    · rw [if_pos c175] at h
      refine zw_iconst (v := (1 : Int32)) hX dX9_reckonPlain_178 (by decide) ?_
      refine zw_goto (tgt := 183) hX dX9_reckonPlain_179 (by decide) ?_
      obtain rfl := Option.some.inj h
      exact zw_iret hX hr dX9_reckonPlain_183 rfl ⟨rfl, rfl⟩
  rw [if_neg c1_11] at h
  refine zw_tableOut (tgt := 184) hX dX9_reckonPlain_1 (by omega) (by decide) ?_
  refine zw_iload_n hX dX9_reckonPlain_184 rfl ?_
  refine zw_if_eq (tgt := 192) hX dX9_reckonPlain_185 (by decide) (fun c185 => ?_) (fun c185 => ?_)
  · rw [if_pos c185] at h
    refine zw_iload hX dX9_reckonPlain_192 rfl ?_
    obtain rfl := Option.some.inj h
    exact zw_iret hX hr dX9_reckonPlain_194 rfl ⟨rfl, rfl⟩
  · rw [if_neg c185] at h
    refine zw_iload_n hX dX9_reckonPlain_188 rfl ?_
    refine zw_goto (tgt := 194) hX dX9_reckonPlain_189 (by decide) ?_
    obtain rfl := Option.some.inj h
    exact zw_iret hX hr dX9_reckonPlain_194 rfl ⟨rfl, rfl⟩
def zf_X9_ramp_J31 (N : Nat) (i0 : Int32) (j3 : Int64) (j5 : Int64) (S : zm_S) : Option (Int32 × zm_S) := if (lg_cmp j5 (0 : Int64)) ≤ 0 then some ((((i0).toInt64 - j3)).toInt32, S) else some ((((i0).toInt64 + j3)).toInt32, S)
set_option maxHeartbeats 4000000 in
set_option maxRecDepth 100000 in
theorem zt_X9_ramp_J31 {p : Program} {l : Launch} {e : Env} {R : Room} {s : State} {m : MethodId} {args : Array Value} {below : List Frame} {meth : Method} {c : Code} {V : zm_V} {mc ms d rc rs : Nat} (hX : zm_X p R s m args meth c RX9 "ramp" cX9_ramp 7 zk_E V mc ms) (hr : meth.sig.returnType = (some .int)) (hR : R.frames = d ∧ R.locals = 64 * d) (hd : 2 ≤ d) {N : Nat} {i0 : Int32} {j3 : Int64} {j5 : Int64} {out : (Int32 × zm_S)} {S : zm_S} (h : zf_X9_ramp_J31 N i0 j3 j5 S = some out) : zw p l e R s m args below meth c (vx_MQ below (zm_Qc zk_E V (zo_i out)) (zm_XC zk_E V zo_x) args s mc ms (fun q => V.2.2.2.1 ≤ q)) 7 zk_E V mc ms 31 [(0, .int i0), (3, .long j3), (5, .long j5)] [] S rc rs := by
  unfold zf_X9_ramp_J31 at h
  refine zw_lload hX dX9_ramp_31 rfl ?_
  refine zw_lconst (v := (0 : Int64)) hX dX9_ramp_33 (by decide) ?_
  refine zw_lcmp hX dX9_ramp_34 ?_
  refine zw_if_le (tgt := 45) hX dX9_ramp_35 (by decide) (fun c35 => ?_) (fun c35 => ?_)
  · rw [if_pos c35] at h
    refine zw_iload_n hX dX9_ramp_45 rfl ?_
    refine zw_i2l hX dX9_ramp_46 ?_
    refine zw_lload_n hX dX9_ramp_47 rfl ?_
    refine zw_lsub hX dX9_ramp_48 ?_
    refine zw_l2i hX dX9_ramp_49 ?_
    obtain rfl := Option.some.inj h
    exact zw_iret hX hr dX9_ramp_50 rfl ⟨rfl, rfl⟩
  · rw [if_neg c35] at h
    refine zw_iload_n hX dX9_ramp_38 rfl ?_
    refine zw_i2l hX dX9_ramp_39 ?_
    refine zw_lload_n hX dX9_ramp_40 rfl ?_
    refine zw_ladd hX dX9_ramp_41 ?_
    refine zw_goto (tgt := 49) hX dX9_ramp_42 (by decide) ?_
    refine zw_l2i hX dX9_ramp_49 ?_
    obtain rfl := Option.some.inj h
    exact zw_iret hX hr dX9_ramp_50 rfl ⟨rfl, rfl⟩
def zf_X9_ramp (N : Nat) (i0 : Int32) (i1 : Int32) (i2 : Int32) (S : zm_S) : Option (Int32 × zm_S) := (zf_J9_max_7cf53 N i2 (0 : Int32) S).bind (fun r3 => if 0 < (lg_cmp ((i1).toInt64 - (i0).toInt64) ((r3.1).toInt64)) then zf_X9_ramp_J31 N i0 ((r3.1).toInt64) ((i1).toInt64 - (i0).toInt64) r3.2 else if (lg_cmp ((i1).toInt64 - (i0).toInt64) (-(r3.1).toInt64)) < 0 then zf_X9_ramp_J31 N i0 ((r3.1).toInt64) ((i1).toInt64 - (i0).toInt64) r3.2 else some (i1, r3.2))
set_option maxHeartbeats 4000000 in
set_option maxRecDepth 100000 in
theorem zt_X9_ramp {l : Launch} {V : zm_V} {N : Nat} {S : zm_S} {out : (Int32 × zm_S)} {d : Nat} {i0 : Int32} {i1 : Int32} {i2 : Int32} (hd : 2 ≤ d) (h : zf_X9_ramp N i0 i1 i2 S = some out) : zm_Met l zk_E V yX9_ramp (.code yX9_ramp cX9_ramp 7 (some .int)) d [.int i0, .int i1, .int i2] S 0 0 (zo_i out) zo_x := by
  refine zm_of (by decide +kernel) (Nat.le_of_ble_eq_true rfl) ?_
  intro p e R s m args below meth c hRR hX hr hxt
  have hR : R.frames = d ∧ R.locals = 64 * d := by rw [hRR]; exact ⟨rfl, rfl⟩
  have hX : zm_X p R s m args meth c RX9 "ramp" cX9_ramp 7 zk_E V 0 0 := hX
  unfold zf_X9_ramp at h
  refine zw_sub (lv' := [(0, .int i0), (1, .int i1), (2, .int i2)]) (List.forall_mem_cons.mpr ⟨rfl, (List.forall_mem_cons.mpr ⟨rfl, (List.forall_mem_cons.mpr ⟨rfl, zs_nil⟩)⟩)⟩) ?_
  refine zw_iload_n hX dX9_ramp_0 rfl ?_
  refine zw_iconst (v := (0 : Int32)) hX dX9_ramp_1 (by decide) ?_
  obtain ⟨r3, g, h⟩ := zb_some h
  refine zc_Si (as := [.int i2, .int (0 : Int32)]) hX (zt_J9_max_7cf53 (d := d - 1) (by omega) g) zl_X9_137 dX9_ramp_2 ⟨rfl, rfl, Nat.le_of_ble_eq_true rfl⟩ ⟨by omega, by omega⟩ ?_
  refine zw_i2l hX dX9_ramp_5 ?_
  refine zw_lstore_n hX dX9_ramp_6 (by decide) ?_
  refine zw_iload_n hX dX9_ramp_7 rfl ?_
  refine zw_i2l hX dX9_ramp_8 ?_
  refine zw_iload_n hX dX9_ramp_9 rfl ?_
  refine zw_i2l hX dX9_ramp_10 ?_
  refine zw_lsub hX dX9_ramp_11 ?_
  refine zw_lstore hX dX9_ramp_12 (by decide) ?_
  refine zw_lload hX dX9_ramp_14 rfl ?_
  refine zw_lload_n hX dX9_ramp_16 rfl ?_
  refine zw_lcmp hX dX9_ramp_17 ?_
  refine zw_if_gt (tgt := 31) hX dX9_ramp_18 (by decide) (fun c18 => ?_) (fun c18 => ?_)
  · rw [if_pos c18] at h
    refine zw_sub (lv' := [(0, .int i0), (3, .long (r3.1).toInt64), (5, .long ((i1).toInt64 - (i0).toInt64))]) (List.forall_mem_cons.mpr ⟨rfl, (List.forall_mem_cons.mpr ⟨rfl, (List.forall_mem_cons.mpr ⟨rfl, zs_nil⟩)⟩)⟩) ?_
    exact zt_X9_ramp_J31 hX hr hR hd h
  · rw [if_neg c18] at h
    refine zw_lload hX dX9_ramp_21 rfl ?_
    refine zw_lload_n hX dX9_ramp_23 rfl ?_
    refine zw_lneg hX dX9_ramp_24 ?_
    refine zw_lcmp hX dX9_ramp_25 ?_
    refine zw_if_lt (tgt := 31) hX dX9_ramp_26 (by decide) (fun c26 => ?_) (fun c26 => ?_)
    · rw [if_pos c26] at h
      refine zw_sub (lv' := [(0, .int i0), (3, .long (r3.1).toInt64), (5, .long ((i1).toInt64 - (i0).toInt64))]) (List.forall_mem_cons.mpr ⟨rfl, (List.forall_mem_cons.mpr ⟨rfl, (List.forall_mem_cons.mpr ⟨rfl, zs_nil⟩)⟩)⟩) ?_
      exact zt_X9_ramp_J31 hX hr hR hd h
    · rw [if_neg c26] at h
      refine zw_iload_n hX dX9_ramp_29 rfl ?_
      obtain rfl := Option.some.inj h
      exact zw_iret hX hr dX9_ramp_30 rfl ⟨rfl, rfl⟩
def zf_X9_countUp_J28 (N : Nat) (a0 : Nat) (i1 : Int32) (S : zm_S) : Option (Int32 × zm_S) := (zs_i S a0 (1 : Int32) i1).bind (fun S1 => (za_x S1 0 a0 (0 : Int32)).bind (fun v2 => some (v2, S1)))
set_option maxHeartbeats 4000000 in
set_option maxRecDepth 100000 in
theorem zt_X9_countUp_J28 {p : Program} {l : Launch} {e : Env} {R : Room} {s : State} {m : MethodId} {args : Array Value} {below : List Frame} {meth : Method} {c : Code} {V : zm_V} {mc ms d rc rs : Nat} (hX : zm_X p R s m args meth c RX9 "countUp" cX9_countUp 3 zk_E V mc ms) (hr : meth.sig.returnType = (some .int)) (hR : R.frames = d ∧ R.locals = 64 * d) (hd : 1 ≤ d) {N : Nat} {a0 : Nat} {i1 : Int32} {out : (Int32 × zm_S)} {S : zm_S} (h : zf_X9_countUp_J28 N a0 i1 S = some out) : zw p l e R s m args below meth c (vx_MQ below (zm_Qc zk_E V (zo_i out)) (zm_XC zk_E V zo_x) args s mc ms (fun q => V.2.2.2.1 ≤ q)) 3 zk_E V mc ms 28 [(0, .ref a0), (1, .int i1)] [] S rc rs := by
  unfold zf_X9_countUp_J28 at h
  refine zw_aload_n hX dX9_countUp_28 rfl ?_
  refine zw_iconst (v := (1 : Int32)) hX dX9_countUp_29 (by decide) ?_
  refine zw_iload_n hX dX9_countUp_30 rfl ?_
  obtain ⟨S1, g, h⟩ := zb_some h
  refine zw_si hX dX9_countUp_31 g ?_
  refine zw_aload_n hX dX9_countUp_32 rfl ?_
  refine zw_iconst (v := (0 : Int32)) hX dX9_countUp_33 (by decide) ?_
  obtain ⟨v2, g, h⟩ := zb_some h
  refine zw_xi hX dX9_countUp_34 g ?_
  obtain rfl := Option.some.inj h
  exact zw_iret hX hr dX9_countUp_35 rfl ⟨rfl, rfl⟩
def zf_X9_countUp (N : Nat) (a0 : Nat) (i1 : Int32) (i2 : Int32) (S : zm_S) : Option (Int32 × zm_S) := if i2 = 0 then if i1 = 0 then zf_X9_countUp_J28 N a0 i1 S else (za_x S 0 a0 (1 : Int32)).bind (fun v3 => if v3 = 0 then (za_x S 0 a0 (0 : Int32)).bind (fun v4 => (zs_i S a0 (0 : Int32) (v4 + (1 : Int32))).bind (fun S5 => zf_X9_countUp_J28 N a0 i1 S5)) else zf_X9_countUp_J28 N a0 i1 S) else (zs_i S a0 (0 : Int32) (0 : Int32)).bind (fun S6 => zf_X9_countUp_J28 N a0 i1 S6)
set_option maxHeartbeats 4000000 in
set_option maxRecDepth 100000 in
theorem zt_X9_countUp {l : Launch} {V : zm_V} {N : Nat} {S : zm_S} {out : (Int32 × zm_S)} {d : Nat} {a0 : Nat} {i1 : Int32} {i2 : Int32} (hd : 1 ≤ d) (h : zf_X9_countUp N a0 i1 i2 S = some out) : zm_Met l zk_E V yX9_countUp (.code yX9_countUp cX9_countUp 3 (some .int)) d [.ref a0, .int i1, .int i2] S 0 0 (zo_i out) zo_x := by
  refine zm_of (by decide +kernel) (Nat.le_of_ble_eq_true rfl) ?_
  intro p e R s m args below meth c hRR hX hr hxt
  have hR : R.frames = d ∧ R.locals = 64 * d := by rw [hRR]; exact ⟨rfl, rfl⟩
  have hX : zm_X p R s m args meth c RX9 "countUp" cX9_countUp 3 zk_E V 0 0 := hX
  unfold zf_X9_countUp at h
  refine zw_sub (lv' := [(0, .ref a0), (1, .int i1), (2, .int i2)]) (List.forall_mem_cons.mpr ⟨rfl, (List.forall_mem_cons.mpr ⟨rfl, (List.forall_mem_cons.mpr ⟨rfl, zs_nil⟩)⟩)⟩) ?_
  refine zw_iload_n hX dX9_countUp_0 rfl ?_
  refine zw_if_eq (tgt := 11) hX dX9_countUp_1 (by decide) (fun c1 => ?_) (fun c1 => ?_)
  · rw [if_pos c1] at h
    refine zw_iload_n hX dX9_countUp_11 rfl ?_
    refine zw_if_eq (tgt := 28) hX dX9_countUp_12 (by decide) (fun c12 => ?_) (fun c12 => ?_)
    · rw [if_pos c12] at h
      refine zw_sub (lv' := [(0, .ref a0), (1, .int i1)]) (List.forall_mem_cons.mpr ⟨rfl, (List.forall_mem_cons.mpr ⟨rfl, zs_nil⟩)⟩) ?_
      exact zt_X9_countUp_J28 hX hr hR hd h
    · rw [if_neg c12] at h
      refine zw_aload_n hX dX9_countUp_15 rfl ?_
      refine zw_iconst (v := (1 : Int32)) hX dX9_countUp_16 (by decide) ?_
      obtain ⟨v3, g, h⟩ := zb_some h
      refine zw_xi hX dX9_countUp_17 g ?_
      refine zw_if_ne (tgt := 28) hX dX9_countUp_18 (by decide) (fun c18 => ?_) (fun c18 => ?_)
      · rw [if_neg c18] at h
        refine zw_sub (lv' := [(0, .ref a0), (1, .int i1)]) (List.forall_mem_cons.mpr ⟨rfl, (List.forall_mem_cons.mpr ⟨rfl, zs_nil⟩)⟩) ?_
        exact zt_X9_countUp_J28 hX hr hR hd h
      · rw [if_pos c18] at h
        refine zw_aload_n hX dX9_countUp_21 rfl ?_
        refine zw_iconst (v := (0 : Int32)) hX dX9_countUp_22 (by decide) ?_
        refine zw_dup2 hX dX9_countUp_23 rfl rfl ?_
        obtain ⟨v4, g, h⟩ := zb_some h
        refine zw_xi hX dX9_countUp_24 g ?_
        refine zw_iconst (v := (1 : Int32)) hX dX9_countUp_25 (by decide) ?_
        refine zw_iadd hX dX9_countUp_26 ?_
        obtain ⟨S5, g, h⟩ := zb_some h
        refine zw_si hX dX9_countUp_27 g ?_
        refine zw_sub (lv' := [(0, .ref a0), (1, .int i1)]) (List.forall_mem_cons.mpr ⟨rfl, (List.forall_mem_cons.mpr ⟨rfl, zs_nil⟩)⟩) ?_
        exact zt_X9_countUp_J28 hX hr hR hd h
  · rw [if_neg c1] at h
    refine zw_aload_n hX dX9_countUp_4 rfl ?_
    refine zw_iconst (v := (0 : Int32)) hX dX9_countUp_5 (by decide) ?_
    refine zw_iconst (v := (0 : Int32)) hX dX9_countUp_6 (by decide) ?_
    obtain ⟨S6, g, h⟩ := zb_some h
    refine zw_si hX dX9_countUp_7 g ?_
    refine zw_goto (tgt := 28) hX dX9_countUp_8 (by decide) ?_
    refine zw_sub (lv' := [(0, .ref a0), (1, .int i1)]) (List.forall_mem_cons.mpr ⟨rfl, (List.forall_mem_cons.mpr ⟨rfl, zs_nil⟩)⟩) ?_
    exact zt_X9_countUp_J28 hX hr hR hd h
def zf_X9_latch_J19 (N : Nat) (a0 : Nat) (S : zm_S) : Option (Int32 × zm_S) := (za_x S 0 a0 (0 : Int32)).bind (fun v1 => some (v1, S))
set_option maxHeartbeats 4000000 in
set_option maxRecDepth 100000 in
theorem zt_X9_latch_J19 {p : Program} {l : Launch} {e : Env} {R : Room} {s : State} {m : MethodId} {args : Array Value} {below : List Frame} {meth : Method} {c : Code} {V : zm_V} {mc ms d rc rs : Nat} (hX : zm_X p R s m args meth c RX9 "latch" cX9_latch 3 zk_E V mc ms) (hr : meth.sig.returnType = (some .int)) (hR : R.frames = d ∧ R.locals = 64 * d) (hd : 1 ≤ d) {N : Nat} {a0 : Nat} {out : (Int32 × zm_S)} {S : zm_S} (h : zf_X9_latch_J19 N a0 S = some out) : zw p l e R s m args below meth c (vx_MQ below (zm_Qc zk_E V (zo_i out)) (zm_XC zk_E V zo_x) args s mc ms (fun q => V.2.2.2.1 ≤ q)) 3 zk_E V mc ms 19 [(0, .ref a0)] [] S rc rs := by
  unfold zf_X9_latch_J19 at h
  refine zw_aload_n hX dX9_latch_19 rfl ?_
  refine zw_iconst (v := (0 : Int32)) hX dX9_latch_20 (by decide) ?_
  obtain ⟨v1, g, h⟩ := zb_some h
  refine zw_xi hX dX9_latch_21 g ?_
  obtain rfl := Option.some.inj h
  exact zw_iret hX hr dX9_latch_22 rfl ⟨rfl, rfl⟩
def zf_X9_latch (N : Nat) (a0 : Nat) (i1 : Int32) (i2 : Int32) (S : zm_S) : Option (Int32 × zm_S) := if i1 = 0 then if i2 = 0 then zf_X9_latch_J19 N a0 S else (zs_i S a0 (0 : Int32) (0 : Int32)).bind (fun S2 => zf_X9_latch_J19 N a0 S2) else (zs_i S a0 (0 : Int32) (1 : Int32)).bind (fun S3 => zf_X9_latch_J19 N a0 S3)
set_option maxHeartbeats 4000000 in
set_option maxRecDepth 100000 in
theorem zt_X9_latch {l : Launch} {V : zm_V} {N : Nat} {S : zm_S} {out : (Int32 × zm_S)} {d : Nat} {a0 : Nat} {i1 : Int32} {i2 : Int32} (hd : 1 ≤ d) (h : zf_X9_latch N a0 i1 i2 S = some out) : zm_Met l zk_E V yX9_latch (.code yX9_latch cX9_latch 3 (some .int)) d [.ref a0, .int i1, .int i2] S 0 0 (zo_i out) zo_x := by
  refine zm_of (by decide +kernel) (Nat.le_of_ble_eq_true rfl) ?_
  intro p e R s m args below meth c hRR hX hr hxt
  have hR : R.frames = d ∧ R.locals = 64 * d := by rw [hRR]; exact ⟨rfl, rfl⟩
  have hX : zm_X p R s m args meth c RX9 "latch" cX9_latch 3 zk_E V 0 0 := hX
  unfold zf_X9_latch at h
  refine zw_sub (lv' := [(0, .ref a0), (1, .int i1), (2, .int i2)]) (List.forall_mem_cons.mpr ⟨rfl, (List.forall_mem_cons.mpr ⟨rfl, (List.forall_mem_cons.mpr ⟨rfl, zs_nil⟩)⟩)⟩) ?_
  refine zw_iload_n hX dX9_latch_0 rfl ?_
  refine zw_if_eq (tgt := 11) hX dX9_latch_1 (by decide) (fun c1 => ?_) (fun c1 => ?_)
  · rw [if_pos c1] at h
    refine zw_iload_n hX dX9_latch_11 rfl ?_
    refine zw_if_eq (tgt := 19) hX dX9_latch_12 (by decide) (fun c12 => ?_) (fun c12 => ?_)
    · rw [if_pos c12] at h
      refine zw_sub (lv' := [(0, .ref a0)]) (List.forall_mem_cons.mpr ⟨rfl, zs_nil⟩) ?_
      exact zt_X9_latch_J19 hX hr hR hd h
    · rw [if_neg c12] at h
      refine zw_aload_n hX dX9_latch_15 rfl ?_
      refine zw_iconst (v := (0 : Int32)) hX dX9_latch_16 (by decide) ?_
      refine zw_iconst (v := (0 : Int32)) hX dX9_latch_17 (by decide) ?_
      obtain ⟨S2, g, h⟩ := zb_some h
      refine zw_si hX dX9_latch_18 g ?_
      refine zw_sub (lv' := [(0, .ref a0)]) (List.forall_mem_cons.mpr ⟨rfl, zs_nil⟩) ?_
      exact zt_X9_latch_J19 hX hr hR hd h
  · rw [if_neg c1] at h
    refine zw_aload_n hX dX9_latch_4 rfl ?_
    refine zw_iconst (v := (0 : Int32)) hX dX9_latch_5 (by decide) ?_
    refine zw_iconst (v := (1 : Int32)) hX dX9_latch_6 (by decide) ?_
    obtain ⟨S3, g, h⟩ := zb_some h
    refine zw_si hX dX9_latch_7 g ?_
    refine zw_goto (tgt := 19) hX dX9_latch_8 (by decide) ?_
    refine zw_sub (lv' := [(0, .ref a0)]) (List.forall_mem_cons.mpr ⟨rfl, zs_nil⟩) ?_
    exact zt_X9_latch_J19 hX hr hR hd h
def zf_X9_isInSpan (N : Nat) (i0 : Int32) (i1 : Int32) (i2 : Int32) (S : zm_S) : Option (Int32 × zm_S) := if i2 < i1 then if i1 ≤ i0 then some ((1 : Int32), S) else if i2 ≤ i0 then some ((0 : Int32), S) else some ((1 : Int32), S) else if i0 < i1 then some ((0 : Int32), S) else if i2 ≤ i0 then some ((0 : Int32), S) else some ((1 : Int32), S)
set_option maxHeartbeats 4000000 in
set_option maxRecDepth 100000 in
theorem zt_X9_isInSpan {l : Launch} {V : zm_V} {N : Nat} {S : zm_S} {out : (Int32 × zm_S)} {d : Nat} {i0 : Int32} {i1 : Int32} {i2 : Int32} (hd : 1 ≤ d) (h : zf_X9_isInSpan N i0 i1 i2 S = some out) : zm_Met l zk_E V yX9_isInSpan (.code yX9_isInSpan cX9_isInSpan 3 (some .boolean)) d [.int i0, .int i1, .int i2] S 0 0 (zo_i out) zo_x := by
  refine zm_of (by decide +kernel) (Nat.le_of_ble_eq_true rfl) ?_
  intro p e R s m args below meth c hRR hX hr hxt
  have hR : R.frames = d ∧ R.locals = 64 * d := by rw [hRR]; exact ⟨rfl, rfl⟩
  have hX : zm_X p R s m args meth c RX9 "isInSpan" cX9_isInSpan 3 zk_E V 0 0 := hX
  unfold zf_X9_isInSpan at h
  refine zw_sub (lv' := [(0, .int i0), (1, .int i1), (2, .int i2)]) (List.forall_mem_cons.mpr ⟨rfl, (List.forall_mem_cons.mpr ⟨rfl, (List.forall_mem_cons.mpr ⟨rfl, zs_nil⟩)⟩)⟩) ?_
  refine zw_iload_n hX dX9_isInSpan_0 rfl ?_
  refine zw_iload_n hX dX9_isInSpan_1 rfl ?_
  refine zw_icmp_gt (tgt := 23) hX dX9_isInSpan_2 (by decide) (fun c2 => ?_) (fun c2 => ?_)
  · rw [if_pos c2] at h
    refine zw_iload_n hX dX9_isInSpan_23 rfl ?_
    refine zw_iload_n hX dX9_isInSpan_24 rfl ?_
    refine zw_icmp_ge (tgt := 33) hX dX9_isInSpan_25 (by decide) (fun c25 => ?_) (fun c25 => ?_)
    · rw [if_pos c25] at h
      refine zw_iconst (v := (1 : Int32)) hX dX9_isInSpan_33 (by decide) ?_
      refine zw_goto (tgt := 38) hX dX9_isInSpan_34 (by decide) ?_
      obtain rfl := Option.some.inj h
      exact zw_iret hX hr dX9_isInSpan_38 rfl ⟨rfl, rfl⟩
    · rw [if_neg c25] at h
      refine zw_iload_n hX dX9_isInSpan_28 rfl ?_
      refine zw_iload_n hX dX9_isInSpan_29 rfl ?_
      refine zw_icmp_ge (tgt := 37) hX dX9_isInSpan_30 (by decide) (fun c30 => ?_) (fun c30 => ?_)
      · rw [if_pos c30] at h
        refine zw_iconst (v := (0 : Int32)) hX dX9_isInSpan_37 (by decide) ?_
        obtain rfl := Option.some.inj h
        exact zw_iret hX hr dX9_isInSpan_38 rfl ⟨rfl, rfl⟩
      · rw [if_neg c30] at h
        refine zw_iconst (v := (1 : Int32)) hX dX9_isInSpan_33 (by decide) ?_
        refine zw_goto (tgt := 38) hX dX9_isInSpan_34 (by decide) ?_
        obtain rfl := Option.some.inj h
        exact zw_iret hX hr dX9_isInSpan_38 rfl ⟨rfl, rfl⟩
  · rw [if_neg c2] at h
    refine zw_iload_n hX dX9_isInSpan_5 rfl ?_
    refine zw_iload_n hX dX9_isInSpan_6 rfl ?_
    refine zw_icmp_gt (tgt := 19) hX dX9_isInSpan_7 (by decide) (fun c7 => ?_) (fun c7 => ?_)
    · rw [if_pos c7] at h
      refine zw_iconst (v := (0 : Int32)) hX dX9_isInSpan_19 (by decide) ?_
      refine zw_goto (tgt := 38) hX dX9_isInSpan_20 (by decide) ?_
      obtain rfl := Option.some.inj h
      exact zw_iret hX hr dX9_isInSpan_38 rfl ⟨rfl, rfl⟩
    · rw [if_neg c7] at h
      refine zw_iload_n hX dX9_isInSpan_10 rfl ?_
      refine zw_iload_n hX dX9_isInSpan_11 rfl ?_
      refine zw_icmp_ge (tgt := 19) hX dX9_isInSpan_12 (by decide) (fun c12 => ?_) (fun c12 => ?_)
      · rw [if_pos c12] at h
        refine zw_iconst (v := (0 : Int32)) hX dX9_isInSpan_19 (by decide) ?_
        refine zw_goto (tgt := 38) hX dX9_isInSpan_20 (by decide) ?_
        obtain rfl := Option.some.inj h
        exact zw_iret hX hr dX9_isInSpan_38 rfl ⟨rfl, rfl⟩
      · rw [if_neg c12] at h
        refine zw_iconst (v := (1 : Int32)) hX dX9_isInSpan_15 (by decide) ?_
        refine zw_goto (tgt := 38) hX dX9_isInSpan_16 (by decide) ?_
        obtain rfl := Option.some.inj h
        exact zw_iret hX hr dX9_isInSpan_38 rfl ⟨rfl, rfl⟩
def zf_X9_pulse_J14 (N : Nat) (a0 : Nat) (i1 : Int32) (S : zm_S) : Option (Int32 × zm_S) := (zs_i S a0 (1 : Int32) i1).bind (fun S1 => (za_x S1 0 a0 (0 : Int32)).bind (fun v2 => if v2 ≤ 0 then some ((0 : Int32), S1) else (za_x S1 0 a0 (0 : Int32)).bind (fun v3 => (zs_i S1 a0 (0 : Int32) (v3 - (1 : Int32))).bind (fun S4 => some ((1 : Int32), S4)))))
set_option maxHeartbeats 4000000 in
set_option maxRecDepth 100000 in
theorem zt_X9_pulse_J14 {p : Program} {l : Launch} {e : Env} {R : Room} {s : State} {m : MethodId} {args : Array Value} {below : List Frame} {meth : Method} {c : Code} {V : zm_V} {mc ms d rc rs : Nat} (hX : zm_X p R s m args meth c RX9 "pulse" cX9_pulse 3 zk_E V mc ms) (hr : meth.sig.returnType = (some .int)) (hR : R.frames = d ∧ R.locals = 64 * d) (hd : 1 ≤ d) {N : Nat} {a0 : Nat} {i1 : Int32} {out : (Int32 × zm_S)} {S : zm_S} (h : zf_X9_pulse_J14 N a0 i1 S = some out) : zw p l e R s m args below meth c (vx_MQ below (zm_Qc zk_E V (zo_i out)) (zm_XC zk_E V zo_x) args s mc ms (fun q => V.2.2.2.1 ≤ q)) 3 zk_E V mc ms 14 [(0, .ref a0), (1, .int i1)] [] S rc rs := by
  unfold zf_X9_pulse_J14 at h
  refine zw_aload_n hX dX9_pulse_14 rfl ?_
  refine zw_iconst (v := (1 : Int32)) hX dX9_pulse_15 (by decide) ?_
  refine zw_iload_n hX dX9_pulse_16 rfl ?_
  obtain ⟨S1, g, h⟩ := zb_some h
  refine zw_si hX dX9_pulse_17 g ?_
  refine zw_aload_n hX dX9_pulse_18 rfl ?_
  refine zw_iconst (v := (0 : Int32)) hX dX9_pulse_19 (by decide) ?_
  obtain ⟨v2, g, h⟩ := zb_some h
  refine zw_xi hX dX9_pulse_20 g ?_
  refine zw_if_le (tgt := 33) hX dX9_pulse_21 (by decide) (fun c21 => ?_) (fun c21 => ?_)
  · rw [if_pos c21] at h
    refine zw_iconst (v := (0 : Int32)) hX dX9_pulse_33 (by decide) ?_
    obtain rfl := Option.some.inj h
    exact zw_iret hX hr dX9_pulse_34 rfl ⟨rfl, rfl⟩
  · rw [if_neg c21] at h
    refine zw_aload_n hX dX9_pulse_24 rfl ?_
    refine zw_iconst (v := (0 : Int32)) hX dX9_pulse_25 (by decide) ?_
    refine zw_dup2 hX dX9_pulse_26 rfl rfl ?_
    obtain ⟨v3, g, h⟩ := zb_some h
    refine zw_xi hX dX9_pulse_27 g ?_
    refine zw_iconst (v := (1 : Int32)) hX dX9_pulse_28 (by decide) ?_
    refine zw_isub hX dX9_pulse_29 ?_
    obtain ⟨S4, g, h⟩ := zb_some h
    refine zw_si hX dX9_pulse_30 g ?_
    refine zw_iconst (v := (1 : Int32)) hX dX9_pulse_31 (by decide) ?_
    obtain rfl := Option.some.inj h
    exact zw_iret hX hr dX9_pulse_32 rfl ⟨rfl, rfl⟩
def zf_X9_pulse (N : Nat) (a0 : Nat) (i1 : Int32) (i2 : Int32) (S : zm_S) : Option (Int32 × zm_S) := if i1 = 0 then zf_X9_pulse_J14 N a0 i1 S else (za_x S 0 a0 (1 : Int32)).bind (fun v5 => if v5 = 0 then (zs_i S a0 (0 : Int32) i2).bind (fun S6 => zf_X9_pulse_J14 N a0 i1 S6) else zf_X9_pulse_J14 N a0 i1 S)
set_option maxHeartbeats 4000000 in
set_option maxRecDepth 100000 in
theorem zt_X9_pulse {l : Launch} {V : zm_V} {N : Nat} {S : zm_S} {out : (Int32 × zm_S)} {d : Nat} {a0 : Nat} {i1 : Int32} {i2 : Int32} (hd : 1 ≤ d) (h : zf_X9_pulse N a0 i1 i2 S = some out) : zm_Met l zk_E V yX9_pulse (.code yX9_pulse cX9_pulse 3 (some .int)) d [.ref a0, .int i1, .int i2] S 0 0 (zo_i out) zo_x := by
  refine zm_of (by decide +kernel) (Nat.le_of_ble_eq_true rfl) ?_
  intro p e R s m args below meth c hRR hX hr hxt
  have hR : R.frames = d ∧ R.locals = 64 * d := by rw [hRR]; exact ⟨rfl, rfl⟩
  have hX : zm_X p R s m args meth c RX9 "pulse" cX9_pulse 3 zk_E V 0 0 := hX
  unfold zf_X9_pulse at h
  refine zw_sub (lv' := [(0, .ref a0), (1, .int i1), (2, .int i2)]) (List.forall_mem_cons.mpr ⟨rfl, (List.forall_mem_cons.mpr ⟨rfl, (List.forall_mem_cons.mpr ⟨rfl, zs_nil⟩)⟩)⟩) ?_
  refine zw_iload_n hX dX9_pulse_0 rfl ?_
  refine zw_if_eq (tgt := 14) hX dX9_pulse_1 (by decide) (fun c1 => ?_) (fun c1 => ?_)
  · rw [if_pos c1] at h
    refine zw_sub (lv' := [(0, .ref a0), (1, .int i1)]) (List.forall_mem_cons.mpr ⟨rfl, (List.forall_mem_cons.mpr ⟨rfl, zs_nil⟩)⟩) ?_
    exact zt_X9_pulse_J14 hX hr hR hd h
  · rw [if_neg c1] at h
    refine zw_aload_n hX dX9_pulse_4 rfl ?_
    refine zw_iconst (v := (1 : Int32)) hX dX9_pulse_5 (by decide) ?_
    obtain ⟨v5, g, h⟩ := zb_some h
    refine zw_xi hX dX9_pulse_6 g ?_
    refine zw_if_ne (tgt := 14) hX dX9_pulse_7 (by decide) (fun c7 => ?_) (fun c7 => ?_)
    · rw [if_neg c7] at h
      refine zw_sub (lv' := [(0, .ref a0), (1, .int i1)]) (List.forall_mem_cons.mpr ⟨rfl, (List.forall_mem_cons.mpr ⟨rfl, zs_nil⟩)⟩) ?_
      exact zt_X9_pulse_J14 hX hr hR hd h
    · rw [if_pos c7] at h
      refine zw_aload_n hX dX9_pulse_10 rfl ?_
      refine zw_iconst (v := (0 : Int32)) hX dX9_pulse_11 (by decide) ?_
      refine zw_iload_n hX dX9_pulse_12 rfl ?_
      obtain ⟨S6, g, h⟩ := zb_some h
      refine zw_si hX dX9_pulse_13 g ?_
      refine zw_sub (lv' := [(0, .ref a0), (1, .int i1)]) (List.forall_mem_cons.mpr ⟨rfl, (List.forall_mem_cons.mpr ⟨rfl, zs_nil⟩)⟩) ?_
      exact zt_X9_pulse_J14 hX hr hR hd h
def zf_X9_limit (N : Nat) (i0 : Int32) (i1 : Int32) (i2 : Int32) (S : zm_S) : Option (Int32 × zm_S) := if i1 ≤ i0 then if i0 ≤ i2 then some (i0, S) else some (i2, S) else some (i1, S)
set_option maxHeartbeats 4000000 in
set_option maxRecDepth 100000 in
theorem zt_X9_limit {l : Launch} {V : zm_V} {N : Nat} {S : zm_S} {out : (Int32 × zm_S)} {d : Nat} {i0 : Int32} {i1 : Int32} {i2 : Int32} (hd : 1 ≤ d) (h : zf_X9_limit N i0 i1 i2 S = some out) : zm_Met l zk_E V yX9_limit (.code yX9_limit cX9_limit 3 (some .int)) d [.int i0, .int i1, .int i2] S 0 0 (zo_i out) zo_x := by
  refine zm_of (by decide +kernel) (Nat.le_of_ble_eq_true rfl) ?_
  intro p e R s m args below meth c hRR hX hr hxt
  have hR : R.frames = d ∧ R.locals = 64 * d := by rw [hRR]; exact ⟨rfl, rfl⟩
  have hX : zm_X p R s m args meth c RX9 "limit" cX9_limit 3 zk_E V 0 0 := hX
  unfold zf_X9_limit at h
  refine zw_sub (lv' := [(0, .int i0), (1, .int i1), (2, .int i2)]) (List.forall_mem_cons.mpr ⟨rfl, (List.forall_mem_cons.mpr ⟨rfl, (List.forall_mem_cons.mpr ⟨rfl, zs_nil⟩)⟩)⟩) ?_
  refine zw_iload_n hX dX9_limit_0 rfl ?_
  refine zw_iload_n hX dX9_limit_1 rfl ?_
  refine zw_icmp_ge (tgt := 7) hX dX9_limit_2 (by decide) (fun c2 => ?_) (fun c2 => ?_)
  · rw [if_pos c2] at h
    refine zw_iload_n hX dX9_limit_7 rfl ?_
    refine zw_iload_n hX dX9_limit_8 rfl ?_
    refine zw_icmp_le (tgt := 16) hX dX9_limit_9 (by decide) (fun c9 => ?_) (fun c9 => ?_)
    · rw [if_pos c9] at h
      refine zw_iload_n hX dX9_limit_16 rfl ?_
      obtain rfl := Option.some.inj h
      exact zw_iret hX hr dX9_limit_17 rfl ⟨rfl, rfl⟩
    · rw [if_neg c9] at h
      refine zw_iload_n hX dX9_limit_12 rfl ?_
      refine zw_goto (tgt := 17) hX dX9_limit_13 (by decide) ?_
      obtain rfl := Option.some.inj h
      exact zw_iret hX hr dX9_limit_17 rfl ⟨rfl, rfl⟩
  · rw [if_neg c2] at h
    refine zw_iload_n hX dX9_limit_5 rfl ?_
    obtain rfl := Option.some.inj h
    exact zw_iret hX hr dX9_limit_6 rfl ⟨rfl, rfl⟩
def zf_X9_since_J13 (N : Nat) (a0 : Nat) (i2 : Int32) (t0 : Int32) (S : zm_S) : Option (Int32 × zm_S) := (zf_J9_min_7cf53 N t0 i2 S).bind (fun r3 => (zs_i r3.2 a0 (0 : Int32) r3.1).bind (fun S4 => (za_x S4 0 a0 (0 : Int32)).bind (fun v5 => some (v5, S4))))
set_option maxHeartbeats 4000000 in
set_option maxRecDepth 100000 in
theorem zt_X9_since_J13 {p : Program} {l : Launch} {e : Env} {R : Room} {s : State} {m : MethodId} {args : Array Value} {below : List Frame} {meth : Method} {c : Code} {V : zm_V} {mc ms d rc rs : Nat} (hX : zm_X p R s m args meth c RX9 "since" cX9_since 4 zk_E V mc ms) (hr : meth.sig.returnType = (some .int)) (hR : R.frames = d ∧ R.locals = 64 * d) (hd : 2 ≤ d) {N : Nat} {a0 : Nat} {i2 : Int32} {t0 : Int32} {out : (Int32 × zm_S)} {S : zm_S} (h : zf_X9_since_J13 N a0 i2 t0 S = some out) : zw p l e R s m args below meth c (vx_MQ below (zm_Qc zk_E V (zo_i out)) (zm_XC zk_E V zo_x) args s mc ms (fun q => V.2.2.2.1 ≤ q)) 4 zk_E V mc ms 13 [(0, .ref a0), (2, .int i2)] [.int t0] S rc rs := by
  unfold zf_X9_since_J13 at h
  refine zw_istore_n hX dX9_since_13 (by decide) ?_
  refine zw_aload_n hX dX9_since_14 rfl ?_
  refine zw_iconst (v := (0 : Int32)) hX dX9_since_15 (by decide) ?_
  refine zw_iload_n hX dX9_since_16 rfl ?_
  refine zw_iload_n hX dX9_since_17 rfl ?_
  obtain ⟨r3, g, h⟩ := zb_some h
  refine zc_Si (as := [.int t0, .int i2]) hX (zt_J9_min_7cf53 (d := d - 1) (by omega) g) zl_X9_132 dX9_since_18 ⟨rfl, rfl, Nat.le_of_ble_eq_true rfl⟩ ⟨by omega, by omega⟩ ?_
  obtain ⟨S4, g, h⟩ := zb_some h
  refine zw_si hX dX9_since_21 g ?_
  refine zw_aload_n hX dX9_since_22 rfl ?_
  refine zw_iconst (v := (0 : Int32)) hX dX9_since_23 (by decide) ?_
  obtain ⟨v5, g, h⟩ := zb_some h
  refine zw_xi hX dX9_since_24 g ?_
  obtain rfl := Option.some.inj h
  exact zw_iret hX hr dX9_since_25 rfl ⟨rfl, rfl⟩
def zf_X9_since (N : Nat) (a0 : Nat) (i1 : Int32) (i2 : Int32) (S : zm_S) : Option (Int32 × zm_S) := if i1 = 0 then zf_X9_since_J13 N a0 i2 (0 : Int32) S else (za_x S 0 a0 (0 : Int32)).bind (fun v6 => zf_X9_since_J13 N a0 i2 (v6 + (1 : Int32)) S)
set_option maxHeartbeats 4000000 in
set_option maxRecDepth 100000 in
theorem zt_X9_since {l : Launch} {V : zm_V} {N : Nat} {S : zm_S} {out : (Int32 × zm_S)} {d : Nat} {a0 : Nat} {i1 : Int32} {i2 : Int32} (hd : 2 ≤ d) (h : zf_X9_since N a0 i1 i2 S = some out) : zm_Met l zk_E V yX9_since (.code yX9_since cX9_since 4 (some .int)) d [.ref a0, .int i1, .int i2] S 0 0 (zo_i out) zo_x := by
  refine zm_of (by decide +kernel) (Nat.le_of_ble_eq_true rfl) ?_
  intro p e R s m args below meth c hRR hX hr hxt
  have hR : R.frames = d ∧ R.locals = 64 * d := by rw [hRR]; exact ⟨rfl, rfl⟩
  have hX : zm_X p R s m args meth c RX9 "since" cX9_since 4 zk_E V 0 0 := hX
  unfold zf_X9_since at h
  refine zw_sub (lv' := [(0, .ref a0), (1, .int i1), (2, .int i2)]) (List.forall_mem_cons.mpr ⟨rfl, (List.forall_mem_cons.mpr ⟨rfl, (List.forall_mem_cons.mpr ⟨rfl, zs_nil⟩)⟩)⟩) ?_
  refine zw_iload_n hX dX9_since_0 rfl ?_
  refine zw_if_eq (tgt := 12) hX dX9_since_1 (by decide) (fun c1 => ?_) (fun c1 => ?_)
  · rw [if_pos c1] at h
    refine zw_iconst (v := (0 : Int32)) hX dX9_since_12 (by decide) ?_
    refine zw_sub (lv' := [(0, .ref a0), (2, .int i2)]) (List.forall_mem_cons.mpr ⟨rfl, (List.forall_mem_cons.mpr ⟨rfl, zs_nil⟩)⟩) ?_
    exact zt_X9_since_J13 hX hr hR hd h
  · rw [if_neg c1] at h
    refine zw_aload_n hX dX9_since_4 rfl ?_
    refine zw_iconst (v := (0 : Int32)) hX dX9_since_5 (by decide) ?_
    obtain ⟨v6, g, h⟩ := zb_some h
    refine zw_xi hX dX9_since_6 g ?_
    refine zw_iconst (v := (1 : Int32)) hX dX9_since_7 (by decide) ?_
    refine zw_iadd hX dX9_since_8 ?_
    refine zw_goto (tgt := 13) hX dX9_since_9 (by decide) ?_
    refine zw_sub (lv' := [(0, .ref a0), (2, .int i2)]) (List.forall_mem_cons.mpr ⟨rfl, (List.forall_mem_cons.mpr ⟨rfl, zs_nil⟩)⟩) ?_
    exact zt_X9_since_J13 hX hr hR hd h
def zf_X9_countFailure (N : Nat) (a0 : Nat) (i1 : Int32) (S : zm_S) : Option (Unit × zm_S) := (zg_r S a0 9 17).bind (fun b1 => (za_x S 0 b1 i1).bind (fun v2 => (zs_i S b1 i1 (v2 + (1 : Int32))).bind (fun S3 => (zg_r S3 a0 9 17).bind (fun b4 => (za_x S3 0 b4 (0 : Int32)).bind (fun v5 => (zs_i S3 b4 (0 : Int32) (v5 + (1 : Int32))).bind (fun S6 => some ((), S6)))))))
set_option maxHeartbeats 4000000 in
set_option maxRecDepth 100000 in
theorem zt_X9_countFailure {l : Launch} {V : zm_V} {N : Nat} {S : zm_S} {out : (Unit × zm_S)} {d : Nat} {a0 : Nat} {i1 : Int32} (hd : 1 ≤ d) (h : zf_X9_countFailure N a0 i1 S = some out) : zm_Met l zk_E V yX9_countFailure (.code yX9_countFailure cX9_countFailure 2 none) d [.ref a0, .int i1] S 0 0 (zo_v out) zo_x := by
  refine zm_of (by decide +kernel) (Nat.le_of_ble_eq_true rfl) ?_
  intro p e R s m args below meth c hRR hX hr hxt
  have hR : R.frames = d ∧ R.locals = 64 * d := by rw [hRR]; exact ⟨rfl, rfl⟩
  have hX : zm_X p R s m args meth c RX9 "countFailure" cX9_countFailure 2 zk_E V 0 0 := hX
  unfold zf_X9_countFailure at h
  refine zw_sub (lv' := [(0, .ref a0), (1, .int i1)]) (List.forall_mem_cons.mpr ⟨rfl, (List.forall_mem_cons.mpr ⟨rfl, zs_nil⟩)⟩) ?_
  refine zw_aload_n hX dX9_countFailure_0 rfl ?_
  obtain ⟨b1, g, h⟩ := zb_some h
  refine zw_getr hX zl_X9_57 dX9_countFailure_1 g ?_
  refine zw_iload_n hX dX9_countFailure_4 rfl ?_
  refine zw_dup2 hX dX9_countFailure_5 rfl rfl ?_
  obtain ⟨v2, g, h⟩ := zb_some h
  refine zw_xi hX dX9_countFailure_6 g ?_
  refine zw_iconst (v := (1 : Int32)) hX dX9_countFailure_7 (by decide) ?_
  refine zw_iadd hX dX9_countFailure_8 ?_
  obtain ⟨S3, g, h⟩ := zb_some h
  refine zw_si hX dX9_countFailure_9 g ?_
  refine zw_aload_n hX dX9_countFailure_10 rfl ?_
  obtain ⟨b4, g, h⟩ := zb_some h
  refine zw_getr hX zl_X9_57 dX9_countFailure_11 g ?_
  refine zw_iconst (v := (0 : Int32)) hX dX9_countFailure_14 (by decide) ?_
  refine zw_dup2 hX dX9_countFailure_15 rfl rfl ?_
  obtain ⟨v5, g, h⟩ := zb_some h
  refine zw_xi hX dX9_countFailure_16 g ?_
  refine zw_iconst (v := (1 : Int32)) hX dX9_countFailure_17 (by decide) ?_
  refine zw_iadd hX dX9_countFailure_18 ?_
  obtain ⟨S6, g, h⟩ := zb_some h
  refine zw_si hX dX9_countFailure_19 g ?_
  obtain rfl := Option.some.inj h
  exact zw_vret hX hr dX9_countFailure_20 ⟨rfl, rfl⟩
def zf_X9_takeDelayed (N : Nat) (a0 : Nat) (i1 : Int32) (S : zm_S) : Option (Unit × zm_S) := (zg_r S a0 9 5).bind (fun b1 => (za_r S b1 i1).bind (fun b2 => (za_x S 0 b2 (0 : Int32)).bind (fun v3 => if v3 = (-1 : Int32) then (zi S a0 9).bind (fun _ => (zf_X9_countFailure N a0 (3 : Int32) S).bind (fun r6 => (zg_r r6.2 a0 9 9).bind (fun b7 => (za_x r6.2 2 b7 i1).bind (fun v8 => if v8 = 0 then (zg_r r6.2 a0 9 6).bind (fun b9 => (zg_r r6.2 a0 9 4).bind (fun b10 => (za_x r6.2 0 b10 i1).bind (fun v11 => (zs_i r6.2 b9 i1 v11).bind (fun S12 => some ((), S12))))) else some ((), r6.2))))) else (zg_r S a0 9 7).bind (fun b13 => (za_r S b13 i1).bind (fun b14 => (zg_r S a0 9 6).bind (fun b15 => (za_x S 0 b15 v3).bind (fun v16 => (zs_i S b14 (0 : Int32) v16).bind (fun S17 => some ((), S17)))))))))
set_option maxHeartbeats 4000000 in
set_option maxRecDepth 100000 in
theorem zt_X9_takeDelayed {l : Launch} {V : zm_V} {N : Nat} {S : zm_S} {out : (Unit × zm_S)} {d : Nat} {a0 : Nat} {i1 : Int32} (hd : 2 ≤ d) (h : zf_X9_takeDelayed N a0 i1 S = some out) : zm_Met l zk_E V yX9_takeDelayed (.code yX9_takeDelayed cX9_takeDelayed 3 none) d [.ref a0, .int i1] S 0 0 (zo_v out) zo_x := by
  refine zm_of (by decide +kernel) (Nat.le_of_ble_eq_true rfl) ?_
  intro p e R s m args below meth c hRR hX hr hxt
  have hR : R.frames = d ∧ R.locals = 64 * d := by rw [hRR]; exact ⟨rfl, rfl⟩
  have hX : zm_X p R s m args meth c RX9 "takeDelayed" cX9_takeDelayed 3 zk_E V 0 0 := hX
  unfold zf_X9_takeDelayed at h
  refine zw_sub (lv' := [(0, .ref a0), (1, .int i1)]) (List.forall_mem_cons.mpr ⟨rfl, (List.forall_mem_cons.mpr ⟨rfl, zs_nil⟩)⟩) ?_
  refine zw_aload_n hX dX9_takeDelayed_0 rfl ?_
  obtain ⟨b1, g, h⟩ := zb_some h
  refine zw_getr hX zl_X9_26 dX9_takeDelayed_1 g ?_
  refine zw_iload_n hX dX9_takeDelayed_4 rfl ?_
  obtain ⟨b2, g, h⟩ := zb_some h
  refine zw_xr hX dX9_takeDelayed_5 g ?_
  refine zw_iconst (v := (0 : Int32)) hX dX9_takeDelayed_6 (by decide) ?_
  obtain ⟨v3, g, h⟩ := zb_some h
  refine zw_xi hX dX9_takeDelayed_7 g ?_
  refine zw_istore_n hX dX9_takeDelayed_8 (by decide) ?_
  refine zw_iload_n hX dX9_takeDelayed_9 rfl ?_
  refine zw_iconst (v := (-1 : Int32)) hX dX9_takeDelayed_10 (by decide) ?_
  refine zw_icmp_eq (tgt := 29) hX dX9_takeDelayed_11 (by decide) (fun c11 => ?_) (fun c11 => ?_)
  · rw [if_pos c11] at h
    refine zw_aload_n hX dX9_takeDelayed_29 rfl ?_
    refine zw_iconst (v := (3 : Int32)) hX dX9_takeDelayed_30 (by decide) ?_
    obtain ⟨_, gi, h⟩ := zb_some h
    obtain ⟨r6, g, h⟩ := zb_some h
    refine zc_Vv (as := [.int (3 : Int32)]) hX gi (zt_X9_countFailure (d := d - 1) (by omega) g) zl_X9_112 rfl dX9_takeDelayed_31 ⟨rfl, rfl, Nat.le_of_ble_eq_true rfl⟩ ⟨by omega, by omega⟩ ?_
    refine zw_aload_n hX dX9_takeDelayed_34 rfl ?_
    obtain ⟨b7, g, h⟩ := zb_some h
    refine zw_getr hX zl_X9_38 dX9_takeDelayed_35 g ?_
    refine zw_iload_n hX dX9_takeDelayed_38 rfl ?_
    obtain ⟨v8, g, h⟩ := zb_some h
    refine zw_xz hX dX9_takeDelayed_39 g ?_
    refine zw_if_ne (tgt := 55) hX dX9_takeDelayed_40 (by decide) (fun c40 => ?_) (fun c40 => ?_)
    · rw [if_neg c40] at h
      obtain rfl := Option.some.inj h
      exact zw_vret hX hr dX9_takeDelayed_55 ⟨rfl, rfl⟩
    · rw [if_pos c40] at h
      refine zw_aload_n hX dX9_takeDelayed_43 rfl ?_
      obtain ⟨b9, g, h⟩ := zb_some h
      refine zw_getr hX zl_X9_29 dX9_takeDelayed_44 g ?_
      refine zw_iload_n hX dX9_takeDelayed_47 rfl ?_
      refine zw_aload_n hX dX9_takeDelayed_48 rfl ?_
      obtain ⟨b10, g, h⟩ := zb_some h
      refine zw_getr hX zl_X9_21 dX9_takeDelayed_49 g ?_
      refine zw_iload_n hX dX9_takeDelayed_52 rfl ?_
      obtain ⟨v11, g, h⟩ := zb_some h
      refine zw_xi hX dX9_takeDelayed_53 g ?_
      obtain ⟨S12, g, h⟩ := zb_some h
      refine zw_si hX dX9_takeDelayed_54 g ?_
      obtain rfl := Option.some.inj h
      exact zw_vret hX hr dX9_takeDelayed_55 ⟨rfl, rfl⟩
  · rw [if_neg c11] at h
    refine zw_aload_n hX dX9_takeDelayed_14 rfl ?_
    obtain ⟨b13, g, h⟩ := zb_some h
    refine zw_getr hX zl_X9_32 dX9_takeDelayed_15 g ?_
    refine zw_iload_n hX dX9_takeDelayed_18 rfl ?_
    obtain ⟨b14, g, h⟩ := zb_some h
    refine zw_xr hX dX9_takeDelayed_19 g ?_
    refine zw_iconst (v := (0 : Int32)) hX dX9_takeDelayed_20 (by decide) ?_
    refine zw_aload_n hX dX9_takeDelayed_21 rfl ?_
    obtain ⟨b15, g, h⟩ := zb_some h
    refine zw_getr hX zl_X9_29 dX9_takeDelayed_22 g ?_
    refine zw_iload_n hX dX9_takeDelayed_25 rfl ?_
    obtain ⟨v16, g, h⟩ := zb_some h
    refine zw_xi hX dX9_takeDelayed_26 g ?_
    obtain ⟨S17, g, h⟩ := zb_some h
    refine zw_si hX dX9_takeDelayed_27 g ?_
    obtain rfl := Option.some.inj h
    exact zw_vret hX hr dX9_takeDelayed_28 ⟨rfl, rfl⟩
def zf_X10_isInSpace (N : Nat) (a0 : Nat) (i1 : Int32) (S : zm_S) : Option (Int32 × zm_S) := if i1 < 0 then some ((0 : Int32), S) else if (576 : Int32) ≤ i1 then some ((0 : Int32), S) else (zg_r S a0 10 1).bind (fun b1 => (zg_r S b1 2 6).bind (fun b2 => (za_x S 0 b2 i1).bind (fun v3 => if v3 = (-1 : Int32) then some ((0 : Int32), S) else some ((1 : Int32), S))))
set_option maxHeartbeats 4000000 in
set_option maxRecDepth 100000 in
theorem zt_X10_isInSpace {l : Launch} {V : zm_V} {N : Nat} {S : zm_S} {out : (Int32 × zm_S)} {d : Nat} {a0 : Nat} {i1 : Int32} (hd : 1 ≤ d) (h : zf_X10_isInSpace N a0 i1 S = some out) : zm_Met l zk_E V yX10_isInSpace (.code yX10_isInSpace cX10_isInSpace 2 (some .boolean)) d [.ref a0, .int i1] S 0 0 (zo_i out) zo_x := by
  refine zm_of (by decide +kernel) (Nat.le_of_ble_eq_true rfl) ?_
  intro p e R s m args below meth c hRR hX hr hxt
  have hR : R.frames = d ∧ R.locals = 64 * d := by rw [hRR]; exact ⟨rfl, rfl⟩
  have hX : zm_X p R s m args meth c RX10 "isInSpace" cX10_isInSpace 2 zk_E V 0 0 := hX
  unfold zf_X10_isInSpace at h
  refine zw_sub (lv' := [(0, .ref a0), (1, .int i1)]) (List.forall_mem_cons.mpr ⟨rfl, (List.forall_mem_cons.mpr ⟨rfl, zs_nil⟩)⟩) ?_
  refine zw_iload_n hX dX10_isInSpace_0 rfl ?_
  refine zw_if_lt (tgt := 28) hX dX10_isInSpace_1 (by decide) (fun c1 => ?_) (fun c1 => ?_)
  · rw [if_pos c1] at h
    refine zw_iconst (v := (0 : Int32)) hX dX10_isInSpace_28 (by decide) ?_
    obtain rfl := Option.some.inj h
    exact zw_iret hX hr dX10_isInSpace_29 rfl ⟨rfl, rfl⟩
  · rw [if_neg c1] at h
    refine zw_iload_n hX dX10_isInSpace_4 rfl ?_
    refine zw_sipush (v := (576 : Int32)) hX dX10_isInSpace_5 (by decide) ?_
    refine zw_icmp_ge (tgt := 28) hX dX10_isInSpace_8 (by decide) (fun c8 => ?_) (fun c8 => ?_)
    · rw [if_pos c8] at h
      refine zw_iconst (v := (0 : Int32)) hX dX10_isInSpace_28 (by decide) ?_
      obtain rfl := Option.some.inj h
      exact zw_iret hX hr dX10_isInSpace_29 rfl ⟨rfl, rfl⟩
    · rw [if_neg c8] at h
      refine zw_aload_n hX dX10_isInSpace_11 rfl ?_
      obtain ⟨b1, g, h⟩ := zb_some h
      refine zw_getr hX zl_X10_44 dX10_isInSpace_12 g ?_
      obtain ⟨b2, g, h⟩ := zb_some h
      refine zw_getNr hX zl_X10_55 dX10_isInSpace_15 g ?_
      refine zw_iload_n hX dX10_isInSpace_18 rfl ?_
      obtain ⟨v3, g, h⟩ := zb_some h
      refine zw_xi hX dX10_isInSpace_19 g ?_
      refine zw_iconst (v := (-1 : Int32)) hX dX10_isInSpace_20 (by decide) ?_
      refine zw_icmp_eq (tgt := 28) hX dX10_isInSpace_21 (by decide) (fun c21 => ?_) (fun c21 => ?_)
      · rw [if_pos c21] at h
        refine zw_iconst (v := (0 : Int32)) hX dX10_isInSpace_28 (by decide) ?_
        obtain rfl := Option.some.inj h
        exact zw_iret hX hr dX10_isInSpace_29 rfl ⟨rfl, rfl⟩
      · rw [if_neg c21] at h
        refine zw_iconst (v := (1 : Int32)) hX dX10_isInSpace_24 (by decide) ?_
        refine zw_goto (tgt := 29) hX dX10_isInSpace_25 (by decide) ?_
        obtain rfl := Option.some.inj h
        exact zw_iret hX hr dX10_isInSpace_29 rfl ⟨rfl, rfl⟩
def zf_X10_canGo (N : Nat) (a0 : Nat) (i1 : Int32) (i2 : Int32) (S : zm_S) : Option (Int32 × zm_S) := (zg_r S a0 10 1).bind (fun b1 => (zi S b1 2).bind (fun _ => (zf_X2_wallBeside N b1 i1 i2 S).bind (fun r4 => if r4.1 = (-1 : Int32) then some ((1 : Int32), r4.2) else (zg_r r4.2 a0 10 0).bind (fun b5 => (zg_r r4.2 a0 10 1).bind (fun b6 => (zi r4.2 b6 2).bind (fun _ => (zf_X2_distanceBeside N b6 i1 i2 r4.1 r4.2).bind (fun r9 => (zi r9.2 b5 8).bind (fun _ => (zf_X8_hasDoorAt N b5 r4.1 r9.1 r9.2).bind (fun r12 => if r12.1 = 0 then some ((0 : Int32), r12.2) else some ((1 : Int32), r12.2))))))))))
set_option maxHeartbeats 4000000 in
set_option maxRecDepth 100000 in
theorem zt_X10_canGo {l : Launch} {V : zm_V} {N : Nat} {S : zm_S} {out : (Int32 × zm_S)} {d : Nat} {a0 : Nat} {i1 : Int32} {i2 : Int32} (hd : 4 ≤ d) (h : zf_X10_canGo N a0 i1 i2 S = some out) : zm_Met l zk_E V yX10_canGo (.code yX10_canGo cX10_canGo 4 (some .boolean)) d [.ref a0, .int i1, .int i2] S 0 0 (zo_i out) zo_x := by
  refine zm_of (by decide +kernel) (Nat.le_of_ble_eq_true rfl) ?_
  intro p e R s m args below meth c hRR hX hr hxt
  have hR : R.frames = d ∧ R.locals = 64 * d := by rw [hRR]; exact ⟨rfl, rfl⟩
  have hX : zm_X p R s m args meth c RX10 "canGo" cX10_canGo 4 zk_E V 0 0 := hX
  unfold zf_X10_canGo at h
  refine zw_sub (lv' := [(0, .ref a0), (1, .int i1), (2, .int i2)]) (List.forall_mem_cons.mpr ⟨rfl, (List.forall_mem_cons.mpr ⟨rfl, (List.forall_mem_cons.mpr ⟨rfl, zs_nil⟩)⟩)⟩) ?_
  refine zw_aload_n hX dX10_canGo_0 rfl ?_
  obtain ⟨b1, g, h⟩ := zb_some h
  refine zw_getr hX zl_X10_44 dX10_canGo_1 g ?_
  refine zw_iload_n hX dX10_canGo_4 rfl ?_
  refine zw_iload_n hX dX10_canGo_5 rfl ?_
  obtain ⟨_, gi, h⟩ := zb_some h
  obtain ⟨r4, g, h⟩ := zb_some h
  refine zc_Vi (as := [.int i1, .int i2]) hX gi (zt_X2_wallBeside (d := d - 1) (by omega) g) zl_X10_58 rfl dX10_canGo_6 ⟨rfl, rfl, Nat.le_of_ble_eq_true rfl⟩ ⟨by omega, by omega⟩ ?_
  refine zw_istore_n hX dX10_canGo_9 (by decide) ?_
  refine zw_iload_n hX dX10_canGo_10 rfl ?_
  refine zw_iconst (v := (-1 : Int32)) hX dX10_canGo_11 (by decide) ?_
  refine zw_icmp_eq (tgt := 36) hX dX10_canGo_12 (by decide) (fun c12 => ?_) (fun c12 => ?_)
  · rw [if_pos c12] at h
    refine zw_iconst (v := (1 : Int32)) hX dX10_canGo_36 (by decide) ?_
    refine zw_goto (tgt := 41) hX dX10_canGo_37 (by decide) ?_
    obtain rfl := Option.some.inj h
    exact zw_iret hX hr dX10_canGo_41 rfl ⟨rfl, rfl⟩
  · rw [if_neg c12] at h
    refine zw_aload_n hX dX10_canGo_15 rfl ?_
    obtain ⟨b5, g, h⟩ := zb_some h
    refine zw_getr hX zl_X10_40 dX10_canGo_16 g ?_
    refine zw_iload_n hX dX10_canGo_19 rfl ?_
    refine zw_aload_n hX dX10_canGo_20 rfl ?_
    obtain ⟨b6, g, h⟩ := zb_some h
    refine zw_getr hX zl_X10_44 dX10_canGo_21 g ?_
    refine zw_iload_n hX dX10_canGo_24 rfl ?_
    refine zw_iload_n hX dX10_canGo_25 rfl ?_
    refine zw_iload_n hX dX10_canGo_26 rfl ?_
    obtain ⟨_, gi, h⟩ := zb_some h
    obtain ⟨r9, g, h⟩ := zb_some h
    refine zc_Vi (as := [.int i1, .int i2, .int r4.1]) hX gi (zt_X2_distanceBeside (d := d - 1) (by omega) g) zl_X10_62 rfl dX10_canGo_27 ⟨rfl, rfl, Nat.le_of_ble_eq_true rfl⟩ ⟨by omega, by omega⟩ ?_
    obtain ⟨_, gi, h⟩ := zb_some h
    obtain ⟨r12, g, h⟩ := zb_some h
    refine zc_Vi (as := [.int r4.1, .int r9.1]) hX gi (zt_X8_hasDoorAt (d := d - 1) (by omega) g) zl_X10_66 rfl dX10_canGo_30 ⟨rfl, rfl, Nat.le_of_ble_eq_true rfl⟩ ⟨by omega, by omega⟩ ?_
    refine zw_if_eq (tgt := 40) hX dX10_canGo_33 (by decide) (fun c33 => ?_) (fun c33 => ?_)
    · rw [if_pos c33] at h
      refine zw_iconst (v := (0 : Int32)) hX dX10_canGo_40 (by decide) ?_
      obtain rfl := Option.some.inj h
      exact zw_iret hX hr dX10_canGo_41 rfl ⟨rfl, rfl⟩
    · rw [if_neg c33] at h
      refine zw_iconst (v := (1 : Int32)) hX dX10_canGo_36 (by decide) ?_
      refine zw_goto (tgt := 41) hX dX10_canGo_37 (by decide) ?_
      obtain rfl := Option.some.inj h
      exact zw_iret hX hr dX10_canGo_41 rfl ⟨rfl, rfl⟩
def zf_X10_isBesideOutside_L2 (N : Nat) : Nat → Nat → Int32 → Int32 → zm_S → Option ((Int32 × zm_S) ⊕ ((Unit) × zm_S))
  | 0, _, _, _, _ => none
  | n + 1, a0, i1, i2, S => if (4 : Int32) ≤ i2 then some (.inr ((), S)) else (zg_r S a0 10 1).bind (fun b1 => (zi S b1 2).bind (fun _ => (zf_X2_cellBeside N b1 i1 i2 S).bind (fun r4 => (zi r4.2 a0 10).bind (fun _ => (zf_X10_isInSpace N a0 r4.1 r4.2).bind (fun r7 => if r7.1 = 0 then (zi r7.2 a0 10).bind (fun _ => (zf_X10_canGo N a0 i1 i2 r7.2).bind (fun r10 => if r10.1 = 0 then zf_X10_isBesideOutside_L2 N n a0 i1 (i2 + (1 : Int32)) r10.2 else some (.inl ((1 : Int32), r10.2)))) else zf_X10_isBesideOutside_L2 N n a0 i1 (i2 + (1 : Int32)) r7.2)))))
set_option maxHeartbeats 4000000 in
set_option maxRecDepth 100000 in
theorem zt_X10_isBesideOutside_L2 {p : Program} {l : Launch} {e : Env} {R : Room} {s : State} {m : MethodId} {args : Array Value} {below : List Frame} {meth : Method} {c : Code} {V : zm_V} {mc ms d rc rs : Nat} (hX : zm_X p R s m args meth c RX10 "isBesideOutside" cX10_isBesideOutside 3 zk_E V mc ms) (hr : meth.sig.returnType = (some .boolean)) (hR : R.frames = d ∧ R.locals = 64 * d) (hd : 5 ≤ d) {N : Nat} {res : (Int32 × zm_S) ⊕ ((Unit) × zm_S)} {out : (Int32 × zm_S)} (a0 : Nat) (i1 : Int32) (hf : ∀ o, res = .inl o → o = out) (hk : ∀ (S' : zm_S), res = .inr ((), S') → zw p l e R s m args below meth c (vx_MQ below (zm_Qc zk_E V (zo_i out)) (zm_XC zk_E V zo_x) args s mc ms (fun q => V.2.2.2.1 ≤ q)) 3 zk_E V mc ms 40 [] [] S' rc rs) : ∀ (n : Nat) (i2 : Int32) (S : zm_S), zf_X10_isBesideOutside_L2 N n a0 i1 i2 S = some res → zw p l e R s m args below meth c (vx_MQ below (zm_Qc zk_E V (zo_i out)) (zm_XC zk_E V zo_x) args s mc ms (fun q => V.2.2.2.1 ≤ q)) 3 zk_E V mc ms 2 [(0, .ref a0), (1, .int i1), (2, .int i2)] [] S rc rs := by
  intro n
  induction n with
  | zero => intro i2 S h; cases h
  | succ n ih =>
    intro i2 S h
    rw [zf_X10_isBesideOutside_L2] at h
    refine zw_iload_n hX dX10_isBesideOutside_2 rfl ?_
    refine zw_iconst (v := (4 : Int32)) hX dX10_isBesideOutside_3 (by decide) ?_
    refine zw_icmp_ge (tgt := 40) hX dX10_isBesideOutside_4 (by decide) (fun c4 => ?_) (fun c4 => ?_)
    · rw [if_pos c4] at h
      refine zw_sub (lv' := []) zs_nil ?_
      exact hk  _ (Option.some.inj h).symm
    · rw [if_neg c4] at h
      refine zw_aload_n hX dX10_isBesideOutside_7 rfl ?_
      refine zw_aload_n hX dX10_isBesideOutside_8 rfl ?_
      obtain ⟨b1, g, h⟩ := zb_some h
      refine zw_getr hX zl_X10_44 dX10_isBesideOutside_9 g ?_
      refine zw_iload_n hX dX10_isBesideOutside_12 rfl ?_
      refine zw_iload_n hX dX10_isBesideOutside_13 rfl ?_
      obtain ⟨_, gi, h⟩ := zb_some h
      obtain ⟨r4, g, h⟩ := zb_some h
      refine zc_Vi (as := [.int i1, .int i2]) hX gi (zt_X2_cellBeside (d := d - 1) (by omega) g) zl_X10_77 rfl dX10_isBesideOutside_14 ⟨rfl, rfl, Nat.le_of_ble_eq_true rfl⟩ ⟨by omega, by omega⟩ ?_
      obtain ⟨_, gi, h⟩ := zb_some h
      obtain ⟨r7, g, h⟩ := zb_some h
      refine zc_Vi (as := [.int r4.1]) hX gi (zt_X10_isInSpace (d := d - 1) (by omega) g) zl_X10_70 rfl dX10_isBesideOutside_17 ⟨rfl, rfl, Nat.le_of_ble_eq_true rfl⟩ ⟨by omega, by omega⟩ ?_
      refine zw_if_ne (tgt := 34) hX dX10_isBesideOutside_20 (by decide) (fun c20 => ?_) (fun c20 => ?_)
      · rw [if_neg c20] at h
        refine zw_iinc (v := (i2 + (1 : Int32))) hX dX10_isBesideOutside_34 rfl rfl (by decide) ?_
        refine zw_goto (tgt := 2) hX dX10_isBesideOutside_37 (by decide) ?_
        refine zw_sub (lv' := [(0, .ref a0), (1, .int i1), (2, .int (i2 + (1 : Int32)))]) (List.forall_mem_cons.mpr ⟨rfl, (List.forall_mem_cons.mpr ⟨rfl, (List.forall_mem_cons.mpr ⟨rfl, zs_nil⟩)⟩)⟩) ?_
        exact ih _ _ h
      · rw [if_pos c20] at h
        refine zw_aload_n hX dX10_isBesideOutside_23 rfl ?_
        refine zw_iload_n hX dX10_isBesideOutside_24 rfl ?_
        refine zw_iload_n hX dX10_isBesideOutside_25 rfl ?_
        obtain ⟨_, gi, h⟩ := zb_some h
        obtain ⟨r10, g, h⟩ := zb_some h
        refine zc_Vi (as := [.int i1, .int i2]) hX gi (zt_X10_canGo (d := d - 1) (by omega) g) zl_X10_80 rfl dX10_isBesideOutside_26 ⟨rfl, rfl, Nat.le_of_ble_eq_true rfl⟩ ⟨by omega, by omega⟩ ?_
        refine zw_if_eq (tgt := 34) hX dX10_isBesideOutside_29 (by decide) (fun c29 => ?_) (fun c29 => ?_)
        · rw [if_pos c29] at h
          refine zw_iinc (v := (i2 + (1 : Int32))) hX dX10_isBesideOutside_34 rfl rfl (by decide) ?_
          refine zw_goto (tgt := 2) hX dX10_isBesideOutside_37 (by decide) ?_
          refine zw_sub (lv' := [(0, .ref a0), (1, .int i1), (2, .int (i2 + (1 : Int32)))]) (List.forall_mem_cons.mpr ⟨rfl, (List.forall_mem_cons.mpr ⟨rfl, (List.forall_mem_cons.mpr ⟨rfl, zs_nil⟩)⟩)⟩) ?_
          exact ih _ _ h
        · rw [if_neg c29] at h
          refine zw_iconst (v := (1 : Int32)) hX dX10_isBesideOutside_32 (by decide) ?_
          have hz := hf _ (Option.some.inj h).symm
          subst hz
          exact zw_iret hX hr dX10_isBesideOutside_33 rfl ⟨rfl, rfl⟩
def zf_X10_isBesideOutside (N : Nat) (a0 : Nat) (i1 : Int32) (S : zm_S) : Option (Int32 × zm_S) := (zf_X10_isBesideOutside_L2 N N a0 i1 (0 : Int32) S).bind (fun r => match r with | .inl o => some o | .inr (_, S11) => some ((0 : Int32), S11))
set_option maxHeartbeats 4000000 in
set_option maxRecDepth 100000 in
theorem zt_X10_isBesideOutside {l : Launch} {V : zm_V} {N : Nat} {S : zm_S} {out : (Int32 × zm_S)} {d : Nat} {a0 : Nat} {i1 : Int32} (hd : 5 ≤ d) (h : zf_X10_isBesideOutside N a0 i1 S = some out) : zm_Met l zk_E V yX10_isBesideOutside (.code yX10_isBesideOutside cX10_isBesideOutside 3 (some .boolean)) d [.ref a0, .int i1] S 0 0 (zo_i out) zo_x := by
  refine zm_of (by decide +kernel) (Nat.le_of_ble_eq_true rfl) ?_
  intro p e R s m args below meth c hRR hX hr hxt
  have hR : R.frames = d ∧ R.locals = 64 * d := by rw [hRR]; exact ⟨rfl, rfl⟩
  have hX : zm_X p R s m args meth c RX10 "isBesideOutside" cX10_isBesideOutside 3 zk_E V 0 0 := hX
  unfold zf_X10_isBesideOutside at h
  refine zw_sub (lv' := [(0, .ref a0), (1, .int i1)]) (List.forall_mem_cons.mpr ⟨rfl, (List.forall_mem_cons.mpr ⟨rfl, zs_nil⟩)⟩) ?_
  refine zw_iconst (v := (0 : Int32)) hX dX10_isBesideOutside_0 (by decide) ?_
  refine zw_istore_n hX dX10_isBesideOutside_1 (by decide) ?_
  obtain ⟨r, g, h⟩ := zb_some h
  refine zw_sub (lv' := [(0, .ref a0), (1, .int i1), (2, .int (0 : Int32))]) (List.forall_mem_cons.mpr ⟨rfl, (List.forall_mem_cons.mpr ⟨rfl, (List.forall_mem_cons.mpr ⟨rfl, zs_nil⟩)⟩)⟩) ?_
  refine zt_X10_isBesideOutside_L2 hX hr hR hd (res := r) (out := out) a0 i1 ?_ ?_ N _ _ g
  · intro o ho
    subst ho
    exact Option.some.inj h
  · intro  S11 hx
    subst hx
    try dsimp only at h
    refine zw_iconst (v := (0 : Int32)) hX dX10_isBesideOutside_40 (by decide) ?_
    obtain rfl := Option.some.inj h
    exact zw_iret hX hr dX10_isBesideOutside_41 rfl ⟨rfl, rfl⟩
def zf_X10_numberCells_L4 (N : Nat) : Nat → Nat → Int32 → Int32 → zm_S → Option ((Unit × zm_S) ⊕ ((Int32) × zm_S))
  | 0, _, _, _, _ => none
  | n + 1, a0, i1, i2, S => if (576 : Int32) ≤ i2 then some (.inr (i1, S)) else (zg_r S a0 10 5).bind (fun b1 => (zs_i S b1 i2 (-1 : Int32)).bind (fun S2 => (zi S2 a0 10).bind (fun _ => (zf_X10_isInSpace N a0 i2 S2).bind (fun r5 => if r5.1 = 0 then zf_X10_numberCells_L4 N n a0 i1 (i2 + (1 : Int32)) r5.2 else (zi r5.2 a0 10).bind (fun _ => (zf_X10_isBesideOutside N a0 i2 r5.2).bind (fun r8 => if r8.1 = 0 then zf_X10_numberCells_L4 N n a0 i1 (i2 + (1 : Int32)) r8.2 else (zg_r r8.2 a0 10 5).bind (fun b9 => (zs_i r8.2 b9 i2 (1 : Int32)).bind (fun S10 => (zg_r S10 a0 10 6).bind (fun b11 => (zs_i S10 b11 i1 i2).bind (fun S12 => zf_X10_numberCells_L4 N n a0 (i1 + (1 : Int32)) (i2 + (1 : Int32)) S12))))))))))
set_option maxHeartbeats 4000000 in
set_option maxRecDepth 100000 in
theorem zt_X10_numberCells_L4 {p : Program} {l : Launch} {e : Env} {R : Room} {s : State} {m : MethodId} {args : Array Value} {below : List Frame} {meth : Method} {c : Code} {V : zm_V} {mc ms d rc rs : Nat} (hX : zm_X p R s m args meth c RX10 "numberCells" cX10_numberCells 6 zk_E V mc ms) (hr : meth.sig.returnType = none) (hR : R.frames = d ∧ R.locals = 64 * d) (hd : 6 ≤ d) {N : Nat} {res : (Unit × zm_S) ⊕ ((Int32) × zm_S)} {out : (Unit × zm_S)} (a0 : Nat) (hf : ∀ o, res = .inl o → o = out) (hk : ∀ (x1 : Int32) (S' : zm_S), res = .inr (x1, S') → zw p l e R s m args below meth c (vx_MQ below (zm_Qc zk_E V (zo_v out)) (zm_XC zk_E V zo_x) args s mc ms (fun q => V.2.2.2.1 ≤ q)) 6 zk_E V mc ms 57 [(0, .ref a0), (1, .int x1)] [] S' rc rs) : ∀ (n : Nat) (i1 : Int32) (i2 : Int32) (S : zm_S), zf_X10_numberCells_L4 N n a0 i1 i2 S = some res → zw p l e R s m args below meth c (vx_MQ below (zm_Qc zk_E V (zo_v out)) (zm_XC zk_E V zo_x) args s mc ms (fun q => V.2.2.2.1 ≤ q)) 6 zk_E V mc ms 4 [(0, .ref a0), (1, .int i1), (2, .int i2)] [] S rc rs := by
  intro n
  induction n with
  | zero => intro i1 i2 S h; cases h
  | succ n ih =>
    intro i1 i2 S h
    rw [zf_X10_numberCells_L4] at h
    refine zw_iload_n hX dX10_numberCells_4 rfl ?_
    refine zw_sipush (v := (576 : Int32)) hX dX10_numberCells_5 (by decide) ?_
    refine zw_icmp_ge (tgt := 57) hX dX10_numberCells_8 (by decide) (fun c8 => ?_) (fun c8 => ?_)
    · rw [if_pos c8] at h
      refine zw_sub (lv' := [(0, .ref a0), (1, .int i1)]) (List.forall_mem_cons.mpr ⟨rfl, (List.forall_mem_cons.mpr ⟨rfl, zs_nil⟩)⟩) ?_
      exact hk _ _ (Option.some.inj h).symm
    · rw [if_neg c8] at h
      refine zw_aload_n hX dX10_numberCells_11 rfl ?_
      obtain ⟨b1, g, h⟩ := zb_some h
      refine zw_getr hX zl_X10_21 dX10_numberCells_12 g ?_
      refine zw_iload_n hX dX10_numberCells_15 rfl ?_
      refine zw_iconst (v := (-1 : Int32)) hX dX10_numberCells_16 (by decide) ?_
      obtain ⟨S2, g, h⟩ := zb_some h
      refine zw_si hX dX10_numberCells_17 g ?_
      refine zw_aload_n hX dX10_numberCells_18 rfl ?_
      refine zw_iload_n hX dX10_numberCells_19 rfl ?_
      obtain ⟨_, gi, h⟩ := zb_some h
      obtain ⟨r5, g, h⟩ := zb_some h
      refine zc_Vi (as := [.int i2]) hX gi (zt_X10_isInSpace (d := d - 1) (by omega) g) zl_X10_70 rfl dX10_numberCells_20 ⟨rfl, rfl, Nat.le_of_ble_eq_true rfl⟩ ⟨by omega, by omega⟩ ?_
      refine zw_if_eq (tgt := 51) hX dX10_numberCells_23 (by decide) (fun c23 => ?_) (fun c23 => ?_)
      · rw [if_pos c23] at h
        refine zw_iinc (v := (i2 + (1 : Int32))) hX dX10_numberCells_51 rfl rfl (by decide) ?_
        refine zw_goto (tgt := 4) hX dX10_numberCells_54 (by decide) ?_
        refine zw_sub (lv' := [(0, .ref a0), (1, .int i1), (2, .int (i2 + (1 : Int32)))]) (List.forall_mem_cons.mpr ⟨rfl, (List.forall_mem_cons.mpr ⟨rfl, (List.forall_mem_cons.mpr ⟨rfl, zs_nil⟩)⟩)⟩) ?_
        exact ih _ _ _ h
      · rw [if_neg c23] at h
        refine zw_aload_n hX dX10_numberCells_26 rfl ?_
        refine zw_iload_n hX dX10_numberCells_27 rfl ?_
        obtain ⟨_, gi, h⟩ := zb_some h
        obtain ⟨r8, g, h⟩ := zb_some h
        refine zc_Vi (as := [.int i2]) hX gi (zt_X10_isBesideOutside (d := d - 1) (by omega) g) zl_X10_74 rfl dX10_numberCells_28 ⟨rfl, rfl, Nat.le_of_ble_eq_true rfl⟩ ⟨by omega, by omega⟩ ?_
        refine zw_if_eq (tgt := 51) hX dX10_numberCells_31 (by decide) (fun c31 => ?_) (fun c31 => ?_)
        · rw [if_pos c31] at h
          refine zw_iinc (v := (i2 + (1 : Int32))) hX dX10_numberCells_51 rfl rfl (by decide) ?_
          refine zw_goto (tgt := 4) hX dX10_numberCells_54 (by decide) ?_
          refine zw_sub (lv' := [(0, .ref a0), (1, .int i1), (2, .int (i2 + (1 : Int32)))]) (List.forall_mem_cons.mpr ⟨rfl, (List.forall_mem_cons.mpr ⟨rfl, (List.forall_mem_cons.mpr ⟨rfl, zs_nil⟩)⟩)⟩) ?_
          exact ih _ _ _ h
        · rw [if_neg c31] at h
          refine zw_aload_n hX dX10_numberCells_34 rfl ?_
          obtain ⟨b9, g, h⟩ := zb_some h
          refine zw_getr hX zl_X10_21 dX10_numberCells_35 g ?_
          refine zw_iload_n hX dX10_numberCells_38 rfl ?_
          refine zw_iconst (v := (1 : Int32)) hX dX10_numberCells_39 (by decide) ?_
          obtain ⟨S10, g, h⟩ := zb_some h
          refine zw_si hX dX10_numberCells_40 g ?_
          refine zw_aload_n hX dX10_numberCells_41 rfl ?_
          obtain ⟨b11, g, h⟩ := zb_some h
          refine zw_getr hX zl_X10_24 dX10_numberCells_42 g ?_
          refine zw_iload_n hX dX10_numberCells_45 rfl ?_
          refine zw_iload_n hX dX10_numberCells_46 rfl ?_
          obtain ⟨S12, g, h⟩ := zb_some h
          refine zw_si hX dX10_numberCells_47 g ?_
          refine zw_iinc (v := (i1 + (1 : Int32))) hX dX10_numberCells_48 rfl rfl (by decide) ?_
          refine zw_iinc (v := (i2 + (1 : Int32))) hX dX10_numberCells_51 rfl rfl (by decide) ?_
          refine zw_goto (tgt := 4) hX dX10_numberCells_54 (by decide) ?_
          refine zw_sub (lv' := [(0, .ref a0), (1, .int (i1 + (1 : Int32))), (2, .int (i2 + (1 : Int32)))]) (List.forall_mem_cons.mpr ⟨rfl, (List.forall_mem_cons.mpr ⟨rfl, (List.forall_mem_cons.mpr ⟨rfl, zs_nil⟩)⟩)⟩) ?_
          exact ih _ _ _ h
def zf_X10_numberCells_J119 (N : Nat) (k : Nat → Int32 → Int32 → Int32 → zm_S → Option ((Unit × zm_S) ⊕ ((Int32) × zm_S))) (a0 : Nat) (i1 : Int32) (i2 : Int32) (i3 : Int32) (i4 : Int32) (t0 : Int32) (S : zm_S) : Option ((Unit × zm_S) ⊕ ((Int32) × zm_S)) := if t0 = 0 then k a0 i1 i2 (i3 + (1 : Int32)) S else (zg_r S a0 10 6).bind (fun b24 => (za_x S 0 b24 i2).bind (fun v25 => (zi S a0 10).bind (fun _ => (zf_X10_canGo N a0 v25 i3 S).bind (fun r28 => if r28.1 = 0 then k a0 i1 i2 (i3 + (1 : Int32)) r28.2 else (zg_r r28.2 a0 10 5).bind (fun b29 => (zg_r r28.2 a0 10 5).bind (fun b30 => (zg_r r28.2 a0 10 6).bind (fun b31 => (za_x r28.2 0 b31 i2).bind (fun v32 => (za_x r28.2 0 b30 v32).bind (fun v33 => (zs_i r28.2 b29 i4 (v33 + (1 : Int32))).bind (fun S34 => (zg_r S34 a0 10 6).bind (fun b35 => (zs_i S34 b35 i1 i4).bind (fun S36 => k a0 (i1 + (1 : Int32)) i2 (i3 + (1 : Int32)) S36))))))))))))
set_option maxHeartbeats 4000000 in
set_option maxRecDepth 100000 in
theorem zt_X10_numberCells_J119 {p : Program} {l : Launch} {e : Env} {R : Room} {s : State} {m : MethodId} {args : Array Value} {below : List Frame} {meth : Method} {c : Code} {V : zm_V} {mc ms d rc rs : Nat} (hX : zm_X p R s m args meth c RX10 "numberCells" cX10_numberCells 6 zk_E V mc ms) (hr : meth.sig.returnType = none) (hR : R.frames = d ∧ R.locals = 64 * d) (hd : 6 ≤ d) {N : Nat} {k : Nat → Int32 → Int32 → Int32 → zm_S → Option ((Unit × zm_S) ⊕ ((Int32) × zm_S))} {a0 : Nat} {i1 : Int32} {i2 : Int32} {i3 : Int32} {i4 : Int32} {t0 : Int32} {res : (Unit × zm_S) ⊕ ((Int32) × zm_S)} {out : (Unit × zm_S)}   (hf : ∀ o, res = .inl o → o = out) (hk : ∀ (x1 : Int32) (S' : zm_S), res = .inr (x1, S') → zw p l e R s m args below meth c (vx_MQ below (zm_Qc zk_E V (zo_v out)) (zm_XC zk_E V zo_x) args s mc ms (fun q => V.2.2.2.1 ≤ q)) 6 zk_E V mc ms 177 [(0, .ref a0), (1, .int x1), (2, .int i2)] [] S' rc rs) (hrec : ∀ (i1' : Int32) (i3' : Int32) (S : zm_S), k a0 i1' i2 i3' S = some res → zw p l e R s m args below meth c (vx_MQ below (zm_Qc zk_E V (zo_v out)) (zm_XC zk_E V zo_x) args s mc ms (fun q => V.2.2.2.1 ≤ q)) 6 zk_E V mc ms 66 [(0, .ref a0), (1, .int i1'), (2, .int i2), (3, .int i3')] [] S rc rs) {S : zm_S} (h : zf_X10_numberCells_J119 N k a0 i1 i2 i3 i4 t0 S = some res) : zw p l e R s m args below meth c (vx_MQ below (zm_Qc zk_E V (zo_v out)) (zm_XC zk_E V zo_x) args s mc ms (fun q => V.2.2.2.1 ≤ q)) 6 zk_E V mc ms 119 [(0, .ref a0), (1, .int i1), (2, .int i2), (3, .int i3), (4, .int i4)] [.int t0] S rc rs := by
  unfold zf_X10_numberCells_J119 at h
  refine zw_istore hX dX10_numberCells_119 (by decide) ?_
  refine zw_iload hX dX10_numberCells_121 rfl ?_
  refine zw_if_eq (tgt := 171) hX dX10_numberCells_123 (by decide) (fun c123 => ?_) (fun c123 => ?_)
  · rw [if_pos c123] at h
    refine zw_iinc (v := (i3 + (1 : Int32))) hX dX10_numberCells_171 rfl rfl (by decide) ?_
    refine zw_goto (tgt := 66) hX dX10_numberCells_174 (by decide) ?_
    refine zw_sub (lv' := [(0, .ref a0), (1, .int i1), (2, .int i2), (3, .int (i3 + (1 : Int32)))]) (List.forall_mem_cons.mpr ⟨rfl, (List.forall_mem_cons.mpr ⟨rfl, (List.forall_mem_cons.mpr ⟨rfl, (List.forall_mem_cons.mpr ⟨rfl, zs_nil⟩)⟩)⟩)⟩) ?_
    exact hrec _ _ _ h
  · rw [if_neg c123] at h
    refine zw_aload_n hX dX10_numberCells_126 rfl ?_
    refine zw_aload_n hX dX10_numberCells_127 rfl ?_
    obtain ⟨b24, g, h⟩ := zb_some h
    refine zw_getr hX zl_X10_24 dX10_numberCells_128 g ?_
    refine zw_iload_n hX dX10_numberCells_131 rfl ?_
    obtain ⟨v25, g, h⟩ := zb_some h
    refine zw_xi hX dX10_numberCells_132 g ?_
    refine zw_iload_n hX dX10_numberCells_133 rfl ?_
    obtain ⟨_, gi, h⟩ := zb_some h
    obtain ⟨r28, g, h⟩ := zb_some h
    refine zc_Vi (as := [.int v25, .int i3]) hX gi (zt_X10_canGo (d := d - 1) (by omega) g) zl_X10_80 rfl dX10_numberCells_134 ⟨rfl, rfl, Nat.le_of_ble_eq_true rfl⟩ ⟨by omega, by omega⟩ ?_
    refine zw_if_eq (tgt := 171) hX dX10_numberCells_137 (by decide) (fun c137 => ?_) (fun c137 => ?_)
    · rw [if_pos c137] at h
      refine zw_iinc (v := (i3 + (1 : Int32))) hX dX10_numberCells_171 rfl rfl (by decide) ?_
      refine zw_goto (tgt := 66) hX dX10_numberCells_174 (by decide) ?_
      refine zw_sub (lv' := [(0, .ref a0), (1, .int i1), (2, .int i2), (3, .int (i3 + (1 : Int32)))]) (List.forall_mem_cons.mpr ⟨rfl, (List.forall_mem_cons.mpr ⟨rfl, (List.forall_mem_cons.mpr ⟨rfl, (List.forall_mem_cons.mpr ⟨rfl, zs_nil⟩)⟩)⟩)⟩) ?_
      exact hrec _ _ _ h
    · rw [if_neg c137] at h
      refine zw_aload_n hX dX10_numberCells_140 rfl ?_
      obtain ⟨b29, g, h⟩ := zb_some h
      refine zw_getr hX zl_X10_21 dX10_numberCells_141 g ?_
      refine zw_iload hX dX10_numberCells_144 rfl ?_
      refine zw_aload_n hX dX10_numberCells_146 rfl ?_
      obtain ⟨b30, g, h⟩ := zb_some h
      refine zw_getr hX zl_X10_21 dX10_numberCells_147 g ?_
      refine zw_aload_n hX dX10_numberCells_150 rfl ?_
      obtain ⟨b31, g, h⟩ := zb_some h
      refine zw_getr hX zl_X10_24 dX10_numberCells_151 g ?_
      refine zw_iload_n hX dX10_numberCells_154 rfl ?_
      obtain ⟨v32, g, h⟩ := zb_some h
      refine zw_xi hX dX10_numberCells_155 g ?_
      obtain ⟨v33, g, h⟩ := zb_some h
      refine zw_xi hX dX10_numberCells_156 g ?_
      refine zw_iconst (v := (1 : Int32)) hX dX10_numberCells_157 (by decide) ?_
      refine zw_iadd hX dX10_numberCells_158 ?_
      obtain ⟨S34, g, h⟩ := zb_some h
      refine zw_si hX dX10_numberCells_159 g ?_
      refine zw_aload_n hX dX10_numberCells_160 rfl ?_
      obtain ⟨b35, g, h⟩ := zb_some h
      refine zw_getr hX zl_X10_24 dX10_numberCells_161 g ?_
      refine zw_iload_n hX dX10_numberCells_164 rfl ?_
      refine zw_iload hX dX10_numberCells_165 rfl ?_
      obtain ⟨S36, g, h⟩ := zb_some h
      refine zw_si hX dX10_numberCells_167 g ?_
      refine zw_iinc (v := (i1 + (1 : Int32))) hX dX10_numberCells_168 rfl rfl (by decide) ?_
      refine zw_iinc (v := (i3 + (1 : Int32))) hX dX10_numberCells_171 rfl rfl (by decide) ?_
      refine zw_goto (tgt := 66) hX dX10_numberCells_174 (by decide) ?_
      refine zw_sub (lv' := [(0, .ref a0), (1, .int (i1 + (1 : Int32))), (2, .int i2), (3, .int (i3 + (1 : Int32)))]) (List.forall_mem_cons.mpr ⟨rfl, (List.forall_mem_cons.mpr ⟨rfl, (List.forall_mem_cons.mpr ⟨rfl, (List.forall_mem_cons.mpr ⟨rfl, zs_nil⟩)⟩)⟩)⟩) ?_
      exact hrec _ _ _ h
def zf_X10_numberCells_J118 (N : Nat) (k : Nat → Int32 → Int32 → Int32 → zm_S → Option ((Unit × zm_S) ⊕ ((Int32) × zm_S))) (a0 : Nat) (i1 : Int32) (i2 : Int32) (i3 : Int32) (i4 : Int32) (S : zm_S) : Option ((Unit × zm_S) ⊕ ((Int32) × zm_S)) := zf_X10_numberCells_J119 N (k) a0 i1 i2 i3 i4 (0 : Int32) S
set_option maxHeartbeats 4000000 in
set_option maxRecDepth 100000 in
theorem zt_X10_numberCells_J118 {p : Program} {l : Launch} {e : Env} {R : Room} {s : State} {m : MethodId} {args : Array Value} {below : List Frame} {meth : Method} {c : Code} {V : zm_V} {mc ms d rc rs : Nat} (hX : zm_X p R s m args meth c RX10 "numberCells" cX10_numberCells 6 zk_E V mc ms) (hr : meth.sig.returnType = none) (hR : R.frames = d ∧ R.locals = 64 * d) (hd : 6 ≤ d) {N : Nat} {k : Nat → Int32 → Int32 → Int32 → zm_S → Option ((Unit × zm_S) ⊕ ((Int32) × zm_S))} {a0 : Nat} {i1 : Int32} {i2 : Int32} {i3 : Int32} {i4 : Int32} {res : (Unit × zm_S) ⊕ ((Int32) × zm_S)} {out : (Unit × zm_S)}   (hf : ∀ o, res = .inl o → o = out) (hk : ∀ (x1 : Int32) (S' : zm_S), res = .inr (x1, S') → zw p l e R s m args below meth c (vx_MQ below (zm_Qc zk_E V (zo_v out)) (zm_XC zk_E V zo_x) args s mc ms (fun q => V.2.2.2.1 ≤ q)) 6 zk_E V mc ms 177 [(0, .ref a0), (1, .int x1), (2, .int i2)] [] S' rc rs) (hrec : ∀ (i1' : Int32) (i3' : Int32) (S : zm_S), k a0 i1' i2 i3' S = some res → zw p l e R s m args below meth c (vx_MQ below (zm_Qc zk_E V (zo_v out)) (zm_XC zk_E V zo_x) args s mc ms (fun q => V.2.2.2.1 ≤ q)) 6 zk_E V mc ms 66 [(0, .ref a0), (1, .int i1'), (2, .int i2), (3, .int i3')] [] S rc rs) {S : zm_S} (h : zf_X10_numberCells_J118 N k a0 i1 i2 i3 i4 S = some res) : zw p l e R s m args below meth c (vx_MQ below (zm_Qc zk_E V (zo_v out)) (zm_XC zk_E V zo_x) args s mc ms (fun q => V.2.2.2.1 ≤ q)) 6 zk_E V mc ms 118 [(0, .ref a0), (1, .int i1), (2, .int i2), (3, .int i3), (4, .int i4)] [] S rc rs := by
  unfold zf_X10_numberCells_J118 at h
  refine zw_iconst (v := (0 : Int32)) hX dX10_numberCells_118 (by decide) ?_
  refine zw_sub (lv' := [(0, .ref a0), (1, .int i1), (2, .int i2), (3, .int i3), (4, .int i4)]) (List.forall_mem_cons.mpr ⟨rfl, (List.forall_mem_cons.mpr ⟨rfl, (List.forall_mem_cons.mpr ⟨rfl, (List.forall_mem_cons.mpr ⟨rfl, (List.forall_mem_cons.mpr ⟨rfl, zs_nil⟩)⟩)⟩)⟩)⟩) ?_
  exact zt_X10_numberCells_J119 hX hr hR hd hf hk hrec h
def zf_X10_numberCells_L66 (N : Nat) : Nat → Nat → Int32 → Int32 → Int32 → zm_S → Option ((Unit × zm_S) ⊕ ((Int32) × zm_S))
  | 0, _, _, _, _, _ => none
  | n + 1, a0, i1, i2, i3, S => if (4 : Int32) ≤ i3 then some (.inr (i1, S)) else (zg_r S a0 10 1).bind (fun b15 => (zg_r S a0 10 6).bind (fun b16 => (za_x S 0 b16 i2).bind (fun v17 => (zi S b15 2).bind (fun _ => (zf_X2_cellBeside N b15 v17 i3 S).bind (fun r20 => (zi r20.2 a0 10).bind (fun _ => (zf_X10_isInSpace N a0 r20.1 r20.2).bind (fun r23 => if r23.1 = 0 then zf_X10_numberCells_J118 N (zf_X10_numberCells_L66 N n) a0 i1 i2 i3 r20.1 r23.2 else (zg_r r23.2 a0 10 5).bind (fun b37 => (za_x r23.2 0 b37 r20.1).bind (fun v38 => if v38 = (-1 : Int32) then if (576 : Int32) ≤ i1 then zf_X10_numberCells_J118 N (zf_X10_numberCells_L66 N n) a0 i1 i2 i3 r20.1 r23.2 else zf_X10_numberCells_J119 N (zf_X10_numberCells_L66 N n) a0 i1 i2 i3 r20.1 (1 : Int32) r23.2 else zf_X10_numberCells_J118 N (zf_X10_numberCells_L66 N n) a0 i1 i2 i3 r20.1 r23.2)))))))))
set_option maxHeartbeats 4000000 in
set_option maxRecDepth 100000 in
theorem zt_X10_numberCells_L66 {p : Program} {l : Launch} {e : Env} {R : Room} {s : State} {m : MethodId} {args : Array Value} {below : List Frame} {meth : Method} {c : Code} {V : zm_V} {mc ms d rc rs : Nat} (hX : zm_X p R s m args meth c RX10 "numberCells" cX10_numberCells 6 zk_E V mc ms) (hr : meth.sig.returnType = none) (hR : R.frames = d ∧ R.locals = 64 * d) (hd : 6 ≤ d) {N : Nat} {res : (Unit × zm_S) ⊕ ((Int32) × zm_S)} {out : (Unit × zm_S)} (a0 : Nat) (i2 : Int32) (hf : ∀ o, res = .inl o → o = out) (hk : ∀ (x1 : Int32) (S' : zm_S), res = .inr (x1, S') → zw p l e R s m args below meth c (vx_MQ below (zm_Qc zk_E V (zo_v out)) (zm_XC zk_E V zo_x) args s mc ms (fun q => V.2.2.2.1 ≤ q)) 6 zk_E V mc ms 177 [(0, .ref a0), (1, .int x1), (2, .int i2)] [] S' rc rs) : ∀ (n : Nat) (i1 : Int32) (i3 : Int32) (S : zm_S), zf_X10_numberCells_L66 N n a0 i1 i2 i3 S = some res → zw p l e R s m args below meth c (vx_MQ below (zm_Qc zk_E V (zo_v out)) (zm_XC zk_E V zo_x) args s mc ms (fun q => V.2.2.2.1 ≤ q)) 6 zk_E V mc ms 66 [(0, .ref a0), (1, .int i1), (2, .int i2), (3, .int i3)] [] S rc rs := by
  intro n
  induction n with
  | zero => intro i1 i3 S h; cases h
  | succ n ih =>
    intro i1 i3 S h
    rw [zf_X10_numberCells_L66] at h
    refine zw_iload_n hX dX10_numberCells_66 rfl ?_
    refine zw_iconst (v := (4 : Int32)) hX dX10_numberCells_67 (by decide) ?_
    refine zw_icmp_ge (tgt := 177) hX dX10_numberCells_68 (by decide) (fun c68 => ?_) (fun c68 => ?_)
    · rw [if_pos c68] at h
      refine zw_sub (lv' := [(0, .ref a0), (1, .int i1), (2, .int i2)]) (List.forall_mem_cons.mpr ⟨rfl, (List.forall_mem_cons.mpr ⟨rfl, (List.forall_mem_cons.mpr ⟨rfl, zs_nil⟩)⟩)⟩) ?_
      exact hk _ _ (Option.some.inj h).symm
    · rw [if_neg c68] at h
      refine zw_aload_n hX dX10_numberCells_71 rfl ?_
      obtain ⟨b15, g, h⟩ := zb_some h
      refine zw_getr hX zl_X10_44 dX10_numberCells_72 g ?_
      refine zw_aload_n hX dX10_numberCells_75 rfl ?_
      obtain ⟨b16, g, h⟩ := zb_some h
      refine zw_getr hX zl_X10_24 dX10_numberCells_76 g ?_
      refine zw_iload_n hX dX10_numberCells_79 rfl ?_
      obtain ⟨v17, g, h⟩ := zb_some h
      refine zw_xi hX dX10_numberCells_80 g ?_
      refine zw_iload_n hX dX10_numberCells_81 rfl ?_
      obtain ⟨_, gi, h⟩ := zb_some h
      obtain ⟨r20, g, h⟩ := zb_some h
      refine zc_Vi (as := [.int v17, .int i3]) hX gi (zt_X2_cellBeside (d := d - 1) (by omega) g) zl_X10_77 rfl dX10_numberCells_82 ⟨rfl, rfl, Nat.le_of_ble_eq_true rfl⟩ ⟨by omega, by omega⟩ ?_
      refine zw_istore hX dX10_numberCells_85 (by decide) ?_
      refine zw_aload_n hX dX10_numberCells_87 rfl ?_
      refine zw_iload hX dX10_numberCells_88 rfl ?_
      obtain ⟨_, gi, h⟩ := zb_some h
      obtain ⟨r23, g, h⟩ := zb_some h
      refine zc_Vi (as := [.int r20.1]) hX gi (zt_X10_isInSpace (d := d - 1) (by omega) g) zl_X10_70 rfl dX10_numberCells_90 ⟨rfl, rfl, Nat.le_of_ble_eq_true rfl⟩ ⟨by omega, by omega⟩ ?_
      refine zw_if_eq (tgt := 118) hX dX10_numberCells_93 (by decide) (fun c93 => ?_) (fun c93 => ?_)
      · rw [if_pos c93] at h
        refine zw_sub (lv' := [(0, .ref a0), (1, .int i1), (2, .int i2), (3, .int i3), (4, .int r20.1)]) (List.forall_mem_cons.mpr ⟨rfl, (List.forall_mem_cons.mpr ⟨rfl, (List.forall_mem_cons.mpr ⟨rfl, (List.forall_mem_cons.mpr ⟨rfl, (List.forall_mem_cons.mpr ⟨rfl, zs_nil⟩)⟩)⟩)⟩)⟩) ?_
        exact zt_X10_numberCells_J118 hX hr hR hd hf hk ih h
      · rw [if_neg c93] at h
        refine zw_aload_n hX dX10_numberCells_96 rfl ?_
        obtain ⟨b37, g, h⟩ := zb_some h
        refine zw_getr hX zl_X10_21 dX10_numberCells_97 g ?_
        refine zw_iload hX dX10_numberCells_100 rfl ?_
        obtain ⟨v38, g, h⟩ := zb_some h
        refine zw_xi hX dX10_numberCells_102 g ?_
        refine zw_iconst (v := (-1 : Int32)) hX dX10_numberCells_103 (by decide) ?_
        refine zw_icmp_ne (tgt := 118) hX dX10_numberCells_104 (by decide) (fun c104 => ?_) (fun c104 => ?_)
        · rw [if_neg c104] at h
          refine zw_sub (lv' := [(0, .ref a0), (1, .int i1), (2, .int i2), (3, .int i3), (4, .int r20.1)]) (List.forall_mem_cons.mpr ⟨rfl, (List.forall_mem_cons.mpr ⟨rfl, (List.forall_mem_cons.mpr ⟨rfl, (List.forall_mem_cons.mpr ⟨rfl, (List.forall_mem_cons.mpr ⟨rfl, zs_nil⟩)⟩)⟩)⟩)⟩) ?_
          exact zt_X10_numberCells_J118 hX hr hR hd hf hk ih h
        · rw [if_pos c104] at h
          refine zw_iload_n hX dX10_numberCells_107 rfl ?_
          refine zw_sipush (v := (576 : Int32)) hX dX10_numberCells_108 (by decide) ?_
          refine zw_icmp_ge (tgt := 118) hX dX10_numberCells_111 (by decide) (fun c111 => ?_) (fun c111 => ?_)
          · rw [if_pos c111] at h
            refine zw_sub (lv' := [(0, .ref a0), (1, .int i1), (2, .int i2), (3, .int i3), (4, .int r20.1)]) (List.forall_mem_cons.mpr ⟨rfl, (List.forall_mem_cons.mpr ⟨rfl, (List.forall_mem_cons.mpr ⟨rfl, (List.forall_mem_cons.mpr ⟨rfl, (List.forall_mem_cons.mpr ⟨rfl, zs_nil⟩)⟩)⟩)⟩)⟩) ?_
            exact zt_X10_numberCells_J118 hX hr hR hd hf hk ih h
          · rw [if_neg c111] at h
            refine zw_iconst (v := (1 : Int32)) hX dX10_numberCells_114 (by decide) ?_
            refine zw_goto (tgt := 119) hX dX10_numberCells_115 (by decide) ?_
            refine zw_sub (lv' := [(0, .ref a0), (1, .int i1), (2, .int i2), (3, .int i3), (4, .int r20.1)]) (List.forall_mem_cons.mpr ⟨rfl, (List.forall_mem_cons.mpr ⟨rfl, (List.forall_mem_cons.mpr ⟨rfl, (List.forall_mem_cons.mpr ⟨rfl, (List.forall_mem_cons.mpr ⟨rfl, zs_nil⟩)⟩)⟩)⟩)⟩) ?_
            exact zt_X10_numberCells_J119 hX hr hR hd hf hk ih h
def zf_X10_numberCells_L59 (N : Nat) : Nat → Nat → Int32 → Int32 → zm_S → Option ((Unit × zm_S) ⊕ ((Unit) × zm_S))
  | 0, _, _, _, _ => none
  | n + 1, a0, i1, i2, S => if i1 ≤ i2 then some (.inr ((), S)) else (zf_X10_numberCells_L66 N N a0 i1 i2 (0 : Int32) S).bind (fun r => match r with | .inl o => some (.inl o) | .inr (v40, S39) => zf_X10_numberCells_L59 N n a0 v40 (i2 + (1 : Int32)) S39)
set_option maxHeartbeats 4000000 in
set_option maxRecDepth 100000 in
theorem zt_X10_numberCells_L59 {p : Program} {l : Launch} {e : Env} {R : Room} {s : State} {m : MethodId} {args : Array Value} {below : List Frame} {meth : Method} {c : Code} {V : zm_V} {mc ms d rc rs : Nat} (hX : zm_X p R s m args meth c RX10 "numberCells" cX10_numberCells 6 zk_E V mc ms) (hr : meth.sig.returnType = none) (hR : R.frames = d ∧ R.locals = 64 * d) (hd : 6 ≤ d) {N : Nat} {res : (Unit × zm_S) ⊕ ((Unit) × zm_S)} {out : (Unit × zm_S)} (a0 : Nat) (hf : ∀ o, res = .inl o → o = out) (hk : ∀ (S' : zm_S), res = .inr ((), S') → zw p l e R s m args below meth c (vx_MQ below (zm_Qc zk_E V (zo_v out)) (zm_XC zk_E V zo_x) args s mc ms (fun q => V.2.2.2.1 ≤ q)) 6 zk_E V mc ms 183 [] [] S' rc rs) : ∀ (n : Nat) (i1 : Int32) (i2 : Int32) (S : zm_S), zf_X10_numberCells_L59 N n a0 i1 i2 S = some res → zw p l e R s m args below meth c (vx_MQ below (zm_Qc zk_E V (zo_v out)) (zm_XC zk_E V zo_x) args s mc ms (fun q => V.2.2.2.1 ≤ q)) 6 zk_E V mc ms 59 [(0, .ref a0), (1, .int i1), (2, .int i2)] [] S rc rs := by
  intro n
  induction n with
  | zero => intro i1 i2 S h; cases h
  | succ n ih =>
    intro i1 i2 S h
    rw [zf_X10_numberCells_L59] at h
    refine zw_iload_n hX dX10_numberCells_59 rfl ?_
    refine zw_iload_n hX dX10_numberCells_60 rfl ?_
    refine zw_icmp_ge (tgt := 183) hX dX10_numberCells_61 (by decide) (fun c61 => ?_) (fun c61 => ?_)
    · rw [if_pos c61] at h
      refine zw_sub (lv' := []) zs_nil ?_
      exact hk  _ (Option.some.inj h).symm
    · rw [if_neg c61] at h
      refine zw_iconst (v := (0 : Int32)) hX dX10_numberCells_64 (by decide) ?_
      refine zw_istore_n hX dX10_numberCells_65 (by decide) ?_
      obtain ⟨r, g, h⟩ := zb_some h
      refine zw_sub (lv' := [(0, .ref a0), (1, .int i1), (2, .int i2), (3, .int (0 : Int32))]) (List.forall_mem_cons.mpr ⟨rfl, (List.forall_mem_cons.mpr ⟨rfl, (List.forall_mem_cons.mpr ⟨rfl, (List.forall_mem_cons.mpr ⟨rfl, zs_nil⟩)⟩)⟩)⟩) ?_
      refine zt_X10_numberCells_L66 hX hr hR hd (res := r) (out := out) a0 i2 ?_ ?_ N _ _ _ g
      · intro o ho
        subst ho
        exact hf _ (Option.some.inj h).symm
      · intro v40 S39 hx
        subst hx
        try dsimp only at h
        refine zw_iinc (v := (i2 + (1 : Int32))) hX dX10_numberCells_177 rfl rfl (by decide) ?_
        refine zw_goto (tgt := 59) hX dX10_numberCells_180 (by decide) ?_
        refine zw_sub (lv' := [(0, .ref a0), (1, .int v40), (2, .int (i2 + (1 : Int32)))]) (List.forall_mem_cons.mpr ⟨rfl, (List.forall_mem_cons.mpr ⟨rfl, (List.forall_mem_cons.mpr ⟨rfl, zs_nil⟩)⟩)⟩) ?_
        exact ih _ _ _ h
def zf_X10_numberCells (N : Nat) (a0 : Nat) (S : zm_S) : Option (Unit × zm_S) := (zf_X10_numberCells_L4 N N a0 (0 : Int32) (0 : Int32) S).bind (fun r => match r with | .inl o => some o | .inr (v14, S13) => (zf_X10_numberCells_L59 N N a0 v14 (0 : Int32) S13).bind (fun r => match r with | .inl o => some o | .inr (_, S41) => some ((), S41)))
set_option maxHeartbeats 4000000 in
set_option maxRecDepth 100000 in
theorem zt_X10_numberCells {l : Launch} {V : zm_V} {N : Nat} {S : zm_S} {out : (Unit × zm_S)} {d : Nat} {a0 : Nat} (hd : 6 ≤ d) (h : zf_X10_numberCells N a0 S = some out) : zm_Met l zk_E V yX10_numberCells (.code yX10_numberCells cX10_numberCells 6 none) d [.ref a0] S 0 0 (zo_v out) zo_x := by
  refine zm_of (by decide +kernel) (Nat.le_of_ble_eq_true rfl) ?_
  intro p e R s m args below meth c hRR hX hr hxt
  have hR : R.frames = d ∧ R.locals = 64 * d := by rw [hRR]; exact ⟨rfl, rfl⟩
  have hX : zm_X p R s m args meth c RX10 "numberCells" cX10_numberCells 6 zk_E V 0 0 := hX
  unfold zf_X10_numberCells at h
  refine zw_sub (lv' := [(0, .ref a0)]) (List.forall_mem_cons.mpr ⟨rfl, zs_nil⟩) ?_
  refine zw_iconst (v := (0 : Int32)) hX dX10_numberCells_0 (by decide) ?_
  refine zw_istore_n hX dX10_numberCells_1 (by decide) ?_
  refine zw_iconst (v := (0 : Int32)) hX dX10_numberCells_2 (by decide) ?_
  refine zw_istore_n hX dX10_numberCells_3 (by decide) ?_
  obtain ⟨r, g, h⟩ := zb_some h
  refine zw_sub (lv' := [(0, .ref a0), (1, .int (0 : Int32)), (2, .int (0 : Int32))]) (List.forall_mem_cons.mpr ⟨rfl, (List.forall_mem_cons.mpr ⟨rfl, (List.forall_mem_cons.mpr ⟨rfl, zs_nil⟩)⟩)⟩) ?_
  refine zt_X10_numberCells_L4 hX hr hR hd (res := r) (out := out) a0 ?_ ?_ N _ _ _ g
  · intro o ho
    subst ho
    exact Option.some.inj h
  · intro v14 S13 hx
    subst hx
    try dsimp only at h
    refine zw_iconst (v := (0 : Int32)) hX dX10_numberCells_57 (by decide) ?_
    refine zw_istore_n hX dX10_numberCells_58 (by decide) ?_
    obtain ⟨r, g, h⟩ := zb_some h
    refine zw_sub (lv' := [(0, .ref a0), (1, .int v14), (2, .int (0 : Int32))]) (List.forall_mem_cons.mpr ⟨rfl, (List.forall_mem_cons.mpr ⟨rfl, (List.forall_mem_cons.mpr ⟨rfl, zs_nil⟩)⟩)⟩) ?_
    refine zt_X10_numberCells_L59 hX hr hR hd (res := r) (out := out) a0 ?_ ?_ N _ _ _ g
    · intro o ho
      subst ho
      exact Option.some.inj h
    · intro  S41 hx
      subst hx
      try dsimp only at h
      obtain rfl := Option.some.inj h
      exact zw_vret hX hr dX10_numberCells_183 ⟨rfl, rfl⟩
def zf_X10_addSmoke (N : Nat) (a0 : Nat) (i1 : Int32) (S : zm_S) : Option (Int32 × zm_S) := (zg_r S a0 10 2).bind (fun b1 => (za_x S 2 b1 i1).bind (fun v2 => if v2 = 0 then (zg_r S a0 10 2).bind (fun b3 => (zs_z S b3 i1 (1 : Int32)).bind (fun S4 => (zg_i S4 a0 10 4).bind (fun v5 => (zp S4 a0 10 4 (.int (v5 + (1 : Int32)))).bind (fun S6 => (zg_r S6 a0 10 1).bind (fun b7 => (zg_r S6 b7 2 6).bind (fun b8 => (za_x S6 0 b8 i1).bind (fun v9 => if v9 < 0 then some ((1 : Int32), S6) else if (40 : Int32) ≤ v9 then some ((1 : Int32), S6) else (zg_r S6 a0 10 3).bind (fun b10 => (za_x S6 0 b10 v9).bind (fun v11 => (zs_i S6 b10 v9 (v11 + (1 : Int32))).bind (fun S12 => some ((1 : Int32), S12))))))))))) else some ((0 : Int32), S)))
set_option maxHeartbeats 4000000 in
set_option maxRecDepth 100000 in
theorem zt_X10_addSmoke {l : Launch} {V : zm_V} {N : Nat} {S : zm_S} {out : (Int32 × zm_S)} {d : Nat} {a0 : Nat} {i1 : Int32} (hd : 1 ≤ d) (h : zf_X10_addSmoke N a0 i1 S = some out) : zm_Met l zk_E V yX10_addSmoke (.code yX10_addSmoke cX10_addSmoke 3 (some .boolean)) d [.ref a0, .int i1] S 0 0 (zo_i out) zo_x := by
  refine zm_of (by decide +kernel) (Nat.le_of_ble_eq_true rfl) ?_
  intro p e R s m args below meth c hRR hX hr hxt
  have hR : R.frames = d ∧ R.locals = 64 * d := by rw [hRR]; exact ⟨rfl, rfl⟩
  have hX : zm_X p R s m args meth c RX10 "addSmoke" cX10_addSmoke 3 zk_E V 0 0 := hX
  unfold zf_X10_addSmoke at h
  refine zw_sub (lv' := [(0, .ref a0), (1, .int i1)]) (List.forall_mem_cons.mpr ⟨rfl, (List.forall_mem_cons.mpr ⟨rfl, zs_nil⟩)⟩) ?_
  refine zw_aload_n hX dX10_addSmoke_0 rfl ?_
  obtain ⟨b1, g, h⟩ := zb_some h
  refine zw_getr hX zl_X10_11 dX10_addSmoke_1 g ?_
  refine zw_iload_n hX dX10_addSmoke_4 rfl ?_
  obtain ⟨v2, g, h⟩ := zb_some h
  refine zw_xz hX dX10_addSmoke_5 g ?_
  refine zw_if_eq (tgt := 11) hX dX10_addSmoke_6 (by decide) (fun c6 => ?_) (fun c6 => ?_)
  · rw [if_pos c6] at h
    refine zw_aload_n hX dX10_addSmoke_11 rfl ?_
    obtain ⟨b3, g, h⟩ := zb_some h
    refine zw_getr hX zl_X10_11 dX10_addSmoke_12 g ?_
    refine zw_iload_n hX dX10_addSmoke_15 rfl ?_
    refine zw_iconst (v := (1 : Int32)) hX dX10_addSmoke_16 (by decide) ?_
    obtain ⟨S4, g, h⟩ := zb_some h
    refine zw_sz hX dX10_addSmoke_17 g ?_
    refine zw_aload_n hX dX10_addSmoke_18 rfl ?_
    refine zw_dup hX dX10_addSmoke_19 rfl ?_
    obtain ⟨v5, g, h⟩ := zb_some h
    refine zw_geti hX zl_X10_83 dX10_addSmoke_20 g ?_
    refine zw_iconst (v := (1 : Int32)) hX dX10_addSmoke_23 (by decide) ?_
    refine zw_iadd hX dX10_addSmoke_24 ?_
    obtain ⟨S6, g, h⟩ := zb_some h
    refine zw_putv hX zl_X10_83 zt_10_4 dX10_addSmoke_25 rfl rfl g ?_
    refine zw_aload_n hX dX10_addSmoke_28 rfl ?_
    obtain ⟨b7, g, h⟩ := zb_some h
    refine zw_getr hX zl_X10_44 dX10_addSmoke_29 g ?_
    obtain ⟨b8, g, h⟩ := zb_some h
    refine zw_getNr hX zl_X10_55 dX10_addSmoke_32 g ?_
    refine zw_iload_n hX dX10_addSmoke_35 rfl ?_
    obtain ⟨v9, g, h⟩ := zb_some h
    refine zw_xi hX dX10_addSmoke_36 g ?_
    refine zw_istore_n hX dX10_addSmoke_37 (by decide) ?_
    refine zw_iload_n hX dX10_addSmoke_38 rfl ?_
    refine zw_if_lt (tgt := 58) hX dX10_addSmoke_39 (by decide) (fun c39 => ?_) (fun c39 => ?_)
    · rw [if_pos c39] at h
      refine zw_iconst (v := (1 : Int32)) hX dX10_addSmoke_58 (by decide) ?_
      obtain rfl := Option.some.inj h
      exact zw_iret hX hr dX10_addSmoke_59 rfl ⟨rfl, rfl⟩
    · rw [if_neg c39] at h
      refine zw_iload_n hX dX10_addSmoke_42 rfl ?_
      refine zw_bipush (v := (40 : Int32)) hX dX10_addSmoke_43 (by decide) ?_
      refine zw_icmp_ge (tgt := 58) hX dX10_addSmoke_45 (by decide) (fun c45 => ?_) (fun c45 => ?_)
      · rw [if_pos c45] at h
        refine zw_iconst (v := (1 : Int32)) hX dX10_addSmoke_58 (by decide) ?_
        obtain rfl := Option.some.inj h
        exact zw_iret hX hr dX10_addSmoke_59 rfl ⟨rfl, rfl⟩
      · rw [if_neg c45] at h
        refine zw_aload_n hX dX10_addSmoke_48 rfl ?_
        obtain ⟨b10, g, h⟩ := zb_some h
        refine zw_getr hX zl_X10_17 dX10_addSmoke_49 g ?_
        refine zw_iload_n hX dX10_addSmoke_52 rfl ?_
        refine zw_dup2 hX dX10_addSmoke_53 rfl rfl ?_
        obtain ⟨v11, g, h⟩ := zb_some h
        refine zw_xi hX dX10_addSmoke_54 g ?_
        refine zw_iconst (v := (1 : Int32)) hX dX10_addSmoke_55 (by decide) ?_
        refine zw_iadd hX dX10_addSmoke_56 ?_
        obtain ⟨S12, g, h⟩ := zb_some h
        refine zw_si hX dX10_addSmoke_57 g ?_
        refine zw_iconst (v := (1 : Int32)) hX dX10_addSmoke_58 (by decide) ?_
        obtain rfl := Option.some.inj h
        exact zw_iret hX hr dX10_addSmoke_59 rfl ⟨rfl, rfl⟩
  · rw [if_neg c6] at h
    refine zw_iconst (v := (0 : Int32)) hX dX10_addSmoke_9 (by decide) ?_
    obtain rfl := Option.some.inj h
    exact zw_iret hX hr dX10_addSmoke_10 rfl ⟨rfl, rfl⟩
def zf_X10_spreadSmoke_L12 (N : Nat) : Nat → Nat → Int32 → Int32 → zm_S → Option ((Unit × zm_S) ⊕ ((Int32) × zm_S))
  | 0, _, _, _, _ => none
  | n + 1, a0, i2, i3, S => if (576 : Int32) ≤ i3 then some (.inr (i2, S)) else (zg_r S a0 10 2).bind (fun b1 => (za_x S 2 b1 i3).bind (fun v2 => if v2 = 0 then zf_X10_spreadSmoke_L12 N n a0 i2 (i3 + (1 : Int32)) S else (zg_r S a0 10 6).bind (fun b3 => (zs_i S b3 i2 i3).bind (fun S4 => zf_X10_spreadSmoke_L12 N n a0 (i2 + (1 : Int32)) (i3 + (1 : Int32)) S4))))
set_option maxHeartbeats 4000000 in
set_option maxRecDepth 100000 in
theorem zt_X10_spreadSmoke_L12 {p : Program} {l : Launch} {e : Env} {R : Room} {s : State} {m : MethodId} {args : Array Value} {below : List Frame} {meth : Method} {c : Code} {V : zm_V} {mc ms d rc rs : Nat} (hX : zm_X p R s m args meth c RX10 "spreadSmoke" cX10_spreadSmoke 6 zk_E V mc ms) (hr : meth.sig.returnType = none) (hR : R.frames = d ∧ R.locals = 64 * d) (hd : 5 ≤ d) {N : Nat} {res : (Unit × zm_S) ⊕ ((Int32) × zm_S)} {out : (Unit × zm_S)} (a0 : Nat) (hf : ∀ o, res = .inl o → o = out) (hk : ∀ (x2 : Int32) (S' : zm_S), res = .inr (x2, S') → zw p l e R s m args below meth c (vx_MQ below (zm_Qc zk_E V (zo_v out)) (zm_XC zk_E V zo_x) args s mc ms (fun q => V.2.2.2.1 ≤ q)) 6 zk_E V mc ms 44 [(0, .ref a0), (2, .int x2)] [] S' rc rs) : ∀ (n : Nat) (i2 : Int32) (i3 : Int32) (S : zm_S), zf_X10_spreadSmoke_L12 N n a0 i2 i3 S = some res → zw p l e R s m args below meth c (vx_MQ below (zm_Qc zk_E V (zo_v out)) (zm_XC zk_E V zo_x) args s mc ms (fun q => V.2.2.2.1 ≤ q)) 6 zk_E V mc ms 12 [(0, .ref a0), (2, .int i2), (3, .int i3)] [] S rc rs := by
  intro n
  induction n with
  | zero => intro i2 i3 S h; cases h
  | succ n ih =>
    intro i2 i3 S h
    rw [zf_X10_spreadSmoke_L12] at h
    refine zw_iload_n hX dX10_spreadSmoke_12 rfl ?_
    refine zw_sipush (v := (576 : Int32)) hX dX10_spreadSmoke_13 (by decide) ?_
    refine zw_icmp_ge (tgt := 44) hX dX10_spreadSmoke_16 (by decide) (fun c16 => ?_) (fun c16 => ?_)
    · rw [if_pos c16] at h
      refine zw_sub (lv' := [(0, .ref a0), (2, .int i2)]) (List.forall_mem_cons.mpr ⟨rfl, (List.forall_mem_cons.mpr ⟨rfl, zs_nil⟩)⟩) ?_
      exact hk _ _ (Option.some.inj h).symm
    · rw [if_neg c16] at h
      refine zw_aload_n hX dX10_spreadSmoke_19 rfl ?_
      obtain ⟨b1, g, h⟩ := zb_some h
      refine zw_getr hX zl_X10_11 dX10_spreadSmoke_20 g ?_
      refine zw_iload_n hX dX10_spreadSmoke_23 rfl ?_
      obtain ⟨v2, g, h⟩ := zb_some h
      refine zw_xz hX dX10_spreadSmoke_24 g ?_
      refine zw_if_eq (tgt := 38) hX dX10_spreadSmoke_25 (by decide) (fun c25 => ?_) (fun c25 => ?_)
      · rw [if_pos c25] at h
        refine zw_iinc (v := (i3 + (1 : Int32))) hX dX10_spreadSmoke_38 rfl rfl (by decide) ?_
        refine zw_goto (tgt := 12) hX dX10_spreadSmoke_41 (by decide) ?_
        refine zw_sub (lv' := [(0, .ref a0), (2, .int i2), (3, .int (i3 + (1 : Int32)))]) (List.forall_mem_cons.mpr ⟨rfl, (List.forall_mem_cons.mpr ⟨rfl, (List.forall_mem_cons.mpr ⟨rfl, zs_nil⟩)⟩)⟩) ?_
        exact ih _ _ _ h
      · rw [if_neg c25] at h
        refine zw_aload_n hX dX10_spreadSmoke_28 rfl ?_
        obtain ⟨b3, g, h⟩ := zb_some h
        refine zw_getr hX zl_X10_24 dX10_spreadSmoke_29 g ?_
        refine zw_iload_n hX dX10_spreadSmoke_32 rfl ?_
        refine zw_iload_n hX dX10_spreadSmoke_33 rfl ?_
        obtain ⟨S4, g, h⟩ := zb_some h
        refine zw_si hX dX10_spreadSmoke_34 g ?_
        refine zw_iinc (v := (i2 + (1 : Int32))) hX dX10_spreadSmoke_35 rfl rfl (by decide) ?_
        refine zw_iinc (v := (i3 + (1 : Int32))) hX dX10_spreadSmoke_38 rfl rfl (by decide) ?_
        refine zw_goto (tgt := 12) hX dX10_spreadSmoke_41 (by decide) ?_
        refine zw_sub (lv' := [(0, .ref a0), (2, .int (i2 + (1 : Int32))), (3, .int (i3 + (1 : Int32)))]) (List.forall_mem_cons.mpr ⟨rfl, (List.forall_mem_cons.mpr ⟨rfl, (List.forall_mem_cons.mpr ⟨rfl, zs_nil⟩)⟩)⟩) ?_
        exact ih _ _ _ h
def zf_X10_spreadSmoke_L54 (N : Nat) : Nat → Nat → Int32 → Int32 → Int32 → zm_S → Option ((Unit × zm_S) ⊕ ((Unit) × zm_S))
  | 0, _, _, _, _, _ => none
  | n + 1, a0, i2, i3, i4, S => if (4 : Int32) ≤ i4 then some (.inr ((), S)) else (zg_r S a0 10 1).bind (fun b7 => (zg_r S a0 10 6).bind (fun b8 => (za_x S 0 b8 i3).bind (fun v9 => (zi S b7 2).bind (fun _ => (zf_X2_cellBeside N b7 v9 i4 S).bind (fun r12 => if r12.1 = (-1 : Int32) then zf_X10_spreadSmoke_L54 N n a0 i2 i3 (i4 + (1 : Int32)) r12.2 else (zg_r r12.2 a0 10 2).bind (fun b13 => (za_x r12.2 2 b13 r12.1).bind (fun v14 => if v14 = 0 then (zg_r r12.2 a0 10 6).bind (fun b15 => (za_x r12.2 0 b15 i3).bind (fun v16 => (zi r12.2 a0 10).bind (fun _ => (zf_X10_canGo N a0 v16 i4 r12.2).bind (fun r19 => if r19.1 = 0 then zf_X10_spreadSmoke_L54 N n a0 i2 i3 (i4 + (1 : Int32)) r19.2 else (zi r19.2 a0 10).bind (fun _ => (zf_X10_addSmoke N a0 r12.1 r19.2).bind (fun r22 => zf_X10_spreadSmoke_L54 N n a0 i2 i3 (i4 + (1 : Int32)) r22.2)))))) else zf_X10_spreadSmoke_L54 N n a0 i2 i3 (i4 + (1 : Int32)) r12.2)))))))
set_option maxHeartbeats 4000000 in
set_option maxRecDepth 100000 in
theorem zt_X10_spreadSmoke_L54 {p : Program} {l : Launch} {e : Env} {R : Room} {s : State} {m : MethodId} {args : Array Value} {below : List Frame} {meth : Method} {c : Code} {V : zm_V} {mc ms d rc rs : Nat} (hX : zm_X p R s m args meth c RX10 "spreadSmoke" cX10_spreadSmoke 6 zk_E V mc ms) (hr : meth.sig.returnType = none) (hR : R.frames = d ∧ R.locals = 64 * d) (hd : 5 ≤ d) {N : Nat} {res : (Unit × zm_S) ⊕ ((Unit) × zm_S)} {out : (Unit × zm_S)} (a0 : Nat) (i2 : Int32) (i3 : Int32) (hf : ∀ o, res = .inl o → o = out) (hk : ∀ (S' : zm_S), res = .inr ((), S') → zw p l e R s m args below meth c (vx_MQ below (zm_Qc zk_E V (zo_v out)) (zm_XC zk_E V zo_x) args s mc ms (fun q => V.2.2.2.1 ≤ q)) 6 zk_E V mc ms 121 [(0, .ref a0), (2, .int i2), (3, .int i3)] [] S' rc rs) : ∀ (n : Nat) (i4 : Int32) (S : zm_S), zf_X10_spreadSmoke_L54 N n a0 i2 i3 i4 S = some res → zw p l e R s m args below meth c (vx_MQ below (zm_Qc zk_E V (zo_v out)) (zm_XC zk_E V zo_x) args s mc ms (fun q => V.2.2.2.1 ≤ q)) 6 zk_E V mc ms 54 [(0, .ref a0), (2, .int i2), (3, .int i3), (4, .int i4)] [] S rc rs := by
  intro n
  induction n with
  | zero => intro i4 S h; cases h
  | succ n ih =>
    intro i4 S h
    rw [zf_X10_spreadSmoke_L54] at h
    refine zw_iload hX dX10_spreadSmoke_54 rfl ?_
    refine zw_iconst (v := (4 : Int32)) hX dX10_spreadSmoke_56 (by decide) ?_
    refine zw_icmp_ge (tgt := 121) hX dX10_spreadSmoke_57 (by decide) (fun c57 => ?_) (fun c57 => ?_)
    · rw [if_pos c57] at h
      refine zw_sub (lv' := [(0, .ref a0), (2, .int i2), (3, .int i3)]) (List.forall_mem_cons.mpr ⟨rfl, (List.forall_mem_cons.mpr ⟨rfl, (List.forall_mem_cons.mpr ⟨rfl, zs_nil⟩)⟩)⟩) ?_
      exact hk  _ (Option.some.inj h).symm
    · rw [if_neg c57] at h
      refine zw_aload_n hX dX10_spreadSmoke_60 rfl ?_
      obtain ⟨b7, g, h⟩ := zb_some h
      refine zw_getr hX zl_X10_44 dX10_spreadSmoke_61 g ?_
      refine zw_aload_n hX dX10_spreadSmoke_64 rfl ?_
      obtain ⟨b8, g, h⟩ := zb_some h
      refine zw_getr hX zl_X10_24 dX10_spreadSmoke_65 g ?_
      refine zw_iload_n hX dX10_spreadSmoke_68 rfl ?_
      obtain ⟨v9, g, h⟩ := zb_some h
      refine zw_xi hX dX10_spreadSmoke_69 g ?_
      refine zw_iload hX dX10_spreadSmoke_70 rfl ?_
      obtain ⟨_, gi, h⟩ := zb_some h
      obtain ⟨r12, g, h⟩ := zb_some h
      refine zc_Vi (as := [.int v9, .int i4]) hX gi (zt_X2_cellBeside (d := d - 1) (by omega) g) zl_X10_77 rfl dX10_spreadSmoke_72 ⟨rfl, rfl, Nat.le_of_ble_eq_true rfl⟩ ⟨by omega, by omega⟩ ?_
      refine zw_istore hX dX10_spreadSmoke_75 (by decide) ?_
      refine zw_iload hX dX10_spreadSmoke_77 rfl ?_
      refine zw_iconst (v := (-1 : Int32)) hX dX10_spreadSmoke_79 (by decide) ?_
      refine zw_icmp_eq (tgt := 115) hX dX10_spreadSmoke_80 (by decide) (fun c80 => ?_) (fun c80 => ?_)
      · rw [if_pos c80] at h
        refine zw_iinc (v := (i4 + (1 : Int32))) hX dX10_spreadSmoke_115 rfl rfl (by decide) ?_
        refine zw_goto (tgt := 54) hX dX10_spreadSmoke_118 (by decide) ?_
        refine zw_sub (lv' := [(0, .ref a0), (2, .int i2), (3, .int i3), (4, .int (i4 + (1 : Int32)))]) (List.forall_mem_cons.mpr ⟨rfl, (List.forall_mem_cons.mpr ⟨rfl, (List.forall_mem_cons.mpr ⟨rfl, (List.forall_mem_cons.mpr ⟨rfl, zs_nil⟩)⟩)⟩)⟩) ?_
        exact ih _ _ h
      · rw [if_neg c80] at h
        refine zw_aload_n hX dX10_spreadSmoke_83 rfl ?_
        obtain ⟨b13, g, h⟩ := zb_some h
        refine zw_getr hX zl_X10_11 dX10_spreadSmoke_84 g ?_
        refine zw_iload hX dX10_spreadSmoke_87 rfl ?_
        obtain ⟨v14, g, h⟩ := zb_some h
        refine zw_xz hX dX10_spreadSmoke_89 g ?_
        refine zw_if_ne (tgt := 115) hX dX10_spreadSmoke_90 (by decide) (fun c90 => ?_) (fun c90 => ?_)
        · rw [if_neg c90] at h
          refine zw_iinc (v := (i4 + (1 : Int32))) hX dX10_spreadSmoke_115 rfl rfl (by decide) ?_
          refine zw_goto (tgt := 54) hX dX10_spreadSmoke_118 (by decide) ?_
          refine zw_sub (lv' := [(0, .ref a0), (2, .int i2), (3, .int i3), (4, .int (i4 + (1 : Int32)))]) (List.forall_mem_cons.mpr ⟨rfl, (List.forall_mem_cons.mpr ⟨rfl, (List.forall_mem_cons.mpr ⟨rfl, (List.forall_mem_cons.mpr ⟨rfl, zs_nil⟩)⟩)⟩)⟩) ?_
          exact ih _ _ h
        · rw [if_pos c90] at h
          refine zw_aload_n hX dX10_spreadSmoke_93 rfl ?_
          refine zw_aload_n hX dX10_spreadSmoke_94 rfl ?_
          obtain ⟨b15, g, h⟩ := zb_some h
          refine zw_getr hX zl_X10_24 dX10_spreadSmoke_95 g ?_
          refine zw_iload_n hX dX10_spreadSmoke_98 rfl ?_
          obtain ⟨v16, g, h⟩ := zb_some h
          refine zw_xi hX dX10_spreadSmoke_99 g ?_
          refine zw_iload hX dX10_spreadSmoke_100 rfl ?_
          obtain ⟨_, gi, h⟩ := zb_some h
          obtain ⟨r19, g, h⟩ := zb_some h
          refine zc_Vi (as := [.int v16, .int i4]) hX gi (zt_X10_canGo (d := d - 1) (by omega) g) zl_X10_80 rfl dX10_spreadSmoke_102 ⟨rfl, rfl, Nat.le_of_ble_eq_true rfl⟩ ⟨by omega, by omega⟩ ?_
          refine zw_if_eq (tgt := 115) hX dX10_spreadSmoke_105 (by decide) (fun c105 => ?_) (fun c105 => ?_)
          · rw [if_pos c105] at h
            refine zw_iinc (v := (i4 + (1 : Int32))) hX dX10_spreadSmoke_115 rfl rfl (by decide) ?_
            refine zw_goto (tgt := 54) hX dX10_spreadSmoke_118 (by decide) ?_
            refine zw_sub (lv' := [(0, .ref a0), (2, .int i2), (3, .int i3), (4, .int (i4 + (1 : Int32)))]) (List.forall_mem_cons.mpr ⟨rfl, (List.forall_mem_cons.mpr ⟨rfl, (List.forall_mem_cons.mpr ⟨rfl, (List.forall_mem_cons.mpr ⟨rfl, zs_nil⟩)⟩)⟩)⟩) ?_
            exact ih _ _ h
          · rw [if_neg c105] at h
            refine zw_aload_n hX dX10_spreadSmoke_108 rfl ?_
            refine zw_iload hX dX10_spreadSmoke_109 rfl ?_
            obtain ⟨_, gi, h⟩ := zb_some h
            obtain ⟨r22, g, h⟩ := zb_some h
            refine zc_Vi (as := [.int r12.1]) hX gi (zt_X10_addSmoke (d := d - 1) (by omega) g) zl_X10_86 rfl dX10_spreadSmoke_111 ⟨rfl, rfl, Nat.le_of_ble_eq_true rfl⟩ ⟨by omega, by omega⟩ ?_
            refine zw_pop hX dX10_spreadSmoke_114 rfl ?_
            refine zw_iinc (v := (i4 + (1 : Int32))) hX dX10_spreadSmoke_115 rfl rfl (by decide) ?_
            refine zw_goto (tgt := 54) hX dX10_spreadSmoke_118 (by decide) ?_
            refine zw_sub (lv' := [(0, .ref a0), (2, .int i2), (3, .int i3), (4, .int (i4 + (1 : Int32)))]) (List.forall_mem_cons.mpr ⟨rfl, (List.forall_mem_cons.mpr ⟨rfl, (List.forall_mem_cons.mpr ⟨rfl, (List.forall_mem_cons.mpr ⟨rfl, zs_nil⟩)⟩)⟩)⟩) ?_
            exact ih _ _ h
def zf_X10_spreadSmoke_L46 (N : Nat) : Nat → Nat → Int32 → Int32 → zm_S → Option ((Unit × zm_S) ⊕ ((Unit) × zm_S))
  | 0, _, _, _, _ => none
  | n + 1, a0, i2, i3, S => if i2 ≤ i3 then some (.inr ((), S)) else (zf_X10_spreadSmoke_L54 N N a0 i2 i3 (0 : Int32) S).bind (fun r => match r with | .inl o => some (.inl o) | .inr (_, S23) => zf_X10_spreadSmoke_L46 N n a0 i2 (i3 + (1 : Int32)) S23)
set_option maxHeartbeats 4000000 in
set_option maxRecDepth 100000 in
theorem zt_X10_spreadSmoke_L46 {p : Program} {l : Launch} {e : Env} {R : Room} {s : State} {m : MethodId} {args : Array Value} {below : List Frame} {meth : Method} {c : Code} {V : zm_V} {mc ms d rc rs : Nat} (hX : zm_X p R s m args meth c RX10 "spreadSmoke" cX10_spreadSmoke 6 zk_E V mc ms) (hr : meth.sig.returnType = none) (hR : R.frames = d ∧ R.locals = 64 * d) (hd : 5 ≤ d) {N : Nat} {res : (Unit × zm_S) ⊕ ((Unit) × zm_S)} {out : (Unit × zm_S)} (a0 : Nat) (i2 : Int32) (hf : ∀ o, res = .inl o → o = out) (hk : ∀ (S' : zm_S), res = .inr ((), S') → zw p l e R s m args below meth c (vx_MQ below (zm_Qc zk_E V (zo_v out)) (zm_XC zk_E V zo_x) args s mc ms (fun q => V.2.2.2.1 ≤ q)) 6 zk_E V mc ms 127 [] [] S' rc rs) : ∀ (n : Nat) (i3 : Int32) (S : zm_S), zf_X10_spreadSmoke_L46 N n a0 i2 i3 S = some res → zw p l e R s m args below meth c (vx_MQ below (zm_Qc zk_E V (zo_v out)) (zm_XC zk_E V zo_x) args s mc ms (fun q => V.2.2.2.1 ≤ q)) 6 zk_E V mc ms 46 [(0, .ref a0), (2, .int i2), (3, .int i3)] [] S rc rs := by
  intro n
  induction n with
  | zero => intro i3 S h; cases h
  | succ n ih =>
    intro i3 S h
    rw [zf_X10_spreadSmoke_L46] at h
    refine zw_iload_n hX dX10_spreadSmoke_46 rfl ?_
    refine zw_iload_n hX dX10_spreadSmoke_47 rfl ?_
    refine zw_icmp_ge (tgt := 127) hX dX10_spreadSmoke_48 (by decide) (fun c48 => ?_) (fun c48 => ?_)
    · rw [if_pos c48] at h
      refine zw_sub (lv' := []) zs_nil ?_
      exact hk  _ (Option.some.inj h).symm
    · rw [if_neg c48] at h
      refine zw_iconst (v := (0 : Int32)) hX dX10_spreadSmoke_51 (by decide) ?_
      refine zw_istore hX dX10_spreadSmoke_52 (by decide) ?_
      obtain ⟨r, g, h⟩ := zb_some h
      refine zw_sub (lv' := [(0, .ref a0), (2, .int i2), (3, .int i3), (4, .int (0 : Int32))]) (List.forall_mem_cons.mpr ⟨rfl, (List.forall_mem_cons.mpr ⟨rfl, (List.forall_mem_cons.mpr ⟨rfl, (List.forall_mem_cons.mpr ⟨rfl, zs_nil⟩)⟩)⟩)⟩) ?_
      refine zt_X10_spreadSmoke_L54 hX hr hR hd (res := r) (out := out) a0 i2 i3 ?_ ?_ N _ _ g
      · intro o ho
        subst ho
        exact hf _ (Option.some.inj h).symm
      · intro  S23 hx
        subst hx
        try dsimp only at h
        refine zw_iinc (v := (i3 + (1 : Int32))) hX dX10_spreadSmoke_121 rfl rfl (by decide) ?_
        refine zw_goto (tgt := 46) hX dX10_spreadSmoke_124 (by decide) ?_
        refine zw_sub (lv' := [(0, .ref a0), (2, .int i2), (3, .int (i3 + (1 : Int32)))]) (List.forall_mem_cons.mpr ⟨rfl, (List.forall_mem_cons.mpr ⟨rfl, (List.forall_mem_cons.mpr ⟨rfl, zs_nil⟩)⟩)⟩) ?_
        exact ih _ _ h
def zf_X10_spreadSmoke (N : Nat) (a0 : Nat) (i1 : Int32) (S : zm_S) : Option (Unit × zm_S) := if (i1 - i1 / (10 : Int32) * (10 : Int32)) = 0 then (zf_X10_spreadSmoke_L12 N N a0 (0 : Int32) (0 : Int32) S).bind (fun r => match r with | .inl o => some o | .inr (v6, S5) => (zf_X10_spreadSmoke_L46 N N a0 v6 (0 : Int32) S5).bind (fun r => match r with | .inl o => some o | .inr (_, S24) => some ((), S24))) else some ((), S)
set_option maxHeartbeats 4000000 in
set_option maxRecDepth 100000 in
theorem zt_X10_spreadSmoke {l : Launch} {V : zm_V} {N : Nat} {S : zm_S} {out : (Unit × zm_S)} {d : Nat} {a0 : Nat} {i1 : Int32} (hd : 5 ≤ d) (h : zf_X10_spreadSmoke N a0 i1 S = some out) : zm_Met l zk_E V yX10_spreadSmoke (.code yX10_spreadSmoke cX10_spreadSmoke 6 none) d [.ref a0, .int i1] S 0 0 (zo_v out) zo_x := by
  refine zm_of (by decide +kernel) (Nat.le_of_ble_eq_true rfl) ?_
  intro p e R s m args below meth c hRR hX hr hxt
  have hR : R.frames = d ∧ R.locals = 64 * d := by rw [hRR]; exact ⟨rfl, rfl⟩
  have hX : zm_X p R s m args meth c RX10 "spreadSmoke" cX10_spreadSmoke 6 zk_E V 0 0 := hX
  unfold zf_X10_spreadSmoke at h
  refine zw_sub (lv' := [(0, .ref a0), (1, .int i1)]) (List.forall_mem_cons.mpr ⟨rfl, (List.forall_mem_cons.mpr ⟨rfl, zs_nil⟩)⟩) ?_
  refine zw_iload_n hX dX10_spreadSmoke_0 rfl ?_
  refine zw_bipush (v := (10 : Int32)) hX dX10_spreadSmoke_1 (by decide) ?_
  refine zw_irem hX dX10_spreadSmoke_3 (by decide) ?_
  refine zw_if_eq (tgt := 8) hX dX10_spreadSmoke_4 (by decide) (fun c4 => ?_) (fun c4 => ?_)
  · rw [if_pos c4] at h
    refine zw_iconst (v := (0 : Int32)) hX dX10_spreadSmoke_8 (by decide) ?_
    refine zw_istore_n hX dX10_spreadSmoke_9 (by decide) ?_
    refine zw_iconst (v := (0 : Int32)) hX dX10_spreadSmoke_10 (by decide) ?_
    refine zw_istore_n hX dX10_spreadSmoke_11 (by decide) ?_
    obtain ⟨r, g, h⟩ := zb_some h
    refine zw_sub (lv' := [(0, .ref a0), (2, .int (0 : Int32)), (3, .int (0 : Int32))]) (List.forall_mem_cons.mpr ⟨rfl, (List.forall_mem_cons.mpr ⟨rfl, (List.forall_mem_cons.mpr ⟨rfl, zs_nil⟩)⟩)⟩) ?_
    refine zt_X10_spreadSmoke_L12 hX hr hR hd (res := r) (out := out) a0 ?_ ?_ N _ _ _ g
    · intro o ho
      subst ho
      exact Option.some.inj h
    · intro v6 S5 hx
      subst hx
      try dsimp only at h
      refine zw_iconst (v := (0 : Int32)) hX dX10_spreadSmoke_44 (by decide) ?_
      refine zw_istore_n hX dX10_spreadSmoke_45 (by decide) ?_
      obtain ⟨r, g, h⟩ := zb_some h
      refine zw_sub (lv' := [(0, .ref a0), (2, .int v6), (3, .int (0 : Int32))]) (List.forall_mem_cons.mpr ⟨rfl, (List.forall_mem_cons.mpr ⟨rfl, (List.forall_mem_cons.mpr ⟨rfl, zs_nil⟩)⟩)⟩) ?_
      refine zt_X10_spreadSmoke_L46 hX hr hR hd (res := r) (out := out) a0 v6 ?_ ?_ N _ _ g
      · intro o ho
        subst ho
        exact Option.some.inj h
      · intro  S24 hx
        subst hx
        try dsimp only at h
        obtain rfl := Option.some.inj h
        exact zw_vret hX hr dX10_spreadSmoke_127 ⟨rfl, rfl⟩
  · rw [if_neg c4] at h
    obtain rfl := Option.some.inj h
    exact zw_vret hX hr dX10_spreadSmoke_7 ⟨rfl, rfl⟩
def zf_X10_cellOf (N : Nat) (a0 : Nat) (i1 : Int32) (S : zm_S) : Option (Int32 × zm_S) := (zg_r S a0 10 8).bind (fun b1 => (za_r S b1 i1).bind (fun b2 => (za_x S 0 b2 (1 : Int32)).bind (fun v3 => if v3 = (-1 : Int32) then some ((-1 : Int32), S) else (za_x S 0 b2 (1 : Int32)).bind (fun v4 => (za_x S 0 b2 (2 : Int32)).bind (fun v5 => (zf_X2_cellNumber N v4 v5 S).bind (fun r8 => some (r8.1, r8.2)))))))
set_option maxHeartbeats 4000000 in
set_option maxRecDepth 100000 in
theorem zt_X10_cellOf {l : Launch} {V : zm_V} {N : Nat} {S : zm_S} {out : (Int32 × zm_S)} {d : Nat} {a0 : Nat} {i1 : Int32} (hd : 2 ≤ d) (h : zf_X10_cellOf N a0 i1 S = some out) : zm_Met l zk_E V yX10_cellOf (.code yX10_cellOf cX10_cellOf 3 (some .int)) d [.ref a0, .int i1] S 0 0 (zo_i out) zo_x := by
  refine zm_of (by decide +kernel) (Nat.le_of_ble_eq_true rfl) ?_
  intro p e R s m args below meth c hRR hX hr hxt
  have hR : R.frames = d ∧ R.locals = 64 * d := by rw [hRR]; exact ⟨rfl, rfl⟩
  have hX : zm_X p R s m args meth c RX10 "cellOf" cX10_cellOf 3 zk_E V 0 0 := hX
  unfold zf_X10_cellOf at h
  refine zw_sub (lv' := [(0, .ref a0), (1, .int i1)]) (List.forall_mem_cons.mpr ⟨rfl, (List.forall_mem_cons.mpr ⟨rfl, zs_nil⟩)⟩) ?_
  refine zw_aload_n hX dX10_cellOf_0 rfl ?_
  obtain ⟨b1, g, h⟩ := zb_some h
  refine zw_getr hX zl_X10_29 dX10_cellOf_1 g ?_
  refine zw_iload_n hX dX10_cellOf_4 rfl ?_
  obtain ⟨b2, g, h⟩ := zb_some h
  refine zw_xr hX dX10_cellOf_5 g ?_
  refine zw_astore_n hX dX10_cellOf_6 (by decide) ?_
  refine zw_aload_n hX dX10_cellOf_7 rfl ?_
  refine zw_iconst (v := (1 : Int32)) hX dX10_cellOf_8 (by decide) ?_
  obtain ⟨v3, g, h⟩ := zb_some h
  refine zw_xi hX dX10_cellOf_9 g ?_
  refine zw_iconst (v := (-1 : Int32)) hX dX10_cellOf_10 (by decide) ?_
  refine zw_icmp_ne (tgt := 18) hX dX10_cellOf_11 (by decide) (fun c11 => ?_) (fun c11 => ?_)
  · rw [if_neg c11] at h
    refine zw_aload_n hX dX10_cellOf_18 rfl ?_
    refine zw_iconst (v := (1 : Int32)) hX dX10_cellOf_19 (by decide) ?_
    obtain ⟨v4, g, h⟩ := zb_some h
    refine zw_xi hX dX10_cellOf_20 g ?_
    refine zw_aload_n hX dX10_cellOf_21 rfl ?_
    refine zw_iconst (v := (2 : Int32)) hX dX10_cellOf_22 (by decide) ?_
    obtain ⟨v5, g, h⟩ := zb_some h
    refine zw_xi hX dX10_cellOf_23 g ?_
    obtain ⟨r8, g, h⟩ := zb_some h
    refine zc_Si (as := [.int v4, .int v5]) hX (zt_X2_cellNumber (d := d - 1) (by omega) g) zl_X10_106 dX10_cellOf_24 ⟨rfl, rfl, Nat.le_of_ble_eq_true rfl⟩ ⟨by omega, by omega⟩ ?_
    obtain rfl := Option.some.inj h
    exact zw_iret hX hr dX10_cellOf_27 rfl ⟨rfl, rfl⟩
  · rw [if_pos c11] at h
    refine zw_iconst (v := (-1 : Int32)) hX dX10_cellOf_14 (by decide) ?_
    refine zw_goto (tgt := 27) hX dX10_cellOf_15 (by decide) ?_
    obtain rfl := Option.some.inj h
    exact zw_iret hX hr dX10_cellOf_27 rfl ⟨rfl, rfl⟩
def zf_X10_countInCell_J35 (N : Nat) (k : Nat → Int32 → Int32 → Int32 → zm_S → Option ((Int32 × zm_S) ⊕ ((Int32) × zm_S))) (a0 : Nat) (i1 : Int32) (i3 : Int32) (t0 : Int32) (t1 : Int32) (S : zm_S) : Option ((Int32 × zm_S) ⊕ ((Int32) × zm_S)) := k a0 i1 (t0 + t1) (i3 + (1 : Int32)) S
set_option maxHeartbeats 4000000 in
set_option maxRecDepth 100000 in
theorem zt_X10_countInCell_J35 {p : Program} {l : Launch} {e : Env} {R : Room} {s : State} {m : MethodId} {args : Array Value} {below : List Frame} {meth : Method} {c : Code} {V : zm_V} {mc ms d rc rs : Nat} (hX : zm_X p R s m args meth c RX10 "countInCell" cX10_countInCell 4 zk_E V mc ms) (hr : meth.sig.returnType = (some .int)) (hR : R.frames = d ∧ R.locals = 64 * d) (hd : 3 ≤ d) {N : Nat} {k : Nat → Int32 → Int32 → Int32 → zm_S → Option ((Int32 × zm_S) ⊕ ((Int32) × zm_S))} {a0 : Nat} {i1 : Int32} {i3 : Int32} {t0 : Int32} {t1 : Int32} {res : (Int32 × zm_S) ⊕ ((Int32) × zm_S)} {out : (Int32 × zm_S)}   (hf : ∀ o, res = .inl o → o = out) (hk : ∀ (x2 : Int32) (S' : zm_S), res = .inr (x2, S') → zw p l e R s m args below meth c (vx_MQ below (zm_Qc zk_E V (zo_i out)) (zm_XC zk_E V zo_x) args s mc ms (fun q => V.2.2.2.1 ≤ q)) 4 zk_E V mc ms 43 [(2, .int x2)] [] S' rc rs) (hrec : ∀ (i2' : Int32) (i3' : Int32) (S : zm_S), k a0 i1 i2' i3' S = some res → zw p l e R s m args below meth c (vx_MQ below (zm_Qc zk_E V (zo_i out)) (zm_XC zk_E V zo_x) args s mc ms (fun q => V.2.2.2.1 ≤ q)) 4 zk_E V mc ms 4 [(0, .ref a0), (1, .int i1), (2, .int i2'), (3, .int i3')] [] S rc rs) {S : zm_S} (h : zf_X10_countInCell_J35 N k a0 i1 i3 t0 t1 S = some res) : zw p l e R s m args below meth c (vx_MQ below (zm_Qc zk_E V (zo_i out)) (zm_XC zk_E V zo_x) args s mc ms (fun q => V.2.2.2.1 ≤ q)) 4 zk_E V mc ms 35 [(0, .ref a0), (1, .int i1), (3, .int i3)] [.int t1, .int t0] S rc rs := by
  unfold zf_X10_countInCell_J35 at h
  refine zw_iadd hX dX10_countInCell_35 ?_
  refine zw_istore_n hX dX10_countInCell_36 (by decide) ?_
  refine zw_iinc (v := (i3 + (1 : Int32))) hX dX10_countInCell_37 rfl rfl (by decide) ?_
  refine zw_goto (tgt := 4) hX dX10_countInCell_40 (by decide) ?_
  refine zw_sub (lv' := [(0, .ref a0), (1, .int i1), (2, .int (t0 + t1)), (3, .int (i3 + (1 : Int32)))]) (List.forall_mem_cons.mpr ⟨rfl, (List.forall_mem_cons.mpr ⟨rfl, (List.forall_mem_cons.mpr ⟨rfl, (List.forall_mem_cons.mpr ⟨rfl, zs_nil⟩)⟩)⟩)⟩) ?_
  exact hrec _ _ _ h
def zf_X10_countInCell_J34 (N : Nat) (k : Nat → Int32 → Int32 → Int32 → zm_S → Option ((Int32 × zm_S) ⊕ ((Int32) × zm_S))) (a0 : Nat) (i1 : Int32) (i3 : Int32) (t0 : Int32) (S : zm_S) : Option ((Int32 × zm_S) ⊕ ((Int32) × zm_S)) := zf_X10_countInCell_J35 N (k) a0 i1 i3 t0 (0 : Int32) S
set_option maxHeartbeats 4000000 in
set_option maxRecDepth 100000 in
theorem zt_X10_countInCell_J34 {p : Program} {l : Launch} {e : Env} {R : Room} {s : State} {m : MethodId} {args : Array Value} {below : List Frame} {meth : Method} {c : Code} {V : zm_V} {mc ms d rc rs : Nat} (hX : zm_X p R s m args meth c RX10 "countInCell" cX10_countInCell 4 zk_E V mc ms) (hr : meth.sig.returnType = (some .int)) (hR : R.frames = d ∧ R.locals = 64 * d) (hd : 3 ≤ d) {N : Nat} {k : Nat → Int32 → Int32 → Int32 → zm_S → Option ((Int32 × zm_S) ⊕ ((Int32) × zm_S))} {a0 : Nat} {i1 : Int32} {i3 : Int32} {t0 : Int32} {res : (Int32 × zm_S) ⊕ ((Int32) × zm_S)} {out : (Int32 × zm_S)}   (hf : ∀ o, res = .inl o → o = out) (hk : ∀ (x2 : Int32) (S' : zm_S), res = .inr (x2, S') → zw p l e R s m args below meth c (vx_MQ below (zm_Qc zk_E V (zo_i out)) (zm_XC zk_E V zo_x) args s mc ms (fun q => V.2.2.2.1 ≤ q)) 4 zk_E V mc ms 43 [(2, .int x2)] [] S' rc rs) (hrec : ∀ (i2' : Int32) (i3' : Int32) (S : zm_S), k a0 i1 i2' i3' S = some res → zw p l e R s m args below meth c (vx_MQ below (zm_Qc zk_E V (zo_i out)) (zm_XC zk_E V zo_x) args s mc ms (fun q => V.2.2.2.1 ≤ q)) 4 zk_E V mc ms 4 [(0, .ref a0), (1, .int i1), (2, .int i2'), (3, .int i3')] [] S rc rs) {S : zm_S} (h : zf_X10_countInCell_J34 N k a0 i1 i3 t0 S = some res) : zw p l e R s m args below meth c (vx_MQ below (zm_Qc zk_E V (zo_i out)) (zm_XC zk_E V zo_x) args s mc ms (fun q => V.2.2.2.1 ≤ q)) 4 zk_E V mc ms 34 [(0, .ref a0), (1, .int i1), (3, .int i3)] [.int t0] S rc rs := by
  unfold zf_X10_countInCell_J34 at h
  refine zw_iconst (v := (0 : Int32)) hX dX10_countInCell_34 (by decide) ?_
  refine zw_sub (lv' := [(0, .ref a0), (1, .int i1), (3, .int i3)]) (List.forall_mem_cons.mpr ⟨rfl, (List.forall_mem_cons.mpr ⟨rfl, (List.forall_mem_cons.mpr ⟨rfl, zs_nil⟩)⟩)⟩) ?_
  exact zt_X10_countInCell_J35 hX hr hR hd hf hk hrec h
def zf_X10_countInCell_L4 (N : Nat) : Nat → Nat → Int32 → Int32 → Int32 → zm_S → Option ((Int32 × zm_S) ⊕ ((Int32) × zm_S))
  | 0, _, _, _, _, _ => none
  | n + 1, a0, i1, i2, i3, S => (zg_i S a0 10 7).bind (fun v1 => if v1 ≤ i3 then some (.inr (i2, S)) else (zi S a0 10).bind (fun _ => (zf_X10_cellOf N a0 i3 S).bind (fun r4 => if r4.1 = i1 then (zi r4.2 a0 10).bind (fun _ => (zf_X10_isCaught N a0 i3 r4.2).bind (fun r7 => if r7.1 = 0 then zf_X10_countInCell_J35 N (zf_X10_countInCell_L4 N n) a0 i1 i3 i2 (1 : Int32) r7.2 else zf_X10_countInCell_J34 N (zf_X10_countInCell_L4 N n) a0 i1 i3 i2 r7.2)) else zf_X10_countInCell_J34 N (zf_X10_countInCell_L4 N n) a0 i1 i3 i2 r4.2)))
set_option maxHeartbeats 4000000 in
set_option maxRecDepth 100000 in
theorem zt_X10_countInCell_L4 {p : Program} {l : Launch} {e : Env} {R : Room} {s : State} {m : MethodId} {args : Array Value} {below : List Frame} {meth : Method} {c : Code} {V : zm_V} {mc ms d rc rs : Nat} (hX : zm_X p R s m args meth c RX10 "countInCell" cX10_countInCell 4 zk_E V mc ms) (hr : meth.sig.returnType = (some .int)) (hR : R.frames = d ∧ R.locals = 64 * d) (hd : 3 ≤ d) {N : Nat} {res : (Int32 × zm_S) ⊕ ((Int32) × zm_S)} {out : (Int32 × zm_S)} (a0 : Nat) (i1 : Int32) (hf : ∀ o, res = .inl o → o = out) (hk : ∀ (x2 : Int32) (S' : zm_S), res = .inr (x2, S') → zw p l e R s m args below meth c (vx_MQ below (zm_Qc zk_E V (zo_i out)) (zm_XC zk_E V zo_x) args s mc ms (fun q => V.2.2.2.1 ≤ q)) 4 zk_E V mc ms 43 [(2, .int x2)] [] S' rc rs) : ∀ (n : Nat) (i2 : Int32) (i3 : Int32) (S : zm_S), zf_X10_countInCell_L4 N n a0 i1 i2 i3 S = some res → zw p l e R s m args below meth c (vx_MQ below (zm_Qc zk_E V (zo_i out)) (zm_XC zk_E V zo_x) args s mc ms (fun q => V.2.2.2.1 ≤ q)) 4 zk_E V mc ms 4 [(0, .ref a0), (1, .int i1), (2, .int i2), (3, .int i3)] [] S rc rs := by
  intro n
  induction n with
  | zero => intro i2 i3 S h; cases h
  | succ n ih =>
    intro i2 i3 S h
    rw [zf_X10_countInCell_L4] at h
    refine zw_iload_n hX dX10_countInCell_4 rfl ?_
    refine zw_aload_n hX dX10_countInCell_5 rfl ?_
    obtain ⟨v1, g, h⟩ := zb_some h
    refine zw_geti hX zl_X10_93 dX10_countInCell_6 g ?_
    refine zw_icmp_ge (tgt := 43) hX dX10_countInCell_9 (by decide) (fun c9 => ?_) (fun c9 => ?_)
    · rw [if_pos c9] at h
      refine zw_sub (lv' := [(2, .int i2)]) (List.forall_mem_cons.mpr ⟨rfl, zs_nil⟩) ?_
      exact hk _ _ (Option.some.inj h).symm
    · rw [if_neg c9] at h
      refine zw_iload_n hX dX10_countInCell_12 rfl ?_
      refine zw_aload_n hX dX10_countInCell_13 rfl ?_
      refine zw_iload_n hX dX10_countInCell_14 rfl ?_
      obtain ⟨_, gi, h⟩ := zb_some h
      obtain ⟨r4, g, h⟩ := zb_some h
      refine zc_Vi (as := [.int i3]) hX gi (zt_X10_cellOf (d := d - 1) (by omega) g) zl_X10_96 rfl dX10_countInCell_15 ⟨rfl, rfl, Nat.le_of_ble_eq_true rfl⟩ ⟨by omega, by omega⟩ ?_
      refine zw_iload_n hX dX10_countInCell_18 rfl ?_
      refine zw_icmp_ne (tgt := 34) hX dX10_countInCell_19 (by decide) (fun c19 => ?_) (fun c19 => ?_)
      · rw [if_neg c19] at h
        refine zw_sub (lv' := [(0, .ref a0), (1, .int i1), (3, .int i3)]) (List.forall_mem_cons.mpr ⟨rfl, (List.forall_mem_cons.mpr ⟨rfl, (List.forall_mem_cons.mpr ⟨rfl, zs_nil⟩)⟩)⟩) ?_
        exact zt_X10_countInCell_J34 hX hr hR hd hf hk ih h
      · rw [if_pos c19] at h
        refine zw_aload_n hX dX10_countInCell_22 rfl ?_
        refine zw_iload_n hX dX10_countInCell_23 rfl ?_
        obtain ⟨_, gi, h⟩ := zb_some h
        obtain ⟨r7, g, h⟩ := zb_some h
        refine zc_Vi (as := [.int i3]) hX gi (zt_X10_isCaught (d := d - 1) (by omega) g) zl_X10_99 rfl dX10_countInCell_24 ⟨rfl, rfl, Nat.le_of_ble_eq_true rfl⟩ ⟨by omega, by omega⟩ ?_
        refine zw_if_ne (tgt := 34) hX dX10_countInCell_27 (by decide) (fun c27 => ?_) (fun c27 => ?_)
        · rw [if_neg c27] at h
          refine zw_sub (lv' := [(0, .ref a0), (1, .int i1), (3, .int i3)]) (List.forall_mem_cons.mpr ⟨rfl, (List.forall_mem_cons.mpr ⟨rfl, (List.forall_mem_cons.mpr ⟨rfl, zs_nil⟩)⟩)⟩) ?_
          exact zt_X10_countInCell_J34 hX hr hR hd hf hk ih h
        · rw [if_pos c27] at h
          refine zw_iconst (v := (1 : Int32)) hX dX10_countInCell_30 (by decide) ?_
          refine zw_goto (tgt := 35) hX dX10_countInCell_31 (by decide) ?_
          refine zw_sub (lv' := [(0, .ref a0), (1, .int i1), (3, .int i3)]) (List.forall_mem_cons.mpr ⟨rfl, (List.forall_mem_cons.mpr ⟨rfl, (List.forall_mem_cons.mpr ⟨rfl, zs_nil⟩)⟩)⟩) ?_
          exact zt_X10_countInCell_J35 hX hr hR hd hf hk ih h
def zf_X10_countInCell (N : Nat) (a0 : Nat) (i1 : Int32) (S : zm_S) : Option (Int32 × zm_S) := (zf_X10_countInCell_L4 N N a0 i1 (0 : Int32) (0 : Int32) S).bind (fun r => match r with | .inl o => some o | .inr (v9, S8) => some (v9, S8))
set_option maxHeartbeats 4000000 in
set_option maxRecDepth 100000 in
theorem zt_X10_countInCell {l : Launch} {V : zm_V} {N : Nat} {S : zm_S} {out : (Int32 × zm_S)} {d : Nat} {a0 : Nat} {i1 : Int32} (hd : 3 ≤ d) (h : zf_X10_countInCell N a0 i1 S = some out) : zm_Met l zk_E V yX10_countInCell (.code yX10_countInCell cX10_countInCell 4 (some .int)) d [.ref a0, .int i1] S 0 0 (zo_i out) zo_x := by
  refine zm_of (by decide +kernel) (Nat.le_of_ble_eq_true rfl) ?_
  intro p e R s m args below meth c hRR hX hr hxt
  have hR : R.frames = d ∧ R.locals = 64 * d := by rw [hRR]; exact ⟨rfl, rfl⟩
  have hX : zm_X p R s m args meth c RX10 "countInCell" cX10_countInCell 4 zk_E V 0 0 := hX
  unfold zf_X10_countInCell at h
  refine zw_sub (lv' := [(0, .ref a0), (1, .int i1)]) (List.forall_mem_cons.mpr ⟨rfl, (List.forall_mem_cons.mpr ⟨rfl, zs_nil⟩)⟩) ?_
  refine zw_iconst (v := (0 : Int32)) hX dX10_countInCell_0 (by decide) ?_
  refine zw_istore_n hX dX10_countInCell_1 (by decide) ?_
  refine zw_iconst (v := (0 : Int32)) hX dX10_countInCell_2 (by decide) ?_
  refine zw_istore_n hX dX10_countInCell_3 (by decide) ?_
  obtain ⟨r, g, h⟩ := zb_some h
  refine zw_sub (lv' := [(0, .ref a0), (1, .int i1), (2, .int (0 : Int32)), (3, .int (0 : Int32))]) (List.forall_mem_cons.mpr ⟨rfl, (List.forall_mem_cons.mpr ⟨rfl, (List.forall_mem_cons.mpr ⟨rfl, (List.forall_mem_cons.mpr ⟨rfl, zs_nil⟩)⟩)⟩)⟩) ?_
  refine zt_X10_countInCell_L4 hX hr hR hd (res := r) (out := out) a0 i1 ?_ ?_ N _ _ _ g
  · intro o ho
    subst ho
    exact Option.some.inj h
  · intro v9 S8 hx
    subst hx
    try dsimp only at h
    refine zw_iload_n hX dX10_countInCell_43 rfl ?_
    obtain rfl := Option.some.inj h
    exact zw_iret hX hr dX10_countInCell_44 rfl ⟨rfl, rfl⟩
def zf_X10_cellFact (N : Nat) (a0 : Nat) (i1 : Int32) (i2 : Int32) (S : zm_S) : Option (Int32 × zm_S) := if (i2).toInt = 0 then (zg_r S a0 10 2).bind (fun b4 => (za_x S 2 b4 i1).bind (fun v5 => if v5 = 0 then some ((0 : Int32), S) else some ((1 : Int32), S))) else if (i2).toInt = 1 then (zg_r S a0 10 5).bind (fun b6 => (za_x S 0 b6 i1).bind (fun v7 => some (v7, S))) else (zi S a0 10).bind (fun _ => (zf_X10_countInCell N a0 i1 S).bind (fun r3 => some (r3.1, r3.2)))
set_option maxHeartbeats 4000000 in
set_option maxRecDepth 100000 in
theorem zt_X10_cellFact {l : Launch} {V : zm_V} {N : Nat} {S : zm_S} {out : (Int32 × zm_S)} {d : Nat} {a0 : Nat} {i1 : Int32} {i2 : Int32} (hd : 4 ≤ d) (h : zf_X10_cellFact N a0 i1 i2 S = some out) : zm_Met l zk_E V yX10_cellFact (.code yX10_cellFact cX10_cellFact 3 (some .int)) d [.ref a0, .int i1, .int i2] S 0 0 (zo_i out) zo_x := by
  refine zm_of (by decide +kernel) (Nat.le_of_ble_eq_true rfl) ?_
  intro p e R s m args below meth c hRR hX hr hxt
  have hR : R.frames = d ∧ R.locals = 64 * d := by rw [hRR]; exact ⟨rfl, rfl⟩
  have hX : zm_X p R s m args meth c RX10 "cellFact" cX10_cellFact 3 zk_E V 0 0 := hX
  unfold zf_X10_cellFact at h
  refine zw_sub (lv' := [(0, .ref a0), (1, .int i1), (2, .int i2)]) (List.forall_mem_cons.mpr ⟨rfl, (List.forall_mem_cons.mpr ⟨rfl, (List.forall_mem_cons.mpr ⟨rfl, zs_nil⟩)⟩)⟩) ?_
  refine zw_iload_n hX dX10_cellFact_0 rfl ?_
  by_cases c1_0 : (i2).toInt = 0
  · rw [if_pos c1_0] at h
    refine zw_lookup (off := 27) (tgt := 28) hX dX10_cellFact_1 (by decide) (by rw [c1_0]; decide) (by decide) ?_
    refine zw_aload_n hX dX10_cellFact_28 rfl ?_
    obtain ⟨b4, g, h⟩ := zb_some h
    refine zw_getr hX zl_X10_11 dX10_cellFact_29 g ?_
    refine zw_iload_n hX dX10_cellFact_32 rfl ?_
    obtain ⟨v5, g, h⟩ := zb_some h
    refine zw_xz hX dX10_cellFact_33 g ?_
    refine zw_if_eq (tgt := 41) hX dX10_cellFact_34 (by decide) (fun c34 => ?_) (fun c34 => ?_)
    · rw [if_pos c34] at h
      refine zw_iconst (v := (0 : Int32)) hX dX10_cellFact_41 (by decide) ?_
      obtain rfl := Option.some.inj h
      exact zw_iret hX hr dX10_cellFact_42 rfl ⟨rfl, rfl⟩
    · rw [if_neg c34] at h
      refine zw_iconst (v := (1 : Int32)) hX dX10_cellFact_37 (by decide) ?_
      refine zw_goto (tgt := 42) hX dX10_cellFact_38 (by decide) ?_
      obtain rfl := Option.some.inj h
      exact zw_iret hX hr dX10_cellFact_42 rfl ⟨rfl, rfl⟩
  rw [if_neg c1_0] at h
  by_cases c1_1 : (i2).toInt = 1
  · rw [if_pos c1_1] at h
    refine zw_lookup (off := 42) (tgt := 43) hX dX10_cellFact_1 (by decide) (by rw [c1_1]; decide) (by decide) ?_
    refine zw_aload_n hX dX10_cellFact_43 rfl ?_
    obtain ⟨b6, g, h⟩ := zb_some h
    refine zw_getr hX zl_X10_21 dX10_cellFact_44 g ?_
    refine zw_iload_n hX dX10_cellFact_47 rfl ?_
    obtain ⟨v7, g, h⟩ := zb_some h
    refine zw_xi hX dX10_cellFact_48 g ?_
    obtain rfl := Option.some.inj h
    exact zw_iret hX hr dX10_cellFact_49 rfl ⟨rfl, rfl⟩
  rw [if_neg c1_1] at h
  refine zw_lookup (off := 49) (tgt := 50) hX dX10_cellFact_1 (by decide) (by simp [Op.lookupswitch.offset, c1_0, c1_1]) (by decide) ?_
  refine zw_aload_n hX dX10_cellFact_50 rfl ?_
  refine zw_iload_n hX dX10_cellFact_51 rfl ?_
  obtain ⟨_, gi, h⟩ := zb_some h
  obtain ⟨r3, g, h⟩ := zb_some h
  refine zc_Vi (as := [.int i1]) hX gi (zt_X10_countInCell (d := d - 1) (by omega) g) zl_X10_89 rfl dX10_cellFact_52 ⟨rfl, rfl, Nat.le_of_ble_eq_true rfl⟩ ⟨by omega, by omega⟩ ?_
  obtain rfl := Option.some.inj h
  exact zw_iret hX hr dX10_cellFact_55 rfl ⟨rfl, rfl⟩
def zf_X10_addPerson (N : Nat) (a0 : Nat) (i1 : Int32) (i2 : Int32) (S : zm_S) : Option (Int32 × zm_S) := (zg_i S a0 10 7).bind (fun v1 => if v1 < (40 : Int32) then (zg_r S a0 10 8).bind (fun b2 => (zg_i S a0 10 7).bind (fun v3 => (za_r S b2 v3).bind (fun b4 => (zi S a0 10).bind (fun _ => (zf_X10_outside N a0 S).bind (fun r7 => (zs_i r7.2 b4 (0 : Int32) r7.1).bind (fun S8 => (zs_i S8 b4 (1 : Int32) (-1 : Int32)).bind (fun S9 => (zs_i S9 b4 (2 : Int32) (-1 : Int32)).bind (fun S10 => (zs_i S10 b4 (3 : Int32) (-1 : Int32)).bind (fun S11 => (zs_i S11 b4 (6 : Int32) i1).bind (fun S12 => (zs_i S12 b4 (7 : Int32) i2).bind (fun S13 => (zg_i S13 a0 10 7).bind (fun v14 => (zp S13 a0 10 7 (.int (v14 + (1 : Int32)))).bind (fun S15 => (zg_i S15 a0 10 7).bind (fun v16 => some ((v16 - (1 : Int32)), S15))))))))))))))) else some ((-1 : Int32), S))
set_option maxHeartbeats 4000000 in
set_option maxRecDepth 100000 in
theorem zt_X10_addPerson {l : Launch} {V : zm_V} {N : Nat} {S : zm_S} {out : (Int32 × zm_S)} {d : Nat} {a0 : Nat} {i1 : Int32} {i2 : Int32} (hd : 2 ≤ d) (h : zf_X10_addPerson N a0 i1 i2 S = some out) : zm_Met l zk_E V yX10_addPerson (.code yX10_addPerson cX10_addPerson 4 (some .int)) d [.ref a0, .int i1, .int i2] S 0 0 (zo_i out) zo_x := by
  refine zm_of (by decide +kernel) (Nat.le_of_ble_eq_true rfl) ?_
  intro p e R s m args below meth c hRR hX hr hxt
  have hR : R.frames = d ∧ R.locals = 64 * d := by rw [hRR]; exact ⟨rfl, rfl⟩
  have hX : zm_X p R s m args meth c RX10 "addPerson" cX10_addPerson 4 zk_E V 0 0 := hX
  unfold zf_X10_addPerson at h
  refine zw_sub (lv' := [(0, .ref a0), (1, .int i1), (2, .int i2)]) (List.forall_mem_cons.mpr ⟨rfl, (List.forall_mem_cons.mpr ⟨rfl, (List.forall_mem_cons.mpr ⟨rfl, zs_nil⟩)⟩)⟩) ?_
  refine zw_aload_n hX dX10_addPerson_0 rfl ?_
  obtain ⟨v1, g, h⟩ := zb_some h
  refine zw_geti hX zl_X10_93 dX10_addPerson_1 g ?_
  refine zw_bipush (v := (40 : Int32)) hX dX10_addPerson_4 (by decide) ?_
  refine zw_icmp_lt (tgt := 11) hX dX10_addPerson_6 (by decide) (fun c6 => ?_) (fun c6 => ?_)
  · rw [if_pos c6] at h
    refine zw_aload_n hX dX10_addPerson_11 rfl ?_
    obtain ⟨b2, g, h⟩ := zb_some h
    refine zw_getr hX zl_X10_29 dX10_addPerson_12 g ?_
    refine zw_aload_n hX dX10_addPerson_15 rfl ?_
    obtain ⟨v3, g, h⟩ := zb_some h
    refine zw_geti hX zl_X10_93 dX10_addPerson_16 g ?_
    obtain ⟨b4, g, h⟩ := zb_some h
    refine zw_xr hX dX10_addPerson_19 g ?_
    refine zw_astore_n hX dX10_addPerson_20 (by decide) ?_
    refine zw_aload_n hX dX10_addPerson_21 rfl ?_
    refine zw_iconst (v := (0 : Int32)) hX dX10_addPerson_22 (by decide) ?_
    refine zw_aload_n hX dX10_addPerson_23 rfl ?_
    obtain ⟨_, gi, h⟩ := zb_some h
    obtain ⟨r7, g, h⟩ := zb_some h
    refine zc_Vi (as := []) hX gi (zt_X10_outside (d := d - 1) (by omega) g) zl_X10_102 rfl dX10_addPerson_24 ⟨rfl, rfl, Nat.le_of_ble_eq_true rfl⟩ ⟨by omega, by omega⟩ ?_
    obtain ⟨S8, g, h⟩ := zb_some h
    refine zw_si hX dX10_addPerson_27 g ?_
    refine zw_aload_n hX dX10_addPerson_28 rfl ?_
    refine zw_iconst (v := (1 : Int32)) hX dX10_addPerson_29 (by decide) ?_
    refine zw_iconst (v := (-1 : Int32)) hX dX10_addPerson_30 (by decide) ?_
    obtain ⟨S9, g, h⟩ := zb_some h
    refine zw_si hX dX10_addPerson_31 g ?_
    refine zw_aload_n hX dX10_addPerson_32 rfl ?_
    refine zw_iconst (v := (2 : Int32)) hX dX10_addPerson_33 (by decide) ?_
    refine zw_iconst (v := (-1 : Int32)) hX dX10_addPerson_34 (by decide) ?_
    obtain ⟨S10, g, h⟩ := zb_some h
    refine zw_si hX dX10_addPerson_35 g ?_
    refine zw_aload_n hX dX10_addPerson_36 rfl ?_
    refine zw_iconst (v := (3 : Int32)) hX dX10_addPerson_37 (by decide) ?_
    refine zw_iconst (v := (-1 : Int32)) hX dX10_addPerson_38 (by decide) ?_
    obtain ⟨S11, g, h⟩ := zb_some h
    refine zw_si hX dX10_addPerson_39 g ?_
    refine zw_aload_n hX dX10_addPerson_40 rfl ?_
    refine zw_bipush (v := (6 : Int32)) hX dX10_addPerson_41 (by decide) ?_
    refine zw_iload_n hX dX10_addPerson_43 rfl ?_
    obtain ⟨S12, g, h⟩ := zb_some h
    refine zw_si hX dX10_addPerson_44 g ?_
    refine zw_aload_n hX dX10_addPerson_45 rfl ?_
    refine zw_bipush (v := (7 : Int32)) hX dX10_addPerson_46 (by decide) ?_
    refine zw_iload_n hX dX10_addPerson_48 rfl ?_
    obtain ⟨S13, g, h⟩ := zb_some h
    refine zw_si hX dX10_addPerson_49 g ?_
    refine zw_aload_n hX dX10_addPerson_50 rfl ?_
    refine zw_dup hX dX10_addPerson_51 rfl ?_
    obtain ⟨v14, g, h⟩ := zb_some h
    refine zw_geti hX zl_X10_93 dX10_addPerson_52 g ?_
    refine zw_iconst (v := (1 : Int32)) hX dX10_addPerson_55 (by decide) ?_
    refine zw_iadd hX dX10_addPerson_56 ?_
    obtain ⟨S15, g, h⟩ := zb_some h
    refine zw_putv hX zl_X10_93 zt_10_7 dX10_addPerson_57 rfl rfl g ?_
    refine zw_aload_n hX dX10_addPerson_60 rfl ?_
    obtain ⟨v16, g, h⟩ := zb_some h
    refine zw_geti hX zl_X10_93 dX10_addPerson_61 g ?_
    refine zw_iconst (v := (1 : Int32)) hX dX10_addPerson_64 (by decide) ?_
    refine zw_isub hX dX10_addPerson_65 ?_
    obtain rfl := Option.some.inj h
    exact zw_iret hX hr dX10_addPerson_66 rfl ⟨rfl, rfl⟩
  · rw [if_neg c6] at h
    refine zw_iconst (v := (-1 : Int32)) hX dX10_addPerson_9 (by decide) ?_
    obtain rfl := Option.some.inj h
    exact zw_iret hX hr dX10_addPerson_10 rfl ⟨rfl, rfl⟩
def zf_X10_personFact (N : Nat) (a0 : Nat) (i1 : Int32) (i2 : Int32) (S : zm_S) : Option (Int32 × zm_S) := (zg_r S a0 10 8).bind (fun b1 => (za_r S b1 i1).bind (fun b2 => (za_x S 0 b2 i2).bind (fun v3 => some (v3, S))))
set_option maxHeartbeats 4000000 in
set_option maxRecDepth 100000 in
theorem zt_X10_personFact {l : Launch} {V : zm_V} {N : Nat} {S : zm_S} {out : (Int32 × zm_S)} {d : Nat} {a0 : Nat} {i1 : Int32} {i2 : Int32} (hd : 1 ≤ d) (h : zf_X10_personFact N a0 i1 i2 S = some out) : zm_Met l zk_E V yX10_personFact (.code yX10_personFact cX10_personFact 3 (some .int)) d [.ref a0, .int i1, .int i2] S 0 0 (zo_i out) zo_x := by
  refine zm_of (by decide +kernel) (Nat.le_of_ble_eq_true rfl) ?_
  intro p e R s m args below meth c hRR hX hr hxt
  have hR : R.frames = d ∧ R.locals = 64 * d := by rw [hRR]; exact ⟨rfl, rfl⟩
  have hX : zm_X p R s m args meth c RX10 "personFact" cX10_personFact 3 zk_E V 0 0 := hX
  unfold zf_X10_personFact at h
  refine zw_sub (lv' := [(0, .ref a0), (1, .int i1), (2, .int i2)]) (List.forall_mem_cons.mpr ⟨rfl, (List.forall_mem_cons.mpr ⟨rfl, (List.forall_mem_cons.mpr ⟨rfl, zs_nil⟩)⟩)⟩) ?_
  refine zw_aload_n hX dX10_personFact_0 rfl ?_
  obtain ⟨b1, g, h⟩ := zb_some h
  refine zw_getr hX zl_X10_29 dX10_personFact_1 g ?_
  refine zw_iload_n hX dX10_personFact_4 rfl ?_
  obtain ⟨b2, g, h⟩ := zb_some h
  refine zw_xr hX dX10_personFact_5 g ?_
  refine zw_iload_n hX dX10_personFact_6 rfl ?_
  obtain ⟨v3, g, h⟩ := zb_some h
  refine zw_xi hX dX10_personFact_7 g ?_
  obtain rfl := Option.some.inj h
  exact zw_iret hX hr dX10_personFact_8 rfl ⟨rfl, rfl⟩
def zf_X10_countInZone_J31 (N : Nat) (k : Nat → Int32 → Int32 → Int32 → zm_S → Option ((Int32 × zm_S) ⊕ ((Int32) × zm_S))) (a0 : Nat) (i1 : Int32) (i3 : Int32) (t0 : Int32) (t1 : Int32) (S : zm_S) : Option ((Int32 × zm_S) ⊕ ((Int32) × zm_S)) := k a0 i1 (t0 + t1) (i3 + (1 : Int32)) S
set_option maxHeartbeats 4000000 in
set_option maxRecDepth 100000 in
theorem zt_X10_countInZone_J31 {p : Program} {l : Launch} {e : Env} {R : Room} {s : State} {m : MethodId} {args : Array Value} {below : List Frame} {meth : Method} {c : Code} {V : zm_V} {mc ms d rc rs : Nat} (hX : zm_X p R s m args meth c RX10 "countInZone" cX10_countInZone 4 zk_E V mc ms) (hr : meth.sig.returnType = (some .int)) (hR : R.frames = d ∧ R.locals = 64 * d) (hd : 2 ≤ d) {N : Nat} {k : Nat → Int32 → Int32 → Int32 → zm_S → Option ((Int32 × zm_S) ⊕ ((Int32) × zm_S))} {a0 : Nat} {i1 : Int32} {i3 : Int32} {t0 : Int32} {t1 : Int32} {res : (Int32 × zm_S) ⊕ ((Int32) × zm_S)} {out : (Int32 × zm_S)}   (hf : ∀ o, res = .inl o → o = out) (hk : ∀ (x2 : Int32) (S' : zm_S), res = .inr (x2, S') → zw p l e R s m args below meth c (vx_MQ below (zm_Qc zk_E V (zo_i out)) (zm_XC zk_E V zo_x) args s mc ms (fun q => V.2.2.2.1 ≤ q)) 4 zk_E V mc ms 39 [(2, .int x2)] [] S' rc rs) (hrec : ∀ (i2' : Int32) (i3' : Int32) (S : zm_S), k a0 i1 i2' i3' S = some res → zw p l e R s m args below meth c (vx_MQ below (zm_Qc zk_E V (zo_i out)) (zm_XC zk_E V zo_x) args s mc ms (fun q => V.2.2.2.1 ≤ q)) 4 zk_E V mc ms 4 [(0, .ref a0), (1, .int i1), (2, .int i2'), (3, .int i3')] [] S rc rs) {S : zm_S} (h : zf_X10_countInZone_J31 N k a0 i1 i3 t0 t1 S = some res) : zw p l e R s m args below meth c (vx_MQ below (zm_Qc zk_E V (zo_i out)) (zm_XC zk_E V zo_x) args s mc ms (fun q => V.2.2.2.1 ≤ q)) 4 zk_E V mc ms 31 [(0, .ref a0), (1, .int i1), (3, .int i3)] [.int t1, .int t0] S rc rs := by
  unfold zf_X10_countInZone_J31 at h
  refine zw_iadd hX dX10_countInZone_31 ?_
  refine zw_istore_n hX dX10_countInZone_32 (by decide) ?_
  refine zw_iinc (v := (i3 + (1 : Int32))) hX dX10_countInZone_33 rfl rfl (by decide) ?_
  refine zw_goto (tgt := 4) hX dX10_countInZone_36 (by decide) ?_
  refine zw_sub (lv' := [(0, .ref a0), (1, .int i1), (2, .int (t0 + t1)), (3, .int (i3 + (1 : Int32)))]) (List.forall_mem_cons.mpr ⟨rfl, (List.forall_mem_cons.mpr ⟨rfl, (List.forall_mem_cons.mpr ⟨rfl, (List.forall_mem_cons.mpr ⟨rfl, zs_nil⟩)⟩)⟩)⟩) ?_
  exact hrec _ _ _ h
def zf_X10_countInZone_L4 (N : Nat) : Nat → Nat → Int32 → Int32 → Int32 → zm_S → Option ((Int32 × zm_S) ⊕ ((Int32) × zm_S))
  | 0, _, _, _, _, _ => none
  | n + 1, a0, i1, i2, i3, S => (zg_i S a0 10 7).bind (fun v1 => if v1 ≤ i3 then some (.inr (i2, S)) else (zi S a0 10).bind (fun _ => (zf_X10_roomOf N a0 i3 S).bind (fun r4 => (zi r4.2 a0 10).bind (fun _ => (zf_X10_zoneOf N a0 r4.1 r4.2).bind (fun r7 => if r7.1 = i1 then zf_X10_countInZone_J31 N (zf_X10_countInZone_L4 N n) a0 i1 i3 i2 (1 : Int32) r7.2 else zf_X10_countInZone_J31 N (zf_X10_countInZone_L4 N n) a0 i1 i3 i2 (0 : Int32) r7.2)))))
set_option maxHeartbeats 4000000 in
set_option maxRecDepth 100000 in
theorem zt_X10_countInZone_L4 {p : Program} {l : Launch} {e : Env} {R : Room} {s : State} {m : MethodId} {args : Array Value} {below : List Frame} {meth : Method} {c : Code} {V : zm_V} {mc ms d rc rs : Nat} (hX : zm_X p R s m args meth c RX10 "countInZone" cX10_countInZone 4 zk_E V mc ms) (hr : meth.sig.returnType = (some .int)) (hR : R.frames = d ∧ R.locals = 64 * d) (hd : 2 ≤ d) {N : Nat} {res : (Int32 × zm_S) ⊕ ((Int32) × zm_S)} {out : (Int32 × zm_S)} (a0 : Nat) (i1 : Int32) (hf : ∀ o, res = .inl o → o = out) (hk : ∀ (x2 : Int32) (S' : zm_S), res = .inr (x2, S') → zw p l e R s m args below meth c (vx_MQ below (zm_Qc zk_E V (zo_i out)) (zm_XC zk_E V zo_x) args s mc ms (fun q => V.2.2.2.1 ≤ q)) 4 zk_E V mc ms 39 [(2, .int x2)] [] S' rc rs) : ∀ (n : Nat) (i2 : Int32) (i3 : Int32) (S : zm_S), zf_X10_countInZone_L4 N n a0 i1 i2 i3 S = some res → zw p l e R s m args below meth c (vx_MQ below (zm_Qc zk_E V (zo_i out)) (zm_XC zk_E V zo_x) args s mc ms (fun q => V.2.2.2.1 ≤ q)) 4 zk_E V mc ms 4 [(0, .ref a0), (1, .int i1), (2, .int i2), (3, .int i3)] [] S rc rs := by
  intro n
  induction n with
  | zero => intro i2 i3 S h; cases h
  | succ n ih =>
    intro i2 i3 S h
    rw [zf_X10_countInZone_L4] at h
    refine zw_iload_n hX dX10_countInZone_4 rfl ?_
    refine zw_aload_n hX dX10_countInZone_5 rfl ?_
    obtain ⟨v1, g, h⟩ := zb_some h
    refine zw_geti hX zl_X10_93 dX10_countInZone_6 g ?_
    refine zw_icmp_ge (tgt := 39) hX dX10_countInZone_9 (by decide) (fun c9 => ?_) (fun c9 => ?_)
    · rw [if_pos c9] at h
      refine zw_sub (lv' := [(2, .int i2)]) (List.forall_mem_cons.mpr ⟨rfl, zs_nil⟩) ?_
      exact hk _ _ (Option.some.inj h).symm
    · rw [if_neg c9] at h
      refine zw_iload_n hX dX10_countInZone_12 rfl ?_
      refine zw_aload_n hX dX10_countInZone_13 rfl ?_
      refine zw_aload_n hX dX10_countInZone_14 rfl ?_
      refine zw_iload_n hX dX10_countInZone_15 rfl ?_
      obtain ⟨_, gi, h⟩ := zb_some h
      obtain ⟨r4, g, h⟩ := zb_some h
      refine zc_Vi (as := [.int i3]) hX gi (zt_X10_roomOf (d := d - 1) (by omega) g) zl_X10_109 rfl dX10_countInZone_16 ⟨rfl, rfl, Nat.le_of_ble_eq_true rfl⟩ ⟨by omega, by omega⟩ ?_
      obtain ⟨_, gi, h⟩ := zb_some h
      obtain ⟨r7, g, h⟩ := zb_some h
      refine zc_Vi (as := [.int r4.1]) hX gi (zt_X10_zoneOf (d := d - 1) (by omega) g) zl_X10_112 rfl dX10_countInZone_19 ⟨rfl, rfl, Nat.le_of_ble_eq_true rfl⟩ ⟨by omega, by omega⟩ ?_
      refine zw_iload_n hX dX10_countInZone_22 rfl ?_
      refine zw_icmp_ne (tgt := 30) hX dX10_countInZone_23 (by decide) (fun c23 => ?_) (fun c23 => ?_)
      · rw [if_neg c23] at h
        refine zw_iconst (v := (0 : Int32)) hX dX10_countInZone_30 (by decide) ?_
        refine zw_sub (lv' := [(0, .ref a0), (1, .int i1), (3, .int i3)]) (List.forall_mem_cons.mpr ⟨rfl, (List.forall_mem_cons.mpr ⟨rfl, (List.forall_mem_cons.mpr ⟨rfl, zs_nil⟩)⟩)⟩) ?_
        exact zt_X10_countInZone_J31 hX hr hR hd hf hk ih h
      · rw [if_pos c23] at h
        refine zw_iconst (v := (1 : Int32)) hX dX10_countInZone_26 (by decide) ?_
        refine zw_goto (tgt := 31) hX dX10_countInZone_27 (by decide) ?_
        refine zw_sub (lv' := [(0, .ref a0), (1, .int i1), (3, .int i3)]) (List.forall_mem_cons.mpr ⟨rfl, (List.forall_mem_cons.mpr ⟨rfl, (List.forall_mem_cons.mpr ⟨rfl, zs_nil⟩)⟩)⟩) ?_
        exact zt_X10_countInZone_J31 hX hr hR hd hf hk ih h
def zf_X10_countInZone (N : Nat) (a0 : Nat) (i1 : Int32) (S : zm_S) : Option (Int32 × zm_S) := (zf_X10_countInZone_L4 N N a0 i1 (0 : Int32) (0 : Int32) S).bind (fun r => match r with | .inl o => some o | .inr (v9, S8) => some (v9, S8))
set_option maxHeartbeats 4000000 in
set_option maxRecDepth 100000 in
theorem zt_X10_countInZone {l : Launch} {V : zm_V} {N : Nat} {S : zm_S} {out : (Int32 × zm_S)} {d : Nat} {a0 : Nat} {i1 : Int32} (hd : 2 ≤ d) (h : zf_X10_countInZone N a0 i1 S = some out) : zm_Met l zk_E V yX10_countInZone (.code yX10_countInZone cX10_countInZone 4 (some .int)) d [.ref a0, .int i1] S 0 0 (zo_i out) zo_x := by
  refine zm_of (by decide +kernel) (Nat.le_of_ble_eq_true rfl) ?_
  intro p e R s m args below meth c hRR hX hr hxt
  have hR : R.frames = d ∧ R.locals = 64 * d := by rw [hRR]; exact ⟨rfl, rfl⟩
  have hX : zm_X p R s m args meth c RX10 "countInZone" cX10_countInZone 4 zk_E V 0 0 := hX
  unfold zf_X10_countInZone at h
  refine zw_sub (lv' := [(0, .ref a0), (1, .int i1)]) (List.forall_mem_cons.mpr ⟨rfl, (List.forall_mem_cons.mpr ⟨rfl, zs_nil⟩)⟩) ?_
  refine zw_iconst (v := (0 : Int32)) hX dX10_countInZone_0 (by decide) ?_
  refine zw_istore_n hX dX10_countInZone_1 (by decide) ?_
  refine zw_iconst (v := (0 : Int32)) hX dX10_countInZone_2 (by decide) ?_
  refine zw_istore_n hX dX10_countInZone_3 (by decide) ?_
  obtain ⟨r, g, h⟩ := zb_some h
  refine zw_sub (lv' := [(0, .ref a0), (1, .int i1), (2, .int (0 : Int32)), (3, .int (0 : Int32))]) (List.forall_mem_cons.mpr ⟨rfl, (List.forall_mem_cons.mpr ⟨rfl, (List.forall_mem_cons.mpr ⟨rfl, (List.forall_mem_cons.mpr ⟨rfl, zs_nil⟩)⟩)⟩)⟩) ?_
  refine zt_X10_countInZone_L4 hX hr hR hd (res := r) (out := out) a0 i1 ?_ ?_ N _ _ _ g
  · intro o ho
    subst ho
    exact Option.some.inj h
  · intro v9 S8 hx
    subst hx
    try dsimp only at h
    refine zw_iload_n hX dX10_countInZone_39 rfl ?_
    obtain rfl := Option.some.inj h
    exact zw_iret hX hr dX10_countInZone_40 rfl ⟨rfl, rfl⟩
def zf_X10_isFreeInside (N : Nat) (a0 : Nat) (i1 : Int32) (S : zm_S) : Option (Int32 × zm_S) := (zi S a0 10).bind (fun _ => (zf_X10_cellOf N a0 i1 S).bind (fun r3 => if r3.1 = (-1 : Int32) then some ((0 : Int32), r3.2) else (zi r3.2 a0 10).bind (fun _ => (zf_X10_isCaught N a0 i1 r3.2).bind (fun r6 => if r6.1 = 0 then some ((1 : Int32), r6.2) else some ((0 : Int32), r6.2)))))
set_option maxHeartbeats 4000000 in
set_option maxRecDepth 100000 in
theorem zt_X10_isFreeInside {l : Launch} {V : zm_V} {N : Nat} {S : zm_S} {out : (Int32 × zm_S)} {d : Nat} {a0 : Nat} {i1 : Int32} (hd : 3 ≤ d) (h : zf_X10_isFreeInside N a0 i1 S = some out) : zm_Met l zk_E V yX10_isFreeInside (.code yX10_isFreeInside cX10_isFreeInside 2 (some .boolean)) d [.ref a0, .int i1] S 0 0 (zo_i out) zo_x := by
  refine zm_of (by decide +kernel) (Nat.le_of_ble_eq_true rfl) ?_
  intro p e R s m args below meth c hRR hX hr hxt
  have hR : R.frames = d ∧ R.locals = 64 * d := by rw [hRR]; exact ⟨rfl, rfl⟩
  have hX : zm_X p R s m args meth c RX10 "isFreeInside" cX10_isFreeInside 2 zk_E V 0 0 := hX
  unfold zf_X10_isFreeInside at h
  refine zw_sub (lv' := [(0, .ref a0), (1, .int i1)]) (List.forall_mem_cons.mpr ⟨rfl, (List.forall_mem_cons.mpr ⟨rfl, zs_nil⟩)⟩) ?_
  refine zw_aload_n hX dX10_isFreeInside_0 rfl ?_
  refine zw_iload_n hX dX10_isFreeInside_1 rfl ?_
  obtain ⟨_, gi, h⟩ := zb_some h
  obtain ⟨r3, g, h⟩ := zb_some h
  refine zc_Vi (as := [.int i1]) hX gi (zt_X10_cellOf (d := d - 1) (by omega) g) zl_X10_96 rfl dX10_isFreeInside_2 ⟨rfl, rfl, Nat.le_of_ble_eq_true rfl⟩ ⟨by omega, by omega⟩ ?_
  refine zw_iconst (v := (-1 : Int32)) hX dX10_isFreeInside_5 (by decide) ?_
  refine zw_icmp_eq (tgt := 21) hX dX10_isFreeInside_6 (by decide) (fun c6 => ?_) (fun c6 => ?_)
  · rw [if_pos c6] at h
    refine zw_iconst (v := (0 : Int32)) hX dX10_isFreeInside_21 (by decide) ?_
    obtain rfl := Option.some.inj h
    exact zw_iret hX hr dX10_isFreeInside_22 rfl ⟨rfl, rfl⟩
  · rw [if_neg c6] at h
    refine zw_aload_n hX dX10_isFreeInside_9 rfl ?_
    refine zw_iload_n hX dX10_isFreeInside_10 rfl ?_
    obtain ⟨_, gi, h⟩ := zb_some h
    obtain ⟨r6, g, h⟩ := zb_some h
    refine zc_Vi (as := [.int i1]) hX gi (zt_X10_isCaught (d := d - 1) (by omega) g) zl_X10_99 rfl dX10_isFreeInside_11 ⟨rfl, rfl, Nat.le_of_ble_eq_true rfl⟩ ⟨by omega, by omega⟩ ?_
    refine zw_if_ne (tgt := 21) hX dX10_isFreeInside_14 (by decide) (fun c14 => ?_) (fun c14 => ?_)
    · rw [if_neg c14] at h
      refine zw_iconst (v := (0 : Int32)) hX dX10_isFreeInside_21 (by decide) ?_
      obtain rfl := Option.some.inj h
      exact zw_iret hX hr dX10_isFreeInside_22 rfl ⟨rfl, rfl⟩
    · rw [if_pos c14] at h
      refine zw_iconst (v := (1 : Int32)) hX dX10_isFreeInside_17 (by decide) ?_
      refine zw_goto (tgt := 22) hX dX10_isFreeInside_18 (by decide) ?_
      obtain rfl := Option.some.inj h
      exact zw_iret hX hr dX10_isFreeInside_22 rfl ⟨rfl, rfl⟩
def zf_X10_countFreeInside_J26 (N : Nat) (k : Nat → Int32 → Int32 → zm_S → Option ((Int32 × zm_S) ⊕ ((Int32) × zm_S))) (a0 : Nat) (i2 : Int32) (t0 : Int32) (t1 : Int32) (S : zm_S) : Option ((Int32 × zm_S) ⊕ ((Int32) × zm_S)) := k a0 (t0 + t1) (i2 + (1 : Int32)) S
set_option maxHeartbeats 4000000 in
set_option maxRecDepth 100000 in
theorem zt_X10_countFreeInside_J26 {p : Program} {l : Launch} {e : Env} {R : Room} {s : State} {m : MethodId} {args : Array Value} {below : List Frame} {meth : Method} {c : Code} {V : zm_V} {mc ms d rc rs : Nat} (hX : zm_X p R s m args meth c RX10 "countFreeInside" cX10_countFreeInside 3 zk_E V mc ms) (hr : meth.sig.returnType = (some .int)) (hR : R.frames = d ∧ R.locals = 64 * d) (hd : 4 ≤ d) {N : Nat} {k : Nat → Int32 → Int32 → zm_S → Option ((Int32 × zm_S) ⊕ ((Int32) × zm_S))} {a0 : Nat} {i2 : Int32} {t0 : Int32} {t1 : Int32} {res : (Int32 × zm_S) ⊕ ((Int32) × zm_S)} {out : (Int32 × zm_S)}   (hf : ∀ o, res = .inl o → o = out) (hk : ∀ (x1 : Int32) (S' : zm_S), res = .inr (x1, S') → zw p l e R s m args below meth c (vx_MQ below (zm_Qc zk_E V (zo_i out)) (zm_XC zk_E V zo_x) args s mc ms (fun q => V.2.2.2.1 ≤ q)) 3 zk_E V mc ms 34 [(1, .int x1)] [] S' rc rs) (hrec : ∀ (i1' : Int32) (i2' : Int32) (S : zm_S), k a0 i1' i2' S = some res → zw p l e R s m args below meth c (vx_MQ below (zm_Qc zk_E V (zo_i out)) (zm_XC zk_E V zo_x) args s mc ms (fun q => V.2.2.2.1 ≤ q)) 3 zk_E V mc ms 4 [(0, .ref a0), (1, .int i1'), (2, .int i2')] [] S rc rs) {S : zm_S} (h : zf_X10_countFreeInside_J26 N k a0 i2 t0 t1 S = some res) : zw p l e R s m args below meth c (vx_MQ below (zm_Qc zk_E V (zo_i out)) (zm_XC zk_E V zo_x) args s mc ms (fun q => V.2.2.2.1 ≤ q)) 3 zk_E V mc ms 26 [(0, .ref a0), (2, .int i2)] [.int t1, .int t0] S rc rs := by
  unfold zf_X10_countFreeInside_J26 at h
  refine zw_iadd hX dX10_countFreeInside_26 ?_
  refine zw_istore_n hX dX10_countFreeInside_27 (by decide) ?_
  refine zw_iinc (v := (i2 + (1 : Int32))) hX dX10_countFreeInside_28 rfl rfl (by decide) ?_
  refine zw_goto (tgt := 4) hX dX10_countFreeInside_31 (by decide) ?_
  refine zw_sub (lv' := [(0, .ref a0), (1, .int (t0 + t1)), (2, .int (i2 + (1 : Int32)))]) (List.forall_mem_cons.mpr ⟨rfl, (List.forall_mem_cons.mpr ⟨rfl, (List.forall_mem_cons.mpr ⟨rfl, zs_nil⟩)⟩)⟩) ?_
  exact hrec _ _ _ h
def zf_X10_countFreeInside_L4 (N : Nat) : Nat → Nat → Int32 → Int32 → zm_S → Option ((Int32 × zm_S) ⊕ ((Int32) × zm_S))
  | 0, _, _, _, _ => none
  | n + 1, a0, i1, i2, S => (zg_i S a0 10 7).bind (fun v1 => if v1 ≤ i2 then some (.inr (i1, S)) else (zi S a0 10).bind (fun _ => (zf_X10_isFreeInside N a0 i2 S).bind (fun r4 => if r4.1 = 0 then zf_X10_countFreeInside_J26 N (zf_X10_countFreeInside_L4 N n) a0 i2 i1 (0 : Int32) r4.2 else zf_X10_countFreeInside_J26 N (zf_X10_countFreeInside_L4 N n) a0 i2 i1 (1 : Int32) r4.2)))
set_option maxHeartbeats 4000000 in
set_option maxRecDepth 100000 in
theorem zt_X10_countFreeInside_L4 {p : Program} {l : Launch} {e : Env} {R : Room} {s : State} {m : MethodId} {args : Array Value} {below : List Frame} {meth : Method} {c : Code} {V : zm_V} {mc ms d rc rs : Nat} (hX : zm_X p R s m args meth c RX10 "countFreeInside" cX10_countFreeInside 3 zk_E V mc ms) (hr : meth.sig.returnType = (some .int)) (hR : R.frames = d ∧ R.locals = 64 * d) (hd : 4 ≤ d) {N : Nat} {res : (Int32 × zm_S) ⊕ ((Int32) × zm_S)} {out : (Int32 × zm_S)} (a0 : Nat) (hf : ∀ o, res = .inl o → o = out) (hk : ∀ (x1 : Int32) (S' : zm_S), res = .inr (x1, S') → zw p l e R s m args below meth c (vx_MQ below (zm_Qc zk_E V (zo_i out)) (zm_XC zk_E V zo_x) args s mc ms (fun q => V.2.2.2.1 ≤ q)) 3 zk_E V mc ms 34 [(1, .int x1)] [] S' rc rs) : ∀ (n : Nat) (i1 : Int32) (i2 : Int32) (S : zm_S), zf_X10_countFreeInside_L4 N n a0 i1 i2 S = some res → zw p l e R s m args below meth c (vx_MQ below (zm_Qc zk_E V (zo_i out)) (zm_XC zk_E V zo_x) args s mc ms (fun q => V.2.2.2.1 ≤ q)) 3 zk_E V mc ms 4 [(0, .ref a0), (1, .int i1), (2, .int i2)] [] S rc rs := by
  intro n
  induction n with
  | zero => intro i1 i2 S h; cases h
  | succ n ih =>
    intro i1 i2 S h
    rw [zf_X10_countFreeInside_L4] at h
    refine zw_iload_n hX dX10_countFreeInside_4 rfl ?_
    refine zw_aload_n hX dX10_countFreeInside_5 rfl ?_
    obtain ⟨v1, g, h⟩ := zb_some h
    refine zw_geti hX zl_X10_93 dX10_countFreeInside_6 g ?_
    refine zw_icmp_ge (tgt := 34) hX dX10_countFreeInside_9 (by decide) (fun c9 => ?_) (fun c9 => ?_)
    · rw [if_pos c9] at h
      refine zw_sub (lv' := [(1, .int i1)]) (List.forall_mem_cons.mpr ⟨rfl, zs_nil⟩) ?_
      exact hk _ _ (Option.some.inj h).symm
    · rw [if_neg c9] at h
      refine zw_iload_n hX dX10_countFreeInside_12 rfl ?_
      refine zw_aload_n hX dX10_countFreeInside_13 rfl ?_
      refine zw_iload_n hX dX10_countFreeInside_14 rfl ?_
      obtain ⟨_, gi, h⟩ := zb_some h
      obtain ⟨r4, g, h⟩ := zb_some h
      refine zc_Vi (as := [.int i2]) hX gi (zt_X10_isFreeInside (d := d - 1) (by omega) g) zl_X10_115 rfl dX10_countFreeInside_15 ⟨rfl, rfl, Nat.le_of_ble_eq_true rfl⟩ ⟨by omega, by omega⟩ ?_
      refine zw_if_eq (tgt := 25) hX dX10_countFreeInside_18 (by decide) (fun c18 => ?_) (fun c18 => ?_)
      · rw [if_pos c18] at h
        refine zw_iconst (v := (0 : Int32)) hX dX10_countFreeInside_25 (by decide) ?_
        refine zw_sub (lv' := [(0, .ref a0), (2, .int i2)]) (List.forall_mem_cons.mpr ⟨rfl, (List.forall_mem_cons.mpr ⟨rfl, zs_nil⟩)⟩) ?_
        exact zt_X10_countFreeInside_J26 hX hr hR hd hf hk ih h
      · rw [if_neg c18] at h
        refine zw_iconst (v := (1 : Int32)) hX dX10_countFreeInside_21 (by decide) ?_
        refine zw_goto (tgt := 26) hX dX10_countFreeInside_22 (by decide) ?_
        refine zw_sub (lv' := [(0, .ref a0), (2, .int i2)]) (List.forall_mem_cons.mpr ⟨rfl, (List.forall_mem_cons.mpr ⟨rfl, zs_nil⟩)⟩) ?_
        exact zt_X10_countFreeInside_J26 hX hr hR hd hf hk ih h
def zf_X10_countFreeInside (N : Nat) (a0 : Nat) (S : zm_S) : Option (Int32 × zm_S) := (zf_X10_countFreeInside_L4 N N a0 (0 : Int32) (0 : Int32) S).bind (fun r => match r with | .inl o => some o | .inr (v6, S5) => some (v6, S5))
set_option maxHeartbeats 4000000 in
set_option maxRecDepth 100000 in
theorem zt_X10_countFreeInside {l : Launch} {V : zm_V} {N : Nat} {S : zm_S} {out : (Int32 × zm_S)} {d : Nat} {a0 : Nat} (hd : 4 ≤ d) (h : zf_X10_countFreeInside N a0 S = some out) : zm_Met l zk_E V yX10_countFreeInside (.code yX10_countFreeInside cX10_countFreeInside 3 (some .int)) d [.ref a0] S 0 0 (zo_i out) zo_x := by
  refine zm_of (by decide +kernel) (Nat.le_of_ble_eq_true rfl) ?_
  intro p e R s m args below meth c hRR hX hr hxt
  have hR : R.frames = d ∧ R.locals = 64 * d := by rw [hRR]; exact ⟨rfl, rfl⟩
  have hX : zm_X p R s m args meth c RX10 "countFreeInside" cX10_countFreeInside 3 zk_E V 0 0 := hX
  unfold zf_X10_countFreeInside at h
  refine zw_sub (lv' := [(0, .ref a0)]) (List.forall_mem_cons.mpr ⟨rfl, zs_nil⟩) ?_
  refine zw_iconst (v := (0 : Int32)) hX dX10_countFreeInside_0 (by decide) ?_
  refine zw_istore_n hX dX10_countFreeInside_1 (by decide) ?_
  refine zw_iconst (v := (0 : Int32)) hX dX10_countFreeInside_2 (by decide) ?_
  refine zw_istore_n hX dX10_countFreeInside_3 (by decide) ?_
  obtain ⟨r, g, h⟩ := zb_some h
  refine zw_sub (lv' := [(0, .ref a0), (1, .int (0 : Int32)), (2, .int (0 : Int32))]) (List.forall_mem_cons.mpr ⟨rfl, (List.forall_mem_cons.mpr ⟨rfl, (List.forall_mem_cons.mpr ⟨rfl, zs_nil⟩)⟩)⟩) ?_
  refine zt_X10_countFreeInside_L4 hX hr hR hd (res := r) (out := out) a0 ?_ ?_ N _ _ _ g
  · intro o ho
    subst ho
    exact Option.some.inj h
  · intro v6 S5 hx
    subst hx
    try dsimp only at h
    refine zw_iload_n hX dX10_countFreeInside_34 rfl ?_
    obtain rfl := Option.some.inj h
    exact zw_iret hX hr dX10_countFreeInside_35 rfl ⟨rfl, rfl⟩
def zf_X10_catchPersons_L2 (N : Nat) : Nat → Nat → Int32 → Int32 → zm_S → Option ((Unit × zm_S) ⊕ ((Unit) × zm_S))
  | 0, _, _, _, _ => none
  | n + 1, a0, i1, i2, S => (zg_i S a0 10 7).bind (fun v1 => if v1 ≤ i2 then some (.inr ((), S)) else (zi S a0 10).bind (fun _ => (zf_X10_isFreeInside N a0 i2 S).bind (fun r4 => if r4.1 = 0 then zf_X10_catchPersons_L2 N n a0 i1 (i2 + (1 : Int32)) r4.2 else (zg_r r4.2 a0 10 2).bind (fun b5 => (zi r4.2 a0 10).bind (fun _ => (zf_X10_cellOf N a0 i2 r4.2).bind (fun r8 => (za_x r8.2 2 b5 r8.1).bind (fun v9 => if v9 = 0 then zf_X10_catchPersons_L2 N n a0 i1 (i2 + (1 : Int32)) r8.2 else (zg_r r8.2 a0 10 8).bind (fun b10 => (za_r r8.2 b10 i2).bind (fun b11 => (zs_i r8.2 b11 (3 : Int32) i1).bind (fun S12 => zf_X10_catchPersons_L2 N n a0 i1 (i2 + (1 : Int32)) S12))))))))))
set_option maxHeartbeats 4000000 in
set_option maxRecDepth 100000 in
theorem zt_X10_catchPersons_L2 {p : Program} {l : Launch} {e : Env} {R : Room} {s : State} {m : MethodId} {args : Array Value} {below : List Frame} {meth : Method} {c : Code} {V : zm_V} {mc ms d rc rs : Nat} (hX : zm_X p R s m args meth c RX10 "catchPersons" cX10_catchPersons 3 zk_E V mc ms) (hr : meth.sig.returnType = none) (hR : R.frames = d ∧ R.locals = 64 * d) (hd : 4 ≤ d) {N : Nat} {res : (Unit × zm_S) ⊕ ((Unit) × zm_S)} {out : (Unit × zm_S)} (a0 : Nat) (i1 : Int32) (hf : ∀ o, res = .inl o → o = out) (hk : ∀ (S' : zm_S), res = .inr ((), S') → zw p l e R s m args below meth c (vx_MQ below (zm_Qc zk_E V (zo_v out)) (zm_XC zk_E V zo_x) args s mc ms (fun q => V.2.2.2.1 ≤ q)) 3 zk_E V mc ms 46 [] [] S' rc rs) : ∀ (n : Nat) (i2 : Int32) (S : zm_S), zf_X10_catchPersons_L2 N n a0 i1 i2 S = some res → zw p l e R s m args below meth c (vx_MQ below (zm_Qc zk_E V (zo_v out)) (zm_XC zk_E V zo_x) args s mc ms (fun q => V.2.2.2.1 ≤ q)) 3 zk_E V mc ms 2 [(0, .ref a0), (1, .int i1), (2, .int i2)] [] S rc rs := by
  intro n
  induction n with
  | zero => intro i2 S h; cases h
  | succ n ih =>
    intro i2 S h
    rw [zf_X10_catchPersons_L2] at h
    refine zw_iload_n hX dX10_catchPersons_2 rfl ?_
    refine zw_aload_n hX dX10_catchPersons_3 rfl ?_
    obtain ⟨v1, g, h⟩ := zb_some h
    refine zw_geti hX zl_X10_93 dX10_catchPersons_4 g ?_
    refine zw_icmp_ge (tgt := 46) hX dX10_catchPersons_7 (by decide) (fun c7 => ?_) (fun c7 => ?_)
    · rw [if_pos c7] at h
      refine zw_sub (lv' := []) zs_nil ?_
      exact hk  _ (Option.some.inj h).symm
    · rw [if_neg c7] at h
      refine zw_aload_n hX dX10_catchPersons_10 rfl ?_
      refine zw_iload_n hX dX10_catchPersons_11 rfl ?_
      obtain ⟨_, gi, h⟩ := zb_some h
      obtain ⟨r4, g, h⟩ := zb_some h
      refine zc_Vi (as := [.int i2]) hX gi (zt_X10_isFreeInside (d := d - 1) (by omega) g) zl_X10_115 rfl dX10_catchPersons_12 ⟨rfl, rfl, Nat.le_of_ble_eq_true rfl⟩ ⟨by omega, by omega⟩ ?_
      refine zw_if_eq (tgt := 40) hX dX10_catchPersons_15 (by decide) (fun c15 => ?_) (fun c15 => ?_)
      · rw [if_pos c15] at h
        refine zw_iinc (v := (i2 + (1 : Int32))) hX dX10_catchPersons_40 rfl rfl (by decide) ?_
        refine zw_goto (tgt := 2) hX dX10_catchPersons_43 (by decide) ?_
        refine zw_sub (lv' := [(0, .ref a0), (1, .int i1), (2, .int (i2 + (1 : Int32)))]) (List.forall_mem_cons.mpr ⟨rfl, (List.forall_mem_cons.mpr ⟨rfl, (List.forall_mem_cons.mpr ⟨rfl, zs_nil⟩)⟩)⟩) ?_
        exact ih _ _ h
      · rw [if_neg c15] at h
        refine zw_aload_n hX dX10_catchPersons_18 rfl ?_
        obtain ⟨b5, g, h⟩ := zb_some h
        refine zw_getr hX zl_X10_11 dX10_catchPersons_19 g ?_
        refine zw_aload_n hX dX10_catchPersons_22 rfl ?_
        refine zw_iload_n hX dX10_catchPersons_23 rfl ?_
        obtain ⟨_, gi, h⟩ := zb_some h
        obtain ⟨r8, g, h⟩ := zb_some h
        refine zc_Vi (as := [.int i2]) hX gi (zt_X10_cellOf (d := d - 1) (by omega) g) zl_X10_96 rfl dX10_catchPersons_24 ⟨rfl, rfl, Nat.le_of_ble_eq_true rfl⟩ ⟨by omega, by omega⟩ ?_
        obtain ⟨v9, g, h⟩ := zb_some h
        refine zw_xz hX dX10_catchPersons_27 g ?_
        refine zw_if_eq (tgt := 40) hX dX10_catchPersons_28 (by decide) (fun c28 => ?_) (fun c28 => ?_)
        · rw [if_pos c28] at h
          refine zw_iinc (v := (i2 + (1 : Int32))) hX dX10_catchPersons_40 rfl rfl (by decide) ?_
          refine zw_goto (tgt := 2) hX dX10_catchPersons_43 (by decide) ?_
          refine zw_sub (lv' := [(0, .ref a0), (1, .int i1), (2, .int (i2 + (1 : Int32)))]) (List.forall_mem_cons.mpr ⟨rfl, (List.forall_mem_cons.mpr ⟨rfl, (List.forall_mem_cons.mpr ⟨rfl, zs_nil⟩)⟩)⟩) ?_
          exact ih _ _ h
        · rw [if_neg c28] at h
          refine zw_aload_n hX dX10_catchPersons_31 rfl ?_
          obtain ⟨b10, g, h⟩ := zb_some h
          refine zw_getr hX zl_X10_29 dX10_catchPersons_32 g ?_
          refine zw_iload_n hX dX10_catchPersons_35 rfl ?_
          obtain ⟨b11, g, h⟩ := zb_some h
          refine zw_xr hX dX10_catchPersons_36 g ?_
          refine zw_iconst (v := (3 : Int32)) hX dX10_catchPersons_37 (by decide) ?_
          refine zw_iload_n hX dX10_catchPersons_38 rfl ?_
          obtain ⟨S12, g, h⟩ := zb_some h
          refine zw_si hX dX10_catchPersons_39 g ?_
          refine zw_iinc (v := (i2 + (1 : Int32))) hX dX10_catchPersons_40 rfl rfl (by decide) ?_
          refine zw_goto (tgt := 2) hX dX10_catchPersons_43 (by decide) ?_
          refine zw_sub (lv' := [(0, .ref a0), (1, .int i1), (2, .int (i2 + (1 : Int32)))]) (List.forall_mem_cons.mpr ⟨rfl, (List.forall_mem_cons.mpr ⟨rfl, (List.forall_mem_cons.mpr ⟨rfl, zs_nil⟩)⟩)⟩) ?_
          exact ih _ _ h
def zf_X10_catchPersons (N : Nat) (a0 : Nat) (i1 : Int32) (S : zm_S) : Option (Unit × zm_S) := (zf_X10_catchPersons_L2 N N a0 i1 (0 : Int32) S).bind (fun r => match r with | .inl o => some o | .inr (_, S13) => some ((), S13))
set_option maxHeartbeats 4000000 in
set_option maxRecDepth 100000 in
theorem zt_X10_catchPersons {l : Launch} {V : zm_V} {N : Nat} {S : zm_S} {out : (Unit × zm_S)} {d : Nat} {a0 : Nat} {i1 : Int32} (hd : 4 ≤ d) (h : zf_X10_catchPersons N a0 i1 S = some out) : zm_Met l zk_E V yX10_catchPersons (.code yX10_catchPersons cX10_catchPersons 3 none) d [.ref a0, .int i1] S 0 0 (zo_v out) zo_x := by
  refine zm_of (by decide +kernel) (Nat.le_of_ble_eq_true rfl) ?_
  intro p e R s m args below meth c hRR hX hr hxt
  have hR : R.frames = d ∧ R.locals = 64 * d := by rw [hRR]; exact ⟨rfl, rfl⟩
  have hX : zm_X p R s m args meth c RX10 "catchPersons" cX10_catchPersons 3 zk_E V 0 0 := hX
  unfold zf_X10_catchPersons at h
  refine zw_sub (lv' := [(0, .ref a0), (1, .int i1)]) (List.forall_mem_cons.mpr ⟨rfl, (List.forall_mem_cons.mpr ⟨rfl, zs_nil⟩)⟩) ?_
  refine zw_iconst (v := (0 : Int32)) hX dX10_catchPersons_0 (by decide) ?_
  refine zw_istore_n hX dX10_catchPersons_1 (by decide) ?_
  obtain ⟨r, g, h⟩ := zb_some h
  refine zw_sub (lv' := [(0, .ref a0), (1, .int i1), (2, .int (0 : Int32))]) (List.forall_mem_cons.mpr ⟨rfl, (List.forall_mem_cons.mpr ⟨rfl, (List.forall_mem_cons.mpr ⟨rfl, zs_nil⟩)⟩)⟩) ?_
  refine zt_X10_catchPersons_L2 hX hr hR hd (res := r) (out := out) a0 i1 ?_ ?_ N _ _ g
  · intro o ho
    subst ho
    exact Option.some.inj h
  · intro  S13 hx
    subst hx
    try dsimp only at h
    obtain rfl := Option.some.inj h
    exact zw_vret hX hr dX10_catchPersons_46 ⟨rfl, rfl⟩
def zf_X10_urgencyOf (N : Nat) (a0 : Nat) (i1 : Int32) (S : zm_S) : Option (Int32 × zm_S) := (zg_r S a0 10 5).bind (fun b1 => (zi S a0 10).bind (fun _ => (zf_X10_cellOf N a0 i1 S).bind (fun r4 => (za_x r4.2 0 b1 r4.1).bind (fun v5 => if v5 = (-1 : Int32) then some ((2147483647 : Int32), r4.2) else some (v5, r4.2)))))
set_option maxHeartbeats 4000000 in
set_option maxRecDepth 100000 in
theorem zt_X10_urgencyOf {l : Launch} {V : zm_V} {N : Nat} {S : zm_S} {out : (Int32 × zm_S)} {d : Nat} {a0 : Nat} {i1 : Int32} (hd : 3 ≤ d) (h : zf_X10_urgencyOf N a0 i1 S = some out) : zm_Met l zk_E V yX10_urgencyOf (.code yX10_urgencyOf cX10_urgencyOf 3 (some .int)) d [.ref a0, .int i1] S 0 0 (zo_i out) zo_x := by
  refine zm_of (by decide +kernel) (Nat.le_of_ble_eq_true rfl) ?_
  intro p e R s m args below meth c hRR hX hr hxt
  have hR : R.frames = d ∧ R.locals = 64 * d := by rw [hRR]; exact ⟨rfl, rfl⟩
  have hX : zm_X p R s m args meth c RX10 "urgencyOf" cX10_urgencyOf 3 zk_E V 0 0 := hX
  unfold zf_X10_urgencyOf at h
  refine zw_sub (lv' := [(0, .ref a0), (1, .int i1)]) (List.forall_mem_cons.mpr ⟨rfl, (List.forall_mem_cons.mpr ⟨rfl, zs_nil⟩)⟩) ?_
  refine zw_aload_n hX dX10_urgencyOf_0 rfl ?_
  obtain ⟨b1, g, h⟩ := zb_some h
  refine zw_getr hX zl_X10_21 dX10_urgencyOf_1 g ?_
  refine zw_aload_n hX dX10_urgencyOf_4 rfl ?_
  refine zw_iload_n hX dX10_urgencyOf_5 rfl ?_
  obtain ⟨_, gi, h⟩ := zb_some h
  obtain ⟨r4, g, h⟩ := zb_some h
  refine zc_Vi (as := [.int i1]) hX gi (zt_X10_cellOf (d := d - 1) (by omega) g) zl_X10_96 rfl dX10_urgencyOf_6 ⟨rfl, rfl, Nat.le_of_ble_eq_true rfl⟩ ⟨by omega, by omega⟩ ?_
  obtain ⟨v5, g, h⟩ := zb_some h
  refine zw_xi hX dX10_urgencyOf_9 g ?_
  refine zw_istore_n hX dX10_urgencyOf_10 (by decide) ?_
  refine zw_iload_n hX dX10_urgencyOf_11 rfl ?_
  refine zw_iconst (v := (-1 : Int32)) hX dX10_urgencyOf_12 (by decide) ?_
  refine zw_icmp_ne (tgt := 21) hX dX10_urgencyOf_13 (by decide) (fun c13 => ?_) (fun c13 => ?_)
  · rw [if_neg c13] at h
    refine zw_iload_n hX dX10_urgencyOf_21 rfl ?_
    obtain rfl := Option.some.inj h
    exact zw_iret hX hr dX10_urgencyOf_22 rfl ⟨rfl, rfl⟩
  · rw [if_pos c13] at h
    refine zw_ldc (v := (2147483647 : Int32)) hX dX10_urgencyOf_16 zl_X10_139 ?_
    refine zw_goto (tgt := 22) hX dX10_urgencyOf_18 (by decide) ?_
    obtain rfl := Option.some.inj h
    exact zw_iret hX hr dX10_urgencyOf_22 rfl ⟨rfl, rfl⟩
def zf_X10_lineUp_L45 (N : Nat) : Nat → Nat → Int32 → Int32 → Int32 → Int32 → zm_S → Option ((Int32 × zm_S) ⊕ ((Int32) × zm_S))
  | 0, _, _, _, _, _, _ => none
  | n + 1, a0, i1, i2, i3, i5, S => if i5 ≤ 0 then some (.inr (i5, S)) else (zg_r S a0 10 9).bind (fun b9 => (za_x S 0 b9 (i5 - (1 : Int32))).bind (fun v10 => (zi S a0 10).bind (fun _ => (zf_X10_urgencyOf N a0 v10 S).bind (fun r13 => (zi r13.2 a0 10).bind (fun _ => (zf_X10_urgencyOf N a0 i3 r13.2).bind (fun r16 => if r13.1 ≤ r16.1 then some (.inr (i5, r16.2)) else (zg_r r16.2 a0 10 9).bind (fun b17 => (zg_r r16.2 a0 10 9).bind (fun b18 => (za_x r16.2 0 b18 (i5 - (1 : Int32))).bind (fun v19 => (zs_i r16.2 b17 i5 v19).bind (fun S20 => zf_X10_lineUp_L45 N n a0 i1 i2 i3 (i5 + (-1 : Int32)) S20))))))))))
set_option maxHeartbeats 4000000 in
set_option maxRecDepth 100000 in
theorem zt_X10_lineUp_L45 {p : Program} {l : Launch} {e : Env} {R : Room} {s : State} {m : MethodId} {args : Array Value} {below : List Frame} {meth : Method} {c : Code} {V : zm_V} {mc ms d rc rs : Nat} (hX : zm_X p R s m args meth c RX10 "lineUp" cX10_lineUp 6 zk_E V mc ms) (hr : meth.sig.returnType = (some .int)) (hR : R.frames = d ∧ R.locals = 64 * d) (hd : 4 ≤ d) {N : Nat} {res : (Int32 × zm_S) ⊕ ((Int32) × zm_S)} {out : (Int32 × zm_S)} (a0 : Nat) (i1 : Int32) (i2 : Int32) (i3 : Int32) (hf : ∀ o, res = .inl o → o = out) (hk : ∀ (x5 : Int32) (S' : zm_S), res = .inr (x5, S') → zw p l e R s m args below meth c (vx_MQ below (zm_Qc zk_E V (zo_i out)) (zm_XC zk_E V zo_x) args s mc ms (fun q => V.2.2.2.1 ≤ q)) 6 zk_E V mc ms 93 [(0, .ref a0), (1, .int i1), (2, .int i2), (3, .int i3), (5, .int x5)] [] S' rc rs) : ∀ (n : Nat) (i5 : Int32) (S : zm_S), zf_X10_lineUp_L45 N n a0 i1 i2 i3 i5 S = some res → zw p l e R s m args below meth c (vx_MQ below (zm_Qc zk_E V (zo_i out)) (zm_XC zk_E V zo_x) args s mc ms (fun q => V.2.2.2.1 ≤ q)) 6 zk_E V mc ms 45 [(0, .ref a0), (1, .int i1), (2, .int i2), (3, .int i3), (5, .int i5)] [] S rc rs := by
  intro n
  induction n with
  | zero => intro i5 S h; cases h
  | succ n ih =>
    intro i5 S h
    rw [zf_X10_lineUp_L45] at h
    refine zw_iload hX dX10_lineUp_45 rfl ?_
    refine zw_if_le (tgt := 93) hX dX10_lineUp_47 (by decide) (fun c47 => ?_) (fun c47 => ?_)
    · rw [if_pos c47] at h
      refine zw_sub (lv' := [(0, .ref a0), (1, .int i1), (2, .int i2), (3, .int i3), (5, .int i5)]) (List.forall_mem_cons.mpr ⟨rfl, (List.forall_mem_cons.mpr ⟨rfl, (List.forall_mem_cons.mpr ⟨rfl, (List.forall_mem_cons.mpr ⟨rfl, (List.forall_mem_cons.mpr ⟨rfl, zs_nil⟩)⟩)⟩)⟩)⟩) ?_
      exact hk _ _ (Option.some.inj h).symm
    · rw [if_neg c47] at h
      refine zw_aload_n hX dX10_lineUp_50 rfl ?_
      refine zw_aload_n hX dX10_lineUp_51 rfl ?_
      obtain ⟨b9, g, h⟩ := zb_some h
      refine zw_getr hX zl_X10_32 dX10_lineUp_52 g ?_
      refine zw_iload hX dX10_lineUp_55 rfl ?_
      refine zw_iconst (v := (1 : Int32)) hX dX10_lineUp_57 (by decide) ?_
      refine zw_isub hX dX10_lineUp_58 ?_
      obtain ⟨v10, g, h⟩ := zb_some h
      refine zw_xi hX dX10_lineUp_59 g ?_
      obtain ⟨_, gi, h⟩ := zb_some h
      obtain ⟨r13, g, h⟩ := zb_some h
      refine zc_Vi (as := [.int v10]) hX gi (zt_X10_urgencyOf (d := d - 1) (by omega) g) zl_X10_134 rfl dX10_lineUp_60 ⟨rfl, rfl, Nat.le_of_ble_eq_true rfl⟩ ⟨by omega, by omega⟩ ?_
      refine zw_aload_n hX dX10_lineUp_63 rfl ?_
      refine zw_iload_n hX dX10_lineUp_64 rfl ?_
      obtain ⟨_, gi, h⟩ := zb_some h
      obtain ⟨r16, g, h⟩ := zb_some h
      refine zc_Vi (as := [.int i3]) hX gi (zt_X10_urgencyOf (d := d - 1) (by omega) g) zl_X10_134 rfl dX10_lineUp_65 ⟨rfl, rfl, Nat.le_of_ble_eq_true rfl⟩ ⟨by omega, by omega⟩ ?_
      refine zw_icmp_le (tgt := 93) hX dX10_lineUp_68 (by decide) (fun c68 => ?_) (fun c68 => ?_)
      · rw [if_pos c68] at h
        refine zw_sub (lv' := [(0, .ref a0), (1, .int i1), (2, .int i2), (3, .int i3), (5, .int i5)]) (List.forall_mem_cons.mpr ⟨rfl, (List.forall_mem_cons.mpr ⟨rfl, (List.forall_mem_cons.mpr ⟨rfl, (List.forall_mem_cons.mpr ⟨rfl, (List.forall_mem_cons.mpr ⟨rfl, zs_nil⟩)⟩)⟩)⟩)⟩) ?_
        exact hk _ _ (Option.some.inj h).symm
      · rw [if_neg c68] at h
        refine zw_aload_n hX dX10_lineUp_71 rfl ?_
        obtain ⟨b17, g, h⟩ := zb_some h
        refine zw_getr hX zl_X10_32 dX10_lineUp_72 g ?_
        refine zw_iload hX dX10_lineUp_75 rfl ?_
        refine zw_aload_n hX dX10_lineUp_77 rfl ?_
        obtain ⟨b18, g, h⟩ := zb_some h
        refine zw_getr hX zl_X10_32 dX10_lineUp_78 g ?_
        refine zw_iload hX dX10_lineUp_81 rfl ?_
        refine zw_iconst (v := (1 : Int32)) hX dX10_lineUp_83 (by decide) ?_
        refine zw_isub hX dX10_lineUp_84 ?_
        obtain ⟨v19, g, h⟩ := zb_some h
        refine zw_xi hX dX10_lineUp_85 g ?_
        obtain ⟨S20, g, h⟩ := zb_some h
        refine zw_si hX dX10_lineUp_86 g ?_
        refine zw_iinc (v := (i5 + (-1 : Int32))) hX dX10_lineUp_87 rfl rfl (by decide) ?_
        refine zw_goto (tgt := 45) hX dX10_lineUp_90 (by decide) ?_
        refine zw_sub (lv' := [(0, .ref a0), (1, .int i1), (2, .int i2), (3, .int i3), (5, .int (i5 + (-1 : Int32)))]) (List.forall_mem_cons.mpr ⟨rfl, (List.forall_mem_cons.mpr ⟨rfl, (List.forall_mem_cons.mpr ⟨rfl, (List.forall_mem_cons.mpr ⟨rfl, (List.forall_mem_cons.mpr ⟨rfl, zs_nil⟩)⟩)⟩)⟩)⟩) ?_
        exact ih _ _ h
def zf_X10_lineUp_J93 (N : Nat) (k : Nat → Int32 → Int32 → Int32 → zm_S → Option ((Int32 × zm_S) ⊕ ((Int32) × zm_S))) (a0 : Nat) (i1 : Int32) (i2 : Int32) (i3 : Int32) (i5 : Int32) (S : zm_S) : Option ((Int32 × zm_S) ⊕ ((Int32) × zm_S)) := (zg_r S a0 10 9).bind (fun b23 => (zs_i S b23 i5 i3).bind (fun S24 => k a0 i1 (i2 + (1 : Int32)) (i3 + (1 : Int32)) S24))
set_option maxHeartbeats 4000000 in
set_option maxRecDepth 100000 in
theorem zt_X10_lineUp_J93 {p : Program} {l : Launch} {e : Env} {R : Room} {s : State} {m : MethodId} {args : Array Value} {below : List Frame} {meth : Method} {c : Code} {V : zm_V} {mc ms d rc rs : Nat} (hX : zm_X p R s m args meth c RX10 "lineUp" cX10_lineUp 6 zk_E V mc ms) (hr : meth.sig.returnType = (some .int)) (hR : R.frames = d ∧ R.locals = 64 * d) (hd : 4 ≤ d) {N : Nat} {k : Nat → Int32 → Int32 → Int32 → zm_S → Option ((Int32 × zm_S) ⊕ ((Int32) × zm_S))} {a0 : Nat} {i1 : Int32} {i2 : Int32} {i3 : Int32} {i5 : Int32} {res : (Int32 × zm_S) ⊕ ((Int32) × zm_S)} {out : (Int32 × zm_S)}   (hf : ∀ o, res = .inl o → o = out) (hk : ∀ (x2 : Int32) (S' : zm_S), res = .inr (x2, S') → zw p l e R s m args below meth c (vx_MQ below (zm_Qc zk_E V (zo_i out)) (zm_XC zk_E V zo_x) args s mc ms (fun q => V.2.2.2.1 ≤ q)) 6 zk_E V mc ms 110 [(2, .int x2)] [] S' rc rs) (hrec : ∀ (i2' : Int32) (i3' : Int32) (S : zm_S), k a0 i1 i2' i3' S = some res → zw p l e R s m args below meth c (vx_MQ below (zm_Qc zk_E V (zo_i out)) (zm_XC zk_E V zo_x) args s mc ms (fun q => V.2.2.2.1 ≤ q)) 6 zk_E V mc ms 4 [(0, .ref a0), (1, .int i1), (2, .int i2'), (3, .int i3')] [] S rc rs) {S : zm_S} (h : zf_X10_lineUp_J93 N k a0 i1 i2 i3 i5 S = some res) : zw p l e R s m args below meth c (vx_MQ below (zm_Qc zk_E V (zo_i out)) (zm_XC zk_E V zo_x) args s mc ms (fun q => V.2.2.2.1 ≤ q)) 6 zk_E V mc ms 93 [(0, .ref a0), (1, .int i1), (2, .int i2), (3, .int i3), (5, .int i5)] [] S rc rs := by
  unfold zf_X10_lineUp_J93 at h
  refine zw_aload_n hX dX10_lineUp_93 rfl ?_
  obtain ⟨b23, g, h⟩ := zb_some h
  refine zw_getr hX zl_X10_32 dX10_lineUp_94 g ?_
  refine zw_iload hX dX10_lineUp_97 rfl ?_
  refine zw_iload_n hX dX10_lineUp_99 rfl ?_
  obtain ⟨S24, g, h⟩ := zb_some h
  refine zw_si hX dX10_lineUp_100 g ?_
  refine zw_iinc (v := (i2 + (1 : Int32))) hX dX10_lineUp_101 rfl rfl (by decide) ?_
  refine zw_iinc (v := (i3 + (1 : Int32))) hX dX10_lineUp_104 rfl rfl (by decide) ?_
  refine zw_goto (tgt := 4) hX dX10_lineUp_107 (by decide) ?_
  refine zw_sub (lv' := [(0, .ref a0), (1, .int i1), (2, .int (i2 + (1 : Int32))), (3, .int (i3 + (1 : Int32)))]) (List.forall_mem_cons.mpr ⟨rfl, (List.forall_mem_cons.mpr ⟨rfl, (List.forall_mem_cons.mpr ⟨rfl, (List.forall_mem_cons.mpr ⟨rfl, zs_nil⟩)⟩)⟩)⟩) ?_
  exact hrec _ _ _ h
def zf_X10_lineUp_L4 (N : Nat) : Nat → Nat → Int32 → Int32 → Int32 → zm_S → Option ((Int32 × zm_S) ⊕ ((Int32) × zm_S))
  | 0, _, _, _, _, _ => none
  | n + 1, a0, i1, i2, i3, S => (zg_i S a0 10 7).bind (fun v1 => if v1 ≤ i3 then some (.inr (i2, S)) else (zg_r S a0 10 8).bind (fun b2 => (za_r S b2 i3).bind (fun b3 => (zi S a0 10).bind (fun _ => (zf_X10_isFreeInside N a0 i3 S).bind (fun r6 => if r6.1 = 0 then zf_X10_lineUp_L4 N n a0 i1 i2 (i3 + (1 : Int32)) r6.2 else (za_x r6.2 0 b3 (5 : Int32)).bind (fun v7 => (za_x r6.2 0 b3 (7 : Int32)).bind (fun v8 => if (i1 - v7) < v8 then zf_X10_lineUp_L4 N n a0 i1 i2 (i3 + (1 : Int32)) r6.2 else (zf_X10_lineUp_L45 N N a0 i1 i2 i3 i2 r6.2).bind (fun r => match r with | .inl o => some (.inl o) | .inr (v22, S21) => zf_X10_lineUp_J93 N (zf_X10_lineUp_L4 N n) a0 i1 i2 i3 v22 S21))))))))
set_option maxHeartbeats 4000000 in
set_option maxRecDepth 100000 in
theorem zt_X10_lineUp_L4 {p : Program} {l : Launch} {e : Env} {R : Room} {s : State} {m : MethodId} {args : Array Value} {below : List Frame} {meth : Method} {c : Code} {V : zm_V} {mc ms d rc rs : Nat} (hX : zm_X p R s m args meth c RX10 "lineUp" cX10_lineUp 6 zk_E V mc ms) (hr : meth.sig.returnType = (some .int)) (hR : R.frames = d ∧ R.locals = 64 * d) (hd : 4 ≤ d) {N : Nat} {res : (Int32 × zm_S) ⊕ ((Int32) × zm_S)} {out : (Int32 × zm_S)} (a0 : Nat) (i1 : Int32) (hf : ∀ o, res = .inl o → o = out) (hk : ∀ (x2 : Int32) (S' : zm_S), res = .inr (x2, S') → zw p l e R s m args below meth c (vx_MQ below (zm_Qc zk_E V (zo_i out)) (zm_XC zk_E V zo_x) args s mc ms (fun q => V.2.2.2.1 ≤ q)) 6 zk_E V mc ms 110 [(2, .int x2)] [] S' rc rs) : ∀ (n : Nat) (i2 : Int32) (i3 : Int32) (S : zm_S), zf_X10_lineUp_L4 N n a0 i1 i2 i3 S = some res → zw p l e R s m args below meth c (vx_MQ below (zm_Qc zk_E V (zo_i out)) (zm_XC zk_E V zo_x) args s mc ms (fun q => V.2.2.2.1 ≤ q)) 6 zk_E V mc ms 4 [(0, .ref a0), (1, .int i1), (2, .int i2), (3, .int i3)] [] S rc rs := by
  intro n
  induction n with
  | zero => intro i2 i3 S h; cases h
  | succ n ih =>
    intro i2 i3 S h
    rw [zf_X10_lineUp_L4] at h
    refine zw_iload_n hX dX10_lineUp_4 rfl ?_
    refine zw_aload_n hX dX10_lineUp_5 rfl ?_
    obtain ⟨v1, g, h⟩ := zb_some h
    refine zw_geti hX zl_X10_93 dX10_lineUp_6 g ?_
    refine zw_icmp_ge (tgt := 110) hX dX10_lineUp_9 (by decide) (fun c9 => ?_) (fun c9 => ?_)
    · rw [if_pos c9] at h
      refine zw_sub (lv' := [(2, .int i2)]) (List.forall_mem_cons.mpr ⟨rfl, zs_nil⟩) ?_
      exact hk _ _ (Option.some.inj h).symm
    · rw [if_neg c9] at h
      refine zw_aload_n hX dX10_lineUp_12 rfl ?_
      obtain ⟨b2, g, h⟩ := zb_some h
      refine zw_getr hX zl_X10_29 dX10_lineUp_13 g ?_
      refine zw_iload_n hX dX10_lineUp_16 rfl ?_
      obtain ⟨b3, g, h⟩ := zb_some h
      refine zw_xr hX dX10_lineUp_17 g ?_
      refine zw_astore hX dX10_lineUp_18 (by decide) ?_
      refine zw_aload_n hX dX10_lineUp_20 rfl ?_
      refine zw_iload_n hX dX10_lineUp_21 rfl ?_
      obtain ⟨_, gi, h⟩ := zb_some h
      obtain ⟨r6, g, h⟩ := zb_some h
      refine zc_Vi (as := [.int i3]) hX gi (zt_X10_isFreeInside (d := d - 1) (by omega) g) zl_X10_115 rfl dX10_lineUp_22 ⟨rfl, rfl, Nat.le_of_ble_eq_true rfl⟩ ⟨by omega, by omega⟩ ?_
      refine zw_if_eq (tgt := 104) hX dX10_lineUp_25 (by decide) (fun c25 => ?_) (fun c25 => ?_)
      · rw [if_pos c25] at h
        refine zw_iinc (v := (i3 + (1 : Int32))) hX dX10_lineUp_104 rfl rfl (by decide) ?_
        refine zw_goto (tgt := 4) hX dX10_lineUp_107 (by decide) ?_
        refine zw_sub (lv' := [(0, .ref a0), (1, .int i1), (2, .int i2), (3, .int (i3 + (1 : Int32)))]) (List.forall_mem_cons.mpr ⟨rfl, (List.forall_mem_cons.mpr ⟨rfl, (List.forall_mem_cons.mpr ⟨rfl, (List.forall_mem_cons.mpr ⟨rfl, zs_nil⟩)⟩)⟩)⟩) ?_
        exact ih _ _ _ h
      · rw [if_neg c25] at h
        refine zw_iload_n hX dX10_lineUp_28 rfl ?_
        refine zw_aload hX dX10_lineUp_29 rfl ?_
        refine zw_iconst (v := (5 : Int32)) hX dX10_lineUp_31 (by decide) ?_
        obtain ⟨v7, g, h⟩ := zb_some h
        refine zw_xi hX dX10_lineUp_32 g ?_
        refine zw_isub hX dX10_lineUp_33 ?_
        refine zw_aload hX dX10_lineUp_34 rfl ?_
        refine zw_bipush (v := (7 : Int32)) hX dX10_lineUp_36 (by decide) ?_
        obtain ⟨v8, g, h⟩ := zb_some h
        refine zw_xi hX dX10_lineUp_38 g ?_
        refine zw_icmp_lt (tgt := 104) hX dX10_lineUp_39 (by decide) (fun c39 => ?_) (fun c39 => ?_)
        · rw [if_pos c39] at h
          refine zw_iinc (v := (i3 + (1 : Int32))) hX dX10_lineUp_104 rfl rfl (by decide) ?_
          refine zw_goto (tgt := 4) hX dX10_lineUp_107 (by decide) ?_
          refine zw_sub (lv' := [(0, .ref a0), (1, .int i1), (2, .int i2), (3, .int (i3 + (1 : Int32)))]) (List.forall_mem_cons.mpr ⟨rfl, (List.forall_mem_cons.mpr ⟨rfl, (List.forall_mem_cons.mpr ⟨rfl, (List.forall_mem_cons.mpr ⟨rfl, zs_nil⟩)⟩)⟩)⟩) ?_
          exact ih _ _ _ h
        · rw [if_neg c39] at h
          refine zw_iload_n hX dX10_lineUp_42 rfl ?_
          refine zw_istore hX dX10_lineUp_43 (by decide) ?_
          obtain ⟨r, g, h⟩ := zb_some h
          refine zw_sub (lv' := [(0, .ref a0), (1, .int i1), (2, .int i2), (3, .int i3), (5, .int i2)]) (List.forall_mem_cons.mpr ⟨rfl, (List.forall_mem_cons.mpr ⟨rfl, (List.forall_mem_cons.mpr ⟨rfl, (List.forall_mem_cons.mpr ⟨rfl, (List.forall_mem_cons.mpr ⟨rfl, zs_nil⟩)⟩)⟩)⟩)⟩) ?_
          refine zt_X10_lineUp_L45 hX hr hR hd (res := r) (out := out) a0 i1 i2 i3 ?_ ?_ N _ _ g
          · intro o ho
            subst ho
            exact hf _ (Option.some.inj h).symm
          · intro v22 S21 hx
            subst hx
            try dsimp only at h
            refine zw_sub (lv' := [(0, .ref a0), (1, .int i1), (2, .int i2), (3, .int i3), (5, .int v22)]) (List.forall_mem_cons.mpr ⟨rfl, (List.forall_mem_cons.mpr ⟨rfl, (List.forall_mem_cons.mpr ⟨rfl, (List.forall_mem_cons.mpr ⟨rfl, (List.forall_mem_cons.mpr ⟨rfl, zs_nil⟩)⟩)⟩)⟩)⟩) ?_
            exact zt_X10_lineUp_J93 hX hr hR hd hf hk ih h
def zf_X10_lineUp (N : Nat) (a0 : Nat) (i1 : Int32) (S : zm_S) : Option (Int32 × zm_S) := (zf_X10_lineUp_L4 N N a0 i1 (0 : Int32) (0 : Int32) S).bind (fun r => match r with | .inl o => some o | .inr (v26, S25) => some (v26, S25))
set_option maxHeartbeats 4000000 in
set_option maxRecDepth 100000 in
theorem zt_X10_lineUp {l : Launch} {V : zm_V} {N : Nat} {S : zm_S} {out : (Int32 × zm_S)} {d : Nat} {a0 : Nat} {i1 : Int32} (hd : 4 ≤ d) (h : zf_X10_lineUp N a0 i1 S = some out) : zm_Met l zk_E V yX10_lineUp (.code yX10_lineUp cX10_lineUp 6 (some .int)) d [.ref a0, .int i1] S 0 0 (zo_i out) zo_x := by
  refine zm_of (by decide +kernel) (Nat.le_of_ble_eq_true rfl) ?_
  intro p e R s m args below meth c hRR hX hr hxt
  have hR : R.frames = d ∧ R.locals = 64 * d := by rw [hRR]; exact ⟨rfl, rfl⟩
  have hX : zm_X p R s m args meth c RX10 "lineUp" cX10_lineUp 6 zk_E V 0 0 := hX
  unfold zf_X10_lineUp at h
  refine zw_sub (lv' := [(0, .ref a0), (1, .int i1)]) (List.forall_mem_cons.mpr ⟨rfl, (List.forall_mem_cons.mpr ⟨rfl, zs_nil⟩)⟩) ?_
  refine zw_iconst (v := (0 : Int32)) hX dX10_lineUp_0 (by decide) ?_
  refine zw_istore_n hX dX10_lineUp_1 (by decide) ?_
  refine zw_iconst (v := (0 : Int32)) hX dX10_lineUp_2 (by decide) ?_
  refine zw_istore_n hX dX10_lineUp_3 (by decide) ?_
  obtain ⟨r, g, h⟩ := zb_some h
  refine zw_sub (lv' := [(0, .ref a0), (1, .int i1), (2, .int (0 : Int32)), (3, .int (0 : Int32))]) (List.forall_mem_cons.mpr ⟨rfl, (List.forall_mem_cons.mpr ⟨rfl, (List.forall_mem_cons.mpr ⟨rfl, (List.forall_mem_cons.mpr ⟨rfl, zs_nil⟩)⟩)⟩)⟩) ?_
  refine zt_X10_lineUp_L4 hX hr hR hd (res := r) (out := out) a0 i1 ?_ ?_ N _ _ _ g
  · intro o ho
    subst ho
    exact Option.some.inj h
  · intro v26 S25 hx
    subst hx
    try dsimp only at h
    refine zw_iload_n hX dX10_lineUp_110 rfl ?_
    obtain rfl := Option.some.inj h
    exact zw_iret hX hr dX10_lineUp_111 rfl ⟨rfl, rfl⟩
def zf_X10_isBetter_J34 (N : Nat) (a0 : Nat) (i3 : Int32) (i4 : Int32) (S : zm_S) : Option (Int32 × zm_S) := (zi S a0 10).bind (fun _ => (zf_X10_isInSpace N a0 i3 S).bind (fun r9 => if r9.1 = 0 then if i4 = (1 : Int32) then some ((1 : Int32), r9.2) else some ((0 : Int32), r9.2) else (zg_r r9.2 a0 10 5).bind (fun b10 => (za_x r9.2 0 b10 i3).bind (fun v11 => if v11 = (-1 : Int32) then some ((0 : Int32), r9.2) else (zg_r r9.2 a0 10 5).bind (fun b12 => (za_x r9.2 0 b12 i3).bind (fun v13 => if i4 ≤ v13 then some ((0 : Int32), r9.2) else some ((1 : Int32), r9.2)))))))
set_option maxHeartbeats 4000000 in
set_option maxRecDepth 100000 in
theorem zt_X10_isBetter_J34 {p : Program} {l : Launch} {e : Env} {R : Room} {s : State} {m : MethodId} {args : Array Value} {below : List Frame} {meth : Method} {c : Code} {V : zm_V} {mc ms d rc rs : Nat} (hX : zm_X p R s m args meth c RX10 "isBetter" cX10_isBetter 5 zk_E V mc ms) (hr : meth.sig.returnType = (some .boolean)) (hR : R.frames = d ∧ R.locals = 64 * d) (hd : 2 ≤ d) {N : Nat} {a0 : Nat} {i3 : Int32} {i4 : Int32} {out : (Int32 × zm_S)} {S : zm_S} (h : zf_X10_isBetter_J34 N a0 i3 i4 S = some out) : zw p l e R s m args below meth c (vx_MQ below (zm_Qc zk_E V (zo_i out)) (zm_XC zk_E V zo_x) args s mc ms (fun q => V.2.2.2.1 ≤ q)) 5 zk_E V mc ms 34 [(0, .ref a0), (3, .int i3), (4, .int i4)] [] S rc rs := by
  unfold zf_X10_isBetter_J34 at h
  refine zw_aload_n hX dX10_isBetter_34 rfl ?_
  refine zw_iload_n hX dX10_isBetter_35 rfl ?_
  obtain ⟨_, gi, h⟩ := zb_some h
  obtain ⟨r9, g, h⟩ := zb_some h
  refine zc_Vi (as := [.int i3]) hX gi (zt_X10_isInSpace (d := d - 1) (by omega) g) zl_X10_70 rfl dX10_isBetter_36 ⟨rfl, rfl, Nat.le_of_ble_eq_true rfl⟩ ⟨by omega, by omega⟩ ?_
  refine zw_if_eq (tgt := 71) hX dX10_isBetter_39 (by decide) (fun c39 => ?_) (fun c39 => ?_)
  · rw [if_pos c39] at h
    refine zw_iload hX dX10_isBetter_71 rfl ?_
    refine zw_iconst (v := (1 : Int32)) hX dX10_isBetter_73 (by decide) ?_
    refine zw_icmp_ne (tgt := 81) hX dX10_isBetter_74 (by decide) (fun c74 => ?_) (fun c74 => ?_)
    · rw [if_neg c74] at h
      refine zw_iconst (v := (0 : Int32)) hX dX10_isBetter_81 (by decide) ?_
      obtain rfl := Option.some.inj h
      exact zw_iret hX hr dX10_isBetter_82 rfl ⟨rfl, rfl⟩
    · rw [if_pos c74] at h
      refine zw_iconst (v := (1 : Int32)) hX dX10_isBetter_77 (by decide) ?_
      refine zw_goto (tgt := 82) hX dX10_isBetter_78 (by decide) ?_
      obtain rfl := Option.some.inj h
      exact zw_iret hX hr dX10_isBetter_82 rfl ⟨rfl, rfl⟩
  · rw [if_neg c39] at h
    refine zw_aload_n hX dX10_isBetter_42 rfl ?_
    obtain ⟨b10, g, h⟩ := zb_some h
    refine zw_getr hX zl_X10_21 dX10_isBetter_43 g ?_
    refine zw_iload_n hX dX10_isBetter_46 rfl ?_
    obtain ⟨v11, g, h⟩ := zb_some h
    refine zw_xi hX dX10_isBetter_47 g ?_
    refine zw_iconst (v := (-1 : Int32)) hX dX10_isBetter_48 (by decide) ?_
    refine zw_icmp_eq (tgt := 67) hX dX10_isBetter_49 (by decide) (fun c49 => ?_) (fun c49 => ?_)
    · rw [if_pos c49] at h
      refine zw_iconst (v := (0 : Int32)) hX dX10_isBetter_67 (by decide) ?_
      refine zw_goto (tgt := 82) hX dX10_isBetter_68 (by decide) ?_
      obtain rfl := Option.some.inj h
      exact zw_iret hX hr dX10_isBetter_82 rfl ⟨rfl, rfl⟩
    · rw [if_neg c49] at h
      refine zw_aload_n hX dX10_isBetter_52 rfl ?_
      obtain ⟨b12, g, h⟩ := zb_some h
      refine zw_getr hX zl_X10_21 dX10_isBetter_53 g ?_
      refine zw_iload_n hX dX10_isBetter_56 rfl ?_
      obtain ⟨v13, g, h⟩ := zb_some h
      refine zw_xi hX dX10_isBetter_57 g ?_
      refine zw_iload hX dX10_isBetter_58 rfl ?_
      refine zw_icmp_ge (tgt := 67) hX dX10_isBetter_60 (by decide) (fun c60 => ?_) (fun c60 => ?_)
      · rw [if_pos c60] at h
        refine zw_iconst (v := (0 : Int32)) hX dX10_isBetter_67 (by decide) ?_
        refine zw_goto (tgt := 82) hX dX10_isBetter_68 (by decide) ?_
        obtain rfl := Option.some.inj h
        exact zw_iret hX hr dX10_isBetter_82 rfl ⟨rfl, rfl⟩
      · rw [if_neg c60] at h
        refine zw_iconst (v := (1 : Int32)) hX dX10_isBetter_63 (by decide) ?_
        refine zw_goto (tgt := 82) hX dX10_isBetter_64 (by decide) ?_
        obtain rfl := Option.some.inj h
        exact zw_iret hX hr dX10_isBetter_82 rfl ⟨rfl, rfl⟩
def zf_X10_isBetter (N : Nat) (a0 : Nat) (i1 : Int32) (i2 : Int32) (S : zm_S) : Option (Int32 × zm_S) := (zg_r S a0 10 1).bind (fun b1 => (zi S b1 2).bind (fun _ => (zf_X2_cellBeside N b1 i1 i2 S).bind (fun r4 => (zg_r r4.2 a0 10 5).bind (fun b5 => (za_x r4.2 0 b5 i1).bind (fun v6 => if r4.1 = (-1 : Int32) then zf_X10_isBetter_J34 N a0 r4.1 v6 r4.2 else (zg_r r4.2 a0 10 2).bind (fun b14 => (za_x r4.2 2 b14 r4.1).bind (fun v15 => if v15 = 0 then zf_X10_isBetter_J34 N a0 r4.1 v6 r4.2 else some ((0 : Int32), r4.2))))))))
set_option maxHeartbeats 4000000 in
set_option maxRecDepth 100000 in
theorem zt_X10_isBetter {l : Launch} {V : zm_V} {N : Nat} {S : zm_S} {out : (Int32 × zm_S)} {d : Nat} {a0 : Nat} {i1 : Int32} {i2 : Int32} (hd : 2 ≤ d) (h : zf_X10_isBetter N a0 i1 i2 S = some out) : zm_Met l zk_E V yX10_isBetter (.code yX10_isBetter cX10_isBetter 5 (some .boolean)) d [.ref a0, .int i1, .int i2] S 0 0 (zo_i out) zo_x := by
  refine zm_of (by decide +kernel) (Nat.le_of_ble_eq_true rfl) ?_
  intro p e R s m args below meth c hRR hX hr hxt
  have hR : R.frames = d ∧ R.locals = 64 * d := by rw [hRR]; exact ⟨rfl, rfl⟩
  have hX : zm_X p R s m args meth c RX10 "isBetter" cX10_isBetter 5 zk_E V 0 0 := hX
  unfold zf_X10_isBetter at h
  refine zw_sub (lv' := [(0, .ref a0), (1, .int i1), (2, .int i2)]) (List.forall_mem_cons.mpr ⟨rfl, (List.forall_mem_cons.mpr ⟨rfl, (List.forall_mem_cons.mpr ⟨rfl, zs_nil⟩)⟩)⟩) ?_
  refine zw_aload_n hX dX10_isBetter_0 rfl ?_
  obtain ⟨b1, g, h⟩ := zb_some h
  refine zw_getr hX zl_X10_44 dX10_isBetter_1 g ?_
  refine zw_iload_n hX dX10_isBetter_4 rfl ?_
  refine zw_iload_n hX dX10_isBetter_5 rfl ?_
  obtain ⟨_, gi, h⟩ := zb_some h
  obtain ⟨r4, g, h⟩ := zb_some h
  refine zc_Vi (as := [.int i1, .int i2]) hX gi (zt_X2_cellBeside (d := d - 1) (by omega) g) zl_X10_77 rfl dX10_isBetter_6 ⟨rfl, rfl, Nat.le_of_ble_eq_true rfl⟩ ⟨by omega, by omega⟩ ?_
  refine zw_istore_n hX dX10_isBetter_9 (by decide) ?_
  refine zw_aload_n hX dX10_isBetter_10 rfl ?_
  obtain ⟨b5, g, h⟩ := zb_some h
  refine zw_getr hX zl_X10_21 dX10_isBetter_11 g ?_
  refine zw_iload_n hX dX10_isBetter_14 rfl ?_
  obtain ⟨v6, g, h⟩ := zb_some h
  refine zw_xi hX dX10_isBetter_15 g ?_
  refine zw_istore hX dX10_isBetter_16 (by decide) ?_
  refine zw_iload_n hX dX10_isBetter_18 rfl ?_
  refine zw_iconst (v := (-1 : Int32)) hX dX10_isBetter_19 (by decide) ?_
  refine zw_icmp_eq (tgt := 34) hX dX10_isBetter_20 (by decide) (fun c20 => ?_) (fun c20 => ?_)
  · rw [if_pos c20] at h
    refine zw_sub (lv' := [(0, .ref a0), (3, .int r4.1), (4, .int v6)]) (List.forall_mem_cons.mpr ⟨rfl, (List.forall_mem_cons.mpr ⟨rfl, (List.forall_mem_cons.mpr ⟨rfl, zs_nil⟩)⟩)⟩) ?_
    exact zt_X10_isBetter_J34 hX hr hR hd h
  · rw [if_neg c20] at h
    refine zw_aload_n hX dX10_isBetter_23 rfl ?_
    obtain ⟨b14, g, h⟩ := zb_some h
    refine zw_getr hX zl_X10_11 dX10_isBetter_24 g ?_
    refine zw_iload_n hX dX10_isBetter_27 rfl ?_
    obtain ⟨v15, g, h⟩ := zb_some h
    refine zw_xz hX dX10_isBetter_28 g ?_
    refine zw_if_eq (tgt := 34) hX dX10_isBetter_29 (by decide) (fun c29 => ?_) (fun c29 => ?_)
    · rw [if_pos c29] at h
      refine zw_sub (lv' := [(0, .ref a0), (3, .int r4.1), (4, .int v6)]) (List.forall_mem_cons.mpr ⟨rfl, (List.forall_mem_cons.mpr ⟨rfl, (List.forall_mem_cons.mpr ⟨rfl, zs_nil⟩)⟩)⟩) ?_
      exact zt_X10_isBetter_J34 hX hr hR hd h
    · rw [if_neg c29] at h
      refine zw_iconst (v := (0 : Int32)) hX dX10_isBetter_32 (by decide) ?_
      obtain rfl := Option.some.inj h
      exact zw_iret hX hr dX10_isBetter_33 rfl ⟨rfl, rfl⟩
def zf_X10_goesThrough_L32 (N : Nat) : Nat → Nat → Int32 → Int32 → Int32 → zm_S → Option ((Int32 × zm_S) ⊕ ((Unit) × zm_S))
  | 0, _, _, _, _, _ => none
  | n + 1, a0, i3, i4, i5, S => (zg_r S a0 10 0).bind (fun b9 => (zg_r S b9 8 2).bind (fun b10 => (za_x S 0 b10 i3).bind (fun v11 => if v11 ≤ i5 then some (.inr ((), S)) else (zg_r S a0 10 0).bind (fun b12 => (zi S b12 8).bind (fun _ => (zf_X8_isDoorAt N b12 i3 i5 i4 S).bind (fun r15 => if r15.1 = 0 then zf_X10_goesThrough_L32 N n a0 i3 i4 (i5 + (1 : Int32)) r15.2 else (zg_r r15.2 a0 10 10).bind (fun b16 => (za_r r15.2 b16 i3).bind (fun b17 => (za_x r15.2 0 b17 i5).bind (fun v18 => (zg_r r15.2 a0 10 0).bind (fun b19 => (zi r15.2 b19 8).bind (fun _ => (zf_X8_rateOf N b19 i3 i5 r15.2).bind (fun r22 => if r22.1 ≤ v18 then zf_X10_goesThrough_L32 N n a0 i3 i4 (i5 + (1 : Int32)) r22.2 else (zg_r r22.2 a0 10 10).bind (fun b23 => (za_r r22.2 b23 i3).bind (fun b24 => (za_x r22.2 0 b24 i5).bind (fun v25 => (zs_i r22.2 b24 i5 (v25 + (1 : Int32))).bind (fun S26 => some (.inl ((1 : Int32), S26))))))))))))))))))
set_option maxHeartbeats 4000000 in
set_option maxRecDepth 100000 in
theorem zt_X10_goesThrough_L32 {p : Program} {l : Launch} {e : Env} {R : Room} {s : State} {m : MethodId} {args : Array Value} {below : List Frame} {meth : Method} {c : Code} {V : zm_V} {mc ms d rc rs : Nat} (hX : zm_X p R s m args meth c RX10 "goesThrough" cX10_goesThrough 6 zk_E V mc ms) (hr : meth.sig.returnType = (some .boolean)) (hR : R.frames = d ∧ R.locals = 64 * d) (hd : 3 ≤ d) {N : Nat} {res : (Int32 × zm_S) ⊕ ((Unit) × zm_S)} {out : (Int32 × zm_S)} (a0 : Nat) (i3 : Int32) (i4 : Int32) (hf : ∀ o, res = .inl o → o = out) (hk : ∀ (S' : zm_S), res = .inr ((), S') → zw p l e R s m args below meth c (vx_MQ below (zm_Qc zk_E V (zo_i out)) (zm_XC zk_E V zo_x) args s mc ms (fun q => V.2.2.2.1 ≤ q)) 6 zk_E V mc ms 104 [] [] S' rc rs) : ∀ (n : Nat) (i5 : Int32) (S : zm_S), zf_X10_goesThrough_L32 N n a0 i3 i4 i5 S = some res → zw p l e R s m args below meth c (vx_MQ below (zm_Qc zk_E V (zo_i out)) (zm_XC zk_E V zo_x) args s mc ms (fun q => V.2.2.2.1 ≤ q)) 6 zk_E V mc ms 32 [(0, .ref a0), (3, .int i3), (4, .int i4), (5, .int i5)] [] S rc rs := by
  intro n
  induction n with
  | zero => intro i5 S h; cases h
  | succ n ih =>
    intro i5 S h
    rw [zf_X10_goesThrough_L32] at h
    refine zw_iload hX dX10_goesThrough_32 rfl ?_
    refine zw_aload_n hX dX10_goesThrough_34 rfl ?_
    obtain ⟨b9, g, h⟩ := zb_some h
    refine zw_getr hX zl_X10_40 dX10_goesThrough_35 g ?_
    obtain ⟨b10, g, h⟩ := zb_some h
    refine zw_getNr hX zl_X10_150 dX10_goesThrough_38 g ?_
    refine zw_iload_n hX dX10_goesThrough_41 rfl ?_
    obtain ⟨v11, g, h⟩ := zb_some h
    refine zw_xi hX dX10_goesThrough_42 g ?_
    refine zw_icmp_ge (tgt := 104) hX dX10_goesThrough_43 (by decide) (fun c43 => ?_) (fun c43 => ?_)
    · rw [if_pos c43] at h
      refine zw_sub (lv' := []) zs_nil ?_
      exact hk  _ (Option.some.inj h).symm
    · rw [if_neg c43] at h
      refine zw_aload_n hX dX10_goesThrough_46 rfl ?_
      obtain ⟨b12, g, h⟩ := zb_some h
      refine zw_getr hX zl_X10_40 dX10_goesThrough_47 g ?_
      refine zw_iload_n hX dX10_goesThrough_50 rfl ?_
      refine zw_iload hX dX10_goesThrough_51 rfl ?_
      refine zw_iload hX dX10_goesThrough_53 rfl ?_
      obtain ⟨_, gi, h⟩ := zb_some h
      obtain ⟨r15, g, h⟩ := zb_some h
      refine zc_Vi (as := [.int i3, .int i5, .int i4]) hX gi (zt_X8_isDoorAt (d := d - 1) (by omega) g) zl_X10_153 rfl dX10_goesThrough_55 ⟨rfl, rfl, Nat.le_of_ble_eq_true rfl⟩ ⟨by omega, by omega⟩ ?_
      refine zw_if_eq (tgt := 98) hX dX10_goesThrough_58 (by decide) (fun c58 => ?_) (fun c58 => ?_)
      · rw [if_pos c58] at h
        refine zw_iinc (v := (i5 + (1 : Int32))) hX dX10_goesThrough_98 rfl rfl (by decide) ?_
        refine zw_goto (tgt := 32) hX dX10_goesThrough_101 (by decide) ?_
        refine zw_sub (lv' := [(0, .ref a0), (3, .int i3), (4, .int i4), (5, .int (i5 + (1 : Int32)))]) (List.forall_mem_cons.mpr ⟨rfl, (List.forall_mem_cons.mpr ⟨rfl, (List.forall_mem_cons.mpr ⟨rfl, (List.forall_mem_cons.mpr ⟨rfl, zs_nil⟩)⟩)⟩)⟩) ?_
        exact ih _ _ h
      · rw [if_neg c58] at h
        refine zw_aload_n hX dX10_goesThrough_61 rfl ?_
        obtain ⟨b16, g, h⟩ := zb_some h
        refine zw_getr hX zl_X10_37 dX10_goesThrough_62 g ?_
        refine zw_iload_n hX dX10_goesThrough_65 rfl ?_
        obtain ⟨b17, g, h⟩ := zb_some h
        refine zw_xr hX dX10_goesThrough_66 g ?_
        refine zw_iload hX dX10_goesThrough_67 rfl ?_
        obtain ⟨v18, g, h⟩ := zb_some h
        refine zw_xi hX dX10_goesThrough_69 g ?_
        refine zw_aload_n hX dX10_goesThrough_70 rfl ?_
        obtain ⟨b19, g, h⟩ := zb_some h
        refine zw_getr hX zl_X10_40 dX10_goesThrough_71 g ?_
        refine zw_iload_n hX dX10_goesThrough_74 rfl ?_
        refine zw_iload hX dX10_goesThrough_75 rfl ?_
        obtain ⟨_, gi, h⟩ := zb_some h
        obtain ⟨r22, g, h⟩ := zb_some h
        refine zc_Vi (as := [.int i3, .int i5]) hX gi (zt_X8_rateOf (d := d - 1) (by omega) g) zl_X10_157 rfl dX10_goesThrough_77 ⟨rfl, rfl, Nat.le_of_ble_eq_true rfl⟩ ⟨by omega, by omega⟩ ?_
        refine zw_icmp_ge (tgt := 98) hX dX10_goesThrough_80 (by decide) (fun c80 => ?_) (fun c80 => ?_)
        · rw [if_pos c80] at h
          refine zw_iinc (v := (i5 + (1 : Int32))) hX dX10_goesThrough_98 rfl rfl (by decide) ?_
          refine zw_goto (tgt := 32) hX dX10_goesThrough_101 (by decide) ?_
          refine zw_sub (lv' := [(0, .ref a0), (3, .int i3), (4, .int i4), (5, .int (i5 + (1 : Int32)))]) (List.forall_mem_cons.mpr ⟨rfl, (List.forall_mem_cons.mpr ⟨rfl, (List.forall_mem_cons.mpr ⟨rfl, (List.forall_mem_cons.mpr ⟨rfl, zs_nil⟩)⟩)⟩)⟩) ?_
          exact ih _ _ h
        · rw [if_neg c80] at h
          refine zw_aload_n hX dX10_goesThrough_83 rfl ?_
          obtain ⟨b23, g, h⟩ := zb_some h
          refine zw_getr hX zl_X10_37 dX10_goesThrough_84 g ?_
          refine zw_iload_n hX dX10_goesThrough_87 rfl ?_
          obtain ⟨b24, g, h⟩ := zb_some h
          refine zw_xr hX dX10_goesThrough_88 g ?_
          refine zw_iload hX dX10_goesThrough_89 rfl ?_
          refine zw_dup2 hX dX10_goesThrough_91 rfl rfl ?_
          obtain ⟨v25, g, h⟩ := zb_some h
          refine zw_xi hX dX10_goesThrough_92 g ?_
          refine zw_iconst (v := (1 : Int32)) hX dX10_goesThrough_93 (by decide) ?_
          refine zw_iadd hX dX10_goesThrough_94 ?_
          obtain ⟨S26, g, h⟩ := zb_some h
          refine zw_si hX dX10_goesThrough_95 g ?_
          refine zw_iconst (v := (1 : Int32)) hX dX10_goesThrough_96 (by decide) ?_
          have hz := hf _ (Option.some.inj h).symm
          subst hz
          exact zw_iret hX hr dX10_goesThrough_97 rfl ⟨rfl, rfl⟩
def zf_X10_goesThrough (N : Nat) (a0 : Nat) (i1 : Int32) (i2 : Int32) (S : zm_S) : Option (Int32 × zm_S) := (zg_r S a0 10 1).bind (fun b1 => (zi S b1 2).bind (fun _ => (zf_X2_wallBeside N b1 i1 i2 S).bind (fun r4 => if r4.1 = (-1 : Int32) then some ((1 : Int32), r4.2) else (zg_r r4.2 a0 10 1).bind (fun b5 => (zi r4.2 b5 2).bind (fun _ => (zf_X2_distanceBeside N b5 i1 i2 r4.1 r4.2).bind (fun r8 => (zf_X10_goesThrough_L32 N N a0 r4.1 r8.1 (0 : Int32) r8.2).bind (fun r => match r with | .inl o => some o | .inr (_, S27) => some ((0 : Int32), S27))))))))
set_option maxHeartbeats 4000000 in
set_option maxRecDepth 100000 in
theorem zt_X10_goesThrough {l : Launch} {V : zm_V} {N : Nat} {S : zm_S} {out : (Int32 × zm_S)} {d : Nat} {a0 : Nat} {i1 : Int32} {i2 : Int32} (hd : 3 ≤ d) (h : zf_X10_goesThrough N a0 i1 i2 S = some out) : zm_Met l zk_E V yX10_goesThrough (.code yX10_goesThrough cX10_goesThrough 6 (some .boolean)) d [.ref a0, .int i1, .int i2] S 0 0 (zo_i out) zo_x := by
  refine zm_of (by decide +kernel) (Nat.le_of_ble_eq_true rfl) ?_
  intro p e R s m args below meth c hRR hX hr hxt
  have hR : R.frames = d ∧ R.locals = 64 * d := by rw [hRR]; exact ⟨rfl, rfl⟩
  have hX : zm_X p R s m args meth c RX10 "goesThrough" cX10_goesThrough 6 zk_E V 0 0 := hX
  unfold zf_X10_goesThrough at h
  refine zw_sub (lv' := [(0, .ref a0), (1, .int i1), (2, .int i2)]) (List.forall_mem_cons.mpr ⟨rfl, (List.forall_mem_cons.mpr ⟨rfl, (List.forall_mem_cons.mpr ⟨rfl, zs_nil⟩)⟩)⟩) ?_
  refine zw_aload_n hX dX10_goesThrough_0 rfl ?_
  obtain ⟨b1, g, h⟩ := zb_some h
  refine zw_getr hX zl_X10_44 dX10_goesThrough_1 g ?_
  refine zw_iload_n hX dX10_goesThrough_4 rfl ?_
  refine zw_iload_n hX dX10_goesThrough_5 rfl ?_
  obtain ⟨_, gi, h⟩ := zb_some h
  obtain ⟨r4, g, h⟩ := zb_some h
  refine zc_Vi (as := [.int i1, .int i2]) hX gi (zt_X2_wallBeside (d := d - 1) (by omega) g) zl_X10_58 rfl dX10_goesThrough_6 ⟨rfl, rfl, Nat.le_of_ble_eq_true rfl⟩ ⟨by omega, by omega⟩ ?_
  refine zw_istore_n hX dX10_goesThrough_9 (by decide) ?_
  refine zw_iload_n hX dX10_goesThrough_10 rfl ?_
  refine zw_iconst (v := (-1 : Int32)) hX dX10_goesThrough_11 (by decide) ?_
  refine zw_icmp_ne (tgt := 17) hX dX10_goesThrough_12 (by decide) (fun c12 => ?_) (fun c12 => ?_)
  · rw [if_neg c12] at h
    refine zw_aload_n hX dX10_goesThrough_17 rfl ?_
    obtain ⟨b5, g, h⟩ := zb_some h
    refine zw_getr hX zl_X10_44 dX10_goesThrough_18 g ?_
    refine zw_iload_n hX dX10_goesThrough_21 rfl ?_
    refine zw_iload_n hX dX10_goesThrough_22 rfl ?_
    refine zw_iload_n hX dX10_goesThrough_23 rfl ?_
    obtain ⟨_, gi, h⟩ := zb_some h
    obtain ⟨r8, g, h⟩ := zb_some h
    refine zc_Vi (as := [.int i1, .int i2, .int r4.1]) hX gi (zt_X2_distanceBeside (d := d - 1) (by omega) g) zl_X10_62 rfl dX10_goesThrough_24 ⟨rfl, rfl, Nat.le_of_ble_eq_true rfl⟩ ⟨by omega, by omega⟩ ?_
    refine zw_istore hX dX10_goesThrough_27 (by decide) ?_
    refine zw_iconst (v := (0 : Int32)) hX dX10_goesThrough_29 (by decide) ?_
    refine zw_istore hX dX10_goesThrough_30 (by decide) ?_
    obtain ⟨r, g, h⟩ := zb_some h
    refine zw_sub (lv' := [(0, .ref a0), (3, .int r4.1), (4, .int r8.1), (5, .int (0 : Int32))]) (List.forall_mem_cons.mpr ⟨rfl, (List.forall_mem_cons.mpr ⟨rfl, (List.forall_mem_cons.mpr ⟨rfl, (List.forall_mem_cons.mpr ⟨rfl, zs_nil⟩)⟩)⟩)⟩) ?_
    refine zt_X10_goesThrough_L32 hX hr hR hd (res := r) (out := out) a0 r4.1 r8.1 ?_ ?_ N _ _ g
    · intro o ho
      subst ho
      exact Option.some.inj h
    · intro  S27 hx
      subst hx
      try dsimp only at h
      refine zw_iconst (v := (0 : Int32)) hX dX10_goesThrough_104 (by decide) ?_
      obtain rfl := Option.some.inj h
      exact zw_iret hX hr dX10_goesThrough_105 rfl ⟨rfl, rfl⟩
  · rw [if_pos c12] at h
    refine zw_iconst (v := (1 : Int32)) hX dX10_goesThrough_15 (by decide) ?_
    obtain rfl := Option.some.inj h
    exact zw_iret hX hr dX10_goesThrough_16 rfl ⟨rfl, rfl⟩
def zf_X10_step (N : Nat) (a0 : Nat) (i1 : Int32) (i2 : Int32) (i3 : Int32) (S : zm_S) : Option (Unit × zm_S) := (zg_r S a0 10 8).bind (fun b1 => (za_r S b1 i1).bind (fun b2 => (za_x S 0 b2 (4 : Int32)).bind (fun v3 => (zs_i S b2 (4 : Int32) (v3 + (1 : Int32))).bind (fun S4 => (zi S4 a0 10).bind (fun _ => (zf_X10_isInSpace N a0 i2 S4).bind (fun r7 => if r7.1 = 0 then (zi r7.2 a0 10).bind (fun _ => (zf_X10_outside N a0 r7.2).bind (fun r10 => (zi r10.2 a0 10).bind (fun _ => (zf_X10_putInto N a0 i1 r10.1 (-1 : Int32) (-1 : Int32) i3 r10.2).bind (fun r13 => some ((), r13.2))))) else (zg_r r7.2 a0 10 1).bind (fun b14 => (zg_r r7.2 b14 2 6).bind (fun b15 => (za_x r7.2 0 b15 i2).bind (fun v16 => (zi r7.2 a0 10).bind (fun _ => (zf_X10_putInto N a0 i1 v16 (i2 / (24 : Int32)) (i2 - i2 / (24 : Int32) * (24 : Int32)) i3 r7.2).bind (fun r19 => some ((), r19.2))))))))))))
set_option maxHeartbeats 4000000 in
set_option maxRecDepth 100000 in
theorem zt_X10_step {l : Launch} {V : zm_V} {N : Nat} {S : zm_S} {out : (Unit × zm_S)} {d : Nat} {a0 : Nat} {i1 : Int32} {i2 : Int32} {i3 : Int32} (hd : 3 ≤ d) (h : zf_X10_step N a0 i1 i2 i3 S = some out) : zm_Met l zk_E V yX10_step (.code yX10_step cX10_step 4 none) d [.ref a0, .int i1, .int i2, .int i3] S 0 0 (zo_v out) zo_x := by
  refine zm_of (by decide +kernel) (Nat.le_of_ble_eq_true rfl) ?_
  intro p e R s m args below meth c hRR hX hr hxt
  have hR : R.frames = d ∧ R.locals = 64 * d := by rw [hRR]; exact ⟨rfl, rfl⟩
  have hX : zm_X p R s m args meth c RX10 "step" cX10_step 4 zk_E V 0 0 := hX
  unfold zf_X10_step at h
  refine zw_sub (lv' := [(0, .ref a0), (1, .int i1), (2, .int i2), (3, .int i3)]) (List.forall_mem_cons.mpr ⟨rfl, (List.forall_mem_cons.mpr ⟨rfl, (List.forall_mem_cons.mpr ⟨rfl, (List.forall_mem_cons.mpr ⟨rfl, zs_nil⟩)⟩)⟩)⟩) ?_
  refine zw_aload_n hX dX10_step_0 rfl ?_
  obtain ⟨b1, g, h⟩ := zb_some h
  refine zw_getr hX zl_X10_29 dX10_step_1 g ?_
  refine zw_iload_n hX dX10_step_4 rfl ?_
  obtain ⟨b2, g, h⟩ := zb_some h
  refine zw_xr hX dX10_step_5 g ?_
  refine zw_iconst (v := (4 : Int32)) hX dX10_step_6 (by decide) ?_
  refine zw_dup2 hX dX10_step_7 rfl rfl ?_
  obtain ⟨v3, g, h⟩ := zb_some h
  refine zw_xi hX dX10_step_8 g ?_
  refine zw_iconst (v := (1 : Int32)) hX dX10_step_9 (by decide) ?_
  refine zw_iadd hX dX10_step_10 ?_
  obtain ⟨S4, g, h⟩ := zb_some h
  refine zw_si hX dX10_step_11 g ?_
  refine zw_aload_n hX dX10_step_12 rfl ?_
  refine zw_iload_n hX dX10_step_13 rfl ?_
  obtain ⟨_, gi, h⟩ := zb_some h
  obtain ⟨r7, g, h⟩ := zb_some h
  refine zc_Vi (as := [.int i2]) hX gi (zt_X10_isInSpace (d := d - 1) (by omega) g) zl_X10_70 rfl dX10_step_14 ⟨rfl, rfl, Nat.le_of_ble_eq_true rfl⟩ ⟨by omega, by omega⟩ ?_
  refine zw_if_eq (tgt := 46) hX dX10_step_17 (by decide) (fun c17 => ?_) (fun c17 => ?_)
  · rw [if_pos c17] at h
    refine zw_aload_n hX dX10_step_46 rfl ?_
    refine zw_iload_n hX dX10_step_47 rfl ?_
    refine zw_aload_n hX dX10_step_48 rfl ?_
    obtain ⟨_, gi, h⟩ := zb_some h
    obtain ⟨r10, g, h⟩ := zb_some h
    refine zc_Vi (as := []) hX gi (zt_X10_outside (d := d - 1) (by omega) g) zl_X10_102 rfl dX10_step_49 ⟨rfl, rfl, Nat.le_of_ble_eq_true rfl⟩ ⟨by omega, by omega⟩ ?_
    refine zw_iconst (v := (-1 : Int32)) hX dX10_step_52 (by decide) ?_
    refine zw_iconst (v := (-1 : Int32)) hX dX10_step_53 (by decide) ?_
    refine zw_iload_n hX dX10_step_54 rfl ?_
    obtain ⟨_, gi, h⟩ := zb_some h
    obtain ⟨r13, g, h⟩ := zb_some h
    refine zc_Vv (as := [.int i1, .int r10.1, .int (-1 : Int32), .int (-1 : Int32), .int i3]) hX gi (zt_X10_putInto (d := d - 1) (by omega) g) zl_X10_160 rfl dX10_step_55 ⟨rfl, rfl, Nat.le_of_ble_eq_true rfl⟩ ⟨by omega, by omega⟩ ?_
    obtain rfl := Option.some.inj h
    exact zw_vret hX hr dX10_step_58 ⟨rfl, rfl⟩
  · rw [if_neg c17] at h
    refine zw_aload_n hX dX10_step_20 rfl ?_
    refine zw_iload_n hX dX10_step_21 rfl ?_
    refine zw_aload_n hX dX10_step_22 rfl ?_
    obtain ⟨b14, g, h⟩ := zb_some h
    refine zw_getr hX zl_X10_44 dX10_step_23 g ?_
    obtain ⟨b15, g, h⟩ := zb_some h
    refine zw_getNr hX zl_X10_55 dX10_step_26 g ?_
    refine zw_iload_n hX dX10_step_29 rfl ?_
    obtain ⟨v16, g, h⟩ := zb_some h
    refine zw_xi hX dX10_step_30 g ?_
    refine zw_iload_n hX dX10_step_31 rfl ?_
    refine zw_bipush (v := (24 : Int32)) hX dX10_step_32 (by decide) ?_
    refine zw_idiv hX dX10_step_34 (by decide) ?_
    refine zw_iload_n hX dX10_step_35 rfl ?_
    refine zw_bipush (v := (24 : Int32)) hX dX10_step_36 (by decide) ?_
    refine zw_irem hX dX10_step_38 (by decide) ?_
    refine zw_iload_n hX dX10_step_39 rfl ?_
    obtain ⟨_, gi, h⟩ := zb_some h
    obtain ⟨r19, g, h⟩ := zb_some h
    refine zc_Vv (as := [.int i1, .int v16, .int (i2 / (24 : Int32)), .int (i2 - i2 / (24 : Int32) * (24 : Int32)), .int i3]) hX gi (zt_X10_putInto (d := d - 1) (by omega) g) zl_X10_160 rfl dX10_step_40 ⟨rfl, rfl, Nat.le_of_ble_eq_true rfl⟩ ⟨by omega, by omega⟩ ?_
    refine zw_goto (tgt := 58) hX dX10_step_43 (by decide) ?_
    obtain rfl := Option.some.inj h
    exact zw_vret hX hr dX10_step_58 ⟨rfl, rfl⟩
def zf_X10_moveOne_L9 (N : Nat) : Nat → Nat → Int32 → Int32 → Int32 → Int32 → zm_S → Option ((Unit × zm_S) ⊕ ((Unit) × zm_S))
  | 0, _, _, _, _, _, _ => none
  | n + 1, a0, i1, i2, i3, i4, S => if (4 : Int32) ≤ i4 then some (.inr ((), S)) else (zi S a0 10).bind (fun _ => (zf_X10_isBetter N a0 i3 i4 S).bind (fun r6 => if r6.1 = 0 then zf_X10_moveOne_L9 N n a0 i1 i2 i3 (i4 + (1 : Int32)) r6.2 else (zi r6.2 a0 10).bind (fun _ => (zf_X10_goesThrough N a0 i3 i4 r6.2).bind (fun r9 => if r9.1 = 0 then zf_X10_moveOne_L9 N n a0 i1 i2 i3 (i4 + (1 : Int32)) r9.2 else (zg_r r9.2 a0 10 1).bind (fun b10 => (zi r9.2 b10 2).bind (fun _ => (zf_X2_cellBeside N b10 i3 i4 r9.2).bind (fun r13 => (zi r13.2 a0 10).bind (fun _ => (zf_X10_step N a0 i1 r13.1 i2 r13.2).bind (fun r16 => some (.inl ((), r16.2)))))))))))
set_option maxHeartbeats 4000000 in
set_option maxRecDepth 100000 in
theorem zt_X10_moveOne_L9 {p : Program} {l : Launch} {e : Env} {R : Room} {s : State} {m : MethodId} {args : Array Value} {below : List Frame} {meth : Method} {c : Code} {V : zm_V} {mc ms d rc rs : Nat} (hX : zm_X p R s m args meth c RX10 "moveOne" cX10_moveOne 5 zk_E V mc ms) (hr : meth.sig.returnType = none) (hR : R.frames = d ∧ R.locals = 64 * d) (hd : 4 ≤ d) {N : Nat} {res : (Unit × zm_S) ⊕ ((Unit) × zm_S)} {out : (Unit × zm_S)} (a0 : Nat) (i1 : Int32) (i2 : Int32) (i3 : Int32) (hf : ∀ o, res = .inl o → o = out) (hk : ∀ (S' : zm_S), res = .inr ((), S') → zw p l e R s m args below meth c (vx_MQ below (zm_Qc zk_E V (zo_v out)) (zm_XC zk_E V zo_x) args s mc ms (fun q => V.2.2.2.1 ≤ q)) 5 zk_E V mc ms 58 [] [] S' rc rs) : ∀ (n : Nat) (i4 : Int32) (S : zm_S), zf_X10_moveOne_L9 N n a0 i1 i2 i3 i4 S = some res → zw p l e R s m args below meth c (vx_MQ below (zm_Qc zk_E V (zo_v out)) (zm_XC zk_E V zo_x) args s mc ms (fun q => V.2.2.2.1 ≤ q)) 5 zk_E V mc ms 9 [(0, .ref a0), (1, .int i1), (2, .int i2), (3, .int i3), (4, .int i4)] [] S rc rs := by
  intro n
  induction n with
  | zero => intro i4 S h; cases h
  | succ n ih =>
    intro i4 S h
    rw [zf_X10_moveOne_L9] at h
    refine zw_iload hX dX10_moveOne_9 rfl ?_
    refine zw_iconst (v := (4 : Int32)) hX dX10_moveOne_11 (by decide) ?_
    refine zw_icmp_ge (tgt := 58) hX dX10_moveOne_12 (by decide) (fun c12 => ?_) (fun c12 => ?_)
    · rw [if_pos c12] at h
      refine zw_sub (lv' := []) zs_nil ?_
      exact hk  _ (Option.some.inj h).symm
    · rw [if_neg c12] at h
      refine zw_aload_n hX dX10_moveOne_15 rfl ?_
      refine zw_iload_n hX dX10_moveOne_16 rfl ?_
      refine zw_iload hX dX10_moveOne_17 rfl ?_
      obtain ⟨_, gi, h⟩ := zb_some h
      obtain ⟨r6, g, h⟩ := zb_some h
      refine zc_Vi (as := [.int i3, .int i4]) hX gi (zt_X10_isBetter (d := d - 1) (by omega) g) zl_X10_140 rfl dX10_moveOne_19 ⟨rfl, rfl, Nat.le_of_ble_eq_true rfl⟩ ⟨by omega, by omega⟩ ?_
      refine zw_if_eq (tgt := 52) hX dX10_moveOne_22 (by decide) (fun c22 => ?_) (fun c22 => ?_)
      · rw [if_pos c22] at h
        refine zw_iinc (v := (i4 + (1 : Int32))) hX dX10_moveOne_52 rfl rfl (by decide) ?_
        refine zw_goto (tgt := 9) hX dX10_moveOne_55 (by decide) ?_
        refine zw_sub (lv' := [(0, .ref a0), (1, .int i1), (2, .int i2), (3, .int i3), (4, .int (i4 + (1 : Int32)))]) (List.forall_mem_cons.mpr ⟨rfl, (List.forall_mem_cons.mpr ⟨rfl, (List.forall_mem_cons.mpr ⟨rfl, (List.forall_mem_cons.mpr ⟨rfl, (List.forall_mem_cons.mpr ⟨rfl, zs_nil⟩)⟩)⟩)⟩)⟩) ?_
        exact ih _ _ h
      · rw [if_neg c22] at h
        refine zw_aload_n hX dX10_moveOne_25 rfl ?_
        refine zw_iload_n hX dX10_moveOne_26 rfl ?_
        refine zw_iload hX dX10_moveOne_27 rfl ?_
        obtain ⟨_, gi, h⟩ := zb_some h
        obtain ⟨r9, g, h⟩ := zb_some h
        refine zc_Vi (as := [.int i3, .int i4]) hX gi (zt_X10_goesThrough (d := d - 1) (by omega) g) zl_X10_143 rfl dX10_moveOne_29 ⟨rfl, rfl, Nat.le_of_ble_eq_true rfl⟩ ⟨by omega, by omega⟩ ?_
        refine zw_if_eq (tgt := 52) hX dX10_moveOne_32 (by decide) (fun c32 => ?_) (fun c32 => ?_)
        · rw [if_pos c32] at h
          refine zw_iinc (v := (i4 + (1 : Int32))) hX dX10_moveOne_52 rfl rfl (by decide) ?_
          refine zw_goto (tgt := 9) hX dX10_moveOne_55 (by decide) ?_
          refine zw_sub (lv' := [(0, .ref a0), (1, .int i1), (2, .int i2), (3, .int i3), (4, .int (i4 + (1 : Int32)))]) (List.forall_mem_cons.mpr ⟨rfl, (List.forall_mem_cons.mpr ⟨rfl, (List.forall_mem_cons.mpr ⟨rfl, (List.forall_mem_cons.mpr ⟨rfl, (List.forall_mem_cons.mpr ⟨rfl, zs_nil⟩)⟩)⟩)⟩)⟩) ?_
          exact ih _ _ h
        · rw [if_neg c32] at h
          refine zw_aload_n hX dX10_moveOne_35 rfl ?_
          refine zw_iload_n hX dX10_moveOne_36 rfl ?_
          refine zw_aload_n hX dX10_moveOne_37 rfl ?_
          obtain ⟨b10, g, h⟩ := zb_some h
          refine zw_getr hX zl_X10_44 dX10_moveOne_38 g ?_
          refine zw_iload_n hX dX10_moveOne_41 rfl ?_
          refine zw_iload hX dX10_moveOne_42 rfl ?_
          obtain ⟨_, gi, h⟩ := zb_some h
          obtain ⟨r13, g, h⟩ := zb_some h
          refine zc_Vi (as := [.int i3, .int i4]) hX gi (zt_X2_cellBeside (d := d - 1) (by omega) g) zl_X10_77 rfl dX10_moveOne_44 ⟨rfl, rfl, Nat.le_of_ble_eq_true rfl⟩ ⟨by omega, by omega⟩ ?_
          refine zw_iload_n hX dX10_moveOne_47 rfl ?_
          obtain ⟨_, gi, h⟩ := zb_some h
          obtain ⟨r16, g, h⟩ := zb_some h
          refine zc_Vv (as := [.int i1, .int r13.1, .int i2]) hX gi (zt_X10_step (d := d - 1) (by omega) g) zl_X10_146 rfl dX10_moveOne_48 ⟨rfl, rfl, Nat.le_of_ble_eq_true rfl⟩ ⟨by omega, by omega⟩ ?_
          have hz := hf _ (Option.some.inj h).symm
          subst hz
          exact zw_vret hX hr dX10_moveOne_51 ⟨rfl, rfl⟩
def zf_X10_moveOne (N : Nat) (a0 : Nat) (i1 : Int32) (i2 : Int32) (S : zm_S) : Option (Unit × zm_S) := (zi S a0 10).bind (fun _ => (zf_X10_cellOf N a0 i1 S).bind (fun r3 => (zf_X10_moveOne_L9 N N a0 i1 i2 r3.1 (0 : Int32) r3.2).bind (fun r => match r with | .inl o => some o | .inr (_, S17) => some ((), S17))))
set_option maxHeartbeats 4000000 in
set_option maxRecDepth 100000 in
theorem zt_X10_moveOne {l : Launch} {V : zm_V} {N : Nat} {S : zm_S} {out : (Unit × zm_S)} {d : Nat} {a0 : Nat} {i1 : Int32} {i2 : Int32} (hd : 4 ≤ d) (h : zf_X10_moveOne N a0 i1 i2 S = some out) : zm_Met l zk_E V yX10_moveOne (.code yX10_moveOne cX10_moveOne 5 none) d [.ref a0, .int i1, .int i2] S 0 0 (zo_v out) zo_x := by
  refine zm_of (by decide +kernel) (Nat.le_of_ble_eq_true rfl) ?_
  intro p e R s m args below meth c hRR hX hr hxt
  have hR : R.frames = d ∧ R.locals = 64 * d := by rw [hRR]; exact ⟨rfl, rfl⟩
  have hX : zm_X p R s m args meth c RX10 "moveOne" cX10_moveOne 5 zk_E V 0 0 := hX
  unfold zf_X10_moveOne at h
  refine zw_sub (lv' := [(0, .ref a0), (1, .int i1), (2, .int i2)]) (List.forall_mem_cons.mpr ⟨rfl, (List.forall_mem_cons.mpr ⟨rfl, (List.forall_mem_cons.mpr ⟨rfl, zs_nil⟩)⟩)⟩) ?_
  refine zw_aload_n hX dX10_moveOne_0 rfl ?_
  refine zw_iload_n hX dX10_moveOne_1 rfl ?_
  obtain ⟨_, gi, h⟩ := zb_some h
  obtain ⟨r3, g, h⟩ := zb_some h
  refine zc_Vi (as := [.int i1]) hX gi (zt_X10_cellOf (d := d - 1) (by omega) g) zl_X10_96 rfl dX10_moveOne_2 ⟨rfl, rfl, Nat.le_of_ble_eq_true rfl⟩ ⟨by omega, by omega⟩ ?_
  refine zw_istore_n hX dX10_moveOne_5 (by decide) ?_
  refine zw_iconst (v := (0 : Int32)) hX dX10_moveOne_6 (by decide) ?_
  refine zw_istore hX dX10_moveOne_7 (by decide) ?_
  obtain ⟨r, g, h⟩ := zb_some h
  refine zw_sub (lv' := [(0, .ref a0), (1, .int i1), (2, .int i2), (3, .int r3.1), (4, .int (0 : Int32))]) (List.forall_mem_cons.mpr ⟨rfl, (List.forall_mem_cons.mpr ⟨rfl, (List.forall_mem_cons.mpr ⟨rfl, (List.forall_mem_cons.mpr ⟨rfl, (List.forall_mem_cons.mpr ⟨rfl, zs_nil⟩)⟩)⟩)⟩)⟩) ?_
  refine zt_X10_moveOne_L9 hX hr hR hd (res := r) (out := out) a0 i1 i2 r3.1 ?_ ?_ N _ _ g
  · intro o ho
    subst ho
    exact Option.some.inj h
  · intro  S17 hx
    subst hx
    try dsimp only at h
    obtain rfl := Option.some.inj h
    exact zw_vret hX hr dX10_moveOne_58 ⟨rfl, rfl⟩
def zf_X10_movePersons_L2 (N : Nat) : Nat → Nat → Int32 → Int32 → zm_S → Option ((Unit × zm_S) ⊕ ((Unit) × zm_S))
  | 0, _, _, _, _ => none
  | n + 1, a0, i1, i2, S => (zg_r S a0 10 0).bind (fun b1 => (zg_i S b1 8 0).bind (fun v2 => if v2 ≤ i2 then some (.inr ((), S)) else (zg_r S a0 10 10).bind (fun b3 => (za_r S b3 i2).bind (fun b4 => (zf_J7_fill_53178 N b4 (0 : Int32) S).bind (fun r7 => zf_X10_movePersons_L2 N n a0 i1 (i2 + (1 : Int32)) r7.2)))))
set_option maxHeartbeats 4000000 in
set_option maxRecDepth 100000 in
theorem zt_X10_movePersons_L2 {p : Program} {l : Launch} {e : Env} {R : Room} {s : State} {m : MethodId} {args : Array Value} {below : List Frame} {meth : Method} {c : Code} {V : zm_V} {mc ms d rc rs : Nat} (hX : zm_X p R s m args meth c RX10 "movePersons" cX10_movePersons 4 zk_E V mc ms) (hr : meth.sig.returnType = none) (hR : R.frames = d ∧ R.locals = 64 * d) (hd : 5 ≤ d) {N : Nat} {res : (Unit × zm_S) ⊕ ((Unit) × zm_S)} {out : (Unit × zm_S)} (a0 : Nat) (i1 : Int32) (hf : ∀ o, res = .inl o → o = out) (hk : ∀ (S' : zm_S), res = .inr ((), S') → zw p l e R s m args below meth c (vx_MQ below (zm_Qc zk_E V (zo_v out)) (zm_XC zk_E V zo_x) args s mc ms (fun q => V.2.2.2.1 ≤ q)) 4 zk_E V mc ms 29 [(0, .ref a0), (1, .int i1)] [] S' rc rs) : ∀ (n : Nat) (i2 : Int32) (S : zm_S), zf_X10_movePersons_L2 N n a0 i1 i2 S = some res → zw p l e R s m args below meth c (vx_MQ below (zm_Qc zk_E V (zo_v out)) (zm_XC zk_E V zo_x) args s mc ms (fun q => V.2.2.2.1 ≤ q)) 4 zk_E V mc ms 2 [(0, .ref a0), (1, .int i1), (2, .int i2)] [] S rc rs := by
  intro n
  induction n with
  | zero => intro i2 S h; cases h
  | succ n ih =>
    intro i2 S h
    rw [zf_X10_movePersons_L2] at h
    refine zw_iload_n hX dX10_movePersons_2 rfl ?_
    refine zw_aload_n hX dX10_movePersons_3 rfl ?_
    obtain ⟨b1, g, h⟩ := zb_some h
    refine zw_getr hX zl_X10_40 dX10_movePersons_4 g ?_
    obtain ⟨v2, g, h⟩ := zb_some h
    refine zw_getNi hX zl_X10_118 dX10_movePersons_7 g ?_
    refine zw_icmp_ge (tgt := 29) hX dX10_movePersons_10 (by decide) (fun c10 => ?_) (fun c10 => ?_)
    · rw [if_pos c10] at h
      refine zw_sub (lv' := [(0, .ref a0), (1, .int i1)]) (List.forall_mem_cons.mpr ⟨rfl, (List.forall_mem_cons.mpr ⟨rfl, zs_nil⟩)⟩) ?_
      exact hk  _ (Option.some.inj h).symm
    · rw [if_neg c10] at h
      refine zw_aload_n hX dX10_movePersons_13 rfl ?_
      obtain ⟨b3, g, h⟩ := zb_some h
      refine zw_getr hX zl_X10_37 dX10_movePersons_14 g ?_
      refine zw_iload_n hX dX10_movePersons_17 rfl ?_
      obtain ⟨b4, g, h⟩ := zb_some h
      refine zw_xr hX dX10_movePersons_18 g ?_
      refine zw_iconst (v := (0 : Int32)) hX dX10_movePersons_19 (by decide) ?_
      obtain ⟨r7, g, h⟩ := zb_some h
      refine zc_Sv (as := [.ref b4, .int (0 : Int32)]) hX (zt_J7_fill_53178 (d := d - 1) (by omega) g) zl_X10_121 dX10_movePersons_20 ⟨rfl, rfl, Nat.le_of_ble_eq_true rfl⟩ ⟨by omega, by omega⟩ ?_
      refine zw_iinc (v := (i2 + (1 : Int32))) hX dX10_movePersons_23 rfl rfl (by decide) ?_
      refine zw_goto (tgt := 2) hX dX10_movePersons_26 (by decide) ?_
      refine zw_sub (lv' := [(0, .ref a0), (1, .int i1), (2, .int (i2 + (1 : Int32)))]) (List.forall_mem_cons.mpr ⟨rfl, (List.forall_mem_cons.mpr ⟨rfl, (List.forall_mem_cons.mpr ⟨rfl, zs_nil⟩)⟩)⟩) ?_
      exact ih _ _ h
def zf_X10_movePersons_L37 (N : Nat) : Nat → Nat → Int32 → Int32 → Int32 → zm_S → Option ((Unit × zm_S) ⊕ ((Unit) × zm_S))
  | 0, _, _, _, _, _ => none
  | n + 1, a0, i1, i2, i3, S => if i2 ≤ i3 then some (.inr ((), S)) else (zg_r S a0 10 9).bind (fun b12 => (za_x S 0 b12 i3).bind (fun v13 => (zi S a0 10).bind (fun _ => (zf_X10_moveOne N a0 v13 i1 S).bind (fun r16 => zf_X10_movePersons_L37 N n a0 i1 i2 (i3 + (1 : Int32)) r16.2))))
set_option maxHeartbeats 4000000 in
set_option maxRecDepth 100000 in
theorem zt_X10_movePersons_L37 {p : Program} {l : Launch} {e : Env} {R : Room} {s : State} {m : MethodId} {args : Array Value} {below : List Frame} {meth : Method} {c : Code} {V : zm_V} {mc ms d rc rs : Nat} (hX : zm_X p R s m args meth c RX10 "movePersons" cX10_movePersons 4 zk_E V mc ms) (hr : meth.sig.returnType = none) (hR : R.frames = d ∧ R.locals = 64 * d) (hd : 5 ≤ d) {N : Nat} {res : (Unit × zm_S) ⊕ ((Unit) × zm_S)} {out : (Unit × zm_S)} (a0 : Nat) (i1 : Int32) (i2 : Int32) (hf : ∀ o, res = .inl o → o = out) (hk : ∀ (S' : zm_S), res = .inr ((), S') → zw p l e R s m args below meth c (vx_MQ below (zm_Qc zk_E V (zo_v out)) (zm_XC zk_E V zo_x) args s mc ms (fun q => V.2.2.2.1 ≤ q)) 4 zk_E V mc ms 59 [] [] S' rc rs) : ∀ (n : Nat) (i3 : Int32) (S : zm_S), zf_X10_movePersons_L37 N n a0 i1 i2 i3 S = some res → zw p l e R s m args below meth c (vx_MQ below (zm_Qc zk_E V (zo_v out)) (zm_XC zk_E V zo_x) args s mc ms (fun q => V.2.2.2.1 ≤ q)) 4 zk_E V mc ms 37 [(0, .ref a0), (1, .int i1), (2, .int i2), (3, .int i3)] [] S rc rs := by
  intro n
  induction n with
  | zero => intro i3 S h; cases h
  | succ n ih =>
    intro i3 S h
    rw [zf_X10_movePersons_L37] at h
    refine zw_iload_n hX dX10_movePersons_37 rfl ?_
    refine zw_iload_n hX dX10_movePersons_38 rfl ?_
    refine zw_icmp_ge (tgt := 59) hX dX10_movePersons_39 (by decide) (fun c39 => ?_) (fun c39 => ?_)
    · rw [if_pos c39] at h
      refine zw_sub (lv' := []) zs_nil ?_
      exact hk  _ (Option.some.inj h).symm
    · rw [if_neg c39] at h
      refine zw_aload_n hX dX10_movePersons_42 rfl ?_
      refine zw_aload_n hX dX10_movePersons_43 rfl ?_
      obtain ⟨b12, g, h⟩ := zb_some h
      refine zw_getr hX zl_X10_32 dX10_movePersons_44 g ?_
      refine zw_iload_n hX dX10_movePersons_47 rfl ?_
      obtain ⟨v13, g, h⟩ := zb_some h
      refine zw_xi hX dX10_movePersons_48 g ?_
      refine zw_iload_n hX dX10_movePersons_49 rfl ?_
      obtain ⟨_, gi, h⟩ := zb_some h
      obtain ⟨r16, g, h⟩ := zb_some h
      refine zc_Vv (as := [.int v13, .int i1]) hX gi (zt_X10_moveOne (d := d - 1) (by omega) g) zl_X10_130 rfl dX10_movePersons_50 ⟨rfl, rfl, Nat.le_of_ble_eq_true rfl⟩ ⟨by omega, by omega⟩ ?_
      refine zw_iinc (v := (i3 + (1 : Int32))) hX dX10_movePersons_53 rfl rfl (by decide) ?_
      refine zw_goto (tgt := 37) hX dX10_movePersons_56 (by decide) ?_
      refine zw_sub (lv' := [(0, .ref a0), (1, .int i1), (2, .int i2), (3, .int (i3 + (1 : Int32)))]) (List.forall_mem_cons.mpr ⟨rfl, (List.forall_mem_cons.mpr ⟨rfl, (List.forall_mem_cons.mpr ⟨rfl, (List.forall_mem_cons.mpr ⟨rfl, zs_nil⟩)⟩)⟩)⟩) ?_
      exact ih _ _ h
def zf_X10_movePersons (N : Nat) (a0 : Nat) (i1 : Int32) (S : zm_S) : Option (Unit × zm_S) := (zf_X10_movePersons_L2 N N a0 i1 (0 : Int32) S).bind (fun r => match r with | .inl o => some o | .inr (_, S8) => (zi S8 a0 10).bind (fun _ => (zf_X10_lineUp N a0 i1 S8).bind (fun r11 => (zf_X10_movePersons_L37 N N a0 i1 r11.1 (0 : Int32) r11.2).bind (fun r => match r with | .inl o => some o | .inr (_, S17) => some ((), S17)))))
set_option maxHeartbeats 4000000 in
set_option maxRecDepth 100000 in
theorem zt_X10_movePersons {l : Launch} {V : zm_V} {N : Nat} {S : zm_S} {out : (Unit × zm_S)} {d : Nat} {a0 : Nat} {i1 : Int32} (hd : 5 ≤ d) (h : zf_X10_movePersons N a0 i1 S = some out) : zm_Met l zk_E V yX10_movePersons (.code yX10_movePersons cX10_movePersons 4 none) d [.ref a0, .int i1] S 0 0 (zo_v out) zo_x := by
  refine zm_of (by decide +kernel) (Nat.le_of_ble_eq_true rfl) ?_
  intro p e R s m args below meth c hRR hX hr hxt
  have hR : R.frames = d ∧ R.locals = 64 * d := by rw [hRR]; exact ⟨rfl, rfl⟩
  have hX : zm_X p R s m args meth c RX10 "movePersons" cX10_movePersons 4 zk_E V 0 0 := hX
  unfold zf_X10_movePersons at h
  refine zw_sub (lv' := [(0, .ref a0), (1, .int i1)]) (List.forall_mem_cons.mpr ⟨rfl, (List.forall_mem_cons.mpr ⟨rfl, zs_nil⟩)⟩) ?_
  refine zw_iconst (v := (0 : Int32)) hX dX10_movePersons_0 (by decide) ?_
  refine zw_istore_n hX dX10_movePersons_1 (by decide) ?_
  obtain ⟨r, g, h⟩ := zb_some h
  refine zw_sub (lv' := [(0, .ref a0), (1, .int i1), (2, .int (0 : Int32))]) (List.forall_mem_cons.mpr ⟨rfl, (List.forall_mem_cons.mpr ⟨rfl, (List.forall_mem_cons.mpr ⟨rfl, zs_nil⟩)⟩)⟩) ?_
  refine zt_X10_movePersons_L2 hX hr hR hd (res := r) (out := out) a0 i1 ?_ ?_ N _ _ g
  · intro o ho
    subst ho
    exact Option.some.inj h
  · intro  S8 hx
    subst hx
    try dsimp only at h
    refine zw_aload_n hX dX10_movePersons_29 rfl ?_
    refine zw_iload_n hX dX10_movePersons_30 rfl ?_
    obtain ⟨_, gi, h⟩ := zb_some h
    obtain ⟨r11, g, h⟩ := zb_some h
    refine zc_Vi (as := [.int i1]) hX gi (zt_X10_lineUp (d := d - 1) (by omega) g) zl_X10_127 rfl dX10_movePersons_31 ⟨rfl, rfl, Nat.le_of_ble_eq_true rfl⟩ ⟨by omega, by omega⟩ ?_
    refine zw_istore_n hX dX10_movePersons_34 (by decide) ?_
    refine zw_iconst (v := (0 : Int32)) hX dX10_movePersons_35 (by decide) ?_
    refine zw_istore_n hX dX10_movePersons_36 (by decide) ?_
    obtain ⟨r, g, h⟩ := zb_some h
    refine zw_sub (lv' := [(0, .ref a0), (1, .int i1), (2, .int r11.1), (3, .int (0 : Int32))]) (List.forall_mem_cons.mpr ⟨rfl, (List.forall_mem_cons.mpr ⟨rfl, (List.forall_mem_cons.mpr ⟨rfl, (List.forall_mem_cons.mpr ⟨rfl, zs_nil⟩)⟩)⟩)⟩) ?_
    refine zt_X10_movePersons_L37 hX hr hR hd (res := r) (out := out) a0 i1 r11.1 ?_ ?_ N _ _ g
    · intro o ho
      subst ho
      exact Option.some.inj h
    · intro  S17 hx
      subst hx
      try dsimp only at h
      obtain rfl := Option.some.inj h
      exact zw_vret hX hr dX10_movePersons_59 ⟨rfl, rfl⟩
def zf_X12_check_L17 (N : Nat) : Nat → Nat → Int32 → Int32 → Int32 → Int32 → zm_S → Option ((Unit × zm_S) ⊕ ((Int32) × zm_S))
  | 0, _, _, _, _, _, _ => none
  | n + 1, a0, i1, i2, i3, i4, S => if (i2 - (1 : Int32)) ≤ i4 then some (.inr (i3, S)) else (zg_r S a0 12 8).bind (fun b3 => (za_x S 0 b3 (i1 + i4)).bind (fun v4 => zf_X12_check_L17 N n a0 i1 i2 (i3 ^^^ v4) (i4 + (1 : Int32)) S))
set_option maxHeartbeats 4000000 in
set_option maxRecDepth 100000 in
theorem zt_X12_check_L17 {p : Program} {l : Launch} {e : Env} {R : Room} {s : State} {m : MethodId} {args : Array Value} {below : List Frame} {meth : Method} {c : Code} {V : zm_V} {mc ms d rc rs : Nat} (hX : zm_X p R s m args meth c RX12 "check" cX12_check 5 zk_E V mc ms) (hr : meth.sig.returnType = none) (hR : R.frames = d ∧ R.locals = 64 * d) (hd : 1 ≤ d) {N : Nat} {res : (Unit × zm_S) ⊕ ((Int32) × zm_S)} {out : (Unit × zm_S)} (a0 : Nat) (i1 : Int32) (i2 : Int32) (hf : ∀ o, res = .inl o → o = out) (hk : ∀ (x3 : Int32) (S' : zm_S), res = .inr (x3, S') → zw p l e R s m args below meth c (vx_MQ below (zm_Qc zk_E V (zo_v out)) (zm_XC zk_E V zo_x) args s mc ms (fun q => V.2.2.2.1 ≤ q)) 5 zk_E V mc ms 43 [(0, .ref a0), (1, .int i1), (2, .int i2), (3, .int x3)] [] S' rc rs) : ∀ (n : Nat) (i3 : Int32) (i4 : Int32) (S : zm_S), zf_X12_check_L17 N n a0 i1 i2 i3 i4 S = some res → zw p l e R s m args below meth c (vx_MQ below (zm_Qc zk_E V (zo_v out)) (zm_XC zk_E V zo_x) args s mc ms (fun q => V.2.2.2.1 ≤ q)) 5 zk_E V mc ms 17 [(0, .ref a0), (1, .int i1), (2, .int i2), (3, .int i3), (4, .int i4)] [] S rc rs := by
  intro n
  induction n with
  | zero => intro i3 i4 S h; cases h
  | succ n ih =>
    intro i3 i4 S h
    rw [zf_X12_check_L17] at h
    refine zw_iload hX dX12_check_17 rfl ?_
    refine zw_iload_n hX dX12_check_19 rfl ?_
    refine zw_iconst (v := (1 : Int32)) hX dX12_check_20 (by decide) ?_
    refine zw_isub hX dX12_check_21 ?_
    refine zw_icmp_ge (tgt := 43) hX dX12_check_22 (by decide) (fun c22 => ?_) (fun c22 => ?_)
    · rw [if_pos c22] at h
      refine zw_sub (lv' := [(0, .ref a0), (1, .int i1), (2, .int i2), (3, .int i3)]) (List.forall_mem_cons.mpr ⟨rfl, (List.forall_mem_cons.mpr ⟨rfl, (List.forall_mem_cons.mpr ⟨rfl, (List.forall_mem_cons.mpr ⟨rfl, zs_nil⟩)⟩)⟩)⟩) ?_
      exact hk _ _ (Option.some.inj h).symm
    · rw [if_neg c22] at h
      refine zw_iload_n hX dX12_check_25 rfl ?_
      refine zw_aload_n hX dX12_check_26 rfl ?_
      obtain ⟨b3, g, h⟩ := zb_some h
      refine zw_getr hX zl_X12_31 dX12_check_27 g ?_
      refine zw_iload_n hX dX12_check_30 rfl ?_
      refine zw_iload hX dX12_check_31 rfl ?_
      refine zw_iadd hX dX12_check_33 ?_
      obtain ⟨v4, g, h⟩ := zb_some h
      refine zw_xi hX dX12_check_34 g ?_
      refine zw_ixor hX dX12_check_35 ?_
      refine zw_istore_n hX dX12_check_36 (by decide) ?_
      refine zw_iinc (v := (i4 + (1 : Int32))) hX dX12_check_37 rfl rfl (by decide) ?_
      refine zw_goto (tgt := 17) hX dX12_check_40 (by decide) ?_
      refine zw_sub (lv' := [(0, .ref a0), (1, .int i1), (2, .int i2), (3, .int (i3 ^^^ v4)), (4, .int (i4 + (1 : Int32)))]) (List.forall_mem_cons.mpr ⟨rfl, (List.forall_mem_cons.mpr ⟨rfl, (List.forall_mem_cons.mpr ⟨rfl, (List.forall_mem_cons.mpr ⟨rfl, (List.forall_mem_cons.mpr ⟨rfl, zs_nil⟩)⟩)⟩)⟩)⟩) ?_
      exact ih _ _ _ h
def zf_X12_check (N : Nat) (a0 : Nat) (i1 : Int32) (S : zm_S) : Option (Unit × zm_S) := (zg_r S a0 12 8).bind (fun b1 => (za_x S 0 b1 (i1 + (21 : Int32))).bind (fun v2 => (zf_X12_check_L17 N N a0 i1 v2 (255 : Int32) (0 : Int32) S).bind (fun r => match r with | .inl o => some o | .inr (v6, S5) => (zg_r S5 a0 12 8).bind (fun b7 => (zs_i S5 b7 ((i1 + v2) - (1 : Int32)) v6).bind (fun S8 => some ((), S8))))))
set_option maxHeartbeats 4000000 in
set_option maxRecDepth 100000 in
theorem zt_X12_check {l : Launch} {V : zm_V} {N : Nat} {S : zm_S} {out : (Unit × zm_S)} {d : Nat} {a0 : Nat} {i1 : Int32} (hd : 1 ≤ d) (h : zf_X12_check N a0 i1 S = some out) : zm_Met l zk_E V yX12_check (.code yX12_check cX12_check 5 none) d [.ref a0, .int i1] S 0 0 (zo_v out) zo_x := by
  refine zm_of (by decide +kernel) (Nat.le_of_ble_eq_true rfl) ?_
  intro p e R s m args below meth c hRR hX hr hxt
  have hR : R.frames = d ∧ R.locals = 64 * d := by rw [hRR]; exact ⟨rfl, rfl⟩
  have hX : zm_X p R s m args meth c RX12 "check" cX12_check 5 zk_E V 0 0 := hX
  unfold zf_X12_check at h
  refine zw_sub (lv' := [(0, .ref a0), (1, .int i1)]) (List.forall_mem_cons.mpr ⟨rfl, (List.forall_mem_cons.mpr ⟨rfl, zs_nil⟩)⟩) ?_
  refine zw_aload_n hX dX12_check_0 rfl ?_
  obtain ⟨b1, g, h⟩ := zb_some h
  refine zw_getr hX zl_X12_31 dX12_check_1 g ?_
  refine zw_iload_n hX dX12_check_4 rfl ?_
  refine zw_bipush (v := (21 : Int32)) hX dX12_check_5 (by decide) ?_
  refine zw_iadd hX dX12_check_7 ?_
  obtain ⟨v2, g, h⟩ := zb_some h
  refine zw_xi hX dX12_check_8 g ?_
  refine zw_istore_n hX dX12_check_9 (by decide) ?_
  refine zw_sipush (v := (255 : Int32)) hX dX12_check_10 (by decide) ?_
  refine zw_istore_n hX dX12_check_13 (by decide) ?_
  refine zw_iconst (v := (0 : Int32)) hX dX12_check_14 (by decide) ?_
  refine zw_istore hX dX12_check_15 (by decide) ?_
  obtain ⟨r, g, h⟩ := zb_some h
  refine zw_sub (lv' := [(0, .ref a0), (1, .int i1), (2, .int v2), (3, .int (255 : Int32)), (4, .int (0 : Int32))]) (List.forall_mem_cons.mpr ⟨rfl, (List.forall_mem_cons.mpr ⟨rfl, (List.forall_mem_cons.mpr ⟨rfl, (List.forall_mem_cons.mpr ⟨rfl, (List.forall_mem_cons.mpr ⟨rfl, zs_nil⟩)⟩)⟩)⟩)⟩) ?_
  refine zt_X12_check_L17 hX hr hR hd (res := r) (out := out) a0 i1 v2 ?_ ?_ N _ _ _ g
  · intro o ho
    subst ho
    exact Option.some.inj h
  · intro v6 S5 hx
    subst hx
    try dsimp only at h
    refine zw_aload_n hX dX12_check_43 rfl ?_
    obtain ⟨b7, g, h⟩ := zb_some h
    refine zw_getr hX zl_X12_31 dX12_check_44 g ?_
    refine zw_iload_n hX dX12_check_47 rfl ?_
    refine zw_iload_n hX dX12_check_48 rfl ?_
    refine zw_iadd hX dX12_check_49 ?_
    refine zw_iconst (v := (1 : Int32)) hX dX12_check_50 (by decide) ?_
    refine zw_isub hX dX12_check_51 ?_
    refine zw_iload_n hX dX12_check_52 rfl ?_
    obtain ⟨S8, g, h⟩ := zb_some h
    refine zw_si hX dX12_check_53 g ?_
    obtain rfl := Option.some.inj h
    exact zw_vret hX hr dX12_check_54 ⟨rfl, rfl⟩
def zf_X12_send_L125 (N : Nat) : Nat → Nat → Int32 → Int32 → Int32 → Int32 → Int32 → Int32 → zm_S → Option ((Int32 × zm_S) ⊕ ((Unit) × zm_S))
  | 0, _, _, _, _, _, _, _, _ => none
  | n + 1, a0, i1, i2, i5, i6, i7, i8, S => if i5 ≤ i8 then some (.inr ((), S)) else (zg_r S a0 12 8).bind (fun b19 => (zs_i S b19 ((i7 + (6 : Int32)) + i8) ((i6 + i8) - (i6 + i8) / (256 : Int32) * (256 : Int32))).bind (fun S20 => zf_X12_send_L125 N n a0 i1 i2 i5 i6 i7 (i8 + (1 : Int32)) S20))
set_option maxHeartbeats 4000000 in
set_option maxRecDepth 100000 in
theorem zt_X12_send_L125 {p : Program} {l : Launch} {e : Env} {R : Room} {s : State} {m : MethodId} {args : Array Value} {below : List Frame} {meth : Method} {c : Code} {V : zm_V} {mc ms d rc rs : Nat} (hX : zm_X p R s m args meth c RX12 "send" cX12_send 9 zk_E V mc ms) (hr : meth.sig.returnType = (some .int)) (hR : R.frames = d ∧ R.locals = 64 * d) (hd : 2 ≤ d) {N : Nat} {res : (Int32 × zm_S) ⊕ ((Unit) × zm_S)} {out : (Int32 × zm_S)} (a0 : Nat) (i1 : Int32) (i2 : Int32) (i5 : Int32) (i6 : Int32) (i7 : Int32) (hf : ∀ o, res = .inl o → o = out) (hk : ∀ (S' : zm_S), res = .inr ((), S') → zw p l e R s m args below meth c (vx_MQ below (zm_Qc zk_E V (zo_i out)) (zm_XC zk_E V zo_x) args s mc ms (fun q => V.2.2.2.1 ≤ q)) 9 zk_E V mc ms 160 [(0, .ref a0), (1, .int i1), (2, .int i2), (5, .int i5), (7, .int i7)] [] S' rc rs) : ∀ (n : Nat) (i8 : Int32) (S : zm_S), zf_X12_send_L125 N n a0 i1 i2 i5 i6 i7 i8 S = some res → zw p l e R s m args below meth c (vx_MQ below (zm_Qc zk_E V (zo_i out)) (zm_XC zk_E V zo_x) args s mc ms (fun q => V.2.2.2.1 ≤ q)) 9 zk_E V mc ms 125 [(0, .ref a0), (1, .int i1), (2, .int i2), (5, .int i5), (6, .int i6), (7, .int i7), (8, .int i8)] [] S rc rs := by
  intro n
  induction n with
  | zero => intro i8 S h; cases h
  | succ n ih =>
    intro i8 S h
    rw [zf_X12_send_L125] at h
    refine zw_iload hX dX12_send_125 rfl ?_
    refine zw_iload hX dX12_send_127 rfl ?_
    refine zw_icmp_ge (tgt := 160) hX dX12_send_129 (by decide) (fun c129 => ?_) (fun c129 => ?_)
    · rw [if_pos c129] at h
      refine zw_sub (lv' := [(0, .ref a0), (1, .int i1), (2, .int i2), (5, .int i5), (7, .int i7)]) (List.forall_mem_cons.mpr ⟨rfl, (List.forall_mem_cons.mpr ⟨rfl, (List.forall_mem_cons.mpr ⟨rfl, (List.forall_mem_cons.mpr ⟨rfl, (List.forall_mem_cons.mpr ⟨rfl, zs_nil⟩)⟩)⟩)⟩)⟩) ?_
      exact hk  _ (Option.some.inj h).symm
    · rw [if_neg c129] at h
      refine zw_aload_n hX dX12_send_132 rfl ?_
      obtain ⟨b19, g, h⟩ := zb_some h
      refine zw_getr hX zl_X12_31 dX12_send_133 g ?_
      refine zw_iload hX dX12_send_136 rfl ?_
      refine zw_bipush (v := (6 : Int32)) hX dX12_send_138 (by decide) ?_
      refine zw_iadd hX dX12_send_140 ?_
      refine zw_iload hX dX12_send_141 rfl ?_
      refine zw_iadd hX dX12_send_143 ?_
      refine zw_iload hX dX12_send_144 rfl ?_
      refine zw_iload hX dX12_send_146 rfl ?_
      refine zw_iadd hX dX12_send_148 ?_
      refine zw_sipush (v := (256 : Int32)) hX dX12_send_149 (by decide) ?_
      refine zw_irem hX dX12_send_152 (by decide) ?_
      obtain ⟨S20, g, h⟩ := zb_some h
      refine zw_si hX dX12_send_153 g ?_
      refine zw_iinc (v := (i8 + (1 : Int32))) hX dX12_send_154 rfl rfl (by decide) ?_
      refine zw_goto (tgt := 125) hX dX12_send_157 (by decide) ?_
      refine zw_sub (lv' := [(0, .ref a0), (1, .int i1), (2, .int i2), (5, .int i5), (6, .int i6), (7, .int i7), (8, .int (i8 + (1 : Int32)))]) (List.forall_mem_cons.mpr ⟨rfl, (List.forall_mem_cons.mpr ⟨rfl, (List.forall_mem_cons.mpr ⟨rfl, (List.forall_mem_cons.mpr ⟨rfl, (List.forall_mem_cons.mpr ⟨rfl, (List.forall_mem_cons.mpr ⟨rfl, (List.forall_mem_cons.mpr ⟨rfl, zs_nil⟩)⟩)⟩)⟩)⟩)⟩)⟩) ?_
      exact ih _ _ h
def zf_X12_send_J120 (N : Nat) (a0 : Nat) (i1 : Int32) (i2 : Int32) (i5 : Int32) (i6 : Int32) (i7 : Int32) (t0 : Nat) (t1 : Int32) (t2 : Int32) (t3 : Int32) (S : zm_S) : Option (Int32 × zm_S) := (zs_i S t0 t1 (t2 + t3)).bind (fun S18 => (zf_X12_send_L125 N N a0 i1 i2 i5 i6 i7 (0 : Int32) S18).bind (fun r => match r with | .inl o => some o | .inr (_, S21) => (zg_r S21 a0 12 8).bind (fun b22 => (zs_i S21 b22 (i7 + (21 : Int32)) (i5 + (7 : Int32))).bind (fun S23 => (zg_r S23 a0 12 8).bind (fun b24 => (zs_i S23 b24 (i7 + (22 : Int32)) i2).bind (fun S25 => (zg_r S25 a0 12 8).bind (fun b26 => (zs_i S25 b26 (i7 + (23 : Int32)) (0 : Int32)).bind (fun S27 => (zi S27 a0 12).bind (fun _ => (zf_X12_check N a0 i7 S27).bind (fun r30 => (zg_r r30.2 a0 12 7).bind (fun b31 => (za_x r30.2 0 b31 i1).bind (fun v32 => (zs_i r30.2 b31 i1 (v32 + (1 : Int32))).bind (fun S33 => (zg_r S33 a0 12 7).bind (fun b34 => (za_x S33 0 b34 i1).bind (fun v35 => some (v35, S33))))))))))))))))
set_option maxHeartbeats 4000000 in
set_option maxRecDepth 100000 in
theorem zt_X12_send_J120 {p : Program} {l : Launch} {e : Env} {R : Room} {s : State} {m : MethodId} {args : Array Value} {below : List Frame} {meth : Method} {c : Code} {V : zm_V} {mc ms d rc rs : Nat} (hX : zm_X p R s m args meth c RX12 "send" cX12_send 9 zk_E V mc ms) (hr : meth.sig.returnType = (some .int)) (hR : R.frames = d ∧ R.locals = 64 * d) (hd : 2 ≤ d) {N : Nat} {a0 : Nat} {i1 : Int32} {i2 : Int32} {i5 : Int32} {i6 : Int32} {i7 : Int32} {t0 : Nat} {t1 : Int32} {t2 : Int32} {t3 : Int32} {out : (Int32 × zm_S)} {S : zm_S} (h : zf_X12_send_J120 N a0 i1 i2 i5 i6 i7 t0 t1 t2 t3 S = some out) : zw p l e R s m args below meth c (vx_MQ below (zm_Qc zk_E V (zo_i out)) (zm_XC zk_E V zo_x) args s mc ms (fun q => V.2.2.2.1 ≤ q)) 9 zk_E V mc ms 120 [(0, .ref a0), (1, .int i1), (2, .int i2), (5, .int i5), (6, .int i6), (7, .int i7)] [.int t3, .int t2, .int t1, .ref t0] S rc rs := by
  unfold zf_X12_send_J120 at h
  refine zw_iadd hX dX12_send_120 ?_
  obtain ⟨S18, g, h⟩ := zb_some h
  refine zw_si hX dX12_send_121 g ?_
  refine zw_iconst (v := (0 : Int32)) hX dX12_send_122 (by decide) ?_
  refine zw_istore hX dX12_send_123 (by decide) ?_
  obtain ⟨r, g, h⟩ := zb_some h
  refine zw_sub (lv' := [(0, .ref a0), (1, .int i1), (2, .int i2), (5, .int i5), (6, .int i6), (7, .int i7), (8, .int (0 : Int32))]) (List.forall_mem_cons.mpr ⟨rfl, (List.forall_mem_cons.mpr ⟨rfl, (List.forall_mem_cons.mpr ⟨rfl, (List.forall_mem_cons.mpr ⟨rfl, (List.forall_mem_cons.mpr ⟨rfl, (List.forall_mem_cons.mpr ⟨rfl, (List.forall_mem_cons.mpr ⟨rfl, zs_nil⟩)⟩)⟩)⟩)⟩)⟩)⟩) ?_
  refine zt_X12_send_L125 hX hr hR hd (res := r) (out := out) a0 i1 i2 i5 i6 i7 ?_ ?_ N _ _ g
  · intro o ho
    subst ho
    exact Option.some.inj h
  · intro  S21 hx
    subst hx
    try dsimp only at h
    refine zw_aload_n hX dX12_send_160 rfl ?_
    obtain ⟨b22, g, h⟩ := zb_some h
    refine zw_getr hX zl_X12_31 dX12_send_161 g ?_
    refine zw_iload hX dX12_send_164 rfl ?_
    refine zw_bipush (v := (21 : Int32)) hX dX12_send_166 (by decide) ?_
    refine zw_iadd hX dX12_send_168 ?_
    refine zw_iload hX dX12_send_169 rfl ?_
    refine zw_bipush (v := (7 : Int32)) hX dX12_send_171 (by decide) ?_
    refine zw_iadd hX dX12_send_173 ?_
    obtain ⟨S23, g, h⟩ := zb_some h
    refine zw_si hX dX12_send_174 g ?_
    refine zw_aload_n hX dX12_send_175 rfl ?_
    obtain ⟨b24, g, h⟩ := zb_some h
    refine zw_getr hX zl_X12_31 dX12_send_176 g ?_
    refine zw_iload hX dX12_send_179 rfl ?_
    refine zw_bipush (v := (22 : Int32)) hX dX12_send_181 (by decide) ?_
    refine zw_iadd hX dX12_send_183 ?_
    refine zw_iload_n hX dX12_send_184 rfl ?_
    obtain ⟨S25, g, h⟩ := zb_some h
    refine zw_si hX dX12_send_185 g ?_
    refine zw_aload_n hX dX12_send_186 rfl ?_
    obtain ⟨b26, g, h⟩ := zb_some h
    refine zw_getr hX zl_X12_31 dX12_send_187 g ?_
    refine zw_iload hX dX12_send_190 rfl ?_
    refine zw_bipush (v := (23 : Int32)) hX dX12_send_192 (by decide) ?_
    refine zw_iadd hX dX12_send_194 ?_
    refine zw_iconst (v := (0 : Int32)) hX dX12_send_195 (by decide) ?_
    obtain ⟨S27, g, h⟩ := zb_some h
    refine zw_si hX dX12_send_196 g ?_
    refine zw_aload_n hX dX12_send_197 rfl ?_
    refine zw_iload hX dX12_send_198 rfl ?_
    obtain ⟨_, gi, h⟩ := zb_some h
    obtain ⟨r30, g, h⟩ := zb_some h
    refine zc_Vv (as := [.int i7]) hX gi (zt_X12_check (d := d - 1) (by omega) g) zl_X12_68 rfl dX12_send_200 ⟨rfl, rfl, Nat.le_of_ble_eq_true rfl⟩ ⟨by omega, by omega⟩ ?_
    refine zw_aload_n hX dX12_send_203 rfl ?_
    obtain ⟨b31, g, h⟩ := zb_some h
    refine zw_getr hX zl_X12_28 dX12_send_204 g ?_
    refine zw_iload_n hX dX12_send_207 rfl ?_
    refine zw_dup2 hX dX12_send_208 rfl rfl ?_
    obtain ⟨v32, g, h⟩ := zb_some h
    refine zw_xi hX dX12_send_209 g ?_
    refine zw_iconst (v := (1 : Int32)) hX dX12_send_210 (by decide) ?_
    refine zw_iadd hX dX12_send_211 ?_
    obtain ⟨S33, g, h⟩ := zb_some h
    refine zw_si hX dX12_send_212 g ?_
    refine zw_aload_n hX dX12_send_213 rfl ?_
    obtain ⟨b34, g, h⟩ := zb_some h
    refine zw_getr hX zl_X12_28 dX12_send_214 g ?_
    refine zw_iload_n hX dX12_send_217 rfl ?_
    obtain ⟨v35, g, h⟩ := zb_some h
    refine zw_xi hX dX12_send_218 g ?_
    obtain rfl := Option.some.inj h
    exact zw_iret hX hr dX12_send_219 rfl ⟨rfl, rfl⟩
def zf_X12_send (N : Nat) (a0 : Nat) (i1 : Int32) (i2 : Int32) (i3 : Int32) (i4 : Int32) (i5 : Int32) (i6 : Int32) (S : zm_S) : Option (Int32 × zm_S) := (zg_r S a0 12 7).bind (fun b1 => (za_x S 0 b1 i1).bind (fun v2 => (zg_r S a0 12 8).bind (fun b3 => (zs_i S b3 ((24 : Int32) * (((6 : Int32) * i1) + v2)) ((176 : Int32) + ((4 : Int32) * i2))).bind (fun S4 => (zg_r S4 a0 12 8).bind (fun b5 => (zg_r S4 a0 12 4).bind (fun b6 => (za_x S4 0 b6 i1).bind (fun v7 => (zs_i S4 b5 (((24 : Int32) * (((6 : Int32) * i1) + v2)) + (1 : Int32)) (v7 / (256 : Int32))).bind (fun S8 => (zg_r S8 a0 12 8).bind (fun b9 => (zg_r S8 a0 12 4).bind (fun b10 => (za_x S8 0 b10 i1).bind (fun v11 => (zs_i S8 b9 (((24 : Int32) * (((6 : Int32) * i1) + v2)) + (2 : Int32)) (v11 - v11 / (256 : Int32) * (256 : Int32))).bind (fun S12 => (zg_r S12 a0 12 8).bind (fun b13 => (zs_i S12 b13 (((24 : Int32) * (((6 : Int32) * i1) + v2)) + (3 : Int32)) (i3 / (256 : Int32))).bind (fun S14 => (zg_r S14 a0 12 8).bind (fun b15 => (zs_i S14 b15 (((24 : Int32) * (((6 : Int32) * i1) + v2)) + (4 : Int32)) (i3 - i3 / (256 : Int32) * (256 : Int32))).bind (fun S16 => (zg_r S16 a0 12 8).bind (fun b17 => if i4 = 0 then zf_X12_send_J120 N a0 i1 i2 i5 i6 ((24 : Int32) * (((6 : Int32) * i1) + v2)) b17 (((24 : Int32) * (((6 : Int32) * i1) + v2)) + (5 : Int32)) (i5 - (1 : Int32)) (0 : Int32) S16 else zf_X12_send_J120 N a0 i1 i2 i5 i6 ((24 : Int32) * (((6 : Int32) * i1) + v2)) b17 (((24 : Int32) * (((6 : Int32) * i1) + v2)) + (5 : Int32)) (i5 - (1 : Int32)) (128 : Int32) S16)))))))))))))))))
set_option maxHeartbeats 4000000 in
set_option maxRecDepth 100000 in
theorem zt_X12_send {l : Launch} {V : zm_V} {N : Nat} {S : zm_S} {out : (Int32 × zm_S)} {d : Nat} {a0 : Nat} {i1 : Int32} {i2 : Int32} {i3 : Int32} {i4 : Int32} {i5 : Int32} {i6 : Int32} (hd : 2 ≤ d) (h : zf_X12_send N a0 i1 i2 i3 i4 i5 i6 S = some out) : zm_Met l zk_E V yX12_send (.code yX12_send cX12_send 9 (some .int)) d [.ref a0, .int i1, .int i2, .int i3, .int i4, .int i5, .int i6] S 0 0 (zo_i out) zo_x := by
  refine zm_of (by decide +kernel) (Nat.le_of_ble_eq_true rfl) ?_
  intro p e R s m args below meth c hRR hX hr hxt
  have hR : R.frames = d ∧ R.locals = 64 * d := by rw [hRR]; exact ⟨rfl, rfl⟩
  have hX : zm_X p R s m args meth c RX12 "send" cX12_send 9 zk_E V 0 0 := hX
  unfold zf_X12_send at h
  refine zw_sub (lv' := [(0, .ref a0), (1, .int i1), (2, .int i2), (3, .int i3), (4, .int i4), (5, .int i5), (6, .int i6)]) (List.forall_mem_cons.mpr ⟨rfl, (List.forall_mem_cons.mpr ⟨rfl, (List.forall_mem_cons.mpr ⟨rfl, (List.forall_mem_cons.mpr ⟨rfl, (List.forall_mem_cons.mpr ⟨rfl, (List.forall_mem_cons.mpr ⟨rfl, (List.forall_mem_cons.mpr ⟨rfl, zs_nil⟩)⟩)⟩)⟩)⟩)⟩)⟩) ?_
  refine zw_bipush (v := (24 : Int32)) hX dX12_send_0 (by decide) ?_
  refine zw_bipush (v := (6 : Int32)) hX dX12_send_2 (by decide) ?_
  refine zw_iload_n hX dX12_send_4 rfl ?_
  refine zw_imul hX dX12_send_5 ?_
  refine zw_aload_n hX dX12_send_6 rfl ?_
  obtain ⟨b1, g, h⟩ := zb_some h
  refine zw_getr hX zl_X12_28 dX12_send_7 g ?_
  refine zw_iload_n hX dX12_send_10 rfl ?_
  obtain ⟨v2, g, h⟩ := zb_some h
  refine zw_xi hX dX12_send_11 g ?_
  refine zw_iadd hX dX12_send_12 ?_
  refine zw_imul hX dX12_send_13 ?_
  refine zw_istore hX dX12_send_14 (by decide) ?_
  refine zw_aload_n hX dX12_send_16 rfl ?_
  obtain ⟨b3, g, h⟩ := zb_some h
  refine zw_getr hX zl_X12_31 dX12_send_17 g ?_
  refine zw_iload hX dX12_send_20 rfl ?_
  refine zw_sipush (v := (176 : Int32)) hX dX12_send_22 (by decide) ?_
  refine zw_iconst (v := (4 : Int32)) hX dX12_send_25 (by decide) ?_
  refine zw_iload_n hX dX12_send_26 rfl ?_
  refine zw_imul hX dX12_send_27 ?_
  refine zw_iadd hX dX12_send_28 ?_
  obtain ⟨S4, g, h⟩ := zb_some h
  refine zw_si hX dX12_send_29 g ?_
  refine zw_aload_n hX dX12_send_30 rfl ?_
  obtain ⟨b5, g, h⟩ := zb_some h
  refine zw_getr hX zl_X12_31 dX12_send_31 g ?_
  refine zw_iload hX dX12_send_34 rfl ?_
  refine zw_iconst (v := (1 : Int32)) hX dX12_send_36 (by decide) ?_
  refine zw_iadd hX dX12_send_37 ?_
  refine zw_aload_n hX dX12_send_38 rfl ?_
  obtain ⟨b6, g, h⟩ := zb_some h
  refine zw_getr hX zl_X12_18 dX12_send_39 g ?_
  refine zw_iload_n hX dX12_send_42 rfl ?_
  obtain ⟨v7, g, h⟩ := zb_some h
  refine zw_xi hX dX12_send_43 g ?_
  refine zw_sipush (v := (256 : Int32)) hX dX12_send_44 (by decide) ?_
  refine zw_idiv hX dX12_send_47 (by decide) ?_
  obtain ⟨S8, g, h⟩ := zb_some h
  refine zw_si hX dX12_send_48 g ?_
  refine zw_aload_n hX dX12_send_49 rfl ?_
  obtain ⟨b9, g, h⟩ := zb_some h
  refine zw_getr hX zl_X12_31 dX12_send_50 g ?_
  refine zw_iload hX dX12_send_53 rfl ?_
  refine zw_iconst (v := (2 : Int32)) hX dX12_send_55 (by decide) ?_
  refine zw_iadd hX dX12_send_56 ?_
  refine zw_aload_n hX dX12_send_57 rfl ?_
  obtain ⟨b10, g, h⟩ := zb_some h
  refine zw_getr hX zl_X12_18 dX12_send_58 g ?_
  refine zw_iload_n hX dX12_send_61 rfl ?_
  obtain ⟨v11, g, h⟩ := zb_some h
  refine zw_xi hX dX12_send_62 g ?_
  refine zw_sipush (v := (256 : Int32)) hX dX12_send_63 (by decide) ?_
  refine zw_irem hX dX12_send_66 (by decide) ?_
  obtain ⟨S12, g, h⟩ := zb_some h
  refine zw_si hX dX12_send_67 g ?_
  refine zw_aload_n hX dX12_send_68 rfl ?_
  obtain ⟨b13, g, h⟩ := zb_some h
  refine zw_getr hX zl_X12_31 dX12_send_69 g ?_
  refine zw_iload hX dX12_send_72 rfl ?_
  refine zw_iconst (v := (3 : Int32)) hX dX12_send_74 (by decide) ?_
  refine zw_iadd hX dX12_send_75 ?_
  refine zw_iload_n hX dX12_send_76 rfl ?_
  refine zw_sipush (v := (256 : Int32)) hX dX12_send_77 (by decide) ?_
  refine zw_idiv hX dX12_send_80 (by decide) ?_
  obtain ⟨S14, g, h⟩ := zb_some h
  refine zw_si hX dX12_send_81 g ?_
  refine zw_aload_n hX dX12_send_82 rfl ?_
  obtain ⟨b15, g, h⟩ := zb_some h
  refine zw_getr hX zl_X12_31 dX12_send_83 g ?_
  refine zw_iload hX dX12_send_86 rfl ?_
  refine zw_iconst (v := (4 : Int32)) hX dX12_send_88 (by decide) ?_
  refine zw_iadd hX dX12_send_89 ?_
  refine zw_iload_n hX dX12_send_90 rfl ?_
  refine zw_sipush (v := (256 : Int32)) hX dX12_send_91 (by decide) ?_
  refine zw_irem hX dX12_send_94 (by decide) ?_
  obtain ⟨S16, g, h⟩ := zb_some h
  refine zw_si hX dX12_send_95 g ?_
  refine zw_aload_n hX dX12_send_96 rfl ?_
  obtain ⟨b17, g, h⟩ := zb_some h
  refine zw_getr hX zl_X12_31 dX12_send_97 g ?_
  refine zw_iload hX dX12_send_100 rfl ?_
  refine zw_iconst (v := (5 : Int32)) hX dX12_send_102 (by decide) ?_
  refine zw_iadd hX dX12_send_103 ?_
  refine zw_iload hX dX12_send_104 rfl ?_
  refine zw_iconst (v := (1 : Int32)) hX dX12_send_106 (by decide) ?_
  refine zw_isub hX dX12_send_107 ?_
  refine zw_iload hX dX12_send_108 rfl ?_
  refine zw_if_eq (tgt := 119) hX dX12_send_110 (by decide) (fun c110 => ?_) (fun c110 => ?_)
  · rw [if_pos c110] at h
    refine zw_iconst (v := (0 : Int32)) hX dX12_send_119 (by decide) ?_
    refine zw_sub (lv' := [(0, .ref a0), (1, .int i1), (2, .int i2), (5, .int i5), (6, .int i6), (7, .int ((24 : Int32) * (((6 : Int32) * i1) + v2)))]) (List.forall_mem_cons.mpr ⟨rfl, (List.forall_mem_cons.mpr ⟨rfl, (List.forall_mem_cons.mpr ⟨rfl, (List.forall_mem_cons.mpr ⟨rfl, (List.forall_mem_cons.mpr ⟨rfl, (List.forall_mem_cons.mpr ⟨rfl, zs_nil⟩)⟩)⟩)⟩)⟩)⟩) ?_
    exact zt_X12_send_J120 hX hr hR hd h
  · rw [if_neg c110] at h
    refine zw_sipush (v := (128 : Int32)) hX dX12_send_113 (by decide) ?_
    refine zw_goto (tgt := 120) hX dX12_send_116 (by decide) ?_
    refine zw_sub (lv' := [(0, .ref a0), (1, .int i1), (2, .int i2), (5, .int i5), (6, .int i6), (7, .int ((24 : Int32) * (((6 : Int32) * i1) + v2)))]) (List.forall_mem_cons.mpr ⟨rfl, (List.forall_mem_cons.mpr ⟨rfl, (List.forall_mem_cons.mpr ⟨rfl, (List.forall_mem_cons.mpr ⟨rfl, (List.forall_mem_cons.mpr ⟨rfl, (List.forall_mem_cons.mpr ⟨rfl, zs_nil⟩)⟩)⟩)⟩)⟩)⟩) ?_
    exact zt_X12_send_J120 hX hr hR hd h
