/-! ===== functions of methods, by program (wip/whole/tools/gen11.py) ===== -/
theorem dX3_mayTakeAll_0 : decode cX3_mayTakeAll 0 = .ok (.iconst 0, 1) := by decide +kernel
theorem dX3_mayTakeAll_1 : decode cX3_mayTakeAll 1 = .ok (.istore_n 3, 1) := by decide +kernel
theorem dX3_mayTakeAll_2 : decode cX3_mayTakeAll 2 = .ok (.iload_n 3, 1) := by decide +kernel
theorem dX3_mayTakeAll_3 : decode cX3_mayTakeAll 3 = .ok (.aload_n 0, 1) := by decide +kernel
theorem dX3_mayTakeAll_4 : decode cX3_mayTakeAll 4 = .ok (.getfield 53, 3) := by decide +kernel
theorem dX3_mayTakeAll_7 : decode cX3_mayTakeAll 7 = .ok (.if_icmp .ge 32, 3) := by decide +kernel
theorem dX3_mayTakeAll_10 : decode cX3_mayTakeAll 10 = .ok (.iload_n 2, 1) := by decide +kernel
theorem dX3_mayTakeAll_11 : decode cX3_mayTakeAll 11 = .ok (.iload_n 3, 1) := by decide +kernel
theorem dX3_mayTakeAll_12 : decode cX3_mayTakeAll 12 = .ok (.ishr, 1) := by decide +kernel
theorem dX3_mayTakeAll_13 : decode cX3_mayTakeAll 13 = .ok (.iconst 1, 1) := by decide +kernel
theorem dX3_mayTakeAll_14 : decode cX3_mayTakeAll 14 = .ok (.iand, 1) := by decide +kernel
theorem dX3_mayTakeAll_15 : decode cX3_mayTakeAll 15 = .ok (.ifCond .eq 18, 3) := by decide +kernel
theorem dX3_mayTakeAll_33 : decode cX3_mayTakeAll 33 = .ok (.iinc 3 1, 3) := by decide +kernel
theorem dX3_mayTakeAll_36 : decode cX3_mayTakeAll 36 = .ok (.goto (-34), 3) := by decide +kernel
theorem dX3_mayTakeAll_18 : decode cX3_mayTakeAll 18 = .ok (.aload_n 0, 1) := by decide +kernel
theorem dX3_mayTakeAll_19 : decode cX3_mayTakeAll 19 = .ok (.getfield 26, 3) := by decide +kernel
theorem dX3_mayTakeAll_22 : decode cX3_mayTakeAll 22 = .ok (.iload_n 3, 1) := by decide +kernel
theorem dX3_mayTakeAll_23 : decode cX3_mayTakeAll 23 = .ok (.iaload, 1) := by decide +kernel
theorem dX3_mayTakeAll_24 : decode cX3_mayTakeAll 24 = .ok (.iload_n 1, 1) := by decide +kernel
theorem dX3_mayTakeAll_25 : decode cX3_mayTakeAll 25 = .ok (.ishr, 1) := by decide +kernel
theorem dX3_mayTakeAll_26 : decode cX3_mayTakeAll 26 = .ok (.iconst 1, 1) := by decide +kernel
theorem dX3_mayTakeAll_27 : decode cX3_mayTakeAll 27 = .ok (.iand, 1) := by decide +kernel
theorem dX3_mayTakeAll_28 : decode cX3_mayTakeAll 28 = .ok (.ifCond .ne 5, 3) := by decide +kernel
theorem dX3_mayTakeAll_31 : decode cX3_mayTakeAll 31 = .ok (.iconst 0, 1) := by decide +kernel
theorem dX3_mayTakeAll_32 : decode cX3_mayTakeAll 32 = .ok (.ireturn, 1) := by decide +kernel
theorem dX3_mayTakeAll_39 : decode cX3_mayTakeAll 39 = .ok (.iconst 1, 1) := by decide +kernel
theorem dX3_mayTakeAll_40 : decode cX3_mayTakeAll 40 = .ok (.ireturn, 1) := by decide +kernel
theorem dX3_mayComeNext_0 : decode cX3_mayComeNext 0 = .ok (.aload_n 0, 1) := by decide +kernel
theorem dX3_mayComeNext_1 : decode cX3_mayComeNext 1 = .ok (.aload_n 0, 1) := by decide +kernel
theorem dX3_mayComeNext_2 : decode cX3_mayComeNext 2 = .ok (.getfield 13, 3) := by decide +kernel
theorem dX3_mayComeNext_5 : decode cX3_mayComeNext 5 = .ok (.iload_n 1, 1) := by decide +kernel
theorem dX3_mayComeNext_6 : decode cX3_mayComeNext 6 = .ok (.aaload, 1) := by decide +kernel
theorem dX3_mayComeNext_7 : decode cX3_mayComeNext 7 = .ok (.iconst 5, 1) := by decide +kernel
theorem dX3_mayComeNext_8 : decode cX3_mayComeNext 8 = .ok (.iaload, 1) := by decide +kernel
theorem dX3_mayComeNext_9 : decode cX3_mayComeNext 9 = .ok (.invokevirtual 62, 3) := by decide +kernel
theorem dX3_mayComeNext_12 : decode cX3_mayComeNext 12 = .ok (.istore 5, 2) := by decide +kernel
theorem dX3_mayComeNext_14 : decode cX3_mayComeNext 14 = .ok (.iload 4, 2) := by decide +kernel
theorem dX3_mayComeNext_16 : decode cX3_mayComeNext 16 = .ok (.ifCond .gt 24, 3) := by decide +kernel
theorem dX3_mayComeNext_40 : decode cX3_mayComeNext 40 = .ok (.iconst 1, 1) := by decide +kernel
theorem dX3_mayComeNext_41 : decode cX3_mayComeNext 41 = .ok (.goto 4, 3) := by decide +kernel
theorem dX3_mayComeNext_45 : decode cX3_mayComeNext 45 = .ok (.ireturn, 1) := by decide +kernel
theorem dX3_mayComeNext_19 : decode cX3_mayComeNext 19 = .ok (.iload 5, 2) := by decide +kernel
theorem dX3_mayComeNext_21 : decode cX3_mayComeNext 21 = .ok (.iconst (-1), 1) := by decide +kernel
theorem dX3_mayComeNext_22 : decode cX3_mayComeNext 22 = .ok (.if_icmp .eq 18, 3) := by decide +kernel
theorem dX3_mayComeNext_25 : decode cX3_mayComeNext 25 = .ok (.iload 5, 2) := by decide +kernel
theorem dX3_mayComeNext_27 : decode cX3_mayComeNext 27 = .ok (.iload_n 2, 1) := by decide +kernel
theorem dX3_mayComeNext_28 : decode cX3_mayComeNext 28 = .ok (.if_icmp .eq 12, 3) := by decide +kernel
theorem dX3_mayComeNext_31 : decode cX3_mayComeNext 31 = .ok (.iload_n 3, 1) := by decide +kernel
theorem dX3_mayComeNext_32 : decode cX3_mayComeNext 32 = .ok (.iload 5, 2) := by decide +kernel
theorem dX3_mayComeNext_34 : decode cX3_mayComeNext 34 = .ok (.ishr, 1) := by decide +kernel
theorem dX3_mayComeNext_35 : decode cX3_mayComeNext 35 = .ok (.iconst 1, 1) := by decide +kernel
theorem dX3_mayComeNext_36 : decode cX3_mayComeNext 36 = .ok (.iand, 1) := by decide +kernel
theorem dX3_mayComeNext_37 : decode cX3_mayComeNext 37 = .ok (.ifCond .ne 7, 3) := by decide +kernel
theorem dX3_mayComeNext_44 : decode cX3_mayComeNext 44 = .ok (.iconst 0, 1) := by decide +kernel
theorem dX3_weightOf_0 : decode cX3_weightOf 0 = .ok (.iconst 1, 1) := by decide +kernel
theorem dX3_weightOf_1 : decode cX3_weightOf 1 = .ok (.aload_n 0, 1) := by decide +kernel
theorem dX3_weightOf_2 : decode cX3_weightOf 2 = .ok (.getfield 89, 3) := by decide +kernel
theorem dX3_weightOf_5 : decode cX3_weightOf 5 = .ok (.aload_n 1, 1) := by decide +kernel
theorem dX3_weightOf_6 : decode cX3_weightOf 6 = .ok (.iconst 2, 1) := by decide +kernel
theorem dX3_weightOf_7 : decode cX3_weightOf 7 = .ok (.iaload, 1) := by decide +kernel
theorem dX3_weightOf_8 : decode cX3_weightOf 8 = .ok (.isub, 1) := by decide +kernel
theorem dX3_weightOf_9 : decode cX3_weightOf 9 = .ok (.bipush 30, 2) := by decide +kernel
theorem dX3_weightOf_11 : decode cX3_weightOf 11 = .ok (.idiv, 1) := by decide +kernel
theorem dX3_weightOf_12 : decode cX3_weightOf 12 = .ok (.iadd, 1) := by decide +kernel
theorem dX3_weightOf_13 : decode cX3_weightOf 13 = .ok (.i2l, 1) := by decide +kernel
theorem dX3_weightOf_14 : decode cX3_weightOf 14 = .ok (.lreturn, 1) := by decide +kernel
theorem dX3_tryRows_0 : decode cX3_tryRows 0 = .ok (.lload 6, 2) := by decide +kernel
theorem dX3_tryRows_2 : decode cX3_tryRows 2 = .ok (.aload_n 0, 1) := by decide +kernel
theorem dX3_tryRows_3 : decode cX3_tryRows 3 = .ok (.getfield 120, 3) := by decide +kernel
theorem dX3_tryRows_6 : decode cX3_tryRows 6 = .ok (.lcmp, 1) := by decide +kernel
theorem dX3_tryRows_7 : decode cX3_tryRows 7 = .ok (.ifCond .lt 4, 3) := by decide +kernel
theorem dX3_tryRows_11 : decode cX3_tryRows 11 = .ok (.iload_n 2, 1) := by decide +kernel
theorem dX3_tryRows_12 : decode cX3_tryRows 12 = .ok (.ifCond .ne 24, 3) := by decide +kernel
theorem dX3_tryRows_36 : decode cX3_tryRows 36 = .ok (.aload_n 0, 1) := by decide +kernel
theorem dX3_tryRows_37 : decode cX3_tryRows 37 = .ok (.getfield 13, 3) := by decide +kernel
theorem dX3_tryRows_40 : decode cX3_tryRows 40 = .ok (.iload_n 1, 1) := by decide +kernel
theorem dX3_tryRows_41 : decode cX3_tryRows 41 = .ok (.aaload, 1) := by decide +kernel
theorem dX3_tryRows_42 : decode cX3_tryRows 42 = .ok (.iconst 1, 1) := by decide +kernel
theorem dX3_tryRows_43 : decode cX3_tryRows 43 = .ok (.iaload, 1) := by decide +kernel
theorem dX3_tryRows_44 : decode cX3_tryRows 44 = .ok (.istore 8, 2) := by decide +kernel
theorem dX3_tryRows_46 : decode cX3_tryRows 46 = .ok (.iconst 0, 1) := by decide +kernel
theorem dX3_tryRows_47 : decode cX3_tryRows 47 = .ok (.istore 9, 2) := by decide +kernel
theorem dX3_tryRows_49 : decode cX3_tryRows 49 = .ok (.iload 9, 2) := by decide +kernel
theorem dX3_tryRows_51 : decode cX3_tryRows 51 = .ok (.aload_n 0, 1) := by decide +kernel
theorem dX3_tryRows_52 : decode cX3_tryRows 52 = .ok (.getfield 53, 3) := by decide +kernel
theorem dX3_tryRows_55 : decode cX3_tryRows 55 = .ok (.if_icmp .ge 143, 3) := by decide +kernel
theorem dX3_tryRows_58 : decode cX3_tryRows 58 = .ok (.iload_n 3, 1) := by decide +kernel
theorem dX3_tryRows_59 : decode cX3_tryRows 59 = .ok (.bipush 6, 2) := by decide +kernel
theorem dX3_tryRows_61 : decode cX3_tryRows 61 = .ok (.if_icmp .ge 137, 3) := by decide +kernel
theorem dX3_tryRows_64 : decode cX3_tryRows 64 = .ok (.iload_n 2, 1) := by decide +kernel
theorem dX3_tryRows_65 : decode cX3_tryRows 65 = .ok (.iload 9, 2) := by decide +kernel
theorem dX3_tryRows_67 : decode cX3_tryRows 67 = .ok (.ishr, 1) := by decide +kernel
theorem dX3_tryRows_68 : decode cX3_tryRows 68 = .ok (.iconst 1, 1) := by decide +kernel
theorem dX3_tryRows_69 : decode cX3_tryRows 69 = .ok (.iand, 1) := by decide +kernel
theorem dX3_tryRows_70 : decode cX3_tryRows 70 = .ok (.ifCond .eq 122, 3) := by decide +kernel
theorem dX3_tryRows_192 : decode cX3_tryRows 192 = .ok (.iinc 9 1, 3) := by decide +kernel
theorem dX3_tryRows_195 : decode cX3_tryRows 195 = .ok (.goto (-146), 3) := by decide +kernel
theorem dX3_tryRows_73 : decode cX3_tryRows 73 = .ok (.aload_n 0, 1) := by decide +kernel
theorem dX3_tryRows_74 : decode cX3_tryRows 74 = .ok (.iload_n 1, 1) := by decide +kernel
theorem dX3_tryRows_75 : decode cX3_tryRows 75 = .ok (.iload 9, 2) := by decide +kernel
theorem dX3_tryRows_77 : decode cX3_tryRows 77 = .ok (.iload_n 2, 1) := by decide +kernel
theorem dX3_tryRows_78 : decode cX3_tryRows 78 = .ok (.iload_n 3, 1) := by decide +kernel
theorem dX3_tryRows_79 : decode cX3_tryRows 79 = .ok (.invokevirtual 127, 3) := by decide +kernel
theorem dX3_tryRows_82 : decode cX3_tryRows 82 = .ok (.ifCond .eq 110, 3) := by decide +kernel
theorem dX3_tryRows_85 : decode cX3_tryRows 85 = .ok (.aload_n 0, 1) := by decide +kernel
theorem dX3_tryRows_86 : decode cX3_tryRows 86 = .ok (.getfield 16, 3) := by decide +kernel
theorem dX3_tryRows_89 : decode cX3_tryRows 89 = .ok (.aload_n 0, 1) := by decide +kernel
theorem dX3_tryRows_90 : decode cX3_tryRows 90 = .ok (.getfield 19, 3) := by decide +kernel
theorem dX3_tryRows_93 : decode cX3_tryRows 93 = .ok (.iload 9, 2) := by decide +kernel
theorem dX3_tryRows_95 : decode cX3_tryRows 95 = .ok (.iaload, 1) := by decide +kernel
theorem dX3_tryRows_96 : decode cX3_tryRows 96 = .ok (.aaload, 1) := by decide +kernel
theorem dX3_tryRows_97 : decode cX3_tryRows 97 = .ok (.astore 10, 2) := by decide +kernel
theorem dX3_tryRows_99 : decode cX3_tryRows 99 = .ok (.iload 5, 2) := by decide +kernel
theorem dX3_tryRows_101 : decode cX3_tryRows 101 = .ok (.iload 4, 2) := by decide +kernel
theorem dX3_tryRows_103 : decode cX3_tryRows 103 = .ok (.aload 10, 2) := by decide +kernel
theorem dX3_tryRows_105 : decode cX3_tryRows 105 = .ok (.iconst 0, 1) := by decide +kernel
theorem dX3_tryRows_106 : decode cX3_tryRows 106 = .ok (.iaload, 1) := by decide +kernel
theorem dX3_tryRows_107 : decode cX3_tryRows 107 = .ok (.isub, 1) := by decide +kernel
theorem dX3_tryRows_108 : decode cX3_tryRows 108 = .ok (.invokestatic 131, 3) := by decide +kernel
theorem dX3_tryRows_111 : decode cX3_tryRows 111 = .ok (.iload 8, 2) := by decide +kernel
theorem dX3_tryRows_113 : decode cX3_tryRows 113 = .ok (.imul, 1) := by decide +kernel
theorem dX3_tryRows_114 : decode cX3_tryRows 114 = .ok (.iadd, 1) := by decide +kernel
theorem dX3_tryRows_115 : decode cX3_tryRows 115 = .ok (.istore 11, 2) := by decide +kernel
theorem dX3_tryRows_117 : decode cX3_tryRows 117 = .ok (.iload 11, 2) := by decide +kernel
theorem dX3_tryRows_119 : decode cX3_tryRows 119 = .ok (.iconst 3, 1) := by decide +kernel
theorem dX3_tryRows_120 : decode cX3_tryRows 120 = .ok (.iadd, 1) := by decide +kernel
theorem dX3_tryRows_121 : decode cX3_tryRows 121 = .ok (.aload 10, 2) := by decide +kernel
theorem dX3_tryRows_123 : decode cX3_tryRows 123 = .ok (.iconst 1, 1) := by decide +kernel
theorem dX3_tryRows_124 : decode cX3_tryRows 124 = .ok (.iaload, 1) := by decide +kernel
theorem dX3_tryRows_125 : decode cX3_tryRows 125 = .ok (.aload 10, 2) := by decide +kernel
theorem dX3_tryRows_127 : decode cX3_tryRows 127 = .ok (.iconst 0, 1) := by decide +kernel
theorem dX3_tryRows_128 : decode cX3_tryRows 128 = .ok (.iaload, 1) := by decide +kernel
theorem dX3_tryRows_129 : decode cX3_tryRows 129 = .ok (.isub, 1) := by decide +kernel
theorem dX3_tryRows_130 : decode cX3_tryRows 130 = .ok (.invokestatic 131, 3) := by decide +kernel
theorem dX3_tryRows_133 : decode cX3_tryRows 133 = .ok (.iload 8, 2) := by decide +kernel
theorem dX3_tryRows_135 : decode cX3_tryRows 135 = .ok (.imul, 1) := by decide +kernel
theorem dX3_tryRows_136 : decode cX3_tryRows 136 = .ok (.iadd, 1) := by decide +kernel
theorem dX3_tryRows_137 : decode cX3_tryRows 137 = .ok (.istore 12, 2) := by decide +kernel
theorem dX3_tryRows_139 : decode cX3_tryRows 139 = .ok (.aload_n 0, 1) := by decide +kernel
theorem dX3_tryRows_140 : decode cX3_tryRows 140 = .ok (.getfield 34, 3) := by decide +kernel
theorem dX3_tryRows_143 : decode cX3_tryRows 143 = .ok (.iload_n 3, 1) := by decide +kernel
theorem dX3_tryRows_144 : decode cX3_tryRows 144 = .ok (.iload 9, 2) := by decide +kernel
theorem dX3_tryRows_146 : decode cX3_tryRows 146 = .ok (.iastore, 1) := by decide +kernel
theorem dX3_tryRows_147 : decode cX3_tryRows 147 = .ok (.lload 6, 2) := by decide +kernel
theorem dX3_tryRows_149 : decode cX3_tryRows 149 = .ok (.aload_n 0, 1) := by decide +kernel
theorem dX3_tryRows_150 : decode cX3_tryRows 150 = .ok (.aload 10, 2) := by decide +kernel
theorem dX3_tryRows_152 : decode cX3_tryRows 152 = .ok (.invokevirtual 134, 3) := by decide +kernel
theorem dX3_tryRows_155 : decode cX3_tryRows 155 = .ok (.iload 11, 2) := by decide +kernel
theorem dX3_tryRows_157 : decode cX3_tryRows 157 = .ok (.i2l, 1) := by decide +kernel
theorem dX3_tryRows_158 : decode cX3_tryRows 158 = .ok (.lmul, 1) := by decide +kernel
theorem dX3_tryRows_159 : decode cX3_tryRows 159 = .ok (.ladd, 1) := by decide +kernel
theorem dX3_tryRows_160 : decode cX3_tryRows 160 = .ok (.iload 12, 2) := by decide +kernel
theorem dX3_tryRows_162 : decode cX3_tryRows 162 = .ok (.i2l, 1) := by decide +kernel
theorem dX3_tryRows_163 : decode cX3_tryRows 163 = .ok (.ladd, 1) := by decide +kernel
theorem dX3_tryRows_164 : decode cX3_tryRows 164 = .ok (.lstore 13, 2) := by decide +kernel
theorem dX3_tryRows_166 : decode cX3_tryRows 166 = .ok (.aload_n 0, 1) := by decide +kernel
theorem dX3_tryRows_167 : decode cX3_tryRows 167 = .ok (.iload_n 1, 1) := by decide +kernel
theorem dX3_tryRows_168 : decode cX3_tryRows 168 = .ok (.iload_n 2, 1) := by decide +kernel
theorem dX3_tryRows_169 : decode cX3_tryRows 169 = .ok (.iconst 1, 1) := by decide +kernel
theorem dX3_tryRows_170 : decode cX3_tryRows 170 = .ok (.iload 9, 2) := by decide +kernel
theorem dX3_tryRows_172 : decode cX3_tryRows 172 = .ok (.ishl, 1) := by decide +kernel
theorem dX3_tryRows_173 : decode cX3_tryRows 173 = .ok (.iconst (-1), 1) := by decide +kernel
theorem dX3_tryRows_174 : decode cX3_tryRows 174 = .ok (.ixor, 1) := by decide +kernel
theorem dX3_tryRows_175 : decode cX3_tryRows 175 = .ok (.iand, 1) := by decide +kernel
theorem dX3_tryRows_176 : decode cX3_tryRows 176 = .ok (.iload_n 3, 1) := by decide +kernel
theorem dX3_tryRows_177 : decode cX3_tryRows 177 = .ok (.iconst 1, 1) := by decide +kernel
theorem dX3_tryRows_178 : decode cX3_tryRows 178 = .ok (.iadd, 1) := by decide +kernel
theorem dX3_tryRows_179 : decode cX3_tryRows 179 = .ok (.aload 10, 2) := by decide +kernel
theorem dX3_tryRows_181 : decode cX3_tryRows 181 = .ok (.iconst 1, 1) := by decide +kernel
theorem dX3_tryRows_182 : decode cX3_tryRows 182 = .ok (.iaload, 1) := by decide +kernel
theorem dX3_tryRows_183 : decode cX3_tryRows 183 = .ok (.iload 12, 2) := by decide +kernel
theorem dX3_tryRows_185 : decode cX3_tryRows 185 = .ok (.iconst 3, 1) := by decide +kernel
theorem dX3_tryRows_186 : decode cX3_tryRows 186 = .ok (.iadd, 1) := by decide +kernel
theorem dX3_tryRows_187 : decode cX3_tryRows 187 = .ok (.lload 13, 2) := by decide +kernel
theorem dX3_tryRows_189 : decode cX3_tryRows 189 = .ok (.invokevirtual 123, 3) := by decide +kernel
theorem dX3_tryRows_198 : decode cX3_tryRows 198 = .ok (.return_, 1) := by decide +kernel
theorem dX3_tryRows_15 : decode cX3_tryRows 15 = .ok (.aload_n 0, 1) := by decide +kernel
theorem dX3_tryRows_16 : decode cX3_tryRows 16 = .ok (.lload 6, 2) := by decide +kernel
theorem dX3_tryRows_18 : decode cX3_tryRows 18 = .ok (.putfield 120, 3) := by decide +kernel
theorem dX3_tryRows_21 : decode cX3_tryRows 21 = .ok (.aload_n 0, 1) := by decide +kernel
theorem dX3_tryRows_22 : decode cX3_tryRows 22 = .ok (.getfield 34, 3) := by decide +kernel
theorem dX3_tryRows_25 : decode cX3_tryRows 25 = .ok (.iconst 0, 1) := by decide +kernel
theorem dX3_tryRows_26 : decode cX3_tryRows 26 = .ok (.aload_n 0, 1) := by decide +kernel
theorem dX3_tryRows_27 : decode cX3_tryRows 27 = .ok (.getfield 37, 3) := by decide +kernel
theorem dX3_tryRows_30 : decode cX3_tryRows 30 = .ok (.iconst 0, 1) := by decide +kernel
theorem dX3_tryRows_31 : decode cX3_tryRows 31 = .ok (.iload_n 3, 1) := by decide +kernel
theorem dX3_tryRows_32 : decode cX3_tryRows 32 = .ok (.invokestatic 83, 3) := by decide +kernel
theorem dX3_tryRows_35 : decode cX3_tryRows 35 = .ok (.return_, 1) := by decide +kernel
theorem dX3_tryRows_10 : decode cX3_tryRows 10 = .ok (.return_, 1) := by decide +kernel
theorem dX3_leastRowCost_0 : decode cX3_leastRowCost 0 = .ok (.aload_n 0, 1) := by decide +kernel
theorem dX3_leastRowCost_1 : decode cX3_leastRowCost 1 = .ok (.ldc2_w 100, 3) := by decide +kernel
theorem dX3_leastRowCost_4 : decode cX3_leastRowCost 4 = .ok (.putfield 120, 3) := by decide +kernel
theorem dX3_leastRowCost_7 : decode cX3_leastRowCost 7 = .ok (.aload_n 0, 1) := by decide +kernel
theorem dX3_leastRowCost_8 : decode cX3_leastRowCost 8 = .ok (.iload_n 1, 1) := by decide +kernel
theorem dX3_leastRowCost_9 : decode cX3_leastRowCost 9 = .ok (.iload_n 2, 1) := by decide +kernel
theorem dX3_leastRowCost_10 : decode cX3_leastRowCost 10 = .ok (.iconst 0, 1) := by decide +kernel
theorem dX3_leastRowCost_11 : decode cX3_leastRowCost 11 = .ok (.aload_n 0, 1) := by decide +kernel
theorem dX3_leastRowCost_12 : decode cX3_leastRowCost 12 = .ok (.getfield 13, 3) := by decide +kernel
theorem dX3_leastRowCost_15 : decode cX3_leastRowCost 15 = .ok (.iload_n 1, 1) := by decide +kernel
theorem dX3_leastRowCost_16 : decode cX3_leastRowCost 16 = .ok (.aaload, 1) := by decide +kernel
theorem dX3_leastRowCost_17 : decode cX3_leastRowCost 17 = .ok (.iconst 0, 1) := by decide +kernel
theorem dX3_leastRowCost_18 : decode cX3_leastRowCost 18 = .ok (.iaload, 1) := by decide +kernel
theorem dX3_leastRowCost_19 : decode cX3_leastRowCost 19 = .ok (.iconst 0, 1) := by decide +kernel
theorem dX3_leastRowCost_20 : decode cX3_leastRowCost 20 = .ok (.aload_n 0, 1) := by decide +kernel
theorem dX3_leastRowCost_21 : decode cX3_leastRowCost 21 = .ok (.getfield 13, 3) := by decide +kernel
theorem dX3_leastRowCost_24 : decode cX3_leastRowCost 24 = .ok (.iload_n 1, 1) := by decide +kernel
theorem dX3_leastRowCost_25 : decode cX3_leastRowCost 25 = .ok (.aaload, 1) := by decide +kernel
theorem dX3_leastRowCost_26 : decode cX3_leastRowCost 26 = .ok (.iconst 2, 1) := by decide +kernel
theorem dX3_leastRowCost_27 : decode cX3_leastRowCost 27 = .ok (.iaload, 1) := by decide +kernel
theorem dX3_leastRowCost_28 : decode cX3_leastRowCost 28 = .ok (.aload_n 0, 1) := by decide +kernel
theorem dX3_leastRowCost_29 : decode cX3_leastRowCost 29 = .ok (.getfield 89, 3) := by decide +kernel
theorem dX3_leastRowCost_32 : decode cX3_leastRowCost 32 = .ok (.isub, 1) := by decide +kernel
theorem dX3_leastRowCost_33 : decode cX3_leastRowCost 33 = .ok (.invokestatic 80, 3) := by decide +kernel
theorem dX3_leastRowCost_36 : decode cX3_leastRowCost 36 = .ok (.lconst 0, 1) := by decide +kernel
theorem dX3_leastRowCost_37 : decode cX3_leastRowCost 37 = .ok (.invokevirtual 123, 3) := by decide +kernel
theorem dX3_leastRowCost_40 : decode cX3_leastRowCost 40 = .ok (.aload_n 0, 1) := by decide +kernel
theorem dX3_leastRowCost_41 : decode cX3_leastRowCost 41 = .ok (.getfield 120, 3) := by decide +kernel
theorem dX3_leastRowCost_44 : decode cX3_leastRowCost 44 = .ok (.lreturn, 1) := by decide +kernel
theorem dX3_costRows_0 : decode cX3_costRows 0 = .ok (.iconst 0, 1) := by decide +kernel
theorem dX3_costRows_1 : decode cX3_costRows 1 = .ok (.istore_n 2, 1) := by decide +kernel
theorem dX3_costRows_2 : decode cX3_costRows 2 = .ok (.iload_n 2, 1) := by decide +kernel
theorem dX3_costRows_3 : decode cX3_costRows 3 = .ok (.iconst 1, 1) := by decide +kernel
theorem dX3_costRows_4 : decode cX3_costRows 4 = .ok (.aload_n 0, 1) := by decide +kernel
theorem dX3_costRows_5 : decode cX3_costRows 5 = .ok (.getfield 53, 3) := by decide +kernel
theorem dX3_costRows_8 : decode cX3_costRows 8 = .ok (.ishl, 1) := by decide +kernel
theorem dX3_costRows_9 : decode cX3_costRows 9 = .ok (.if_icmp .ge 36, 3) := by decide +kernel
theorem dX3_costRows_12 : decode cX3_costRows 12 = .ok (.aload_n 0, 1) := by decide +kernel
theorem dX3_costRows_13 : decode cX3_costRows 13 = .ok (.getfield 31, 3) := by decide +kernel
theorem dX3_costRows_16 : decode cX3_costRows 16 = .ok (.iload_n 1, 1) := by decide +kernel
theorem dX3_costRows_17 : decode cX3_costRows 17 = .ok (.aaload, 1) := by decide +kernel
theorem dX3_costRows_18 : decode cX3_costRows 18 = .ok (.iload_n 2, 1) := by decide +kernel
theorem dX3_costRows_19 : decode cX3_costRows 19 = .ok (.aload_n 0, 1) := by decide +kernel
theorem dX3_costRows_20 : decode cX3_costRows 20 = .ok (.iload_n 1, 1) := by decide +kernel
theorem dX3_costRows_21 : decode cX3_costRows 21 = .ok (.iload_n 2, 1) := by decide +kernel
theorem dX3_costRows_22 : decode cX3_costRows 22 = .ok (.invokevirtual 113, 3) := by decide +kernel
theorem dX3_costRows_25 : decode cX3_costRows 25 = .ok (.ifCond .eq 12, 3) := by decide +kernel
theorem dX3_costRows_37 : decode cX3_costRows 37 = .ok (.lconst 0, 1) := by decide +kernel
theorem dX3_costRows_38 : decode cX3_costRows 38 = .ok (.lastore, 1) := by decide +kernel
theorem dX3_costRows_39 : decode cX3_costRows 39 = .ok (.iinc 2 1, 3) := by decide +kernel
theorem dX3_costRows_42 : decode cX3_costRows 42 = .ok (.goto (-40), 3) := by decide +kernel
theorem dX3_costRows_28 : decode cX3_costRows 28 = .ok (.aload_n 0, 1) := by decide +kernel
theorem dX3_costRows_29 : decode cX3_costRows 29 = .ok (.iload_n 1, 1) := by decide +kernel
theorem dX3_costRows_30 : decode cX3_costRows 30 = .ok (.iload_n 2, 1) := by decide +kernel
theorem dX3_costRows_31 : decode cX3_costRows 31 = .ok (.invokevirtual 116, 3) := by decide +kernel
theorem dX3_costRows_34 : decode cX3_costRows 34 = .ok (.goto 4, 3) := by decide +kernel
theorem dX3_costRows_45 : decode cX3_costRows 45 = .ok (.return_, 1) := by decide +kernel
theorem dX3_keepShares_0 : decode cX3_keepShares 0 = .ok (.lconst 0, 1) := by decide +kernel
theorem dX3_keepShares_1 : decode cX3_keepShares 1 = .ok (.lstore_n 1, 1) := by decide +kernel
theorem dX3_keepShares_2 : decode cX3_keepShares 2 = .ok (.iconst 0, 1) := by decide +kernel
theorem dX3_keepShares_3 : decode cX3_keepShares 3 = .ok (.istore_n 3, 1) := by decide +kernel
theorem dX3_keepShares_4 : decode cX3_keepShares 4 = .ok (.iload_n 3, 1) := by decide +kernel
theorem dX3_keepShares_5 : decode cX3_keepShares 5 = .ok (.aload_n 0, 1) := by decide +kernel
theorem dX3_keepShares_6 : decode cX3_keepShares 6 = .ok (.getfield 46, 3) := by decide +kernel
theorem dX3_keepShares_9 : decode cX3_keepShares 9 = .ok (.if_icmp .ge 25, 3) := by decide +kernel
theorem dX3_keepShares_12 : decode cX3_keepShares 12 = .ok (.lload_n 1, 1) := by decide +kernel
theorem dX3_keepShares_13 : decode cX3_keepShares 13 = .ok (.aload_n 0, 1) := by decide +kernel
theorem dX3_keepShares_14 : decode cX3_keepShares 14 = .ok (.getfield 31, 3) := by decide +kernel
theorem dX3_keepShares_17 : decode cX3_keepShares 17 = .ok (.iload_n 3, 1) := by decide +kernel
theorem dX3_keepShares_18 : decode cX3_keepShares 18 = .ok (.aaload, 1) := by decide +kernel
theorem dX3_keepShares_19 : decode cX3_keepShares 19 = .ok (.aload_n 0, 1) := by decide +kernel
theorem dX3_keepShares_20 : decode cX3_keepShares 20 = .ok (.getfield 40, 3) := by decide +kernel
theorem dX3_keepShares_23 : decode cX3_keepShares 23 = .ok (.iload_n 3, 1) := by decide +kernel
theorem dX3_keepShares_24 : decode cX3_keepShares 24 = .ok (.iaload, 1) := by decide +kernel
theorem dX3_keepShares_25 : decode cX3_keepShares 25 = .ok (.laload, 1) := by decide +kernel
theorem dX3_keepShares_26 : decode cX3_keepShares 26 = .ok (.ladd, 1) := by decide +kernel
theorem dX3_keepShares_27 : decode cX3_keepShares 27 = .ok (.lstore_n 1, 1) := by decide +kernel
theorem dX3_keepShares_28 : decode cX3_keepShares 28 = .ok (.iinc 3 1, 3) := by decide +kernel
theorem dX3_keepShares_31 : decode cX3_keepShares 31 = .ok (.goto (-27), 3) := by decide +kernel
theorem dX3_keepShares_34 : decode cX3_keepShares 34 = .ok (.lload_n 1, 1) := by decide +kernel
theorem dX3_keepShares_35 : decode cX3_keepShares 35 = .ok (.aload_n 0, 1) := by decide +kernel
theorem dX3_keepShares_36 : decode cX3_keepShares 36 = .ok (.getfield 102, 3) := by decide +kernel
theorem dX3_keepShares_39 : decode cX3_keepShares 39 = .ok (.lcmp, 1) := by decide +kernel
theorem dX3_keepShares_40 : decode cX3_keepShares 40 = .ok (.ifCond .ge 25, 3) := by decide +kernel
theorem dX3_keepShares_65 : decode cX3_keepShares 65 = .ok (.return_, 1) := by decide +kernel
theorem dX3_keepShares_43 : decode cX3_keepShares 43 = .ok (.aload_n 0, 1) := by decide +kernel
theorem dX3_keepShares_44 : decode cX3_keepShares 44 = .ok (.lload_n 1, 1) := by decide +kernel
theorem dX3_keepShares_45 : decode cX3_keepShares 45 = .ok (.putfield 102, 3) := by decide +kernel
theorem dX3_keepShares_48 : decode cX3_keepShares 48 = .ok (.aload_n 0, 1) := by decide +kernel
theorem dX3_keepShares_49 : decode cX3_keepShares 49 = .ok (.getfield 40, 3) := by decide +kernel
theorem dX3_keepShares_52 : decode cX3_keepShares 52 = .ok (.iconst 0, 1) := by decide +kernel
theorem dX3_keepShares_53 : decode cX3_keepShares 53 = .ok (.aload_n 0, 1) := by decide +kernel
theorem dX3_keepShares_54 : decode cX3_keepShares 54 = .ok (.getfield 43, 3) := by decide +kernel
theorem dX3_keepShares_57 : decode cX3_keepShares 57 = .ok (.iconst 0, 1) := by decide +kernel
theorem dX3_keepShares_58 : decode cX3_keepShares 58 = .ok (.aload_n 0, 1) := by decide +kernel
theorem dX3_keepShares_59 : decode cX3_keepShares 59 = .ok (.getfield 46, 3) := by decide +kernel
theorem dX3_keepShares_62 : decode cX3_keepShares 62 = .ok (.invokestatic 83, 3) := by decide +kernel
theorem dX3_share_0 : decode cX3_share 0 = .ok (.iload_n 1, 1) := by decide +kernel
theorem dX3_share_1 : decode cX3_share 1 = .ok (.aload_n 0, 1) := by decide +kernel
theorem dX3_share_2 : decode cX3_share 2 = .ok (.getfield 53, 3) := by decide +kernel
theorem dX3_share_5 : decode cX3_share 5 = .ok (.if_icmp .lt 8, 3) := by decide +kernel
theorem dX3_share_13 : decode cX3_share 13 = .ok (.aload_n 0, 1) := by decide +kernel
theorem dX3_share_14 : decode cX3_share 14 = .ok (.getfield 26, 3) := by decide +kernel
theorem dX3_share_17 : decode cX3_share 17 = .ok (.iload_n 1, 1) := by decide +kernel
theorem dX3_share_18 : decode cX3_share 18 = .ok (.iaload, 1) := by decide +kernel
theorem dX3_share_19 : decode cX3_share 19 = .ok (.ifCond .ne 11, 3) := by decide +kernel
theorem dX3_share_30 : decode cX3_share 30 = .ok (.iconst 0, 1) := by decide +kernel
theorem dX3_share_31 : decode cX3_share 31 = .ok (.istore_n 2, 1) := by decide +kernel
theorem dX3_share_32 : decode cX3_share 32 = .ok (.iload_n 2, 1) := by decide +kernel
theorem dX3_share_33 : decode cX3_share 33 = .ok (.aload_n 0, 1) := by decide +kernel
theorem dX3_share_34 : decode cX3_share 34 = .ok (.getfield 46, 3) := by decide +kernel
theorem dX3_share_37 : decode cX3_share 37 = .ok (.if_icmp .ge 55, 3) := by decide +kernel
theorem dX3_share_40 : decode cX3_share 40 = .ok (.aload_n 0, 1) := by decide +kernel
theorem dX3_share_41 : decode cX3_share 41 = .ok (.getfield 26, 3) := by decide +kernel
theorem dX3_share_44 : decode cX3_share 44 = .ok (.iload_n 1, 1) := by decide +kernel
theorem dX3_share_45 : decode cX3_share 45 = .ok (.iaload, 1) := by decide +kernel
theorem dX3_share_46 : decode cX3_share 46 = .ok (.iload_n 2, 1) := by decide +kernel
theorem dX3_share_47 : decode cX3_share 47 = .ok (.ishr, 1) := by decide +kernel
theorem dX3_share_48 : decode cX3_share 48 = .ok (.iconst 1, 1) := by decide +kernel
theorem dX3_share_49 : decode cX3_share 49 = .ok (.iand, 1) := by decide +kernel
theorem dX3_share_50 : decode cX3_share 50 = .ok (.ifCond .eq 36, 3) := by decide +kernel
theorem dX3_share_86 : decode cX3_share 86 = .ok (.iinc 2 1, 3) := by decide +kernel
theorem dX3_share_89 : decode cX3_share 89 = .ok (.goto (-57), 3) := by decide +kernel
theorem dX3_share_53 : decode cX3_share 53 = .ok (.aload_n 0, 1) := by decide +kernel
theorem dX3_share_54 : decode cX3_share 54 = .ok (.getfield 40, 3) := by decide +kernel
theorem dX3_share_57 : decode cX3_share 57 = .ok (.iload_n 2, 1) := by decide +kernel
theorem dX3_share_58 : decode cX3_share 58 = .ok (.dup2, 1) := by decide +kernel
theorem dX3_share_59 : decode cX3_share 59 = .ok (.iaload, 1) := by decide +kernel
theorem dX3_share_60 : decode cX3_share 60 = .ok (.iconst 1, 1) := by decide +kernel
theorem dX3_share_61 : decode cX3_share 61 = .ok (.iload_n 1, 1) := by decide +kernel
theorem dX3_share_62 : decode cX3_share 62 = .ok (.ishl, 1) := by decide +kernel
theorem dX3_share_63 : decode cX3_share 63 = .ok (.ior, 1) := by decide +kernel
theorem dX3_share_64 : decode cX3_share 64 = .ok (.iastore, 1) := by decide +kernel
theorem dX3_share_65 : decode cX3_share 65 = .ok (.aload_n 0, 1) := by decide +kernel
theorem dX3_share_66 : decode cX3_share 66 = .ok (.iload_n 1, 1) := by decide +kernel
theorem dX3_share_67 : decode cX3_share 67 = .ok (.iconst 1, 1) := by decide +kernel
theorem dX3_share_68 : decode cX3_share 68 = .ok (.iadd, 1) := by decide +kernel
theorem dX3_share_69 : decode cX3_share 69 = .ok (.invokevirtual 106, 3) := by decide +kernel
theorem dX3_share_72 : decode cX3_share 72 = .ok (.aload_n 0, 1) := by decide +kernel
theorem dX3_share_73 : decode cX3_share 73 = .ok (.getfield 40, 3) := by decide +kernel
theorem dX3_share_76 : decode cX3_share 76 = .ok (.iload_n 2, 1) := by decide +kernel
theorem dX3_share_77 : decode cX3_share 77 = .ok (.dup2, 1) := by decide +kernel
theorem dX3_share_78 : decode cX3_share 78 = .ok (.iaload, 1) := by decide +kernel
theorem dX3_share_79 : decode cX3_share 79 = .ok (.iconst 1, 1) := by decide +kernel
theorem dX3_share_80 : decode cX3_share 80 = .ok (.iload_n 1, 1) := by decide +kernel
theorem dX3_share_81 : decode cX3_share 81 = .ok (.ishl, 1) := by decide +kernel
theorem dX3_share_82 : decode cX3_share 82 = .ok (.iconst (-1), 1) := by decide +kernel
theorem dX3_share_83 : decode cX3_share 83 = .ok (.ixor, 1) := by decide +kernel
theorem dX3_share_84 : decode cX3_share 84 = .ok (.iand, 1) := by decide +kernel
theorem dX3_share_85 : decode cX3_share 85 = .ok (.iastore, 1) := by decide +kernel
theorem dX3_share_92 : decode cX3_share 92 = .ok (.return_, 1) := by decide +kernel
theorem dX3_share_22 : decode cX3_share 22 = .ok (.aload_n 0, 1) := by decide +kernel
theorem dX3_share_23 : decode cX3_share 23 = .ok (.iload_n 1, 1) := by decide +kernel
theorem dX3_share_24 : decode cX3_share 24 = .ok (.iconst 1, 1) := by decide +kernel
theorem dX3_share_25 : decode cX3_share 25 = .ok (.iadd, 1) := by decide +kernel
theorem dX3_share_26 : decode cX3_share 26 = .ok (.invokevirtual 106, 3) := by decide +kernel
theorem dX3_share_29 : decode cX3_share 29 = .ok (.return_, 1) := by decide +kernel
theorem dX3_share_8 : decode cX3_share 8 = .ok (.aload_n 0, 1) := by decide +kernel
theorem dX3_share_9 : decode cX3_share 9 = .ok (.invokevirtual 138, 3) := by decide +kernel
theorem dX3_share_12 : decode cX3_share 12 = .ok (.return_, 1) := by decide +kernel
theorem dX3_keepRow_0 : decode cX3_keepRow 0 = .ok (.aload_n 0, 1) := by decide +kernel
theorem dX3_keepRow_1 : decode cX3_keepRow 1 = .ok (.iload_n 1, 1) := by decide +kernel
theorem dX3_keepRow_2 : decode cX3_keepRow 2 = .ok (.iload_n 2, 1) := by decide +kernel
theorem dX3_keepRow_3 : decode cX3_keepRow 3 = .ok (.invokevirtual 116, 3) := by decide +kernel
theorem dX3_keepRow_6 : decode cX3_keepRow 6 = .ok (.pop2, 1) := by decide +kernel
theorem dX3_keepRow_7 : decode cX3_keepRow 7 = .ok (.aload_n 0, 1) := by decide +kernel
theorem dX3_keepRow_8 : decode cX3_keepRow 8 = .ok (.getfield 13, 3) := by decide +kernel
theorem dX3_keepRow_11 : decode cX3_keepRow 11 = .ok (.iload_n 1, 1) := by decide +kernel
theorem dX3_keepRow_12 : decode cX3_keepRow 12 = .ok (.aaload, 1) := by decide +kernel
theorem dX3_keepRow_13 : decode cX3_keepRow 13 = .ok (.iconst 1, 1) := by decide +kernel
theorem dX3_keepRow_14 : decode cX3_keepRow 14 = .ok (.iaload, 1) := by decide +kernel
theorem dX3_keepRow_15 : decode cX3_keepRow 15 = .ok (.istore_n 3, 1) := by decide +kernel
theorem dX3_keepRow_16 : decode cX3_keepRow 16 = .ok (.aload_n 0, 1) := by decide +kernel
theorem dX3_keepRow_17 : decode cX3_keepRow 17 = .ok (.getfield 13, 3) := by decide +kernel
theorem dX3_keepRow_20 : decode cX3_keepRow 20 = .ok (.iload_n 1, 1) := by decide +kernel
theorem dX3_keepRow_21 : decode cX3_keepRow 21 = .ok (.aaload, 1) := by decide +kernel
theorem dX3_keepRow_22 : decode cX3_keepRow 22 = .ok (.iconst 0, 1) := by decide +kernel
theorem dX3_keepRow_23 : decode cX3_keepRow 23 = .ok (.iaload, 1) := by decide +kernel
theorem dX3_keepRow_24 : decode cX3_keepRow 24 = .ok (.istore 4, 2) := by decide +kernel
theorem dX3_keepRow_26 : decode cX3_keepRow 26 = .ok (.iconst 0, 1) := by decide +kernel
theorem dX3_keepRow_27 : decode cX3_keepRow 27 = .ok (.aload_n 0, 1) := by decide +kernel
theorem dX3_keepRow_28 : decode cX3_keepRow 28 = .ok (.getfield 13, 3) := by decide +kernel
theorem dX3_keepRow_31 : decode cX3_keepRow 31 = .ok (.iload_n 1, 1) := by decide +kernel
theorem dX3_keepRow_32 : decode cX3_keepRow 32 = .ok (.aaload, 1) := by decide +kernel
theorem dX3_keepRow_33 : decode cX3_keepRow 33 = .ok (.iconst 2, 1) := by decide +kernel
theorem dX3_keepRow_34 : decode cX3_keepRow 34 = .ok (.iaload, 1) := by decide +kernel
theorem dX3_keepRow_35 : decode cX3_keepRow 35 = .ok (.aload_n 0, 1) := by decide +kernel
theorem dX3_keepRow_36 : decode cX3_keepRow 36 = .ok (.getfield 89, 3) := by decide +kernel
theorem dX3_keepRow_39 : decode cX3_keepRow 39 = .ok (.isub, 1) := by decide +kernel
theorem dX3_keepRow_40 : decode cX3_keepRow 40 = .ok (.invokestatic 80, 3) := by decide +kernel
theorem dX3_keepRow_43 : decode cX3_keepRow 43 = .ok (.istore 5, 2) := by decide +kernel
theorem dX3_keepRow_45 : decode cX3_keepRow 45 = .ok (.iload_n 2, 1) := by decide +kernel
theorem dX3_keepRow_46 : decode cX3_keepRow 46 = .ok (.invokestatic 141, 3) := by decide +kernel
theorem dX3_keepRow_49 : decode cX3_keepRow 49 = .ok (.istore 6, 2) := by decide +kernel
theorem dX3_keepRow_51 : decode cX3_keepRow 51 = .ok (.iconst 0, 1) := by decide +kernel
theorem dX3_keepRow_52 : decode cX3_keepRow 52 = .ok (.istore 7, 2) := by decide +kernel
theorem dX3_keepRow_54 : decode cX3_keepRow 54 = .ok (.iload 7, 2) := by decide +kernel
theorem dX3_keepRow_56 : decode cX3_keepRow 56 = .ok (.iload 6, 2) := by decide +kernel
theorem dX3_keepRow_58 : decode cX3_keepRow 58 = .ok (.if_icmp .ge 117, 3) := by decide +kernel
theorem dX3_keepRow_61 : decode cX3_keepRow 61 = .ok (.iload 7, 2) := by decide +kernel
theorem dX3_keepRow_63 : decode cX3_keepRow 63 = .ok (.bipush 6, 2) := by decide +kernel
theorem dX3_keepRow_65 : decode cX3_keepRow 65 = .ok (.if_icmp .ge 110, 3) := by decide +kernel
theorem dX3_keepRow_68 : decode cX3_keepRow 68 = .ok (.aload_n 0, 1) := by decide +kernel
theorem dX3_keepRow_69 : decode cX3_keepRow 69 = .ok (.getfield 19, 3) := by decide +kernel
theorem dX3_keepRow_72 : decode cX3_keepRow 72 = .ok (.aload_n 0, 1) := by decide +kernel
theorem dX3_keepRow_73 : decode cX3_keepRow 73 = .ok (.getfield 37, 3) := by decide +kernel
theorem dX3_keepRow_76 : decode cX3_keepRow 76 = .ok (.iload 7, 2) := by decide +kernel
theorem dX3_keepRow_78 : decode cX3_keepRow 78 = .ok (.iaload, 1) := by decide +kernel
theorem dX3_keepRow_79 : decode cX3_keepRow 79 = .ok (.iaload, 1) := by decide +kernel
theorem dX3_keepRow_80 : decode cX3_keepRow 80 = .ok (.istore 8, 2) := by decide +kernel
theorem dX3_keepRow_82 : decode cX3_keepRow 82 = .ok (.aload_n 0, 1) := by decide +kernel
theorem dX3_keepRow_83 : decode cX3_keepRow 83 = .ok (.getfield 16, 3) := by decide +kernel
theorem dX3_keepRow_86 : decode cX3_keepRow 86 = .ok (.iload 8, 2) := by decide +kernel
theorem dX3_keepRow_88 : decode cX3_keepRow 88 = .ok (.aaload, 1) := by decide +kernel
theorem dX3_keepRow_89 : decode cX3_keepRow 89 = .ok (.astore 9, 2) := by decide +kernel
theorem dX3_keepRow_91 : decode cX3_keepRow 91 = .ok (.aload_n 0, 1) := by decide +kernel
theorem dX3_keepRow_92 : decode cX3_keepRow 92 = .ok (.getfield 23, 3) := by decide +kernel
theorem dX3_keepRow_95 : decode cX3_keepRow 95 = .ok (.iload 8, 2) := by decide +kernel
theorem dX3_keepRow_97 : decode cX3_keepRow 97 = .ok (.aaload, 1) := by decide +kernel
theorem dX3_keepRow_98 : decode cX3_keepRow 98 = .ok (.astore 10, 2) := by decide +kernel
theorem dX3_keepRow_100 : decode cX3_keepRow 100 = .ok (.aload 10, 2) := by decide +kernel
theorem dX3_keepRow_102 : decode cX3_keepRow 102 = .ok (.iconst 0, 1) := by decide +kernel
theorem dX3_keepRow_103 : decode cX3_keepRow 103 = .ok (.iload_n 1, 1) := by decide +kernel
theorem dX3_keepRow_104 : decode cX3_keepRow 104 = .ok (.iastore, 1) := by decide +kernel
theorem dX3_keepRow_105 : decode cX3_keepRow 105 = .ok (.aload 10, 2) := by decide +kernel
theorem dX3_keepRow_107 : decode cX3_keepRow 107 = .ok (.iconst 1, 1) := by decide +kernel
theorem dX3_keepRow_108 : decode cX3_keepRow 108 = .ok (.iload 5, 2) := by decide +kernel
theorem dX3_keepRow_110 : decode cX3_keepRow 110 = .ok (.iload 4, 2) := by decide +kernel
theorem dX3_keepRow_112 : decode cX3_keepRow 112 = .ok (.aload 9, 2) := by decide +kernel
theorem dX3_keepRow_114 : decode cX3_keepRow 114 = .ok (.iconst 0, 1) := by decide +kernel
theorem dX3_keepRow_115 : decode cX3_keepRow 115 = .ok (.iaload, 1) := by decide +kernel
theorem dX3_keepRow_116 : decode cX3_keepRow 116 = .ok (.isub, 1) := by decide +kernel
theorem dX3_keepRow_117 : decode cX3_keepRow 117 = .ok (.invokestatic 131, 3) := by decide +kernel
theorem dX3_keepRow_120 : decode cX3_keepRow 120 = .ok (.iload_n 3, 1) := by decide +kernel
theorem dX3_keepRow_121 : decode cX3_keepRow 121 = .ok (.imul, 1) := by decide +kernel
theorem dX3_keepRow_122 : decode cX3_keepRow 122 = .ok (.iadd, 1) := by decide +kernel
theorem dX3_keepRow_123 : decode cX3_keepRow 123 = .ok (.iastore, 1) := by decide +kernel
theorem dX3_keepRow_124 : decode cX3_keepRow 124 = .ok (.aload 10, 2) := by decide +kernel
theorem dX3_keepRow_126 : decode cX3_keepRow 126 = .ok (.iconst 2, 1) := by decide +kernel
theorem dX3_keepRow_127 : decode cX3_keepRow 127 = .ok (.aload 10, 2) := by decide +kernel
theorem dX3_keepRow_129 : decode cX3_keepRow 129 = .ok (.iconst 1, 1) := by decide +kernel
theorem dX3_keepRow_130 : decode cX3_keepRow 130 = .ok (.iaload, 1) := by decide +kernel
theorem dX3_keepRow_131 : decode cX3_keepRow 131 = .ok (.iconst 3, 1) := by decide +kernel
theorem dX3_keepRow_132 : decode cX3_keepRow 132 = .ok (.iadd, 1) := by decide +kernel
theorem dX3_keepRow_133 : decode cX3_keepRow 133 = .ok (.aload 9, 2) := by decide +kernel
theorem dX3_keepRow_135 : decode cX3_keepRow 135 = .ok (.iconst 1, 1) := by decide +kernel
theorem dX3_keepRow_136 : decode cX3_keepRow 136 = .ok (.iaload, 1) := by decide +kernel
theorem dX3_keepRow_137 : decode cX3_keepRow 137 = .ok (.aload 9, 2) := by decide +kernel
theorem dX3_keepRow_139 : decode cX3_keepRow 139 = .ok (.iconst 0, 1) := by decide +kernel
theorem dX3_keepRow_140 : decode cX3_keepRow 140 = .ok (.iaload, 1) := by decide +kernel
theorem dX3_keepRow_141 : decode cX3_keepRow 141 = .ok (.isub, 1) := by decide +kernel
theorem dX3_keepRow_142 : decode cX3_keepRow 142 = .ok (.invokestatic 131, 3) := by decide +kernel
theorem dX3_keepRow_145 : decode cX3_keepRow 145 = .ok (.iload_n 3, 1) := by decide +kernel
theorem dX3_keepRow_146 : decode cX3_keepRow 146 = .ok (.imul, 1) := by decide +kernel
theorem dX3_keepRow_147 : decode cX3_keepRow 147 = .ok (.iadd, 1) := by decide +kernel
theorem dX3_keepRow_148 : decode cX3_keepRow 148 = .ok (.iastore, 1) := by decide +kernel
theorem dX3_keepRow_149 : decode cX3_keepRow 149 = .ok (.aload 10, 2) := by decide +kernel
theorem dX3_keepRow_151 : decode cX3_keepRow 151 = .ok (.iconst 3, 1) := by decide +kernel
theorem dX3_keepRow_152 : decode cX3_keepRow 152 = .ok (.iload 7, 2) := by decide +kernel
theorem dX3_keepRow_154 : decode cX3_keepRow 154 = .ok (.iastore, 1) := by decide +kernel
theorem dX3_keepRow_155 : decode cX3_keepRow 155 = .ok (.aload 10, 2) := by decide +kernel
theorem dX3_keepRow_157 : decode cX3_keepRow 157 = .ok (.iconst 2, 1) := by decide +kernel
theorem dX3_keepRow_158 : decode cX3_keepRow 158 = .ok (.iaload, 1) := by decide +kernel
theorem dX3_keepRow_159 : decode cX3_keepRow 159 = .ok (.iconst 3, 1) := by decide +kernel
theorem dX3_keepRow_160 : decode cX3_keepRow 160 = .ok (.iadd, 1) := by decide +kernel
theorem dX3_keepRow_161 : decode cX3_keepRow 161 = .ok (.istore 5, 2) := by decide +kernel
theorem dX3_keepRow_163 : decode cX3_keepRow 163 = .ok (.aload 9, 2) := by decide +kernel
theorem dX3_keepRow_165 : decode cX3_keepRow 165 = .ok (.iconst 1, 1) := by decide +kernel
theorem dX3_keepRow_166 : decode cX3_keepRow 166 = .ok (.iaload, 1) := by decide +kernel
theorem dX3_keepRow_167 : decode cX3_keepRow 167 = .ok (.istore 4, 2) := by decide +kernel
theorem dX3_keepRow_169 : decode cX3_keepRow 169 = .ok (.iinc 7 1, 3) := by decide +kernel
theorem dX3_keepRow_172 : decode cX3_keepRow 172 = .ok (.goto (-118), 3) := by decide +kernel
theorem dX3_keepRow_175 : decode cX3_keepRow 175 = .ok (.return_, 1) := by decide +kernel
theorem dX3_makeGiving_0 : decode cX3_makeGiving 0 = .ok (.aload_n 0, 1) := by decide +kernel
theorem dX3_makeGiving_1 : decode cX3_makeGiving 1 = .ok (.iload_n 1, 1) := by decide +kernel
theorem dX3_makeGiving_2 : decode cX3_makeGiving 2 = .ok (.putfield 89, 3) := by decide +kernel
theorem dX3_makeGiving_5 : decode cX3_makeGiving 5 = .ok (.iconst 0, 1) := by decide +kernel
theorem dX3_makeGiving_6 : decode cX3_makeGiving 6 = .ok (.istore_n 3, 1) := by decide +kernel
theorem dX3_makeGiving_7 : decode cX3_makeGiving 7 = .ok (.iload_n 3, 1) := by decide +kernel
theorem dX3_makeGiving_8 : decode cX3_makeGiving 8 = .ok (.aload_n 0, 1) := by decide +kernel
theorem dX3_makeGiving_9 : decode cX3_makeGiving 9 = .ok (.getfield 50, 3) := by decide +kernel
theorem dX3_makeGiving_12 : decode cX3_makeGiving 12 = .ok (.if_icmp .ge 19, 3) := by decide +kernel
theorem dX3_makeGiving_15 : decode cX3_makeGiving 15 = .ok (.aload_n 0, 1) := by decide +kernel
theorem dX3_makeGiving_16 : decode cX3_makeGiving 16 = .ok (.getfield 23, 3) := by decide +kernel
theorem dX3_makeGiving_19 : decode cX3_makeGiving 19 = .ok (.iload_n 3, 1) := by decide +kernel
theorem dX3_makeGiving_20 : decode cX3_makeGiving 20 = .ok (.aaload, 1) := by decide +kernel
theorem dX3_makeGiving_21 : decode cX3_makeGiving 21 = .ok (.iconst (-1), 1) := by decide +kernel
theorem dX3_makeGiving_22 : decode cX3_makeGiving 22 = .ok (.invokestatic 56, 3) := by decide +kernel
theorem dX3_makeGiving_25 : decode cX3_makeGiving 25 = .ok (.iinc 3 1, 3) := by decide +kernel
theorem dX3_makeGiving_28 : decode cX3_makeGiving 28 = .ok (.goto (-21), 3) := by decide +kernel
theorem dX3_makeGiving_31 : decode cX3_makeGiving 31 = .ok (.iconst 0, 1) := by decide +kernel
theorem dX3_makeGiving_32 : decode cX3_makeGiving 32 = .ok (.istore_n 3, 1) := by decide +kernel
theorem dX3_makeGiving_33 : decode cX3_makeGiving 33 = .ok (.iload_n 3, 1) := by decide +kernel
theorem dX3_makeGiving_34 : decode cX3_makeGiving 34 = .ok (.aload_n 0, 1) := by decide +kernel
theorem dX3_makeGiving_35 : decode cX3_makeGiving 35 = .ok (.getfield 53, 3) := by decide +kernel
theorem dX3_makeGiving_38 : decode cX3_makeGiving 38 = .ok (.if_icmp .ge 33, 3) := by decide +kernel
theorem dX3_makeGiving_41 : decode cX3_makeGiving 41 = .ok (.aload_n 0, 1) := by decide +kernel
theorem dX3_makeGiving_42 : decode cX3_makeGiving 42 = .ok (.getfield 26, 3) := by decide +kernel
theorem dX3_makeGiving_45 : decode cX3_makeGiving 45 = .ok (.iload_n 3, 1) := by decide +kernel
theorem dX3_makeGiving_46 : decode cX3_makeGiving 46 = .ok (.iload_n 2, 1) := by decide +kernel
theorem dX3_makeGiving_47 : decode cX3_makeGiving 47 = .ok (.ifCond .eq 7, 3) := by decide +kernel
theorem dX3_makeGiving_54 : decode cX3_makeGiving 54 = .ok (.aload_n 0, 1) := by decide +kernel
theorem dX3_makeGiving_55 : decode cX3_makeGiving 55 = .ok (.aload_n 0, 1) := by decide +kernel
theorem dX3_makeGiving_56 : decode cX3_makeGiving 56 = .ok (.getfield 19, 3) := by decide +kernel
theorem dX3_makeGiving_59 : decode cX3_makeGiving 59 = .ok (.iload_n 3, 1) := by decide +kernel
theorem dX3_makeGiving_60 : decode cX3_makeGiving 60 = .ok (.iaload, 1) := by decide +kernel
theorem dX3_makeGiving_61 : decode cX3_makeGiving 61 = .ok (.invokevirtual 92, 3) := by decide +kernel
theorem dX3_makeGiving_64 : decode cX3_makeGiving 64 = .ok (.iastore, 1) := by decide +kernel
theorem dX3_makeGiving_65 : decode cX3_makeGiving 65 = .ok (.iinc 3 1, 3) := by decide +kernel
theorem dX3_makeGiving_68 : decode cX3_makeGiving 68 = .ok (.goto (-35), 3) := by decide +kernel
theorem dX3_makeGiving_50 : decode cX3_makeGiving 50 = .ok (.iconst 0, 1) := by decide +kernel
theorem dX3_makeGiving_51 : decode cX3_makeGiving 51 = .ok (.goto 13, 3) := by decide +kernel
theorem dX3_makeGiving_71 : decode cX3_makeGiving 71 = .ok (.iconst 0, 1) := by decide +kernel
theorem dX3_makeGiving_72 : decode cX3_makeGiving 72 = .ok (.istore_n 3, 1) := by decide +kernel
theorem dX3_makeGiving_73 : decode cX3_makeGiving 73 = .ok (.iload_n 3, 1) := by decide +kernel
theorem dX3_makeGiving_74 : decode cX3_makeGiving 74 = .ok (.aload_n 0, 1) := by decide +kernel
theorem dX3_makeGiving_75 : decode cX3_makeGiving 75 = .ok (.getfield 46, 3) := by decide +kernel
theorem dX3_makeGiving_78 : decode cX3_makeGiving 78 = .ok (.if_icmp .ge 14, 3) := by decide +kernel
theorem dX3_makeGiving_81 : decode cX3_makeGiving 81 = .ok (.aload_n 0, 1) := by decide +kernel
theorem dX3_makeGiving_82 : decode cX3_makeGiving 82 = .ok (.iload_n 3, 1) := by decide +kernel
theorem dX3_makeGiving_83 : decode cX3_makeGiving 83 = .ok (.invokevirtual 95, 3) := by decide +kernel
theorem dX3_makeGiving_86 : decode cX3_makeGiving 86 = .ok (.iinc 3 1, 3) := by decide +kernel
theorem dX3_makeGiving_89 : decode cX3_makeGiving 89 = .ok (.goto (-16), 3) := by decide +kernel
theorem dX3_makeGiving_92 : decode cX3_makeGiving 92 = .ok (.aload_n 0, 1) := by decide +kernel
theorem dX3_makeGiving_93 : decode cX3_makeGiving 93 = .ok (.getfield 40, 3) := by decide +kernel
theorem dX3_makeGiving_96 : decode cX3_makeGiving 96 = .ok (.iconst 0, 1) := by decide +kernel
theorem dX3_makeGiving_97 : decode cX3_makeGiving 97 = .ok (.invokestatic 56, 3) := by decide +kernel
theorem dX3_makeGiving_100 : decode cX3_makeGiving 100 = .ok (.aload_n 0, 1) := by decide +kernel
theorem dX3_makeGiving_101 : decode cX3_makeGiving 101 = .ok (.ldc2_w 100, 3) := by decide +kernel
theorem dX3_makeGiving_104 : decode cX3_makeGiving 104 = .ok (.putfield 102, 3) := by decide +kernel
theorem dX3_makeGiving_107 : decode cX3_makeGiving 107 = .ok (.aload_n 0, 1) := by decide +kernel
theorem dX3_makeGiving_108 : decode cX3_makeGiving 108 = .ok (.iconst 0, 1) := by decide +kernel
theorem dX3_makeGiving_109 : decode cX3_makeGiving 109 = .ok (.invokevirtual 106, 3) := by decide +kernel
theorem dX3_makeGiving_112 : decode cX3_makeGiving 112 = .ok (.iconst 0, 1) := by decide +kernel
theorem dX3_makeGiving_113 : decode cX3_makeGiving 113 = .ok (.istore_n 3, 1) := by decide +kernel
theorem dX3_makeGiving_114 : decode cX3_makeGiving 114 = .ok (.iload_n 3, 1) := by decide +kernel
theorem dX3_makeGiving_115 : decode cX3_makeGiving 115 = .ok (.aload_n 0, 1) := by decide +kernel
theorem dX3_makeGiving_116 : decode cX3_makeGiving 116 = .ok (.getfield 46, 3) := by decide +kernel
theorem dX3_makeGiving_119 : decode cX3_makeGiving 119 = .ok (.if_icmp .ge 20, 3) := by decide +kernel
theorem dX3_makeGiving_122 : decode cX3_makeGiving 122 = .ok (.aload_n 0, 1) := by decide +kernel
theorem dX3_makeGiving_123 : decode cX3_makeGiving 123 = .ok (.iload_n 3, 1) := by decide +kernel
theorem dX3_makeGiving_124 : decode cX3_makeGiving 124 = .ok (.aload_n 0, 1) := by decide +kernel
theorem dX3_makeGiving_125 : decode cX3_makeGiving 125 = .ok (.getfield 43, 3) := by decide +kernel
theorem dX3_makeGiving_128 : decode cX3_makeGiving 128 = .ok (.iload_n 3, 1) := by decide +kernel
theorem dX3_makeGiving_129 : decode cX3_makeGiving 129 = .ok (.iaload, 1) := by decide +kernel
theorem dX3_makeGiving_130 : decode cX3_makeGiving 130 = .ok (.invokevirtual 109, 3) := by decide +kernel
theorem dX3_makeGiving_133 : decode cX3_makeGiving 133 = .ok (.iinc 3 1, 3) := by decide +kernel
theorem dX3_makeGiving_136 : decode cX3_makeGiving 136 = .ok (.goto (-22), 3) := by decide +kernel
theorem dX3_makeGiving_139 : decode cX3_makeGiving 139 = .ok (.aload_n 0, 1) := by decide +kernel
theorem dX3_makeGiving_140 : decode cX3_makeGiving 140 = .ok (.getfield 102, 3) := by decide +kernel
theorem dX3_makeGiving_143 : decode cX3_makeGiving 143 = .ok (.lreturn, 1) := by decide +kernel
theorem dX4_init_0 : decode cX4_init 0 = .ok (.aload_n 0, 1) := by decide +kernel
theorem dX4_init_1 : decode cX4_init 1 = .ok (.invokespecial 5, 3) := by decide +kernel
theorem dX4_init_4 : decode cX4_init 4 = .ok (.aload_n 0, 1) := by decide +kernel
theorem dX4_init_5 : decode cX4_init 5 = .ok (.bipush 50, 2) := by decide +kernel
theorem dX4_init_7 : decode cX4_init 7 = .ok (.newarray .int, 2) := by decide +kernel
theorem dX4_init_9 : decode cX4_init 9 = .ok (.putfield 11, 3) := by decide +kernel
theorem dX4_init_12 : decode cX4_init 12 = .ok (.aload_n 0, 1) := by decide +kernel
theorem dX4_init_13 : decode cX4_init 13 = .ok (.bipush 50, 2) := by decide +kernel
theorem dX4_init_15 : decode cX4_init 15 = .ok (.newarray .boolean, 2) := by decide +kernel
theorem dX4_init_17 : decode cX4_init 17 = .ok (.putfield 15, 3) := by decide +kernel
theorem dX4_init_20 : decode cX4_init 20 = .ok (.aload_n 0, 1) := by decide +kernel
theorem dX4_init_21 : decode cX4_init 21 = .ok (.bipush 50, 2) := by decide +kernel
theorem dX4_init_23 : decode cX4_init 23 = .ok (.newarray .int, 2) := by decide +kernel
theorem dX4_init_25 : decode cX4_init 25 = .ok (.putfield 19, 3) := by decide +kernel
theorem dX4_init_28 : decode cX4_init 28 = .ok (.aload_n 0, 1) := by decide +kernel
theorem dX4_init_29 : decode cX4_init 29 = .ok (.bipush 20, 2) := by decide +kernel
theorem dX4_init_31 : decode cX4_init 31 = .ok (.bipush 14, 2) := by decide +kernel
theorem dX4_init_33 : decode cX4_init 33 = .ok (.multianewarray 24 2, 4) := by decide +kernel
theorem dX4_init_37 : decode cX4_init 37 = .ok (.putfield 26, 3) := by decide +kernel
theorem dX4_init_40 : decode cX4_init 40 = .ok (.aload_n 0, 1) := by decide +kernel
theorem dX4_init_41 : decode cX4_init 41 = .ok (.bipush 20, 2) := by decide +kernel
theorem dX4_init_43 : decode cX4_init 43 = .ok (.iconst 5, 1) := by decide +kernel
theorem dX4_init_44 : decode cX4_init 44 = .ok (.multianewarray 24 2, 4) := by decide +kernel
theorem dX4_init_48 : decode cX4_init 48 = .ok (.putfield 29, 3) := by decide +kernel
theorem dX4_init_51 : decode cX4_init 51 = .ok (.aload_n 0, 1) := by decide +kernel
theorem dX4_init_52 : decode cX4_init 52 = .ok (.bipush 50, 2) := by decide +kernel
theorem dX4_init_54 : decode cX4_init 54 = .ok (.iconst 3, 1) := by decide +kernel
theorem dX4_init_55 : decode cX4_init 55 = .ok (.multianewarray 24 2, 4) := by decide +kernel
theorem dX4_init_59 : decode cX4_init 59 = .ok (.putfield 32, 3) := by decide +kernel
theorem dX4_init_62 : decode cX4_init 62 = .ok (.aload_n 0, 1) := by decide +kernel
theorem dX4_init_63 : decode cX4_init 63 = .ok (.bipush 20, 2) := by decide +kernel
theorem dX4_init_65 : decode cX4_init 65 = .ok (.newarray .int, 2) := by decide +kernel
theorem dX4_init_67 : decode cX4_init 67 = .ok (.putfield 35, 3) := by decide +kernel
theorem dX4_init_70 : decode cX4_init 70 = .ok (.aload_n 0, 1) := by decide +kernel
theorem dX4_init_71 : decode cX4_init 71 = .ok (.bipush 20, 2) := by decide +kernel
theorem dX4_init_73 : decode cX4_init 73 = .ok (.newarray .int, 2) := by decide +kernel
theorem dX4_init_75 : decode cX4_init 75 = .ok (.putfield 38, 3) := by decide +kernel
theorem dX4_init_78 : decode cX4_init 78 = .ok (.aload_n 0, 1) := by decide +kernel
theorem dX4_init_79 : decode cX4_init 79 = .ok (.bipush 20, 2) := by decide +kernel
theorem dX4_init_81 : decode cX4_init 81 = .ok (.newarray .int, 2) := by decide +kernel
theorem dX4_init_83 : decode cX4_init 83 = .ok (.putfield 41, 3) := by decide +kernel
theorem dX4_init_86 : decode cX4_init 86 = .ok (.aload_n 0, 1) := by decide +kernel
theorem dX4_init_87 : decode cX4_init 87 = .ok (.bipush 20, 2) := by decide +kernel
theorem dX4_init_89 : decode cX4_init 89 = .ok (.newarray .boolean, 2) := by decide +kernel
theorem dX4_init_91 : decode cX4_init 91 = .ok (.putfield 44, 3) := by decide +kernel
theorem dX4_init_94 : decode cX4_init 94 = .ok (.aload_n 0, 1) := by decide +kernel
theorem dX4_init_95 : decode cX4_init 95 = .ok (.bipush 20, 2) := by decide +kernel
theorem dX4_init_97 : decode cX4_init 97 = .ok (.newarray .boolean, 2) := by decide +kernel
theorem dX4_init_99 : decode cX4_init 99 = .ok (.putfield 47, 3) := by decide +kernel
theorem dX4_init_102 : decode cX4_init 102 = .ok (.aload_n 0, 1) := by decide +kernel
theorem dX4_init_103 : decode cX4_init 103 = .ok (.bipush 20, 2) := by decide +kernel
theorem dX4_init_105 : decode cX4_init 105 = .ok (.newarray .boolean, 2) := by decide +kernel
theorem dX4_init_107 : decode cX4_init 107 = .ok (.putfield 50, 3) := by decide +kernel
theorem dX4_init_110 : decode cX4_init 110 = .ok (.aload_n 0, 1) := by decide +kernel
theorem dX4_init_111 : decode cX4_init 111 = .ok (.bipush 20, 2) := by decide +kernel
theorem dX4_init_113 : decode cX4_init 113 = .ok (.newarray .boolean, 2) := by decide +kernel
theorem dX4_init_115 : decode cX4_init 115 = .ok (.putfield 53, 3) := by decide +kernel
theorem dX4_init_118 : decode cX4_init 118 = .ok (.aload_n 0, 1) := by decide +kernel
theorem dX4_init_119 : decode cX4_init 119 = .ok (.bipush 60, 2) := by decide +kernel
theorem dX4_init_121 : decode cX4_init 121 = .ok (.iconst 3, 1) := by decide +kernel
theorem dX4_init_122 : decode cX4_init 122 = .ok (.multianewarray 24 2, 4) := by decide +kernel
theorem dX4_init_126 : decode cX4_init 126 = .ok (.putfield 56, 3) := by decide +kernel
theorem dX4_init_129 : decode cX4_init 129 = .ok (.aload_n 0, 1) := by decide +kernel
theorem dX4_init_130 : decode cX4_init 130 = .ok (.aload_n 1, 1) := by decide +kernel
theorem dX4_init_131 : decode cX4_init 131 = .ok (.putfield 59, 3) := by decide +kernel
theorem dX4_init_134 : decode cX4_init 134 = .ok (.aload_n 0, 1) := by decide +kernel
theorem dX4_init_135 : decode cX4_init 135 = .ok (.aload_n 2, 1) := by decide +kernel
theorem dX4_init_136 : decode cX4_init 136 = .ok (.putfield 63, 3) := by decide +kernel
theorem dX4_init_139 : decode cX4_init 139 = .ok (.return_, 1) := by decide +kernel
theorem dX4_sortActs_0 : decode cX4_sortActs 0 = .ok (.iconst 0, 1) := by decide +kernel
theorem dX4_sortActs_1 : decode cX4_sortActs 1 = .ok (.istore_n 1, 1) := by decide +kernel
theorem dX4_sortActs_2 : decode cX4_sortActs 2 = .ok (.iload_n 1, 1) := by decide +kernel
theorem dX4_sortActs_3 : decode cX4_sortActs 3 = .ok (.aload_n 0, 1) := by decide +kernel
theorem dX4_sortActs_4 : decode cX4_sortActs 4 = .ok (.getfield 35, 3) := by decide +kernel
theorem dX4_sortActs_7 : decode cX4_sortActs 7 = .ok (.arraylength, 1) := by decide +kernel
theorem dX4_sortActs_8 : decode cX4_sortActs 8 = .ok (.if_icmp .ge 68, 3) := by decide +kernel
theorem dX4_sortActs_11 : decode cX4_sortActs 11 = .ok (.iload_n 1, 1) := by decide +kernel
theorem dX4_sortActs_12 : decode cX4_sortActs 12 = .ok (.istore_n 2, 1) := by decide +kernel
theorem dX4_sortActs_13 : decode cX4_sortActs 13 = .ok (.iload_n 2, 1) := by decide +kernel
theorem dX4_sortActs_14 : decode cX4_sortActs 14 = .ok (.ifCond .le 49, 3) := by decide +kernel
theorem dX4_sortActs_17 : decode cX4_sortActs 17 = .ok (.aload_n 0, 1) := by decide +kernel
theorem dX4_sortActs_18 : decode cX4_sortActs 18 = .ok (.getfield 29, 3) := by decide +kernel
theorem dX4_sortActs_21 : decode cX4_sortActs 21 = .ok (.aload_n 0, 1) := by decide +kernel
theorem dX4_sortActs_22 : decode cX4_sortActs 22 = .ok (.getfield 35, 3) := by decide +kernel
theorem dX4_sortActs_25 : decode cX4_sortActs 25 = .ok (.iload_n 2, 1) := by decide +kernel
theorem dX4_sortActs_26 : decode cX4_sortActs 26 = .ok (.iconst 1, 1) := by decide +kernel
theorem dX4_sortActs_27 : decode cX4_sortActs 27 = .ok (.isub, 1) := by decide +kernel
theorem dX4_sortActs_28 : decode cX4_sortActs 28 = .ok (.iaload, 1) := by decide +kernel
theorem dX4_sortActs_29 : decode cX4_sortActs 29 = .ok (.aaload, 1) := by decide +kernel
theorem dX4_sortActs_30 : decode cX4_sortActs 30 = .ok (.iconst 2, 1) := by decide +kernel
theorem dX4_sortActs_31 : decode cX4_sortActs 31 = .ok (.iaload, 1) := by decide +kernel
theorem dX4_sortActs_32 : decode cX4_sortActs 32 = .ok (.aload_n 0, 1) := by decide +kernel
theorem dX4_sortActs_33 : decode cX4_sortActs 33 = .ok (.getfield 29, 3) := by decide +kernel
theorem dX4_sortActs_36 : decode cX4_sortActs 36 = .ok (.iload_n 1, 1) := by decide +kernel
theorem dX4_sortActs_37 : decode cX4_sortActs 37 = .ok (.aaload, 1) := by decide +kernel
theorem dX4_sortActs_38 : decode cX4_sortActs 38 = .ok (.iconst 2, 1) := by decide +kernel
theorem dX4_sortActs_39 : decode cX4_sortActs 39 = .ok (.iaload, 1) := by decide +kernel
theorem dX4_sortActs_40 : decode cX4_sortActs 40 = .ok (.if_icmp .ge 23, 3) := by decide +kernel
theorem dX4_sortActs_43 : decode cX4_sortActs 43 = .ok (.aload_n 0, 1) := by decide +kernel
theorem dX4_sortActs_44 : decode cX4_sortActs 44 = .ok (.getfield 35, 3) := by decide +kernel
theorem dX4_sortActs_47 : decode cX4_sortActs 47 = .ok (.iload_n 2, 1) := by decide +kernel
theorem dX4_sortActs_48 : decode cX4_sortActs 48 = .ok (.aload_n 0, 1) := by decide +kernel
theorem dX4_sortActs_49 : decode cX4_sortActs 49 = .ok (.getfield 35, 3) := by decide +kernel
theorem dX4_sortActs_52 : decode cX4_sortActs 52 = .ok (.iload_n 2, 1) := by decide +kernel
theorem dX4_sortActs_53 : decode cX4_sortActs 53 = .ok (.iconst 1, 1) := by decide +kernel
theorem dX4_sortActs_54 : decode cX4_sortActs 54 = .ok (.isub, 1) := by decide +kernel
theorem dX4_sortActs_55 : decode cX4_sortActs 55 = .ok (.iaload, 1) := by decide +kernel
theorem dX4_sortActs_56 : decode cX4_sortActs 56 = .ok (.iastore, 1) := by decide +kernel
theorem dX4_sortActs_57 : decode cX4_sortActs 57 = .ok (.iinc 2 (-1), 3) := by decide +kernel
theorem dX4_sortActs_60 : decode cX4_sortActs 60 = .ok (.goto (-47), 3) := by decide +kernel
theorem dX4_sortActs_63 : decode cX4_sortActs 63 = .ok (.aload_n 0, 1) := by decide +kernel
theorem dX4_sortActs_64 : decode cX4_sortActs 64 = .ok (.getfield 35, 3) := by decide +kernel
theorem dX4_sortActs_67 : decode cX4_sortActs 67 = .ok (.iload_n 2, 1) := by decide +kernel
theorem dX4_sortActs_68 : decode cX4_sortActs 68 = .ok (.iload_n 1, 1) := by decide +kernel
theorem dX4_sortActs_69 : decode cX4_sortActs 69 = .ok (.iastore, 1) := by decide +kernel
theorem dX4_sortActs_70 : decode cX4_sortActs 70 = .ok (.iinc 1 1, 3) := by decide +kernel
theorem dX4_sortActs_73 : decode cX4_sortActs 73 = .ok (.goto (-71), 3) := by decide +kernel
theorem dX4_sortActs_76 : decode cX4_sortActs 76 = .ok (.return_, 1) := by decide +kernel
theorem dX4_takeTables_0 : decode cX4_takeTables 0 = .ok (.iconst 0, 1) := by decide +kernel
theorem dX4_takeTables_1 : decode cX4_takeTables 1 = .ok (.istore_n 2, 1) := by decide +kernel
theorem dX4_takeTables_2 : decode cX4_takeTables 2 = .ok (.iload_n 2, 1) := by decide +kernel
theorem dX4_takeTables_3 : decode cX4_takeTables 3 = .ok (.bipush 20, 2) := by decide +kernel
theorem dX4_takeTables_5 : decode cX4_takeTables 5 = .ok (.if_icmp .ge 33, 3) := by decide +kernel
theorem dX4_takeTables_8 : decode cX4_takeTables 8 = .ok (.aload_n 1, 1) := by decide +kernel
theorem dX4_takeTables_9 : decode cX4_takeTables 9 = .ok (.getfield 67, 3) := by decide +kernel
theorem dX4_takeTables_12 : decode cX4_takeTables 12 = .ok (.iload_n 2, 1) := by decide +kernel
theorem dX4_takeTables_13 : decode cX4_takeTables 13 = .ok (.aaload, 1) := by decide +kernel
theorem dX4_takeTables_14 : decode cX4_takeTables 14 = .ok (.iconst 0, 1) := by decide +kernel
theorem dX4_takeTables_15 : decode cX4_takeTables 15 = .ok (.aload_n 0, 1) := by decide +kernel
theorem dX4_takeTables_16 : decode cX4_takeTables 16 = .ok (.getfield 26, 3) := by decide +kernel
theorem dX4_takeTables_19 : decode cX4_takeTables 19 = .ok (.iload_n 2, 1) := by decide +kernel
theorem dX4_takeTables_20 : decode cX4_takeTables 20 = .ok (.aaload, 1) := by decide +kernel
theorem dX4_takeTables_21 : decode cX4_takeTables 21 = .ok (.iconst 0, 1) := by decide +kernel
theorem dX4_takeTables_22 : decode cX4_takeTables 22 = .ok (.aload_n 0, 1) := by decide +kernel
theorem dX4_takeTables_23 : decode cX4_takeTables 23 = .ok (.getfield 26, 3) := by decide +kernel
theorem dX4_takeTables_26 : decode cX4_takeTables 26 = .ok (.iload_n 2, 1) := by decide +kernel
theorem dX4_takeTables_27 : decode cX4_takeTables 27 = .ok (.aaload, 1) := by decide +kernel
theorem dX4_takeTables_28 : decode cX4_takeTables 28 = .ok (.arraylength, 1) := by decide +kernel
theorem dX4_takeTables_29 : decode cX4_takeTables 29 = .ok (.invokestatic 68, 3) := by decide +kernel
theorem dX4_takeTables_32 : decode cX4_takeTables 32 = .ok (.iinc 2 1, 3) := by decide +kernel
theorem dX4_takeTables_35 : decode cX4_takeTables 35 = .ok (.goto (-33), 3) := by decide +kernel
theorem dX4_takeTables_38 : decode cX4_takeTables 38 = .ok (.iconst 0, 1) := by decide +kernel
theorem dX4_takeTables_39 : decode cX4_takeTables 39 = .ok (.istore_n 2, 1) := by decide +kernel
theorem dX4_takeTables_40 : decode cX4_takeTables 40 = .ok (.iload_n 2, 1) := by decide +kernel
theorem dX4_takeTables_41 : decode cX4_takeTables 41 = .ok (.bipush 20, 2) := by decide +kernel
theorem dX4_takeTables_43 : decode cX4_takeTables 43 = .ok (.if_icmp .ge 40, 3) := by decide +kernel
theorem dX4_takeTables_46 : decode cX4_takeTables 46 = .ok (.aload_n 1, 1) := by decide +kernel
theorem dX4_takeTables_47 : decode cX4_takeTables 47 = .ok (.getfield 74, 3) := by decide +kernel
theorem dX4_takeTables_50 : decode cX4_takeTables 50 = .ok (.iload_n 2, 1) := by decide +kernel
theorem dX4_takeTables_51 : decode cX4_takeTables 51 = .ok (.aaload, 1) := by decide +kernel
theorem dX4_takeTables_52 : decode cX4_takeTables 52 = .ok (.iconst 0, 1) := by decide +kernel
theorem dX4_takeTables_53 : decode cX4_takeTables 53 = .ok (.aload_n 0, 1) := by decide +kernel
theorem dX4_takeTables_54 : decode cX4_takeTables 54 = .ok (.getfield 29, 3) := by decide +kernel
theorem dX4_takeTables_57 : decode cX4_takeTables 57 = .ok (.iload_n 2, 1) := by decide +kernel
theorem dX4_takeTables_58 : decode cX4_takeTables 58 = .ok (.aaload, 1) := by decide +kernel
theorem dX4_takeTables_59 : decode cX4_takeTables 59 = .ok (.iconst 0, 1) := by decide +kernel
theorem dX4_takeTables_60 : decode cX4_takeTables 60 = .ok (.aload_n 0, 1) := by decide +kernel
theorem dX4_takeTables_61 : decode cX4_takeTables 61 = .ok (.getfield 29, 3) := by decide +kernel
theorem dX4_takeTables_64 : decode cX4_takeTables 64 = .ok (.iload_n 2, 1) := by decide +kernel
theorem dX4_takeTables_65 : decode cX4_takeTables 65 = .ok (.aaload, 1) := by decide +kernel
theorem dX4_takeTables_66 : decode cX4_takeTables 66 = .ok (.arraylength, 1) := by decide +kernel
theorem dX4_takeTables_67 : decode cX4_takeTables 67 = .ok (.invokestatic 68, 3) := by decide +kernel
theorem dX4_takeTables_70 : decode cX4_takeTables 70 = .ok (.aload_n 0, 1) := by decide +kernel
theorem dX4_takeTables_71 : decode cX4_takeTables 71 = .ok (.getfield 38, 3) := by decide +kernel
theorem dX4_takeTables_74 : decode cX4_takeTables 74 = .ok (.iload_n 2, 1) := by decide +kernel
theorem dX4_takeTables_75 : decode cX4_takeTables 75 = .ok (.iconst 0, 1) := by decide +kernel
theorem dX4_takeTables_76 : decode cX4_takeTables 76 = .ok (.iastore, 1) := by decide +kernel
theorem dX4_takeTables_77 : decode cX4_takeTables 77 = .ok (.iinc 2 1, 3) := by decide +kernel
theorem dX4_takeTables_80 : decode cX4_takeTables 80 = .ok (.goto (-40), 3) := by decide +kernel
theorem dX4_takeTables_83 : decode cX4_takeTables 83 = .ok (.iconst 0, 1) := by decide +kernel
theorem dX4_takeTables_84 : decode cX4_takeTables 84 = .ok (.istore_n 2, 1) := by decide +kernel
theorem dX4_takeTables_85 : decode cX4_takeTables 85 = .ok (.iload_n 2, 1) := by decide +kernel
theorem dX4_takeTables_86 : decode cX4_takeTables 86 = .ok (.aload_n 1, 1) := by decide +kernel
theorem dX4_takeTables_87 : decode cX4_takeTables 87 = .ok (.getfield 75, 3) := by decide +kernel
theorem dX4_takeTables_90 : decode cX4_takeTables 90 = .ok (.if_icmp .ge 33, 3) := by decide +kernel
theorem dX4_takeTables_93 : decode cX4_takeTables 93 = .ok (.aload_n 1, 1) := by decide +kernel
theorem dX4_takeTables_94 : decode cX4_takeTables 94 = .ok (.getfield 79, 3) := by decide +kernel
theorem dX4_takeTables_97 : decode cX4_takeTables 97 = .ok (.iload_n 2, 1) := by decide +kernel
theorem dX4_takeTables_98 : decode cX4_takeTables 98 = .ok (.aaload, 1) := by decide +kernel
theorem dX4_takeTables_99 : decode cX4_takeTables 99 = .ok (.iconst 0, 1) := by decide +kernel
theorem dX4_takeTables_100 : decode cX4_takeTables 100 = .ok (.aload_n 0, 1) := by decide +kernel
theorem dX4_takeTables_101 : decode cX4_takeTables 101 = .ok (.getfield 32, 3) := by decide +kernel
theorem dX4_takeTables_104 : decode cX4_takeTables 104 = .ok (.iload_n 2, 1) := by decide +kernel
theorem dX4_takeTables_105 : decode cX4_takeTables 105 = .ok (.aaload, 1) := by decide +kernel
theorem dX4_takeTables_106 : decode cX4_takeTables 106 = .ok (.iconst 0, 1) := by decide +kernel
theorem dX4_takeTables_107 : decode cX4_takeTables 107 = .ok (.aload_n 0, 1) := by decide +kernel
theorem dX4_takeTables_108 : decode cX4_takeTables 108 = .ok (.getfield 32, 3) := by decide +kernel
theorem dX4_takeTables_111 : decode cX4_takeTables 111 = .ok (.iload_n 2, 1) := by decide +kernel
theorem dX4_takeTables_112 : decode cX4_takeTables 112 = .ok (.aaload, 1) := by decide +kernel
theorem dX4_takeTables_113 : decode cX4_takeTables 113 = .ok (.arraylength, 1) := by decide +kernel
theorem dX4_takeTables_114 : decode cX4_takeTables 114 = .ok (.invokestatic 68, 3) := by decide +kernel
theorem dX4_takeTables_117 : decode cX4_takeTables 117 = .ok (.iinc 2 1, 3) := by decide +kernel
theorem dX4_takeTables_120 : decode cX4_takeTables 120 = .ok (.goto (-35), 3) := by decide +kernel
theorem dX4_takeTables_123 : decode cX4_takeTables 123 = .ok (.aload_n 0, 1) := by decide +kernel
theorem dX4_takeTables_124 : decode cX4_takeTables 124 = .ok (.aload_n 1, 1) := by decide +kernel
theorem dX4_takeTables_125 : decode cX4_takeTables 125 = .ok (.getfield 75, 3) := by decide +kernel
theorem dX4_takeTables_128 : decode cX4_takeTables 128 = .ok (.putfield 80, 3) := by decide +kernel
theorem dX4_takeTables_131 : decode cX4_takeTables 131 = .ok (.aload_n 0, 1) := by decide +kernel
theorem dX4_takeTables_132 : decode cX4_takeTables 132 = .ok (.invokevirtual 81, 3) := by decide +kernel
theorem dX4_takeTables_135 : decode cX4_takeTables 135 = .ok (.return_, 1) := by decide +kernel
theorem dX4_isZone_0 : decode cX4_isZone 0 = .ok (.iload_n 1, 1) := by decide +kernel
theorem dX4_isZone_1 : decode cX4_isZone 1 = .ok (.ifCond .lt 27, 3) := by decide +kernel
theorem dX4_isZone_28 : decode cX4_isZone 28 = .ok (.iconst 0, 1) := by decide +kernel
theorem dX4_isZone_29 : decode cX4_isZone 29 = .ok (.ireturn, 1) := by decide +kernel
theorem dX4_isZone_4 : decode cX4_isZone 4 = .ok (.iload_n 1, 1) := by decide +kernel
theorem dX4_isZone_5 : decode cX4_isZone 5 = .ok (.aload_n 0, 1) := by decide +kernel
theorem dX4_isZone_6 : decode cX4_isZone 6 = .ok (.getfield 26, 3) := by decide +kernel
theorem dX4_isZone_9 : decode cX4_isZone 9 = .ok (.arraylength, 1) := by decide +kernel
theorem dX4_isZone_10 : decode cX4_isZone 10 = .ok (.if_icmp .ge 18, 3) := by decide +kernel
theorem dX4_isZone_13 : decode cX4_isZone 13 = .ok (.aload_n 0, 1) := by decide +kernel
theorem dX4_isZone_14 : decode cX4_isZone 14 = .ok (.getfield 26, 3) := by decide +kernel
theorem dX4_isZone_17 : decode cX4_isZone 17 = .ok (.iload_n 1, 1) := by decide +kernel
theorem dX4_isZone_18 : decode cX4_isZone 18 = .ok (.aaload, 1) := by decide +kernel
theorem dX4_isZone_19 : decode cX4_isZone 19 = .ok (.iconst 0, 1) := by decide +kernel
theorem dX4_isZone_20 : decode cX4_isZone 20 = .ok (.iaload, 1) := by decide +kernel
theorem dX4_isZone_21 : decode cX4_isZone 21 = .ok (.ifCond .eq 7, 3) := by decide +kernel
theorem dX4_isZone_24 : decode cX4_isZone 24 = .ok (.iconst 1, 1) := by decide +kernel
theorem dX4_isZone_25 : decode cX4_isZone 25 = .ok (.goto 4, 3) := by decide +kernel
theorem dX4_isAct_0 : decode cX4_isAct 0 = .ok (.iload_n 1, 1) := by decide +kernel
theorem dX4_isAct_1 : decode cX4_isAct 1 = .ok (.ifCond .lt 27, 3) := by decide +kernel
theorem dX4_isAct_28 : decode cX4_isAct 28 = .ok (.iconst 0, 1) := by decide +kernel
theorem dX4_isAct_29 : decode cX4_isAct 29 = .ok (.ireturn, 1) := by decide +kernel
theorem dX4_isAct_4 : decode cX4_isAct 4 = .ok (.iload_n 1, 1) := by decide +kernel
theorem dX4_isAct_5 : decode cX4_isAct 5 = .ok (.aload_n 0, 1) := by decide +kernel
theorem dX4_isAct_6 : decode cX4_isAct 6 = .ok (.getfield 29, 3) := by decide +kernel
theorem dX4_isAct_9 : decode cX4_isAct 9 = .ok (.arraylength, 1) := by decide +kernel
theorem dX4_isAct_10 : decode cX4_isAct 10 = .ok (.if_icmp .ge 18, 3) := by decide +kernel
theorem dX4_isAct_13 : decode cX4_isAct 13 = .ok (.aload_n 0, 1) := by decide +kernel
theorem dX4_isAct_14 : decode cX4_isAct 14 = .ok (.getfield 29, 3) := by decide +kernel
theorem dX4_isAct_17 : decode cX4_isAct 17 = .ok (.iload_n 1, 1) := by decide +kernel
theorem dX4_isAct_18 : decode cX4_isAct 18 = .ok (.aaload, 1) := by decide +kernel
theorem dX4_isAct_19 : decode cX4_isAct 19 = .ok (.iconst 0, 1) := by decide +kernel
theorem dX4_isAct_20 : decode cX4_isAct 20 = .ok (.iaload, 1) := by decide +kernel
theorem dX4_isAct_21 : decode cX4_isAct 21 = .ok (.ifCond .eq 7, 3) := by decide +kernel
theorem dX4_isAct_24 : decode cX4_isAct 24 = .ok (.iconst 1, 1) := by decide +kernel
theorem dX4_isAct_25 : decode cX4_isAct 25 = .ok (.goto 4, 3) := by decide +kernel
theorem dX4_setSwitch_0 : decode cX4_setSwitch 0 = .ok (.aload_n 0, 1) := by decide +kernel
theorem dX4_setSwitch_1 : decode cX4_setSwitch 1 = .ok (.getfield 84, 3) := by decide +kernel
theorem dX4_setSwitch_4 : decode cX4_setSwitch 4 = .ok (.bipush 10, 2) := by decide +kernel
theorem dX4_setSwitch_6 : decode cX4_setSwitch 6 = .ok (.isub, 1) := by decide +kernel
theorem dX4_setSwitch_7 : decode cX4_setSwitch 7 = .ok (.iload_n 1, 1) := by decide +kernel
theorem dX4_setSwitch_8 : decode cX4_setSwitch 8 = .ok (.iadd, 1) := by decide +kernel
theorem dX4_setSwitch_9 : decode cX4_setSwitch 9 = .ok (.istore_n 3, 1) := by decide +kernel
theorem dX4_setSwitch_10 : decode cX4_setSwitch 10 = .ok (.iload_n 1, 1) := by decide +kernel
theorem dX4_setSwitch_11 : decode cX4_setSwitch 11 = .ok (.iconst (-1), 1) := by decide +kernel
theorem dX4_setSwitch_12 : decode cX4_setSwitch 12 = .ok (.if_icmp .eq 31, 3) := by decide +kernel
theorem dX4_setSwitch_43 : decode cX4_setSwitch 43 = .ok (.return_, 1) := by decide +kernel
theorem dX4_setSwitch_15 : decode cX4_setSwitch 15 = .ok (.iload_n 3, 1) := by decide +kernel
theorem dX4_setSwitch_16 : decode cX4_setSwitch 16 = .ok (.ifCond .lt 27, 3) := by decide +kernel
theorem dX4_setSwitch_19 : decode cX4_setSwitch 19 = .ok (.iload_n 3, 1) := by decide +kernel
theorem dX4_setSwitch_20 : decode cX4_setSwitch 20 = .ok (.aload_n 0, 1) := by decide +kernel
theorem dX4_setSwitch_21 : decode cX4_setSwitch 21 = .ok (.getfield 84, 3) := by decide +kernel
theorem dX4_setSwitch_24 : decode cX4_setSwitch 24 = .ok (.if_icmp .ge 19, 3) := by decide +kernel
theorem dX4_setSwitch_27 : decode cX4_setSwitch 27 = .ok (.aload_n 0, 1) := by decide +kernel
theorem dX4_setSwitch_28 : decode cX4_setSwitch 28 = .ok (.getfield 11, 3) := by decide +kernel
theorem dX4_setSwitch_31 : decode cX4_setSwitch 31 = .ok (.iload_n 3, 1) := by decide +kernel
theorem dX4_setSwitch_32 : decode cX4_setSwitch 32 = .ok (.iconst 0, 1) := by decide +kernel
theorem dX4_setSwitch_33 : decode cX4_setSwitch 33 = .ok (.iload_n 2, 1) := by decide +kernel
theorem dX4_setSwitch_34 : decode cX4_setSwitch 34 = .ok (.bipush 100, 2) := by decide +kernel
theorem dX4_setSwitch_36 : decode cX4_setSwitch 36 = .ok (.invokestatic 87, 3) := by decide +kernel
theorem dX4_setSwitch_39 : decode cX4_setSwitch 39 = .ok (.invokestatic 93, 3) := by decide +kernel
theorem dX4_setSwitch_42 : decode cX4_setSwitch 42 = .ok (.iastore, 1) := by decide +kernel
theorem dX4_isAsked_0 : decode cX4_isAsked 0 = .ok (.aload_n 0, 1) := by decide +kernel
theorem dX4_isAsked_1 : decode cX4_isAsked 1 = .ok (.getfield 15, 3) := by decide +kernel
theorem dX4_isAsked_4 : decode cX4_isAsked 4 = .ok (.iload_n 1, 1) := by decide +kernel
theorem dX4_isAsked_5 : decode cX4_isAsked 5 = .ok (.baload, 1) := by decide +kernel
theorem dX4_isAsked_6 : decode cX4_isAsked 6 = .ok (.ifCond .ne 17, 3) := by decide +kernel
theorem dX4_isAsked_23 : decode cX4_isAsked 23 = .ok (.iconst 0, 1) := by decide +kernel
theorem dX4_isAsked_24 : decode cX4_isAsked 24 = .ok (.ireturn, 1) := by decide +kernel
theorem dX4_isAsked_9 : decode cX4_isAsked 9 = .ok (.iload_n 2, 1) := by decide +kernel
theorem dX4_isAsked_10 : decode cX4_isAsked 10 = .ok (.aload_n 0, 1) := by decide +kernel
theorem dX4_isAsked_11 : decode cX4_isAsked 11 = .ok (.getfield 19, 3) := by decide +kernel
theorem dX4_isAsked_14 : decode cX4_isAsked 14 = .ok (.iload_n 1, 1) := by decide +kernel
theorem dX4_isAsked_15 : decode cX4_isAsked 15 = .ok (.iaload, 1) := by decide +kernel
theorem dX4_isAsked_16 : decode cX4_isAsked 16 = .ok (.if_icmp .lt 7, 3) := by decide +kernel
theorem dX4_isAsked_19 : decode cX4_isAsked 19 = .ok (.iconst 1, 1) := by decide +kernel
theorem dX4_isAsked_20 : decode cX4_isAsked 20 = .ok (.goto 4, 3) := by decide +kernel
theorem dX4_isOn_0 : decode cX4_isOn 0 = .ok (.aload_n 0, 1) := by decide +kernel
theorem dX4_isOn_1 : decode cX4_isOn 1 = .ok (.getfield 11, 3) := by decide +kernel
theorem dX4_isOn_4 : decode cX4_isOn 4 = .ok (.iload_n 1, 1) := by decide +kernel
theorem dX4_isOn_5 : decode cX4_isOn 5 = .ok (.iaload, 1) := by decide +kernel
theorem dX4_isOn_6 : decode cX4_isOn 6 = .ok (.bipush 50, 2) := by decide +kernel
theorem dX4_isOn_8 : decode cX4_isOn 8 = .ok (.if_icmp .lt 16, 3) := by decide +kernel
theorem dX4_isOn_24 : decode cX4_isOn 24 = .ok (.iconst 0, 1) := by decide +kernel
theorem dX4_isOn_25 : decode cX4_isOn 25 = .ok (.ireturn, 1) := by decide +kernel
theorem dX4_isOn_11 : decode cX4_isOn 11 = .ok (.aload_n 0, 1) := by decide +kernel
theorem dX4_isOn_12 : decode cX4_isOn 12 = .ok (.iload_n 1, 1) := by decide +kernel
theorem dX4_isOn_13 : decode cX4_isOn 13 = .ok (.iload_n 2, 1) := by decide +kernel
theorem dX4_isOn_14 : decode cX4_isOn 14 = .ok (.invokevirtual 96, 3) := by decide +kernel
theorem dX4_isOn_17 : decode cX4_isOn 17 = .ok (.ifCond .eq 7, 3) := by decide +kernel
theorem dX4_isOn_20 : decode cX4_isOn 20 = .ok (.iconst 1, 1) := by decide +kernel
theorem dX4_isOn_21 : decode cX4_isOn 21 = .ok (.goto 4, 3) := by decide +kernel
theorem dX4_countOn_0 : decode cX4_countOn 0 = .ok (.iconst 0, 1) := by decide +kernel
theorem dX4_countOn_1 : decode cX4_countOn 1 = .ok (.istore_n 3, 1) := by decide +kernel
theorem dX4_countOn_2 : decode cX4_countOn 2 = .ok (.iconst 0, 1) := by decide +kernel
theorem dX4_countOn_3 : decode cX4_countOn 3 = .ok (.istore 4, 2) := by decide +kernel
theorem dX4_countOn_5 : decode cX4_countOn 5 = .ok (.iload 4, 2) := by decide +kernel
theorem dX4_countOn_7 : decode cX4_countOn 7 = .ok (.aload_n 0, 1) := by decide +kernel
theorem dX4_countOn_8 : decode cX4_countOn 8 = .ok (.getfield 26, 3) := by decide +kernel
theorem dX4_countOn_11 : decode cX4_countOn 11 = .ok (.iload_n 1, 1) := by decide +kernel
theorem dX4_countOn_12 : decode cX4_countOn 12 = .ok (.aaload, 1) := by decide +kernel
theorem dX4_countOn_13 : decode cX4_countOn 13 = .ok (.iconst 1, 1) := by decide +kernel
theorem dX4_countOn_14 : decode cX4_countOn 14 = .ok (.iaload, 1) := by decide +kernel
theorem dX4_countOn_15 : decode cX4_countOn 15 = .ok (.if_icmp .ge 36, 3) := by decide +kernel
theorem dX4_countOn_18 : decode cX4_countOn 18 = .ok (.iload_n 3, 1) := by decide +kernel
theorem dX4_countOn_19 : decode cX4_countOn 19 = .ok (.aload_n 0, 1) := by decide +kernel
theorem dX4_countOn_20 : decode cX4_countOn 20 = .ok (.aload_n 0, 1) := by decide +kernel
theorem dX4_countOn_21 : decode cX4_countOn 21 = .ok (.getfield 26, 3) := by decide +kernel
theorem dX4_countOn_24 : decode cX4_countOn 24 = .ok (.iload_n 1, 1) := by decide +kernel
theorem dX4_countOn_25 : decode cX4_countOn 25 = .ok (.aaload, 1) := by decide +kernel
theorem dX4_countOn_26 : decode cX4_countOn 26 = .ok (.iconst 2, 1) := by decide +kernel
theorem dX4_countOn_27 : decode cX4_countOn 27 = .ok (.iload 4, 2) := by decide +kernel
theorem dX4_countOn_29 : decode cX4_countOn 29 = .ok (.iadd, 1) := by decide +kernel
theorem dX4_countOn_30 : decode cX4_countOn 30 = .ok (.iaload, 1) := by decide +kernel
theorem dX4_countOn_31 : decode cX4_countOn 31 = .ok (.iload_n 2, 1) := by decide +kernel
theorem dX4_countOn_32 : decode cX4_countOn 32 = .ok (.invokevirtual 100, 3) := by decide +kernel
theorem dX4_countOn_35 : decode cX4_countOn 35 = .ok (.ifCond .eq 7, 3) := by decide +kernel
theorem dX4_countOn_42 : decode cX4_countOn 42 = .ok (.iconst 0, 1) := by decide +kernel
theorem dX4_countOn_43 : decode cX4_countOn 43 = .ok (.iadd, 1) := by decide +kernel
theorem dX4_countOn_44 : decode cX4_countOn 44 = .ok (.istore_n 3, 1) := by decide +kernel
theorem dX4_countOn_45 : decode cX4_countOn 45 = .ok (.iinc 4 1, 3) := by decide +kernel
theorem dX4_countOn_48 : decode cX4_countOn 48 = .ok (.goto (-43), 3) := by decide +kernel
theorem dX4_countOn_38 : decode cX4_countOn 38 = .ok (.iconst 1, 1) := by decide +kernel
theorem dX4_countOn_39 : decode cX4_countOn 39 = .ok (.goto 4, 3) := by decide +kernel
theorem dX4_countOn_51 : decode cX4_countOn 51 = .ok (.iload_n 3, 1) := by decide +kernel
theorem dX4_countOn_52 : decode cX4_countOn 52 = .ok (.ireturn, 1) := by decide +kernel
theorem dX4_countAsked_0 : decode cX4_countAsked 0 = .ok (.iconst 0, 1) := by decide +kernel
theorem dX4_countAsked_1 : decode cX4_countAsked 1 = .ok (.istore_n 3, 1) := by decide +kernel
theorem dX4_countAsked_2 : decode cX4_countAsked 2 = .ok (.iconst 0, 1) := by decide +kernel
theorem dX4_countAsked_3 : decode cX4_countAsked 3 = .ok (.istore 4, 2) := by decide +kernel
theorem dX4_countAsked_5 : decode cX4_countAsked 5 = .ok (.iload 4, 2) := by decide +kernel
theorem dX4_countAsked_7 : decode cX4_countAsked 7 = .ok (.aload_n 0, 1) := by decide +kernel
theorem dX4_countAsked_8 : decode cX4_countAsked 8 = .ok (.getfield 26, 3) := by decide +kernel
theorem dX4_countAsked_11 : decode cX4_countAsked 11 = .ok (.iload_n 1, 1) := by decide +kernel
theorem dX4_countAsked_12 : decode cX4_countAsked 12 = .ok (.aaload, 1) := by decide +kernel
theorem dX4_countAsked_13 : decode cX4_countAsked 13 = .ok (.iconst 1, 1) := by decide +kernel
theorem dX4_countAsked_14 : decode cX4_countAsked 14 = .ok (.iaload, 1) := by decide +kernel
theorem dX4_countAsked_15 : decode cX4_countAsked 15 = .ok (.if_icmp .ge 36, 3) := by decide +kernel
theorem dX4_countAsked_18 : decode cX4_countAsked 18 = .ok (.iload_n 3, 1) := by decide +kernel
theorem dX4_countAsked_19 : decode cX4_countAsked 19 = .ok (.aload_n 0, 1) := by decide +kernel
theorem dX4_countAsked_20 : decode cX4_countAsked 20 = .ok (.aload_n 0, 1) := by decide +kernel
theorem dX4_countAsked_21 : decode cX4_countAsked 21 = .ok (.getfield 26, 3) := by decide +kernel
theorem dX4_countAsked_24 : decode cX4_countAsked 24 = .ok (.iload_n 1, 1) := by decide +kernel
theorem dX4_countAsked_25 : decode cX4_countAsked 25 = .ok (.aaload, 1) := by decide +kernel
theorem dX4_countAsked_26 : decode cX4_countAsked 26 = .ok (.iconst 2, 1) := by decide +kernel
theorem dX4_countAsked_27 : decode cX4_countAsked 27 = .ok (.iload 4, 2) := by decide +kernel
theorem dX4_countAsked_29 : decode cX4_countAsked 29 = .ok (.iadd, 1) := by decide +kernel
theorem dX4_countAsked_30 : decode cX4_countAsked 30 = .ok (.iaload, 1) := by decide +kernel
theorem dX4_countAsked_31 : decode cX4_countAsked 31 = .ok (.iload_n 2, 1) := by decide +kernel
theorem dX4_countAsked_32 : decode cX4_countAsked 32 = .ok (.invokevirtual 96, 3) := by decide +kernel
theorem dX4_countAsked_35 : decode cX4_countAsked 35 = .ok (.ifCond .eq 7, 3) := by decide +kernel
theorem dX4_countAsked_42 : decode cX4_countAsked 42 = .ok (.iconst 0, 1) := by decide +kernel
theorem dX4_countAsked_43 : decode cX4_countAsked 43 = .ok (.iadd, 1) := by decide +kernel
theorem dX4_countAsked_44 : decode cX4_countAsked 44 = .ok (.istore_n 3, 1) := by decide +kernel
theorem dX4_countAsked_45 : decode cX4_countAsked 45 = .ok (.iinc 4 1, 3) := by decide +kernel
theorem dX4_countAsked_48 : decode cX4_countAsked 48 = .ok (.goto (-43), 3) := by decide +kernel
theorem dX4_countAsked_38 : decode cX4_countAsked 38 = .ok (.iconst 1, 1) := by decide +kernel
theorem dX4_countAsked_39 : decode cX4_countAsked 39 = .ok (.goto 4, 3) := by decide +kernel
theorem dX4_countAsked_51 : decode cX4_countAsked 51 = .ok (.iload_n 3, 1) := by decide +kernel
theorem dX4_countAsked_52 : decode cX4_countAsked 52 = .ok (.ireturn, 1) := by decide +kernel
theorem dX4_isSure_0 : decode cX4_isSure 0 = .ok (.iload_n 2, 1) := by decide +kernel
theorem dX4_isSure_1 : decode cX4_isSure 1 = .ok (.ifCond .le 12, 3) := by decide +kernel
theorem dX4_isSure_13 : decode cX4_isSure 13 = .ok (.iconst 0, 1) := by decide +kernel
theorem dX4_isSure_14 : decode cX4_isSure 14 = .ok (.ireturn, 1) := by decide +kernel
theorem dX4_isSure_4 : decode cX4_isSure 4 = .ok (.iload_n 1, 1) := by decide +kernel
theorem dX4_isSure_5 : decode cX4_isSure 5 = .ok (.iload_n 2, 1) := by decide +kernel
theorem dX4_isSure_6 : decode cX4_isSure 6 = .ok (.if_icmp .ne 7, 3) := by decide +kernel
theorem dX4_isSure_9 : decode cX4_isSure 9 = .ok (.iconst 1, 1) := by decide +kernel
theorem dX4_isSure_10 : decode cX4_isSure 10 = .ok (.goto 4, 3) := by decide +kernel
theorem dX4_lookAtZones_0 : decode cX4_lookAtZones 0 = .ok (.iconst 0, 1) := by decide +kernel
theorem dX4_lookAtZones_1 : decode cX4_lookAtZones 1 = .ok (.istore_n 2, 1) := by decide +kernel
theorem dX4_lookAtZones_2 : decode cX4_lookAtZones 2 = .ok (.iload_n 2, 1) := by decide +kernel
theorem dX4_lookAtZones_3 : decode cX4_lookAtZones 3 = .ok (.aload_n 0, 1) := by decide +kernel
theorem dX4_lookAtZones_4 : decode cX4_lookAtZones 4 = .ok (.getfield 26, 3) := by decide +kernel
theorem dX4_lookAtZones_7 : decode cX4_lookAtZones 7 = .ok (.arraylength, 1) := by decide +kernel
theorem dX4_lookAtZones_8 : decode cX4_lookAtZones 8 = .ok (.if_icmp .ge 64, 3) := by decide +kernel
theorem dX4_lookAtZones_11 : decode cX4_lookAtZones 11 = .ok (.aload_n 0, 1) := by decide +kernel
theorem dX4_lookAtZones_12 : decode cX4_lookAtZones 12 = .ok (.iload_n 2, 1) := by decide +kernel
theorem dX4_lookAtZones_13 : decode cX4_lookAtZones 13 = .ok (.iload_n 1, 1) := by decide +kernel
theorem dX4_lookAtZones_14 : decode cX4_lookAtZones 14 = .ok (.invokevirtual 103, 3) := by decide +kernel
theorem dX4_lookAtZones_17 : decode cX4_lookAtZones 17 = .ok (.istore_n 3, 1) := by decide +kernel
theorem dX4_lookAtZones_18 : decode cX4_lookAtZones 18 = .ok (.aload_n 0, 1) := by decide +kernel
theorem dX4_lookAtZones_19 : decode cX4_lookAtZones 19 = .ok (.getfield 50, 3) := by decide +kernel
theorem dX4_lookAtZones_22 : decode cX4_lookAtZones 22 = .ok (.iload_n 2, 1) := by decide +kernel
theorem dX4_lookAtZones_23 : decode cX4_lookAtZones 23 = .ok (.aload_n 0, 1) := by decide +kernel
theorem dX4_lookAtZones_24 : decode cX4_lookAtZones 24 = .ok (.iload_n 2, 1) := by decide +kernel
theorem dX4_lookAtZones_25 : decode cX4_lookAtZones 25 = .ok (.invokevirtual 106, 3) := by decide +kernel
theorem dX4_lookAtZones_28 : decode cX4_lookAtZones 28 = .ok (.ifCond .eq 19, 3) := by decide +kernel
theorem dX4_lookAtZones_47 : decode cX4_lookAtZones 47 = .ok (.iconst 0, 1) := by decide +kernel
theorem dX4_lookAtZones_48 : decode cX4_lookAtZones 48 = .ok (.bastore, 1) := by decide +kernel
theorem dX4_lookAtZones_49 : decode cX4_lookAtZones 49 = .ok (.aload_n 0, 1) := by decide +kernel
theorem dX4_lookAtZones_50 : decode cX4_lookAtZones 50 = .ok (.getfield 53, 3) := by decide +kernel
theorem dX4_lookAtZones_53 : decode cX4_lookAtZones 53 = .ok (.iload_n 2, 1) := by decide +kernel
theorem dX4_lookAtZones_54 : decode cX4_lookAtZones 54 = .ok (.aload_n 0, 1) := by decide +kernel
theorem dX4_lookAtZones_55 : decode cX4_lookAtZones 55 = .ok (.iload_n 3, 1) := by decide +kernel
theorem dX4_lookAtZones_56 : decode cX4_lookAtZones 56 = .ok (.aload_n 0, 1) := by decide +kernel
theorem dX4_lookAtZones_57 : decode cX4_lookAtZones 57 = .ok (.iload_n 2, 1) := by decide +kernel
theorem dX4_lookAtZones_58 : decode cX4_lookAtZones 58 = .ok (.iload_n 1, 1) := by decide +kernel
theorem dX4_lookAtZones_59 : decode cX4_lookAtZones 59 = .ok (.invokevirtual 110, 3) := by decide +kernel
theorem dX4_lookAtZones_62 : decode cX4_lookAtZones 62 = .ok (.invokevirtual 113, 3) := by decide +kernel
theorem dX4_lookAtZones_65 : decode cX4_lookAtZones 65 = .ok (.bastore, 1) := by decide +kernel
theorem dX4_lookAtZones_66 : decode cX4_lookAtZones 66 = .ok (.iinc 2 1, 3) := by decide +kernel
theorem dX4_lookAtZones_69 : decode cX4_lookAtZones 69 = .ok (.goto (-67), 3) := by decide +kernel
theorem dX4_lookAtZones_31 : decode cX4_lookAtZones 31 = .ok (.iload_n 3, 1) := by decide +kernel
theorem dX4_lookAtZones_32 : decode cX4_lookAtZones 32 = .ok (.aload_n 0, 1) := by decide +kernel
theorem dX4_lookAtZones_33 : decode cX4_lookAtZones 33 = .ok (.getfield 26, 3) := by decide +kernel
theorem dX4_lookAtZones_36 : decode cX4_lookAtZones 36 = .ok (.iload_n 2, 1) := by decide +kernel
theorem dX4_lookAtZones_37 : decode cX4_lookAtZones 37 = .ok (.aaload, 1) := by decide +kernel
theorem dX4_lookAtZones_38 : decode cX4_lookAtZones 38 = .ok (.iconst 0, 1) := by decide +kernel
theorem dX4_lookAtZones_39 : decode cX4_lookAtZones 39 = .ok (.iaload, 1) := by decide +kernel
theorem dX4_lookAtZones_40 : decode cX4_lookAtZones 40 = .ok (.if_icmp .lt 7, 3) := by decide +kernel
theorem dX4_lookAtZones_43 : decode cX4_lookAtZones 43 = .ok (.iconst 1, 1) := by decide +kernel
theorem dX4_lookAtZones_44 : decode cX4_lookAtZones 44 = .ok (.goto 4, 3) := by decide +kernel
theorem dX4_lookAtZones_72 : decode cX4_lookAtZones 72 = .ok (.return_, 1) := by decide +kernel
theorem dX4_isMet_0 : decode cX4_isMet 0 = .ok (.aload_n 0, 1) := by decide +kernel
theorem dX4_isMet_1 : decode cX4_isMet 1 = .ok (.getfield 50, 3) := by decide +kernel
theorem dX4_isMet_4 : decode cX4_isMet 4 = .ok (.aload_n 0, 1) := by decide +kernel
theorem dX4_isMet_5 : decode cX4_isMet 5 = .ok (.getfield 32, 3) := by decide +kernel
theorem dX4_isMet_8 : decode cX4_isMet 8 = .ok (.iload_n 1, 1) := by decide +kernel
theorem dX4_isMet_9 : decode cX4_isMet 9 = .ok (.aaload, 1) := by decide +kernel
theorem dX4_isMet_10 : decode cX4_isMet 10 = .ok (.iconst 0, 1) := by decide +kernel
theorem dX4_isMet_11 : decode cX4_isMet 11 = .ok (.iaload, 1) := by decide +kernel
theorem dX4_isMet_12 : decode cX4_isMet 12 = .ok (.baload, 1) := by decide +kernel
theorem dX4_isMet_13 : decode cX4_isMet 13 = .ok (.ifCond .eq 35, 3) := by decide +kernel
theorem dX4_isMet_48 : decode cX4_isMet 48 = .ok (.iconst 0, 1) := by decide +kernel
theorem dX4_isMet_49 : decode cX4_isMet 49 = .ok (.ireturn, 1) := by decide +kernel
theorem dX4_isMet_16 : decode cX4_isMet 16 = .ok (.aload_n 0, 1) := by decide +kernel
theorem dX4_isMet_17 : decode cX4_isMet 17 = .ok (.getfield 32, 3) := by decide +kernel
theorem dX4_isMet_20 : decode cX4_isMet 20 = .ok (.iload_n 1, 1) := by decide +kernel
theorem dX4_isMet_21 : decode cX4_isMet 21 = .ok (.aaload, 1) := by decide +kernel
theorem dX4_isMet_22 : decode cX4_isMet 22 = .ok (.iconst 1, 1) := by decide +kernel
theorem dX4_isMet_23 : decode cX4_isMet 23 = .ok (.iaload, 1) := by decide +kernel
theorem dX4_isMet_24 : decode cX4_isMet 24 = .ok (.iconst (-1), 1) := by decide +kernel
theorem dX4_isMet_25 : decode cX4_isMet 25 = .ok (.if_icmp .eq 19, 3) := by decide +kernel
theorem dX4_isMet_44 : decode cX4_isMet 44 = .ok (.iconst 1, 1) := by decide +kernel
theorem dX4_isMet_45 : decode cX4_isMet 45 = .ok (.goto 4, 3) := by decide +kernel
theorem dX4_isMet_28 : decode cX4_isMet 28 = .ok (.aload_n 0, 1) := by decide +kernel
theorem dX4_isMet_29 : decode cX4_isMet 29 = .ok (.getfield 50, 3) := by decide +kernel
theorem dX4_isMet_32 : decode cX4_isMet 32 = .ok (.aload_n 0, 1) := by decide +kernel
theorem dX4_isMet_33 : decode cX4_isMet 33 = .ok (.getfield 32, 3) := by decide +kernel
theorem dX4_isMet_36 : decode cX4_isMet 36 = .ok (.iload_n 1, 1) := by decide +kernel
theorem dX4_isMet_37 : decode cX4_isMet 37 = .ok (.aaload, 1) := by decide +kernel
theorem dX4_isMet_38 : decode cX4_isMet 38 = .ok (.iconst 1, 1) := by decide +kernel
theorem dX4_isMet_39 : decode cX4_isMet 39 = .ok (.iaload, 1) := by decide +kernel
theorem dX4_isMet_40 : decode cX4_isMet 40 = .ok (.baload, 1) := by decide +kernel
theorem dX4_isMet_41 : decode cX4_isMet 41 = .ok (.ifCond .eq 7, 3) := by decide +kernel
theorem dX4_isCalled_0 : decode cX4_isCalled 0 = .ok (.iconst 0, 1) := by decide +kernel
theorem dX4_isCalled_1 : decode cX4_isCalled 1 = .ok (.istore_n 2, 1) := by decide +kernel
theorem dX4_isCalled_2 : decode cX4_isCalled 2 = .ok (.iload_n 2, 1) := by decide +kernel
theorem dX4_isCalled_3 : decode cX4_isCalled 3 = .ok (.aload_n 0, 1) := by decide +kernel
theorem dX4_isCalled_4 : decode cX4_isCalled 4 = .ok (.getfield 80, 3) := by decide +kernel
theorem dX4_isCalled_7 : decode cX4_isCalled 7 = .ok (.if_icmp .ge 31, 3) := by decide +kernel
theorem dX4_isCalled_10 : decode cX4_isCalled 10 = .ok (.aload_n 0, 1) := by decide +kernel
theorem dX4_isCalled_11 : decode cX4_isCalled 11 = .ok (.getfield 32, 3) := by decide +kernel
theorem dX4_isCalled_14 : decode cX4_isCalled 14 = .ok (.iload_n 2, 1) := by decide +kernel
theorem dX4_isCalled_15 : decode cX4_isCalled 15 = .ok (.aaload, 1) := by decide +kernel
theorem dX4_isCalled_16 : decode cX4_isCalled 16 = .ok (.iconst 2, 1) := by decide +kernel
theorem dX4_isCalled_17 : decode cX4_isCalled 17 = .ok (.iaload, 1) := by decide +kernel
theorem dX4_isCalled_18 : decode cX4_isCalled 18 = .ok (.iload_n 1, 1) := by decide +kernel
theorem dX4_isCalled_19 : decode cX4_isCalled 19 = .ok (.if_icmp .ne 13, 3) := by decide +kernel
theorem dX4_isCalled_32 : decode cX4_isCalled 32 = .ok (.iinc 2 1, 3) := by decide +kernel
theorem dX4_isCalled_35 : decode cX4_isCalled 35 = .ok (.goto (-33), 3) := by decide +kernel
theorem dX4_isCalled_22 : decode cX4_isCalled 22 = .ok (.aload_n 0, 1) := by decide +kernel
theorem dX4_isCalled_23 : decode cX4_isCalled 23 = .ok (.iload_n 2, 1) := by decide +kernel
theorem dX4_isCalled_24 : decode cX4_isCalled 24 = .ok (.invokevirtual 116, 3) := by decide +kernel
theorem dX4_isCalled_27 : decode cX4_isCalled 27 = .ok (.ifCond .eq 5, 3) := by decide +kernel
theorem dX4_isCalled_30 : decode cX4_isCalled 30 = .ok (.iconst 1, 1) := by decide +kernel
theorem dX4_isCalled_31 : decode cX4_isCalled 31 = .ok (.ireturn, 1) := by decide +kernel
theorem dX4_isCalled_38 : decode cX4_isCalled 38 = .ok (.iconst 0, 1) := by decide +kernel
theorem dX4_isCalled_39 : decode cX4_isCalled 39 = .ok (.ireturn, 1) := by decide +kernel
theorem dX4_isSurelyCalled_0 : decode cX4_isSurelyCalled 0 = .ok (.iconst 0, 1) := by decide +kernel
theorem dX4_isSurelyCalled_1 : decode cX4_isSurelyCalled 1 = .ok (.istore_n 2, 1) := by decide +kernel
theorem dX4_isSurelyCalled_2 : decode cX4_isSurelyCalled 2 = .ok (.iload_n 2, 1) := by decide +kernel
theorem dX4_isSurelyCalled_3 : decode cX4_isSurelyCalled 3 = .ok (.aload_n 0, 1) := by decide +kernel
theorem dX4_isSurelyCalled_4 : decode cX4_isSurelyCalled 4 = .ok (.getfield 80, 3) := by decide +kernel
theorem dX4_isSurelyCalled_7 : decode cX4_isSurelyCalled 7 = .ok (.if_icmp .ge 85, 3) := by decide +kernel
theorem dX4_isSurelyCalled_10 : decode cX4_isSurelyCalled 10 = .ok (.aload_n 0, 1) := by decide +kernel
theorem dX4_isSurelyCalled_11 : decode cX4_isSurelyCalled 11 = .ok (.getfield 53, 3) := by decide +kernel
theorem dX4_isSurelyCalled_14 : decode cX4_isSurelyCalled 14 = .ok (.aload_n 0, 1) := by decide +kernel
theorem dX4_isSurelyCalled_15 : decode cX4_isSurelyCalled 15 = .ok (.getfield 32, 3) := by decide +kernel
theorem dX4_isSurelyCalled_18 : decode cX4_isSurelyCalled 18 = .ok (.iload_n 2, 1) := by decide +kernel
theorem dX4_isSurelyCalled_19 : decode cX4_isSurelyCalled 19 = .ok (.aaload, 1) := by decide +kernel
theorem dX4_isSurelyCalled_20 : decode cX4_isSurelyCalled 20 = .ok (.iconst 0, 1) := by decide +kernel
theorem dX4_isSurelyCalled_21 : decode cX4_isSurelyCalled 21 = .ok (.iaload, 1) := by decide +kernel
theorem dX4_isSurelyCalled_22 : decode cX4_isSurelyCalled 22 = .ok (.baload, 1) := by decide +kernel
theorem dX4_isSurelyCalled_23 : decode cX4_isSurelyCalled 23 = .ok (.ifCond .ne 31, 3) := by decide +kernel
theorem dX4_isSurelyCalled_54 : decode cX4_isSurelyCalled 54 = .ok (.iconst 1, 1) := by decide +kernel
theorem dX4_isSurelyCalled_55 : decode cX4_isSurelyCalled 55 = .ok (.goto 4, 3) := by decide +kernel
theorem dX4_isSurelyCalled_59 : decode cX4_isSurelyCalled 59 = .ok (.istore_n 3, 1) := by decide +kernel
theorem dX4_isSurelyCalled_60 : decode cX4_isSurelyCalled 60 = .ok (.aload_n 0, 1) := by decide +kernel
theorem dX4_isSurelyCalled_61 : decode cX4_isSurelyCalled 61 = .ok (.getfield 32, 3) := by decide +kernel
theorem dX4_isSurelyCalled_64 : decode cX4_isSurelyCalled 64 = .ok (.iload_n 2, 1) := by decide +kernel
theorem dX4_isSurelyCalled_65 : decode cX4_isSurelyCalled 65 = .ok (.aaload, 1) := by decide +kernel
theorem dX4_isSurelyCalled_66 : decode cX4_isSurelyCalled 66 = .ok (.iconst 2, 1) := by decide +kernel
theorem dX4_isSurelyCalled_67 : decode cX4_isSurelyCalled 67 = .ok (.iaload, 1) := by decide +kernel
theorem dX4_isSurelyCalled_68 : decode cX4_isSurelyCalled 68 = .ok (.iload_n 1, 1) := by decide +kernel
theorem dX4_isSurelyCalled_69 : decode cX4_isSurelyCalled 69 = .ok (.if_icmp .ne 17, 3) := by decide +kernel
theorem dX4_isSurelyCalled_86 : decode cX4_isSurelyCalled 86 = .ok (.iinc 2 1, 3) := by decide +kernel
theorem dX4_isSurelyCalled_89 : decode cX4_isSurelyCalled 89 = .ok (.goto (-87), 3) := by decide +kernel
theorem dX4_isSurelyCalled_72 : decode cX4_isSurelyCalled 72 = .ok (.aload_n 0, 1) := by decide +kernel
theorem dX4_isSurelyCalled_73 : decode cX4_isSurelyCalled 73 = .ok (.iload_n 2, 1) := by decide +kernel
theorem dX4_isSurelyCalled_74 : decode cX4_isSurelyCalled 74 = .ok (.invokevirtual 116, 3) := by decide +kernel
theorem dX4_isSurelyCalled_77 : decode cX4_isSurelyCalled 77 = .ok (.ifCond .eq 9, 3) := by decide +kernel
theorem dX4_isSurelyCalled_80 : decode cX4_isSurelyCalled 80 = .ok (.iload_n 3, 1) := by decide +kernel
theorem dX4_isSurelyCalled_81 : decode cX4_isSurelyCalled 81 = .ok (.ifCond .eq 5, 3) := by decide +kernel
theorem dX4_isSurelyCalled_84 : decode cX4_isSurelyCalled 84 = .ok (.iconst 1, 1) := by decide +kernel
theorem dX4_isSurelyCalled_85 : decode cX4_isSurelyCalled 85 = .ok (.ireturn, 1) := by decide +kernel
theorem dX4_isSurelyCalled_26 : decode cX4_isSurelyCalled 26 = .ok (.aload_n 0, 1) := by decide +kernel
theorem dX4_isSurelyCalled_27 : decode cX4_isSurelyCalled 27 = .ok (.getfield 32, 3) := by decide +kernel
theorem dX4_isSurelyCalled_30 : decode cX4_isSurelyCalled 30 = .ok (.iload_n 2, 1) := by decide +kernel
theorem dX4_isSurelyCalled_31 : decode cX4_isSurelyCalled 31 = .ok (.aaload, 1) := by decide +kernel
theorem dX4_isSurelyCalled_32 : decode cX4_isSurelyCalled 32 = .ok (.iconst 1, 1) := by decide +kernel
theorem dX4_isSurelyCalled_33 : decode cX4_isSurelyCalled 33 = .ok (.iaload, 1) := by decide +kernel
theorem dX4_isSurelyCalled_34 : decode cX4_isSurelyCalled 34 = .ok (.iconst (-1), 1) := by decide +kernel
theorem dX4_isSurelyCalled_35 : decode cX4_isSurelyCalled 35 = .ok (.if_icmp .eq 23, 3) := by decide +kernel
theorem dX4_isSurelyCalled_58 : decode cX4_isSurelyCalled 58 = .ok (.iconst 0, 1) := by decide +kernel
theorem dX4_isSurelyCalled_38 : decode cX4_isSurelyCalled 38 = .ok (.aload_n 0, 1) := by decide +kernel
theorem dX4_isSurelyCalled_39 : decode cX4_isSurelyCalled 39 = .ok (.getfield 53, 3) := by decide +kernel
theorem dX4_isSurelyCalled_42 : decode cX4_isSurelyCalled 42 = .ok (.aload_n 0, 1) := by decide +kernel
theorem dX4_isSurelyCalled_43 : decode cX4_isSurelyCalled 43 = .ok (.getfield 32, 3) := by decide +kernel
theorem dX4_isSurelyCalled_46 : decode cX4_isSurelyCalled 46 = .ok (.iload_n 2, 1) := by decide +kernel
theorem dX4_isSurelyCalled_47 : decode cX4_isSurelyCalled 47 = .ok (.aaload, 1) := by decide +kernel
theorem dX4_isSurelyCalled_48 : decode cX4_isSurelyCalled 48 = .ok (.iconst 1, 1) := by decide +kernel
theorem dX4_isSurelyCalled_49 : decode cX4_isSurelyCalled 49 = .ok (.iaload, 1) := by decide +kernel
theorem dX4_isSurelyCalled_50 : decode cX4_isSurelyCalled 50 = .ok (.baload, 1) := by decide +kernel
theorem dX4_isSurelyCalled_51 : decode cX4_isSurelyCalled 51 = .ok (.ifCond .eq 7, 3) := by decide +kernel
theorem dX4_isSurelyCalled_92 : decode cX4_isSurelyCalled 92 = .ok (.iconst 0, 1) := by decide +kernel
theorem dX4_isSurelyCalled_93 : decode cX4_isSurelyCalled 93 = .ok (.ireturn, 1) := by decide +kernel
theorem dX4_setDone_0 : decode cX4_setDone 0 = .ok (.aload_n 0, 1) := by decide +kernel
theorem dX4_setDone_1 : decode cX4_setDone 1 = .ok (.getfield 38, 3) := by decide +kernel
theorem dX4_setDone_4 : decode cX4_setDone 4 = .ok (.iload_n 1, 1) := by decide +kernel
theorem dX4_setDone_5 : decode cX4_setDone 5 = .ok (.iload_n 2, 1) := by decide +kernel
theorem dX4_setDone_6 : decode cX4_setDone 6 = .ok (.ifCond .eq 7, 3) := by decide +kernel
theorem dX4_setDone_13 : decode cX4_setDone 13 = .ok (.iconst 0, 1) := by decide +kernel
theorem dX4_setDone_14 : decode cX4_setDone 14 = .ok (.iastore, 1) := by decide +kernel
theorem dX4_setDone_15 : decode cX4_setDone 15 = .ok (.aload_n 0, 1) := by decide +kernel
theorem dX4_setDone_16 : decode cX4_setDone 16 = .ok (.getfield 56, 3) := by decide +kernel
theorem dX4_setDone_19 : decode cX4_setDone 19 = .ok (.aload_n 0, 1) := by decide +kernel
theorem dX4_setDone_20 : decode cX4_setDone 20 = .ok (.getfield 143, 3) := by decide +kernel
theorem dX4_setDone_23 : decode cX4_setDone 23 = .ok (.bipush 60, 2) := by decide +kernel
theorem dX4_setDone_25 : decode cX4_setDone 25 = .ok (.irem, 1) := by decide +kernel
theorem dX4_setDone_26 : decode cX4_setDone 26 = .ok (.aaload, 1) := by decide +kernel
theorem dX4_setDone_27 : decode cX4_setDone 27 = .ok (.astore 4, 2) := by decide +kernel
theorem dX4_setDone_29 : decode cX4_setDone 29 = .ok (.aload 4, 2) := by decide +kernel
theorem dX4_setDone_31 : decode cX4_setDone 31 = .ok (.iconst 0, 1) := by decide +kernel
theorem dX4_setDone_32 : decode cX4_setDone 32 = .ok (.iload_n 3, 1) := by decide +kernel
theorem dX4_setDone_33 : decode cX4_setDone 33 = .ok (.iastore, 1) := by decide +kernel
theorem dX4_setDone_34 : decode cX4_setDone 34 = .ok (.aload 4, 2) := by decide +kernel
theorem dX4_setDone_36 : decode cX4_setDone 36 = .ok (.iconst 1, 1) := by decide +kernel
theorem dX4_setDone_37 : decode cX4_setDone 37 = .ok (.iload_n 1, 1) := by decide +kernel
theorem dX4_setDone_38 : decode cX4_setDone 38 = .ok (.iastore, 1) := by decide +kernel
theorem dX4_setDone_39 : decode cX4_setDone 39 = .ok (.aload 4, 2) := by decide +kernel
theorem dX4_setDone_41 : decode cX4_setDone 41 = .ok (.iconst 2, 1) := by decide +kernel
theorem dX4_setDone_42 : decode cX4_setDone 42 = .ok (.iload_n 2, 1) := by decide +kernel
theorem dX4_setDone_43 : decode cX4_setDone 43 = .ok (.ifCond .eq 7, 3) := by decide +kernel
theorem dX4_setDone_50 : decode cX4_setDone 50 = .ok (.iconst 0, 1) := by decide +kernel
theorem dX4_setDone_51 : decode cX4_setDone 51 = .ok (.iastore, 1) := by decide +kernel
theorem dX4_setDone_52 : decode cX4_setDone 52 = .ok (.aload_n 0, 1) := by decide +kernel
theorem dX4_setDone_53 : decode cX4_setDone 53 = .ok (.dup, 1) := by decide +kernel
theorem dX4_setDone_54 : decode cX4_setDone 54 = .ok (.getfield 143, 3) := by decide +kernel
theorem dX4_setDone_57 : decode cX4_setDone 57 = .ok (.iconst 1, 1) := by decide +kernel
theorem dX4_setDone_58 : decode cX4_setDone 58 = .ok (.iadd, 1) := by decide +kernel
theorem dX4_setDone_59 : decode cX4_setDone 59 = .ok (.putfield 143, 3) := by decide +kernel
theorem dX4_setDone_62 : decode cX4_setDone 62 = .ok (.aload_n 0, 1) := by decide +kernel
theorem dX4_setDone_63 : decode cX4_setDone 63 = .ok (.getfield 29, 3) := by decide +kernel
theorem dX4_setDone_66 : decode cX4_setDone 66 = .ok (.iload_n 1, 1) := by decide +kernel
theorem dX4_setDone_67 : decode cX4_setDone 67 = .ok (.aaload, 1) := by decide +kernel
theorem dX4_setDone_68 : decode cX4_setDone 68 = .ok (.iconst 1, 1) := by decide +kernel
theorem dX4_setDone_69 : decode cX4_setDone 69 = .ok (.iaload, 1) := by decide +kernel
theorem dX4_setDone_70 : decode cX4_setDone 70 = .ok (.iconst 2, 1) := by decide +kernel
theorem dX4_setDone_71 : decode cX4_setDone 71 = .ok (.if_icmp .ne 33, 3) := by decide +kernel
theorem dX4_setDone_104 : decode cX4_setDone 104 = .ok (.aload_n 0, 1) := by decide +kernel
theorem dX4_setDone_105 : decode cX4_setDone 105 = .ok (.getfield 29, 3) := by decide +kernel
theorem dX4_setDone_108 : decode cX4_setDone 108 = .ok (.iload_n 1, 1) := by decide +kernel
theorem dX4_setDone_109 : decode cX4_setDone 109 = .ok (.aaload, 1) := by decide +kernel
theorem dX4_setDone_110 : decode cX4_setDone 110 = .ok (.iconst 1, 1) := by decide +kernel
theorem dX4_setDone_111 : decode cX4_setDone 111 = .ok (.iaload, 1) := by decide +kernel
theorem dX4_setDone_112 : decode cX4_setDone 112 = .ok (.iconst 3, 1) := by decide +kernel
theorem dX4_setDone_113 : decode cX4_setDone 113 = .ok (.if_icmp .ne 21, 3) := by decide +kernel
theorem dX4_setDone_134 : decode cX4_setDone 134 = .ok (.return_, 1) := by decide +kernel
theorem dX4_setDone_116 : decode cX4_setDone 116 = .ok (.aload_n 0, 1) := by decide +kernel
theorem dX4_setDone_117 : decode cX4_setDone 117 = .ok (.getfield 59, 3) := by decide +kernel
theorem dX4_setDone_120 : decode cX4_setDone 120 = .ok (.getfield 155, 3) := by decide +kernel
theorem dX4_setDone_123 : decode cX4_setDone 123 = .ok (.iconst 4, 1) := by decide +kernel
theorem dX4_setDone_124 : decode cX4_setDone 124 = .ok (.iload_n 1, 1) := by decide +kernel
theorem dX4_setDone_125 : decode cX4_setDone 125 = .ok (.bipush 6, 2) := by decide +kernel
theorem dX4_setDone_127 : decode cX4_setDone 127 = .ok (.irem, 1) := by decide +kernel
theorem dX4_setDone_128 : decode cX4_setDone 128 = .ok (.iadd, 1) := by decide +kernel
theorem dX4_setDone_129 : decode cX4_setDone 129 = .ok (.aload 4, 2) := by decide +kernel
theorem dX4_setDone_131 : decode cX4_setDone 131 = .ok (.iconst 2, 1) := by decide +kernel
theorem dX4_setDone_132 : decode cX4_setDone 132 = .ok (.iaload, 1) := by decide +kernel
theorem dX4_setDone_133 : decode cX4_setDone 133 = .ok (.iastore, 1) := by decide +kernel
theorem dX4_setDone_74 : decode cX4_setDone 74 = .ok (.aload_n 0, 1) := by decide +kernel
theorem dX4_setDone_75 : decode cX4_setDone 75 = .ok (.getfield 63, 3) := by decide +kernel
theorem dX4_setDone_78 : decode cX4_setDone 78 = .ok (.bipush 7, 2) := by decide +kernel
theorem dX4_setDone_80 : decode cX4_setDone 80 = .ok (.invokevirtual 146, 3) := by decide +kernel
theorem dX4_setDone_83 : decode cX4_setDone 83 = .ok (.ifCond .eq 21, 3) := by decide +kernel
theorem dX4_setDone_86 : decode cX4_setDone 86 = .ok (.aload_n 0, 1) := by decide +kernel
theorem dX4_setDone_87 : decode cX4_setDone 87 = .ok (.getfield 63, 3) := by decide +kernel
theorem dX4_setDone_90 : decode cX4_setDone 90 = .ok (.bipush 7, 2) := by decide +kernel
theorem dX4_setDone_92 : decode cX4_setDone 92 = .ok (.iconst 0, 1) := by decide +kernel
theorem dX4_setDone_93 : decode cX4_setDone 93 = .ok (.iload_n 1, 1) := by decide +kernel
theorem dX4_setDone_94 : decode cX4_setDone 94 = .ok (.iconst 1, 1) := by decide +kernel
theorem dX4_setDone_95 : decode cX4_setDone 95 = .ok (.iconst 2, 1) := by decide +kernel
theorem dX4_setDone_96 : decode cX4_setDone 96 = .ok (.aload 4, 2) := by decide +kernel
theorem dX4_setDone_98 : decode cX4_setDone 98 = .ok (.iconst 2, 1) := by decide +kernel
theorem dX4_setDone_99 : decode cX4_setDone 99 = .ok (.iaload, 1) := by decide +kernel
theorem dX4_setDone_100 : decode cX4_setDone 100 = .ok (.invokevirtual 151, 3) := by decide +kernel
theorem dX4_setDone_103 : decode cX4_setDone 103 = .ok (.pop, 1) := by decide +kernel
theorem dX4_setDone_46 : decode cX4_setDone 46 = .ok (.iconst 1, 1) := by decide +kernel
theorem dX4_setDone_47 : decode cX4_setDone 47 = .ok (.goto 4, 3) := by decide +kernel
theorem dX4_setDone_9 : decode cX4_setDone 9 = .ok (.iconst 2, 1) := by decide +kernel
theorem dX4_setDone_10 : decode cX4_setDone 10 = .ok (.goto 4, 3) := by decide +kernel
theorem dX4_isDue_0 : decode cX4_isDue 0 = .ok (.aload_n 0, 1) := by decide +kernel
theorem dX4_isDue_1 : decode cX4_isDue 1 = .ok (.getfield 47, 3) := by decide +kernel
theorem dX4_isDue_4 : decode cX4_isDue 4 = .ok (.iload_n 1, 1) := by decide +kernel
theorem dX4_isDue_5 : decode cX4_isDue 5 = .ok (.baload, 1) := by decide +kernel
theorem dX4_isDue_6 : decode cX4_isDue 6 = .ok (.ifCond .ne 30, 3) := by decide +kernel
theorem dX4_isDue_36 : decode cX4_isDue 36 = .ok (.iconst 1, 1) := by decide +kernel
theorem dX4_isDue_37 : decode cX4_isDue 37 = .ok (.goto 4, 3) := by decide +kernel
theorem dX4_isDue_41 : decode cX4_isDue 41 = .ok (.ireturn, 1) := by decide +kernel
theorem dX4_isDue_9 : decode cX4_isDue 9 = .ok (.iload_n 2, 1) := by decide +kernel
theorem dX4_isDue_10 : decode cX4_isDue 10 = .ok (.aload_n 0, 1) := by decide +kernel
theorem dX4_isDue_11 : decode cX4_isDue 11 = .ok (.getfield 41, 3) := by decide +kernel
theorem dX4_isDue_14 : decode cX4_isDue 14 = .ok (.iload_n 1, 1) := by decide +kernel
theorem dX4_isDue_15 : decode cX4_isDue 15 = .ok (.iaload, 1) := by decide +kernel
theorem dX4_isDue_16 : decode cX4_isDue 16 = .ok (.aload_n 0, 1) := by decide +kernel
theorem dX4_isDue_17 : decode cX4_isDue 17 = .ok (.getfield 29, 3) := by decide +kernel
theorem dX4_isDue_20 : decode cX4_isDue 20 = .ok (.iload_n 1, 1) := by decide +kernel
theorem dX4_isDue_21 : decode cX4_isDue 21 = .ok (.aaload, 1) := by decide +kernel
theorem dX4_isDue_22 : decode cX4_isDue 22 = .ok (.iconst 3, 1) := by decide +kernel
theorem dX4_isDue_23 : decode cX4_isDue 23 = .ok (.iaload, 1) := by decide +kernel
theorem dX4_isDue_24 : decode cX4_isDue 24 = .ok (.iadd, 1) := by decide +kernel
theorem dX4_isDue_25 : decode cX4_isDue 25 = .ok (.if_icmp .ge 11, 3) := by decide +kernel
theorem dX4_isDue_28 : decode cX4_isDue 28 = .ok (.aload_n 0, 1) := by decide +kernel
theorem dX4_isDue_29 : decode cX4_isDue 29 = .ok (.iload_n 1, 1) := by decide +kernel
theorem dX4_isDue_30 : decode cX4_isDue 30 = .ok (.invokevirtual 140, 3) := by decide +kernel
theorem dX4_isDue_33 : decode cX4_isDue 33 = .ok (.ifCond .eq 7, 3) := by decide +kernel
theorem dX4_isDue_40 : decode cX4_isDue 40 = .ok (.iconst 0, 1) := by decide +kernel
theorem dX4_runAct_0 : decode cX4_runAct 0 = .ok (.aload_n 0, 1) := by decide +kernel
theorem dX4_runAct_1 : decode cX4_runAct 1 = .ok (.iload_n 1, 1) := by decide +kernel
theorem dX4_runAct_2 : decode cX4_runAct 2 = .ok (.invokevirtual 130, 3) := by decide +kernel
theorem dX4_runAct_5 : decode cX4_runAct 5 = .ok (.istore_n 3, 1) := by decide +kernel
theorem dX4_runAct_6 : decode cX4_runAct 6 = .ok (.aload_n 0, 1) := by decide +kernel
theorem dX4_runAct_7 : decode cX4_runAct 7 = .ok (.getfield 38, 3) := by decide +kernel
theorem dX4_runAct_10 : decode cX4_runAct 10 = .ok (.iload_n 1, 1) := by decide +kernel
theorem dX4_runAct_11 : decode cX4_runAct 11 = .ok (.iaload, 1) := by decide +kernel
theorem dX4_runAct_12 : decode cX4_runAct 12 = .ok (.ifCond .ne 38, 3) := by decide +kernel
theorem dX4_runAct_50 : decode cX4_runAct 50 = .ok (.aload_n 0, 1) := by decide +kernel
theorem dX4_runAct_51 : decode cX4_runAct 51 = .ok (.getfield 38, 3) := by decide +kernel
theorem dX4_runAct_54 : decode cX4_runAct 54 = .ok (.iload_n 1, 1) := by decide +kernel
theorem dX4_runAct_55 : decode cX4_runAct 55 = .ok (.iaload, 1) := by decide +kernel
theorem dX4_runAct_56 : decode cX4_runAct 56 = .ok (.iconst 1, 1) := by decide +kernel
theorem dX4_runAct_57 : decode cX4_runAct 57 = .ok (.if_icmp .ne 17, 3) := by decide +kernel
theorem dX4_runAct_74 : decode cX4_runAct 74 = .ok (.aload_n 0, 1) := by decide +kernel
theorem dX4_runAct_75 : decode cX4_runAct 75 = .ok (.getfield 38, 3) := by decide +kernel
theorem dX4_runAct_78 : decode cX4_runAct 78 = .ok (.iload_n 1, 1) := by decide +kernel
theorem dX4_runAct_79 : decode cX4_runAct 79 = .ok (.iaload, 1) := by decide +kernel
theorem dX4_runAct_80 : decode cX4_runAct 80 = .ok (.iconst 2, 1) := by decide +kernel
theorem dX4_runAct_81 : decode cX4_runAct 81 = .ok (.if_icmp .ne 25, 3) := by decide +kernel
theorem dX4_runAct_106 : decode cX4_runAct 106 = .ok (.aload_n 0, 1) := by decide +kernel
theorem dX4_runAct_107 : decode cX4_runAct 107 = .ok (.getfield 38, 3) := by decide +kernel
theorem dX4_runAct_110 : decode cX4_runAct 110 = .ok (.iload_n 1, 1) := by decide +kernel
theorem dX4_runAct_111 : decode cX4_runAct 111 = .ok (.iaload, 1) := by decide +kernel
theorem dX4_runAct_112 : decode cX4_runAct 112 = .ok (.iconst 1, 1) := by decide +kernel
theorem dX4_runAct_113 : decode cX4_runAct 113 = .ok (.if_icmp .ne 19, 3) := by decide +kernel
theorem dX4_runAct_132 : decode cX4_runAct 132 = .ok (.return_, 1) := by decide +kernel
theorem dX4_runAct_116 : decode cX4_runAct 116 = .ok (.aload_n 0, 1) := by decide +kernel
theorem dX4_runAct_117 : decode cX4_runAct 117 = .ok (.iload_n 1, 1) := by decide +kernel
theorem dX4_runAct_118 : decode cX4_runAct 118 = .ok (.iload_n 2, 1) := by decide +kernel
theorem dX4_runAct_119 : decode cX4_runAct 119 = .ok (.invokevirtual 137, 3) := by decide +kernel
theorem dX4_runAct_122 : decode cX4_runAct 122 = .ok (.ifCond .eq 10, 3) := by decide +kernel
theorem dX4_runAct_125 : decode cX4_runAct 125 = .ok (.aload_n 0, 1) := by decide +kernel
theorem dX4_runAct_126 : decode cX4_runAct 126 = .ok (.iload_n 1, 1) := by decide +kernel
theorem dX4_runAct_127 : decode cX4_runAct 127 = .ok (.iconst 1, 1) := by decide +kernel
theorem dX4_runAct_128 : decode cX4_runAct 128 = .ok (.iload_n 2, 1) := by decide +kernel
theorem dX4_runAct_129 : decode cX4_runAct 129 = .ok (.invokevirtual 133, 3) := by decide +kernel
theorem dX4_runAct_84 : decode cX4_runAct 84 = .ok (.iload_n 3, 1) := by decide +kernel
theorem dX4_runAct_85 : decode cX4_runAct 85 = .ok (.ifCond .ne 21, 3) := by decide +kernel
theorem dX4_runAct_88 : decode cX4_runAct 88 = .ok (.aload_n 0, 1) := by decide +kernel
theorem dX4_runAct_89 : decode cX4_runAct 89 = .ok (.getfield 29, 3) := by decide +kernel
theorem dX4_runAct_92 : decode cX4_runAct 92 = .ok (.iload_n 1, 1) := by decide +kernel
theorem dX4_runAct_93 : decode cX4_runAct 93 = .ok (.aaload, 1) := by decide +kernel
theorem dX4_runAct_94 : decode cX4_runAct 94 = .ok (.iconst 4, 1) := by decide +kernel
theorem dX4_runAct_95 : decode cX4_runAct 95 = .ok (.iaload, 1) := by decide +kernel
theorem dX4_runAct_96 : decode cX4_runAct 96 = .ok (.ifCond .ne 10, 3) := by decide +kernel
theorem dX4_runAct_99 : decode cX4_runAct 99 = .ok (.aload_n 0, 1) := by decide +kernel
theorem dX4_runAct_100 : decode cX4_runAct 100 = .ok (.iload_n 1, 1) := by decide +kernel
theorem dX4_runAct_101 : decode cX4_runAct 101 = .ok (.iconst 0, 1) := by decide +kernel
theorem dX4_runAct_102 : decode cX4_runAct 102 = .ok (.iload_n 2, 1) := by decide +kernel
theorem dX4_runAct_103 : decode cX4_runAct 103 = .ok (.invokevirtual 133, 3) := by decide +kernel
theorem dX4_runAct_60 : decode cX4_runAct 60 = .ok (.iload_n 3, 1) := by decide +kernel
theorem dX4_runAct_61 : decode cX4_runAct 61 = .ok (.ifCond .ne 13, 3) := by decide +kernel
theorem dX4_runAct_64 : decode cX4_runAct 64 = .ok (.aload_n 0, 1) := by decide +kernel
theorem dX4_runAct_65 : decode cX4_runAct 65 = .ok (.getfield 38, 3) := by decide +kernel
theorem dX4_runAct_68 : decode cX4_runAct 68 = .ok (.iload_n 1, 1) := by decide +kernel
theorem dX4_runAct_69 : decode cX4_runAct 69 = .ok (.iconst 0, 1) := by decide +kernel
theorem dX4_runAct_70 : decode cX4_runAct 70 = .ok (.iastore, 1) := by decide +kernel
theorem dX4_runAct_71 : decode cX4_runAct 71 = .ok (.goto 35, 3) := by decide +kernel
theorem dX4_runAct_15 : decode cX4_runAct 15 = .ok (.iload_n 3, 1) := by decide +kernel
theorem dX4_runAct_16 : decode cX4_runAct 16 = .ok (.ifCond .eq 34, 3) := by decide +kernel
theorem dX4_runAct_19 : decode cX4_runAct 19 = .ok (.aload_n 0, 1) := by decide +kernel
theorem dX4_runAct_20 : decode cX4_runAct 20 = .ok (.getfield 38, 3) := by decide +kernel
theorem dX4_runAct_23 : decode cX4_runAct 23 = .ok (.iload_n 1, 1) := by decide +kernel
theorem dX4_runAct_24 : decode cX4_runAct 24 = .ok (.iconst 1, 1) := by decide +kernel
theorem dX4_runAct_25 : decode cX4_runAct 25 = .ok (.iastore, 1) := by decide +kernel
theorem dX4_runAct_26 : decode cX4_runAct 26 = .ok (.aload_n 0, 1) := by decide +kernel
theorem dX4_runAct_27 : decode cX4_runAct 27 = .ok (.getfield 41, 3) := by decide +kernel
theorem dX4_runAct_30 : decode cX4_runAct 30 = .ok (.iload_n 1, 1) := by decide +kernel
theorem dX4_runAct_31 : decode cX4_runAct 31 = .ok (.iload_n 2, 1) := by decide +kernel
theorem dX4_runAct_32 : decode cX4_runAct 32 = .ok (.iastore, 1) := by decide +kernel
theorem dX4_runAct_33 : decode cX4_runAct 33 = .ok (.aload_n 0, 1) := by decide +kernel
theorem dX4_runAct_34 : decode cX4_runAct 34 = .ok (.getfield 44, 3) := by decide +kernel
theorem dX4_runAct_37 : decode cX4_runAct 37 = .ok (.iload_n 1, 1) := by decide +kernel
theorem dX4_runAct_38 : decode cX4_runAct 38 = .ok (.iconst 0, 1) := by decide +kernel
theorem dX4_runAct_39 : decode cX4_runAct 39 = .ok (.bastore, 1) := by decide +kernel
theorem dX4_runAct_40 : decode cX4_runAct 40 = .ok (.aload_n 0, 1) := by decide +kernel
theorem dX4_runAct_41 : decode cX4_runAct 41 = .ok (.getfield 47, 3) := by decide +kernel
theorem dX4_runAct_44 : decode cX4_runAct 44 = .ok (.iload_n 1, 1) := by decide +kernel
theorem dX4_runAct_45 : decode cX4_runAct 45 = .ok (.iconst 0, 1) := by decide +kernel
theorem dX4_runAct_46 : decode cX4_runAct 46 = .ok (.bastore, 1) := by decide +kernel
theorem dX4_runAct_47 : decode cX4_runAct 47 = .ok (.goto 59, 3) := by decide +kernel
theorem zl_X3_89 : zm_F zk_E RX3 89 3 7 := ⟨RX3, TX3, 16, rfl, zk_i3, by decide, zk_b3 184 (by decide +kernel) rfl⟩
theorem zl_X3_120 : zm_F zk_E RX3 120 3 12 := ⟨RX3, TX3, 16, rfl, zk_i3, by decide, zk_b3 189 (by decide +kernel) rfl⟩
theorem zl_X3_127 : zm_L zk_E RX3 127 yX3_mayComeNext (.code yX3_mayComeNext cX3_mayComeNext 6 (some .boolean)) 4 ∧ Cond.instanceMethod yX3_mayComeNext ∈ zk_E.2.2.1 ∧ Cond.selects yX3_mayComeNext.cls yX3_mayComeNext yX3_mayComeNext ∈ zk_E.2.2.1 := ⟨⟨zk_b11 231 (by decide +kernel) rfl, zk_b1 12 (by decide +kernel) rfl, zk_b11 228 (by decide +kernel) rfl, by decide +kernel, by decide +kernel, by decide +kernel⟩, zk_b11 230 (by decide +kernel) rfl, zk_s8 (q := (yX3_mayComeNext, 16)) 10 (by decide +kernel)⟩
theorem zl_X3_131 : Cond.methodLink RX3 131 Lib.Math.abs.name ∈ zk_E.2.2.1 ∧ Cond.static Lib.Math.abs.name ∈ zk_E.2.2.1 ∧ Cond.initialized "java/lang/Math" ∈ zk_E.2.2.1 ∧ Cond.code Lib.Math.abs.name Lib.Math.abs.code 1 (some .int) ∈ zk_E.2.2.1 := ⟨zk_b11 232 (by decide +kernel) rfl, zk_b11 233 (by decide +kernel) rfl, zk_b1 25 (by decide +kernel) rfl, zk_b11 234 (by decide +kernel) rfl⟩
theorem zl_X3_134 : zm_L zk_E RX3 134 yX3_weightOf (.code yX3_weightOf cX3_weightOf 2 (some .long)) 1 ∧ Cond.instanceMethod yX3_weightOf ∈ zk_E.2.2.1 ∧ Cond.selects yX3_weightOf.cls yX3_weightOf yX3_weightOf ∈ zk_E.2.2.1 := ⟨⟨zk_b11 238 (by decide +kernel) rfl, zk_b1 12 (by decide +kernel) rfl, zk_b11 235 (by decide +kernel) rfl, by decide +kernel, by decide +kernel, by decide +kernel⟩, zk_b11 237 (by decide +kernel) rfl, zk_s8 (q := (yX3_weightOf, 16)) 11 (by decide +kernel)⟩
theorem zl_X3_123 : zm_L zk_E RX3 123 yX3_tryRows (.code yX3_tryRows cX3_tryRows 15 none) 6 ∧ Cond.instanceMethod yX3_tryRows ∈ zk_E.2.2.1 ∧ Cond.selects yX3_tryRows.cls yX3_tryRows yX3_tryRows ∈ zk_E.2.2.1 := ⟨⟨zk_b11 227 (by decide +kernel) rfl, zk_b1 12 (by decide +kernel) rfl, zk_b11 224 (by decide +kernel) rfl, by decide +kernel, by decide +kernel, by decide +kernel⟩, zk_b11 226 (by decide +kernel) rfl, zk_s8 (q := (yX3_tryRows, 16)) 9 (by decide +kernel)⟩
theorem zt_3_12 : zm_T zk_E RX3 3 12 .long false := ⟨RX3, TX3, 16, tyX3, rfl, tyX3_ok, nmX3, rfl, rfl, rfl⟩
theorem zl_X3_100 : Cond.constantLong RX3 100 (9223372036854775807 : Int64) ∈ zk_E.2.2.1 := zk_b11 223 (by decide +kernel) rfl
theorem zl_X3_113 : zm_L zk_E RX3 113 yX3_mayTakeAll (.code yX3_mayTakeAll cX3_mayTakeAll 4 (some .boolean)) 2 ∧ Cond.instanceMethod yX3_mayTakeAll ∈ zk_E.2.2.1 ∧ Cond.selects yX3_mayTakeAll.cls yX3_mayTakeAll yX3_mayTakeAll ∈ zk_E.2.2.1 := ⟨⟨zk_b11 218 (by decide +kernel) rfl, zk_b1 12 (by decide +kernel) rfl, zk_b11 215 (by decide +kernel) rfl, by decide +kernel, by decide +kernel, by decide +kernel⟩, zk_b11 217 (by decide +kernel) rfl, zk_s8 (q := (yX3_mayTakeAll, 16)) 7 (by decide +kernel)⟩
theorem zl_X3_116 : zm_L zk_E RX3 116 yX3_leastRowCost (.code yX3_leastRowCost cX3_leastRowCost 3 (some .long)) 2 ∧ Cond.instanceMethod yX3_leastRowCost ∈ zk_E.2.2.1 ∧ Cond.selects yX3_leastRowCost.cls yX3_leastRowCost yX3_leastRowCost ∈ zk_E.2.2.1 := ⟨⟨zk_b11 222 (by decide +kernel) rfl, zk_b1 12 (by decide +kernel) rfl, zk_b11 219 (by decide +kernel) rfl, by decide +kernel, by decide +kernel, by decide +kernel⟩, zk_b11 221 (by decide +kernel) rfl, zk_s8 (q := (yX3_leastRowCost, 16)) 8 (by decide +kernel)⟩
theorem zl_X3_102 : zm_F zk_E RX3 102 3 15 := ⟨RX3, TX3, 16, rfl, zk_i3, by decide, zk_b3 192 (by decide +kernel) rfl⟩
theorem zt_3_15 : zm_T zk_E RX3 3 15 .long false := ⟨RX3, TX3, 16, tyX3, rfl, tyX3_ok, nmX3, rfl, rfl, rfl⟩
theorem zl_X3_106 : zm_L zk_E RX3 106 yX3_share (.code yX3_share cX3_share 3 none) 1 ∧ Cond.instanceMethod yX3_share ∈ zk_E.2.2.1 ∧ Cond.selects yX3_share.cls yX3_share yX3_share ∈ zk_E.2.2.1 := ⟨⟨zk_b12 2 (by decide +kernel) rfl, zk_b1 12 (by decide +kernel) rfl, zk_b11 239 (by decide +kernel) rfl, by decide +kernel, by decide +kernel, by decide +kernel⟩, zk_b12 1 (by decide +kernel) rfl, zk_s8 (q := (yX3_share, 16)) 12 (by decide +kernel)⟩
theorem zl_X3_138 : zm_L zk_E RX3 138 yX3_keepShares (.code yX3_keepShares cX3_keepShares 4 none) 0 ∧ Cond.instanceMethod yX3_keepShares ∈ zk_E.2.2.1 ∧ Cond.selects yX3_keepShares.cls yX3_keepShares yX3_keepShares ∈ zk_E.2.2.1 := ⟨⟨zk_b12 6 (by decide +kernel) rfl, zk_b1 12 (by decide +kernel) rfl, zk_b12 3 (by decide +kernel) rfl, by decide +kernel, by decide +kernel, by decide +kernel⟩, zk_b12 5 (by decide +kernel) rfl, zk_s8 (q := (yX3_keepShares, 16)) 13 (by decide +kernel)⟩
theorem zl_X3_141 : zm_L zk_E RX3 141 yJ6_bitCount_0f7a4 (.code yJ6_bitCount_0f7a4 cJ6_bitCount_0f7a4 1 (some .int)) 1 ∧ Cond.static yJ6_bitCount_0f7a4 ∈ zk_E.2.2.1 := ⟨⟨zk_b12 13 (by decide +kernel) rfl, zk_b1 36 (by decide +kernel) rfl, zk_b12 11 (by decide +kernel) rfl, by decide +kernel, by decide +kernel, by decide +kernel⟩, zk_b12 12 (by decide +kernel) rfl⟩
theorem zt_3_7 : zm_T zk_E RX3 3 7 .int false := ⟨RX3, TX3, 16, tyX3, rfl, tyX3_ok, nmX3, rfl, rfl, rfl⟩
theorem zl_X3_92 : zm_L zk_E RX3 92 yX3_carsThatMayTake (.code yX3_carsThatMayTake cX3_carsThatMayTake 5 (some .int)) 1 ∧ Cond.instanceMethod yX3_carsThatMayTake ∈ zk_E.2.2.1 ∧ Cond.selects yX3_carsThatMayTake.cls yX3_carsThatMayTake yX3_carsThatMayTake ∈ zk_E.2.2.1 := ⟨⟨zk_b11 210 (by decide +kernel) rfl, zk_b1 12 (by decide +kernel) rfl, zk_b11 207 (by decide +kernel) rfl, by decide +kernel, by decide +kernel, by decide +kernel⟩, zk_b11 209 (by decide +kernel) rfl, zk_s8 (q := (yX3_carsThatMayTake, 16)) 5 (by decide +kernel)⟩
theorem zl_X3_95 : zm_L zk_E RX3 95 yX3_costRows (.code yX3_costRows cX3_costRows 3 none) 1 ∧ Cond.instanceMethod yX3_costRows ∈ zk_E.2.2.1 ∧ Cond.selects yX3_costRows.cls yX3_costRows yX3_costRows ∈ zk_E.2.2.1 := ⟨⟨zk_b11 214 (by decide +kernel) rfl, zk_b1 12 (by decide +kernel) rfl, zk_b11 211 (by decide +kernel) rfl, by decide +kernel, by decide +kernel, by decide +kernel⟩, zk_b11 213 (by decide +kernel) rfl, zk_s8 (q := (yX3_costRows, 16)) 6 (by decide +kernel)⟩
theorem zl_X3_109 : zm_L zk_E RX3 109 yX3_keepRow (.code yX3_keepRow cX3_keepRow 11 none) 2 ∧ Cond.instanceMethod yX3_keepRow ∈ zk_E.2.2.1 ∧ Cond.selects yX3_keepRow.cls yX3_keepRow yX3_keepRow ∈ zk_E.2.2.1 := ⟨⟨zk_b12 10 (by decide +kernel) rfl, zk_b1 12 (by decide +kernel) rfl, zk_b12 7 (by decide +kernel) rfl, by decide +kernel, by decide +kernel, by decide +kernel⟩, zk_b12 9 (by decide +kernel) rfl, zk_s8 (q := (yX3_keepRow, 16)) 14 (by decide +kernel)⟩
theorem zl_X4_5 : Cond.methodLink RX4 5 Lib.objectInit ∈ zk_E.2.2.1 ∧ Cond.instanceMethod Lib.objectInit ∈ zk_E.2.2.1 ∧ Cond.code Lib.objectInit ⟨#[0xb1]⟩ 1 none ∈ zk_E.2.2.1 := ⟨zk_b3 100 (by decide +kernel) rfl, zk_b1 43 (by decide +kernel) rfl, zk_b1 44 (by decide +kernel) rfl⟩
theorem zl_X4_11 : zm_F zk_E RX4 11 4 3 := ⟨RX4, TX4, 19, rfl, zk_i4, by decide, zk_b3 106 (by decide +kernel) rfl⟩
theorem zt_4_3 : zm_T zk_E RX4 4 3 (.array .int) true := ⟨RX4, TX4, 19, tyX4, rfl, tyX4_ok, nmX4, rfl, rfl, rfl⟩
theorem zl_X4_15 : zm_F zk_E RX4 15 4 4 := ⟨RX4, TX4, 19, rfl, zk_i4, by decide, zk_b3 108 (by decide +kernel) rfl⟩
theorem zt_4_4 : zm_T zk_E RX4 4 4 (.array .boolean) true := ⟨RX4, TX4, 19, tyX4, rfl, tyX4_ok, nmX4, rfl, rfl, rfl⟩
theorem zl_X4_19 : zm_F zk_E RX4 19 4 5 := ⟨RX4, TX4, 19, rfl, zk_i4, by decide, zk_b3 110 (by decide +kernel) rfl⟩
theorem zt_4_5 : zm_T zk_E RX4 4 5 (.array .int) true := ⟨RX4, TX4, 19, tyX4, rfl, tyX4_ok, nmX4, rfl, rfl, rfl⟩
theorem zl_X4_24 : Cond.classLink RX4 24 "[[I" ∈ zk_E.2.2.1 := zk_b3 101 (by decide +kernel) rfl
theorem zl_X4_26 : zm_F zk_E RX4 26 4 6 := ⟨RX4, TX4, 19, rfl, zk_i4, by decide, zk_b3 112 (by decide +kernel) rfl⟩
theorem zt_4_6 : zm_T zk_E RX4 4 6 (.array (.array .int)) true := ⟨RX4, TX4, 19, tyX4, rfl, tyX4_ok, nmX4, rfl, rfl, rfl⟩
theorem zl_X4_29 : zm_F zk_E RX4 29 4 7 := ⟨RX4, TX4, 19, rfl, zk_i4, by decide, zk_b3 113 (by decide +kernel) rfl⟩
theorem zt_4_7 : zm_T zk_E RX4 4 7 (.array (.array .int)) true := ⟨RX4, TX4, 19, tyX4, rfl, tyX4_ok, nmX4, rfl, rfl, rfl⟩
theorem zl_X4_32 : zm_F zk_E RX4 32 4 8 := ⟨RX4, TX4, 19, rfl, zk_i4, by decide, zk_b3 114 (by decide +kernel) rfl⟩
theorem zt_4_8 : zm_T zk_E RX4 4 8 (.array (.array .int)) true := ⟨RX4, TX4, 19, tyX4, rfl, tyX4_ok, nmX4, rfl, rfl, rfl⟩
theorem zl_X4_35 : zm_F zk_E RX4 35 4 10 := ⟨RX4, TX4, 19, rfl, zk_i4, by decide, zk_b3 117 (by decide +kernel) rfl⟩
theorem zt_4_10 : zm_T zk_E RX4 4 10 (.array .int) true := ⟨RX4, TX4, 19, tyX4, rfl, tyX4_ok, nmX4, rfl, rfl, rfl⟩
theorem zl_X4_38 : zm_F zk_E RX4 38 4 11 := ⟨RX4, TX4, 19, rfl, zk_i4, by decide, zk_b3 118 (by decide +kernel) rfl⟩
theorem zt_4_11 : zm_T zk_E RX4 4 11 (.array .int) true := ⟨RX4, TX4, 19, tyX4, rfl, tyX4_ok, nmX4, rfl, rfl, rfl⟩
theorem zl_X4_41 : zm_F zk_E RX4 41 4 12 := ⟨RX4, TX4, 19, rfl, zk_i4, by decide, zk_b3 119 (by decide +kernel) rfl⟩
theorem zt_4_12 : zm_T zk_E RX4 4 12 (.array .int) true := ⟨RX4, TX4, 19, tyX4, rfl, tyX4_ok, nmX4, rfl, rfl, rfl⟩
theorem zl_X4_44 : zm_F zk_E RX4 44 4 13 := ⟨RX4, TX4, 19, rfl, zk_i4, by decide, zk_b3 120 (by decide +kernel) rfl⟩
theorem zt_4_13 : zm_T zk_E RX4 4 13 (.array .boolean) true := ⟨RX4, TX4, 19, tyX4, rfl, tyX4_ok, nmX4, rfl, rfl, rfl⟩
theorem zl_X4_47 : zm_F zk_E RX4 47 4 14 := ⟨RX4, TX4, 19, rfl, zk_i4, by decide, zk_b3 121 (by decide +kernel) rfl⟩
theorem zt_4_14 : zm_T zk_E RX4 4 14 (.array .boolean) true := ⟨RX4, TX4, 19, tyX4, rfl, tyX4_ok, nmX4, rfl, rfl, rfl⟩
theorem zl_X4_50 : zm_F zk_E RX4 50 4 15 := ⟨RX4, TX4, 19, rfl, zk_i4, by decide, zk_b3 122 (by decide +kernel) rfl⟩
theorem zt_4_15 : zm_T zk_E RX4 4 15 (.array .boolean) true := ⟨RX4, TX4, 19, tyX4, rfl, tyX4_ok, nmX4, rfl, rfl, rfl⟩
theorem zl_X4_53 : zm_F zk_E RX4 53 4 16 := ⟨RX4, TX4, 19, rfl, zk_i4, by decide, zk_b3 123 (by decide +kernel) rfl⟩
theorem zt_4_16 : zm_T zk_E RX4 4 16 (.array .boolean) true := ⟨RX4, TX4, 19, tyX4, rfl, tyX4_ok, nmX4, rfl, rfl, rfl⟩
theorem zl_X4_56 : zm_F zk_E RX4 56 4 18 := ⟨RX4, TX4, 19, rfl, zk_i4, by decide, zk_b3 125 (by decide +kernel) rfl⟩
theorem zt_4_18 : zm_T zk_E RX4 4 18 (.array (.array .int)) true := ⟨RX4, TX4, 19, tyX4, rfl, tyX4_ok, nmX4, rfl, rfl, rfl⟩
theorem zl_X4_59 : zm_F zk_E RX4 59 4 0 := ⟨RX4, TX4, 19, rfl, zk_i4, by decide, zk_b3 102 (by decide +kernel) rfl⟩
theorem zt_4_0 : zm_T zk_E RX4 4 0 (.object "TowerHouse$Program") true := ⟨RX4, TX4, 19, tyX4, rfl, tyX4_ok, nmX4, rfl, rfl, rfl⟩
theorem zl_X4_63 : zm_F zk_E RX4 63 4 1 := ⟨RX4, TX4, 19, rfl, zk_i4, by decide, zk_b3 103 (by decide +kernel) rfl⟩
theorem zt_4_1 : zm_T zk_E RX4 4 1 (.object "TowerHouse$Bus") true := ⟨RX4, TX4, 19, tyX4, rfl, tyX4_ok, nmX4, rfl, rfl, rfl⟩
theorem zl_X4_67 : zm_FN zk_E RX4 67 5 9 := ⟨RX5, TX5, 13, "TowerHouse", rfl, zk_i5, by decide, zk_n2 145 (by decide +kernel) rfl⟩
theorem zl_X4_68 : Cond.methodLink RX4 68 arraycopyName ∈ zk_E.2.2.1 ∧ Cond.native arraycopyName ∈ zk_E.2.2.1 ∧ Cond.static arraycopyName ∈ zk_E.2.2.1 ∧ Cond.initialized "java/lang/System" ∈ zk_E.2.2.1 := ⟨zk_b9 232 (by decide +kernel) rfl, zk_b4 104 (by decide +kernel) rfl, zk_b4 103 (by decide +kernel) rfl, zk_b1 32 (by decide +kernel) rfl⟩
theorem zl_X4_74 : zm_FN zk_E RX4 74 5 10 := ⟨RX5, TX5, 13, "TowerHouse", rfl, zk_i5, by decide, zk_n2 147 (by decide +kernel) rfl⟩
theorem zl_X4_75 : zm_FN zk_E RX4 75 5 12 := ⟨RX5, TX5, 13, "TowerHouse", rfl, zk_i5, by decide, zk_n2 150 (by decide +kernel) rfl⟩
theorem zl_X4_79 : zm_FN zk_E RX4 79 5 11 := ⟨RX5, TX5, 13, "TowerHouse", rfl, zk_i5, by decide, zk_n2 149 (by decide +kernel) rfl⟩
theorem zl_X4_80 : zm_F zk_E RX4 80 4 9 := ⟨RX4, TX4, 19, rfl, zk_i4, by decide, zk_b3 115 (by decide +kernel) rfl⟩
theorem zt_4_9 : zm_T zk_E RX4 4 9 .int false := ⟨RX4, TX4, 19, tyX4, rfl, tyX4_ok, nmX4, rfl, rfl, rfl⟩
theorem zl_X4_81 : zm_L zk_E RX4 81 yX4_sortActs (.code yX4_sortActs cX4_sortActs 3 none) 0 ∧ Cond.instanceMethod yX4_sortActs ∈ zk_E.2.2.1 ∧ Cond.selects yX4_sortActs.cls yX4_sortActs yX4_sortActs ∈ zk_E.2.2.1 := ⟨⟨zk_b9 236 (by decide +kernel) rfl, zk_b1 11 (by decide +kernel) rfl, zk_b9 233 (by decide +kernel) rfl, by decide +kernel, by decide +kernel, by decide +kernel⟩, zk_b9 235 (by decide +kernel) rfl, zk_s7 (q := (yX4_sortActs, 19)) 2 (by decide +kernel)⟩
theorem zl_X4_84 : zm_F zk_E RX4 84 4 2 := ⟨RX4, TX4, 19, rfl, zk_i4, by decide, zk_b3 104 (by decide +kernel) rfl⟩
theorem zl_X4_87 : Cond.methodLink RX4 87 Lib.Math.min.name ∈ zk_E.2.2.1 ∧ Cond.static Lib.Math.min.name ∈ zk_E.2.2.1 ∧ Cond.initialized "java/lang/Math" ∈ zk_E.2.2.1 ∧ Cond.code Lib.Math.min.name Lib.Math.min.code 2 (some .int) ∈ zk_E.2.2.1 := ⟨zk_b10 131 (by decide +kernel) rfl, zk_b4 214 (by decide +kernel) rfl, zk_b1 25 (by decide +kernel) rfl, zk_b4 215 (by decide +kernel) rfl⟩
theorem zl_X4_93 : Cond.methodLink RX4 93 Lib.Math.max.name ∈ zk_E.2.2.1 ∧ Cond.static Lib.Math.max.name ∈ zk_E.2.2.1 ∧ Cond.initialized "java/lang/Math" ∈ zk_E.2.2.1 ∧ Cond.code Lib.Math.max.name Lib.Math.max.code 2 (some .int) ∈ zk_E.2.2.1 := ⟨zk_b12 78 (by decide +kernel) rfl, zk_b4 217 (by decide +kernel) rfl, zk_b1 25 (by decide +kernel) rfl, zk_b4 218 (by decide +kernel) rfl⟩
theorem zl_X4_96 : zm_L zk_E RX4 96 yX4_isAsked (.code yX4_isAsked cX4_isAsked 3 (some .boolean)) 2 ∧ Cond.instanceMethod yX4_isAsked ∈ zk_E.2.2.1 ∧ Cond.selects yX4_isAsked.cls yX4_isAsked yX4_isAsked ∈ zk_E.2.2.1 := ⟨⟨zk_b10 59 (by decide +kernel) rfl, zk_b1 11 (by decide +kernel) rfl, zk_b10 56 (by decide +kernel) rfl, by decide +kernel, by decide +kernel, by decide +kernel⟩, zk_b10 58 (by decide +kernel) rfl, zk_s7 (q := (yX4_isAsked, 19)) 6 (by decide +kernel)⟩
theorem zl_X4_100 : zm_L zk_E RX4 100 yX4_isOn (.code yX4_isOn cX4_isOn 3 (some .boolean)) 2 ∧ Cond.instanceMethod yX4_isOn ∈ zk_E.2.2.1 ∧ Cond.selects yX4_isOn.cls yX4_isOn yX4_isOn ∈ zk_E.2.2.1 := ⟨⟨zk_b10 55 (by decide +kernel) rfl, zk_b1 11 (by decide +kernel) rfl, zk_b10 52 (by decide +kernel) rfl, by decide +kernel, by decide +kernel, by decide +kernel⟩, zk_b10 54 (by decide +kernel) rfl, zk_s7 (q := (yX4_isOn, 19)) 5 (by decide +kernel)⟩
theorem zl_X4_103 : zm_L zk_E RX4 103 yX4_countOn (.code yX4_countOn cX4_countOn 5 (some .int)) 2 ∧ Cond.instanceMethod yX4_countOn ∈ zk_E.2.2.1 ∧ Cond.selects yX4_countOn.cls yX4_countOn yX4_countOn ∈ zk_E.2.2.1 := ⟨⟨zk_b10 51 (by decide +kernel) rfl, zk_b1 11 (by decide +kernel) rfl, zk_b10 48 (by decide +kernel) rfl, by decide +kernel, by decide +kernel, by decide +kernel⟩, zk_b10 50 (by decide +kernel) rfl, zk_s7 (q := (yX4_countOn, 19)) 4 (by decide +kernel)⟩
theorem zl_X4_106 : zm_L zk_E RX4 106 yX4_isZone (.code yX4_isZone cX4_isZone 2 (some .boolean)) 1 ∧ Cond.instanceMethod yX4_isZone ∈ zk_E.2.2.1 ∧ Cond.selects yX4_isZone.cls yX4_isZone yX4_isZone ∈ zk_E.2.2.1 := ⟨⟨zk_b10 63 (by decide +kernel) rfl, zk_b1 11 (by decide +kernel) rfl, zk_b10 60 (by decide +kernel) rfl, by decide +kernel, by decide +kernel, by decide +kernel⟩, zk_b10 61 (by decide +kernel) rfl, zk_b10 62 (by decide +kernel) rfl⟩
theorem zl_X4_110 : zm_L zk_E RX4 110 yX4_countAsked (.code yX4_countAsked cX4_countAsked 5 (some .int)) 2 ∧ Cond.instanceMethod yX4_countAsked ∈ zk_E.2.2.1 ∧ Cond.selects yX4_countAsked.cls yX4_countAsked yX4_countAsked ∈ zk_E.2.2.1 := ⟨⟨zk_b10 67 (by decide +kernel) rfl, zk_b1 11 (by decide +kernel) rfl, zk_b10 64 (by decide +kernel) rfl, by decide +kernel, by decide +kernel, by decide +kernel⟩, zk_b10 66 (by decide +kernel) rfl, zk_s7 (q := (yX4_countAsked, 19)) 7 (by decide +kernel)⟩
theorem zl_X4_113 : zm_L zk_E RX4 113 yX4_isSure (.code yX4_isSure cX4_isSure 3 (some .boolean)) 2 ∧ Cond.instanceMethod yX4_isSure ∈ zk_E.2.2.1 ∧ Cond.selects yX4_isSure.cls yX4_isSure yX4_isSure ∈ zk_E.2.2.1 := ⟨⟨zk_b10 71 (by decide +kernel) rfl, zk_b1 11 (by decide +kernel) rfl, zk_b10 68 (by decide +kernel) rfl, by decide +kernel, by decide +kernel, by decide +kernel⟩, zk_b10 70 (by decide +kernel) rfl, zk_s7 (q := (yX4_isSure, 19)) 8 (by decide +kernel)⟩
theorem zl_X4_116 : zm_L zk_E RX4 116 yX4_isMet (.code yX4_isMet cX4_isMet 2 (some .boolean)) 1 ∧ Cond.instanceMethod yX4_isMet ∈ zk_E.2.2.1 ∧ Cond.selects yX4_isMet.cls yX4_isMet yX4_isMet ∈ zk_E.2.2.1 := ⟨⟨zk_b10 79 (by decide +kernel) rfl, zk_b1 11 (by decide +kernel) rfl, zk_b10 76 (by decide +kernel) rfl, by decide +kernel, by decide +kernel, by decide +kernel⟩, zk_b10 78 (by decide +kernel) rfl, zk_s7 (q := (yX4_isMet, 19)) 10 (by decide +kernel)⟩
theorem zl_X4_143 : zm_F zk_E RX4 143 4 17 := ⟨RX4, TX4, 19, rfl, zk_i4, by decide, zk_b3 124 (by decide +kernel) rfl⟩
theorem zt_4_17 : zm_T zk_E RX4 4 17 .int false := ⟨RX4, TX4, 19, tyX4, rfl, tyX4_ok, nmX4, rfl, rfl, rfl⟩
theorem zl_X4_155 : zm_FN zk_E RX4 155 9 12 := ⟨RX9, TX9, 20, "TowerHouse", rfl, zk_i9, by decide, zk_n2 209 (by decide +kernel) rfl⟩
theorem zl_X4_146 : zm_L zk_E RX4 146 yX1_hasRoomInQueue (.code yX1_hasRoomInQueue cX1_hasRoomInQueue 2 (some .boolean)) 1 ∧ Cond.instanceMethod yX1_hasRoomInQueue ∈ zk_E.2.2.1 ∧ Cond.selects yX1_hasRoomInQueue.cls yX1_hasRoomInQueue yX1_hasRoomInQueue ∈ zk_E.2.2.1 := ⟨⟨zk_b10 87 (by decide +kernel) rfl, zk_b1 10 (by decide +kernel) rfl, zk_b10 84 (by decide +kernel) rfl, by decide +kernel, by decide +kernel, by decide +kernel⟩, zk_b10 85 (by decide +kernel) rfl, zk_b10 86 (by decide +kernel) rfl⟩
theorem zl_X4_151 : zm_L zk_E RX4 151 yX1_enqueue (.code yX1_enqueue cX1_enqueue 10 (some .int)) 6 ∧ Cond.instanceMethod yX1_enqueue ∈ zk_E.2.2.1 ∧ Cond.selects yX1_enqueue.cls yX1_enqueue yX1_enqueue ∈ zk_E.2.2.1 := ⟨⟨zk_b10 91 (by decide +kernel) rfl, zk_b1 10 (by decide +kernel) rfl, zk_b10 88 (by decide +kernel) rfl, by decide +kernel, by decide +kernel, by decide +kernel⟩, zk_b10 89 (by decide +kernel) rfl, zk_b10 90 (by decide +kernel) rfl⟩
theorem zl_X4_140 : zm_L zk_E RX4 140 yX4_isSurelyCalled (.code yX4_isSurelyCalled cX4_isSurelyCalled 4 (some .boolean)) 1 ∧ Cond.instanceMethod yX4_isSurelyCalled ∈ zk_E.2.2.1 ∧ Cond.selects yX4_isSurelyCalled.cls yX4_isSurelyCalled yX4_isSurelyCalled ∈ zk_E.2.2.1 := ⟨⟨zk_b12 95 (by decide +kernel) rfl, zk_b1 11 (by decide +kernel) rfl, zk_b12 92 (by decide +kernel) rfl, by decide +kernel, by decide +kernel, by decide +kernel⟩, zk_b12 94 (by decide +kernel) rfl, zk_s9 (q := (yX4_isSurelyCalled, 19)) 4 (by decide +kernel)⟩
theorem zl_X4_130 : zm_L zk_E RX4 130 yX4_isCalled (.code yX4_isCalled cX4_isCalled 3 (some .boolean)) 1 ∧ Cond.instanceMethod yX4_isCalled ∈ zk_E.2.2.1 ∧ Cond.selects yX4_isCalled.cls yX4_isCalled yX4_isCalled ∈ zk_E.2.2.1 := ⟨⟨zk_b10 75 (by decide +kernel) rfl, zk_b1 11 (by decide +kernel) rfl, zk_b10 72 (by decide +kernel) rfl, by decide +kernel, by decide +kernel, by decide +kernel⟩, zk_b10 74 (by decide +kernel) rfl, zk_s7 (q := (yX4_isCalled, 19)) 9 (by decide +kernel)⟩
theorem zl_X4_137 : zm_L zk_E RX4 137 yX4_isDue (.code yX4_isDue cX4_isDue 3 (some .boolean)) 2 ∧ Cond.instanceMethod yX4_isDue ∈ zk_E.2.2.1 ∧ Cond.selects yX4_isDue.cls yX4_isDue yX4_isDue ∈ zk_E.2.2.1 := ⟨⟨zk_b12 91 (by decide +kernel) rfl, zk_b1 11 (by decide +kernel) rfl, zk_b12 88 (by decide +kernel) rfl, by decide +kernel, by decide +kernel, by decide +kernel⟩, zk_b12 90 (by decide +kernel) rfl, zk_s9 (q := (yX4_isDue, 19)) 3 (by decide +kernel)⟩
theorem zl_X4_133 : zm_L zk_E RX4 133 yX4_setDone (.code yX4_setDone cX4_setDone 5 none) 3 ∧ Cond.instanceMethod yX4_setDone ∈ zk_E.2.2.1 ∧ Cond.selects yX4_setDone.cls yX4_setDone yX4_setDone ∈ zk_E.2.2.1 := ⟨⟨zk_b10 83 (by decide +kernel) rfl, zk_b1 11 (by decide +kernel) rfl, zk_b10 80 (by decide +kernel) rfl, by decide +kernel, by decide +kernel, by decide +kernel⟩, zk_b10 82 (by decide +kernel) rfl, zk_s7 (q := (yX4_setDone, 19)) 11 (by decide +kernel)⟩
set_option maxHeartbeats 4000000 in
set_option maxRecDepth 100000 in
theorem zt_X3_mayTakeAll_L2 {p : Program} {l : Launch} {e : Env} {R : Room} {s : State} {m : MethodId} {args : Array Value} {below : List Frame} {meth : Method} {c : Code} {V : zm_V} {mc ms d rc rs : Nat} (hX : zm_X p R s m args meth c RX3 "mayTakeAll" cX3_mayTakeAll 4 zk_E V mc ms) (hr : meth.sig.returnType = (some .boolean)) (hR : R.frames = d ∧ R.locals = 64 * d) (hd : 1 ≤ d) {N : Nat} {res : (Int32 × zm_S) ⊕ ((Unit) × zm_S)} {out : (Int32 × zm_S)} (a0 : Nat) (i1 : Int32) (i2 : Int32) (hf : ∀ o, res = .inl o → o = out) (hk : ∀ (S' : zm_S), res = .inr ((), S') → zw p l e R s m args below meth c (vx_MQ below (zm_Qc zk_E V (zo_i out)) (zm_XC zk_E V zo_x) args s mc ms (fun q => V.2.2.2.1 ≤ q)) 4 zk_E V mc ms 39 [] [] S' rc rs) : ∀ (n : Nat) (i3 : Int32) (S : zm_S), zf_X3_mayTakeAll_L2 N n a0 i1 i2 i3 S = some res → zw p l e R s m args below meth c (vx_MQ below (zm_Qc zk_E V (zo_i out)) (zm_XC zk_E V zo_x) args s mc ms (fun q => V.2.2.2.1 ≤ q)) 4 zk_E V mc ms 2 [(0, .ref a0), (1, .int i1), (2, .int i2), (3, .int i3)] [] S rc rs := by
  intro n
  induction n with
  | zero => intro i3 S h; cases h
  | succ n ih =>
    intro i3 S h
    rw [zf_X3_mayTakeAll_L2] at h
    refine zw_iload_n hX dX3_mayTakeAll_2 rfl ?_
    refine zw_aload_n hX dX3_mayTakeAll_3 rfl ?_
    obtain ⟨v1, g, h⟩ := zb_some h
    refine zw_geti hX zl_X3_53 dX3_mayTakeAll_4 g ?_
    refine zw_icmp_ge (tgt := 39) hX dX3_mayTakeAll_7 (by decide) (fun c7 => ?_) (fun c7 => ?_)
    · rw [if_pos c7] at h
      refine zw_sub (lv' := []) zs_nil ?_
      exact hk  _ (Option.some.inj h).symm
    · rw [if_neg c7] at h
      refine zw_iload_n hX dX3_mayTakeAll_10 rfl ?_
      refine zw_iload_n hX dX3_mayTakeAll_11 rfl ?_
      refine zw_ishr hX dX3_mayTakeAll_12 ?_
      refine zw_iconst (v := (1 : Int32)) hX dX3_mayTakeAll_13 (by decide) ?_
      refine zw_iand hX dX3_mayTakeAll_14 ?_
      refine zw_if_eq (tgt := 33) hX dX3_mayTakeAll_15 (by decide) (fun c15 => ?_) (fun c15 => ?_)
      · rw [if_pos c15] at h
        refine zw_iinc (v := (i3 + (1 : Int32))) hX dX3_mayTakeAll_33 rfl rfl (by decide) ?_
        refine zw_goto (tgt := 2) hX dX3_mayTakeAll_36 (by decide) ?_
        refine zw_sub (lv' := [(0, .ref a0), (1, .int i1), (2, .int i2), (3, .int (i3 + (1 : Int32)))]) (List.forall_mem_cons.mpr ⟨rfl, (List.forall_mem_cons.mpr ⟨rfl, (List.forall_mem_cons.mpr ⟨rfl, (List.forall_mem_cons.mpr ⟨rfl, zs_nil⟩)⟩)⟩)⟩) ?_
        exact ih _ _ h
      · rw [if_neg c15] at h
        refine zw_aload_n hX dX3_mayTakeAll_18 rfl ?_
        obtain ⟨b2, g, h⟩ := zb_some h
        refine zw_getr hX zl_X3_26 dX3_mayTakeAll_19 g ?_
        refine zw_iload_n hX dX3_mayTakeAll_22 rfl ?_
        obtain ⟨v3, g, h⟩ := zb_some h
        refine zw_xi hX dX3_mayTakeAll_23 g ?_
        refine zw_iload_n hX dX3_mayTakeAll_24 rfl ?_
        refine zw_ishr hX dX3_mayTakeAll_25 ?_
        refine zw_iconst (v := (1 : Int32)) hX dX3_mayTakeAll_26 (by decide) ?_
        refine zw_iand hX dX3_mayTakeAll_27 ?_
        refine zw_if_ne (tgt := 33) hX dX3_mayTakeAll_28 (by decide) (fun c28 => ?_) (fun c28 => ?_)
        · rw [if_neg c28] at h
          refine zw_iinc (v := (i3 + (1 : Int32))) hX dX3_mayTakeAll_33 rfl rfl (by decide) ?_
          refine zw_goto (tgt := 2) hX dX3_mayTakeAll_36 (by decide) ?_
          refine zw_sub (lv' := [(0, .ref a0), (1, .int i1), (2, .int i2), (3, .int (i3 + (1 : Int32)))]) (List.forall_mem_cons.mpr ⟨rfl, (List.forall_mem_cons.mpr ⟨rfl, (List.forall_mem_cons.mpr ⟨rfl, (List.forall_mem_cons.mpr ⟨rfl, zs_nil⟩)⟩)⟩)⟩) ?_
          exact ih _ _ h
        · rw [if_pos c28] at h
          refine zw_iconst (v := (0 : Int32)) hX dX3_mayTakeAll_31 (by decide) ?_
          have hz := hf _ (Option.some.inj h).symm
          subst hz
          exact zw_iret hX hr dX3_mayTakeAll_32 rfl ⟨rfl, rfl⟩
set_option maxHeartbeats 4000000 in
set_option maxRecDepth 100000 in
theorem zt_X3_mayTakeAll {l : Launch} {V : zm_V} {N : Nat} {S : zm_S} {out : (Int32 × zm_S)} {d : Nat} {a0 : Nat} {i1 : Int32} {i2 : Int32} (hd : 1 ≤ d) (h : zf_X3_mayTakeAll N a0 i1 i2 S = some out) : zm_Met l zk_E V yX3_mayTakeAll (.code yX3_mayTakeAll cX3_mayTakeAll 4 (some .boolean)) d [.ref a0, .int i1, .int i2] S 0 0 (zo_i out) zo_x := by
  refine zm_of (by decide +kernel) (Nat.le_of_ble_eq_true rfl) ?_
  intro p e R s m args below meth c hRR hX hr hxt
  have hR : R.frames = d ∧ R.locals = 64 * d := by rw [hRR]; exact ⟨rfl, rfl⟩
  have hX : zm_X p R s m args meth c RX3 "mayTakeAll" cX3_mayTakeAll 4 zk_E V 0 0 := hX
  unfold zf_X3_mayTakeAll at h
  refine zw_sub (lv' := [(0, .ref a0), (1, .int i1), (2, .int i2)]) (List.forall_mem_cons.mpr ⟨rfl, (List.forall_mem_cons.mpr ⟨rfl, (List.forall_mem_cons.mpr ⟨rfl, zs_nil⟩)⟩)⟩) ?_
  refine zw_iconst (v := (0 : Int32)) hX dX3_mayTakeAll_0 (by decide) ?_
  refine zw_istore_n hX dX3_mayTakeAll_1 (by decide) ?_
  obtain ⟨r, g, h⟩ := zb_some h
  refine zw_sub (lv' := [(0, .ref a0), (1, .int i1), (2, .int i2), (3, .int (0 : Int32))]) (List.forall_mem_cons.mpr ⟨rfl, (List.forall_mem_cons.mpr ⟨rfl, (List.forall_mem_cons.mpr ⟨rfl, (List.forall_mem_cons.mpr ⟨rfl, zs_nil⟩)⟩)⟩)⟩) ?_
  refine zt_X3_mayTakeAll_L2 hX hr hR hd (res := r) (out := out) a0 i1 i2 ?_ ?_ N _ _ g
  · intro o ho
    subst ho
    exact Option.some.inj h
  · intro  S4 hx
    subst hx
    try dsimp only at h
    refine zw_iconst (v := (1 : Int32)) hX dX3_mayTakeAll_39 (by decide) ?_
    obtain rfl := Option.some.inj h
    exact zw_iret hX hr dX3_mayTakeAll_40 rfl ⟨rfl, rfl⟩
set_option maxHeartbeats 4000000 in
set_option maxRecDepth 100000 in
theorem zt_X3_mayComeNext {l : Launch} {V : zm_V} {N : Nat} {S : zm_S} {out : (Int32 × zm_S)} {d : Nat} {a0 : Nat} {i1 : Int32} {i2 : Int32} {i3 : Int32} {i4 : Int32} (hd : 2 ≤ d) (h : zf_X3_mayComeNext N a0 i1 i2 i3 i4 S = some out) : zm_Met l zk_E V yX3_mayComeNext (.code yX3_mayComeNext cX3_mayComeNext 6 (some .boolean)) d [.ref a0, .int i1, .int i2, .int i3, .int i4] S 0 0 (zo_i out) zo_x := by
  refine zm_of (by decide +kernel) (Nat.le_of_ble_eq_true rfl) ?_
  intro p e R s m args below meth c hRR hX hr hxt
  have hR : R.frames = d ∧ R.locals = 64 * d := by rw [hRR]; exact ⟨rfl, rfl⟩
  have hX : zm_X p R s m args meth c RX3 "mayComeNext" cX3_mayComeNext 6 zk_E V 0 0 := hX
  unfold zf_X3_mayComeNext at h
  refine zw_sub (lv' := [(0, .ref a0), (1, .int i1), (2, .int i2), (3, .int i3), (4, .int i4)]) (List.forall_mem_cons.mpr ⟨rfl, (List.forall_mem_cons.mpr ⟨rfl, (List.forall_mem_cons.mpr ⟨rfl, (List.forall_mem_cons.mpr ⟨rfl, (List.forall_mem_cons.mpr ⟨rfl, zs_nil⟩)⟩)⟩)⟩)⟩) ?_
  refine zw_aload_n hX dX3_mayComeNext_0 rfl ?_
  refine zw_aload_n hX dX3_mayComeNext_1 rfl ?_
  obtain ⟨b1, g, h⟩ := zb_some h
  refine zw_getr hX zl_X3_13 dX3_mayComeNext_2 g ?_
  refine zw_iload_n hX dX3_mayComeNext_5 rfl ?_
  obtain ⟨b2, g, h⟩ := zb_some h
  refine zw_xr hX dX3_mayComeNext_6 g ?_
  refine zw_iconst (v := (5 : Int32)) hX dX3_mayComeNext_7 (by decide) ?_
  obtain ⟨v3, g, h⟩ := zb_some h
  refine zw_xi hX dX3_mayComeNext_8 g ?_
  obtain ⟨_, gi, h⟩ := zb_some h
  obtain ⟨r5, g, h⟩ := zb_some h
  refine zc_Vi (as := [.int v3]) hX gi (zt_X3_placeOfOpen (d := d - 1) (by omega) g) zl_X3_62 rfl dX3_mayComeNext_9 ⟨rfl, rfl, Nat.le_of_ble_eq_true rfl⟩ ⟨by omega, by omega⟩ ?_
  refine zw_istore hX dX3_mayComeNext_12 (by decide) ?_
  refine zw_iload hX dX3_mayComeNext_14 rfl ?_
  refine zw_if_gt (tgt := 40) hX dX3_mayComeNext_16 (by decide) (fun c16 => ?_) (fun c16 => ?_)
  · rw [if_pos c16] at h
    refine zw_iconst (v := (1 : Int32)) hX dX3_mayComeNext_40 (by decide) ?_
    refine zw_goto (tgt := 45) hX dX3_mayComeNext_41 (by decide) ?_
    obtain rfl := Option.some.inj h
    exact zw_iret hX hr dX3_mayComeNext_45 rfl ⟨rfl, rfl⟩
  · rw [if_neg c16] at h
    refine zw_iload hX dX3_mayComeNext_19 rfl ?_
    refine zw_iconst (v := (-1 : Int32)) hX dX3_mayComeNext_21 (by decide) ?_
    refine zw_icmp_eq (tgt := 40) hX dX3_mayComeNext_22 (by decide) (fun c22 => ?_) (fun c22 => ?_)
    · rw [if_pos c22] at h
      refine zw_iconst (v := (1 : Int32)) hX dX3_mayComeNext_40 (by decide) ?_
      refine zw_goto (tgt := 45) hX dX3_mayComeNext_41 (by decide) ?_
      obtain rfl := Option.some.inj h
      exact zw_iret hX hr dX3_mayComeNext_45 rfl ⟨rfl, rfl⟩
    · rw [if_neg c22] at h
      refine zw_iload hX dX3_mayComeNext_25 rfl ?_
      refine zw_iload_n hX dX3_mayComeNext_27 rfl ?_
      refine zw_icmp_eq (tgt := 40) hX dX3_mayComeNext_28 (by decide) (fun c28 => ?_) (fun c28 => ?_)
      · rw [if_pos c28] at h
        refine zw_iconst (v := (1 : Int32)) hX dX3_mayComeNext_40 (by decide) ?_
        refine zw_goto (tgt := 45) hX dX3_mayComeNext_41 (by decide) ?_
        obtain rfl := Option.some.inj h
        exact zw_iret hX hr dX3_mayComeNext_45 rfl ⟨rfl, rfl⟩
      · rw [if_neg c28] at h
        refine zw_iload_n hX dX3_mayComeNext_31 rfl ?_
        refine zw_iload hX dX3_mayComeNext_32 rfl ?_
        refine zw_ishr hX dX3_mayComeNext_34 ?_
        refine zw_iconst (v := (1 : Int32)) hX dX3_mayComeNext_35 (by decide) ?_
        refine zw_iand hX dX3_mayComeNext_36 ?_
        refine zw_if_ne (tgt := 44) hX dX3_mayComeNext_37 (by decide) (fun c37 => ?_) (fun c37 => ?_)
        · rw [if_neg c37] at h
          refine zw_iconst (v := (0 : Int32)) hX dX3_mayComeNext_44 (by decide) ?_
          obtain rfl := Option.some.inj h
          exact zw_iret hX hr dX3_mayComeNext_45 rfl ⟨rfl, rfl⟩
        · rw [if_pos c37] at h
          refine zw_iconst (v := (1 : Int32)) hX dX3_mayComeNext_40 (by decide) ?_
          refine zw_goto (tgt := 45) hX dX3_mayComeNext_41 (by decide) ?_
          obtain rfl := Option.some.inj h
          exact zw_iret hX hr dX3_mayComeNext_45 rfl ⟨rfl, rfl⟩
set_option maxHeartbeats 4000000 in
set_option maxRecDepth 100000 in
theorem zt_X3_weightOf {l : Launch} {V : zm_V} {N : Nat} {S : zm_S} {out : (Int64 × zm_S)} {d : Nat} {a0 : Nat} {a1 : Nat} (hd : 1 ≤ d) (h : zf_X3_weightOf N a0 a1 S = some out) : zm_Met l zk_E V yX3_weightOf (.code yX3_weightOf cX3_weightOf 2 (some .long)) d [.ref a0, .ref a1] S 0 0 (zo_l out) zo_x := by
  refine zm_of (by decide +kernel) (Nat.le_of_ble_eq_true rfl) ?_
  intro p e R s m args below meth c hRR hX hr hxt
  have hR : R.frames = d ∧ R.locals = 64 * d := by rw [hRR]; exact ⟨rfl, rfl⟩
  have hX : zm_X p R s m args meth c RX3 "weightOf" cX3_weightOf 2 zk_E V 0 0 := hX
  unfold zf_X3_weightOf at h
  refine zw_sub (lv' := [(0, .ref a0), (1, .ref a1)]) (List.forall_mem_cons.mpr ⟨rfl, (List.forall_mem_cons.mpr ⟨rfl, zs_nil⟩)⟩) ?_
  refine zw_iconst (v := (1 : Int32)) hX dX3_weightOf_0 (by decide) ?_
  refine zw_aload_n hX dX3_weightOf_1 rfl ?_
  obtain ⟨v1, g, h⟩ := zb_some h
  refine zw_geti hX zl_X3_89 dX3_weightOf_2 g ?_
  refine zw_aload_n hX dX3_weightOf_5 rfl ?_
  refine zw_iconst (v := (2 : Int32)) hX dX3_weightOf_6 (by decide) ?_
  obtain ⟨v2, g, h⟩ := zb_some h
  refine zw_xi hX dX3_weightOf_7 g ?_
  refine zw_isub hX dX3_weightOf_8 ?_
  refine zw_bipush (v := (30 : Int32)) hX dX3_weightOf_9 (by decide) ?_
  refine zw_idiv hX dX3_weightOf_11 (by decide) ?_
  refine zw_iadd hX dX3_weightOf_12 ?_
  refine zw_i2l hX dX3_weightOf_13 ?_
  obtain rfl := Option.some.inj h
  exact zw_lret hX hr dX3_weightOf_14 ⟨rfl, rfl⟩
set_option maxHeartbeats 4000000 in
set_option maxRecDepth 100000 in
theorem zt_X3_tryRows_B_L49 {p : Program} {l : Launch} {e : Env} {R : Room} {s : State} {m : MethodId} {args : Array Value} {below : List Frame} {meth : Method} {c : Code} {V : zm_V} {mc ms d rc rs : Nat} {K : Nat → Int32 → Int32 → Int32 → Int32 → Int32 → Int64 → zm_S → Option (Unit × zm_S)} {dk : Nat} (hK : ∀ {d : Nat}, dk ≤ d → ∀ {k0 : Nat} {k1 : Int32} {k2 : Int32} {k3 : Int32} {k4 : Int32} {k5 : Int32} {k6 : Int64} {S : zm_S} {out : Unit × zm_S}, K k0 k1 k2 k3 k4 k5 k6 S = some out → zm_Met l zk_E V yX3_tryRows (.code yX3_tryRows cX3_tryRows 15 none) d [.ref k0, .int k1, .int k2, .int k3, .int k4, .int k5, .long k6] S 0 0 (zo_v out) zo_x) (hX : zm_X p R s m args meth c RX3 "tryRows" cX3_tryRows 15 zk_E V mc ms) (hr : meth.sig.returnType = none) (hR : R.frames = d ∧ R.locals = 64 * d) (hd : 3 ≤ d ∧ dk + 1 ≤ d) {N : Nat} {res : (Unit × zm_S) ⊕ ((Unit) × zm_S)} {out : (Unit × zm_S)} (a0 : Nat) (i1 : Int32) (i2 : Int32) (i3 : Int32) (i4 : Int32) (i5 : Int32) (j6 : Int64) (i8 : Int32) (hf : ∀ o, res = .inl o → o = out) (hk : ∀ (S' : zm_S), res = .inr ((), S') → zw p l e R s m args below meth c (vx_MQ below (zm_Qc zk_E V (zo_v out)) (zm_XC zk_E V zo_x) args s mc ms (fun q => V.2.2.2.1 ≤ q)) 15 zk_E V mc ms 198 [] [] S' rc rs) : ∀ (n : Nat) (i9 : Int32) (S : zm_S), zf_X3_tryRows_B_L49 N K n a0 i1 i2 i3 i4 i5 j6 i8 i9 S = some res → zw p l e R s m args below meth c (vx_MQ below (zm_Qc zk_E V (zo_v out)) (zm_XC zk_E V zo_x) args s mc ms (fun q => V.2.2.2.1 ≤ q)) 15 zk_E V mc ms 49 [(0, .ref a0), (1, .int i1), (2, .int i2), (3, .int i3), (4, .int i4), (5, .int i5), (6, .long j6), (8, .int i8), (9, .int i9)] [] S rc rs := by
  intro n
  induction n with
  | zero => intro i9 S h; cases h
  | succ n ih =>
    intro i9 S h
    rw [zf_X3_tryRows_B_L49] at h
    refine zw_iload hX dX3_tryRows_49 rfl ?_
    refine zw_aload_n hX dX3_tryRows_51 rfl ?_
    obtain ⟨v5, g, h⟩ := zb_some h
    refine zw_geti hX zl_X3_53 dX3_tryRows_52 g ?_
    refine zw_icmp_ge (tgt := 198) hX dX3_tryRows_55 (by decide) (fun c55 => ?_) (fun c55 => ?_)
    · rw [if_pos c55] at h
      refine zw_sub (lv' := []) zs_nil ?_
      exact hk  _ (Option.some.inj h).symm
    · rw [if_neg c55] at h
      refine zw_iload_n hX dX3_tryRows_58 rfl ?_
      refine zw_bipush (v := (6 : Int32)) hX dX3_tryRows_59 (by decide) ?_
      refine zw_icmp_ge (tgt := 198) hX dX3_tryRows_61 (by decide) (fun c61 => ?_) (fun c61 => ?_)
      · rw [if_pos c61] at h
        refine zw_sub (lv' := []) zs_nil ?_
        exact hk  _ (Option.some.inj h).symm
      · rw [if_neg c61] at h
        refine zw_iload_n hX dX3_tryRows_64 rfl ?_
        refine zw_iload hX dX3_tryRows_65 rfl ?_
        refine zw_ishr hX dX3_tryRows_67 ?_
        refine zw_iconst (v := (1 : Int32)) hX dX3_tryRows_68 (by decide) ?_
        refine zw_iand hX dX3_tryRows_69 ?_
        refine zw_if_eq (tgt := 192) hX dX3_tryRows_70 (by decide) (fun c70 => ?_) (fun c70 => ?_)
        · rw [if_pos c70] at h
          refine zw_iinc (v := (i9 + (1 : Int32))) hX dX3_tryRows_192 rfl rfl (by decide) ?_
          refine zw_goto (tgt := 49) hX dX3_tryRows_195 (by decide) ?_
          refine zw_sub (lv' := [(0, .ref a0), (1, .int i1), (2, .int i2), (3, .int i3), (4, .int i4), (5, .int i5), (6, .long j6), (8, .int i8), (9, .int (i9 + (1 : Int32)))]) (List.forall_mem_cons.mpr ⟨rfl, (List.forall_mem_cons.mpr ⟨rfl, (List.forall_mem_cons.mpr ⟨rfl, (List.forall_mem_cons.mpr ⟨rfl, (List.forall_mem_cons.mpr ⟨rfl, (List.forall_mem_cons.mpr ⟨rfl, (List.forall_mem_cons.mpr ⟨rfl, (List.forall_mem_cons.mpr ⟨rfl, (List.forall_mem_cons.mpr ⟨rfl, zs_nil⟩)⟩)⟩)⟩)⟩)⟩)⟩)⟩)⟩) ?_
          exact ih _ _ h
        · rw [if_neg c70] at h
          refine zw_aload_n hX dX3_tryRows_73 rfl ?_
          refine zw_iload_n hX dX3_tryRows_74 rfl ?_
          refine zw_iload hX dX3_tryRows_75 rfl ?_
          refine zw_iload_n hX dX3_tryRows_77 rfl ?_
          refine zw_iload_n hX dX3_tryRows_78 rfl ?_
          obtain ⟨_, gi, h⟩ := zb_some h
          obtain ⟨r7, g, h⟩ := zb_some h
          refine zc_Vi (as := [.int i1, .int i9, .int i2, .int i3]) hX gi (zt_X3_mayComeNext (d := d - 1) (by omega) g) zl_X3_127 rfl dX3_tryRows_79 ⟨rfl, rfl, Nat.le_of_ble_eq_true rfl⟩ ⟨by omega, by omega⟩ ?_
          refine zw_if_eq (tgt := 192) hX dX3_tryRows_82 (by decide) (fun c82 => ?_) (fun c82 => ?_)
          · rw [if_pos c82] at h
            refine zw_iinc (v := (i9 + (1 : Int32))) hX dX3_tryRows_192 rfl rfl (by decide) ?_
            refine zw_goto (tgt := 49) hX dX3_tryRows_195 (by decide) ?_
            refine zw_sub (lv' := [(0, .ref a0), (1, .int i1), (2, .int i2), (3, .int i3), (4, .int i4), (5, .int i5), (6, .long j6), (8, .int i8), (9, .int (i9 + (1 : Int32)))]) (List.forall_mem_cons.mpr ⟨rfl, (List.forall_mem_cons.mpr ⟨rfl, (List.forall_mem_cons.mpr ⟨rfl, (List.forall_mem_cons.mpr ⟨rfl, (List.forall_mem_cons.mpr ⟨rfl, (List.forall_mem_cons.mpr ⟨rfl, (List.forall_mem_cons.mpr ⟨rfl, (List.forall_mem_cons.mpr ⟨rfl, (List.forall_mem_cons.mpr ⟨rfl, zs_nil⟩)⟩)⟩)⟩)⟩)⟩)⟩)⟩)⟩) ?_
            exact ih _ _ h
          · rw [if_neg c82] at h
            refine zw_aload_n hX dX3_tryRows_85 rfl ?_
            obtain ⟨b8, g, h⟩ := zb_some h
            refine zw_getr hX zl_X3_16 dX3_tryRows_86 g ?_
            refine zw_aload_n hX dX3_tryRows_89 rfl ?_
            obtain ⟨b9, g, h⟩ := zb_some h
            refine zw_getr hX zl_X3_19 dX3_tryRows_90 g ?_
            refine zw_iload hX dX3_tryRows_93 rfl ?_
            obtain ⟨v10, g, h⟩ := zb_some h
            refine zw_xi hX dX3_tryRows_95 g ?_
            obtain ⟨b11, g, h⟩ := zb_some h
            refine zw_xr hX dX3_tryRows_96 g ?_
            refine zw_astore hX dX3_tryRows_97 (by decide) ?_
            refine zw_iload hX dX3_tryRows_99 rfl ?_
            refine zw_iload hX dX3_tryRows_101 rfl ?_
            refine zw_aload hX dX3_tryRows_103 rfl ?_
            refine zw_iconst (v := (0 : Int32)) hX dX3_tryRows_105 (by decide) ?_
            obtain ⟨v12, g, h⟩ := zb_some h
            refine zw_xi hX dX3_tryRows_106 g ?_
            refine zw_isub hX dX3_tryRows_107 ?_
            refine zw_mabs hX zl_X3_131 dX3_tryRows_108 (Nat.le_of_ble_eq_true rfl) ⟨by omega, by omega⟩ ?_
            refine zw_iload hX dX3_tryRows_111 rfl ?_
            refine zw_imul hX dX3_tryRows_113 ?_
            refine zw_iadd hX dX3_tryRows_114 ?_
            refine zw_istore hX dX3_tryRows_115 (by decide) ?_
            refine zw_iload hX dX3_tryRows_117 rfl ?_
            refine zw_iconst (v := (3 : Int32)) hX dX3_tryRows_119 (by decide) ?_
            refine zw_iadd hX dX3_tryRows_120 ?_
            refine zw_aload hX dX3_tryRows_121 rfl ?_
            refine zw_iconst (v := (1 : Int32)) hX dX3_tryRows_123 (by decide) ?_
            obtain ⟨v13, g, h⟩ := zb_some h
            refine zw_xi hX dX3_tryRows_124 g ?_
            refine zw_aload hX dX3_tryRows_125 rfl ?_
            refine zw_iconst (v := (0 : Int32)) hX dX3_tryRows_127 (by decide) ?_
            obtain ⟨v14, g, h⟩ := zb_some h
            refine zw_xi hX dX3_tryRows_128 g ?_
            refine zw_isub hX dX3_tryRows_129 ?_
            refine zw_mabs hX zl_X3_131 dX3_tryRows_130 (Nat.le_of_ble_eq_true rfl) ⟨by omega, by omega⟩ ?_
            refine zw_iload hX dX3_tryRows_133 rfl ?_
            refine zw_imul hX dX3_tryRows_135 ?_
            refine zw_iadd hX dX3_tryRows_136 ?_
            refine zw_istore hX dX3_tryRows_137 (by decide) ?_
            refine zw_aload_n hX dX3_tryRows_139 rfl ?_
            obtain ⟨b15, g, h⟩ := zb_some h
            refine zw_getr hX zl_X3_34 dX3_tryRows_140 g ?_
            refine zw_iload_n hX dX3_tryRows_143 rfl ?_
            refine zw_iload hX dX3_tryRows_144 rfl ?_
            obtain ⟨S16, g, h⟩ := zb_some h
            refine zw_si hX dX3_tryRows_146 g ?_
            refine zw_lload hX dX3_tryRows_147 rfl ?_
            refine zw_aload_n hX dX3_tryRows_149 rfl ?_
            refine zw_aload hX dX3_tryRows_150 rfl ?_
            obtain ⟨_, gi, h⟩ := zb_some h
            obtain ⟨r18, g, h⟩ := zb_some h
            refine zc_Vl (as := [.ref b11]) hX gi (zt_X3_weightOf (d := d - 1) (by omega) g) zl_X3_134 rfl dX3_tryRows_152 ⟨rfl, rfl, Nat.le_of_ble_eq_true rfl⟩ ⟨by omega, by omega⟩ ?_
            refine zw_iload hX dX3_tryRows_155 rfl ?_
            refine zw_i2l hX dX3_tryRows_157 ?_
            refine zw_lmul hX dX3_tryRows_158 ?_
            refine zw_ladd hX dX3_tryRows_159 ?_
            refine zw_iload hX dX3_tryRows_160 rfl ?_
            refine zw_i2l hX dX3_tryRows_162 ?_
            refine zw_ladd hX dX3_tryRows_163 ?_
            refine zw_lstore hX dX3_tryRows_164 (by decide) ?_
            refine zw_aload_n hX dX3_tryRows_166 rfl ?_
            refine zw_iload_n hX dX3_tryRows_167 rfl ?_
            refine zw_iload_n hX dX3_tryRows_168 rfl ?_
            refine zw_iconst (v := (1 : Int32)) hX dX3_tryRows_169 (by decide) ?_
            refine zw_iload hX dX3_tryRows_170 rfl ?_
            refine zw_ishl hX dX3_tryRows_172 ?_
            refine zw_iconst (v := (-1 : Int32)) hX dX3_tryRows_173 (by decide) ?_
            refine zw_ixor hX dX3_tryRows_174 ?_
            refine zw_iand hX dX3_tryRows_175 ?_
            refine zw_iload_n hX dX3_tryRows_176 rfl ?_
            refine zw_iconst (v := (1 : Int32)) hX dX3_tryRows_177 (by decide) ?_
            refine zw_iadd hX dX3_tryRows_178 ?_
            refine zw_aload hX dX3_tryRows_179 rfl ?_
            refine zw_iconst (v := (1 : Int32)) hX dX3_tryRows_181 (by decide) ?_
            obtain ⟨v19, g, h⟩ := zb_some h
            refine zw_xi hX dX3_tryRows_182 g ?_
            refine zw_iload hX dX3_tryRows_183 rfl ?_
            refine zw_iconst (v := (3 : Int32)) hX dX3_tryRows_185 (by decide) ?_
            refine zw_iadd hX dX3_tryRows_186 ?_
            refine zw_lload hX dX3_tryRows_187 rfl ?_
            obtain ⟨_, gi, h⟩ := zb_some h
            obtain ⟨r21, g, h⟩ := zb_some h
            refine zc_Vv (as := [.int i1, .int (i2 &&& (((1 : Int32) <<< (i9 &&& 31)) ^^^ (-1 : Int32))), .int (i3 + (1 : Int32)), .int v19, .int ((((i5 + ((zj_abs (i4 - v12)) * i8)) + (3 : Int32)) + ((zj_abs (v13 - v14)) * i8)) + (3 : Int32)), .long ((j6 + (r18.1 * ((i5 + ((zj_abs (i4 - v12)) * i8))).toInt64)) + ((((i5 + ((zj_abs (i4 - v12)) * i8)) + (3 : Int32)) + ((zj_abs (v13 - v14)) * i8))).toInt64)]) hX gi (hK (d := d - 1) (by omega) g) zl_X3_123 rfl dX3_tryRows_189 ⟨rfl, rfl, Nat.le_of_ble_eq_true rfl⟩ ⟨by omega, by omega⟩ ?_
            refine zw_iinc (v := (i9 + (1 : Int32))) hX dX3_tryRows_192 rfl rfl (by decide) ?_
            refine zw_goto (tgt := 49) hX dX3_tryRows_195 (by decide) ?_
            refine zw_sub (lv' := [(0, .ref a0), (1, .int i1), (2, .int i2), (3, .int i3), (4, .int i4), (5, .int i5), (6, .long j6), (8, .int i8), (9, .int (i9 + (1 : Int32)))]) (List.forall_mem_cons.mpr ⟨rfl, (List.forall_mem_cons.mpr ⟨rfl, (List.forall_mem_cons.mpr ⟨rfl, (List.forall_mem_cons.mpr ⟨rfl, (List.forall_mem_cons.mpr ⟨rfl, (List.forall_mem_cons.mpr ⟨rfl, (List.forall_mem_cons.mpr ⟨rfl, (List.forall_mem_cons.mpr ⟨rfl, (List.forall_mem_cons.mpr ⟨rfl, zs_nil⟩)⟩)⟩)⟩)⟩)⟩)⟩)⟩)⟩) ?_
            exact ih _ _ h
set_option maxHeartbeats 4000000 in
set_option maxRecDepth 100000 in
theorem zt_X3_tryRows_B {l : Launch} {V : zm_V} {K : Nat → Int32 → Int32 → Int32 → Int32 → Int32 → Int64 → zm_S → Option (Unit × zm_S)} {dk : Nat} (hK : ∀ {d : Nat}, dk ≤ d → ∀ {k0 : Nat} {k1 : Int32} {k2 : Int32} {k3 : Int32} {k4 : Int32} {k5 : Int32} {k6 : Int64} {S : zm_S} {out : Unit × zm_S}, K k0 k1 k2 k3 k4 k5 k6 S = some out → zm_Met l zk_E V yX3_tryRows (.code yX3_tryRows cX3_tryRows 15 none) d [.ref k0, .int k1, .int k2, .int k3, .int k4, .int k5, .long k6] S 0 0 (zo_v out) zo_x) {N : Nat} {S : zm_S} {out : (Unit × zm_S)} {d : Nat} {a0 : Nat} {i1 : Int32} {i2 : Int32} {i3 : Int32} {i4 : Int32} {i5 : Int32} {j6 : Int64} (hd : 3 ≤ d ∧ dk + 1 ≤ d) (h : zf_X3_tryRows_B N K a0 i1 i2 i3 i4 i5 j6 S = some out) : zm_Met l zk_E V yX3_tryRows (.code yX3_tryRows cX3_tryRows 15 none) d [.ref a0, .int i1, .int i2, .int i3, .int i4, .int i5, .long j6] S 0 0 (zo_v out) zo_x := by
  refine zm_of (by decide +kernel) (Nat.le_of_ble_eq_true rfl) ?_
  intro p e R s m args below meth c hRR hX hr hxt
  have hR : R.frames = d ∧ R.locals = 64 * d := by rw [hRR]; exact ⟨rfl, rfl⟩
  have hX : zm_X p R s m args meth c RX3 "tryRows" cX3_tryRows 15 zk_E V 0 0 := hX
  unfold zf_X3_tryRows_B at h
  refine zw_sub (lv' := [(0, .ref a0), (1, .int i1), (2, .int i2), (3, .int i3), (4, .int i4), (5, .int i5), (6, .long j6)]) (List.forall_mem_cons.mpr ⟨rfl, (List.forall_mem_cons.mpr ⟨rfl, (List.forall_mem_cons.mpr ⟨rfl, (List.forall_mem_cons.mpr ⟨rfl, (List.forall_mem_cons.mpr ⟨rfl, (List.forall_mem_cons.mpr ⟨rfl, (List.forall_mem_cons.mpr ⟨rfl, zs_nil⟩)⟩)⟩)⟩)⟩)⟩)⟩) ?_
  refine zw_lload hX dX3_tryRows_0 rfl ?_
  refine zw_aload_n hX dX3_tryRows_2 rfl ?_
  obtain ⟨w1, g, h⟩ := zb_some h
  refine zw_getl hX zl_X3_120 dX3_tryRows_3 g ?_
  refine zw_lcmp hX dX3_tryRows_6 ?_
  refine zw_if_lt (tgt := 11) hX dX3_tryRows_7 (by decide) (fun c7 => ?_) (fun c7 => ?_)
  · rw [if_pos c7] at h
    refine zw_iload_n hX dX3_tryRows_11 rfl ?_
    refine zw_if_ne (tgt := 36) hX dX3_tryRows_12 (by decide) (fun c12 => ?_) (fun c12 => ?_)
    · rw [if_neg c12] at h
      refine zw_aload_n hX dX3_tryRows_36 rfl ?_
      obtain ⟨b2, g, h⟩ := zb_some h
      refine zw_getr hX zl_X3_13 dX3_tryRows_37 g ?_
      refine zw_iload_n hX dX3_tryRows_40 rfl ?_
      obtain ⟨b3, g, h⟩ := zb_some h
      refine zw_xr hX dX3_tryRows_41 g ?_
      refine zw_iconst (v := (1 : Int32)) hX dX3_tryRows_42 (by decide) ?_
      obtain ⟨v4, g, h⟩ := zb_some h
      refine zw_xi hX dX3_tryRows_43 g ?_
      refine zw_istore hX dX3_tryRows_44 (by decide) ?_
      refine zw_iconst (v := (0 : Int32)) hX dX3_tryRows_46 (by decide) ?_
      refine zw_istore hX dX3_tryRows_47 (by decide) ?_
      obtain ⟨r, g, h⟩ := zb_some h
      refine zw_sub (lv' := [(0, .ref a0), (1, .int i1), (2, .int i2), (3, .int i3), (4, .int i4), (5, .int i5), (6, .long j6), (8, .int v4), (9, .int (0 : Int32))]) (List.forall_mem_cons.mpr ⟨rfl, (List.forall_mem_cons.mpr ⟨rfl, (List.forall_mem_cons.mpr ⟨rfl, (List.forall_mem_cons.mpr ⟨rfl, (List.forall_mem_cons.mpr ⟨rfl, (List.forall_mem_cons.mpr ⟨rfl, (List.forall_mem_cons.mpr ⟨rfl, (List.forall_mem_cons.mpr ⟨rfl, (List.forall_mem_cons.mpr ⟨rfl, zs_nil⟩)⟩)⟩)⟩)⟩)⟩)⟩)⟩)⟩) ?_
      refine zt_X3_tryRows_B_L49 hK hX hr hR hd (res := r) (out := out) a0 i1 i2 i3 i4 i5 j6 v4 ?_ ?_ N _ _ g
      · intro o ho
        subst ho
        exact Option.some.inj h
      · intro  S22 hx
        subst hx
        try dsimp only at h
        obtain rfl := Option.some.inj h
        exact zw_vret hX hr dX3_tryRows_198 ⟨rfl, rfl⟩
    · rw [if_pos c12] at h
      refine zw_aload_n hX dX3_tryRows_15 rfl ?_
      refine zw_lload hX dX3_tryRows_16 rfl ?_
      obtain ⟨S23, g, h⟩ := zb_some h
      refine zw_putv hX zl_X3_120 zt_3_12 dX3_tryRows_18 rfl rfl g ?_
      refine zw_aload_n hX dX3_tryRows_21 rfl ?_
      obtain ⟨b24, g, h⟩ := zb_some h
      refine zw_getr hX zl_X3_34 dX3_tryRows_22 g ?_
      refine zw_iconst (v := (0 : Int32)) hX dX3_tryRows_25 (by decide) ?_
      refine zw_aload_n hX dX3_tryRows_26 rfl ?_
      obtain ⟨b25, g, h⟩ := zb_some h
      refine zw_getr hX zl_X3_37 dX3_tryRows_27 g ?_
      refine zw_iconst (v := (0 : Int32)) hX dX3_tryRows_30 (by decide) ?_
      refine zw_iload_n hX dX3_tryRows_31 rfl ?_
      obtain ⟨S26, g, h⟩ := zb_some h
      refine zw_cp hX zl_X3_83 dX3_tryRows_32 (Nat.le_of_ble_eq_true rfl) ⟨by omega, by omega⟩ g ?_
      obtain rfl := Option.some.inj h
      exact zw_vret hX hr dX3_tryRows_35 ⟨rfl, rfl⟩
  · rw [if_neg c7] at h
    obtain rfl := Option.some.inj h
    exact zw_vret hX hr dX3_tryRows_10 ⟨rfl, rfl⟩
set_option maxHeartbeats 4000000 in
set_option maxRecDepth 100000 in
theorem zu_X3_tryRows {l : Launch} {V : zm_V} {N : Nat} : ∀ (n : Nat) {d : Nat}, 3 + 1 * n ≤ d → ∀ {a0 : Nat} {i1 : Int32} {i2 : Int32} {i3 : Int32} {i4 : Int32} {i5 : Int32} {j6 : Int64} {S : zm_S} {out : (Unit × zm_S)}, zr_X3_tryRows N n a0 i1 i2 i3 i4 i5 j6 S = some out → zm_Met l zk_E V yX3_tryRows (.code yX3_tryRows cX3_tryRows 15 none) d [.ref a0, .int i1, .int i2, .int i3, .int i4, .int i5, .long j6] S 0 0 (zo_v out) zo_x := by
  intro n
  induction n with
  | zero => intro d _ a0 i1 i2 i3 i4 i5 j6 S out h; cases h
  | succ n ih =>
    intro d hd a0 i1 i2 i3 i4 i5 j6 S out h
    rw [zr_X3_tryRows] at h
    exact zt_X3_tryRows_B (dk := 3 + 1 * n) (fun {_} h1 => ih h1) ⟨by omega, by omega⟩ h
set_option maxHeartbeats 4000000 in
set_option maxRecDepth 100000 in
theorem zt_X3_tryRows {l : Launch} {V : zm_V} {N : Nat} {S : zm_S} {out : (Unit × zm_S)} {d : Nat} {a0 : Nat} {i1 : Int32} {i2 : Int32} {i3 : Int32} {i4 : Int32} {i5 : Int32} {j6 : Int64} (hd : 15 ≤ d) (h : zf_X3_tryRows N a0 i1 i2 i3 i4 i5 j6 S = some out) : zm_Met l zk_E V yX3_tryRows (.code yX3_tryRows cX3_tryRows 15 none) d [.ref a0, .int i1, .int i2, .int i3, .int i4, .int i5, .long j6] S 0 0 (zo_v out) zo_x := zu_X3_tryRows 12 (by omega) h
set_option maxHeartbeats 4000000 in
set_option maxRecDepth 100000 in
theorem zt_X3_leastRowCost {l : Launch} {V : zm_V} {N : Nat} {S : zm_S} {out : (Int64 × zm_S)} {d : Nat} {a0 : Nat} {i1 : Int32} {i2 : Int32} (hd : 16 ≤ d) (h : zf_X3_leastRowCost N a0 i1 i2 S = some out) : zm_Met l zk_E V yX3_leastRowCost (.code yX3_leastRowCost cX3_leastRowCost 3 (some .long)) d [.ref a0, .int i1, .int i2] S 0 0 (zo_l out) zo_x := by
  refine zm_of (by decide +kernel) (Nat.le_of_ble_eq_true rfl) ?_
  intro p e R s m args below meth c hRR hX hr hxt
  have hR : R.frames = d ∧ R.locals = 64 * d := by rw [hRR]; exact ⟨rfl, rfl⟩
  have hX : zm_X p R s m args meth c RX3 "leastRowCost" cX3_leastRowCost 3 zk_E V 0 0 := hX
  unfold zf_X3_leastRowCost at h
  refine zw_sub (lv' := [(0, .ref a0), (1, .int i1), (2, .int i2)]) (List.forall_mem_cons.mpr ⟨rfl, (List.forall_mem_cons.mpr ⟨rfl, (List.forall_mem_cons.mpr ⟨rfl, zs_nil⟩)⟩)⟩) ?_
  refine zw_aload_n hX dX3_leastRowCost_0 rfl ?_
  refine zw_ldc2 (v := (9223372036854775807 : Int64)) hX dX3_leastRowCost_1 zl_X3_100 ?_
  obtain ⟨S1, g, h⟩ := zb_some h
  refine zw_putv hX zl_X3_120 zt_3_12 dX3_leastRowCost_4 rfl rfl g ?_
  refine zw_aload_n hX dX3_leastRowCost_7 rfl ?_
  refine zw_iload_n hX dX3_leastRowCost_8 rfl ?_
  refine zw_iload_n hX dX3_leastRowCost_9 rfl ?_
  refine zw_iconst (v := (0 : Int32)) hX dX3_leastRowCost_10 (by decide) ?_
  refine zw_aload_n hX dX3_leastRowCost_11 rfl ?_
  obtain ⟨b2, g, h⟩ := zb_some h
  refine zw_getr hX zl_X3_13 dX3_leastRowCost_12 g ?_
  refine zw_iload_n hX dX3_leastRowCost_15 rfl ?_
  obtain ⟨b3, g, h⟩ := zb_some h
  refine zw_xr hX dX3_leastRowCost_16 g ?_
  refine zw_iconst (v := (0 : Int32)) hX dX3_leastRowCost_17 (by decide) ?_
  obtain ⟨v4, g, h⟩ := zb_some h
  refine zw_xi hX dX3_leastRowCost_18 g ?_
  refine zw_iconst (v := (0 : Int32)) hX dX3_leastRowCost_19 (by decide) ?_
  refine zw_aload_n hX dX3_leastRowCost_20 rfl ?_
  obtain ⟨b5, g, h⟩ := zb_some h
  refine zw_getr hX zl_X3_13 dX3_leastRowCost_21 g ?_
  refine zw_iload_n hX dX3_leastRowCost_24 rfl ?_
  obtain ⟨b6, g, h⟩ := zb_some h
  refine zw_xr hX dX3_leastRowCost_25 g ?_
  refine zw_iconst (v := (2 : Int32)) hX dX3_leastRowCost_26 (by decide) ?_
  obtain ⟨v7, g, h⟩ := zb_some h
  refine zw_xi hX dX3_leastRowCost_27 g ?_
  refine zw_aload_n hX dX3_leastRowCost_28 rfl ?_
  obtain ⟨v8, g, h⟩ := zb_some h
  refine zw_geti hX zl_X3_89 dX3_leastRowCost_29 g ?_
  refine zw_isub hX dX3_leastRowCost_32 ?_
  refine zw_mmax hX zl_X3_80 dX3_leastRowCost_33 (Nat.le_of_ble_eq_true rfl) ⟨by omega, by omega⟩ ?_
  refine zw_lconst (v := (0 : Int64)) hX dX3_leastRowCost_36 (by decide) ?_
  obtain ⟨_, gi, h⟩ := zb_some h
  obtain ⟨r10, g, h⟩ := zb_some h
  refine zc_Vv (as := [.int i1, .int i2, .int (0 : Int32), .int v4, .int (zj_max (0 : Int32) (v7 - v8)), .long (0 : Int64)]) hX gi (zt_X3_tryRows (d := d - 1) (by omega) g) zl_X3_123 rfl dX3_leastRowCost_37 ⟨rfl, rfl, Nat.le_of_ble_eq_true rfl⟩ ⟨by omega, by omega⟩ ?_
  refine zw_aload_n hX dX3_leastRowCost_40 rfl ?_
  obtain ⟨w11, g, h⟩ := zb_some h
  refine zw_getl hX zl_X3_120 dX3_leastRowCost_41 g ?_
  obtain rfl := Option.some.inj h
  exact zw_lret hX hr dX3_leastRowCost_44 ⟨rfl, rfl⟩
set_option maxHeartbeats 4000000 in
set_option maxRecDepth 100000 in
theorem zt_X3_costRows_L2 {p : Program} {l : Launch} {e : Env} {R : Room} {s : State} {m : MethodId} {args : Array Value} {below : List Frame} {meth : Method} {c : Code} {V : zm_V} {mc ms d rc rs : Nat} (hX : zm_X p R s m args meth c RX3 "costRows" cX3_costRows 3 zk_E V mc ms) (hr : meth.sig.returnType = none) (hR : R.frames = d ∧ R.locals = 64 * d) (hd : 17 ≤ d) {N : Nat} {res : (Unit × zm_S) ⊕ ((Unit) × zm_S)} {out : (Unit × zm_S)} (a0 : Nat) (i1 : Int32) (hf : ∀ o, res = .inl o → o = out) (hk : ∀ (S' : zm_S), res = .inr ((), S') → zw p l e R s m args below meth c (vx_MQ below (zm_Qc zk_E V (zo_v out)) (zm_XC zk_E V zo_x) args s mc ms (fun q => V.2.2.2.1 ≤ q)) 3 zk_E V mc ms 45 [] [] S' rc rs) : ∀ (n : Nat) (i2 : Int32) (S : zm_S), zf_X3_costRows_L2 N n a0 i1 i2 S = some res → zw p l e R s m args below meth c (vx_MQ below (zm_Qc zk_E V (zo_v out)) (zm_XC zk_E V zo_x) args s mc ms (fun q => V.2.2.2.1 ≤ q)) 3 zk_E V mc ms 2 [(0, .ref a0), (1, .int i1), (2, .int i2)] [] S rc rs := by
  intro n
  induction n with
  | zero => intro i2 S h; cases h
  | succ n ih =>
    intro i2 S h
    rw [zf_X3_costRows_L2] at h
    refine zw_iload_n hX dX3_costRows_2 rfl ?_
    refine zw_iconst (v := (1 : Int32)) hX dX3_costRows_3 (by decide) ?_
    refine zw_aload_n hX dX3_costRows_4 rfl ?_
    obtain ⟨v1, g, h⟩ := zb_some h
    refine zw_geti hX zl_X3_53 dX3_costRows_5 g ?_
    refine zw_ishl hX dX3_costRows_8 ?_
    refine zw_icmp_ge (tgt := 45) hX dX3_costRows_9 (by decide) (fun c9 => ?_) (fun c9 => ?_)
    · rw [if_pos c9] at h
      refine zw_sub (lv' := []) zs_nil ?_
      exact hk  _ (Option.some.inj h).symm
    · rw [if_neg c9] at h
      refine zw_aload_n hX dX3_costRows_12 rfl ?_
      obtain ⟨b2, g, h⟩ := zb_some h
      refine zw_getr hX zl_X3_31 dX3_costRows_13 g ?_
      refine zw_iload_n hX dX3_costRows_16 rfl ?_
      obtain ⟨b3, g, h⟩ := zb_some h
      refine zw_xr hX dX3_costRows_17 g ?_
      refine zw_iload_n hX dX3_costRows_18 rfl ?_
      refine zw_aload_n hX dX3_costRows_19 rfl ?_
      refine zw_iload_n hX dX3_costRows_20 rfl ?_
      refine zw_iload_n hX dX3_costRows_21 rfl ?_
      obtain ⟨_, gi, h⟩ := zb_some h
      obtain ⟨r5, g, h⟩ := zb_some h
      refine zc_Vi (as := [.int i1, .int i2]) hX gi (zt_X3_mayTakeAll (d := d - 1) (by omega) g) zl_X3_113 rfl dX3_costRows_22 ⟨rfl, rfl, Nat.le_of_ble_eq_true rfl⟩ ⟨by omega, by omega⟩ ?_
      refine zw_if_eq (tgt := 37) hX dX3_costRows_25 (by decide) (fun c25 => ?_) (fun c25 => ?_)
      · rw [if_pos c25] at h
        refine zw_lconst (v := (0 : Int64)) hX dX3_costRows_37 (by decide) ?_
        obtain ⟨S6, g, h⟩ := zb_some h
        refine zw_sl hX dX3_costRows_38 g ?_
        refine zw_iinc (v := (i2 + (1 : Int32))) hX dX3_costRows_39 rfl rfl (by decide) ?_
        refine zw_goto (tgt := 2) hX dX3_costRows_42 (by decide) ?_
        refine zw_sub (lv' := [(0, .ref a0), (1, .int i1), (2, .int (i2 + (1 : Int32)))]) (List.forall_mem_cons.mpr ⟨rfl, (List.forall_mem_cons.mpr ⟨rfl, (List.forall_mem_cons.mpr ⟨rfl, zs_nil⟩)⟩)⟩) ?_
        exact ih _ _ h
      · rw [if_neg c25] at h
        refine zw_aload_n hX dX3_costRows_28 rfl ?_
        refine zw_iload_n hX dX3_costRows_29 rfl ?_
        refine zw_iload_n hX dX3_costRows_30 rfl ?_
        obtain ⟨_, gi, h⟩ := zb_some h
        obtain ⟨r8, g, h⟩ := zb_some h
        refine zc_Vl (as := [.int i1, .int i2]) hX gi (zt_X3_leastRowCost (d := d - 1) (by omega) g) zl_X3_116 rfl dX3_costRows_31 ⟨rfl, rfl, Nat.le_of_ble_eq_true rfl⟩ ⟨by omega, by omega⟩ ?_
        refine zw_goto (tgt := 38) hX dX3_costRows_34 (by decide) ?_
        obtain ⟨S9, g, h⟩ := zb_some h
        refine zw_sl hX dX3_costRows_38 g ?_
        refine zw_iinc (v := (i2 + (1 : Int32))) hX dX3_costRows_39 rfl rfl (by decide) ?_
        refine zw_goto (tgt := 2) hX dX3_costRows_42 (by decide) ?_
        refine zw_sub (lv' := [(0, .ref a0), (1, .int i1), (2, .int (i2 + (1 : Int32)))]) (List.forall_mem_cons.mpr ⟨rfl, (List.forall_mem_cons.mpr ⟨rfl, (List.forall_mem_cons.mpr ⟨rfl, zs_nil⟩)⟩)⟩) ?_
        exact ih _ _ h
set_option maxHeartbeats 4000000 in
set_option maxRecDepth 100000 in
theorem zt_X3_costRows {l : Launch} {V : zm_V} {N : Nat} {S : zm_S} {out : (Unit × zm_S)} {d : Nat} {a0 : Nat} {i1 : Int32} (hd : 17 ≤ d) (h : zf_X3_costRows N a0 i1 S = some out) : zm_Met l zk_E V yX3_costRows (.code yX3_costRows cX3_costRows 3 none) d [.ref a0, .int i1] S 0 0 (zo_v out) zo_x := by
  refine zm_of (by decide +kernel) (Nat.le_of_ble_eq_true rfl) ?_
  intro p e R s m args below meth c hRR hX hr hxt
  have hR : R.frames = d ∧ R.locals = 64 * d := by rw [hRR]; exact ⟨rfl, rfl⟩
  have hX : zm_X p R s m args meth c RX3 "costRows" cX3_costRows 3 zk_E V 0 0 := hX
  unfold zf_X3_costRows at h
  refine zw_sub (lv' := [(0, .ref a0), (1, .int i1)]) (List.forall_mem_cons.mpr ⟨rfl, (List.forall_mem_cons.mpr ⟨rfl, zs_nil⟩)⟩) ?_
  refine zw_iconst (v := (0 : Int32)) hX dX3_costRows_0 (by decide) ?_
  refine zw_istore_n hX dX3_costRows_1 (by decide) ?_
  obtain ⟨r, g, h⟩ := zb_some h
  refine zw_sub (lv' := [(0, .ref a0), (1, .int i1), (2, .int (0 : Int32))]) (List.forall_mem_cons.mpr ⟨rfl, (List.forall_mem_cons.mpr ⟨rfl, (List.forall_mem_cons.mpr ⟨rfl, zs_nil⟩)⟩)⟩) ?_
  refine zt_X3_costRows_L2 hX hr hR hd (res := r) (out := out) a0 i1 ?_ ?_ N _ _ g
  · intro o ho
    subst ho
    exact Option.some.inj h
  · intro  S10 hx
    subst hx
    try dsimp only at h
    obtain rfl := Option.some.inj h
    exact zw_vret hX hr dX3_costRows_45 ⟨rfl, rfl⟩
set_option maxHeartbeats 4000000 in
set_option maxRecDepth 100000 in
theorem zt_X3_keepShares_L4 {p : Program} {l : Launch} {e : Env} {R : Room} {s : State} {m : MethodId} {args : Array Value} {below : List Frame} {meth : Method} {c : Code} {V : zm_V} {mc ms d rc rs : Nat} (hX : zm_X p R s m args meth c RX3 "keepShares" cX3_keepShares 4 zk_E V mc ms) (hr : meth.sig.returnType = none) (hR : R.frames = d ∧ R.locals = 64 * d) (hd : 2 ≤ d) {N : Nat} {res : (Unit × zm_S) ⊕ ((Int64) × zm_S)} {out : (Unit × zm_S)} (a0 : Nat) (hf : ∀ o, res = .inl o → o = out) (hk : ∀ (x1 : Int64) (S' : zm_S), res = .inr (x1, S') → zw p l e R s m args below meth c (vx_MQ below (zm_Qc zk_E V (zo_v out)) (zm_XC zk_E V zo_x) args s mc ms (fun q => V.2.2.2.1 ≤ q)) 4 zk_E V mc ms 34 [(0, .ref a0), (1, .long x1)] [] S' rc rs) : ∀ (n : Nat) (j1 : Int64) (i3 : Int32) (S : zm_S), zf_X3_keepShares_L4 N n a0 j1 i3 S = some res → zw p l e R s m args below meth c (vx_MQ below (zm_Qc zk_E V (zo_v out)) (zm_XC zk_E V zo_x) args s mc ms (fun q => V.2.2.2.1 ≤ q)) 4 zk_E V mc ms 4 [(0, .ref a0), (1, .long j1), (3, .int i3)] [] S rc rs := by
  intro n
  induction n with
  | zero => intro j1 i3 S h; cases h
  | succ n ih =>
    intro j1 i3 S h
    rw [zf_X3_keepShares_L4] at h
    refine zw_iload_n hX dX3_keepShares_4 rfl ?_
    refine zw_aload_n hX dX3_keepShares_5 rfl ?_
    obtain ⟨v1, g, h⟩ := zb_some h
    refine zw_geti hX zl_X3_46 dX3_keepShares_6 g ?_
    refine zw_icmp_ge (tgt := 34) hX dX3_keepShares_9 (by decide) (fun c9 => ?_) (fun c9 => ?_)
    · rw [if_pos c9] at h
      refine zw_sub (lv' := [(0, .ref a0), (1, .long j1)]) (List.forall_mem_cons.mpr ⟨rfl, (List.forall_mem_cons.mpr ⟨rfl, zs_nil⟩)⟩) ?_
      exact hk _ _ (Option.some.inj h).symm
    · rw [if_neg c9] at h
      refine zw_lload_n hX dX3_keepShares_12 rfl ?_
      refine zw_aload_n hX dX3_keepShares_13 rfl ?_
      obtain ⟨b2, g, h⟩ := zb_some h
      refine zw_getr hX zl_X3_31 dX3_keepShares_14 g ?_
      refine zw_iload_n hX dX3_keepShares_17 rfl ?_
      obtain ⟨b3, g, h⟩ := zb_some h
      refine zw_xr hX dX3_keepShares_18 g ?_
      refine zw_aload_n hX dX3_keepShares_19 rfl ?_
      obtain ⟨b4, g, h⟩ := zb_some h
      refine zw_getr hX zl_X3_40 dX3_keepShares_20 g ?_
      refine zw_iload_n hX dX3_keepShares_23 rfl ?_
      obtain ⟨v5, g, h⟩ := zb_some h
      refine zw_xi hX dX3_keepShares_24 g ?_
      obtain ⟨w6, g, h⟩ := zb_some h
      refine zw_xl hX dX3_keepShares_25 g ?_
      refine zw_ladd hX dX3_keepShares_26 ?_
      refine zw_lstore_n hX dX3_keepShares_27 (by decide) ?_
      refine zw_iinc (v := (i3 + (1 : Int32))) hX dX3_keepShares_28 rfl rfl (by decide) ?_
      refine zw_goto (tgt := 4) hX dX3_keepShares_31 (by decide) ?_
      refine zw_sub (lv' := [(0, .ref a0), (1, .long (j1 + w6)), (3, .int (i3 + (1 : Int32)))]) (List.forall_mem_cons.mpr ⟨rfl, (List.forall_mem_cons.mpr ⟨rfl, (List.forall_mem_cons.mpr ⟨rfl, zs_nil⟩)⟩)⟩) ?_
      exact ih _ _ _ h
set_option maxHeartbeats 4000000 in
set_option maxRecDepth 100000 in
theorem zt_X3_keepShares {l : Launch} {V : zm_V} {N : Nat} {S : zm_S} {out : (Unit × zm_S)} {d : Nat} {a0 : Nat} (hd : 2 ≤ d) (h : zf_X3_keepShares N a0 S = some out) : zm_Met l zk_E V yX3_keepShares (.code yX3_keepShares cX3_keepShares 4 none) d [.ref a0] S 0 0 (zo_v out) zo_x := by
  refine zm_of (by decide +kernel) (Nat.le_of_ble_eq_true rfl) ?_
  intro p e R s m args below meth c hRR hX hr hxt
  have hR : R.frames = d ∧ R.locals = 64 * d := by rw [hRR]; exact ⟨rfl, rfl⟩
  have hX : zm_X p R s m args meth c RX3 "keepShares" cX3_keepShares 4 zk_E V 0 0 := hX
  unfold zf_X3_keepShares at h
  refine zw_sub (lv' := [(0, .ref a0)]) (List.forall_mem_cons.mpr ⟨rfl, zs_nil⟩) ?_
  refine zw_lconst (v := (0 : Int64)) hX dX3_keepShares_0 (by decide) ?_
  refine zw_lstore_n hX dX3_keepShares_1 (by decide) ?_
  refine zw_iconst (v := (0 : Int32)) hX dX3_keepShares_2 (by decide) ?_
  refine zw_istore_n hX dX3_keepShares_3 (by decide) ?_
  obtain ⟨r, g, h⟩ := zb_some h
  refine zw_sub (lv' := [(0, .ref a0), (1, .long (0 : Int64)), (3, .int (0 : Int32))]) (List.forall_mem_cons.mpr ⟨rfl, (List.forall_mem_cons.mpr ⟨rfl, (List.forall_mem_cons.mpr ⟨rfl, zs_nil⟩)⟩)⟩) ?_
  refine zt_X3_keepShares_L4 hX hr hR hd (res := r) (out := out) a0 ?_ ?_ N _ _ _ g
  · intro o ho
    subst ho
    exact Option.some.inj h
  · intro w8 S7 hx
    subst hx
    try dsimp only at h
    refine zw_lload_n hX dX3_keepShares_34 rfl ?_
    refine zw_aload_n hX dX3_keepShares_35 rfl ?_
    obtain ⟨w9, g, h⟩ := zb_some h
    refine zw_getl hX zl_X3_102 dX3_keepShares_36 g ?_
    refine zw_lcmp hX dX3_keepShares_39 ?_
    refine zw_if_ge (tgt := 65) hX dX3_keepShares_40 (by decide) (fun c40 => ?_) (fun c40 => ?_)
    · rw [if_pos c40] at h
      obtain rfl := Option.some.inj h
      exact zw_vret hX hr dX3_keepShares_65 ⟨rfl, rfl⟩
    · rw [if_neg c40] at h
      refine zw_aload_n hX dX3_keepShares_43 rfl ?_
      refine zw_lload_n hX dX3_keepShares_44 rfl ?_
      obtain ⟨S10, g, h⟩ := zb_some h
      refine zw_putv hX zl_X3_102 zt_3_15 dX3_keepShares_45 rfl rfl g ?_
      refine zw_aload_n hX dX3_keepShares_48 rfl ?_
      obtain ⟨b11, g, h⟩ := zb_some h
      refine zw_getr hX zl_X3_40 dX3_keepShares_49 g ?_
      refine zw_iconst (v := (0 : Int32)) hX dX3_keepShares_52 (by decide) ?_
      refine zw_aload_n hX dX3_keepShares_53 rfl ?_
      obtain ⟨b12, g, h⟩ := zb_some h
      refine zw_getr hX zl_X3_43 dX3_keepShares_54 g ?_
      refine zw_iconst (v := (0 : Int32)) hX dX3_keepShares_57 (by decide) ?_
      refine zw_aload_n hX dX3_keepShares_58 rfl ?_
      obtain ⟨v13, g, h⟩ := zb_some h
      refine zw_geti hX zl_X3_46 dX3_keepShares_59 g ?_
      obtain ⟨S14, g, h⟩ := zb_some h
      refine zw_cp hX zl_X3_83 dX3_keepShares_62 (Nat.le_of_ble_eq_true rfl) ⟨by omega, by omega⟩ g ?_
      obtain rfl := Option.some.inj h
      exact zw_vret hX hr dX3_keepShares_65 ⟨rfl, rfl⟩
set_option maxHeartbeats 4000000 in
set_option maxRecDepth 100000 in
theorem zt_X3_share_B_L32 {p : Program} {l : Launch} {e : Env} {R : Room} {s : State} {m : MethodId} {args : Array Value} {below : List Frame} {meth : Method} {c : Code} {V : zm_V} {mc ms d rc rs : Nat} {K : Nat → Int32 → zm_S → Option (Unit × zm_S)} {dk : Nat} (hK : ∀ {d : Nat}, dk ≤ d → ∀ {k0 : Nat} {k1 : Int32} {S : zm_S} {out : Unit × zm_S}, K k0 k1 S = some out → zm_Met l zk_E V yX3_share (.code yX3_share cX3_share 3 none) d [.ref k0, .int k1] S 0 0 (zo_v out) zo_x) (hX : zm_X p R s m args meth c RX3 "share" cX3_share 3 zk_E V mc ms) (hr : meth.sig.returnType = none) (hR : R.frames = d ∧ R.locals = 64 * d) (hd : 3 ≤ d ∧ dk + 1 ≤ d) {N : Nat} {res : (Unit × zm_S) ⊕ ((Unit) × zm_S)} {out : (Unit × zm_S)} (a0 : Nat) (i1 : Int32) (hf : ∀ o, res = .inl o → o = out) (hk : ∀ (S' : zm_S), res = .inr ((), S') → zw p l e R s m args below meth c (vx_MQ below (zm_Qc zk_E V (zo_v out)) (zm_XC zk_E V zo_x) args s mc ms (fun q => V.2.2.2.1 ≤ q)) 3 zk_E V mc ms 92 [] [] S' rc rs) : ∀ (n : Nat) (i2 : Int32) (S : zm_S), zf_X3_share_B_L32 N K n a0 i1 i2 S = some res → zw p l e R s m args below meth c (vx_MQ below (zm_Qc zk_E V (zo_v out)) (zm_XC zk_E V zo_x) args s mc ms (fun q => V.2.2.2.1 ≤ q)) 3 zk_E V mc ms 32 [(0, .ref a0), (1, .int i1), (2, .int i2)] [] S rc rs := by
  intro n
  induction n with
  | zero => intro i2 S h; cases h
  | succ n ih =>
    intro i2 S h
    rw [zf_X3_share_B_L32] at h
    refine zw_iload_n hX dX3_share_32 rfl ?_
    refine zw_aload_n hX dX3_share_33 rfl ?_
    obtain ⟨v4, g, h⟩ := zb_some h
    refine zw_geti hX zl_X3_46 dX3_share_34 g ?_
    refine zw_icmp_ge (tgt := 92) hX dX3_share_37 (by decide) (fun c37 => ?_) (fun c37 => ?_)
    · rw [if_pos c37] at h
      refine zw_sub (lv' := []) zs_nil ?_
      exact hk  _ (Option.some.inj h).symm
    · rw [if_neg c37] at h
      refine zw_aload_n hX dX3_share_40 rfl ?_
      obtain ⟨b5, g, h⟩ := zb_some h
      refine zw_getr hX zl_X3_26 dX3_share_41 g ?_
      refine zw_iload_n hX dX3_share_44 rfl ?_
      obtain ⟨v6, g, h⟩ := zb_some h
      refine zw_xi hX dX3_share_45 g ?_
      refine zw_iload_n hX dX3_share_46 rfl ?_
      refine zw_ishr hX dX3_share_47 ?_
      refine zw_iconst (v := (1 : Int32)) hX dX3_share_48 (by decide) ?_
      refine zw_iand hX dX3_share_49 ?_
      refine zw_if_eq (tgt := 86) hX dX3_share_50 (by decide) (fun c50 => ?_) (fun c50 => ?_)
      · rw [if_pos c50] at h
        refine zw_iinc (v := (i2 + (1 : Int32))) hX dX3_share_86 rfl rfl (by decide) ?_
        refine zw_goto (tgt := 32) hX dX3_share_89 (by decide) ?_
        refine zw_sub (lv' := [(0, .ref a0), (1, .int i1), (2, .int (i2 + (1 : Int32)))]) (List.forall_mem_cons.mpr ⟨rfl, (List.forall_mem_cons.mpr ⟨rfl, (List.forall_mem_cons.mpr ⟨rfl, zs_nil⟩)⟩)⟩) ?_
        exact ih _ _ h
      · rw [if_neg c50] at h
        refine zw_aload_n hX dX3_share_53 rfl ?_
        obtain ⟨b7, g, h⟩ := zb_some h
        refine zw_getr hX zl_X3_40 dX3_share_54 g ?_
        refine zw_iload_n hX dX3_share_57 rfl ?_
        refine zw_dup2 hX dX3_share_58 rfl rfl ?_
        obtain ⟨v8, g, h⟩ := zb_some h
        refine zw_xi hX dX3_share_59 g ?_
        refine zw_iconst (v := (1 : Int32)) hX dX3_share_60 (by decide) ?_
        refine zw_iload_n hX dX3_share_61 rfl ?_
        refine zw_ishl hX dX3_share_62 ?_
        refine zw_ior hX dX3_share_63 ?_
        obtain ⟨S9, g, h⟩ := zb_some h
        refine zw_si hX dX3_share_64 g ?_
        refine zw_aload_n hX dX3_share_65 rfl ?_
        refine zw_iload_n hX dX3_share_66 rfl ?_
        refine zw_iconst (v := (1 : Int32)) hX dX3_share_67 (by decide) ?_
        refine zw_iadd hX dX3_share_68 ?_
        obtain ⟨_, gi, h⟩ := zb_some h
        obtain ⟨r11, g, h⟩ := zb_some h
        refine zc_Vv (as := [.int (i1 + (1 : Int32))]) hX gi (hK (d := d - 1) (by omega) g) zl_X3_106 rfl dX3_share_69 ⟨rfl, rfl, Nat.le_of_ble_eq_true rfl⟩ ⟨by omega, by omega⟩ ?_
        refine zw_aload_n hX dX3_share_72 rfl ?_
        obtain ⟨b12, g, h⟩ := zb_some h
        refine zw_getr hX zl_X3_40 dX3_share_73 g ?_
        refine zw_iload_n hX dX3_share_76 rfl ?_
        refine zw_dup2 hX dX3_share_77 rfl rfl ?_
        obtain ⟨v13, g, h⟩ := zb_some h
        refine zw_xi hX dX3_share_78 g ?_
        refine zw_iconst (v := (1 : Int32)) hX dX3_share_79 (by decide) ?_
        refine zw_iload_n hX dX3_share_80 rfl ?_
        refine zw_ishl hX dX3_share_81 ?_
        refine zw_iconst (v := (-1 : Int32)) hX dX3_share_82 (by decide) ?_
        refine zw_ixor hX dX3_share_83 ?_
        refine zw_iand hX dX3_share_84 ?_
        obtain ⟨S14, g, h⟩ := zb_some h
        refine zw_si hX dX3_share_85 g ?_
        refine zw_iinc (v := (i2 + (1 : Int32))) hX dX3_share_86 rfl rfl (by decide) ?_
        refine zw_goto (tgt := 32) hX dX3_share_89 (by decide) ?_
        refine zw_sub (lv' := [(0, .ref a0), (1, .int i1), (2, .int (i2 + (1 : Int32)))]) (List.forall_mem_cons.mpr ⟨rfl, (List.forall_mem_cons.mpr ⟨rfl, (List.forall_mem_cons.mpr ⟨rfl, zs_nil⟩)⟩)⟩) ?_
        exact ih _ _ h
set_option maxHeartbeats 4000000 in
set_option maxRecDepth 100000 in
theorem zt_X3_share_B {l : Launch} {V : zm_V} {K : Nat → Int32 → zm_S → Option (Unit × zm_S)} {dk : Nat} (hK : ∀ {d : Nat}, dk ≤ d → ∀ {k0 : Nat} {k1 : Int32} {S : zm_S} {out : Unit × zm_S}, K k0 k1 S = some out → zm_Met l zk_E V yX3_share (.code yX3_share cX3_share 3 none) d [.ref k0, .int k1] S 0 0 (zo_v out) zo_x) {N : Nat} {S : zm_S} {out : (Unit × zm_S)} {d : Nat} {a0 : Nat} {i1 : Int32} (hd : 3 ≤ d ∧ dk + 1 ≤ d) (h : zf_X3_share_B N K a0 i1 S = some out) : zm_Met l zk_E V yX3_share (.code yX3_share cX3_share 3 none) d [.ref a0, .int i1] S 0 0 (zo_v out) zo_x := by
  refine zm_of (by decide +kernel) (Nat.le_of_ble_eq_true rfl) ?_
  intro p e R s m args below meth c hRR hX hr hxt
  have hR : R.frames = d ∧ R.locals = 64 * d := by rw [hRR]; exact ⟨rfl, rfl⟩
  have hX : zm_X p R s m args meth c RX3 "share" cX3_share 3 zk_E V 0 0 := hX
  unfold zf_X3_share_B at h
  refine zw_sub (lv' := [(0, .ref a0), (1, .int i1)]) (List.forall_mem_cons.mpr ⟨rfl, (List.forall_mem_cons.mpr ⟨rfl, zs_nil⟩)⟩) ?_
  refine zw_iload_n hX dX3_share_0 rfl ?_
  refine zw_aload_n hX dX3_share_1 rfl ?_
  obtain ⟨v1, g, h⟩ := zb_some h
  refine zw_geti hX zl_X3_53 dX3_share_2 g ?_
  refine zw_icmp_lt (tgt := 13) hX dX3_share_5 (by decide) (fun c5 => ?_) (fun c5 => ?_)
  · rw [if_pos c5] at h
    refine zw_aload_n hX dX3_share_13 rfl ?_
    obtain ⟨b2, g, h⟩ := zb_some h
    refine zw_getr hX zl_X3_26 dX3_share_14 g ?_
    refine zw_iload_n hX dX3_share_17 rfl ?_
    obtain ⟨v3, g, h⟩ := zb_some h
    refine zw_xi hX dX3_share_18 g ?_
    refine zw_if_ne (tgt := 30) hX dX3_share_19 (by decide) (fun c19 => ?_) (fun c19 => ?_)
    · rw [if_neg c19] at h
      refine zw_iconst (v := (0 : Int32)) hX dX3_share_30 (by decide) ?_
      refine zw_istore_n hX dX3_share_31 (by decide) ?_
      obtain ⟨r, g, h⟩ := zb_some h
      refine zw_sub (lv' := [(0, .ref a0), (1, .int i1), (2, .int (0 : Int32))]) (List.forall_mem_cons.mpr ⟨rfl, (List.forall_mem_cons.mpr ⟨rfl, (List.forall_mem_cons.mpr ⟨rfl, zs_nil⟩)⟩)⟩) ?_
      refine zt_X3_share_B_L32 hK hX hr hR hd (res := r) (out := out) a0 i1 ?_ ?_ N _ _ g
      · intro o ho
        subst ho
        exact Option.some.inj h
      · intro  S15 hx
        subst hx
        try dsimp only at h
        obtain rfl := Option.some.inj h
        exact zw_vret hX hr dX3_share_92 ⟨rfl, rfl⟩
    · rw [if_pos c19] at h
      refine zw_aload_n hX dX3_share_22 rfl ?_
      refine zw_iload_n hX dX3_share_23 rfl ?_
      refine zw_iconst (v := (1 : Int32)) hX dX3_share_24 (by decide) ?_
      refine zw_iadd hX dX3_share_25 ?_
      obtain ⟨_, gi, h⟩ := zb_some h
      obtain ⟨r17, g, h⟩ := zb_some h
      refine zc_Vv (as := [.int (i1 + (1 : Int32))]) hX gi (hK (d := d - 1) (by omega) g) zl_X3_106 rfl dX3_share_26 ⟨rfl, rfl, Nat.le_of_ble_eq_true rfl⟩ ⟨by omega, by omega⟩ ?_
      obtain rfl := Option.some.inj h
      exact zw_vret hX hr dX3_share_29 ⟨rfl, rfl⟩
  · rw [if_neg c5] at h
    refine zw_aload_n hX dX3_share_8 rfl ?_
    obtain ⟨_, gi, h⟩ := zb_some h
    obtain ⟨r19, g, h⟩ := zb_some h
    refine zc_Vv (as := []) hX gi (zt_X3_keepShares (d := d - 1) (by omega) g) zl_X3_138 rfl dX3_share_9 ⟨rfl, rfl, Nat.le_of_ble_eq_true rfl⟩ ⟨by omega, by omega⟩ ?_
    obtain rfl := Option.some.inj h
    exact zw_vret hX hr dX3_share_12 ⟨rfl, rfl⟩
set_option maxHeartbeats 4000000 in
set_option maxRecDepth 100000 in
theorem zu_X3_share {l : Launch} {V : zm_V} {N : Nat} : ∀ (n : Nat) {d : Nat}, 3 + 1 * n ≤ d → ∀ {a0 : Nat} {i1 : Int32} {S : zm_S} {out : (Unit × zm_S)}, zr_X3_share N n a0 i1 S = some out → zm_Met l zk_E V yX3_share (.code yX3_share cX3_share 3 none) d [.ref a0, .int i1] S 0 0 (zo_v out) zo_x := by
  intro n
  induction n with
  | zero => intro d _ a0 i1 S out h; cases h
  | succ n ih =>
    intro d hd a0 i1 S out h
    rw [zr_X3_share] at h
    exact zt_X3_share_B (dk := 3 + 1 * n) (fun {_} h1 => ih h1) ⟨by omega, by omega⟩ h
set_option maxHeartbeats 4000000 in
set_option maxRecDepth 100000 in
theorem zt_X3_share {l : Launch} {V : zm_V} {N : Nat} {S : zm_S} {out : (Unit × zm_S)} {d : Nat} {a0 : Nat} {i1 : Int32} (hd : 15 ≤ d) (h : zf_X3_share N a0 i1 S = some out) : zm_Met l zk_E V yX3_share (.code yX3_share cX3_share 3 none) d [.ref a0, .int i1] S 0 0 (zo_v out) zo_x := zu_X3_share 12 (by omega) h
set_option maxHeartbeats 4000000 in
set_option maxRecDepth 100000 in
theorem zt_X3_keepRow_L54 {p : Program} {l : Launch} {e : Env} {R : Room} {s : State} {m : MethodId} {args : Array Value} {below : List Frame} {meth : Method} {c : Code} {V : zm_V} {mc ms d rc rs : Nat} (hX : zm_X p R s m args meth c RX3 "keepRow" cX3_keepRow 11 zk_E V mc ms) (hr : meth.sig.returnType = none) (hR : R.frames = d ∧ R.locals = 64 * d) (hd : 17 ≤ d) {N : Nat} {res : (Unit × zm_S) ⊕ ((Unit) × zm_S)} {out : (Unit × zm_S)} (a0 : Nat) (i1 : Int32) (i3 : Int32) (i6 : Int32) (hf : ∀ o, res = .inl o → o = out) (hk : ∀ (S' : zm_S), res = .inr ((), S') → zw p l e R s m args below meth c (vx_MQ below (zm_Qc zk_E V (zo_v out)) (zm_XC zk_E V zo_x) args s mc ms (fun q => V.2.2.2.1 ≤ q)) 11 zk_E V mc ms 175 [] [] S' rc rs) : ∀ (n : Nat) (i4 : Int32) (i5 : Int32) (i7 : Int32) (S : zm_S), zf_X3_keepRow_L54 N n a0 i1 i3 i4 i5 i6 i7 S = some res → zw p l e R s m args below meth c (vx_MQ below (zm_Qc zk_E V (zo_v out)) (zm_XC zk_E V zo_x) args s mc ms (fun q => V.2.2.2.1 ≤ q)) 11 zk_E V mc ms 54 [(0, .ref a0), (1, .int i1), (3, .int i3), (4, .int i4), (5, .int i5), (6, .int i6), (7, .int i7)] [] S rc rs := by
  intro n
  induction n with
  | zero => intro i4 i5 i7 S h; cases h
  | succ n ih =>
    intro i4 i5 i7 S h
    rw [zf_X3_keepRow_L54] at h
    refine zw_iload hX dX3_keepRow_54 rfl ?_
    refine zw_iload hX dX3_keepRow_56 rfl ?_
    refine zw_icmp_ge (tgt := 175) hX dX3_keepRow_58 (by decide) (fun c58 => ?_) (fun c58 => ?_)
    · rw [if_pos c58] at h
      refine zw_sub (lv' := []) zs_nil ?_
      exact hk  _ (Option.some.inj h).symm
    · rw [if_neg c58] at h
      refine zw_iload hX dX3_keepRow_61 rfl ?_
      refine zw_bipush (v := (6 : Int32)) hX dX3_keepRow_63 (by decide) ?_
      refine zw_icmp_ge (tgt := 175) hX dX3_keepRow_65 (by decide) (fun c65 => ?_) (fun c65 => ?_)
      · rw [if_pos c65] at h
        refine zw_sub (lv' := []) zs_nil ?_
        exact hk  _ (Option.some.inj h).symm
      · rw [if_neg c65] at h
        refine zw_aload_n hX dX3_keepRow_68 rfl ?_
        obtain ⟨b15, g, h⟩ := zb_some h
        refine zw_getr hX zl_X3_19 dX3_keepRow_69 g ?_
        refine zw_aload_n hX dX3_keepRow_72 rfl ?_
        obtain ⟨b16, g, h⟩ := zb_some h
        refine zw_getr hX zl_X3_37 dX3_keepRow_73 g ?_
        refine zw_iload hX dX3_keepRow_76 rfl ?_
        obtain ⟨v17, g, h⟩ := zb_some h
        refine zw_xi hX dX3_keepRow_78 g ?_
        obtain ⟨v18, g, h⟩ := zb_some h
        refine zw_xi hX dX3_keepRow_79 g ?_
        refine zw_istore hX dX3_keepRow_80 (by decide) ?_
        refine zw_aload_n hX dX3_keepRow_82 rfl ?_
        obtain ⟨b19, g, h⟩ := zb_some h
        refine zw_getr hX zl_X3_16 dX3_keepRow_83 g ?_
        refine zw_iload hX dX3_keepRow_86 rfl ?_
        obtain ⟨b20, g, h⟩ := zb_some h
        refine zw_xr hX dX3_keepRow_88 g ?_
        refine zw_astore hX dX3_keepRow_89 (by decide) ?_
        refine zw_aload_n hX dX3_keepRow_91 rfl ?_
        obtain ⟨b21, g, h⟩ := zb_some h
        refine zw_getr hX zl_X3_23 dX3_keepRow_92 g ?_
        refine zw_iload hX dX3_keepRow_95 rfl ?_
        obtain ⟨b22, g, h⟩ := zb_some h
        refine zw_xr hX dX3_keepRow_97 g ?_
        refine zw_astore hX dX3_keepRow_98 (by decide) ?_
        refine zw_aload hX dX3_keepRow_100 rfl ?_
        refine zw_iconst (v := (0 : Int32)) hX dX3_keepRow_102 (by decide) ?_
        refine zw_iload_n hX dX3_keepRow_103 rfl ?_
        obtain ⟨S23, g, h⟩ := zb_some h
        refine zw_si hX dX3_keepRow_104 g ?_
        refine zw_aload hX dX3_keepRow_105 rfl ?_
        refine zw_iconst (v := (1 : Int32)) hX dX3_keepRow_107 (by decide) ?_
        refine zw_iload hX dX3_keepRow_108 rfl ?_
        refine zw_iload hX dX3_keepRow_110 rfl ?_
        refine zw_aload hX dX3_keepRow_112 rfl ?_
        refine zw_iconst (v := (0 : Int32)) hX dX3_keepRow_114 (by decide) ?_
        obtain ⟨v24, g, h⟩ := zb_some h
        refine zw_xi hX dX3_keepRow_115 g ?_
        refine zw_isub hX dX3_keepRow_116 ?_
        refine zw_mabs hX zl_X3_131 dX3_keepRow_117 (Nat.le_of_ble_eq_true rfl) ⟨by omega, by omega⟩ ?_
        refine zw_iload_n hX dX3_keepRow_120 rfl ?_
        refine zw_imul hX dX3_keepRow_121 ?_
        refine zw_iadd hX dX3_keepRow_122 ?_
        obtain ⟨S25, g, h⟩ := zb_some h
        refine zw_si hX dX3_keepRow_123 g ?_
        refine zw_aload hX dX3_keepRow_124 rfl ?_
        refine zw_iconst (v := (2 : Int32)) hX dX3_keepRow_126 (by decide) ?_
        refine zw_aload hX dX3_keepRow_127 rfl ?_
        refine zw_iconst (v := (1 : Int32)) hX dX3_keepRow_129 (by decide) ?_
        obtain ⟨v26, g, h⟩ := zb_some h
        refine zw_xi hX dX3_keepRow_130 g ?_
        refine zw_iconst (v := (3 : Int32)) hX dX3_keepRow_131 (by decide) ?_
        refine zw_iadd hX dX3_keepRow_132 ?_
        refine zw_aload hX dX3_keepRow_133 rfl ?_
        refine zw_iconst (v := (1 : Int32)) hX dX3_keepRow_135 (by decide) ?_
        obtain ⟨v27, g, h⟩ := zb_some h
        refine zw_xi hX dX3_keepRow_136 g ?_
        refine zw_aload hX dX3_keepRow_137 rfl ?_
        refine zw_iconst (v := (0 : Int32)) hX dX3_keepRow_139 (by decide) ?_
        obtain ⟨v28, g, h⟩ := zb_some h
        refine zw_xi hX dX3_keepRow_140 g ?_
        refine zw_isub hX dX3_keepRow_141 ?_
        refine zw_mabs hX zl_X3_131 dX3_keepRow_142 (Nat.le_of_ble_eq_true rfl) ⟨by omega, by omega⟩ ?_
        refine zw_iload_n hX dX3_keepRow_145 rfl ?_
        refine zw_imul hX dX3_keepRow_146 ?_
        refine zw_iadd hX dX3_keepRow_147 ?_
        obtain ⟨S29, g, h⟩ := zb_some h
        refine zw_si hX dX3_keepRow_148 g ?_
        refine zw_aload hX dX3_keepRow_149 rfl ?_
        refine zw_iconst (v := (3 : Int32)) hX dX3_keepRow_151 (by decide) ?_
        refine zw_iload hX dX3_keepRow_152 rfl ?_
        obtain ⟨S30, g, h⟩ := zb_some h
        refine zw_si hX dX3_keepRow_154 g ?_
        refine zw_aload hX dX3_keepRow_155 rfl ?_
        refine zw_iconst (v := (2 : Int32)) hX dX3_keepRow_157 (by decide) ?_
        obtain ⟨v31, g, h⟩ := zb_some h
        refine zw_xi hX dX3_keepRow_158 g ?_
        refine zw_iconst (v := (3 : Int32)) hX dX3_keepRow_159 (by decide) ?_
        refine zw_iadd hX dX3_keepRow_160 ?_
        refine zw_istore hX dX3_keepRow_161 (by decide) ?_
        refine zw_aload hX dX3_keepRow_163 rfl ?_
        refine zw_iconst (v := (1 : Int32)) hX dX3_keepRow_165 (by decide) ?_
        obtain ⟨v32, g, h⟩ := zb_some h
        refine zw_xi hX dX3_keepRow_166 g ?_
        refine zw_istore hX dX3_keepRow_167 (by decide) ?_
        refine zw_iinc (v := (i7 + (1 : Int32))) hX dX3_keepRow_169 rfl rfl (by decide) ?_
        refine zw_goto (tgt := 54) hX dX3_keepRow_172 (by decide) ?_
        refine zw_sub (lv' := [(0, .ref a0), (1, .int i1), (3, .int i3), (4, .int v32), (5, .int (v31 + (3 : Int32))), (6, .int i6), (7, .int (i7 + (1 : Int32)))]) (List.forall_mem_cons.mpr ⟨rfl, (List.forall_mem_cons.mpr ⟨rfl, (List.forall_mem_cons.mpr ⟨rfl, (List.forall_mem_cons.mpr ⟨rfl, (List.forall_mem_cons.mpr ⟨rfl, (List.forall_mem_cons.mpr ⟨rfl, (List.forall_mem_cons.mpr ⟨rfl, zs_nil⟩)⟩)⟩)⟩)⟩)⟩)⟩) ?_
        exact ih _ _ _ _ h
set_option maxHeartbeats 4000000 in
set_option maxRecDepth 100000 in
theorem zt_X3_keepRow {l : Launch} {V : zm_V} {N : Nat} {S : zm_S} {out : (Unit × zm_S)} {d : Nat} {a0 : Nat} {i1 : Int32} {i2 : Int32} (hd : 17 ≤ d) (h : zf_X3_keepRow N a0 i1 i2 S = some out) : zm_Met l zk_E V yX3_keepRow (.code yX3_keepRow cX3_keepRow 11 none) d [.ref a0, .int i1, .int i2] S 0 0 (zo_v out) zo_x := by
  refine zm_of (by decide +kernel) (Nat.le_of_ble_eq_true rfl) ?_
  intro p e R s m args below meth c hRR hX hr hxt
  have hR : R.frames = d ∧ R.locals = 64 * d := by rw [hRR]; exact ⟨rfl, rfl⟩
  have hX : zm_X p R s m args meth c RX3 "keepRow" cX3_keepRow 11 zk_E V 0 0 := hX
  unfold zf_X3_keepRow at h
  refine zw_sub (lv' := [(0, .ref a0), (1, .int i1), (2, .int i2)]) (List.forall_mem_cons.mpr ⟨rfl, (List.forall_mem_cons.mpr ⟨rfl, (List.forall_mem_cons.mpr ⟨rfl, zs_nil⟩)⟩)⟩) ?_
  refine zw_aload_n hX dX3_keepRow_0 rfl ?_
  refine zw_iload_n hX dX3_keepRow_1 rfl ?_
  refine zw_iload_n hX dX3_keepRow_2 rfl ?_
  obtain ⟨_, gi, h⟩ := zb_some h
  obtain ⟨r2, g, h⟩ := zb_some h
  refine zc_Vl (as := [.int i1, .int i2]) hX gi (zt_X3_leastRowCost (d := d - 1) (by omega) g) zl_X3_116 rfl dX3_keepRow_3 ⟨rfl, rfl, Nat.le_of_ble_eq_true rfl⟩ ⟨by omega, by omega⟩ ?_
  refine zw_pop2_l hX dX3_keepRow_6 rfl ?_
  refine zw_aload_n hX dX3_keepRow_7 rfl ?_
  obtain ⟨b3, g, h⟩ := zb_some h
  refine zw_getr hX zl_X3_13 dX3_keepRow_8 g ?_
  refine zw_iload_n hX dX3_keepRow_11 rfl ?_
  obtain ⟨b4, g, h⟩ := zb_some h
  refine zw_xr hX dX3_keepRow_12 g ?_
  refine zw_iconst (v := (1 : Int32)) hX dX3_keepRow_13 (by decide) ?_
  obtain ⟨v5, g, h⟩ := zb_some h
  refine zw_xi hX dX3_keepRow_14 g ?_
  refine zw_istore_n hX dX3_keepRow_15 (by decide) ?_
  refine zw_aload_n hX dX3_keepRow_16 rfl ?_
  obtain ⟨b6, g, h⟩ := zb_some h
  refine zw_getr hX zl_X3_13 dX3_keepRow_17 g ?_
  refine zw_iload_n hX dX3_keepRow_20 rfl ?_
  obtain ⟨b7, g, h⟩ := zb_some h
  refine zw_xr hX dX3_keepRow_21 g ?_
  refine zw_iconst (v := (0 : Int32)) hX dX3_keepRow_22 (by decide) ?_
  obtain ⟨v8, g, h⟩ := zb_some h
  refine zw_xi hX dX3_keepRow_23 g ?_
  refine zw_istore hX dX3_keepRow_24 (by decide) ?_
  refine zw_iconst (v := (0 : Int32)) hX dX3_keepRow_26 (by decide) ?_
  refine zw_aload_n hX dX3_keepRow_27 rfl ?_
  obtain ⟨b9, g, h⟩ := zb_some h
  refine zw_getr hX zl_X3_13 dX3_keepRow_28 g ?_
  refine zw_iload_n hX dX3_keepRow_31 rfl ?_
  obtain ⟨b10, g, h⟩ := zb_some h
  refine zw_xr hX dX3_keepRow_32 g ?_
  refine zw_iconst (v := (2 : Int32)) hX dX3_keepRow_33 (by decide) ?_
  obtain ⟨v11, g, h⟩ := zb_some h
  refine zw_xi hX dX3_keepRow_34 g ?_
  refine zw_aload_n hX dX3_keepRow_35 rfl ?_
  obtain ⟨v12, g, h⟩ := zb_some h
  refine zw_geti hX zl_X3_89 dX3_keepRow_36 g ?_
  refine zw_isub hX dX3_keepRow_39 ?_
  refine zw_mmax hX zl_X3_80 dX3_keepRow_40 (Nat.le_of_ble_eq_true rfl) ⟨by omega, by omega⟩ ?_
  refine zw_istore hX dX3_keepRow_43 (by decide) ?_
  refine zw_iload_n hX dX3_keepRow_45 rfl ?_
  obtain ⟨r14, g, h⟩ := zb_some h
  refine zc_Si (as := [.int i2]) hX (zt_J6_bitCount_0f7a4 (d := d - 1) (by omega) g) zl_X3_141 dX3_keepRow_46 ⟨rfl, rfl, Nat.le_of_ble_eq_true rfl⟩ ⟨by omega, by omega⟩ ?_
  refine zw_istore hX dX3_keepRow_49 (by decide) ?_
  refine zw_iconst (v := (0 : Int32)) hX dX3_keepRow_51 (by decide) ?_
  refine zw_istore hX dX3_keepRow_52 (by decide) ?_
  obtain ⟨r, g, h⟩ := zb_some h
  refine zw_sub (lv' := [(0, .ref a0), (1, .int i1), (3, .int v5), (4, .int v8), (5, .int (zj_max (0 : Int32) (v11 - v12))), (6, .int r14.1), (7, .int (0 : Int32))]) (List.forall_mem_cons.mpr ⟨rfl, (List.forall_mem_cons.mpr ⟨rfl, (List.forall_mem_cons.mpr ⟨rfl, (List.forall_mem_cons.mpr ⟨rfl, (List.forall_mem_cons.mpr ⟨rfl, (List.forall_mem_cons.mpr ⟨rfl, (List.forall_mem_cons.mpr ⟨rfl, zs_nil⟩)⟩)⟩)⟩)⟩)⟩)⟩) ?_
  refine zt_X3_keepRow_L54 hX hr hR hd (res := r) (out := out) a0 i1 v5 r14.1 ?_ ?_ N _ _ _ _ g
  · intro o ho
    subst ho
    exact Option.some.inj h
  · intro  S33 hx
    subst hx
    try dsimp only at h
    obtain rfl := Option.some.inj h
    exact zw_vret hX hr dX3_keepRow_175 ⟨rfl, rfl⟩
set_option maxHeartbeats 4000000 in
set_option maxRecDepth 100000 in
theorem zt_X3_makeGiving_L7 {p : Program} {l : Launch} {e : Env} {R : Room} {s : State} {m : MethodId} {args : Array Value} {below : List Frame} {meth : Method} {c : Code} {V : zm_V} {mc ms d rc rs : Nat} (hX : zm_X p R s m args meth c RX3 "makeGiving" cX3_makeGiving 4 zk_E V mc ms) (hr : meth.sig.returnType = (some .long)) (hR : R.frames = d ∧ R.locals = 64 * d) (hd : 18 ≤ d) {N : Nat} {res : (Int64 × zm_S) ⊕ ((Unit) × zm_S)} {out : (Int64 × zm_S)} (a0 : Nat) (i2 : Int32) (hf : ∀ o, res = .inl o → o = out) (hk : ∀ (S' : zm_S), res = .inr ((), S') → zw p l e R s m args below meth c (vx_MQ below (zm_Qc zk_E V (zo_l out)) (zm_XC zk_E V zo_x) args s mc ms (fun q => V.2.2.2.1 ≤ q)) 4 zk_E V mc ms 31 [(0, .ref a0), (2, .int i2)] [] S' rc rs) : ∀ (n : Nat) (i3 : Int32) (S : zm_S), zf_X3_makeGiving_L7 N n a0 i2 i3 S = some res → zw p l e R s m args below meth c (vx_MQ below (zm_Qc zk_E V (zo_l out)) (zm_XC zk_E V zo_x) args s mc ms (fun q => V.2.2.2.1 ≤ q)) 4 zk_E V mc ms 7 [(0, .ref a0), (2, .int i2), (3, .int i3)] [] S rc rs := by
  intro n
  induction n with
  | zero => intro i3 S h; cases h
  | succ n ih =>
    intro i3 S h
    rw [zf_X3_makeGiving_L7] at h
    refine zw_iload_n hX dX3_makeGiving_7 rfl ?_
    refine zw_aload_n hX dX3_makeGiving_8 rfl ?_
    obtain ⟨v2, g, h⟩ := zb_some h
    refine zw_geti hX zl_X3_50 dX3_makeGiving_9 g ?_
    refine zw_icmp_ge (tgt := 31) hX dX3_makeGiving_12 (by decide) (fun c12 => ?_) (fun c12 => ?_)
    · rw [if_pos c12] at h
      refine zw_sub (lv' := [(0, .ref a0), (2, .int i2)]) (List.forall_mem_cons.mpr ⟨rfl, (List.forall_mem_cons.mpr ⟨rfl, zs_nil⟩)⟩) ?_
      exact hk  _ (Option.some.inj h).symm
    · rw [if_neg c12] at h
      refine zw_aload_n hX dX3_makeGiving_15 rfl ?_
      obtain ⟨b3, g, h⟩ := zb_some h
      refine zw_getr hX zl_X3_23 dX3_makeGiving_16 g ?_
      refine zw_iload_n hX dX3_makeGiving_19 rfl ?_
      obtain ⟨b4, g, h⟩ := zb_some h
      refine zw_xr hX dX3_makeGiving_20 g ?_
      refine zw_iconst (v := (-1 : Int32)) hX dX3_makeGiving_21 (by decide) ?_
      obtain ⟨r6, g, h⟩ := zb_some h
      refine zc_Sv (as := [.ref b4, .int (-1 : Int32)]) hX (zt_J7_fill_53178 (d := d - 1) (by omega) g) zl_X3_56 dX3_makeGiving_22 ⟨rfl, rfl, Nat.le_of_ble_eq_true rfl⟩ ⟨by omega, by omega⟩ ?_
      refine zw_iinc (v := (i3 + (1 : Int32))) hX dX3_makeGiving_25 rfl rfl (by decide) ?_
      refine zw_goto (tgt := 7) hX dX3_makeGiving_28 (by decide) ?_
      refine zw_sub (lv' := [(0, .ref a0), (2, .int i2), (3, .int (i3 + (1 : Int32)))]) (List.forall_mem_cons.mpr ⟨rfl, (List.forall_mem_cons.mpr ⟨rfl, (List.forall_mem_cons.mpr ⟨rfl, zs_nil⟩)⟩)⟩) ?_
      exact ih _ _ h
set_option maxHeartbeats 4000000 in
set_option maxRecDepth 100000 in
theorem zt_X3_makeGiving_L33 {p : Program} {l : Launch} {e : Env} {R : Room} {s : State} {m : MethodId} {args : Array Value} {below : List Frame} {meth : Method} {c : Code} {V : zm_V} {mc ms d rc rs : Nat} (hX : zm_X p R s m args meth c RX3 "makeGiving" cX3_makeGiving 4 zk_E V mc ms) (hr : meth.sig.returnType = (some .long)) (hR : R.frames = d ∧ R.locals = 64 * d) (hd : 18 ≤ d) {N : Nat} {res : (Int64 × zm_S) ⊕ ((Unit) × zm_S)} {out : (Int64 × zm_S)} (a0 : Nat) (i2 : Int32) (hf : ∀ o, res = .inl o → o = out) (hk : ∀ (S' : zm_S), res = .inr ((), S') → zw p l e R s m args below meth c (vx_MQ below (zm_Qc zk_E V (zo_l out)) (zm_XC zk_E V zo_x) args s mc ms (fun q => V.2.2.2.1 ≤ q)) 4 zk_E V mc ms 71 [(0, .ref a0)] [] S' rc rs) : ∀ (n : Nat) (i3 : Int32) (S : zm_S), zf_X3_makeGiving_L33 N n a0 i2 i3 S = some res → zw p l e R s m args below meth c (vx_MQ below (zm_Qc zk_E V (zo_l out)) (zm_XC zk_E V zo_x) args s mc ms (fun q => V.2.2.2.1 ≤ q)) 4 zk_E V mc ms 33 [(0, .ref a0), (2, .int i2), (3, .int i3)] [] S rc rs := by
  intro n
  induction n with
  | zero => intro i3 S h; cases h
  | succ n ih =>
    intro i3 S h
    rw [zf_X3_makeGiving_L33] at h
    refine zw_iload_n hX dX3_makeGiving_33 rfl ?_
    refine zw_aload_n hX dX3_makeGiving_34 rfl ?_
    obtain ⟨v8, g, h⟩ := zb_some h
    refine zw_geti hX zl_X3_53 dX3_makeGiving_35 g ?_
    refine zw_icmp_ge (tgt := 71) hX dX3_makeGiving_38 (by decide) (fun c38 => ?_) (fun c38 => ?_)
    · rw [if_pos c38] at h
      refine zw_sub (lv' := [(0, .ref a0)]) (List.forall_mem_cons.mpr ⟨rfl, zs_nil⟩) ?_
      exact hk  _ (Option.some.inj h).symm
    · rw [if_neg c38] at h
      refine zw_aload_n hX dX3_makeGiving_41 rfl ?_
      obtain ⟨b9, g, h⟩ := zb_some h
      refine zw_getr hX zl_X3_26 dX3_makeGiving_42 g ?_
      refine zw_iload_n hX dX3_makeGiving_45 rfl ?_
      refine zw_iload_n hX dX3_makeGiving_46 rfl ?_
      refine zw_if_eq (tgt := 54) hX dX3_makeGiving_47 (by decide) (fun c47 => ?_) (fun c47 => ?_)
      · rw [if_pos c47] at h
        refine zw_aload_n hX dX3_makeGiving_54 rfl ?_
        refine zw_aload_n hX dX3_makeGiving_55 rfl ?_
        obtain ⟨b10, g, h⟩ := zb_some h
        refine zw_getr hX zl_X3_19 dX3_makeGiving_56 g ?_
        refine zw_iload_n hX dX3_makeGiving_59 rfl ?_
        obtain ⟨v11, g, h⟩ := zb_some h
        refine zw_xi hX dX3_makeGiving_60 g ?_
        obtain ⟨_, gi, h⟩ := zb_some h
        obtain ⟨r13, g, h⟩ := zb_some h
        refine zc_Vi (as := [.int v11]) hX gi (zt_X3_carsThatMayTake (d := d - 1) (by omega) g) zl_X3_92 rfl dX3_makeGiving_61 ⟨rfl, rfl, Nat.le_of_ble_eq_true rfl⟩ ⟨by omega, by omega⟩ ?_
        obtain ⟨S14, g, h⟩ := zb_some h
        refine zw_si hX dX3_makeGiving_64 g ?_
        refine zw_iinc (v := (i3 + (1 : Int32))) hX dX3_makeGiving_65 rfl rfl (by decide) ?_
        refine zw_goto (tgt := 33) hX dX3_makeGiving_68 (by decide) ?_
        refine zw_sub (lv' := [(0, .ref a0), (2, .int i2), (3, .int (i3 + (1 : Int32)))]) (List.forall_mem_cons.mpr ⟨rfl, (List.forall_mem_cons.mpr ⟨rfl, (List.forall_mem_cons.mpr ⟨rfl, zs_nil⟩)⟩)⟩) ?_
        exact ih _ _ h
      · rw [if_neg c47] at h
        refine zw_iconst (v := (0 : Int32)) hX dX3_makeGiving_50 (by decide) ?_
        refine zw_goto (tgt := 64) hX dX3_makeGiving_51 (by decide) ?_
        obtain ⟨S15, g, h⟩ := zb_some h
        refine zw_si hX dX3_makeGiving_64 g ?_
        refine zw_iinc (v := (i3 + (1 : Int32))) hX dX3_makeGiving_65 rfl rfl (by decide) ?_
        refine zw_goto (tgt := 33) hX dX3_makeGiving_68 (by decide) ?_
        refine zw_sub (lv' := [(0, .ref a0), (2, .int i2), (3, .int (i3 + (1 : Int32)))]) (List.forall_mem_cons.mpr ⟨rfl, (List.forall_mem_cons.mpr ⟨rfl, (List.forall_mem_cons.mpr ⟨rfl, zs_nil⟩)⟩)⟩) ?_
        exact ih _ _ h
set_option maxHeartbeats 4000000 in
set_option maxRecDepth 100000 in
theorem zt_X3_makeGiving_L73 {p : Program} {l : Launch} {e : Env} {R : Room} {s : State} {m : MethodId} {args : Array Value} {below : List Frame} {meth : Method} {c : Code} {V : zm_V} {mc ms d rc rs : Nat} (hX : zm_X p R s m args meth c RX3 "makeGiving" cX3_makeGiving 4 zk_E V mc ms) (hr : meth.sig.returnType = (some .long)) (hR : R.frames = d ∧ R.locals = 64 * d) (hd : 18 ≤ d) {N : Nat} {res : (Int64 × zm_S) ⊕ ((Unit) × zm_S)} {out : (Int64 × zm_S)} (a0 : Nat) (hf : ∀ o, res = .inl o → o = out) (hk : ∀ (S' : zm_S), res = .inr ((), S') → zw p l e R s m args below meth c (vx_MQ below (zm_Qc zk_E V (zo_l out)) (zm_XC zk_E V zo_x) args s mc ms (fun q => V.2.2.2.1 ≤ q)) 4 zk_E V mc ms 92 [(0, .ref a0)] [] S' rc rs) : ∀ (n : Nat) (i3 : Int32) (S : zm_S), zf_X3_makeGiving_L73 N n a0 i3 S = some res → zw p l e R s m args below meth c (vx_MQ below (zm_Qc zk_E V (zo_l out)) (zm_XC zk_E V zo_x) args s mc ms (fun q => V.2.2.2.1 ≤ q)) 4 zk_E V mc ms 73 [(0, .ref a0), (3, .int i3)] [] S rc rs := by
  intro n
  induction n with
  | zero => intro i3 S h; cases h
  | succ n ih =>
    intro i3 S h
    rw [zf_X3_makeGiving_L73] at h
    refine zw_iload_n hX dX3_makeGiving_73 rfl ?_
    refine zw_aload_n hX dX3_makeGiving_74 rfl ?_
    obtain ⟨v17, g, h⟩ := zb_some h
    refine zw_geti hX zl_X3_46 dX3_makeGiving_75 g ?_
    refine zw_icmp_ge (tgt := 92) hX dX3_makeGiving_78 (by decide) (fun c78 => ?_) (fun c78 => ?_)
    · rw [if_pos c78] at h
      refine zw_sub (lv' := [(0, .ref a0)]) (List.forall_mem_cons.mpr ⟨rfl, zs_nil⟩) ?_
      exact hk  _ (Option.some.inj h).symm
    · rw [if_neg c78] at h
      refine zw_aload_n hX dX3_makeGiving_81 rfl ?_
      refine zw_iload_n hX dX3_makeGiving_82 rfl ?_
      obtain ⟨_, gi, h⟩ := zb_some h
      obtain ⟨r19, g, h⟩ := zb_some h
      refine zc_Vv (as := [.int i3]) hX gi (zt_X3_costRows (d := d - 1) (by omega) g) zl_X3_95 rfl dX3_makeGiving_83 ⟨rfl, rfl, Nat.le_of_ble_eq_true rfl⟩ ⟨by omega, by omega⟩ ?_
      refine zw_iinc (v := (i3 + (1 : Int32))) hX dX3_makeGiving_86 rfl rfl (by decide) ?_
      refine zw_goto (tgt := 73) hX dX3_makeGiving_89 (by decide) ?_
      refine zw_sub (lv' := [(0, .ref a0), (3, .int (i3 + (1 : Int32)))]) (List.forall_mem_cons.mpr ⟨rfl, (List.forall_mem_cons.mpr ⟨rfl, zs_nil⟩)⟩) ?_
      exact ih _ _ h
set_option maxHeartbeats 4000000 in
set_option maxRecDepth 100000 in
theorem zt_X3_makeGiving_L114 {p : Program} {l : Launch} {e : Env} {R : Room} {s : State} {m : MethodId} {args : Array Value} {below : List Frame} {meth : Method} {c : Code} {V : zm_V} {mc ms d rc rs : Nat} (hX : zm_X p R s m args meth c RX3 "makeGiving" cX3_makeGiving 4 zk_E V mc ms) (hr : meth.sig.returnType = (some .long)) (hR : R.frames = d ∧ R.locals = 64 * d) (hd : 18 ≤ d) {N : Nat} {res : (Int64 × zm_S) ⊕ ((Unit) × zm_S)} {out : (Int64 × zm_S)} (a0 : Nat) (hf : ∀ o, res = .inl o → o = out) (hk : ∀ (S' : zm_S), res = .inr ((), S') → zw p l e R s m args below meth c (vx_MQ below (zm_Qc zk_E V (zo_l out)) (zm_XC zk_E V zo_x) args s mc ms (fun q => V.2.2.2.1 ≤ q)) 4 zk_E V mc ms 139 [(0, .ref a0)] [] S' rc rs) : ∀ (n : Nat) (i3 : Int32) (S : zm_S), zf_X3_makeGiving_L114 N n a0 i3 S = some res → zw p l e R s m args below meth c (vx_MQ below (zm_Qc zk_E V (zo_l out)) (zm_XC zk_E V zo_x) args s mc ms (fun q => V.2.2.2.1 ≤ q)) 4 zk_E V mc ms 114 [(0, .ref a0), (3, .int i3)] [] S rc rs := by
  intro n
  induction n with
  | zero => intro i3 S h; cases h
  | succ n ih =>
    intro i3 S h
    rw [zf_X3_makeGiving_L114] at h
    refine zw_iload_n hX dX3_makeGiving_114 rfl ?_
    refine zw_aload_n hX dX3_makeGiving_115 rfl ?_
    obtain ⟨v27, g, h⟩ := zb_some h
    refine zw_geti hX zl_X3_46 dX3_makeGiving_116 g ?_
    refine zw_icmp_ge (tgt := 139) hX dX3_makeGiving_119 (by decide) (fun c119 => ?_) (fun c119 => ?_)
    · rw [if_pos c119] at h
      refine zw_sub (lv' := [(0, .ref a0)]) (List.forall_mem_cons.mpr ⟨rfl, zs_nil⟩) ?_
      exact hk  _ (Option.some.inj h).symm
    · rw [if_neg c119] at h
      refine zw_aload_n hX dX3_makeGiving_122 rfl ?_
      refine zw_iload_n hX dX3_makeGiving_123 rfl ?_
      refine zw_aload_n hX dX3_makeGiving_124 rfl ?_
      obtain ⟨b28, g, h⟩ := zb_some h
      refine zw_getr hX zl_X3_43 dX3_makeGiving_125 g ?_
      refine zw_iload_n hX dX3_makeGiving_128 rfl ?_
      obtain ⟨v29, g, h⟩ := zb_some h
      refine zw_xi hX dX3_makeGiving_129 g ?_
      obtain ⟨_, gi, h⟩ := zb_some h
      obtain ⟨r31, g, h⟩ := zb_some h
      refine zc_Vv (as := [.int i3, .int v29]) hX gi (zt_X3_keepRow (d := d - 1) (by omega) g) zl_X3_109 rfl dX3_makeGiving_130 ⟨rfl, rfl, Nat.le_of_ble_eq_true rfl⟩ ⟨by omega, by omega⟩ ?_
      refine zw_iinc (v := (i3 + (1 : Int32))) hX dX3_makeGiving_133 rfl rfl (by decide) ?_
      refine zw_goto (tgt := 114) hX dX3_makeGiving_136 (by decide) ?_
      refine zw_sub (lv' := [(0, .ref a0), (3, .int (i3 + (1 : Int32)))]) (List.forall_mem_cons.mpr ⟨rfl, (List.forall_mem_cons.mpr ⟨rfl, zs_nil⟩)⟩) ?_
      exact ih _ _ h
set_option maxHeartbeats 4000000 in
set_option maxRecDepth 100000 in
theorem zt_X3_makeGiving {l : Launch} {V : zm_V} {N : Nat} {S : zm_S} {out : (Int64 × zm_S)} {d : Nat} {a0 : Nat} {i1 : Int32} {i2 : Int32} (hd : 18 ≤ d) (h : zf_X3_makeGiving N a0 i1 i2 S = some out) : zm_Met l zk_E V yX3_makeGiving (.code yX3_makeGiving cX3_makeGiving 4 (some .long)) d [.ref a0, .int i1, .int i2] S 0 0 (zo_l out) zo_x := by
  refine zm_of (by decide +kernel) (Nat.le_of_ble_eq_true rfl) ?_
  intro p e R s m args below meth c hRR hX hr hxt
  have hR : R.frames = d ∧ R.locals = 64 * d := by rw [hRR]; exact ⟨rfl, rfl⟩
  have hX : zm_X p R s m args meth c RX3 "makeGiving" cX3_makeGiving 4 zk_E V 0 0 := hX
  unfold zf_X3_makeGiving at h
  refine zw_sub (lv' := [(0, .ref a0), (1, .int i1), (2, .int i2)]) (List.forall_mem_cons.mpr ⟨rfl, (List.forall_mem_cons.mpr ⟨rfl, (List.forall_mem_cons.mpr ⟨rfl, zs_nil⟩)⟩)⟩) ?_
  refine zw_aload_n hX dX3_makeGiving_0 rfl ?_
  refine zw_iload_n hX dX3_makeGiving_1 rfl ?_
  obtain ⟨S1, g, h⟩ := zb_some h
  refine zw_putv hX zl_X3_89 zt_3_7 dX3_makeGiving_2 rfl rfl g ?_
  refine zw_iconst (v := (0 : Int32)) hX dX3_makeGiving_5 (by decide) ?_
  refine zw_istore_n hX dX3_makeGiving_6 (by decide) ?_
  obtain ⟨r, g, h⟩ := zb_some h
  refine zw_sub (lv' := [(0, .ref a0), (2, .int i2), (3, .int (0 : Int32))]) (List.forall_mem_cons.mpr ⟨rfl, (List.forall_mem_cons.mpr ⟨rfl, (List.forall_mem_cons.mpr ⟨rfl, zs_nil⟩)⟩)⟩) ?_
  refine zt_X3_makeGiving_L7 hX hr hR hd (res := r) (out := out) a0 i2 ?_ ?_ N _ _ g
  · intro o ho
    subst ho
    exact Option.some.inj h
  · intro  S7 hx
    subst hx
    try dsimp only at h
    refine zw_iconst (v := (0 : Int32)) hX dX3_makeGiving_31 (by decide) ?_
    refine zw_istore_n hX dX3_makeGiving_32 (by decide) ?_
    obtain ⟨r, g, h⟩ := zb_some h
    refine zw_sub (lv' := [(0, .ref a0), (2, .int i2), (3, .int (0 : Int32))]) (List.forall_mem_cons.mpr ⟨rfl, (List.forall_mem_cons.mpr ⟨rfl, (List.forall_mem_cons.mpr ⟨rfl, zs_nil⟩)⟩)⟩) ?_
    refine zt_X3_makeGiving_L33 hX hr hR hd (res := r) (out := out) a0 i2 ?_ ?_ N _ _ g
    · intro o ho
      subst ho
      exact Option.some.inj h
    · intro  S16 hx
      subst hx
      try dsimp only at h
      refine zw_iconst (v := (0 : Int32)) hX dX3_makeGiving_71 (by decide) ?_
      refine zw_istore_n hX dX3_makeGiving_72 (by decide) ?_
      obtain ⟨r, g, h⟩ := zb_some h
      refine zw_sub (lv' := [(0, .ref a0), (3, .int (0 : Int32))]) (List.forall_mem_cons.mpr ⟨rfl, (List.forall_mem_cons.mpr ⟨rfl, zs_nil⟩)⟩) ?_
      refine zt_X3_makeGiving_L73 hX hr hR hd (res := r) (out := out) a0 ?_ ?_ N _ _ g
      · intro o ho
        subst ho
        exact Option.some.inj h
      · intro  S20 hx
        subst hx
        try dsimp only at h
        refine zw_aload_n hX dX3_makeGiving_92 rfl ?_
        obtain ⟨b21, g, h⟩ := zb_some h
        refine zw_getr hX zl_X3_40 dX3_makeGiving_93 g ?_
        refine zw_iconst (v := (0 : Int32)) hX dX3_makeGiving_96 (by decide) ?_
        obtain ⟨r23, g, h⟩ := zb_some h
        refine zc_Sv (as := [.ref b21, .int (0 : Int32)]) hX (zt_J7_fill_53178 (d := d - 1) (by omega) g) zl_X3_56 dX3_makeGiving_97 ⟨rfl, rfl, Nat.le_of_ble_eq_true rfl⟩ ⟨by omega, by omega⟩ ?_
        refine zw_aload_n hX dX3_makeGiving_100 rfl ?_
        refine zw_ldc2 (v := (9223372036854775807 : Int64)) hX dX3_makeGiving_101 zl_X3_100 ?_
        obtain ⟨S24, g, h⟩ := zb_some h
        refine zw_putv hX zl_X3_102 zt_3_15 dX3_makeGiving_104 rfl rfl g ?_
        refine zw_aload_n hX dX3_makeGiving_107 rfl ?_
        refine zw_iconst (v := (0 : Int32)) hX dX3_makeGiving_108 (by decide) ?_
        obtain ⟨_, gi, h⟩ := zb_some h
        obtain ⟨r26, g, h⟩ := zb_some h
        refine zc_Vv (as := [.int (0 : Int32)]) hX gi (zt_X3_share (d := d - 1) (by omega) g) zl_X3_106 rfl dX3_makeGiving_109 ⟨rfl, rfl, Nat.le_of_ble_eq_true rfl⟩ ⟨by omega, by omega⟩ ?_
        refine zw_iconst (v := (0 : Int32)) hX dX3_makeGiving_112 (by decide) ?_
        refine zw_istore_n hX dX3_makeGiving_113 (by decide) ?_
        obtain ⟨r, g, h⟩ := zb_some h
        refine zw_sub (lv' := [(0, .ref a0), (3, .int (0 : Int32))]) (List.forall_mem_cons.mpr ⟨rfl, (List.forall_mem_cons.mpr ⟨rfl, zs_nil⟩)⟩) ?_
        refine zt_X3_makeGiving_L114 hX hr hR hd (res := r) (out := out) a0 ?_ ?_ N _ _ g
        · intro o ho
          subst ho
          exact Option.some.inj h
        · intro  S32 hx
          subst hx
          try dsimp only at h
          refine zw_aload_n hX dX3_makeGiving_139 rfl ?_
          obtain ⟨w33, g, h⟩ := zb_some h
          refine zw_getl hX zl_X3_102 dX3_makeGiving_140 g ?_
          obtain rfl := Option.some.inj h
          exact zw_lret hX hr dX3_makeGiving_143 ⟨rfl, rfl⟩
set_option maxHeartbeats 4000000 in
set_option maxRecDepth 100000 in
theorem zt_X4_init {l : Launch} {V : zm_V} {N : Nat} {S : zm_S} {out : (Unit × zm_S)} {d : Nat} {a0 : Nat} {a1 : Nat} {a2 : Nat} (hd : 2 ≤ d) (h : zf_X4_init N a0 a1 a2 S = some out) : zm_Met l zk_E V yX4_init (.code yX4_init cX4_init 3 none) d [.ref a0, .ref a1, .ref a2] S 164 1150 (zo_v out) zo_x := by
  refine zm_of (by decide +kernel) (Nat.le_of_ble_eq_true rfl) ?_
  intro p e R s m args below meth c hRR hX hr hxt
  have hR : R.frames = d ∧ R.locals = 64 * d := by rw [hRR]; exact ⟨rfl, rfl⟩
  have hX : zm_X p R s m args meth c RX4 "<init>" cX4_init 3 zk_E V 164 1150 := hX
  unfold zf_X4_init at h
  refine zw_sub (lv' := [(0, .ref a0), (1, .ref a1), (2, .ref a2)]) (List.forall_mem_cons.mpr ⟨rfl, (List.forall_mem_cons.mpr ⟨rfl, (List.forall_mem_cons.mpr ⟨rfl, zs_nil⟩)⟩)⟩) ?_
  refine zw_aload_n hX dX4_init_0 rfl ?_
  refine zw_objInit hX zl_X4_5.1 zl_X4_5.2.1 zl_X4_5.2.2 dX4_init_1 (by omega) (by show 0 + 12 ≤ R.locals; omega) ?_
  refine zw_aload_n hX dX4_init_4 rfl ?_
  refine zw_bipush (v := (50 : Int32)) hX dX4_init_5 (by decide) ?_
  obtain ⟨S1, g, h⟩ := zb_some h
  refine zw_ni (b := 50) hX zk_ai dX4_init_7 (by omega) (by omega) (by decide) g ?_
  obtain ⟨S2, g, h⟩ := zb_some h
  refine zw_putvF hX zl_X4_11 zt_4_3 dX4_init_9 rfl rfl g ?_
  refine zw_aload_n hX dX4_init_12 rfl ?_
  refine zw_bipush (v := (50 : Int32)) hX dX4_init_13 (by decide) ?_
  obtain ⟨S3, g, h⟩ := zb_some h
  refine zw_nb (b := 50) hX zk_ab dX4_init_15 (by omega) (by omega) (by decide) g ?_
  obtain ⟨S4, g, h⟩ := zb_some h
  refine zw_putvF hX zl_X4_15 zt_4_4 dX4_init_17 rfl rfl g ?_
  refine zw_aload_n hX dX4_init_20 rfl ?_
  refine zw_bipush (v := (50 : Int32)) hX dX4_init_21 (by decide) ?_
  obtain ⟨S5, g, h⟩ := zb_some h
  refine zw_ni (b := 50) hX zk_ai dX4_init_23 (by omega) (by omega) (by decide) g ?_
  obtain ⟨S6, g, h⟩ := zb_some h
  refine zw_putvF hX zl_X4_19 zt_4_5 dX4_init_25 rfl rfl g ?_
  refine zw_aload_n hX dX4_init_28 rfl ?_
  refine zw_bipush (v := (20 : Int32)) hX dX4_init_29 (by decide) ?_
  refine zw_bipush (v := (14 : Int32)) hX dX4_init_31 (by decide) ?_
  obtain ⟨S7, g, h⟩ := zb_some h
  refine zw_mnao (N := 20) (K := 14) (t1 := 4) (t2 := 0) (ty := .int) hX rfl rfl zl_X4_24 (by decide +kernel) (Or.inl rfl) zk_ai dX4_init_33 (fun _ _ => rfl) (by decide) (by decide) rfl rfl (Nat.le_of_ble_eq_true rfl) (Nat.le_of_ble_eq_true rfl) (Nat.le_of_ble_eq_true rfl) rfl rfl (fun _ h => by cases h) (by omega) (by omega) g ?_
  obtain ⟨S8, g, h⟩ := zb_some h
  refine zw_putvF hX zl_X4_26 zt_4_6 dX4_init_37 rfl rfl g ?_
  refine zw_aload_n hX dX4_init_40 rfl ?_
  refine zw_bipush (v := (20 : Int32)) hX dX4_init_41 (by decide) ?_
  refine zw_iconst (v := (5 : Int32)) hX dX4_init_43 (by decide) ?_
  obtain ⟨S9, g, h⟩ := zb_some h
  refine zw_mnao (N := 20) (K := 5) (t1 := 4) (t2 := 0) (ty := .int) hX rfl rfl zl_X4_24 (by decide +kernel) (Or.inl rfl) zk_ai dX4_init_44 (fun _ _ => rfl) (by decide) (by decide) rfl rfl (Nat.le_of_ble_eq_true rfl) (Nat.le_of_ble_eq_true rfl) (Nat.le_of_ble_eq_true rfl) rfl rfl (fun _ h => by cases h) (by omega) (by omega) g ?_
  obtain ⟨S10, g, h⟩ := zb_some h
  refine zw_putvF hX zl_X4_29 zt_4_7 dX4_init_48 rfl rfl g ?_
  refine zw_aload_n hX dX4_init_51 rfl ?_
  refine zw_bipush (v := (50 : Int32)) hX dX4_init_52 (by decide) ?_
  refine zw_iconst (v := (3 : Int32)) hX dX4_init_54 (by decide) ?_
  obtain ⟨S11, g, h⟩ := zb_some h
  refine zw_mnao (N := 50) (K := 3) (t1 := 4) (t2 := 0) (ty := .int) hX rfl rfl zl_X4_24 (by decide +kernel) (Or.inl rfl) zk_ai dX4_init_55 (fun _ _ => rfl) (by decide) (by decide) rfl rfl (Nat.le_of_ble_eq_true rfl) (Nat.le_of_ble_eq_true rfl) (Nat.le_of_ble_eq_true rfl) rfl rfl (fun _ h => by cases h) (by omega) (by omega) g ?_
  obtain ⟨S12, g, h⟩ := zb_some h
  refine zw_putvF hX zl_X4_32 zt_4_8 dX4_init_59 rfl rfl g ?_
  refine zw_aload_n hX dX4_init_62 rfl ?_
  refine zw_bipush (v := (20 : Int32)) hX dX4_init_63 (by decide) ?_
  obtain ⟨S13, g, h⟩ := zb_some h
  refine zw_ni (b := 20) hX zk_ai dX4_init_65 (by omega) (by omega) (by decide) g ?_
  obtain ⟨S14, g, h⟩ := zb_some h
  refine zw_putvF hX zl_X4_35 zt_4_10 dX4_init_67 rfl rfl g ?_
  refine zw_aload_n hX dX4_init_70 rfl ?_
  refine zw_bipush (v := (20 : Int32)) hX dX4_init_71 (by decide) ?_
  obtain ⟨S15, g, h⟩ := zb_some h
  refine zw_ni (b := 20) hX zk_ai dX4_init_73 (by omega) (by omega) (by decide) g ?_
  obtain ⟨S16, g, h⟩ := zb_some h
  refine zw_putvF hX zl_X4_38 zt_4_11 dX4_init_75 rfl rfl g ?_
  refine zw_aload_n hX dX4_init_78 rfl ?_
  refine zw_bipush (v := (20 : Int32)) hX dX4_init_79 (by decide) ?_
  obtain ⟨S17, g, h⟩ := zb_some h
  refine zw_ni (b := 20) hX zk_ai dX4_init_81 (by omega) (by omega) (by decide) g ?_
  obtain ⟨S18, g, h⟩ := zb_some h
  refine zw_putvF hX zl_X4_41 zt_4_12 dX4_init_83 rfl rfl g ?_
  refine zw_aload_n hX dX4_init_86 rfl ?_
  refine zw_bipush (v := (20 : Int32)) hX dX4_init_87 (by decide) ?_
  obtain ⟨S19, g, h⟩ := zb_some h
  refine zw_nb (b := 20) hX zk_ab dX4_init_89 (by omega) (by omega) (by decide) g ?_
  obtain ⟨S20, g, h⟩ := zb_some h
  refine zw_putvF hX zl_X4_44 zt_4_13 dX4_init_91 rfl rfl g ?_
  refine zw_aload_n hX dX4_init_94 rfl ?_
  refine zw_bipush (v := (20 : Int32)) hX dX4_init_95 (by decide) ?_
  obtain ⟨S21, g, h⟩ := zb_some h
  refine zw_nb (b := 20) hX zk_ab dX4_init_97 (by omega) (by omega) (by decide) g ?_
  obtain ⟨S22, g, h⟩ := zb_some h
  refine zw_putvF hX zl_X4_47 zt_4_14 dX4_init_99 rfl rfl g ?_
  refine zw_aload_n hX dX4_init_102 rfl ?_
  refine zw_bipush (v := (20 : Int32)) hX dX4_init_103 (by decide) ?_
  obtain ⟨S23, g, h⟩ := zb_some h
  refine zw_nb (b := 20) hX zk_ab dX4_init_105 (by omega) (by omega) (by decide) g ?_
  obtain ⟨S24, g, h⟩ := zb_some h
  refine zw_putvF hX zl_X4_50 zt_4_15 dX4_init_107 rfl rfl g ?_
  refine zw_aload_n hX dX4_init_110 rfl ?_
  refine zw_bipush (v := (20 : Int32)) hX dX4_init_111 (by decide) ?_
  obtain ⟨S25, g, h⟩ := zb_some h
  refine zw_nb (b := 20) hX zk_ab dX4_init_113 (by omega) (by omega) (by decide) g ?_
  obtain ⟨S26, g, h⟩ := zb_some h
  refine zw_putvF hX zl_X4_53 zt_4_16 dX4_init_115 rfl rfl g ?_
  refine zw_aload_n hX dX4_init_118 rfl ?_
  refine zw_bipush (v := (60 : Int32)) hX dX4_init_119 (by decide) ?_
  refine zw_iconst (v := (3 : Int32)) hX dX4_init_121 (by decide) ?_
  obtain ⟨S27, g, h⟩ := zb_some h
  refine zw_mnao (N := 60) (K := 3) (t1 := 4) (t2 := 0) (ty := .int) hX rfl rfl zl_X4_24 (by decide +kernel) (Or.inl rfl) zk_ai dX4_init_122 (fun _ _ => rfl) (by decide) (by decide) rfl rfl (Nat.le_of_ble_eq_true rfl) (Nat.le_of_ble_eq_true rfl) (Nat.le_of_ble_eq_true rfl) rfl rfl (fun _ h => by cases h) (by omega) (by omega) g ?_
  obtain ⟨S28, g, h⟩ := zb_some h
  refine zw_putvF hX zl_X4_56 zt_4_18 dX4_init_126 rfl rfl g ?_
  refine zw_aload_n hX dX4_init_129 rfl ?_
  refine zw_aload_n hX dX4_init_130 rfl ?_
  obtain ⟨S29, g, h⟩ := zb_some h
  refine zw_putvF hX zl_X4_59 zt_4_0 dX4_init_131 rfl rfl g ?_
  refine zw_aload_n hX dX4_init_134 rfl ?_
  refine zw_aload_n hX dX4_init_135 rfl ?_
  obtain ⟨S30, g, h⟩ := zb_some h
  refine zw_putvF hX zl_X4_63 zt_4_1 dX4_init_136 rfl rfl g ?_
  obtain rfl := Option.some.inj h
  exact zw_vret hX hr dX4_init_139 ⟨rfl, rfl⟩
set_option maxHeartbeats 4000000 in
set_option maxRecDepth 100000 in
theorem zt_X4_sortActs_L13 {p : Program} {l : Launch} {e : Env} {R : Room} {s : State} {m : MethodId} {args : Array Value} {below : List Frame} {meth : Method} {c : Code} {V : zm_V} {mc ms d rc rs : Nat} (hX : zm_X p R s m args meth c RX4 "sortActs" cX4_sortActs 3 zk_E V mc ms) (hr : meth.sig.returnType = none) (hR : R.frames = d ∧ R.locals = 64 * d) (hd : 1 ≤ d) {N : Nat} {res : (Unit × zm_S) ⊕ ((Int32) × zm_S)} {out : (Unit × zm_S)} (a0 : Nat) (i1 : Int32) (hf : ∀ o, res = .inl o → o = out) (hk : ∀ (x2 : Int32) (S' : zm_S), res = .inr (x2, S') → zw p l e R s m args below meth c (vx_MQ below (zm_Qc zk_E V (zo_v out)) (zm_XC zk_E V zo_x) args s mc ms (fun q => V.2.2.2.1 ≤ q)) 3 zk_E V mc ms 63 [(0, .ref a0), (1, .int i1), (2, .int x2)] [] S' rc rs) : ∀ (n : Nat) (i2 : Int32) (S : zm_S), zf_X4_sortActs_L13 N n a0 i1 i2 S = some res → zw p l e R s m args below meth c (vx_MQ below (zm_Qc zk_E V (zo_v out)) (zm_XC zk_E V zo_x) args s mc ms (fun q => V.2.2.2.1 ≤ q)) 3 zk_E V mc ms 13 [(0, .ref a0), (1, .int i1), (2, .int i2)] [] S rc rs := by
  intro n
  induction n with
  | zero => intro i2 S h; cases h
  | succ n ih =>
    intro i2 S h
    rw [zf_X4_sortActs_L13] at h
    refine zw_iload_n hX dX4_sortActs_13 rfl ?_
    refine zw_if_le (tgt := 63) hX dX4_sortActs_14 (by decide) (fun c14 => ?_) (fun c14 => ?_)
    · rw [if_pos c14] at h
      refine zw_sub (lv' := [(0, .ref a0), (1, .int i1), (2, .int i2)]) (List.forall_mem_cons.mpr ⟨rfl, (List.forall_mem_cons.mpr ⟨rfl, (List.forall_mem_cons.mpr ⟨rfl, zs_nil⟩)⟩)⟩) ?_
      exact hk _ _ (Option.some.inj h).symm
    · rw [if_neg c14] at h
      refine zw_aload_n hX dX4_sortActs_17 rfl ?_
      obtain ⟨b3, g, h⟩ := zb_some h
      refine zw_getr hX zl_X4_29 dX4_sortActs_18 g ?_
      refine zw_aload_n hX dX4_sortActs_21 rfl ?_
      obtain ⟨b4, g, h⟩ := zb_some h
      refine zw_getr hX zl_X4_35 dX4_sortActs_22 g ?_
      refine zw_iload_n hX dX4_sortActs_25 rfl ?_
      refine zw_iconst (v := (1 : Int32)) hX dX4_sortActs_26 (by decide) ?_
      refine zw_isub hX dX4_sortActs_27 ?_
      obtain ⟨v5, g, h⟩ := zb_some h
      refine zw_xi hX dX4_sortActs_28 g ?_
      obtain ⟨b6, g, h⟩ := zb_some h
      refine zw_xr hX dX4_sortActs_29 g ?_
      refine zw_iconst (v := (2 : Int32)) hX dX4_sortActs_30 (by decide) ?_
      obtain ⟨v7, g, h⟩ := zb_some h
      refine zw_xi hX dX4_sortActs_31 g ?_
      refine zw_aload_n hX dX4_sortActs_32 rfl ?_
      obtain ⟨b8, g, h⟩ := zb_some h
      refine zw_getr hX zl_X4_29 dX4_sortActs_33 g ?_
      refine zw_iload_n hX dX4_sortActs_36 rfl ?_
      obtain ⟨b9, g, h⟩ := zb_some h
      refine zw_xr hX dX4_sortActs_37 g ?_
      refine zw_iconst (v := (2 : Int32)) hX dX4_sortActs_38 (by decide) ?_
      obtain ⟨v10, g, h⟩ := zb_some h
      refine zw_xi hX dX4_sortActs_39 g ?_
      refine zw_icmp_ge (tgt := 63) hX dX4_sortActs_40 (by decide) (fun c40 => ?_) (fun c40 => ?_)
      · rw [if_pos c40] at h
        refine zw_sub (lv' := [(0, .ref a0), (1, .int i1), (2, .int i2)]) (List.forall_mem_cons.mpr ⟨rfl, (List.forall_mem_cons.mpr ⟨rfl, (List.forall_mem_cons.mpr ⟨rfl, zs_nil⟩)⟩)⟩) ?_
        exact hk _ _ (Option.some.inj h).symm
      · rw [if_neg c40] at h
        refine zw_aload_n hX dX4_sortActs_43 rfl ?_
        obtain ⟨b11, g, h⟩ := zb_some h
        refine zw_getr hX zl_X4_35 dX4_sortActs_44 g ?_
        refine zw_iload_n hX dX4_sortActs_47 rfl ?_
        refine zw_aload_n hX dX4_sortActs_48 rfl ?_
        obtain ⟨b12, g, h⟩ := zb_some h
        refine zw_getr hX zl_X4_35 dX4_sortActs_49 g ?_
        refine zw_iload_n hX dX4_sortActs_52 rfl ?_
        refine zw_iconst (v := (1 : Int32)) hX dX4_sortActs_53 (by decide) ?_
        refine zw_isub hX dX4_sortActs_54 ?_
        obtain ⟨v13, g, h⟩ := zb_some h
        refine zw_xi hX dX4_sortActs_55 g ?_
        obtain ⟨S14, g, h⟩ := zb_some h
        refine zw_si hX dX4_sortActs_56 g ?_
        refine zw_iinc (v := (i2 + (-1 : Int32))) hX dX4_sortActs_57 rfl rfl (by decide) ?_
        refine zw_goto (tgt := 13) hX dX4_sortActs_60 (by decide) ?_
        refine zw_sub (lv' := [(0, .ref a0), (1, .int i1), (2, .int (i2 + (-1 : Int32)))]) (List.forall_mem_cons.mpr ⟨rfl, (List.forall_mem_cons.mpr ⟨rfl, (List.forall_mem_cons.mpr ⟨rfl, zs_nil⟩)⟩)⟩) ?_
        exact ih _ _ h
set_option maxHeartbeats 4000000 in
set_option maxRecDepth 100000 in
theorem zt_X4_sortActs_J63 {p : Program} {l : Launch} {e : Env} {R : Room} {s : State} {m : MethodId} {args : Array Value} {below : List Frame} {meth : Method} {c : Code} {V : zm_V} {mc ms d rc rs : Nat} (hX : zm_X p R s m args meth c RX4 "sortActs" cX4_sortActs 3 zk_E V mc ms) (hr : meth.sig.returnType = none) (hR : R.frames = d ∧ R.locals = 64 * d) (hd : 1 ≤ d) {N : Nat} {k : Nat → Int32 → zm_S → Option ((Unit × zm_S) ⊕ ((Unit) × zm_S))} {a0 : Nat} {i1 : Int32} {i2 : Int32} {res : (Unit × zm_S) ⊕ ((Unit) × zm_S)} {out : (Unit × zm_S)}   (hf : ∀ o, res = .inl o → o = out) (hk : ∀ (S' : zm_S), res = .inr ((), S') → zw p l e R s m args below meth c (vx_MQ below (zm_Qc zk_E V (zo_v out)) (zm_XC zk_E V zo_x) args s mc ms (fun q => V.2.2.2.1 ≤ q)) 3 zk_E V mc ms 76 [] [] S' rc rs) (hrec : ∀ (i1' : Int32) (S : zm_S), k a0 i1' S = some res → zw p l e R s m args below meth c (vx_MQ below (zm_Qc zk_E V (zo_v out)) (zm_XC zk_E V zo_x) args s mc ms (fun q => V.2.2.2.1 ≤ q)) 3 zk_E V mc ms 2 [(0, .ref a0), (1, .int i1')] [] S rc rs) {S : zm_S} (h : zf_X4_sortActs_J63 N k a0 i1 i2 S = some res) : zw p l e R s m args below meth c (vx_MQ below (zm_Qc zk_E V (zo_v out)) (zm_XC zk_E V zo_x) args s mc ms (fun q => V.2.2.2.1 ≤ q)) 3 zk_E V mc ms 63 [(0, .ref a0), (1, .int i1), (2, .int i2)] [] S rc rs := by
  unfold zf_X4_sortActs_J63 at h
  refine zw_aload_n hX dX4_sortActs_63 rfl ?_
  obtain ⟨b17, g, h⟩ := zb_some h
  refine zw_getr hX zl_X4_35 dX4_sortActs_64 g ?_
  refine zw_iload_n hX dX4_sortActs_67 rfl ?_
  refine zw_iload_n hX dX4_sortActs_68 rfl ?_
  obtain ⟨S18, g, h⟩ := zb_some h
  refine zw_si hX dX4_sortActs_69 g ?_
  refine zw_iinc (v := (i1 + (1 : Int32))) hX dX4_sortActs_70 rfl rfl (by decide) ?_
  refine zw_goto (tgt := 2) hX dX4_sortActs_73 (by decide) ?_
  refine zw_sub (lv' := [(0, .ref a0), (1, .int (i1 + (1 : Int32)))]) (List.forall_mem_cons.mpr ⟨rfl, (List.forall_mem_cons.mpr ⟨rfl, zs_nil⟩)⟩) ?_
  exact hrec _ _ h
set_option maxHeartbeats 4000000 in
set_option maxRecDepth 100000 in
theorem zt_X4_sortActs_L2 {p : Program} {l : Launch} {e : Env} {R : Room} {s : State} {m : MethodId} {args : Array Value} {below : List Frame} {meth : Method} {c : Code} {V : zm_V} {mc ms d rc rs : Nat} (hX : zm_X p R s m args meth c RX4 "sortActs" cX4_sortActs 3 zk_E V mc ms) (hr : meth.sig.returnType = none) (hR : R.frames = d ∧ R.locals = 64 * d) (hd : 1 ≤ d) {N : Nat} {res : (Unit × zm_S) ⊕ ((Unit) × zm_S)} {out : (Unit × zm_S)} (a0 : Nat) (hf : ∀ o, res = .inl o → o = out) (hk : ∀ (S' : zm_S), res = .inr ((), S') → zw p l e R s m args below meth c (vx_MQ below (zm_Qc zk_E V (zo_v out)) (zm_XC zk_E V zo_x) args s mc ms (fun q => V.2.2.2.1 ≤ q)) 3 zk_E V mc ms 76 [] [] S' rc rs) : ∀ (n : Nat) (i1 : Int32) (S : zm_S), zf_X4_sortActs_L2 N n a0 i1 S = some res → zw p l e R s m args below meth c (vx_MQ below (zm_Qc zk_E V (zo_v out)) (zm_XC zk_E V zo_x) args s mc ms (fun q => V.2.2.2.1 ≤ q)) 3 zk_E V mc ms 2 [(0, .ref a0), (1, .int i1)] [] S rc rs := by
  intro n
  induction n with
  | zero => intro i1 S h; cases h
  | succ n ih =>
    intro i1 S h
    rw [zf_X4_sortActs_L2] at h
    refine zw_iload_n hX dX4_sortActs_2 rfl ?_
    refine zw_aload_n hX dX4_sortActs_3 rfl ?_
    obtain ⟨b1, g, h⟩ := zb_some h
    refine zw_getr hX zl_X4_35 dX4_sortActs_4 g ?_
    obtain ⟨v2, g, h⟩ := zb_some h
    refine zw_len hX dX4_sortActs_7 g ?_
    refine zw_icmp_ge (tgt := 76) hX dX4_sortActs_8 (by decide) (fun c8 => ?_) (fun c8 => ?_)
    · rw [if_pos c8] at h
      refine zw_sub (lv' := []) zs_nil ?_
      exact hk  _ (Option.some.inj h).symm
    · rw [if_neg c8] at h
      refine zw_iload_n hX dX4_sortActs_11 rfl ?_
      refine zw_istore_n hX dX4_sortActs_12 (by decide) ?_
      obtain ⟨r, g, h⟩ := zb_some h
      refine zw_sub (lv' := [(0, .ref a0), (1, .int i1), (2, .int i1)]) (List.forall_mem_cons.mpr ⟨rfl, (List.forall_mem_cons.mpr ⟨rfl, (List.forall_mem_cons.mpr ⟨rfl, zs_nil⟩)⟩)⟩) ?_
      refine zt_X4_sortActs_L13 hX hr hR hd (res := r) (out := out) a0 i1 ?_ ?_ N _ _ g
      · intro o ho
        subst ho
        exact hf _ (Option.some.inj h).symm
      · intro v16 S15 hx
        subst hx
        try dsimp only at h
        refine zw_sub (lv' := [(0, .ref a0), (1, .int i1), (2, .int v16)]) (List.forall_mem_cons.mpr ⟨rfl, (List.forall_mem_cons.mpr ⟨rfl, (List.forall_mem_cons.mpr ⟨rfl, zs_nil⟩)⟩)⟩) ?_
        exact zt_X4_sortActs_J63 hX hr hR hd hf hk ih h
set_option maxHeartbeats 4000000 in
set_option maxRecDepth 100000 in
theorem zt_X4_sortActs {l : Launch} {V : zm_V} {N : Nat} {S : zm_S} {out : (Unit × zm_S)} {d : Nat} {a0 : Nat} (hd : 1 ≤ d) (h : zf_X4_sortActs N a0 S = some out) : zm_Met l zk_E V yX4_sortActs (.code yX4_sortActs cX4_sortActs 3 none) d [.ref a0] S 0 0 (zo_v out) zo_x := by
  refine zm_of (by decide +kernel) (Nat.le_of_ble_eq_true rfl) ?_
  intro p e R s m args below meth c hRR hX hr hxt
  have hR : R.frames = d ∧ R.locals = 64 * d := by rw [hRR]; exact ⟨rfl, rfl⟩
  have hX : zm_X p R s m args meth c RX4 "sortActs" cX4_sortActs 3 zk_E V 0 0 := hX
  unfold zf_X4_sortActs at h
  refine zw_sub (lv' := [(0, .ref a0)]) (List.forall_mem_cons.mpr ⟨rfl, zs_nil⟩) ?_
  refine zw_iconst (v := (0 : Int32)) hX dX4_sortActs_0 (by decide) ?_
  refine zw_istore_n hX dX4_sortActs_1 (by decide) ?_
  obtain ⟨r, g, h⟩ := zb_some h
  refine zw_sub (lv' := [(0, .ref a0), (1, .int (0 : Int32))]) (List.forall_mem_cons.mpr ⟨rfl, (List.forall_mem_cons.mpr ⟨rfl, zs_nil⟩)⟩) ?_
  refine zt_X4_sortActs_L2 hX hr hR hd (res := r) (out := out) a0 ?_ ?_ N _ _ g
  · intro o ho
    subst ho
    exact Option.some.inj h
  · intro  S19 hx
    subst hx
    try dsimp only at h
    obtain rfl := Option.some.inj h
    exact zw_vret hX hr dX4_sortActs_76 ⟨rfl, rfl⟩
set_option maxHeartbeats 4000000 in
set_option maxRecDepth 100000 in
theorem zt_X4_takeTables_L2 {p : Program} {l : Launch} {e : Env} {R : Room} {s : State} {m : MethodId} {args : Array Value} {below : List Frame} {meth : Method} {c : Code} {V : zm_V} {mc ms d rc rs : Nat} (hX : zm_X p R s m args meth c RX4 "takeTables" cX4_takeTables 3 zk_E V mc ms) (hr : meth.sig.returnType = none) (hR : R.frames = d ∧ R.locals = 64 * d) (hd : 2 ≤ d) {N : Nat} {res : (Unit × zm_S) ⊕ ((Unit) × zm_S)} {out : (Unit × zm_S)} (a0 : Nat) (a1 : Nat) (hf : ∀ o, res = .inl o → o = out) (hk : ∀ (S' : zm_S), res = .inr ((), S') → zw p l e R s m args below meth c (vx_MQ below (zm_Qc zk_E V (zo_v out)) (zm_XC zk_E V zo_x) args s mc ms (fun q => V.2.2.2.1 ≤ q)) 3 zk_E V mc ms 38 [(0, .ref a0), (1, .ref a1)] [] S' rc rs) : ∀ (n : Nat) (i2 : Int32) (S : zm_S), zf_X4_takeTables_L2 N n a0 a1 i2 S = some res → zw p l e R s m args below meth c (vx_MQ below (zm_Qc zk_E V (zo_v out)) (zm_XC zk_E V zo_x) args s mc ms (fun q => V.2.2.2.1 ≤ q)) 3 zk_E V mc ms 2 [(0, .ref a0), (1, .ref a1), (2, .int i2)] [] S rc rs := by
  intro n
  induction n with
  | zero => intro i2 S h; cases h
  | succ n ih =>
    intro i2 S h
    rw [zf_X4_takeTables_L2] at h
    refine zw_iload_n hX dX4_takeTables_2 rfl ?_
    refine zw_bipush (v := (20 : Int32)) hX dX4_takeTables_3 (by decide) ?_
    refine zw_icmp_ge (tgt := 38) hX dX4_takeTables_5 (by decide) (fun c5 => ?_) (fun c5 => ?_)
    · rw [if_pos c5] at h
      refine zw_sub (lv' := [(0, .ref a0), (1, .ref a1)]) (List.forall_mem_cons.mpr ⟨rfl, (List.forall_mem_cons.mpr ⟨rfl, zs_nil⟩)⟩) ?_
      exact hk  _ (Option.some.inj h).symm
    · rw [if_neg c5] at h
      refine zw_aload_n hX dX4_takeTables_8 rfl ?_
      obtain ⟨b1, g, h⟩ := zb_some h
      refine zw_getNr hX zl_X4_67 dX4_takeTables_9 g ?_
      refine zw_iload_n hX dX4_takeTables_12 rfl ?_
      obtain ⟨b2, g, h⟩ := zb_some h
      refine zw_xr hX dX4_takeTables_13 g ?_
      refine zw_iconst (v := (0 : Int32)) hX dX4_takeTables_14 (by decide) ?_
      refine zw_aload_n hX dX4_takeTables_15 rfl ?_
      obtain ⟨b3, g, h⟩ := zb_some h
      refine zw_getr hX zl_X4_26 dX4_takeTables_16 g ?_
      refine zw_iload_n hX dX4_takeTables_19 rfl ?_
      obtain ⟨b4, g, h⟩ := zb_some h
      refine zw_xr hX dX4_takeTables_20 g ?_
      refine zw_iconst (v := (0 : Int32)) hX dX4_takeTables_21 (by decide) ?_
      refine zw_aload_n hX dX4_takeTables_22 rfl ?_
      obtain ⟨b5, g, h⟩ := zb_some h
      refine zw_getr hX zl_X4_26 dX4_takeTables_23 g ?_
      refine zw_iload_n hX dX4_takeTables_26 rfl ?_
      obtain ⟨b6, g, h⟩ := zb_some h
      refine zw_xr hX dX4_takeTables_27 g ?_
      obtain ⟨v7, g, h⟩ := zb_some h
      refine zw_len hX dX4_takeTables_28 g ?_
      obtain ⟨S8, g, h⟩ := zb_some h
      refine zw_cp hX zl_X4_68 dX4_takeTables_29 (Nat.le_of_ble_eq_true rfl) ⟨by omega, by omega⟩ g ?_
      refine zw_iinc (v := (i2 + (1 : Int32))) hX dX4_takeTables_32 rfl rfl (by decide) ?_
      refine zw_goto (tgt := 2) hX dX4_takeTables_35 (by decide) ?_
      refine zw_sub (lv' := [(0, .ref a0), (1, .ref a1), (2, .int (i2 + (1 : Int32)))]) (List.forall_mem_cons.mpr ⟨rfl, (List.forall_mem_cons.mpr ⟨rfl, (List.forall_mem_cons.mpr ⟨rfl, zs_nil⟩)⟩)⟩) ?_
      exact ih _ _ h
set_option maxHeartbeats 4000000 in
set_option maxRecDepth 100000 in
theorem zt_X4_takeTables_L40 {p : Program} {l : Launch} {e : Env} {R : Room} {s : State} {m : MethodId} {args : Array Value} {below : List Frame} {meth : Method} {c : Code} {V : zm_V} {mc ms d rc rs : Nat} (hX : zm_X p R s m args meth c RX4 "takeTables" cX4_takeTables 3 zk_E V mc ms) (hr : meth.sig.returnType = none) (hR : R.frames = d ∧ R.locals = 64 * d) (hd : 2 ≤ d) {N : Nat} {res : (Unit × zm_S) ⊕ ((Unit) × zm_S)} {out : (Unit × zm_S)} (a0 : Nat) (a1 : Nat) (hf : ∀ o, res = .inl o → o = out) (hk : ∀ (S' : zm_S), res = .inr ((), S') → zw p l e R s m args below meth c (vx_MQ below (zm_Qc zk_E V (zo_v out)) (zm_XC zk_E V zo_x) args s mc ms (fun q => V.2.2.2.1 ≤ q)) 3 zk_E V mc ms 83 [(0, .ref a0), (1, .ref a1)] [] S' rc rs) : ∀ (n : Nat) (i2 : Int32) (S : zm_S), zf_X4_takeTables_L40 N n a0 a1 i2 S = some res → zw p l e R s m args below meth c (vx_MQ below (zm_Qc zk_E V (zo_v out)) (zm_XC zk_E V zo_x) args s mc ms (fun q => V.2.2.2.1 ≤ q)) 3 zk_E V mc ms 40 [(0, .ref a0), (1, .ref a1), (2, .int i2)] [] S rc rs := by
  intro n
  induction n with
  | zero => intro i2 S h; cases h
  | succ n ih =>
    intro i2 S h
    rw [zf_X4_takeTables_L40] at h
    refine zw_iload_n hX dX4_takeTables_40 rfl ?_
    refine zw_bipush (v := (20 : Int32)) hX dX4_takeTables_41 (by decide) ?_
    refine zw_icmp_ge (tgt := 83) hX dX4_takeTables_43 (by decide) (fun c43 => ?_) (fun c43 => ?_)
    · rw [if_pos c43] at h
      refine zw_sub (lv' := [(0, .ref a0), (1, .ref a1)]) (List.forall_mem_cons.mpr ⟨rfl, (List.forall_mem_cons.mpr ⟨rfl, zs_nil⟩)⟩) ?_
      exact hk  _ (Option.some.inj h).symm
    · rw [if_neg c43] at h
      refine zw_aload_n hX dX4_takeTables_46 rfl ?_
      obtain ⟨b10, g, h⟩ := zb_some h
      refine zw_getNr hX zl_X4_74 dX4_takeTables_47 g ?_
      refine zw_iload_n hX dX4_takeTables_50 rfl ?_
      obtain ⟨b11, g, h⟩ := zb_some h
      refine zw_xr hX dX4_takeTables_51 g ?_
      refine zw_iconst (v := (0 : Int32)) hX dX4_takeTables_52 (by decide) ?_
      refine zw_aload_n hX dX4_takeTables_53 rfl ?_
      obtain ⟨b12, g, h⟩ := zb_some h
      refine zw_getr hX zl_X4_29 dX4_takeTables_54 g ?_
      refine zw_iload_n hX dX4_takeTables_57 rfl ?_
      obtain ⟨b13, g, h⟩ := zb_some h
      refine zw_xr hX dX4_takeTables_58 g ?_
      refine zw_iconst (v := (0 : Int32)) hX dX4_takeTables_59 (by decide) ?_
      refine zw_aload_n hX dX4_takeTables_60 rfl ?_
      obtain ⟨b14, g, h⟩ := zb_some h
      refine zw_getr hX zl_X4_29 dX4_takeTables_61 g ?_
      refine zw_iload_n hX dX4_takeTables_64 rfl ?_
      obtain ⟨b15, g, h⟩ := zb_some h
      refine zw_xr hX dX4_takeTables_65 g ?_
      obtain ⟨v16, g, h⟩ := zb_some h
      refine zw_len hX dX4_takeTables_66 g ?_
      obtain ⟨S17, g, h⟩ := zb_some h
      refine zw_cp hX zl_X4_68 dX4_takeTables_67 (Nat.le_of_ble_eq_true rfl) ⟨by omega, by omega⟩ g ?_
      refine zw_aload_n hX dX4_takeTables_70 rfl ?_
      obtain ⟨b18, g, h⟩ := zb_some h
      refine zw_getr hX zl_X4_38 dX4_takeTables_71 g ?_
      refine zw_iload_n hX dX4_takeTables_74 rfl ?_
      refine zw_iconst (v := (0 : Int32)) hX dX4_takeTables_75 (by decide) ?_
      obtain ⟨S19, g, h⟩ := zb_some h
      refine zw_si hX dX4_takeTables_76 g ?_
      refine zw_iinc (v := (i2 + (1 : Int32))) hX dX4_takeTables_77 rfl rfl (by decide) ?_
      refine zw_goto (tgt := 40) hX dX4_takeTables_80 (by decide) ?_
      refine zw_sub (lv' := [(0, .ref a0), (1, .ref a1), (2, .int (i2 + (1 : Int32)))]) (List.forall_mem_cons.mpr ⟨rfl, (List.forall_mem_cons.mpr ⟨rfl, (List.forall_mem_cons.mpr ⟨rfl, zs_nil⟩)⟩)⟩) ?_
      exact ih _ _ h
set_option maxHeartbeats 4000000 in
set_option maxRecDepth 100000 in
theorem zt_X4_takeTables_L85 {p : Program} {l : Launch} {e : Env} {R : Room} {s : State} {m : MethodId} {args : Array Value} {below : List Frame} {meth : Method} {c : Code} {V : zm_V} {mc ms d rc rs : Nat} (hX : zm_X p R s m args meth c RX4 "takeTables" cX4_takeTables 3 zk_E V mc ms) (hr : meth.sig.returnType = none) (hR : R.frames = d ∧ R.locals = 64 * d) (hd : 2 ≤ d) {N : Nat} {res : (Unit × zm_S) ⊕ ((Unit) × zm_S)} {out : (Unit × zm_S)} (a0 : Nat) (a1 : Nat) (hf : ∀ o, res = .inl o → o = out) (hk : ∀ (S' : zm_S), res = .inr ((), S') → zw p l e R s m args below meth c (vx_MQ below (zm_Qc zk_E V (zo_v out)) (zm_XC zk_E V zo_x) args s mc ms (fun q => V.2.2.2.1 ≤ q)) 3 zk_E V mc ms 123 [(0, .ref a0), (1, .ref a1)] [] S' rc rs) : ∀ (n : Nat) (i2 : Int32) (S : zm_S), zf_X4_takeTables_L85 N n a0 a1 i2 S = some res → zw p l e R s m args below meth c (vx_MQ below (zm_Qc zk_E V (zo_v out)) (zm_XC zk_E V zo_x) args s mc ms (fun q => V.2.2.2.1 ≤ q)) 3 zk_E V mc ms 85 [(0, .ref a0), (1, .ref a1), (2, .int i2)] [] S rc rs := by
  intro n
  induction n with
  | zero => intro i2 S h; cases h
  | succ n ih =>
    intro i2 S h
    rw [zf_X4_takeTables_L85] at h
    refine zw_iload_n hX dX4_takeTables_85 rfl ?_
    refine zw_aload_n hX dX4_takeTables_86 rfl ?_
    obtain ⟨v21, g, h⟩ := zb_some h
    refine zw_getNi hX zl_X4_75 dX4_takeTables_87 g ?_
    refine zw_icmp_ge (tgt := 123) hX dX4_takeTables_90 (by decide) (fun c90 => ?_) (fun c90 => ?_)
    · rw [if_pos c90] at h
      refine zw_sub (lv' := [(0, .ref a0), (1, .ref a1)]) (List.forall_mem_cons.mpr ⟨rfl, (List.forall_mem_cons.mpr ⟨rfl, zs_nil⟩)⟩) ?_
      exact hk  _ (Option.some.inj h).symm
    · rw [if_neg c90] at h
      refine zw_aload_n hX dX4_takeTables_93 rfl ?_
      obtain ⟨b22, g, h⟩ := zb_some h
      refine zw_getNr hX zl_X4_79 dX4_takeTables_94 g ?_
      refine zw_iload_n hX dX4_takeTables_97 rfl ?_
      obtain ⟨b23, g, h⟩ := zb_some h
      refine zw_xr hX dX4_takeTables_98 g ?_
      refine zw_iconst (v := (0 : Int32)) hX dX4_takeTables_99 (by decide) ?_
      refine zw_aload_n hX dX4_takeTables_100 rfl ?_
      obtain ⟨b24, g, h⟩ := zb_some h
      refine zw_getr hX zl_X4_32 dX4_takeTables_101 g ?_
      refine zw_iload_n hX dX4_takeTables_104 rfl ?_
      obtain ⟨b25, g, h⟩ := zb_some h
      refine zw_xr hX dX4_takeTables_105 g ?_
      refine zw_iconst (v := (0 : Int32)) hX dX4_takeTables_106 (by decide) ?_
      refine zw_aload_n hX dX4_takeTables_107 rfl ?_
      obtain ⟨b26, g, h⟩ := zb_some h
      refine zw_getr hX zl_X4_32 dX4_takeTables_108 g ?_
      refine zw_iload_n hX dX4_takeTables_111 rfl ?_
      obtain ⟨b27, g, h⟩ := zb_some h
      refine zw_xr hX dX4_takeTables_112 g ?_
      obtain ⟨v28, g, h⟩ := zb_some h
      refine zw_len hX dX4_takeTables_113 g ?_
      obtain ⟨S29, g, h⟩ := zb_some h
      refine zw_cp hX zl_X4_68 dX4_takeTables_114 (Nat.le_of_ble_eq_true rfl) ⟨by omega, by omega⟩ g ?_
      refine zw_iinc (v := (i2 + (1 : Int32))) hX dX4_takeTables_117 rfl rfl (by decide) ?_
      refine zw_goto (tgt := 85) hX dX4_takeTables_120 (by decide) ?_
      refine zw_sub (lv' := [(0, .ref a0), (1, .ref a1), (2, .int (i2 + (1 : Int32)))]) (List.forall_mem_cons.mpr ⟨rfl, (List.forall_mem_cons.mpr ⟨rfl, (List.forall_mem_cons.mpr ⟨rfl, zs_nil⟩)⟩)⟩) ?_
      exact ih _ _ h
set_option maxHeartbeats 4000000 in
set_option maxRecDepth 100000 in
theorem zt_X4_takeTables {l : Launch} {V : zm_V} {N : Nat} {S : zm_S} {out : (Unit × zm_S)} {d : Nat} {a0 : Nat} {a1 : Nat} (hd : 2 ≤ d) (h : zf_X4_takeTables N a0 a1 S = some out) : zm_Met l zk_E V yX4_takeTables (.code yX4_takeTables cX4_takeTables 3 none) d [.ref a0, .ref a1] S 0 0 (zo_v out) zo_x := by
  refine zm_of (by decide +kernel) (Nat.le_of_ble_eq_true rfl) ?_
  intro p e R s m args below meth c hRR hX hr hxt
  have hR : R.frames = d ∧ R.locals = 64 * d := by rw [hRR]; exact ⟨rfl, rfl⟩
  have hX : zm_X p R s m args meth c RX4 "takeTables" cX4_takeTables 3 zk_E V 0 0 := hX
  unfold zf_X4_takeTables at h
  refine zw_sub (lv' := [(0, .ref a0), (1, .ref a1)]) (List.forall_mem_cons.mpr ⟨rfl, (List.forall_mem_cons.mpr ⟨rfl, zs_nil⟩)⟩) ?_
  refine zw_iconst (v := (0 : Int32)) hX dX4_takeTables_0 (by decide) ?_
  refine zw_istore_n hX dX4_takeTables_1 (by decide) ?_
  obtain ⟨r, g, h⟩ := zb_some h
  refine zw_sub (lv' := [(0, .ref a0), (1, .ref a1), (2, .int (0 : Int32))]) (List.forall_mem_cons.mpr ⟨rfl, (List.forall_mem_cons.mpr ⟨rfl, (List.forall_mem_cons.mpr ⟨rfl, zs_nil⟩)⟩)⟩) ?_
  refine zt_X4_takeTables_L2 hX hr hR hd (res := r) (out := out) a0 a1 ?_ ?_ N _ _ g
  · intro o ho
    subst ho
    exact Option.some.inj h
  · intro  S9 hx
    subst hx
    try dsimp only at h
    refine zw_iconst (v := (0 : Int32)) hX dX4_takeTables_38 (by decide) ?_
    refine zw_istore_n hX dX4_takeTables_39 (by decide) ?_
    obtain ⟨r, g, h⟩ := zb_some h
    refine zw_sub (lv' := [(0, .ref a0), (1, .ref a1), (2, .int (0 : Int32))]) (List.forall_mem_cons.mpr ⟨rfl, (List.forall_mem_cons.mpr ⟨rfl, (List.forall_mem_cons.mpr ⟨rfl, zs_nil⟩)⟩)⟩) ?_
    refine zt_X4_takeTables_L40 hX hr hR hd (res := r) (out := out) a0 a1 ?_ ?_ N _ _ g
    · intro o ho
      subst ho
      exact Option.some.inj h
    · intro  S20 hx
      subst hx
      try dsimp only at h
      refine zw_iconst (v := (0 : Int32)) hX dX4_takeTables_83 (by decide) ?_
      refine zw_istore_n hX dX4_takeTables_84 (by decide) ?_
      obtain ⟨r, g, h⟩ := zb_some h
      refine zw_sub (lv' := [(0, .ref a0), (1, .ref a1), (2, .int (0 : Int32))]) (List.forall_mem_cons.mpr ⟨rfl, (List.forall_mem_cons.mpr ⟨rfl, (List.forall_mem_cons.mpr ⟨rfl, zs_nil⟩)⟩)⟩) ?_
      refine zt_X4_takeTables_L85 hX hr hR hd (res := r) (out := out) a0 a1 ?_ ?_ N _ _ g
      · intro o ho
        subst ho
        exact Option.some.inj h
      · intro  S30 hx
        subst hx
        try dsimp only at h
        refine zw_aload_n hX dX4_takeTables_123 rfl ?_
        refine zw_aload_n hX dX4_takeTables_124 rfl ?_
        obtain ⟨v31, g, h⟩ := zb_some h
        refine zw_getNi hX zl_X4_75 dX4_takeTables_125 g ?_
        obtain ⟨S32, g, h⟩ := zb_some h
        refine zw_putv hX zl_X4_80 zt_4_9 dX4_takeTables_128 rfl rfl g ?_
        refine zw_aload_n hX dX4_takeTables_131 rfl ?_
        obtain ⟨_, gi, h⟩ := zb_some h
        obtain ⟨r34, g, h⟩ := zb_some h
        refine zc_Vv (as := []) hX gi (zt_X4_sortActs (d := d - 1) (by omega) g) zl_X4_81 rfl dX4_takeTables_132 ⟨rfl, rfl, Nat.le_of_ble_eq_true rfl⟩ ⟨by omega, by omega⟩ ?_
        obtain rfl := Option.some.inj h
        exact zw_vret hX hr dX4_takeTables_135 ⟨rfl, rfl⟩
set_option maxHeartbeats 4000000 in
set_option maxRecDepth 100000 in
theorem zt_X4_isZone {l : Launch} {V : zm_V} {N : Nat} {S : zm_S} {out : (Int32 × zm_S)} {d : Nat} {a0 : Nat} {i1 : Int32} (hd : 1 ≤ d) (h : zf_X4_isZone N a0 i1 S = some out) : zm_Met l zk_E V yX4_isZone (.code yX4_isZone cX4_isZone 2 (some .boolean)) d [.ref a0, .int i1] S 0 0 (zo_i out) zo_x := by
  refine zm_of (by decide +kernel) (Nat.le_of_ble_eq_true rfl) ?_
  intro p e R s m args below meth c hRR hX hr hxt
  have hR : R.frames = d ∧ R.locals = 64 * d := by rw [hRR]; exact ⟨rfl, rfl⟩
  have hX : zm_X p R s m args meth c RX4 "isZone" cX4_isZone 2 zk_E V 0 0 := hX
  unfold zf_X4_isZone at h
  refine zw_sub (lv' := [(0, .ref a0), (1, .int i1)]) (List.forall_mem_cons.mpr ⟨rfl, (List.forall_mem_cons.mpr ⟨rfl, zs_nil⟩)⟩) ?_
  refine zw_iload_n hX dX4_isZone_0 rfl ?_
  refine zw_if_lt (tgt := 28) hX dX4_isZone_1 (by decide) (fun c1 => ?_) (fun c1 => ?_)
  · rw [if_pos c1] at h
    refine zw_iconst (v := (0 : Int32)) hX dX4_isZone_28 (by decide) ?_
    obtain rfl := Option.some.inj h
    exact zw_iret hX hr dX4_isZone_29 rfl ⟨rfl, rfl⟩
  · rw [if_neg c1] at h
    refine zw_iload_n hX dX4_isZone_4 rfl ?_
    refine zw_aload_n hX dX4_isZone_5 rfl ?_
    obtain ⟨b1, g, h⟩ := zb_some h
    refine zw_getr hX zl_X4_26 dX4_isZone_6 g ?_
    obtain ⟨v2, g, h⟩ := zb_some h
    refine zw_len hX dX4_isZone_9 g ?_
    refine zw_icmp_ge (tgt := 28) hX dX4_isZone_10 (by decide) (fun c10 => ?_) (fun c10 => ?_)
    · rw [if_pos c10] at h
      refine zw_iconst (v := (0 : Int32)) hX dX4_isZone_28 (by decide) ?_
      obtain rfl := Option.some.inj h
      exact zw_iret hX hr dX4_isZone_29 rfl ⟨rfl, rfl⟩
    · rw [if_neg c10] at h
      refine zw_aload_n hX dX4_isZone_13 rfl ?_
      obtain ⟨b3, g, h⟩ := zb_some h
      refine zw_getr hX zl_X4_26 dX4_isZone_14 g ?_
      refine zw_iload_n hX dX4_isZone_17 rfl ?_
      obtain ⟨b4, g, h⟩ := zb_some h
      refine zw_xr hX dX4_isZone_18 g ?_
      refine zw_iconst (v := (0 : Int32)) hX dX4_isZone_19 (by decide) ?_
      obtain ⟨v5, g, h⟩ := zb_some h
      refine zw_xi hX dX4_isZone_20 g ?_
      refine zw_if_eq (tgt := 28) hX dX4_isZone_21 (by decide) (fun c21 => ?_) (fun c21 => ?_)
      · rw [if_pos c21] at h
        refine zw_iconst (v := (0 : Int32)) hX dX4_isZone_28 (by decide) ?_
        obtain rfl := Option.some.inj h
        exact zw_iret hX hr dX4_isZone_29 rfl ⟨rfl, rfl⟩
      · rw [if_neg c21] at h
        refine zw_iconst (v := (1 : Int32)) hX dX4_isZone_24 (by decide) ?_
        refine zw_goto (tgt := 29) hX dX4_isZone_25 (by decide) ?_
        obtain rfl := Option.some.inj h
        exact zw_iret hX hr dX4_isZone_29 rfl ⟨rfl, rfl⟩
set_option maxHeartbeats 4000000 in
set_option maxRecDepth 100000 in
theorem zt_X4_isAct {l : Launch} {V : zm_V} {N : Nat} {S : zm_S} {out : (Int32 × zm_S)} {d : Nat} {a0 : Nat} {i1 : Int32} (hd : 1 ≤ d) (h : zf_X4_isAct N a0 i1 S = some out) : zm_Met l zk_E V yX4_isAct (.code yX4_isAct cX4_isAct 2 (some .boolean)) d [.ref a0, .int i1] S 0 0 (zo_i out) zo_x := by
  refine zm_of (by decide +kernel) (Nat.le_of_ble_eq_true rfl) ?_
  intro p e R s m args below meth c hRR hX hr hxt
  have hR : R.frames = d ∧ R.locals = 64 * d := by rw [hRR]; exact ⟨rfl, rfl⟩
  have hX : zm_X p R s m args meth c RX4 "isAct" cX4_isAct 2 zk_E V 0 0 := hX
  unfold zf_X4_isAct at h
  refine zw_sub (lv' := [(0, .ref a0), (1, .int i1)]) (List.forall_mem_cons.mpr ⟨rfl, (List.forall_mem_cons.mpr ⟨rfl, zs_nil⟩)⟩) ?_
  refine zw_iload_n hX dX4_isAct_0 rfl ?_
  refine zw_if_lt (tgt := 28) hX dX4_isAct_1 (by decide) (fun c1 => ?_) (fun c1 => ?_)
  · rw [if_pos c1] at h
    refine zw_iconst (v := (0 : Int32)) hX dX4_isAct_28 (by decide) ?_
    obtain rfl := Option.some.inj h
    exact zw_iret hX hr dX4_isAct_29 rfl ⟨rfl, rfl⟩
  · rw [if_neg c1] at h
    refine zw_iload_n hX dX4_isAct_4 rfl ?_
    refine zw_aload_n hX dX4_isAct_5 rfl ?_
    obtain ⟨b1, g, h⟩ := zb_some h
    refine zw_getr hX zl_X4_29 dX4_isAct_6 g ?_
    obtain ⟨v2, g, h⟩ := zb_some h
    refine zw_len hX dX4_isAct_9 g ?_
    refine zw_icmp_ge (tgt := 28) hX dX4_isAct_10 (by decide) (fun c10 => ?_) (fun c10 => ?_)
    · rw [if_pos c10] at h
      refine zw_iconst (v := (0 : Int32)) hX dX4_isAct_28 (by decide) ?_
      obtain rfl := Option.some.inj h
      exact zw_iret hX hr dX4_isAct_29 rfl ⟨rfl, rfl⟩
    · rw [if_neg c10] at h
      refine zw_aload_n hX dX4_isAct_13 rfl ?_
      obtain ⟨b3, g, h⟩ := zb_some h
      refine zw_getr hX zl_X4_29 dX4_isAct_14 g ?_
      refine zw_iload_n hX dX4_isAct_17 rfl ?_
      obtain ⟨b4, g, h⟩ := zb_some h
      refine zw_xr hX dX4_isAct_18 g ?_
      refine zw_iconst (v := (0 : Int32)) hX dX4_isAct_19 (by decide) ?_
      obtain ⟨v5, g, h⟩ := zb_some h
      refine zw_xi hX dX4_isAct_20 g ?_
      refine zw_if_eq (tgt := 28) hX dX4_isAct_21 (by decide) (fun c21 => ?_) (fun c21 => ?_)
      · rw [if_pos c21] at h
        refine zw_iconst (v := (0 : Int32)) hX dX4_isAct_28 (by decide) ?_
        obtain rfl := Option.some.inj h
        exact zw_iret hX hr dX4_isAct_29 rfl ⟨rfl, rfl⟩
      · rw [if_neg c21] at h
        refine zw_iconst (v := (1 : Int32)) hX dX4_isAct_24 (by decide) ?_
        refine zw_goto (tgt := 29) hX dX4_isAct_25 (by decide) ?_
        obtain rfl := Option.some.inj h
        exact zw_iret hX hr dX4_isAct_29 rfl ⟨rfl, rfl⟩
set_option maxHeartbeats 4000000 in
set_option maxRecDepth 100000 in
theorem zt_X4_setSwitch {l : Launch} {V : zm_V} {N : Nat} {S : zm_S} {out : (Unit × zm_S)} {d : Nat} {a0 : Nat} {i1 : Int32} {i2 : Int32} (hd : 2 ≤ d) (h : zf_X4_setSwitch N a0 i1 i2 S = some out) : zm_Met l zk_E V yX4_setSwitch (.code yX4_setSwitch cX4_setSwitch 4 none) d [.ref a0, .int i1, .int i2] S 0 0 (zo_v out) zo_x := by
  refine zm_of (by decide +kernel) (Nat.le_of_ble_eq_true rfl) ?_
  intro p e R s m args below meth c hRR hX hr hxt
  have hR : R.frames = d ∧ R.locals = 64 * d := by rw [hRR]; exact ⟨rfl, rfl⟩
  have hX : zm_X p R s m args meth c RX4 "setSwitch" cX4_setSwitch 4 zk_E V 0 0 := hX
  unfold zf_X4_setSwitch at h
  refine zw_sub (lv' := [(0, .ref a0), (1, .int i1), (2, .int i2)]) (List.forall_mem_cons.mpr ⟨rfl, (List.forall_mem_cons.mpr ⟨rfl, (List.forall_mem_cons.mpr ⟨rfl, zs_nil⟩)⟩)⟩) ?_
  refine zw_aload_n hX dX4_setSwitch_0 rfl ?_
  obtain ⟨v1, g, h⟩ := zb_some h
  refine zw_geti hX zl_X4_84 dX4_setSwitch_1 g ?_
  refine zw_bipush (v := (10 : Int32)) hX dX4_setSwitch_4 (by decide) ?_
  refine zw_isub hX dX4_setSwitch_6 ?_
  refine zw_iload_n hX dX4_setSwitch_7 rfl ?_
  refine zw_iadd hX dX4_setSwitch_8 ?_
  refine zw_istore_n hX dX4_setSwitch_9 (by decide) ?_
  refine zw_iload_n hX dX4_setSwitch_10 rfl ?_
  refine zw_iconst (v := (-1 : Int32)) hX dX4_setSwitch_11 (by decide) ?_
  refine zw_icmp_eq (tgt := 43) hX dX4_setSwitch_12 (by decide) (fun c12 => ?_) (fun c12 => ?_)
  · rw [if_pos c12] at h
    obtain rfl := Option.some.inj h
    exact zw_vret hX hr dX4_setSwitch_43 ⟨rfl, rfl⟩
  · rw [if_neg c12] at h
    refine zw_iload_n hX dX4_setSwitch_15 rfl ?_
    refine zw_if_lt (tgt := 43) hX dX4_setSwitch_16 (by decide) (fun c16 => ?_) (fun c16 => ?_)
    · rw [if_pos c16] at h
      obtain rfl := Option.some.inj h
      exact zw_vret hX hr dX4_setSwitch_43 ⟨rfl, rfl⟩
    · rw [if_neg c16] at h
      refine zw_iload_n hX dX4_setSwitch_19 rfl ?_
      refine zw_aload_n hX dX4_setSwitch_20 rfl ?_
      obtain ⟨v2, g, h⟩ := zb_some h
      refine zw_geti hX zl_X4_84 dX4_setSwitch_21 g ?_
      refine zw_icmp_ge (tgt := 43) hX dX4_setSwitch_24 (by decide) (fun c24 => ?_) (fun c24 => ?_)
      · rw [if_pos c24] at h
        obtain rfl := Option.some.inj h
        exact zw_vret hX hr dX4_setSwitch_43 ⟨rfl, rfl⟩
      · rw [if_neg c24] at h
        refine zw_aload_n hX dX4_setSwitch_27 rfl ?_
        obtain ⟨b3, g, h⟩ := zb_some h
        refine zw_getr hX zl_X4_11 dX4_setSwitch_28 g ?_
        refine zw_iload_n hX dX4_setSwitch_31 rfl ?_
        refine zw_iconst (v := (0 : Int32)) hX dX4_setSwitch_32 (by decide) ?_
        refine zw_iload_n hX dX4_setSwitch_33 rfl ?_
        refine zw_bipush (v := (100 : Int32)) hX dX4_setSwitch_34 (by decide) ?_
        refine zw_mmin hX zl_X4_87 dX4_setSwitch_36 (Nat.le_of_ble_eq_true rfl) ⟨by omega, by omega⟩ ?_
        refine zw_mmax hX zl_X4_93 dX4_setSwitch_39 (Nat.le_of_ble_eq_true rfl) ⟨by omega, by omega⟩ ?_
        obtain ⟨S4, g, h⟩ := zb_some h
        refine zw_si hX dX4_setSwitch_42 g ?_
        obtain rfl := Option.some.inj h
        exact zw_vret hX hr dX4_setSwitch_43 ⟨rfl, rfl⟩
set_option maxHeartbeats 4000000 in
set_option maxRecDepth 100000 in
theorem zt_X4_isAsked {l : Launch} {V : zm_V} {N : Nat} {S : zm_S} {out : (Int32 × zm_S)} {d : Nat} {a0 : Nat} {i1 : Int32} {i2 : Int32} (hd : 1 ≤ d) (h : zf_X4_isAsked N a0 i1 i2 S = some out) : zm_Met l zk_E V yX4_isAsked (.code yX4_isAsked cX4_isAsked 3 (some .boolean)) d [.ref a0, .int i1, .int i2] S 0 0 (zo_i out) zo_x := by
  refine zm_of (by decide +kernel) (Nat.le_of_ble_eq_true rfl) ?_
  intro p e R s m args below meth c hRR hX hr hxt
  have hR : R.frames = d ∧ R.locals = 64 * d := by rw [hRR]; exact ⟨rfl, rfl⟩
  have hX : zm_X p R s m args meth c RX4 "isAsked" cX4_isAsked 3 zk_E V 0 0 := hX
  unfold zf_X4_isAsked at h
  refine zw_sub (lv' := [(0, .ref a0), (1, .int i1), (2, .int i2)]) (List.forall_mem_cons.mpr ⟨rfl, (List.forall_mem_cons.mpr ⟨rfl, (List.forall_mem_cons.mpr ⟨rfl, zs_nil⟩)⟩)⟩) ?_
  refine zw_aload_n hX dX4_isAsked_0 rfl ?_
  obtain ⟨b1, g, h⟩ := zb_some h
  refine zw_getr hX zl_X4_15 dX4_isAsked_1 g ?_
  refine zw_iload_n hX dX4_isAsked_4 rfl ?_
  obtain ⟨v2, g, h⟩ := zb_some h
  refine zw_xz hX dX4_isAsked_5 g ?_
  refine zw_if_ne (tgt := 23) hX dX4_isAsked_6 (by decide) (fun c6 => ?_) (fun c6 => ?_)
  · rw [if_neg c6] at h
    refine zw_iconst (v := (0 : Int32)) hX dX4_isAsked_23 (by decide) ?_
    obtain rfl := Option.some.inj h
    exact zw_iret hX hr dX4_isAsked_24 rfl ⟨rfl, rfl⟩
  · rw [if_pos c6] at h
    refine zw_iload_n hX dX4_isAsked_9 rfl ?_
    refine zw_aload_n hX dX4_isAsked_10 rfl ?_
    obtain ⟨b3, g, h⟩ := zb_some h
    refine zw_getr hX zl_X4_19 dX4_isAsked_11 g ?_
    refine zw_iload_n hX dX4_isAsked_14 rfl ?_
    obtain ⟨v4, g, h⟩ := zb_some h
    refine zw_xi hX dX4_isAsked_15 g ?_
    refine zw_icmp_lt (tgt := 23) hX dX4_isAsked_16 (by decide) (fun c16 => ?_) (fun c16 => ?_)
    · rw [if_pos c16] at h
      refine zw_iconst (v := (0 : Int32)) hX dX4_isAsked_23 (by decide) ?_
      obtain rfl := Option.some.inj h
      exact zw_iret hX hr dX4_isAsked_24 rfl ⟨rfl, rfl⟩
    · rw [if_neg c16] at h
      refine zw_iconst (v := (1 : Int32)) hX dX4_isAsked_19 (by decide) ?_
      refine zw_goto (tgt := 24) hX dX4_isAsked_20 (by decide) ?_
      obtain rfl := Option.some.inj h
      exact zw_iret hX hr dX4_isAsked_24 rfl ⟨rfl, rfl⟩
set_option maxHeartbeats 4000000 in
set_option maxRecDepth 100000 in
theorem zt_X4_isOn {l : Launch} {V : zm_V} {N : Nat} {S : zm_S} {out : (Int32 × zm_S)} {d : Nat} {a0 : Nat} {i1 : Int32} {i2 : Int32} (hd : 2 ≤ d) (h : zf_X4_isOn N a0 i1 i2 S = some out) : zm_Met l zk_E V yX4_isOn (.code yX4_isOn cX4_isOn 3 (some .boolean)) d [.ref a0, .int i1, .int i2] S 0 0 (zo_i out) zo_x := by
  refine zm_of (by decide +kernel) (Nat.le_of_ble_eq_true rfl) ?_
  intro p e R s m args below meth c hRR hX hr hxt
  have hR : R.frames = d ∧ R.locals = 64 * d := by rw [hRR]; exact ⟨rfl, rfl⟩
  have hX : zm_X p R s m args meth c RX4 "isOn" cX4_isOn 3 zk_E V 0 0 := hX
  unfold zf_X4_isOn at h
  refine zw_sub (lv' := [(0, .ref a0), (1, .int i1), (2, .int i2)]) (List.forall_mem_cons.mpr ⟨rfl, (List.forall_mem_cons.mpr ⟨rfl, (List.forall_mem_cons.mpr ⟨rfl, zs_nil⟩)⟩)⟩) ?_
  refine zw_aload_n hX dX4_isOn_0 rfl ?_
  obtain ⟨b1, g, h⟩ := zb_some h
  refine zw_getr hX zl_X4_11 dX4_isOn_1 g ?_
  refine zw_iload_n hX dX4_isOn_4 rfl ?_
  obtain ⟨v2, g, h⟩ := zb_some h
  refine zw_xi hX dX4_isOn_5 g ?_
  refine zw_bipush (v := (50 : Int32)) hX dX4_isOn_6 (by decide) ?_
  refine zw_icmp_lt (tgt := 24) hX dX4_isOn_8 (by decide) (fun c8 => ?_) (fun c8 => ?_)
  · rw [if_pos c8] at h
    refine zw_iconst (v := (0 : Int32)) hX dX4_isOn_24 (by decide) ?_
    obtain rfl := Option.some.inj h
    exact zw_iret hX hr dX4_isOn_25 rfl ⟨rfl, rfl⟩
  · rw [if_neg c8] at h
    refine zw_aload_n hX dX4_isOn_11 rfl ?_
    refine zw_iload_n hX dX4_isOn_12 rfl ?_
    refine zw_iload_n hX dX4_isOn_13 rfl ?_
    obtain ⟨_, gi, h⟩ := zb_some h
    obtain ⟨r4, g, h⟩ := zb_some h
    refine zc_Vi (as := [.int i1, .int i2]) hX gi (zt_X4_isAsked (d := d - 1) (by omega) g) zl_X4_96 rfl dX4_isOn_14 ⟨rfl, rfl, Nat.le_of_ble_eq_true rfl⟩ ⟨by omega, by omega⟩ ?_
    refine zw_if_eq (tgt := 24) hX dX4_isOn_17 (by decide) (fun c17 => ?_) (fun c17 => ?_)
    · rw [if_pos c17] at h
      refine zw_iconst (v := (0 : Int32)) hX dX4_isOn_24 (by decide) ?_
      obtain rfl := Option.some.inj h
      exact zw_iret hX hr dX4_isOn_25 rfl ⟨rfl, rfl⟩
    · rw [if_neg c17] at h
      refine zw_iconst (v := (1 : Int32)) hX dX4_isOn_20 (by decide) ?_
      refine zw_goto (tgt := 25) hX dX4_isOn_21 (by decide) ?_
      obtain rfl := Option.some.inj h
      exact zw_iret hX hr dX4_isOn_25 rfl ⟨rfl, rfl⟩
set_option maxHeartbeats 4000000 in
set_option maxRecDepth 100000 in
theorem zt_X4_countOn_J43 {p : Program} {l : Launch} {e : Env} {R : Room} {s : State} {m : MethodId} {args : Array Value} {below : List Frame} {meth : Method} {c : Code} {V : zm_V} {mc ms d rc rs : Nat} (hX : zm_X p R s m args meth c RX4 "countOn" cX4_countOn 5 zk_E V mc ms) (hr : meth.sig.returnType = (some .int)) (hR : R.frames = d ∧ R.locals = 64 * d) (hd : 3 ≤ d) {N : Nat} {k : Nat → Int32 → Int32 → Int32 → Int32 → zm_S → Option ((Int32 × zm_S) ⊕ ((Int32) × zm_S))} {a0 : Nat} {i1 : Int32} {i2 : Int32} {i4 : Int32} {t0 : Int32} {t1 : Int32} {res : (Int32 × zm_S) ⊕ ((Int32) × zm_S)} {out : (Int32 × zm_S)}   (hf : ∀ o, res = .inl o → o = out) (hk : ∀ (x3 : Int32) (S' : zm_S), res = .inr (x3, S') → zw p l e R s m args below meth c (vx_MQ below (zm_Qc zk_E V (zo_i out)) (zm_XC zk_E V zo_x) args s mc ms (fun q => V.2.2.2.1 ≤ q)) 5 zk_E V mc ms 51 [(3, .int x3)] [] S' rc rs) (hrec : ∀ (i3' : Int32) (i4' : Int32) (S : zm_S), k a0 i1 i2 i3' i4' S = some res → zw p l e R s m args below meth c (vx_MQ below (zm_Qc zk_E V (zo_i out)) (zm_XC zk_E V zo_x) args s mc ms (fun q => V.2.2.2.1 ≤ q)) 5 zk_E V mc ms 5 [(0, .ref a0), (1, .int i1), (2, .int i2), (3, .int i3'), (4, .int i4')] [] S rc rs) {S : zm_S} (h : zf_X4_countOn_J43 N k a0 i1 i2 i4 t0 t1 S = some res) : zw p l e R s m args below meth c (vx_MQ below (zm_Qc zk_E V (zo_i out)) (zm_XC zk_E V zo_x) args s mc ms (fun q => V.2.2.2.1 ≤ q)) 5 zk_E V mc ms 43 [(0, .ref a0), (1, .int i1), (2, .int i2), (4, .int i4)] [.int t1, .int t0] S rc rs := by
  unfold zf_X4_countOn_J43 at h
  refine zw_iadd hX dX4_countOn_43 ?_
  refine zw_istore_n hX dX4_countOn_44 (by decide) ?_
  refine zw_iinc (v := (i4 + (1 : Int32))) hX dX4_countOn_45 rfl rfl (by decide) ?_
  refine zw_goto (tgt := 5) hX dX4_countOn_48 (by decide) ?_
  refine zw_sub (lv' := [(0, .ref a0), (1, .int i1), (2, .int i2), (3, .int (t0 + t1)), (4, .int (i4 + (1 : Int32)))]) (List.forall_mem_cons.mpr ⟨rfl, (List.forall_mem_cons.mpr ⟨rfl, (List.forall_mem_cons.mpr ⟨rfl, (List.forall_mem_cons.mpr ⟨rfl, (List.forall_mem_cons.mpr ⟨rfl, zs_nil⟩)⟩)⟩)⟩)⟩) ?_
  exact hrec _ _ _ h
set_option maxHeartbeats 4000000 in
set_option maxRecDepth 100000 in
theorem zt_X4_countOn_L5 {p : Program} {l : Launch} {e : Env} {R : Room} {s : State} {m : MethodId} {args : Array Value} {below : List Frame} {meth : Method} {c : Code} {V : zm_V} {mc ms d rc rs : Nat} (hX : zm_X p R s m args meth c RX4 "countOn" cX4_countOn 5 zk_E V mc ms) (hr : meth.sig.returnType = (some .int)) (hR : R.frames = d ∧ R.locals = 64 * d) (hd : 3 ≤ d) {N : Nat} {res : (Int32 × zm_S) ⊕ ((Int32) × zm_S)} {out : (Int32 × zm_S)} (a0 : Nat) (i1 : Int32) (i2 : Int32) (hf : ∀ o, res = .inl o → o = out) (hk : ∀ (x3 : Int32) (S' : zm_S), res = .inr (x3, S') → zw p l e R s m args below meth c (vx_MQ below (zm_Qc zk_E V (zo_i out)) (zm_XC zk_E V zo_x) args s mc ms (fun q => V.2.2.2.1 ≤ q)) 5 zk_E V mc ms 51 [(3, .int x3)] [] S' rc rs) : ∀ (n : Nat) (i3 : Int32) (i4 : Int32) (S : zm_S), zf_X4_countOn_L5 N n a0 i1 i2 i3 i4 S = some res → zw p l e R s m args below meth c (vx_MQ below (zm_Qc zk_E V (zo_i out)) (zm_XC zk_E V zo_x) args s mc ms (fun q => V.2.2.2.1 ≤ q)) 5 zk_E V mc ms 5 [(0, .ref a0), (1, .int i1), (2, .int i2), (3, .int i3), (4, .int i4)] [] S rc rs := by
  intro n
  induction n with
  | zero => intro i3 i4 S h; cases h
  | succ n ih =>
    intro i3 i4 S h
    rw [zf_X4_countOn_L5] at h
    refine zw_iload hX dX4_countOn_5 rfl ?_
    refine zw_aload_n hX dX4_countOn_7 rfl ?_
    obtain ⟨b1, g, h⟩ := zb_some h
    refine zw_getr hX zl_X4_26 dX4_countOn_8 g ?_
    refine zw_iload_n hX dX4_countOn_11 rfl ?_
    obtain ⟨b2, g, h⟩ := zb_some h
    refine zw_xr hX dX4_countOn_12 g ?_
    refine zw_iconst (v := (1 : Int32)) hX dX4_countOn_13 (by decide) ?_
    obtain ⟨v3, g, h⟩ := zb_some h
    refine zw_xi hX dX4_countOn_14 g ?_
    refine zw_icmp_ge (tgt := 51) hX dX4_countOn_15 (by decide) (fun c15 => ?_) (fun c15 => ?_)
    · rw [if_pos c15] at h
      refine zw_sub (lv' := [(3, .int i3)]) (List.forall_mem_cons.mpr ⟨rfl, zs_nil⟩) ?_
      exact hk _ _ (Option.some.inj h).symm
    · rw [if_neg c15] at h
      refine zw_iload_n hX dX4_countOn_18 rfl ?_
      refine zw_aload_n hX dX4_countOn_19 rfl ?_
      refine zw_aload_n hX dX4_countOn_20 rfl ?_
      obtain ⟨b4, g, h⟩ := zb_some h
      refine zw_getr hX zl_X4_26 dX4_countOn_21 g ?_
      refine zw_iload_n hX dX4_countOn_24 rfl ?_
      obtain ⟨b5, g, h⟩ := zb_some h
      refine zw_xr hX dX4_countOn_25 g ?_
      refine zw_iconst (v := (2 : Int32)) hX dX4_countOn_26 (by decide) ?_
      refine zw_iload hX dX4_countOn_27 rfl ?_
      refine zw_iadd hX dX4_countOn_29 ?_
      obtain ⟨v6, g, h⟩ := zb_some h
      refine zw_xi hX dX4_countOn_30 g ?_
      refine zw_iload_n hX dX4_countOn_31 rfl ?_
      obtain ⟨_, gi, h⟩ := zb_some h
      obtain ⟨r8, g, h⟩ := zb_some h
      refine zc_Vi (as := [.int v6, .int i2]) hX gi (zt_X4_isOn (d := d - 1) (by omega) g) zl_X4_100 rfl dX4_countOn_32 ⟨rfl, rfl, Nat.le_of_ble_eq_true rfl⟩ ⟨by omega, by omega⟩ ?_
      refine zw_if_eq (tgt := 42) hX dX4_countOn_35 (by decide) (fun c35 => ?_) (fun c35 => ?_)
      · rw [if_pos c35] at h
        refine zw_iconst (v := (0 : Int32)) hX dX4_countOn_42 (by decide) ?_
        refine zw_sub (lv' := [(0, .ref a0), (1, .int i1), (2, .int i2), (4, .int i4)]) (List.forall_mem_cons.mpr ⟨rfl, (List.forall_mem_cons.mpr ⟨rfl, (List.forall_mem_cons.mpr ⟨rfl, (List.forall_mem_cons.mpr ⟨rfl, zs_nil⟩)⟩)⟩)⟩) ?_
        exact zt_X4_countOn_J43 hX hr hR hd hf hk ih h
      · rw [if_neg c35] at h
        refine zw_iconst (v := (1 : Int32)) hX dX4_countOn_38 (by decide) ?_
        refine zw_goto (tgt := 43) hX dX4_countOn_39 (by decide) ?_
        refine zw_sub (lv' := [(0, .ref a0), (1, .int i1), (2, .int i2), (4, .int i4)]) (List.forall_mem_cons.mpr ⟨rfl, (List.forall_mem_cons.mpr ⟨rfl, (List.forall_mem_cons.mpr ⟨rfl, (List.forall_mem_cons.mpr ⟨rfl, zs_nil⟩)⟩)⟩)⟩) ?_
        exact zt_X4_countOn_J43 hX hr hR hd hf hk ih h
set_option maxHeartbeats 4000000 in
set_option maxRecDepth 100000 in
theorem zt_X4_countOn {l : Launch} {V : zm_V} {N : Nat} {S : zm_S} {out : (Int32 × zm_S)} {d : Nat} {a0 : Nat} {i1 : Int32} {i2 : Int32} (hd : 3 ≤ d) (h : zf_X4_countOn N a0 i1 i2 S = some out) : zm_Met l zk_E V yX4_countOn (.code yX4_countOn cX4_countOn 5 (some .int)) d [.ref a0, .int i1, .int i2] S 0 0 (zo_i out) zo_x := by
  refine zm_of (by decide +kernel) (Nat.le_of_ble_eq_true rfl) ?_
  intro p e R s m args below meth c hRR hX hr hxt
  have hR : R.frames = d ∧ R.locals = 64 * d := by rw [hRR]; exact ⟨rfl, rfl⟩
  have hX : zm_X p R s m args meth c RX4 "countOn" cX4_countOn 5 zk_E V 0 0 := hX
  unfold zf_X4_countOn at h
  refine zw_sub (lv' := [(0, .ref a0), (1, .int i1), (2, .int i2)]) (List.forall_mem_cons.mpr ⟨rfl, (List.forall_mem_cons.mpr ⟨rfl, (List.forall_mem_cons.mpr ⟨rfl, zs_nil⟩)⟩)⟩) ?_
  refine zw_iconst (v := (0 : Int32)) hX dX4_countOn_0 (by decide) ?_
  refine zw_istore_n hX dX4_countOn_1 (by decide) ?_
  refine zw_iconst (v := (0 : Int32)) hX dX4_countOn_2 (by decide) ?_
  refine zw_istore hX dX4_countOn_3 (by decide) ?_
  obtain ⟨r, g, h⟩ := zb_some h
  refine zw_sub (lv' := [(0, .ref a0), (1, .int i1), (2, .int i2), (3, .int (0 : Int32)), (4, .int (0 : Int32))]) (List.forall_mem_cons.mpr ⟨rfl, (List.forall_mem_cons.mpr ⟨rfl, (List.forall_mem_cons.mpr ⟨rfl, (List.forall_mem_cons.mpr ⟨rfl, (List.forall_mem_cons.mpr ⟨rfl, zs_nil⟩)⟩)⟩)⟩)⟩) ?_
  refine zt_X4_countOn_L5 hX hr hR hd (res := r) (out := out) a0 i1 i2 ?_ ?_ N _ _ _ g
  · intro o ho
    subst ho
    exact Option.some.inj h
  · intro v10 S9 hx
    subst hx
    try dsimp only at h
    refine zw_iload_n hX dX4_countOn_51 rfl ?_
    obtain rfl := Option.some.inj h
    exact zw_iret hX hr dX4_countOn_52 rfl ⟨rfl, rfl⟩
set_option maxHeartbeats 4000000 in
set_option maxRecDepth 100000 in
theorem zt_X4_countAsked_J43 {p : Program} {l : Launch} {e : Env} {R : Room} {s : State} {m : MethodId} {args : Array Value} {below : List Frame} {meth : Method} {c : Code} {V : zm_V} {mc ms d rc rs : Nat} (hX : zm_X p R s m args meth c RX4 "countAsked" cX4_countAsked 5 zk_E V mc ms) (hr : meth.sig.returnType = (some .int)) (hR : R.frames = d ∧ R.locals = 64 * d) (hd : 2 ≤ d) {N : Nat} {k : Nat → Int32 → Int32 → Int32 → Int32 → zm_S → Option ((Int32 × zm_S) ⊕ ((Int32) × zm_S))} {a0 : Nat} {i1 : Int32} {i2 : Int32} {i4 : Int32} {t0 : Int32} {t1 : Int32} {res : (Int32 × zm_S) ⊕ ((Int32) × zm_S)} {out : (Int32 × zm_S)}   (hf : ∀ o, res = .inl o → o = out) (hk : ∀ (x3 : Int32) (S' : zm_S), res = .inr (x3, S') → zw p l e R s m args below meth c (vx_MQ below (zm_Qc zk_E V (zo_i out)) (zm_XC zk_E V zo_x) args s mc ms (fun q => V.2.2.2.1 ≤ q)) 5 zk_E V mc ms 51 [(3, .int x3)] [] S' rc rs) (hrec : ∀ (i3' : Int32) (i4' : Int32) (S : zm_S), k a0 i1 i2 i3' i4' S = some res → zw p l e R s m args below meth c (vx_MQ below (zm_Qc zk_E V (zo_i out)) (zm_XC zk_E V zo_x) args s mc ms (fun q => V.2.2.2.1 ≤ q)) 5 zk_E V mc ms 5 [(0, .ref a0), (1, .int i1), (2, .int i2), (3, .int i3'), (4, .int i4')] [] S rc rs) {S : zm_S} (h : zf_X4_countAsked_J43 N k a0 i1 i2 i4 t0 t1 S = some res) : zw p l e R s m args below meth c (vx_MQ below (zm_Qc zk_E V (zo_i out)) (zm_XC zk_E V zo_x) args s mc ms (fun q => V.2.2.2.1 ≤ q)) 5 zk_E V mc ms 43 [(0, .ref a0), (1, .int i1), (2, .int i2), (4, .int i4)] [.int t1, .int t0] S rc rs := by
  unfold zf_X4_countAsked_J43 at h
  refine zw_iadd hX dX4_countAsked_43 ?_
  refine zw_istore_n hX dX4_countAsked_44 (by decide) ?_
  refine zw_iinc (v := (i4 + (1 : Int32))) hX dX4_countAsked_45 rfl rfl (by decide) ?_
  refine zw_goto (tgt := 5) hX dX4_countAsked_48 (by decide) ?_
  refine zw_sub (lv' := [(0, .ref a0), (1, .int i1), (2, .int i2), (3, .int (t0 + t1)), (4, .int (i4 + (1 : Int32)))]) (List.forall_mem_cons.mpr ⟨rfl, (List.forall_mem_cons.mpr ⟨rfl, (List.forall_mem_cons.mpr ⟨rfl, (List.forall_mem_cons.mpr ⟨rfl, (List.forall_mem_cons.mpr ⟨rfl, zs_nil⟩)⟩)⟩)⟩)⟩) ?_
  exact hrec _ _ _ h
set_option maxHeartbeats 4000000 in
set_option maxRecDepth 100000 in
theorem zt_X4_countAsked_L5 {p : Program} {l : Launch} {e : Env} {R : Room} {s : State} {m : MethodId} {args : Array Value} {below : List Frame} {meth : Method} {c : Code} {V : zm_V} {mc ms d rc rs : Nat} (hX : zm_X p R s m args meth c RX4 "countAsked" cX4_countAsked 5 zk_E V mc ms) (hr : meth.sig.returnType = (some .int)) (hR : R.frames = d ∧ R.locals = 64 * d) (hd : 2 ≤ d) {N : Nat} {res : (Int32 × zm_S) ⊕ ((Int32) × zm_S)} {out : (Int32 × zm_S)} (a0 : Nat) (i1 : Int32) (i2 : Int32) (hf : ∀ o, res = .inl o → o = out) (hk : ∀ (x3 : Int32) (S' : zm_S), res = .inr (x3, S') → zw p l e R s m args below meth c (vx_MQ below (zm_Qc zk_E V (zo_i out)) (zm_XC zk_E V zo_x) args s mc ms (fun q => V.2.2.2.1 ≤ q)) 5 zk_E V mc ms 51 [(3, .int x3)] [] S' rc rs) : ∀ (n : Nat) (i3 : Int32) (i4 : Int32) (S : zm_S), zf_X4_countAsked_L5 N n a0 i1 i2 i3 i4 S = some res → zw p l e R s m args below meth c (vx_MQ below (zm_Qc zk_E V (zo_i out)) (zm_XC zk_E V zo_x) args s mc ms (fun q => V.2.2.2.1 ≤ q)) 5 zk_E V mc ms 5 [(0, .ref a0), (1, .int i1), (2, .int i2), (3, .int i3), (4, .int i4)] [] S rc rs := by
  intro n
  induction n with
  | zero => intro i3 i4 S h; cases h
  | succ n ih =>
    intro i3 i4 S h
    rw [zf_X4_countAsked_L5] at h
    refine zw_iload hX dX4_countAsked_5 rfl ?_
    refine zw_aload_n hX dX4_countAsked_7 rfl ?_
    obtain ⟨b1, g, h⟩ := zb_some h
    refine zw_getr hX zl_X4_26 dX4_countAsked_8 g ?_
    refine zw_iload_n hX dX4_countAsked_11 rfl ?_
    obtain ⟨b2, g, h⟩ := zb_some h
    refine zw_xr hX dX4_countAsked_12 g ?_
    refine zw_iconst (v := (1 : Int32)) hX dX4_countAsked_13 (by decide) ?_
    obtain ⟨v3, g, h⟩ := zb_some h
    refine zw_xi hX dX4_countAsked_14 g ?_
    refine zw_icmp_ge (tgt := 51) hX dX4_countAsked_15 (by decide) (fun c15 => ?_) (fun c15 => ?_)
    · rw [if_pos c15] at h
      refine zw_sub (lv' := [(3, .int i3)]) (List.forall_mem_cons.mpr ⟨rfl, zs_nil⟩) ?_
      exact hk _ _ (Option.some.inj h).symm
    · rw [if_neg c15] at h
      refine zw_iload_n hX dX4_countAsked_18 rfl ?_
      refine zw_aload_n hX dX4_countAsked_19 rfl ?_
      refine zw_aload_n hX dX4_countAsked_20 rfl ?_
      obtain ⟨b4, g, h⟩ := zb_some h
      refine zw_getr hX zl_X4_26 dX4_countAsked_21 g ?_
      refine zw_iload_n hX dX4_countAsked_24 rfl ?_
      obtain ⟨b5, g, h⟩ := zb_some h
      refine zw_xr hX dX4_countAsked_25 g ?_
      refine zw_iconst (v := (2 : Int32)) hX dX4_countAsked_26 (by decide) ?_
      refine zw_iload hX dX4_countAsked_27 rfl ?_
      refine zw_iadd hX dX4_countAsked_29 ?_
      obtain ⟨v6, g, h⟩ := zb_some h
      refine zw_xi hX dX4_countAsked_30 g ?_
      refine zw_iload_n hX dX4_countAsked_31 rfl ?_
      obtain ⟨_, gi, h⟩ := zb_some h
      obtain ⟨r8, g, h⟩ := zb_some h
      refine zc_Vi (as := [.int v6, .int i2]) hX gi (zt_X4_isAsked (d := d - 1) (by omega) g) zl_X4_96 rfl dX4_countAsked_32 ⟨rfl, rfl, Nat.le_of_ble_eq_true rfl⟩ ⟨by omega, by omega⟩ ?_
      refine zw_if_eq (tgt := 42) hX dX4_countAsked_35 (by decide) (fun c35 => ?_) (fun c35 => ?_)
      · rw [if_pos c35] at h
        refine zw_iconst (v := (0 : Int32)) hX dX4_countAsked_42 (by decide) ?_
        refine zw_sub (lv' := [(0, .ref a0), (1, .int i1), (2, .int i2), (4, .int i4)]) (List.forall_mem_cons.mpr ⟨rfl, (List.forall_mem_cons.mpr ⟨rfl, (List.forall_mem_cons.mpr ⟨rfl, (List.forall_mem_cons.mpr ⟨rfl, zs_nil⟩)⟩)⟩)⟩) ?_
        exact zt_X4_countAsked_J43 hX hr hR hd hf hk ih h
      · rw [if_neg c35] at h
        refine zw_iconst (v := (1 : Int32)) hX dX4_countAsked_38 (by decide) ?_
        refine zw_goto (tgt := 43) hX dX4_countAsked_39 (by decide) ?_
        refine zw_sub (lv' := [(0, .ref a0), (1, .int i1), (2, .int i2), (4, .int i4)]) (List.forall_mem_cons.mpr ⟨rfl, (List.forall_mem_cons.mpr ⟨rfl, (List.forall_mem_cons.mpr ⟨rfl, (List.forall_mem_cons.mpr ⟨rfl, zs_nil⟩)⟩)⟩)⟩) ?_
        exact zt_X4_countAsked_J43 hX hr hR hd hf hk ih h
set_option maxHeartbeats 4000000 in
set_option maxRecDepth 100000 in
theorem zt_X4_countAsked {l : Launch} {V : zm_V} {N : Nat} {S : zm_S} {out : (Int32 × zm_S)} {d : Nat} {a0 : Nat} {i1 : Int32} {i2 : Int32} (hd : 2 ≤ d) (h : zf_X4_countAsked N a0 i1 i2 S = some out) : zm_Met l zk_E V yX4_countAsked (.code yX4_countAsked cX4_countAsked 5 (some .int)) d [.ref a0, .int i1, .int i2] S 0 0 (zo_i out) zo_x := by
  refine zm_of (by decide +kernel) (Nat.le_of_ble_eq_true rfl) ?_
  intro p e R s m args below meth c hRR hX hr hxt
  have hR : R.frames = d ∧ R.locals = 64 * d := by rw [hRR]; exact ⟨rfl, rfl⟩
  have hX : zm_X p R s m args meth c RX4 "countAsked" cX4_countAsked 5 zk_E V 0 0 := hX
  unfold zf_X4_countAsked at h
  refine zw_sub (lv' := [(0, .ref a0), (1, .int i1), (2, .int i2)]) (List.forall_mem_cons.mpr ⟨rfl, (List.forall_mem_cons.mpr ⟨rfl, (List.forall_mem_cons.mpr ⟨rfl, zs_nil⟩)⟩)⟩) ?_
  refine zw_iconst (v := (0 : Int32)) hX dX4_countAsked_0 (by decide) ?_
  refine zw_istore_n hX dX4_countAsked_1 (by decide) ?_
  refine zw_iconst (v := (0 : Int32)) hX dX4_countAsked_2 (by decide) ?_
  refine zw_istore hX dX4_countAsked_3 (by decide) ?_
  obtain ⟨r, g, h⟩ := zb_some h
  refine zw_sub (lv' := [(0, .ref a0), (1, .int i1), (2, .int i2), (3, .int (0 : Int32)), (4, .int (0 : Int32))]) (List.forall_mem_cons.mpr ⟨rfl, (List.forall_mem_cons.mpr ⟨rfl, (List.forall_mem_cons.mpr ⟨rfl, (List.forall_mem_cons.mpr ⟨rfl, (List.forall_mem_cons.mpr ⟨rfl, zs_nil⟩)⟩)⟩)⟩)⟩) ?_
  refine zt_X4_countAsked_L5 hX hr hR hd (res := r) (out := out) a0 i1 i2 ?_ ?_ N _ _ _ g
  · intro o ho
    subst ho
    exact Option.some.inj h
  · intro v10 S9 hx
    subst hx
    try dsimp only at h
    refine zw_iload_n hX dX4_countAsked_51 rfl ?_
    obtain rfl := Option.some.inj h
    exact zw_iret hX hr dX4_countAsked_52 rfl ⟨rfl, rfl⟩
set_option maxHeartbeats 4000000 in
set_option maxRecDepth 100000 in
theorem zt_X4_isSure {l : Launch} {V : zm_V} {N : Nat} {S : zm_S} {out : (Int32 × zm_S)} {d : Nat} {a0 : Nat} {i1 : Int32} {i2 : Int32} (hd : 1 ≤ d) (h : zf_X4_isSure N a0 i1 i2 S = some out) : zm_Met l zk_E V yX4_isSure (.code yX4_isSure cX4_isSure 3 (some .boolean)) d [.ref a0, .int i1, .int i2] S 0 0 (zo_i out) zo_x := by
  refine zm_of (by decide +kernel) (Nat.le_of_ble_eq_true rfl) ?_
  intro p e R s m args below meth c hRR hX hr hxt
  have hR : R.frames = d ∧ R.locals = 64 * d := by rw [hRR]; exact ⟨rfl, rfl⟩
  have hX : zm_X p R s m args meth c RX4 "isSure" cX4_isSure 3 zk_E V 0 0 := hX
  unfold zf_X4_isSure at h
  refine zw_sub (lv' := [(0, .ref a0), (1, .int i1), (2, .int i2)]) (List.forall_mem_cons.mpr ⟨rfl, (List.forall_mem_cons.mpr ⟨rfl, (List.forall_mem_cons.mpr ⟨rfl, zs_nil⟩)⟩)⟩) ?_
  refine zw_iload_n hX dX4_isSure_0 rfl ?_
  refine zw_if_le (tgt := 13) hX dX4_isSure_1 (by decide) (fun c1 => ?_) (fun c1 => ?_)
  · rw [if_pos c1] at h
    refine zw_iconst (v := (0 : Int32)) hX dX4_isSure_13 (by decide) ?_
    obtain rfl := Option.some.inj h
    exact zw_iret hX hr dX4_isSure_14 rfl ⟨rfl, rfl⟩
  · rw [if_neg c1] at h
    refine zw_iload_n hX dX4_isSure_4 rfl ?_
    refine zw_iload_n hX dX4_isSure_5 rfl ?_
    refine zw_icmp_ne (tgt := 13) hX dX4_isSure_6 (by decide) (fun c6 => ?_) (fun c6 => ?_)
    · rw [if_neg c6] at h
      refine zw_iconst (v := (0 : Int32)) hX dX4_isSure_13 (by decide) ?_
      obtain rfl := Option.some.inj h
      exact zw_iret hX hr dX4_isSure_14 rfl ⟨rfl, rfl⟩
    · rw [if_pos c6] at h
      refine zw_iconst (v := (1 : Int32)) hX dX4_isSure_9 (by decide) ?_
      refine zw_goto (tgt := 14) hX dX4_isSure_10 (by decide) ?_
      obtain rfl := Option.some.inj h
      exact zw_iret hX hr dX4_isSure_14 rfl ⟨rfl, rfl⟩
set_option maxHeartbeats 4000000 in
set_option maxRecDepth 100000 in
theorem zt_X4_lookAtZones_J48 {p : Program} {l : Launch} {e : Env} {R : Room} {s : State} {m : MethodId} {args : Array Value} {below : List Frame} {meth : Method} {c : Code} {V : zm_V} {mc ms d rc rs : Nat} (hX : zm_X p R s m args meth c RX4 "lookAtZones" cX4_lookAtZones 4 zk_E V mc ms) (hr : meth.sig.returnType = none) (hR : R.frames = d ∧ R.locals = 64 * d) (hd : 4 ≤ d) {N : Nat} {k : Nat → Int32 → Int32 → zm_S → Option ((Unit × zm_S) ⊕ ((Unit) × zm_S))} {a0 : Nat} {i1 : Int32} {i2 : Int32} {i3 : Int32} {t0 : Nat} {t1 : Int32} {t2 : Int32} {res : (Unit × zm_S) ⊕ ((Unit) × zm_S)} {out : (Unit × zm_S)}   (hf : ∀ o, res = .inl o → o = out) (hk : ∀ (S' : zm_S), res = .inr ((), S') → zw p l e R s m args below meth c (vx_MQ below (zm_Qc zk_E V (zo_v out)) (zm_XC zk_E V zo_x) args s mc ms (fun q => V.2.2.2.1 ≤ q)) 4 zk_E V mc ms 72 [] [] S' rc rs) (hrec : ∀ (i2' : Int32) (S : zm_S), k a0 i1 i2' S = some res → zw p l e R s m args below meth c (vx_MQ below (zm_Qc zk_E V (zo_v out)) (zm_XC zk_E V zo_x) args s mc ms (fun q => V.2.2.2.1 ≤ q)) 4 zk_E V mc ms 2 [(0, .ref a0), (1, .int i1), (2, .int i2')] [] S rc rs) {S : zm_S} (h : zf_X4_lookAtZones_J48 N k a0 i1 i2 i3 t0 t1 t2 S = some res) : zw p l e R s m args below meth c (vx_MQ below (zm_Qc zk_E V (zo_v out)) (zm_XC zk_E V zo_x) args s mc ms (fun q => V.2.2.2.1 ≤ q)) 4 zk_E V mc ms 48 [(0, .ref a0), (1, .int i1), (2, .int i2), (3, .int i3)] [.int t2, .int t1, .ref t0] S rc rs := by
  unfold zf_X4_lookAtZones_J48 at h
  obtain ⟨S8, g, h⟩ := zb_some h
  refine zw_sz hX dX4_lookAtZones_48 g ?_
  refine zw_aload_n hX dX4_lookAtZones_49 rfl ?_
  obtain ⟨b9, g, h⟩ := zb_some h
  refine zw_getr hX zl_X4_53 dX4_lookAtZones_50 g ?_
  refine zw_iload_n hX dX4_lookAtZones_53 rfl ?_
  refine zw_aload_n hX dX4_lookAtZones_54 rfl ?_
  refine zw_iload_n hX dX4_lookAtZones_55 rfl ?_
  refine zw_aload_n hX dX4_lookAtZones_56 rfl ?_
  refine zw_iload_n hX dX4_lookAtZones_57 rfl ?_
  refine zw_iload_n hX dX4_lookAtZones_58 rfl ?_
  obtain ⟨_, gi, h⟩ := zb_some h
  obtain ⟨r11, g, h⟩ := zb_some h
  refine zc_Vi (as := [.int i2, .int i1]) hX gi (zt_X4_countAsked (d := d - 1) (by omega) g) zl_X4_110 rfl dX4_lookAtZones_59 ⟨rfl, rfl, Nat.le_of_ble_eq_true rfl⟩ ⟨by omega, by omega⟩ ?_
  obtain ⟨_, gi, h⟩ := zb_some h
  obtain ⟨r13, g, h⟩ := zb_some h
  refine zc_Vi (as := [.int i3, .int r11.1]) hX gi (zt_X4_isSure (d := d - 1) (by omega) g) zl_X4_113 rfl dX4_lookAtZones_62 ⟨rfl, rfl, Nat.le_of_ble_eq_true rfl⟩ ⟨by omega, by omega⟩ ?_
  obtain ⟨S14, g, h⟩ := zb_some h
  refine zw_sz hX dX4_lookAtZones_65 g ?_
  refine zw_iinc (v := (i2 + (1 : Int32))) hX dX4_lookAtZones_66 rfl rfl (by decide) ?_
  refine zw_goto (tgt := 2) hX dX4_lookAtZones_69 (by decide) ?_
  refine zw_sub (lv' := [(0, .ref a0), (1, .int i1), (2, .int (i2 + (1 : Int32)))]) (List.forall_mem_cons.mpr ⟨rfl, (List.forall_mem_cons.mpr ⟨rfl, (List.forall_mem_cons.mpr ⟨rfl, zs_nil⟩)⟩)⟩) ?_
  exact hrec _ _ h
set_option maxHeartbeats 4000000 in
set_option maxRecDepth 100000 in
theorem zt_X4_lookAtZones_J47 {p : Program} {l : Launch} {e : Env} {R : Room} {s : State} {m : MethodId} {args : Array Value} {below : List Frame} {meth : Method} {c : Code} {V : zm_V} {mc ms d rc rs : Nat} (hX : zm_X p R s m args meth c RX4 "lookAtZones" cX4_lookAtZones 4 zk_E V mc ms) (hr : meth.sig.returnType = none) (hR : R.frames = d ∧ R.locals = 64 * d) (hd : 4 ≤ d) {N : Nat} {k : Nat → Int32 → Int32 → zm_S → Option ((Unit × zm_S) ⊕ ((Unit) × zm_S))} {a0 : Nat} {i1 : Int32} {i2 : Int32} {i3 : Int32} {t0 : Nat} {t1 : Int32} {res : (Unit × zm_S) ⊕ ((Unit) × zm_S)} {out : (Unit × zm_S)}   (hf : ∀ o, res = .inl o → o = out) (hk : ∀ (S' : zm_S), res = .inr ((), S') → zw p l e R s m args below meth c (vx_MQ below (zm_Qc zk_E V (zo_v out)) (zm_XC zk_E V zo_x) args s mc ms (fun q => V.2.2.2.1 ≤ q)) 4 zk_E V mc ms 72 [] [] S' rc rs) (hrec : ∀ (i2' : Int32) (S : zm_S), k a0 i1 i2' S = some res → zw p l e R s m args below meth c (vx_MQ below (zm_Qc zk_E V (zo_v out)) (zm_XC zk_E V zo_x) args s mc ms (fun q => V.2.2.2.1 ≤ q)) 4 zk_E V mc ms 2 [(0, .ref a0), (1, .int i1), (2, .int i2')] [] S rc rs) {S : zm_S} (h : zf_X4_lookAtZones_J47 N k a0 i1 i2 i3 t0 t1 S = some res) : zw p l e R s m args below meth c (vx_MQ below (zm_Qc zk_E V (zo_v out)) (zm_XC zk_E V zo_x) args s mc ms (fun q => V.2.2.2.1 ≤ q)) 4 zk_E V mc ms 47 [(0, .ref a0), (1, .int i1), (2, .int i2), (3, .int i3)] [.int t1, .ref t0] S rc rs := by
  unfold zf_X4_lookAtZones_J47 at h
  refine zw_iconst (v := (0 : Int32)) hX dX4_lookAtZones_47 (by decide) ?_
  refine zw_sub (lv' := [(0, .ref a0), (1, .int i1), (2, .int i2), (3, .int i3)]) (List.forall_mem_cons.mpr ⟨rfl, (List.forall_mem_cons.mpr ⟨rfl, (List.forall_mem_cons.mpr ⟨rfl, (List.forall_mem_cons.mpr ⟨rfl, zs_nil⟩)⟩)⟩)⟩) ?_
  exact zt_X4_lookAtZones_J48 hX hr hR hd hf hk hrec h
set_option maxHeartbeats 4000000 in
set_option maxRecDepth 100000 in
theorem zt_X4_lookAtZones_L2 {p : Program} {l : Launch} {e : Env} {R : Room} {s : State} {m : MethodId} {args : Array Value} {below : List Frame} {meth : Method} {c : Code} {V : zm_V} {mc ms d rc rs : Nat} (hX : zm_X p R s m args meth c RX4 "lookAtZones" cX4_lookAtZones 4 zk_E V mc ms) (hr : meth.sig.returnType = none) (hR : R.frames = d ∧ R.locals = 64 * d) (hd : 4 ≤ d) {N : Nat} {res : (Unit × zm_S) ⊕ ((Unit) × zm_S)} {out : (Unit × zm_S)} (a0 : Nat) (i1 : Int32) (hf : ∀ o, res = .inl o → o = out) (hk : ∀ (S' : zm_S), res = .inr ((), S') → zw p l e R s m args below meth c (vx_MQ below (zm_Qc zk_E V (zo_v out)) (zm_XC zk_E V zo_x) args s mc ms (fun q => V.2.2.2.1 ≤ q)) 4 zk_E V mc ms 72 [] [] S' rc rs) : ∀ (n : Nat) (i2 : Int32) (S : zm_S), zf_X4_lookAtZones_L2 N n a0 i1 i2 S = some res → zw p l e R s m args below meth c (vx_MQ below (zm_Qc zk_E V (zo_v out)) (zm_XC zk_E V zo_x) args s mc ms (fun q => V.2.2.2.1 ≤ q)) 4 zk_E V mc ms 2 [(0, .ref a0), (1, .int i1), (2, .int i2)] [] S rc rs := by
  intro n
  induction n with
  | zero => intro i2 S h; cases h
  | succ n ih =>
    intro i2 S h
    rw [zf_X4_lookAtZones_L2] at h
    refine zw_iload_n hX dX4_lookAtZones_2 rfl ?_
    refine zw_aload_n hX dX4_lookAtZones_3 rfl ?_
    obtain ⟨b1, g, h⟩ := zb_some h
    refine zw_getr hX zl_X4_26 dX4_lookAtZones_4 g ?_
    obtain ⟨v2, g, h⟩ := zb_some h
    refine zw_len hX dX4_lookAtZones_7 g ?_
    refine zw_icmp_ge (tgt := 72) hX dX4_lookAtZones_8 (by decide) (fun c8 => ?_) (fun c8 => ?_)
    · rw [if_pos c8] at h
      refine zw_sub (lv' := []) zs_nil ?_
      exact hk  _ (Option.some.inj h).symm
    · rw [if_neg c8] at h
      refine zw_aload_n hX dX4_lookAtZones_11 rfl ?_
      refine zw_iload_n hX dX4_lookAtZones_12 rfl ?_
      refine zw_iload_n hX dX4_lookAtZones_13 rfl ?_
      obtain ⟨_, gi, h⟩ := zb_some h
      obtain ⟨r4, g, h⟩ := zb_some h
      refine zc_Vi (as := [.int i2, .int i1]) hX gi (zt_X4_countOn (d := d - 1) (by omega) g) zl_X4_103 rfl dX4_lookAtZones_14 ⟨rfl, rfl, Nat.le_of_ble_eq_true rfl⟩ ⟨by omega, by omega⟩ ?_
      refine zw_istore_n hX dX4_lookAtZones_17 (by decide) ?_
      refine zw_aload_n hX dX4_lookAtZones_18 rfl ?_
      obtain ⟨b5, g, h⟩ := zb_some h
      refine zw_getr hX zl_X4_50 dX4_lookAtZones_19 g ?_
      refine zw_iload_n hX dX4_lookAtZones_22 rfl ?_
      refine zw_aload_n hX dX4_lookAtZones_23 rfl ?_
      refine zw_iload_n hX dX4_lookAtZones_24 rfl ?_
      obtain ⟨_, gi, h⟩ := zb_some h
      obtain ⟨r7, g, h⟩ := zb_some h
      refine zc_Vi (as := [.int i2]) hX gi (zt_X4_isZone (d := d - 1) (by omega) g) zl_X4_106 rfl dX4_lookAtZones_25 ⟨rfl, rfl, Nat.le_of_ble_eq_true rfl⟩ ⟨by omega, by omega⟩ ?_
      refine zw_if_eq (tgt := 47) hX dX4_lookAtZones_28 (by decide) (fun c28 => ?_) (fun c28 => ?_)
      · rw [if_pos c28] at h
        refine zw_sub (lv' := [(0, .ref a0), (1, .int i1), (2, .int i2), (3, .int r4.1)]) (List.forall_mem_cons.mpr ⟨rfl, (List.forall_mem_cons.mpr ⟨rfl, (List.forall_mem_cons.mpr ⟨rfl, (List.forall_mem_cons.mpr ⟨rfl, zs_nil⟩)⟩)⟩)⟩) ?_
        exact zt_X4_lookAtZones_J47 hX hr hR hd hf hk ih h
      · rw [if_neg c28] at h
        refine zw_iload_n hX dX4_lookAtZones_31 rfl ?_
        refine zw_aload_n hX dX4_lookAtZones_32 rfl ?_
        obtain ⟨b15, g, h⟩ := zb_some h
        refine zw_getr hX zl_X4_26 dX4_lookAtZones_33 g ?_
        refine zw_iload_n hX dX4_lookAtZones_36 rfl ?_
        obtain ⟨b16, g, h⟩ := zb_some h
        refine zw_xr hX dX4_lookAtZones_37 g ?_
        refine zw_iconst (v := (0 : Int32)) hX dX4_lookAtZones_38 (by decide) ?_
        obtain ⟨v17, g, h⟩ := zb_some h
        refine zw_xi hX dX4_lookAtZones_39 g ?_
        refine zw_icmp_lt (tgt := 47) hX dX4_lookAtZones_40 (by decide) (fun c40 => ?_) (fun c40 => ?_)
        · rw [if_pos c40] at h
          refine zw_sub (lv' := [(0, .ref a0), (1, .int i1), (2, .int i2), (3, .int r4.1)]) (List.forall_mem_cons.mpr ⟨rfl, (List.forall_mem_cons.mpr ⟨rfl, (List.forall_mem_cons.mpr ⟨rfl, (List.forall_mem_cons.mpr ⟨rfl, zs_nil⟩)⟩)⟩)⟩) ?_
          exact zt_X4_lookAtZones_J47 hX hr hR hd hf hk ih h
        · rw [if_neg c40] at h
          refine zw_iconst (v := (1 : Int32)) hX dX4_lookAtZones_43 (by decide) ?_
          refine zw_goto (tgt := 48) hX dX4_lookAtZones_44 (by decide) ?_
          refine zw_sub (lv' := [(0, .ref a0), (1, .int i1), (2, .int i2), (3, .int r4.1)]) (List.forall_mem_cons.mpr ⟨rfl, (List.forall_mem_cons.mpr ⟨rfl, (List.forall_mem_cons.mpr ⟨rfl, (List.forall_mem_cons.mpr ⟨rfl, zs_nil⟩)⟩)⟩)⟩) ?_
          exact zt_X4_lookAtZones_J48 hX hr hR hd hf hk ih h
set_option maxHeartbeats 4000000 in
set_option maxRecDepth 100000 in
theorem zt_X4_lookAtZones {l : Launch} {V : zm_V} {N : Nat} {S : zm_S} {out : (Unit × zm_S)} {d : Nat} {a0 : Nat} {i1 : Int32} (hd : 4 ≤ d) (h : zf_X4_lookAtZones N a0 i1 S = some out) : zm_Met l zk_E V yX4_lookAtZones (.code yX4_lookAtZones cX4_lookAtZones 4 none) d [.ref a0, .int i1] S 0 0 (zo_v out) zo_x := by
  refine zm_of (by decide +kernel) (Nat.le_of_ble_eq_true rfl) ?_
  intro p e R s m args below meth c hRR hX hr hxt
  have hR : R.frames = d ∧ R.locals = 64 * d := by rw [hRR]; exact ⟨rfl, rfl⟩
  have hX : zm_X p R s m args meth c RX4 "lookAtZones" cX4_lookAtZones 4 zk_E V 0 0 := hX
  unfold zf_X4_lookAtZones at h
  refine zw_sub (lv' := [(0, .ref a0), (1, .int i1)]) (List.forall_mem_cons.mpr ⟨rfl, (List.forall_mem_cons.mpr ⟨rfl, zs_nil⟩)⟩) ?_
  refine zw_iconst (v := (0 : Int32)) hX dX4_lookAtZones_0 (by decide) ?_
  refine zw_istore_n hX dX4_lookAtZones_1 (by decide) ?_
  obtain ⟨r, g, h⟩ := zb_some h
  refine zw_sub (lv' := [(0, .ref a0), (1, .int i1), (2, .int (0 : Int32))]) (List.forall_mem_cons.mpr ⟨rfl, (List.forall_mem_cons.mpr ⟨rfl, (List.forall_mem_cons.mpr ⟨rfl, zs_nil⟩)⟩)⟩) ?_
  refine zt_X4_lookAtZones_L2 hX hr hR hd (res := r) (out := out) a0 i1 ?_ ?_ N _ _ g
  · intro o ho
    subst ho
    exact Option.some.inj h
  · intro  S18 hx
    subst hx
    try dsimp only at h
    obtain rfl := Option.some.inj h
    exact zw_vret hX hr dX4_lookAtZones_72 ⟨rfl, rfl⟩
set_option maxHeartbeats 4000000 in
set_option maxRecDepth 100000 in
theorem zt_X4_isMet {l : Launch} {V : zm_V} {N : Nat} {S : zm_S} {out : (Int32 × zm_S)} {d : Nat} {a0 : Nat} {i1 : Int32} (hd : 1 ≤ d) (h : zf_X4_isMet N a0 i1 S = some out) : zm_Met l zk_E V yX4_isMet (.code yX4_isMet cX4_isMet 2 (some .boolean)) d [.ref a0, .int i1] S 0 0 (zo_i out) zo_x := by
  refine zm_of (by decide +kernel) (Nat.le_of_ble_eq_true rfl) ?_
  intro p e R s m args below meth c hRR hX hr hxt
  have hR : R.frames = d ∧ R.locals = 64 * d := by rw [hRR]; exact ⟨rfl, rfl⟩
  have hX : zm_X p R s m args meth c RX4 "isMet" cX4_isMet 2 zk_E V 0 0 := hX
  unfold zf_X4_isMet at h
  refine zw_sub (lv' := [(0, .ref a0), (1, .int i1)]) (List.forall_mem_cons.mpr ⟨rfl, (List.forall_mem_cons.mpr ⟨rfl, zs_nil⟩)⟩) ?_
  refine zw_aload_n hX dX4_isMet_0 rfl ?_
  obtain ⟨b1, g, h⟩ := zb_some h
  refine zw_getr hX zl_X4_50 dX4_isMet_1 g ?_
  refine zw_aload_n hX dX4_isMet_4 rfl ?_
  obtain ⟨b2, g, h⟩ := zb_some h
  refine zw_getr hX zl_X4_32 dX4_isMet_5 g ?_
  refine zw_iload_n hX dX4_isMet_8 rfl ?_
  obtain ⟨b3, g, h⟩ := zb_some h
  refine zw_xr hX dX4_isMet_9 g ?_
  refine zw_iconst (v := (0 : Int32)) hX dX4_isMet_10 (by decide) ?_
  obtain ⟨v4, g, h⟩ := zb_some h
  refine zw_xi hX dX4_isMet_11 g ?_
  obtain ⟨v5, g, h⟩ := zb_some h
  refine zw_xz hX dX4_isMet_12 g ?_
  refine zw_if_eq (tgt := 48) hX dX4_isMet_13 (by decide) (fun c13 => ?_) (fun c13 => ?_)
  · rw [if_pos c13] at h
    refine zw_iconst (v := (0 : Int32)) hX dX4_isMet_48 (by decide) ?_
    obtain rfl := Option.some.inj h
    exact zw_iret hX hr dX4_isMet_49 rfl ⟨rfl, rfl⟩
  · rw [if_neg c13] at h
    refine zw_aload_n hX dX4_isMet_16 rfl ?_
    obtain ⟨b6, g, h⟩ := zb_some h
    refine zw_getr hX zl_X4_32 dX4_isMet_17 g ?_
    refine zw_iload_n hX dX4_isMet_20 rfl ?_
    obtain ⟨b7, g, h⟩ := zb_some h
    refine zw_xr hX dX4_isMet_21 g ?_
    refine zw_iconst (v := (1 : Int32)) hX dX4_isMet_22 (by decide) ?_
    obtain ⟨v8, g, h⟩ := zb_some h
    refine zw_xi hX dX4_isMet_23 g ?_
    refine zw_iconst (v := (-1 : Int32)) hX dX4_isMet_24 (by decide) ?_
    refine zw_icmp_eq (tgt := 44) hX dX4_isMet_25 (by decide) (fun c25 => ?_) (fun c25 => ?_)
    · rw [if_pos c25] at h
      refine zw_iconst (v := (1 : Int32)) hX dX4_isMet_44 (by decide) ?_
      refine zw_goto (tgt := 49) hX dX4_isMet_45 (by decide) ?_
      obtain rfl := Option.some.inj h
      exact zw_iret hX hr dX4_isMet_49 rfl ⟨rfl, rfl⟩
    · rw [if_neg c25] at h
      refine zw_aload_n hX dX4_isMet_28 rfl ?_
      obtain ⟨b9, g, h⟩ := zb_some h
      refine zw_getr hX zl_X4_50 dX4_isMet_29 g ?_
      refine zw_aload_n hX dX4_isMet_32 rfl ?_
      obtain ⟨b10, g, h⟩ := zb_some h
      refine zw_getr hX zl_X4_32 dX4_isMet_33 g ?_
      refine zw_iload_n hX dX4_isMet_36 rfl ?_
      obtain ⟨b11, g, h⟩ := zb_some h
      refine zw_xr hX dX4_isMet_37 g ?_
      refine zw_iconst (v := (1 : Int32)) hX dX4_isMet_38 (by decide) ?_
      obtain ⟨v12, g, h⟩ := zb_some h
      refine zw_xi hX dX4_isMet_39 g ?_
      obtain ⟨v13, g, h⟩ := zb_some h
      refine zw_xz hX dX4_isMet_40 g ?_
      refine zw_if_eq (tgt := 48) hX dX4_isMet_41 (by decide) (fun c41 => ?_) (fun c41 => ?_)
      · rw [if_pos c41] at h
        refine zw_iconst (v := (0 : Int32)) hX dX4_isMet_48 (by decide) ?_
        obtain rfl := Option.some.inj h
        exact zw_iret hX hr dX4_isMet_49 rfl ⟨rfl, rfl⟩
      · rw [if_neg c41] at h
        refine zw_iconst (v := (1 : Int32)) hX dX4_isMet_44 (by decide) ?_
        refine zw_goto (tgt := 49) hX dX4_isMet_45 (by decide) ?_
        obtain rfl := Option.some.inj h
        exact zw_iret hX hr dX4_isMet_49 rfl ⟨rfl, rfl⟩
set_option maxHeartbeats 4000000 in
set_option maxRecDepth 100000 in
theorem zt_X4_isCalled_L2 {p : Program} {l : Launch} {e : Env} {R : Room} {s : State} {m : MethodId} {args : Array Value} {below : List Frame} {meth : Method} {c : Code} {V : zm_V} {mc ms d rc rs : Nat} (hX : zm_X p R s m args meth c RX4 "isCalled" cX4_isCalled 3 zk_E V mc ms) (hr : meth.sig.returnType = (some .boolean)) (hR : R.frames = d ∧ R.locals = 64 * d) (hd : 2 ≤ d) {N : Nat} {res : (Int32 × zm_S) ⊕ ((Unit) × zm_S)} {out : (Int32 × zm_S)} (a0 : Nat) (i1 : Int32) (hf : ∀ o, res = .inl o → o = out) (hk : ∀ (S' : zm_S), res = .inr ((), S') → zw p l e R s m args below meth c (vx_MQ below (zm_Qc zk_E V (zo_i out)) (zm_XC zk_E V zo_x) args s mc ms (fun q => V.2.2.2.1 ≤ q)) 3 zk_E V mc ms 38 [] [] S' rc rs) : ∀ (n : Nat) (i2 : Int32) (S : zm_S), zf_X4_isCalled_L2 N n a0 i1 i2 S = some res → zw p l e R s m args below meth c (vx_MQ below (zm_Qc zk_E V (zo_i out)) (zm_XC zk_E V zo_x) args s mc ms (fun q => V.2.2.2.1 ≤ q)) 3 zk_E V mc ms 2 [(0, .ref a0), (1, .int i1), (2, .int i2)] [] S rc rs := by
  intro n
  induction n with
  | zero => intro i2 S h; cases h
  | succ n ih =>
    intro i2 S h
    rw [zf_X4_isCalled_L2] at h
    refine zw_iload_n hX dX4_isCalled_2 rfl ?_
    refine zw_aload_n hX dX4_isCalled_3 rfl ?_
    obtain ⟨v1, g, h⟩ := zb_some h
    refine zw_geti hX zl_X4_80 dX4_isCalled_4 g ?_
    refine zw_icmp_ge (tgt := 38) hX dX4_isCalled_7 (by decide) (fun c7 => ?_) (fun c7 => ?_)
    · rw [if_pos c7] at h
      refine zw_sub (lv' := []) zs_nil ?_
      exact hk  _ (Option.some.inj h).symm
    · rw [if_neg c7] at h
      refine zw_aload_n hX dX4_isCalled_10 rfl ?_
      obtain ⟨b2, g, h⟩ := zb_some h
      refine zw_getr hX zl_X4_32 dX4_isCalled_11 g ?_
      refine zw_iload_n hX dX4_isCalled_14 rfl ?_
      obtain ⟨b3, g, h⟩ := zb_some h
      refine zw_xr hX dX4_isCalled_15 g ?_
      refine zw_iconst (v := (2 : Int32)) hX dX4_isCalled_16 (by decide) ?_
      obtain ⟨v4, g, h⟩ := zb_some h
      refine zw_xi hX dX4_isCalled_17 g ?_
      refine zw_iload_n hX dX4_isCalled_18 rfl ?_
      refine zw_icmp_ne (tgt := 32) hX dX4_isCalled_19 (by decide) (fun c19 => ?_) (fun c19 => ?_)
      · rw [if_neg c19] at h
        refine zw_iinc (v := (i2 + (1 : Int32))) hX dX4_isCalled_32 rfl rfl (by decide) ?_
        refine zw_goto (tgt := 2) hX dX4_isCalled_35 (by decide) ?_
        refine zw_sub (lv' := [(0, .ref a0), (1, .int i1), (2, .int (i2 + (1 : Int32)))]) (List.forall_mem_cons.mpr ⟨rfl, (List.forall_mem_cons.mpr ⟨rfl, (List.forall_mem_cons.mpr ⟨rfl, zs_nil⟩)⟩)⟩) ?_
        exact ih _ _ h
      · rw [if_pos c19] at h
        refine zw_aload_n hX dX4_isCalled_22 rfl ?_
        refine zw_iload_n hX dX4_isCalled_23 rfl ?_
        obtain ⟨_, gi, h⟩ := zb_some h
        obtain ⟨r6, g, h⟩ := zb_some h
        refine zc_Vi (as := [.int i2]) hX gi (zt_X4_isMet (d := d - 1) (by omega) g) zl_X4_116 rfl dX4_isCalled_24 ⟨rfl, rfl, Nat.le_of_ble_eq_true rfl⟩ ⟨by omega, by omega⟩ ?_
        refine zw_if_eq (tgt := 32) hX dX4_isCalled_27 (by decide) (fun c27 => ?_) (fun c27 => ?_)
        · rw [if_pos c27] at h
          refine zw_iinc (v := (i2 + (1 : Int32))) hX dX4_isCalled_32 rfl rfl (by decide) ?_
          refine zw_goto (tgt := 2) hX dX4_isCalled_35 (by decide) ?_
          refine zw_sub (lv' := [(0, .ref a0), (1, .int i1), (2, .int (i2 + (1 : Int32)))]) (List.forall_mem_cons.mpr ⟨rfl, (List.forall_mem_cons.mpr ⟨rfl, (List.forall_mem_cons.mpr ⟨rfl, zs_nil⟩)⟩)⟩) ?_
          exact ih _ _ h
        · rw [if_neg c27] at h
          refine zw_iconst (v := (1 : Int32)) hX dX4_isCalled_30 (by decide) ?_
          have hz := hf _ (Option.some.inj h).symm
          subst hz
          exact zw_iret hX hr dX4_isCalled_31 rfl ⟨rfl, rfl⟩
set_option maxHeartbeats 4000000 in
set_option maxRecDepth 100000 in
theorem zt_X4_isCalled {l : Launch} {V : zm_V} {N : Nat} {S : zm_S} {out : (Int32 × zm_S)} {d : Nat} {a0 : Nat} {i1 : Int32} (hd : 2 ≤ d) (h : zf_X4_isCalled N a0 i1 S = some out) : zm_Met l zk_E V yX4_isCalled (.code yX4_isCalled cX4_isCalled 3 (some .boolean)) d [.ref a0, .int i1] S 0 0 (zo_i out) zo_x := by
  refine zm_of (by decide +kernel) (Nat.le_of_ble_eq_true rfl) ?_
  intro p e R s m args below meth c hRR hX hr hxt
  have hR : R.frames = d ∧ R.locals = 64 * d := by rw [hRR]; exact ⟨rfl, rfl⟩
  have hX : zm_X p R s m args meth c RX4 "isCalled" cX4_isCalled 3 zk_E V 0 0 := hX
  unfold zf_X4_isCalled at h
  refine zw_sub (lv' := [(0, .ref a0), (1, .int i1)]) (List.forall_mem_cons.mpr ⟨rfl, (List.forall_mem_cons.mpr ⟨rfl, zs_nil⟩)⟩) ?_
  refine zw_iconst (v := (0 : Int32)) hX dX4_isCalled_0 (by decide) ?_
  refine zw_istore_n hX dX4_isCalled_1 (by decide) ?_
  obtain ⟨r, g, h⟩ := zb_some h
  refine zw_sub (lv' := [(0, .ref a0), (1, .int i1), (2, .int (0 : Int32))]) (List.forall_mem_cons.mpr ⟨rfl, (List.forall_mem_cons.mpr ⟨rfl, (List.forall_mem_cons.mpr ⟨rfl, zs_nil⟩)⟩)⟩) ?_
  refine zt_X4_isCalled_L2 hX hr hR hd (res := r) (out := out) a0 i1 ?_ ?_ N _ _ g
  · intro o ho
    subst ho
    exact Option.some.inj h
  · intro  S7 hx
    subst hx
    try dsimp only at h
    refine zw_iconst (v := (0 : Int32)) hX dX4_isCalled_38 (by decide) ?_
    obtain rfl := Option.some.inj h
    exact zw_iret hX hr dX4_isCalled_39 rfl ⟨rfl, rfl⟩
set_option maxHeartbeats 4000000 in
set_option maxRecDepth 100000 in
theorem zt_X4_isSurelyCalled_J59 {p : Program} {l : Launch} {e : Env} {R : Room} {s : State} {m : MethodId} {args : Array Value} {below : List Frame} {meth : Method} {c : Code} {V : zm_V} {mc ms d rc rs : Nat} (hX : zm_X p R s m args meth c RX4 "isSurelyCalled" cX4_isSurelyCalled 4 zk_E V mc ms) (hr : meth.sig.returnType = (some .boolean)) (hR : R.frames = d ∧ R.locals = 64 * d) (hd : 2 ≤ d) {N : Nat} {k : Nat → Int32 → Int32 → zm_S → Option ((Int32 × zm_S) ⊕ ((Unit) × zm_S))} {a0 : Nat} {i1 : Int32} {i2 : Int32} {t0 : Int32} {res : (Int32 × zm_S) ⊕ ((Unit) × zm_S)} {out : (Int32 × zm_S)}   (hf : ∀ o, res = .inl o → o = out) (hk : ∀ (S' : zm_S), res = .inr ((), S') → zw p l e R s m args below meth c (vx_MQ below (zm_Qc zk_E V (zo_i out)) (zm_XC zk_E V zo_x) args s mc ms (fun q => V.2.2.2.1 ≤ q)) 4 zk_E V mc ms 92 [] [] S' rc rs) (hrec : ∀ (i2' : Int32) (S : zm_S), k a0 i1 i2' S = some res → zw p l e R s m args below meth c (vx_MQ below (zm_Qc zk_E V (zo_i out)) (zm_XC zk_E V zo_x) args s mc ms (fun q => V.2.2.2.1 ≤ q)) 4 zk_E V mc ms 2 [(0, .ref a0), (1, .int i1), (2, .int i2')] [] S rc rs) {S : zm_S} (h : zf_X4_isSurelyCalled_J59 N k a0 i1 i2 t0 S = some res) : zw p l e R s m args below meth c (vx_MQ below (zm_Qc zk_E V (zo_i out)) (zm_XC zk_E V zo_x) args s mc ms (fun q => V.2.2.2.1 ≤ q)) 4 zk_E V mc ms 59 [(0, .ref a0), (1, .int i1), (2, .int i2)] [.int t0] S rc rs := by
  unfold zf_X4_isSurelyCalled_J59 at h
  refine zw_istore_n hX dX4_isSurelyCalled_59 (by decide) ?_
  refine zw_aload_n hX dX4_isSurelyCalled_60 rfl ?_
  obtain ⟨b7, g, h⟩ := zb_some h
  refine zw_getr hX zl_X4_32 dX4_isSurelyCalled_61 g ?_
  refine zw_iload_n hX dX4_isSurelyCalled_64 rfl ?_
  obtain ⟨b8, g, h⟩ := zb_some h
  refine zw_xr hX dX4_isSurelyCalled_65 g ?_
  refine zw_iconst (v := (2 : Int32)) hX dX4_isSurelyCalled_66 (by decide) ?_
  obtain ⟨v9, g, h⟩ := zb_some h
  refine zw_xi hX dX4_isSurelyCalled_67 g ?_
  refine zw_iload_n hX dX4_isSurelyCalled_68 rfl ?_
  refine zw_icmp_ne (tgt := 86) hX dX4_isSurelyCalled_69 (by decide) (fun c69 => ?_) (fun c69 => ?_)
  · rw [if_neg c69] at h
    refine zw_iinc (v := (i2 + (1 : Int32))) hX dX4_isSurelyCalled_86 rfl rfl (by decide) ?_
    refine zw_goto (tgt := 2) hX dX4_isSurelyCalled_89 (by decide) ?_
    refine zw_sub (lv' := [(0, .ref a0), (1, .int i1), (2, .int (i2 + (1 : Int32)))]) (List.forall_mem_cons.mpr ⟨rfl, (List.forall_mem_cons.mpr ⟨rfl, (List.forall_mem_cons.mpr ⟨rfl, zs_nil⟩)⟩)⟩) ?_
    exact hrec _ _ h
  · rw [if_pos c69] at h
    refine zw_aload_n hX dX4_isSurelyCalled_72 rfl ?_
    refine zw_iload_n hX dX4_isSurelyCalled_73 rfl ?_
    obtain ⟨_, gi, h⟩ := zb_some h
    obtain ⟨r11, g, h⟩ := zb_some h
    refine zc_Vi (as := [.int i2]) hX gi (zt_X4_isMet (d := d - 1) (by omega) g) zl_X4_116 rfl dX4_isSurelyCalled_74 ⟨rfl, rfl, Nat.le_of_ble_eq_true rfl⟩ ⟨by omega, by omega⟩ ?_
    refine zw_if_eq (tgt := 86) hX dX4_isSurelyCalled_77 (by decide) (fun c77 => ?_) (fun c77 => ?_)
    · rw [if_pos c77] at h
      refine zw_iinc (v := (i2 + (1 : Int32))) hX dX4_isSurelyCalled_86 rfl rfl (by decide) ?_
      refine zw_goto (tgt := 2) hX dX4_isSurelyCalled_89 (by decide) ?_
      refine zw_sub (lv' := [(0, .ref a0), (1, .int i1), (2, .int (i2 + (1 : Int32)))]) (List.forall_mem_cons.mpr ⟨rfl, (List.forall_mem_cons.mpr ⟨rfl, (List.forall_mem_cons.mpr ⟨rfl, zs_nil⟩)⟩)⟩) ?_
      exact hrec _ _ h
    · rw [if_neg c77] at h
      refine zw_iload_n hX dX4_isSurelyCalled_80 rfl ?_
      refine zw_if_eq (tgt := 86) hX dX4_isSurelyCalled_81 (by decide) (fun c81 => ?_) (fun c81 => ?_)
      · rw [if_pos c81] at h
        refine zw_iinc (v := (i2 + (1 : Int32))) hX dX4_isSurelyCalled_86 rfl rfl (by decide) ?_
        refine zw_goto (tgt := 2) hX dX4_isSurelyCalled_89 (by decide) ?_
        refine zw_sub (lv' := [(0, .ref a0), (1, .int i1), (2, .int (i2 + (1 : Int32)))]) (List.forall_mem_cons.mpr ⟨rfl, (List.forall_mem_cons.mpr ⟨rfl, (List.forall_mem_cons.mpr ⟨rfl, zs_nil⟩)⟩)⟩) ?_
        exact hrec _ _ h
      · rw [if_neg c81] at h
        refine zw_iconst (v := (1 : Int32)) hX dX4_isSurelyCalled_84 (by decide) ?_
        have hz := hf _ (Option.some.inj h).symm
        subst hz
        exact zw_iret hX hr dX4_isSurelyCalled_85 rfl ⟨rfl, rfl⟩
set_option maxHeartbeats 4000000 in
set_option maxRecDepth 100000 in
theorem zt_X4_isSurelyCalled_J54 {p : Program} {l : Launch} {e : Env} {R : Room} {s : State} {m : MethodId} {args : Array Value} {below : List Frame} {meth : Method} {c : Code} {V : zm_V} {mc ms d rc rs : Nat} (hX : zm_X p R s m args meth c RX4 "isSurelyCalled" cX4_isSurelyCalled 4 zk_E V mc ms) (hr : meth.sig.returnType = (some .boolean)) (hR : R.frames = d ∧ R.locals = 64 * d) (hd : 2 ≤ d) {N : Nat} {k : Nat → Int32 → Int32 → zm_S → Option ((Int32 × zm_S) ⊕ ((Unit) × zm_S))} {a0 : Nat} {i1 : Int32} {i2 : Int32} {res : (Int32 × zm_S) ⊕ ((Unit) × zm_S)} {out : (Int32 × zm_S)}   (hf : ∀ o, res = .inl o → o = out) (hk : ∀ (S' : zm_S), res = .inr ((), S') → zw p l e R s m args below meth c (vx_MQ below (zm_Qc zk_E V (zo_i out)) (zm_XC zk_E V zo_x) args s mc ms (fun q => V.2.2.2.1 ≤ q)) 4 zk_E V mc ms 92 [] [] S' rc rs) (hrec : ∀ (i2' : Int32) (S : zm_S), k a0 i1 i2' S = some res → zw p l e R s m args below meth c (vx_MQ below (zm_Qc zk_E V (zo_i out)) (zm_XC zk_E V zo_x) args s mc ms (fun q => V.2.2.2.1 ≤ q)) 4 zk_E V mc ms 2 [(0, .ref a0), (1, .int i1), (2, .int i2')] [] S rc rs) {S : zm_S} (h : zf_X4_isSurelyCalled_J54 N k a0 i1 i2 S = some res) : zw p l e R s m args below meth c (vx_MQ below (zm_Qc zk_E V (zo_i out)) (zm_XC zk_E V zo_x) args s mc ms (fun q => V.2.2.2.1 ≤ q)) 4 zk_E V mc ms 54 [(0, .ref a0), (1, .int i1), (2, .int i2)] [] S rc rs := by
  unfold zf_X4_isSurelyCalled_J54 at h
  refine zw_iconst (v := (1 : Int32)) hX dX4_isSurelyCalled_54 (by decide) ?_
  refine zw_goto (tgt := 59) hX dX4_isSurelyCalled_55 (by decide) ?_
  refine zw_sub (lv' := [(0, .ref a0), (1, .int i1), (2, .int i2)]) (List.forall_mem_cons.mpr ⟨rfl, (List.forall_mem_cons.mpr ⟨rfl, (List.forall_mem_cons.mpr ⟨rfl, zs_nil⟩)⟩)⟩) ?_
  exact zt_X4_isSurelyCalled_J59 hX hr hR hd hf hk hrec h
set_option maxHeartbeats 4000000 in
set_option maxRecDepth 100000 in
theorem zt_X4_isSurelyCalled_J58 {p : Program} {l : Launch} {e : Env} {R : Room} {s : State} {m : MethodId} {args : Array Value} {below : List Frame} {meth : Method} {c : Code} {V : zm_V} {mc ms d rc rs : Nat} (hX : zm_X p R s m args meth c RX4 "isSurelyCalled" cX4_isSurelyCalled 4 zk_E V mc ms) (hr : meth.sig.returnType = (some .boolean)) (hR : R.frames = d ∧ R.locals = 64 * d) (hd : 2 ≤ d) {N : Nat} {k : Nat → Int32 → Int32 → zm_S → Option ((Int32 × zm_S) ⊕ ((Unit) × zm_S))} {a0 : Nat} {i1 : Int32} {i2 : Int32} {res : (Int32 × zm_S) ⊕ ((Unit) × zm_S)} {out : (Int32 × zm_S)}   (hf : ∀ o, res = .inl o → o = out) (hk : ∀ (S' : zm_S), res = .inr ((), S') → zw p l e R s m args below meth c (vx_MQ below (zm_Qc zk_E V (zo_i out)) (zm_XC zk_E V zo_x) args s mc ms (fun q => V.2.2.2.1 ≤ q)) 4 zk_E V mc ms 92 [] [] S' rc rs) (hrec : ∀ (i2' : Int32) (S : zm_S), k a0 i1 i2' S = some res → zw p l e R s m args below meth c (vx_MQ below (zm_Qc zk_E V (zo_i out)) (zm_XC zk_E V zo_x) args s mc ms (fun q => V.2.2.2.1 ≤ q)) 4 zk_E V mc ms 2 [(0, .ref a0), (1, .int i1), (2, .int i2')] [] S rc rs) {S : zm_S} (h : zf_X4_isSurelyCalled_J58 N k a0 i1 i2 S = some res) : zw p l e R s m args below meth c (vx_MQ below (zm_Qc zk_E V (zo_i out)) (zm_XC zk_E V zo_x) args s mc ms (fun q => V.2.2.2.1 ≤ q)) 4 zk_E V mc ms 58 [(0, .ref a0), (1, .int i1), (2, .int i2)] [] S rc rs := by
  unfold zf_X4_isSurelyCalled_J58 at h
  refine zw_iconst (v := (0 : Int32)) hX dX4_isSurelyCalled_58 (by decide) ?_
  refine zw_sub (lv' := [(0, .ref a0), (1, .int i1), (2, .int i2)]) (List.forall_mem_cons.mpr ⟨rfl, (List.forall_mem_cons.mpr ⟨rfl, (List.forall_mem_cons.mpr ⟨rfl, zs_nil⟩)⟩)⟩) ?_
  exact zt_X4_isSurelyCalled_J59 hX hr hR hd hf hk hrec h
set_option maxHeartbeats 4000000 in
set_option maxRecDepth 100000 in
theorem zt_X4_isSurelyCalled_L2 {p : Program} {l : Launch} {e : Env} {R : Room} {s : State} {m : MethodId} {args : Array Value} {below : List Frame} {meth : Method} {c : Code} {V : zm_V} {mc ms d rc rs : Nat} (hX : zm_X p R s m args meth c RX4 "isSurelyCalled" cX4_isSurelyCalled 4 zk_E V mc ms) (hr : meth.sig.returnType = (some .boolean)) (hR : R.frames = d ∧ R.locals = 64 * d) (hd : 2 ≤ d) {N : Nat} {res : (Int32 × zm_S) ⊕ ((Unit) × zm_S)} {out : (Int32 × zm_S)} (a0 : Nat) (i1 : Int32) (hf : ∀ o, res = .inl o → o = out) (hk : ∀ (S' : zm_S), res = .inr ((), S') → zw p l e R s m args below meth c (vx_MQ below (zm_Qc zk_E V (zo_i out)) (zm_XC zk_E V zo_x) args s mc ms (fun q => V.2.2.2.1 ≤ q)) 4 zk_E V mc ms 92 [] [] S' rc rs) : ∀ (n : Nat) (i2 : Int32) (S : zm_S), zf_X4_isSurelyCalled_L2 N n a0 i1 i2 S = some res → zw p l e R s m args below meth c (vx_MQ below (zm_Qc zk_E V (zo_i out)) (zm_XC zk_E V zo_x) args s mc ms (fun q => V.2.2.2.1 ≤ q)) 4 zk_E V mc ms 2 [(0, .ref a0), (1, .int i1), (2, .int i2)] [] S rc rs := by
  intro n
  induction n with
  | zero => intro i2 S h; cases h
  | succ n ih =>
    intro i2 S h
    rw [zf_X4_isSurelyCalled_L2] at h
    refine zw_iload_n hX dX4_isSurelyCalled_2 rfl ?_
    refine zw_aload_n hX dX4_isSurelyCalled_3 rfl ?_
    obtain ⟨v1, g, h⟩ := zb_some h
    refine zw_geti hX zl_X4_80 dX4_isSurelyCalled_4 g ?_
    refine zw_icmp_ge (tgt := 92) hX dX4_isSurelyCalled_7 (by decide) (fun c7 => ?_) (fun c7 => ?_)
    · rw [if_pos c7] at h
      refine zw_sub (lv' := []) zs_nil ?_
      exact hk  _ (Option.some.inj h).symm
    · rw [if_neg c7] at h
      refine zw_aload_n hX dX4_isSurelyCalled_10 rfl ?_
      obtain ⟨b2, g, h⟩ := zb_some h
      refine zw_getr hX zl_X4_53 dX4_isSurelyCalled_11 g ?_
      refine zw_aload_n hX dX4_isSurelyCalled_14 rfl ?_
      obtain ⟨b3, g, h⟩ := zb_some h
      refine zw_getr hX zl_X4_32 dX4_isSurelyCalled_15 g ?_
      refine zw_iload_n hX dX4_isSurelyCalled_18 rfl ?_
      obtain ⟨b4, g, h⟩ := zb_some h
      refine zw_xr hX dX4_isSurelyCalled_19 g ?_
      refine zw_iconst (v := (0 : Int32)) hX dX4_isSurelyCalled_20 (by decide) ?_
      obtain ⟨v5, g, h⟩ := zb_some h
      refine zw_xi hX dX4_isSurelyCalled_21 g ?_
      obtain ⟨v6, g, h⟩ := zb_some h
      refine zw_xz hX dX4_isSurelyCalled_22 g ?_
      refine zw_if_ne (tgt := 54) hX dX4_isSurelyCalled_23 (by decide) (fun c23 => ?_) (fun c23 => ?_)
      · rw [if_neg c23] at h
        refine zw_sub (lv' := [(0, .ref a0), (1, .int i1), (2, .int i2)]) (List.forall_mem_cons.mpr ⟨rfl, (List.forall_mem_cons.mpr ⟨rfl, (List.forall_mem_cons.mpr ⟨rfl, zs_nil⟩)⟩)⟩) ?_
        exact zt_X4_isSurelyCalled_J54 hX hr hR hd hf hk ih h
      · rw [if_pos c23] at h
        refine zw_aload_n hX dX4_isSurelyCalled_26 rfl ?_
        obtain ⟨b12, g, h⟩ := zb_some h
        refine zw_getr hX zl_X4_32 dX4_isSurelyCalled_27 g ?_
        refine zw_iload_n hX dX4_isSurelyCalled_30 rfl ?_
        obtain ⟨b13, g, h⟩ := zb_some h
        refine zw_xr hX dX4_isSurelyCalled_31 g ?_
        refine zw_iconst (v := (1 : Int32)) hX dX4_isSurelyCalled_32 (by decide) ?_
        obtain ⟨v14, g, h⟩ := zb_some h
        refine zw_xi hX dX4_isSurelyCalled_33 g ?_
        refine zw_iconst (v := (-1 : Int32)) hX dX4_isSurelyCalled_34 (by decide) ?_
        refine zw_icmp_eq (tgt := 58) hX dX4_isSurelyCalled_35 (by decide) (fun c35 => ?_) (fun c35 => ?_)
        · rw [if_pos c35] at h
          refine zw_sub (lv' := [(0, .ref a0), (1, .int i1), (2, .int i2)]) (List.forall_mem_cons.mpr ⟨rfl, (List.forall_mem_cons.mpr ⟨rfl, (List.forall_mem_cons.mpr ⟨rfl, zs_nil⟩)⟩)⟩) ?_
          exact zt_X4_isSurelyCalled_J58 hX hr hR hd hf hk ih h
        · rw [if_neg c35] at h
          refine zw_aload_n hX dX4_isSurelyCalled_38 rfl ?_
          obtain ⟨b15, g, h⟩ := zb_some h
          refine zw_getr hX zl_X4_53 dX4_isSurelyCalled_39 g ?_
          refine zw_aload_n hX dX4_isSurelyCalled_42 rfl ?_
          obtain ⟨b16, g, h⟩ := zb_some h
          refine zw_getr hX zl_X4_32 dX4_isSurelyCalled_43 g ?_
          refine zw_iload_n hX dX4_isSurelyCalled_46 rfl ?_
          obtain ⟨b17, g, h⟩ := zb_some h
          refine zw_xr hX dX4_isSurelyCalled_47 g ?_
          refine zw_iconst (v := (1 : Int32)) hX dX4_isSurelyCalled_48 (by decide) ?_
          obtain ⟨v18, g, h⟩ := zb_some h
          refine zw_xi hX dX4_isSurelyCalled_49 g ?_
          obtain ⟨v19, g, h⟩ := zb_some h
          refine zw_xz hX dX4_isSurelyCalled_50 g ?_
          refine zw_if_eq (tgt := 58) hX dX4_isSurelyCalled_51 (by decide) (fun c51 => ?_) (fun c51 => ?_)
          · rw [if_pos c51] at h
            refine zw_sub (lv' := [(0, .ref a0), (1, .int i1), (2, .int i2)]) (List.forall_mem_cons.mpr ⟨rfl, (List.forall_mem_cons.mpr ⟨rfl, (List.forall_mem_cons.mpr ⟨rfl, zs_nil⟩)⟩)⟩) ?_
            exact zt_X4_isSurelyCalled_J58 hX hr hR hd hf hk ih h
          · rw [if_neg c51] at h
            refine zw_sub (lv' := [(0, .ref a0), (1, .int i1), (2, .int i2)]) (List.forall_mem_cons.mpr ⟨rfl, (List.forall_mem_cons.mpr ⟨rfl, (List.forall_mem_cons.mpr ⟨rfl, zs_nil⟩)⟩)⟩) ?_
            exact zt_X4_isSurelyCalled_J54 hX hr hR hd hf hk ih h
set_option maxHeartbeats 4000000 in
set_option maxRecDepth 100000 in
theorem zt_X4_isSurelyCalled {l : Launch} {V : zm_V} {N : Nat} {S : zm_S} {out : (Int32 × zm_S)} {d : Nat} {a0 : Nat} {i1 : Int32} (hd : 2 ≤ d) (h : zf_X4_isSurelyCalled N a0 i1 S = some out) : zm_Met l zk_E V yX4_isSurelyCalled (.code yX4_isSurelyCalled cX4_isSurelyCalled 4 (some .boolean)) d [.ref a0, .int i1] S 0 0 (zo_i out) zo_x := by
  refine zm_of (by decide +kernel) (Nat.le_of_ble_eq_true rfl) ?_
  intro p e R s m args below meth c hRR hX hr hxt
  have hR : R.frames = d ∧ R.locals = 64 * d := by rw [hRR]; exact ⟨rfl, rfl⟩
  have hX : zm_X p R s m args meth c RX4 "isSurelyCalled" cX4_isSurelyCalled 4 zk_E V 0 0 := hX
  unfold zf_X4_isSurelyCalled at h
  refine zw_sub (lv' := [(0, .ref a0), (1, .int i1)]) (List.forall_mem_cons.mpr ⟨rfl, (List.forall_mem_cons.mpr ⟨rfl, zs_nil⟩)⟩) ?_
  refine zw_iconst (v := (0 : Int32)) hX dX4_isSurelyCalled_0 (by decide) ?_
  refine zw_istore_n hX dX4_isSurelyCalled_1 (by decide) ?_
  obtain ⟨r, g, h⟩ := zb_some h
  refine zw_sub (lv' := [(0, .ref a0), (1, .int i1), (2, .int (0 : Int32))]) (List.forall_mem_cons.mpr ⟨rfl, (List.forall_mem_cons.mpr ⟨rfl, (List.forall_mem_cons.mpr ⟨rfl, zs_nil⟩)⟩)⟩) ?_
  refine zt_X4_isSurelyCalled_L2 hX hr hR hd (res := r) (out := out) a0 i1 ?_ ?_ N _ _ g
  · intro o ho
    subst ho
    exact Option.some.inj h
  · intro  S20 hx
    subst hx
    try dsimp only at h
    refine zw_iconst (v := (0 : Int32)) hX dX4_isSurelyCalled_92 (by decide) ?_
    obtain rfl := Option.some.inj h
    exact zw_iret hX hr dX4_isSurelyCalled_93 rfl ⟨rfl, rfl⟩
set_option maxHeartbeats 4000000 in
set_option maxRecDepth 100000 in
theorem zt_X4_setDone_J104 {p : Program} {l : Launch} {e : Env} {R : Room} {s : State} {m : MethodId} {args : Array Value} {below : List Frame} {meth : Method} {c : Code} {V : zm_V} {mc ms d rc rs : Nat} (hX : zm_X p R s m args meth c RX4 "setDone" cX4_setDone 5 zk_E V mc ms) (hr : meth.sig.returnType = none) (hR : R.frames = d ∧ R.locals = 64 * d) (hd : 3 ≤ d) {N : Nat} {a0 : Nat} {i1 : Int32} {a4 : Nat} {out : (Unit × zm_S)} {S : zm_S} (h : zf_X4_setDone_J104 N a0 i1 a4 S = some out) : zw p l e R s m args below meth c (vx_MQ below (zm_Qc zk_E V (zo_v out)) (zm_XC zk_E V zo_x) args s mc ms (fun q => V.2.2.2.1 ≤ q)) 5 zk_E V mc ms 104 [(0, .ref a0), (1, .int i1), (4, .ref a4)] [] S rc rs := by
  unfold zf_X4_setDone_J104 at h
  refine zw_aload_n hX dX4_setDone_104 rfl ?_
  obtain ⟨b14, g, h⟩ := zb_some h
  refine zw_getr hX zl_X4_29 dX4_setDone_105 g ?_
  refine zw_iload_n hX dX4_setDone_108 rfl ?_
  obtain ⟨b15, g, h⟩ := zb_some h
  refine zw_xr hX dX4_setDone_109 g ?_
  refine zw_iconst (v := (1 : Int32)) hX dX4_setDone_110 (by decide) ?_
  obtain ⟨v16, g, h⟩ := zb_some h
  refine zw_xi hX dX4_setDone_111 g ?_
  refine zw_iconst (v := (3 : Int32)) hX dX4_setDone_112 (by decide) ?_
  refine zw_icmp_ne (tgt := 134) hX dX4_setDone_113 (by decide) (fun c113 => ?_) (fun c113 => ?_)
  · rw [if_neg c113] at h
    obtain rfl := Option.some.inj h
    exact zw_vret hX hr dX4_setDone_134 ⟨rfl, rfl⟩
  · rw [if_pos c113] at h
    refine zw_aload_n hX dX4_setDone_116 rfl ?_
    obtain ⟨b17, g, h⟩ := zb_some h
    refine zw_getr hX zl_X4_59 dX4_setDone_117 g ?_
    obtain ⟨b18, g, h⟩ := zb_some h
    refine zw_getNr hX zl_X4_155 dX4_setDone_120 g ?_
    refine zw_iconst (v := (4 : Int32)) hX dX4_setDone_123 (by decide) ?_
    refine zw_iload_n hX dX4_setDone_124 rfl ?_
    refine zw_bipush (v := (6 : Int32)) hX dX4_setDone_125 (by decide) ?_
    refine zw_irem hX dX4_setDone_127 (by decide) ?_
    refine zw_iadd hX dX4_setDone_128 ?_
    refine zw_aload hX dX4_setDone_129 rfl ?_
    refine zw_iconst (v := (2 : Int32)) hX dX4_setDone_131 (by decide) ?_
    obtain ⟨v19, g, h⟩ := zb_some h
    refine zw_xi hX dX4_setDone_132 g ?_
    obtain ⟨S20, g, h⟩ := zb_some h
    refine zw_si hX dX4_setDone_133 g ?_
    obtain rfl := Option.some.inj h
    exact zw_vret hX hr dX4_setDone_134 ⟨rfl, rfl⟩
set_option maxHeartbeats 4000000 in
set_option maxRecDepth 100000 in
theorem zt_X4_setDone_J51 {p : Program} {l : Launch} {e : Env} {R : Room} {s : State} {m : MethodId} {args : Array Value} {below : List Frame} {meth : Method} {c : Code} {V : zm_V} {mc ms d rc rs : Nat} (hX : zm_X p R s m args meth c RX4 "setDone" cX4_setDone 5 zk_E V mc ms) (hr : meth.sig.returnType = none) (hR : R.frames = d ∧ R.locals = 64 * d) (hd : 3 ≤ d) {N : Nat} {a0 : Nat} {i1 : Int32} {a4 : Nat} {t0 : Nat} {t1 : Int32} {t2 : Int32} {out : (Unit × zm_S)} {S : zm_S} (h : zf_X4_setDone_J51 N a0 i1 a4 t0 t1 t2 S = some out) : zw p l e R s m args below meth c (vx_MQ below (zm_Qc zk_E V (zo_v out)) (zm_XC zk_E V zo_x) args s mc ms (fun q => V.2.2.2.1 ≤ q)) 5 zk_E V mc ms 51 [(0, .ref a0), (1, .int i1), (4, .ref a4)] [.int t2, .int t1, .ref t0] S rc rs := by
  unfold zf_X4_setDone_J51 at h
  obtain ⟨S8, g, h⟩ := zb_some h
  refine zw_si hX dX4_setDone_51 g ?_
  refine zw_aload_n hX dX4_setDone_52 rfl ?_
  refine zw_dup hX dX4_setDone_53 rfl ?_
  obtain ⟨v9, g, h⟩ := zb_some h
  refine zw_geti hX zl_X4_143 dX4_setDone_54 g ?_
  refine zw_iconst (v := (1 : Int32)) hX dX4_setDone_57 (by decide) ?_
  refine zw_iadd hX dX4_setDone_58 ?_
  obtain ⟨S10, g, h⟩ := zb_some h
  refine zw_putv hX zl_X4_143 zt_4_17 dX4_setDone_59 rfl rfl g ?_
  refine zw_aload_n hX dX4_setDone_62 rfl ?_
  obtain ⟨b11, g, h⟩ := zb_some h
  refine zw_getr hX zl_X4_29 dX4_setDone_63 g ?_
  refine zw_iload_n hX dX4_setDone_66 rfl ?_
  obtain ⟨b12, g, h⟩ := zb_some h
  refine zw_xr hX dX4_setDone_67 g ?_
  refine zw_iconst (v := (1 : Int32)) hX dX4_setDone_68 (by decide) ?_
  obtain ⟨v13, g, h⟩ := zb_some h
  refine zw_xi hX dX4_setDone_69 g ?_
  refine zw_iconst (v := (2 : Int32)) hX dX4_setDone_70 (by decide) ?_
  refine zw_icmp_ne (tgt := 104) hX dX4_setDone_71 (by decide) (fun c71 => ?_) (fun c71 => ?_)
  · rw [if_neg c71] at h
    refine zw_sub (lv' := [(0, .ref a0), (1, .int i1), (4, .ref a4)]) (List.forall_mem_cons.mpr ⟨rfl, (List.forall_mem_cons.mpr ⟨rfl, (List.forall_mem_cons.mpr ⟨rfl, zs_nil⟩)⟩)⟩) ?_
    exact zt_X4_setDone_J104 hX hr hR hd h
  · rw [if_pos c71] at h
    refine zw_aload_n hX dX4_setDone_74 rfl ?_
    obtain ⟨b21, g, h⟩ := zb_some h
    refine zw_getr hX zl_X4_63 dX4_setDone_75 g ?_
    refine zw_bipush (v := (7 : Int32)) hX dX4_setDone_78 (by decide) ?_
    obtain ⟨_, gi, h⟩ := zb_some h
    obtain ⟨r23, g, h⟩ := zb_some h
    refine zc_Vi (as := [.int (7 : Int32)]) hX gi (zt_X1_hasRoomInQueue (d := d - 1) (by omega) g) zl_X4_146 rfl dX4_setDone_80 ⟨rfl, rfl, Nat.le_of_ble_eq_true rfl⟩ ⟨by omega, by omega⟩ ?_
    refine zw_if_eq (tgt := 104) hX dX4_setDone_83 (by decide) (fun c83 => ?_) (fun c83 => ?_)
    · rw [if_pos c83] at h
      refine zw_sub (lv' := [(0, .ref a0), (1, .int i1), (4, .ref a4)]) (List.forall_mem_cons.mpr ⟨rfl, (List.forall_mem_cons.mpr ⟨rfl, (List.forall_mem_cons.mpr ⟨rfl, zs_nil⟩)⟩)⟩) ?_
      exact zt_X4_setDone_J104 hX hr hR hd h
    · rw [if_neg c83] at h
      refine zw_aload_n hX dX4_setDone_86 rfl ?_
      obtain ⟨b24, g, h⟩ := zb_some h
      refine zw_getr hX zl_X4_63 dX4_setDone_87 g ?_
      refine zw_bipush (v := (7 : Int32)) hX dX4_setDone_90 (by decide) ?_
      refine zw_iconst (v := (0 : Int32)) hX dX4_setDone_92 (by decide) ?_
      refine zw_iload_n hX dX4_setDone_93 rfl ?_
      refine zw_iconst (v := (1 : Int32)) hX dX4_setDone_94 (by decide) ?_
      refine zw_iconst (v := (2 : Int32)) hX dX4_setDone_95 (by decide) ?_
      refine zw_aload hX dX4_setDone_96 rfl ?_
      refine zw_iconst (v := (2 : Int32)) hX dX4_setDone_98 (by decide) ?_
      obtain ⟨v25, g, h⟩ := zb_some h
      refine zw_xi hX dX4_setDone_99 g ?_
      obtain ⟨_, gi, h⟩ := zb_some h
      obtain ⟨r27, g, h⟩ := zb_some h
      refine zc_Vi (as := [.int (7 : Int32), .int (0 : Int32), .int i1, .int (1 : Int32), .int (2 : Int32), .int v25]) hX gi (zt_X1_enqueue (d := d - 1) (by omega) g) zl_X4_151 rfl dX4_setDone_100 ⟨rfl, rfl, Nat.le_of_ble_eq_true rfl⟩ ⟨by omega, by omega⟩ ?_
      refine zw_pop hX dX4_setDone_103 rfl ?_
      refine zw_sub (lv' := [(0, .ref a0), (1, .int i1), (4, .ref a4)]) (List.forall_mem_cons.mpr ⟨rfl, (List.forall_mem_cons.mpr ⟨rfl, (List.forall_mem_cons.mpr ⟨rfl, zs_nil⟩)⟩)⟩) ?_
      exact zt_X4_setDone_J104 hX hr hR hd h
set_option maxHeartbeats 4000000 in
set_option maxRecDepth 100000 in
theorem zt_X4_setDone_J14 {p : Program} {l : Launch} {e : Env} {R : Room} {s : State} {m : MethodId} {args : Array Value} {below : List Frame} {meth : Method} {c : Code} {V : zm_V} {mc ms d rc rs : Nat} (hX : zm_X p R s m args meth c RX4 "setDone" cX4_setDone 5 zk_E V mc ms) (hr : meth.sig.returnType = none) (hR : R.frames = d ∧ R.locals = 64 * d) (hd : 3 ≤ d) {N : Nat} {a0 : Nat} {i1 : Int32} {i2 : Int32} {i3 : Int32} {t0 : Nat} {t1 : Int32} {t2 : Int32} {out : (Unit × zm_S)} {S : zm_S} (h : zf_X4_setDone_J14 N a0 i1 i2 i3 t0 t1 t2 S = some out) : zw p l e R s m args below meth c (vx_MQ below (zm_Qc zk_E V (zo_v out)) (zm_XC zk_E V zo_x) args s mc ms (fun q => V.2.2.2.1 ≤ q)) 5 zk_E V mc ms 14 [(0, .ref a0), (1, .int i1), (2, .int i2), (3, .int i3)] [.int t2, .int t1, .ref t0] S rc rs := by
  unfold zf_X4_setDone_J14 at h
  obtain ⟨S2, g, h⟩ := zb_some h
  refine zw_si hX dX4_setDone_14 g ?_
  refine zw_aload_n hX dX4_setDone_15 rfl ?_
  obtain ⟨b3, g, h⟩ := zb_some h
  refine zw_getr hX zl_X4_56 dX4_setDone_16 g ?_
  refine zw_aload_n hX dX4_setDone_19 rfl ?_
  obtain ⟨v4, g, h⟩ := zb_some h
  refine zw_geti hX zl_X4_143 dX4_setDone_20 g ?_
  refine zw_bipush (v := (60 : Int32)) hX dX4_setDone_23 (by decide) ?_
  refine zw_irem hX dX4_setDone_25 (by decide) ?_
  obtain ⟨b5, g, h⟩ := zb_some h
  refine zw_xr hX dX4_setDone_26 g ?_
  refine zw_astore hX dX4_setDone_27 (by decide) ?_
  refine zw_aload hX dX4_setDone_29 rfl ?_
  refine zw_iconst (v := (0 : Int32)) hX dX4_setDone_31 (by decide) ?_
  refine zw_iload_n hX dX4_setDone_32 rfl ?_
  obtain ⟨S6, g, h⟩ := zb_some h
  refine zw_si hX dX4_setDone_33 g ?_
  refine zw_aload hX dX4_setDone_34 rfl ?_
  refine zw_iconst (v := (1 : Int32)) hX dX4_setDone_36 (by decide) ?_
  refine zw_iload_n hX dX4_setDone_37 rfl ?_
  obtain ⟨S7, g, h⟩ := zb_some h
  refine zw_si hX dX4_setDone_38 g ?_
  refine zw_aload hX dX4_setDone_39 rfl ?_
  refine zw_iconst (v := (2 : Int32)) hX dX4_setDone_41 (by decide) ?_
  refine zw_iload_n hX dX4_setDone_42 rfl ?_
  refine zw_if_eq (tgt := 50) hX dX4_setDone_43 (by decide) (fun c43 => ?_) (fun c43 => ?_)
  · rw [if_pos c43] at h
    refine zw_iconst (v := (0 : Int32)) hX dX4_setDone_50 (by decide) ?_
    refine zw_sub (lv' := [(0, .ref a0), (1, .int i1), (4, .ref b5)]) (List.forall_mem_cons.mpr ⟨rfl, (List.forall_mem_cons.mpr ⟨rfl, (List.forall_mem_cons.mpr ⟨rfl, zs_nil⟩)⟩)⟩) ?_
    exact zt_X4_setDone_J51 hX hr hR hd h
  · rw [if_neg c43] at h
    refine zw_iconst (v := (1 : Int32)) hX dX4_setDone_46 (by decide) ?_
    refine zw_goto (tgt := 51) hX dX4_setDone_47 (by decide) ?_
    refine zw_sub (lv' := [(0, .ref a0), (1, .int i1), (4, .ref b5)]) (List.forall_mem_cons.mpr ⟨rfl, (List.forall_mem_cons.mpr ⟨rfl, (List.forall_mem_cons.mpr ⟨rfl, zs_nil⟩)⟩)⟩) ?_
    exact zt_X4_setDone_J51 hX hr hR hd h
set_option maxHeartbeats 4000000 in
set_option maxRecDepth 100000 in
theorem zt_X4_setDone {l : Launch} {V : zm_V} {N : Nat} {S : zm_S} {out : (Unit × zm_S)} {d : Nat} {a0 : Nat} {i1 : Int32} {i2 : Int32} {i3 : Int32} (hd : 3 ≤ d) (h : zf_X4_setDone N a0 i1 i2 i3 S = some out) : zm_Met l zk_E V yX4_setDone (.code yX4_setDone cX4_setDone 5 none) d [.ref a0, .int i1, .int i2, .int i3] S 0 0 (zo_v out) zo_x := by
  refine zm_of (by decide +kernel) (Nat.le_of_ble_eq_true rfl) ?_
  intro p e R s m args below meth c hRR hX hr hxt
  have hR : R.frames = d ∧ R.locals = 64 * d := by rw [hRR]; exact ⟨rfl, rfl⟩
  have hX : zm_X p R s m args meth c RX4 "setDone" cX4_setDone 5 zk_E V 0 0 := hX
  unfold zf_X4_setDone at h
  refine zw_sub (lv' := [(0, .ref a0), (1, .int i1), (2, .int i2), (3, .int i3)]) (List.forall_mem_cons.mpr ⟨rfl, (List.forall_mem_cons.mpr ⟨rfl, (List.forall_mem_cons.mpr ⟨rfl, (List.forall_mem_cons.mpr ⟨rfl, zs_nil⟩)⟩)⟩)⟩) ?_
  refine zw_aload_n hX dX4_setDone_0 rfl ?_
  obtain ⟨b1, g, h⟩ := zb_some h
  refine zw_getr hX zl_X4_38 dX4_setDone_1 g ?_
  refine zw_iload_n hX dX4_setDone_4 rfl ?_
  refine zw_iload_n hX dX4_setDone_5 rfl ?_
  refine zw_if_eq (tgt := 13) hX dX4_setDone_6 (by decide) (fun c6 => ?_) (fun c6 => ?_)
  · rw [if_pos c6] at h
    refine zw_iconst (v := (0 : Int32)) hX dX4_setDone_13 (by decide) ?_
    refine zw_sub (lv' := [(0, .ref a0), (1, .int i1), (2, .int i2), (3, .int i3)]) (List.forall_mem_cons.mpr ⟨rfl, (List.forall_mem_cons.mpr ⟨rfl, (List.forall_mem_cons.mpr ⟨rfl, (List.forall_mem_cons.mpr ⟨rfl, zs_nil⟩)⟩)⟩)⟩) ?_
    exact zt_X4_setDone_J14 hX hr hR hd h
  · rw [if_neg c6] at h
    refine zw_iconst (v := (2 : Int32)) hX dX4_setDone_9 (by decide) ?_
    refine zw_goto (tgt := 14) hX dX4_setDone_10 (by decide) ?_
    refine zw_sub (lv' := [(0, .ref a0), (1, .int i1), (2, .int i2), (3, .int i3)]) (List.forall_mem_cons.mpr ⟨rfl, (List.forall_mem_cons.mpr ⟨rfl, (List.forall_mem_cons.mpr ⟨rfl, (List.forall_mem_cons.mpr ⟨rfl, zs_nil⟩)⟩)⟩)⟩) ?_
    exact zt_X4_setDone_J14 hX hr hR hd h
set_option maxHeartbeats 4000000 in
set_option maxRecDepth 100000 in
theorem zt_X4_isDue {l : Launch} {V : zm_V} {N : Nat} {S : zm_S} {out : (Int32 × zm_S)} {d : Nat} {a0 : Nat} {i1 : Int32} {i2 : Int32} (hd : 3 ≤ d) (h : zf_X4_isDue N a0 i1 i2 S = some out) : zm_Met l zk_E V yX4_isDue (.code yX4_isDue cX4_isDue 3 (some .boolean)) d [.ref a0, .int i1, .int i2] S 0 0 (zo_i out) zo_x := by
  refine zm_of (by decide +kernel) (Nat.le_of_ble_eq_true rfl) ?_
  intro p e R s m args below meth c hRR hX hr hxt
  have hR : R.frames = d ∧ R.locals = 64 * d := by rw [hRR]; exact ⟨rfl, rfl⟩
  have hX : zm_X p R s m args meth c RX4 "isDue" cX4_isDue 3 zk_E V 0 0 := hX
  unfold zf_X4_isDue at h
  refine zw_sub (lv' := [(0, .ref a0), (1, .int i1), (2, .int i2)]) (List.forall_mem_cons.mpr ⟨rfl, (List.forall_mem_cons.mpr ⟨rfl, (List.forall_mem_cons.mpr ⟨rfl, zs_nil⟩)⟩)⟩) ?_
  refine zw_aload_n hX dX4_isDue_0 rfl ?_
  obtain ⟨b1, g, h⟩ := zb_some h
  refine zw_getr hX zl_X4_47 dX4_isDue_1 g ?_
  refine zw_iload_n hX dX4_isDue_4 rfl ?_
  obtain ⟨v2, g, h⟩ := zb_some h
  refine zw_xz hX dX4_isDue_5 g ?_
  refine zw_if_ne (tgt := 36) hX dX4_isDue_6 (by decide) (fun c6 => ?_) (fun c6 => ?_)
  · rw [if_neg c6] at h
    refine zw_iconst (v := (1 : Int32)) hX dX4_isDue_36 (by decide) ?_
    refine zw_goto (tgt := 41) hX dX4_isDue_37 (by decide) ?_
    obtain rfl := Option.some.inj h
    exact zw_iret hX hr dX4_isDue_41 rfl ⟨rfl, rfl⟩
  · rw [if_pos c6] at h
    refine zw_iload_n hX dX4_isDue_9 rfl ?_
    refine zw_aload_n hX dX4_isDue_10 rfl ?_
    obtain ⟨b3, g, h⟩ := zb_some h
    refine zw_getr hX zl_X4_41 dX4_isDue_11 g ?_
    refine zw_iload_n hX dX4_isDue_14 rfl ?_
    obtain ⟨v4, g, h⟩ := zb_some h
    refine zw_xi hX dX4_isDue_15 g ?_
    refine zw_aload_n hX dX4_isDue_16 rfl ?_
    obtain ⟨b5, g, h⟩ := zb_some h
    refine zw_getr hX zl_X4_29 dX4_isDue_17 g ?_
    refine zw_iload_n hX dX4_isDue_20 rfl ?_
    obtain ⟨b6, g, h⟩ := zb_some h
    refine zw_xr hX dX4_isDue_21 g ?_
    refine zw_iconst (v := (3 : Int32)) hX dX4_isDue_22 (by decide) ?_
    obtain ⟨v7, g, h⟩ := zb_some h
    refine zw_xi hX dX4_isDue_23 g ?_
    refine zw_iadd hX dX4_isDue_24 ?_
    refine zw_icmp_ge (tgt := 36) hX dX4_isDue_25 (by decide) (fun c25 => ?_) (fun c25 => ?_)
    · rw [if_pos c25] at h
      refine zw_iconst (v := (1 : Int32)) hX dX4_isDue_36 (by decide) ?_
      refine zw_goto (tgt := 41) hX dX4_isDue_37 (by decide) ?_
      obtain rfl := Option.some.inj h
      exact zw_iret hX hr dX4_isDue_41 rfl ⟨rfl, rfl⟩
    · rw [if_neg c25] at h
      refine zw_aload_n hX dX4_isDue_28 rfl ?_
      refine zw_iload_n hX dX4_isDue_29 rfl ?_
      obtain ⟨_, gi, h⟩ := zb_some h
      obtain ⟨r9, g, h⟩ := zb_some h
      refine zc_Vi (as := [.int i1]) hX gi (zt_X4_isSurelyCalled (d := d - 1) (by omega) g) zl_X4_140 rfl dX4_isDue_30 ⟨rfl, rfl, Nat.le_of_ble_eq_true rfl⟩ ⟨by omega, by omega⟩ ?_
      refine zw_if_eq (tgt := 40) hX dX4_isDue_33 (by decide) (fun c33 => ?_) (fun c33 => ?_)
      · rw [if_pos c33] at h
        refine zw_iconst (v := (0 : Int32)) hX dX4_isDue_40 (by decide) ?_
        obtain rfl := Option.some.inj h
        exact zw_iret hX hr dX4_isDue_41 rfl ⟨rfl, rfl⟩
      · rw [if_neg c33] at h
        refine zw_iconst (v := (1 : Int32)) hX dX4_isDue_36 (by decide) ?_
        refine zw_goto (tgt := 41) hX dX4_isDue_37 (by decide) ?_
        obtain rfl := Option.some.inj h
        exact zw_iret hX hr dX4_isDue_41 rfl ⟨rfl, rfl⟩
set_option maxHeartbeats 4000000 in
set_option maxRecDepth 100000 in
theorem zt_X4_runAct_J106 {p : Program} {l : Launch} {e : Env} {R : Room} {s : State} {m : MethodId} {args : Array Value} {below : List Frame} {meth : Method} {c : Code} {V : zm_V} {mc ms d rc rs : Nat} (hX : zm_X p R s m args meth c RX4 "runAct" cX4_runAct 4 zk_E V mc ms) (hr : meth.sig.returnType = none) (hR : R.frames = d ∧ R.locals = 64 * d) (hd : 4 ≤ d) {N : Nat} {a0 : Nat} {i1 : Int32} {i2 : Int32} {out : (Unit × zm_S)} {S : zm_S} (h : zf_X4_runAct_J106 N a0 i1 i2 S = some out) : zw p l e R s m args below meth c (vx_MQ below (zm_Qc zk_E V (zo_v out)) (zm_XC zk_E V zo_x) args s mc ms (fun q => V.2.2.2.1 ≤ q)) 4 zk_E V mc ms 106 [(0, .ref a0), (1, .int i1), (2, .int i2)] [] S rc rs := by
  unfold zf_X4_runAct_J106 at h
  refine zw_aload_n hX dX4_runAct_106 rfl ?_
  obtain ⟨b9, g, h⟩ := zb_some h
  refine zw_getr hX zl_X4_38 dX4_runAct_107 g ?_
  refine zw_iload_n hX dX4_runAct_110 rfl ?_
  obtain ⟨v10, g, h⟩ := zb_some h
  refine zw_xi hX dX4_runAct_111 g ?_
  refine zw_iconst (v := (1 : Int32)) hX dX4_runAct_112 (by decide) ?_
  refine zw_icmp_ne (tgt := 132) hX dX4_runAct_113 (by decide) (fun c113 => ?_) (fun c113 => ?_)
  · rw [if_neg c113] at h
    obtain rfl := Option.some.inj h
    exact zw_vret hX hr dX4_runAct_132 ⟨rfl, rfl⟩
  · rw [if_pos c113] at h
    refine zw_aload_n hX dX4_runAct_116 rfl ?_
    refine zw_iload_n hX dX4_runAct_117 rfl ?_
    refine zw_iload_n hX dX4_runAct_118 rfl ?_
    obtain ⟨_, gi, h⟩ := zb_some h
    obtain ⟨r12, g, h⟩ := zb_some h
    refine zc_Vi (as := [.int i1, .int i2]) hX gi (zt_X4_isDue (d := d - 1) (by omega) g) zl_X4_137 rfl dX4_runAct_119 ⟨rfl, rfl, Nat.le_of_ble_eq_true rfl⟩ ⟨by omega, by omega⟩ ?_
    refine zw_if_eq (tgt := 132) hX dX4_runAct_122 (by decide) (fun c122 => ?_) (fun c122 => ?_)
    · rw [if_pos c122] at h
      obtain rfl := Option.some.inj h
      exact zw_vret hX hr dX4_runAct_132 ⟨rfl, rfl⟩
    · rw [if_neg c122] at h
      refine zw_aload_n hX dX4_runAct_125 rfl ?_
      refine zw_iload_n hX dX4_runAct_126 rfl ?_
      refine zw_iconst (v := (1 : Int32)) hX dX4_runAct_127 (by decide) ?_
      refine zw_iload_n hX dX4_runAct_128 rfl ?_
      obtain ⟨_, gi, h⟩ := zb_some h
      obtain ⟨r14, g, h⟩ := zb_some h
      refine zc_Vv (as := [.int i1, .int (1 : Int32), .int i2]) hX gi (zt_X4_setDone (d := d - 1) (by omega) g) zl_X4_133 rfl dX4_runAct_129 ⟨rfl, rfl, Nat.le_of_ble_eq_true rfl⟩ ⟨by omega, by omega⟩ ?_
      obtain rfl := Option.some.inj h
      exact zw_vret hX hr dX4_runAct_132 ⟨rfl, rfl⟩
set_option maxHeartbeats 4000000 in
set_option maxRecDepth 100000 in
theorem zt_X4_runAct_J74 {p : Program} {l : Launch} {e : Env} {R : Room} {s : State} {m : MethodId} {args : Array Value} {below : List Frame} {meth : Method} {c : Code} {V : zm_V} {mc ms d rc rs : Nat} (hX : zm_X p R s m args meth c RX4 "runAct" cX4_runAct 4 zk_E V mc ms) (hr : meth.sig.returnType = none) (hR : R.frames = d ∧ R.locals = 64 * d) (hd : 4 ≤ d) {N : Nat} {a0 : Nat} {i1 : Int32} {i2 : Int32} {i3 : Int32} {out : (Unit × zm_S)} {S : zm_S} (h : zf_X4_runAct_J74 N a0 i1 i2 i3 S = some out) : zw p l e R s m args below meth c (vx_MQ below (zm_Qc zk_E V (zo_v out)) (zm_XC zk_E V zo_x) args s mc ms (fun q => V.2.2.2.1 ≤ q)) 4 zk_E V mc ms 74 [(0, .ref a0), (1, .int i1), (2, .int i2), (3, .int i3)] [] S rc rs := by
  unfold zf_X4_runAct_J74 at h
  refine zw_aload_n hX dX4_runAct_74 rfl ?_
  obtain ⟨b7, g, h⟩ := zb_some h
  refine zw_getr hX zl_X4_38 dX4_runAct_75 g ?_
  refine zw_iload_n hX dX4_runAct_78 rfl ?_
  obtain ⟨v8, g, h⟩ := zb_some h
  refine zw_xi hX dX4_runAct_79 g ?_
  refine zw_iconst (v := (2 : Int32)) hX dX4_runAct_80 (by decide) ?_
  refine zw_icmp_ne (tgt := 106) hX dX4_runAct_81 (by decide) (fun c81 => ?_) (fun c81 => ?_)
  · rw [if_neg c81] at h
    refine zw_sub (lv' := [(0, .ref a0), (1, .int i1), (2, .int i2)]) (List.forall_mem_cons.mpr ⟨rfl, (List.forall_mem_cons.mpr ⟨rfl, (List.forall_mem_cons.mpr ⟨rfl, zs_nil⟩)⟩)⟩) ?_
    exact zt_X4_runAct_J106 hX hr hR hd h
  · rw [if_pos c81] at h
    refine zw_iload_n hX dX4_runAct_84 rfl ?_
    refine zw_if_ne (tgt := 106) hX dX4_runAct_85 (by decide) (fun c85 => ?_) (fun c85 => ?_)
    · rw [if_neg c85] at h
      refine zw_sub (lv' := [(0, .ref a0), (1, .int i1), (2, .int i2)]) (List.forall_mem_cons.mpr ⟨rfl, (List.forall_mem_cons.mpr ⟨rfl, (List.forall_mem_cons.mpr ⟨rfl, zs_nil⟩)⟩)⟩) ?_
      exact zt_X4_runAct_J106 hX hr hR hd h
    · rw [if_pos c85] at h
      refine zw_aload_n hX dX4_runAct_88 rfl ?_
      obtain ⟨b15, g, h⟩ := zb_some h
      refine zw_getr hX zl_X4_29 dX4_runAct_89 g ?_
      refine zw_iload_n hX dX4_runAct_92 rfl ?_
      obtain ⟨b16, g, h⟩ := zb_some h
      refine zw_xr hX dX4_runAct_93 g ?_
      refine zw_iconst (v := (4 : Int32)) hX dX4_runAct_94 (by decide) ?_
      obtain ⟨v17, g, h⟩ := zb_some h
      refine zw_xi hX dX4_runAct_95 g ?_
      refine zw_if_ne (tgt := 106) hX dX4_runAct_96 (by decide) (fun c96 => ?_) (fun c96 => ?_)
      · rw [if_neg c96] at h
        refine zw_sub (lv' := [(0, .ref a0), (1, .int i1), (2, .int i2)]) (List.forall_mem_cons.mpr ⟨rfl, (List.forall_mem_cons.mpr ⟨rfl, (List.forall_mem_cons.mpr ⟨rfl, zs_nil⟩)⟩)⟩) ?_
        exact zt_X4_runAct_J106 hX hr hR hd h
      · rw [if_pos c96] at h
        refine zw_aload_n hX dX4_runAct_99 rfl ?_
        refine zw_iload_n hX dX4_runAct_100 rfl ?_
        refine zw_iconst (v := (0 : Int32)) hX dX4_runAct_101 (by decide) ?_
        refine zw_iload_n hX dX4_runAct_102 rfl ?_
        obtain ⟨_, gi, h⟩ := zb_some h
        obtain ⟨r19, g, h⟩ := zb_some h
        refine zc_Vv (as := [.int i1, .int (0 : Int32), .int i2]) hX gi (zt_X4_setDone (d := d - 1) (by omega) g) zl_X4_133 rfl dX4_runAct_103 ⟨rfl, rfl, Nat.le_of_ble_eq_true rfl⟩ ⟨by omega, by omega⟩ ?_
        refine zw_sub (lv' := [(0, .ref a0), (1, .int i1), (2, .int i2)]) (List.forall_mem_cons.mpr ⟨rfl, (List.forall_mem_cons.mpr ⟨rfl, (List.forall_mem_cons.mpr ⟨rfl, zs_nil⟩)⟩)⟩) ?_
        exact zt_X4_runAct_J106 hX hr hR hd h
set_option maxHeartbeats 4000000 in
set_option maxRecDepth 100000 in
theorem zt_X4_runAct_J50 {p : Program} {l : Launch} {e : Env} {R : Room} {s : State} {m : MethodId} {args : Array Value} {below : List Frame} {meth : Method} {c : Code} {V : zm_V} {mc ms d rc rs : Nat} (hX : zm_X p R s m args meth c RX4 "runAct" cX4_runAct 4 zk_E V mc ms) (hr : meth.sig.returnType = none) (hR : R.frames = d ∧ R.locals = 64 * d) (hd : 4 ≤ d) {N : Nat} {a0 : Nat} {i1 : Int32} {i2 : Int32} {i3 : Int32} {out : (Unit × zm_S)} {S : zm_S} (h : zf_X4_runAct_J50 N a0 i1 i2 i3 S = some out) : zw p l e R s m args below meth c (vx_MQ below (zm_Qc zk_E V (zo_v out)) (zm_XC zk_E V zo_x) args s mc ms (fun q => V.2.2.2.1 ≤ q)) 4 zk_E V mc ms 50 [(0, .ref a0), (1, .int i1), (2, .int i2), (3, .int i3)] [] S rc rs := by
  unfold zf_X4_runAct_J50 at h
  refine zw_aload_n hX dX4_runAct_50 rfl ?_
  obtain ⟨b5, g, h⟩ := zb_some h
  refine zw_getr hX zl_X4_38 dX4_runAct_51 g ?_
  refine zw_iload_n hX dX4_runAct_54 rfl ?_
  obtain ⟨v6, g, h⟩ := zb_some h
  refine zw_xi hX dX4_runAct_55 g ?_
  refine zw_iconst (v := (1 : Int32)) hX dX4_runAct_56 (by decide) ?_
  refine zw_icmp_ne (tgt := 74) hX dX4_runAct_57 (by decide) (fun c57 => ?_) (fun c57 => ?_)
  · rw [if_neg c57] at h
    refine zw_sub (lv' := [(0, .ref a0), (1, .int i1), (2, .int i2), (3, .int i3)]) (List.forall_mem_cons.mpr ⟨rfl, (List.forall_mem_cons.mpr ⟨rfl, (List.forall_mem_cons.mpr ⟨rfl, (List.forall_mem_cons.mpr ⟨rfl, zs_nil⟩)⟩)⟩)⟩) ?_
    exact zt_X4_runAct_J74 hX hr hR hd h
  · rw [if_pos c57] at h
    refine zw_iload_n hX dX4_runAct_60 rfl ?_
    refine zw_if_ne (tgt := 74) hX dX4_runAct_61 (by decide) (fun c61 => ?_) (fun c61 => ?_)
    · rw [if_neg c61] at h
      refine zw_sub (lv' := [(0, .ref a0), (1, .int i1), (2, .int i2), (3, .int i3)]) (List.forall_mem_cons.mpr ⟨rfl, (List.forall_mem_cons.mpr ⟨rfl, (List.forall_mem_cons.mpr ⟨rfl, (List.forall_mem_cons.mpr ⟨rfl, zs_nil⟩)⟩)⟩)⟩) ?_
      exact zt_X4_runAct_J74 hX hr hR hd h
    · rw [if_pos c61] at h
      refine zw_aload_n hX dX4_runAct_64 rfl ?_
      obtain ⟨b20, g, h⟩ := zb_some h
      refine zw_getr hX zl_X4_38 dX4_runAct_65 g ?_
      refine zw_iload_n hX dX4_runAct_68 rfl ?_
      refine zw_iconst (v := (0 : Int32)) hX dX4_runAct_69 (by decide) ?_
      obtain ⟨S21, g, h⟩ := zb_some h
      refine zw_si hX dX4_runAct_70 g ?_
      refine zw_goto (tgt := 106) hX dX4_runAct_71 (by decide) ?_
      refine zw_sub (lv' := [(0, .ref a0), (1, .int i1), (2, .int i2)]) (List.forall_mem_cons.mpr ⟨rfl, (List.forall_mem_cons.mpr ⟨rfl, (List.forall_mem_cons.mpr ⟨rfl, zs_nil⟩)⟩)⟩) ?_
      exact zt_X4_runAct_J106 hX hr hR hd h
set_option maxHeartbeats 4000000 in
set_option maxRecDepth 100000 in
theorem zt_X4_runAct {l : Launch} {V : zm_V} {N : Nat} {S : zm_S} {out : (Unit × zm_S)} {d : Nat} {a0 : Nat} {i1 : Int32} {i2 : Int32} (hd : 4 ≤ d) (h : zf_X4_runAct N a0 i1 i2 S = some out) : zm_Met l zk_E V yX4_runAct (.code yX4_runAct cX4_runAct 4 none) d [.ref a0, .int i1, .int i2] S 0 0 (zo_v out) zo_x := by
  refine zm_of (by decide +kernel) (Nat.le_of_ble_eq_true rfl) ?_
  intro p e R s m args below meth c hRR hX hr hxt
  have hR : R.frames = d ∧ R.locals = 64 * d := by rw [hRR]; exact ⟨rfl, rfl⟩
  have hX : zm_X p R s m args meth c RX4 "runAct" cX4_runAct 4 zk_E V 0 0 := hX
  unfold zf_X4_runAct at h
  refine zw_sub (lv' := [(0, .ref a0), (1, .int i1), (2, .int i2)]) (List.forall_mem_cons.mpr ⟨rfl, (List.forall_mem_cons.mpr ⟨rfl, (List.forall_mem_cons.mpr ⟨rfl, zs_nil⟩)⟩)⟩) ?_
  refine zw_aload_n hX dX4_runAct_0 rfl ?_
  refine zw_iload_n hX dX4_runAct_1 rfl ?_
  obtain ⟨_, gi, h⟩ := zb_some h
  obtain ⟨r2, g, h⟩ := zb_some h
  refine zc_Vi (as := [.int i1]) hX gi (zt_X4_isCalled (d := d - 1) (by omega) g) zl_X4_130 rfl dX4_runAct_2 ⟨rfl, rfl, Nat.le_of_ble_eq_true rfl⟩ ⟨by omega, by omega⟩ ?_
  refine zw_istore_n hX dX4_runAct_5 (by decide) ?_
  refine zw_aload_n hX dX4_runAct_6 rfl ?_
  obtain ⟨b3, g, h⟩ := zb_some h
  refine zw_getr hX zl_X4_38 dX4_runAct_7 g ?_
  refine zw_iload_n hX dX4_runAct_10 rfl ?_
  obtain ⟨v4, g, h⟩ := zb_some h
  refine zw_xi hX dX4_runAct_11 g ?_
  refine zw_if_ne (tgt := 50) hX dX4_runAct_12 (by decide) (fun c12 => ?_) (fun c12 => ?_)
  · rw [if_neg c12] at h
    refine zw_sub (lv' := [(0, .ref a0), (1, .int i1), (2, .int i2), (3, .int r2.1)]) (List.forall_mem_cons.mpr ⟨rfl, (List.forall_mem_cons.mpr ⟨rfl, (List.forall_mem_cons.mpr ⟨rfl, (List.forall_mem_cons.mpr ⟨rfl, zs_nil⟩)⟩)⟩)⟩) ?_
    exact zt_X4_runAct_J50 hX hr hR hd h
  · rw [if_pos c12] at h
    refine zw_iload_n hX dX4_runAct_15 rfl ?_
    refine zw_if_eq (tgt := 50) hX dX4_runAct_16 (by decide) (fun c16 => ?_) (fun c16 => ?_)
    · rw [if_pos c16] at h
      refine zw_sub (lv' := [(0, .ref a0), (1, .int i1), (2, .int i2), (3, .int r2.1)]) (List.forall_mem_cons.mpr ⟨rfl, (List.forall_mem_cons.mpr ⟨rfl, (List.forall_mem_cons.mpr ⟨rfl, (List.forall_mem_cons.mpr ⟨rfl, zs_nil⟩)⟩)⟩)⟩) ?_
      exact zt_X4_runAct_J50 hX hr hR hd h
    · rw [if_neg c16] at h
      refine zw_aload_n hX dX4_runAct_19 rfl ?_
      obtain ⟨b22, g, h⟩ := zb_some h
      refine zw_getr hX zl_X4_38 dX4_runAct_20 g ?_
      refine zw_iload_n hX dX4_runAct_23 rfl ?_
      refine zw_iconst (v := (1 : Int32)) hX dX4_runAct_24 (by decide) ?_
      obtain ⟨S23, g, h⟩ := zb_some h
      refine zw_si hX dX4_runAct_25 g ?_
      refine zw_aload_n hX dX4_runAct_26 rfl ?_
      obtain ⟨b24, g, h⟩ := zb_some h
      refine zw_getr hX zl_X4_41 dX4_runAct_27 g ?_
      refine zw_iload_n hX dX4_runAct_30 rfl ?_
      refine zw_iload_n hX dX4_runAct_31 rfl ?_
      obtain ⟨S25, g, h⟩ := zb_some h
      refine zw_si hX dX4_runAct_32 g ?_
      refine zw_aload_n hX dX4_runAct_33 rfl ?_
      obtain ⟨b26, g, h⟩ := zb_some h
      refine zw_getr hX zl_X4_44 dX4_runAct_34 g ?_
      refine zw_iload_n hX dX4_runAct_37 rfl ?_
      refine zw_iconst (v := (0 : Int32)) hX dX4_runAct_38 (by decide) ?_
      obtain ⟨S27, g, h⟩ := zb_some h
      refine zw_sz hX dX4_runAct_39 g ?_
      refine zw_aload_n hX dX4_runAct_40 rfl ?_
      obtain ⟨b28, g, h⟩ := zb_some h
      refine zw_getr hX zl_X4_47 dX4_runAct_41 g ?_
      refine zw_iload_n hX dX4_runAct_44 rfl ?_
      refine zw_iconst (v := (0 : Int32)) hX dX4_runAct_45 (by decide) ?_
      obtain ⟨S29, g, h⟩ := zb_some h
      refine zw_sz hX dX4_runAct_46 g ?_
      refine zw_goto (tgt := 106) hX dX4_runAct_47 (by decide) ?_
      refine zw_sub (lv' := [(0, .ref a0), (1, .int i1), (2, .int i2)]) (List.forall_mem_cons.mpr ⟨rfl, (List.forall_mem_cons.mpr ⟨rfl, (List.forall_mem_cons.mpr ⟨rfl, zs_nil⟩)⟩)⟩) ?_
      exact zt_X4_runAct_J106 hX hr hR hd h

