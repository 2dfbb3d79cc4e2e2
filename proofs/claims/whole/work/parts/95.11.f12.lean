/-! ===== functions of methods, by program (wip/whole/tools/gen11.py) ===== -/
theorem dX14_unit_0 : decode cX14_unit 0 = .ok (.aload_n 0, 1) := by decide +kernel
theorem dX14_unit_1 : decode cX14_unit 1 = .ok (.getfield 20, 3) := by decide +kernel
theorem dX14_unit_4 : decode cX14_unit 4 = .ok (.aload_n 0, 1) := by decide +kernel
theorem dX14_unit_5 : decode cX14_unit 5 = .ok (.getfield 89, 3) := by decide +kernel
theorem dX14_unit_8 : decode cX14_unit 8 = .ok (.iload_n 1, 1) := by decide +kernel
theorem dX14_unit_9 : decode cX14_unit 9 = .ok (.iastore, 1) := by decide +kernel
theorem dX14_unit_10 : decode cX14_unit 10 = .ok (.aload_n 0, 1) := by decide +kernel
theorem dX14_unit_11 : decode cX14_unit 11 = .ok (.dup, 1) := by decide +kernel
theorem dX14_unit_12 : decode cX14_unit 12 = .ok (.getfield 89, 3) := by decide +kernel
theorem dX14_unit_15 : decode cX14_unit 15 = .ok (.iconst 1, 1) := by decide +kernel
theorem dX14_unit_16 : decode cX14_unit 16 = .ok (.iadd, 1) := by decide +kernel
theorem dX14_unit_17 : decode cX14_unit 17 = .ok (.putfield 89, 3) := by decide +kernel
theorem dX14_unit_20 : decode cX14_unit 20 = .ok (.aload_n 0, 1) := by decide +kernel
theorem dX14_unit_21 : decode cX14_unit 21 = .ok (.getfield 89, 3) := by decide +kernel
theorem dX14_unit_24 : decode cX14_unit 24 = .ok (.ireturn, 1) := by decide +kernel
theorem dX14_letter_0 : decode cX14_letter 0 = .ok (.aload_n 0, 1) := by decide +kernel
theorem dX14_letter_1 : decode cX14_letter 1 = .ok (.getfield 86, 3) := by decide +kernel
theorem dX14_letter_4 : decode cX14_letter 4 = .ok (.aload_n 0, 1) := by decide +kernel
theorem dX14_letter_5 : decode cX14_letter 5 = .ok (.getfield 93, 3) := by decide +kernel
theorem dX14_letter_8 : decode cX14_letter 8 = .ok (.iload_n 1, 1) := by decide +kernel
theorem dX14_letter_9 : decode cX14_letter 9 = .ok (.iastore, 1) := by decide +kernel
theorem dX14_letter_10 : decode cX14_letter 10 = .ok (.aload_n 0, 1) := by decide +kernel
theorem dX14_letter_11 : decode cX14_letter 11 = .ok (.dup, 1) := by decide +kernel
theorem dX14_letter_12 : decode cX14_letter 12 = .ok (.getfield 93, 3) := by decide +kernel
theorem dX14_letter_15 : decode cX14_letter 15 = .ok (.iconst 1, 1) := by decide +kernel
theorem dX14_letter_16 : decode cX14_letter 16 = .ok (.iadd, 1) := by decide +kernel
theorem dX14_letter_17 : decode cX14_letter 17 = .ok (.putfield 93, 3) := by decide +kernel
theorem dX14_letter_20 : decode cX14_letter 20 = .ok (.return_, 1) := by decide +kernel
theorem dX14_number_0 : decode cX14_number 0 = .ok (.iload_n 1, 1) := by decide +kernel
theorem dX14_number_1 : decode cX14_number 1 = .ok (.sipush 9999, 3) := by decide +kernel
theorem dX14_number_4 : decode cX14_number 4 = .ok (.if_icmp .le 15, 3) := by decide +kernel
theorem dX14_number_19 : decode cX14_number 19 = .ok (.iload_n 1, 1) := by decide +kernel
theorem dX14_number_20 : decode cX14_number 20 = .ok (.sipush 999, 3) := by decide +kernel
theorem dX14_number_23 : decode cX14_number 23 = .ok (.if_icmp .le 18, 3) := by decide +kernel
theorem dX14_number_41 : decode cX14_number 41 = .ok (.iload_n 1, 1) := by decide +kernel
theorem dX14_number_42 : decode cX14_number 42 = .ok (.bipush 99, 2) := by decide +kernel
theorem dX14_number_44 : decode cX14_number 44 = .ok (.if_icmp .le 17, 3) := by decide +kernel
theorem dX14_number_61 : decode cX14_number 61 = .ok (.iload_n 1, 1) := by decide +kernel
theorem dX14_number_62 : decode cX14_number 62 = .ok (.bipush 9, 2) := by decide +kernel
theorem dX14_number_64 : decode cX14_number 64 = .ok (.if_icmp .le 17, 3) := by decide +kernel
theorem dX14_number_81 : decode cX14_number 81 = .ok (.aload_n 0, 1) := by decide +kernel
theorem dX14_number_82 : decode cX14_number 82 = .ok (.bipush 48, 2) := by decide +kernel
theorem dX14_number_84 : decode cX14_number 84 = .ok (.iload_n 1, 1) := by decide +kernel
theorem dX14_number_85 : decode cX14_number 85 = .ok (.bipush 10, 2) := by decide +kernel
theorem dX14_number_87 : decode cX14_number 87 = .ok (.irem, 1) := by decide +kernel
theorem dX14_number_88 : decode cX14_number 88 = .ok (.iadd, 1) := by decide +kernel
theorem dX14_number_89 : decode cX14_number 89 = .ok (.invokevirtual 96, 3) := by decide +kernel
theorem dX14_number_92 : decode cX14_number 92 = .ok (.aload_n 0, 1) := by decide +kernel
theorem dX14_number_93 : decode cX14_number 93 = .ok (.bipush 32, 2) := by decide +kernel
theorem dX14_number_95 : decode cX14_number 95 = .ok (.invokevirtual 96, 3) := by decide +kernel
theorem dX14_number_98 : decode cX14_number 98 = .ok (.return_, 1) := by decide +kernel
theorem dX14_number_67 : decode cX14_number 67 = .ok (.aload_n 0, 1) := by decide +kernel
theorem dX14_number_68 : decode cX14_number 68 = .ok (.bipush 48, 2) := by decide +kernel
theorem dX14_number_70 : decode cX14_number 70 = .ok (.iload_n 1, 1) := by decide +kernel
theorem dX14_number_71 : decode cX14_number 71 = .ok (.bipush 10, 2) := by decide +kernel
theorem dX14_number_73 : decode cX14_number 73 = .ok (.idiv, 1) := by decide +kernel
theorem dX14_number_74 : decode cX14_number 74 = .ok (.bipush 10, 2) := by decide +kernel
theorem dX14_number_76 : decode cX14_number 76 = .ok (.irem, 1) := by decide +kernel
theorem dX14_number_77 : decode cX14_number 77 = .ok (.iadd, 1) := by decide +kernel
theorem dX14_number_78 : decode cX14_number 78 = .ok (.invokevirtual 96, 3) := by decide +kernel
theorem dX14_number_47 : decode cX14_number 47 = .ok (.aload_n 0, 1) := by decide +kernel
theorem dX14_number_48 : decode cX14_number 48 = .ok (.bipush 48, 2) := by decide +kernel
theorem dX14_number_50 : decode cX14_number 50 = .ok (.iload_n 1, 1) := by decide +kernel
theorem dX14_number_51 : decode cX14_number 51 = .ok (.bipush 100, 2) := by decide +kernel
theorem dX14_number_53 : decode cX14_number 53 = .ok (.idiv, 1) := by decide +kernel
theorem dX14_number_54 : decode cX14_number 54 = .ok (.bipush 10, 2) := by decide +kernel
theorem dX14_number_56 : decode cX14_number 56 = .ok (.irem, 1) := by decide +kernel
theorem dX14_number_57 : decode cX14_number 57 = .ok (.iadd, 1) := by decide +kernel
theorem dX14_number_58 : decode cX14_number 58 = .ok (.invokevirtual 96, 3) := by decide +kernel
theorem dX14_number_26 : decode cX14_number 26 = .ok (.aload_n 0, 1) := by decide +kernel
theorem dX14_number_27 : decode cX14_number 27 = .ok (.bipush 48, 2) := by decide +kernel
theorem dX14_number_29 : decode cX14_number 29 = .ok (.iload_n 1, 1) := by decide +kernel
theorem dX14_number_30 : decode cX14_number 30 = .ok (.sipush 1000, 3) := by decide +kernel
theorem dX14_number_33 : decode cX14_number 33 = .ok (.idiv, 1) := by decide +kernel
theorem dX14_number_34 : decode cX14_number 34 = .ok (.bipush 10, 2) := by decide +kernel
theorem dX14_number_36 : decode cX14_number 36 = .ok (.irem, 1) := by decide +kernel
theorem dX14_number_37 : decode cX14_number 37 = .ok (.iadd, 1) := by decide +kernel
theorem dX14_number_38 : decode cX14_number 38 = .ok (.invokevirtual 96, 3) := by decide +kernel
theorem dX14_number_7 : decode cX14_number 7 = .ok (.aload_n 0, 1) := by decide +kernel
theorem dX14_number_8 : decode cX14_number 8 = .ok (.bipush 48, 2) := by decide +kernel
theorem dX14_number_10 : decode cX14_number 10 = .ok (.iload_n 1, 1) := by decide +kernel
theorem dX14_number_11 : decode cX14_number 11 = .ok (.sipush 10000, 3) := by decide +kernel
theorem dX14_number_14 : decode cX14_number 14 = .ok (.idiv, 1) := by decide +kernel
theorem dX14_number_15 : decode cX14_number 15 = .ok (.iadd, 1) := by decide +kernel
theorem dX14_number_16 : decode cX14_number 16 = .ok (.invokevirtual 96, 3) := by decide +kernel
theorem dX14_word_0 : decode cX14_word 0 = .ok (.iload_n 1, 1) := by decide +kernel
theorem dX14_word_1 : decode cX14_word 1 = .ok (.istore_n 2, 1) := by decide +kernel
theorem dX14_word_2 : decode cX14_word 2 = .ok (.iload_n 2, 1) := by decide +kernel
theorem dX14_word_3 : decode cX14_word 3 = .ok (.ifCond .le 22, 3) := by decide +kernel
theorem dX14_word_6 : decode cX14_word 6 = .ok (.aload_n 0, 1) := by decide +kernel
theorem dX14_word_7 : decode cX14_word 7 = .ok (.bipush 96, 2) := by decide +kernel
theorem dX14_word_9 : decode cX14_word 9 = .ok (.iload_n 2, 1) := by decide +kernel
theorem dX14_word_10 : decode cX14_word 10 = .ok (.bipush 32, 2) := by decide +kernel
theorem dX14_word_12 : decode cX14_word 12 = .ok (.irem, 1) := by decide +kernel
theorem dX14_word_13 : decode cX14_word 13 = .ok (.iadd, 1) := by decide +kernel
theorem dX14_word_14 : decode cX14_word 14 = .ok (.invokevirtual 96, 3) := by decide +kernel
theorem dX14_word_17 : decode cX14_word 17 = .ok (.iload_n 2, 1) := by decide +kernel
theorem dX14_word_18 : decode cX14_word 18 = .ok (.bipush 32, 2) := by decide +kernel
theorem dX14_word_20 : decode cX14_word 20 = .ok (.idiv, 1) := by decide +kernel
theorem dX14_word_21 : decode cX14_word 21 = .ok (.istore_n 2, 1) := by decide +kernel
theorem dX14_word_22 : decode cX14_word 22 = .ok (.goto (-20), 3) := by decide +kernel
theorem dX14_word_25 : decode cX14_word 25 = .ok (.aload_n 0, 1) := by decide +kernel
theorem dX14_word_26 : decode cX14_word 26 = .ok (.bipush 32, 2) := by decide +kernel
theorem dX14_word_28 : decode cX14_word 28 = .ok (.invokevirtual 96, 3) := by decide +kernel
theorem dX14_word_31 : decode cX14_word 31 = .ok (.return_, 1) := by decide +kernel
theorem dX14_stop_0 : decode cX14_stop 0 = .ok (.aload_n 0, 1) := by decide +kernel
theorem dX14_stop_1 : decode cX14_stop 1 = .ok (.bipush 59, 2) := by decide +kernel
theorem dX14_stop_3 : decode cX14_stop 3 = .ok (.invokevirtual 96, 3) := by decide +kernel
theorem dX14_stop_6 : decode cX14_stop 6 = .ok (.aload_n 0, 1) := by decide +kernel
theorem dX14_stop_7 : decode cX14_stop 7 = .ok (.bipush 32, 2) := by decide +kernel
theorem dX14_stop_9 : decode cX14_stop 9 = .ok (.invokevirtual 96, 3) := by decide +kernel
theorem dX14_stop_12 : decode cX14_stop 12 = .ok (.return_, 1) := by decide +kernel
theorem dX14_isSaid_0 : decode cX14_isSaid 0 = .ok (.iload_n 0, 1) := by decide +kernel
theorem dX14_isSaid_1 : decode cX14_isSaid 1 = .ok (.ifCond .lt 14, 3) := by decide +kernel
theorem dX14_isSaid_15 : decode cX14_isSaid 15 = .ok (.iconst 0, 1) := by decide +kernel
theorem dX14_isSaid_16 : decode cX14_isSaid 16 = .ok (.ireturn, 1) := by decide +kernel
theorem dX14_isSaid_4 : decode cX14_isSaid 4 = .ok (.iload_n 0, 1) := by decide +kernel
theorem dX14_isSaid_5 : decode cX14_isSaid 5 = .ok (.sipush 9999, 3) := by decide +kernel
theorem dX14_isSaid_8 : decode cX14_isSaid 8 = .ok (.if_icmp .gt 7, 3) := by decide +kernel
theorem dX14_isSaid_11 : decode cX14_isSaid 11 = .ok (.iconst 1, 1) := by decide +kernel
theorem dX14_isSaid_12 : decode cX14_isSaid 12 = .ok (.goto 4, 3) := by decide +kernel
theorem dX14_sentence_0 : decode cX14_sentence 0 = .ok (.aload_n 0, 1) := by decide +kernel
theorem dX14_sentence_1 : decode cX14_sentence 1 = .ok (.iload_n 1, 1) := by decide +kernel
theorem dX14_sentence_2 : decode cX14_sentence 2 = .ok (.ifCond .ne 8, 3) := by decide +kernel
theorem dX14_sentence_10 : decode cX14_sentence 10 = .ok (.iload_n 1, 1) := by decide +kernel
theorem dX14_sentence_11 : decode cX14_sentence 11 = .ok (.iconst 1, 1) := by decide +kernel
theorem dX14_sentence_12 : decode cX14_sentence 12 = .ok (.if_icmp .ne 9, 3) := by decide +kernel
theorem dX14_sentence_21 : decode cX14_sentence 21 = .ok (.iload_n 1, 1) := by decide +kernel
theorem dX14_sentence_22 : decode cX14_sentence 22 = .ok (.iconst 4, 1) := by decide +kernel
theorem dX14_sentence_23 : decode cX14_sentence 23 = .ok (.if_icmp .ne 8, 3) := by decide +kernel
theorem dX14_sentence_31 : decode cX14_sentence 31 = .ok (.ldc 110, 2) := by decide +kernel
theorem dX14_sentence_33 : decode cX14_sentence 33 = .ok (.invokevirtual 111, 3) := by decide +kernel
theorem dX14_sentence_36 : decode cX14_sentence 36 = .ok (.aload_n 0, 1) := by decide +kernel
theorem dX14_sentence_37 : decode cX14_sentence 37 = .ok (.iload_n 2, 1) := by decide +kernel
theorem dX14_sentence_38 : decode cX14_sentence 38 = .ok (.invokevirtual 114, 3) := by decide +kernel
theorem dX14_sentence_41 : decode cX14_sentence 41 = .ok (.iload_n 1, 1) := by decide +kernel
theorem dX14_sentence_42 : decode cX14_sentence 42 = .ok (.ifCond .ne 49, 3) := by decide +kernel
theorem dX14_sentence_91 : decode cX14_sentence 91 = .ok (.iload_n 1, 1) := by decide +kernel
theorem dX14_sentence_92 : decode cX14_sentence 92 = .ok (.iconst 1, 1) := by decide +kernel
theorem dX14_sentence_93 : decode cX14_sentence 93 = .ok (.if_icmp .ne 41, 3) := by decide +kernel
theorem dX14_sentence_134 : decode cX14_sentence 134 = .ok (.iload_n 1, 1) := by decide +kernel
theorem dX14_sentence_135 : decode cX14_sentence 135 = .ok (.iconst 2, 1) := by decide +kernel
theorem dX14_sentence_136 : decode cX14_sentence 136 = .ok (.if_icmp .eq 8, 3) := by decide +kernel
theorem dX14_sentence_144 : decode cX14_sentence 144 = .ok (.iload_n 1, 1) := by decide +kernel
theorem dX14_sentence_145 : decode cX14_sentence 145 = .ok (.iconst 3, 1) := by decide +kernel
theorem dX14_sentence_146 : decode cX14_sentence 146 = .ok (.if_icmp .ne 20, 3) := by decide +kernel
theorem dX14_sentence_166 : decode cX14_sentence 166 = .ok (.aload_n 0, 1) := by decide +kernel
theorem dX14_sentence_167 : decode cX14_sentence 167 = .ok (.ldc 121, 2) := by decide +kernel
theorem dX14_sentence_169 : decode cX14_sentence 169 = .ok (.invokevirtual 111, 3) := by decide +kernel
theorem dX14_sentence_172 : decode cX14_sentence 172 = .ok (.aload_n 0, 1) := by decide +kernel
theorem dX14_sentence_173 : decode cX14_sentence 173 = .ok (.iload_n 1, 1) := by decide +kernel
theorem dX14_sentence_174 : decode cX14_sentence 174 = .ok (.iconst 2, 1) := by decide +kernel
theorem dX14_sentence_175 : decode cX14_sentence 175 = .ok (.if_icmp .ne 7, 3) := by decide +kernel
theorem dX14_sentence_182 : decode cX14_sentence 182 = .ok (.iload 4, 2) := by decide +kernel
theorem dX14_sentence_184 : decode cX14_sentence 184 = .ok (.invokevirtual 114, 3) := by decide +kernel
theorem dX14_sentence_187 : decode cX14_sentence 187 = .ok (.aload_n 0, 1) := by decide +kernel
theorem dX14_sentence_188 : decode cX14_sentence 188 = .ok (.invokevirtual 122, 3) := by decide +kernel
theorem dX14_sentence_191 : decode cX14_sentence 191 = .ok (.return_, 1) := by decide +kernel
theorem dX14_sentence_178 : decode cX14_sentence 178 = .ok (.iload_n 3, 1) := by decide +kernel
theorem dX14_sentence_179 : decode cX14_sentence 179 = .ok (.goto 5, 3) := by decide +kernel
theorem dX14_sentence_149 : decode cX14_sentence 149 = .ok (.aload_n 0, 1) := by decide +kernel
theorem dX14_sentence_150 : decode cX14_sentence 150 = .ok (.bipush 38, 2) := by decide +kernel
theorem dX14_sentence_152 : decode cX14_sentence 152 = .ok (.invokevirtual 96, 3) := by decide +kernel
theorem dX14_sentence_155 : decode cX14_sentence 155 = .ok (.aload_n 0, 1) := by decide +kernel
theorem dX14_sentence_156 : decode cX14_sentence 156 = .ok (.bipush 32, 2) := by decide +kernel
theorem dX14_sentence_158 : decode cX14_sentence 158 = .ok (.invokevirtual 96, 3) := by decide +kernel
theorem dX14_sentence_161 : decode cX14_sentence 161 = .ok (.aload_n 0, 1) := by decide +kernel
theorem dX14_sentence_162 : decode cX14_sentence 162 = .ok (.iload_n 3, 1) := by decide +kernel
theorem dX14_sentence_163 : decode cX14_sentence 163 = .ok (.invokevirtual 114, 3) := by decide +kernel
theorem dX14_sentence_139 : decode cX14_sentence 139 = .ok (.iload_n 1, 1) := by decide +kernel
theorem dX14_sentence_140 : decode cX14_sentence 140 = .ok (.iconst 3, 1) := by decide +kernel
theorem dX14_sentence_141 : decode cX14_sentence 141 = .ok (.if_icmp .ne 46, 3) := by decide +kernel
theorem dX14_sentence_96 : decode cX14_sentence 96 = .ok (.aload_n 0, 1) := by decide +kernel
theorem dX14_sentence_97 : decode cX14_sentence 97 = .ok (.ldc 118, 2) := by decide +kernel
theorem dX14_sentence_99 : decode cX14_sentence 99 = .ok (.invokevirtual 111, 3) := by decide +kernel
theorem dX14_sentence_102 : decode cX14_sentence 102 = .ok (.aload_n 0, 1) := by decide +kernel
theorem dX14_sentence_103 : decode cX14_sentence 103 = .ok (.iload_n 3, 1) := by decide +kernel
theorem dX14_sentence_104 : decode cX14_sentence 104 = .ok (.invokevirtual 114, 3) := by decide +kernel
theorem dX14_sentence_107 : decode cX14_sentence 107 = .ok (.aload_n 0, 1) := by decide +kernel
theorem dX14_sentence_108 : decode cX14_sentence 108 = .ok (.ldc 119, 2) := by decide +kernel
theorem dX14_sentence_110 : decode cX14_sentence 110 = .ok (.invokevirtual 111, 3) := by decide +kernel
theorem dX14_sentence_113 : decode cX14_sentence 113 = .ok (.aload_n 0, 1) := by decide +kernel
theorem dX14_sentence_114 : decode cX14_sentence 114 = .ok (.iload 4, 2) := by decide +kernel
theorem dX14_sentence_116 : decode cX14_sentence 116 = .ok (.invokevirtual 114, 3) := by decide +kernel
theorem dX14_sentence_119 : decode cX14_sentence 119 = .ok (.aload_n 0, 1) := by decide +kernel
theorem dX14_sentence_120 : decode cX14_sentence 120 = .ok (.ldc 120, 2) := by decide +kernel
theorem dX14_sentence_122 : decode cX14_sentence 122 = .ok (.invokevirtual 111, 3) := by decide +kernel
theorem dX14_sentence_125 : decode cX14_sentence 125 = .ok (.aload_n 0, 1) := by decide +kernel
theorem dX14_sentence_126 : decode cX14_sentence 126 = .ok (.iload 5, 2) := by decide +kernel
theorem dX14_sentence_128 : decode cX14_sentence 128 = .ok (.invokevirtual 114, 3) := by decide +kernel
theorem dX14_sentence_131 : decode cX14_sentence 131 = .ok (.goto 56, 3) := by decide +kernel
theorem dX14_sentence_45 : decode cX14_sentence 45 = .ok (.aload_n 0, 1) := by decide +kernel
theorem dX14_sentence_46 : decode cX14_sentence 46 = .ok (.ldc 117, 2) := by decide +kernel
theorem dX14_sentence_48 : decode cX14_sentence 48 = .ok (.invokevirtual 111, 3) := by decide +kernel
theorem dX14_sentence_51 : decode cX14_sentence 51 = .ok (.aload_n 0, 1) := by decide +kernel
theorem dX14_sentence_52 : decode cX14_sentence 52 = .ok (.iload_n 3, 1) := by decide +kernel
theorem dX14_sentence_53 : decode cX14_sentence 53 = .ok (.invokevirtual 114, 3) := by decide +kernel
theorem dX14_sentence_56 : decode cX14_sentence 56 = .ok (.aload_n 0, 1) := by decide +kernel
theorem dX14_sentence_57 : decode cX14_sentence 57 = .ok (.sipush 207, 3) := by decide +kernel
theorem dX14_sentence_60 : decode cX14_sentence 60 = .ok (.invokevirtual 111, 3) := by decide +kernel
theorem dX14_sentence_63 : decode cX14_sentence 63 = .ok (.iconst 0, 1) := by decide +kernel
theorem dX14_sentence_64 : decode cX14_sentence 64 = .ok (.istore 6, 2) := by decide +kernel
theorem dX14_sentence_66 : decode cX14_sentence 66 = .ok (.iload 6, 2) := by decide +kernel
theorem dX14_sentence_68 : decode cX14_sentence 68 = .ok (.iload 5, 2) := by decide +kernel
theorem dX14_sentence_70 : decode cX14_sentence 70 = .ok (.if_icmp .ge 18, 3) := by decide +kernel
theorem dX14_sentence_73 : decode cX14_sentence 73 = .ok (.aload_n 0, 1) := by decide +kernel
theorem dX14_sentence_74 : decode cX14_sentence 74 = .ok (.iload 4, 2) := by decide +kernel
theorem dX14_sentence_76 : decode cX14_sentence 76 = .ok (.iload 6, 2) := by decide +kernel
theorem dX14_sentence_78 : decode cX14_sentence 78 = .ok (.iadd, 1) := by decide +kernel
theorem dX14_sentence_79 : decode cX14_sentence 79 = .ok (.invokevirtual 114, 3) := by decide +kernel
theorem dX14_sentence_82 : decode cX14_sentence 82 = .ok (.iinc 6 1, 3) := by decide +kernel
theorem dX14_sentence_85 : decode cX14_sentence 85 = .ok (.goto (-19), 3) := by decide +kernel
theorem dX14_sentence_88 : decode cX14_sentence 88 = .ok (.goto 99, 3) := by decide +kernel
theorem dX14_sentence_26 : decode cX14_sentence 26 = .ok (.ldc 109, 2) := by decide +kernel
theorem dX14_sentence_28 : decode cX14_sentence 28 = .ok (.goto 5, 3) := by decide +kernel
theorem dX14_sentence_15 : decode cX14_sentence 15 = .ok (.sipush 20577, 3) := by decide +kernel
theorem dX14_sentence_18 : decode cX14_sentence 18 = .ok (.goto 15, 3) := by decide +kernel
theorem dX14_sentence_5 : decode cX14_sentence 5 = .ok (.ldc 108, 2) := by decide +kernel
theorem dX14_sentence_7 : decode cX14_sentence 7 = .ok (.goto 26, 3) := by decide +kernel
theorem dX14_make_0 : decode cX14_make 0 = .ok (.aload_n 0, 1) := by decide +kernel
theorem dX14_make_1 : decode cX14_make 1 = .ok (.iconst 0, 1) := by decide +kernel
theorem dX14_make_2 : decode cX14_make 2 = .ok (.putfield 93, 3) := by decide +kernel
theorem dX14_make_5 : decode cX14_make 5 = .ok (.aload_n 0, 1) := by decide +kernel
theorem dX14_make_6 : decode cX14_make 6 = .ok (.iload_n 1, 1) := by decide +kernel
theorem dX14_make_7 : decode cX14_make 7 = .ok (.iload_n 2, 1) := by decide +kernel
theorem dX14_make_8 : decode cX14_make 8 = .ok (.iload_n 3, 1) := by decide +kernel
theorem dX14_make_9 : decode cX14_make 9 = .ok (.iload 4, 2) := by decide +kernel
theorem dX14_make_11 : decode cX14_make 11 = .ok (.iload 5, 2) := by decide +kernel
theorem dX14_make_13 : decode cX14_make 13 = .ok (.invokevirtual 100, 3) := by decide +kernel
theorem dX14_make_16 : decode cX14_make 16 = .ok (.return_, 1) := by decide +kernel
theorem dX14_say_0 : decode cX14_say 0 = .ok (.iconst 0, 1) := by decide +kernel
theorem dX14_say_1 : decode cX14_say 1 = .ok (.istore_n 1, 1) := by decide +kernel
theorem dX14_say_2 : decode cX14_say 2 = .ok (.iload_n 1, 1) := by decide +kernel
theorem dX14_say_3 : decode cX14_say 3 = .ok (.aload_n 0, 1) := by decide +kernel
theorem dX14_say_4 : decode cX14_say 4 = .ok (.getfield 93, 3) := by decide +kernel
theorem dX14_say_7 : decode cX14_say 7 = .ok (.if_icmp .ge 20, 3) := by decide +kernel
theorem dX14_say_10 : decode cX14_say 10 = .ok (.aload_n 0, 1) := by decide +kernel
theorem dX14_say_11 : decode cX14_say 11 = .ok (.aload_n 0, 1) := by decide +kernel
theorem dX14_say_12 : decode cX14_say 12 = .ok (.getfield 86, 3) := by decide +kernel
theorem dX14_say_15 : decode cX14_say 15 = .ok (.iload_n 1, 1) := by decide +kernel
theorem dX14_say_16 : decode cX14_say 16 = .ok (.iaload, 1) := by decide +kernel
theorem dX14_say_17 : decode cX14_say 17 = .ok (.invokevirtual 104, 3) := by decide +kernel
theorem dX14_say_20 : decode cX14_say 20 = .ok (.istore_n 2, 1) := by decide +kernel
theorem dX14_say_21 : decode cX14_say 21 = .ok (.iinc 1 1, 3) := by decide +kernel
theorem dX14_say_24 : decode cX14_say 24 = .ok (.goto (-22), 3) := by decide +kernel
theorem dX14_say_27 : decode cX14_say 27 = .ok (.aload_n 0, 1) := by decide +kernel
theorem dX14_say_28 : decode cX14_say 28 = .ok (.getfield 89, 3) := by decide +kernel
theorem dX14_say_31 : decode cX14_say 31 = .ok (.ireturn, 1) := by decide +kernel
theorem dX14_sort_0 : decode cX14_sort 0 = .ok (.iload_n 0, 1) := by decide +kernel
theorem dX14_sort_1 : decode cX14_sort 1 = .ok (.bipush 32, 2) := by decide +kernel
theorem dX14_sort_3 : decode cX14_sort 3 = .ok (.if_icmp .eq 9, 3) := by decide +kernel
theorem dX14_sort_12 : decode cX14_sort 12 = .ok (.iconst 0, 1) := by decide +kernel
theorem dX14_sort_13 : decode cX14_sort 13 = .ok (.goto 36, 3) := by decide +kernel
theorem dX14_sort_49 : decode cX14_sort 49 = .ok (.ireturn, 1) := by decide +kernel
theorem dX14_sort_6 : decode cX14_sort 6 = .ok (.iload_n 0, 1) := by decide +kernel
theorem dX14_sort_7 : decode cX14_sort 7 = .ok (.bipush 10, 2) := by decide +kernel
theorem dX14_sort_9 : decode cX14_sort 9 = .ok (.if_icmp .ne 7, 3) := by decide +kernel
theorem dX14_sort_16 : decode cX14_sort 16 = .ok (.iload_n 0, 1) := by decide +kernel
theorem dX14_sort_17 : decode cX14_sort 17 = .ok (.bipush 96, 2) := by decide +kernel
theorem dX14_sort_19 : decode cX14_sort 19 = .ok (.if_icmp .le 13, 3) := by decide +kernel
theorem dX14_sort_32 : decode cX14_sort 32 = .ok (.iload_n 0, 1) := by decide +kernel
theorem dX14_sort_33 : decode cX14_sort 33 = .ok (.bipush 47, 2) := by decide +kernel
theorem dX14_sort_35 : decode cX14_sort 35 = .ok (.if_icmp .le 13, 3) := by decide +kernel
theorem dX14_sort_48 : decode cX14_sort 48 = .ok (.iconst 3, 1) := by decide +kernel
theorem dX14_sort_38 : decode cX14_sort 38 = .ok (.iload_n 0, 1) := by decide +kernel
theorem dX14_sort_39 : decode cX14_sort 39 = .ok (.bipush 58, 2) := by decide +kernel
theorem dX14_sort_41 : decode cX14_sort 41 = .ok (.if_icmp .ge 7, 3) := by decide +kernel
theorem dX14_sort_44 : decode cX14_sort 44 = .ok (.iconst 2, 1) := by decide +kernel
theorem dX14_sort_45 : decode cX14_sort 45 = .ok (.goto 4, 3) := by decide +kernel
theorem dX14_sort_22 : decode cX14_sort 22 = .ok (.iload_n 0, 1) := by decide +kernel
theorem dX14_sort_23 : decode cX14_sort 23 = .ok (.bipush 123, 2) := by decide +kernel
theorem dX14_sort_25 : decode cX14_sort 25 = .ok (.if_icmp .ge 7, 3) := by decide +kernel
theorem dX14_sort_28 : decode cX14_sort 28 = .ok (.iconst 1, 1) := by decide +kernel
theorem dX14_sort_29 : decode cX14_sort 29 = .ok (.goto 20, 3) := by decide +kernel
theorem dX14_list_0 : decode cX14_list 0 = .ok (.aload_n 0, 1) := by decide +kernel
theorem dX14_list_1 : decode cX14_list 1 = .ok (.iconst 0, 1) := by decide +kernel
theorem dX14_list_2 : decode cX14_list 2 = .ok (.putfield 125, 3) := by decide +kernel
theorem dX14_list_5 : decode cX14_list 5 = .ok (.iconst 0, 1) := by decide +kernel
theorem dX14_list_6 : decode cX14_list 6 = .ok (.istore_n 1, 1) := by decide +kernel
theorem dX14_list_7 : decode cX14_list 7 = .ok (.iconst 0, 1) := by decide +kernel
theorem dX14_list_8 : decode cX14_list 8 = .ok (.istore_n 2, 1) := by decide +kernel
theorem dX14_list_9 : decode cX14_list 9 = .ok (.iload_n 2, 1) := by decide +kernel
theorem dX14_list_10 : decode cX14_list 10 = .ok (.aload_n 0, 1) := by decide +kernel
theorem dX14_list_11 : decode cX14_list 11 = .ok (.getfield 89, 3) := by decide +kernel
theorem dX14_list_14 : decode cX14_list 14 = .ok (.if_icmp .ge 73, 3) := by decide +kernel
theorem dX14_list_17 : decode cX14_list 17 = .ok (.aload_n 0, 1) := by decide +kernel
theorem dX14_list_18 : decode cX14_list 18 = .ok (.getfield 20, 3) := by decide +kernel
theorem dX14_list_21 : decode cX14_list 21 = .ok (.iload_n 2, 1) := by decide +kernel
theorem dX14_list_22 : decode cX14_list 22 = .ok (.iaload, 1) := by decide +kernel
theorem dX14_list_23 : decode cX14_list 23 = .ok (.invokestatic 128, 3) := by decide +kernel
theorem dX14_list_26 : decode cX14_list 26 = .ok (.istore_n 3, 1) := by decide +kernel
theorem dX14_list_27 : decode cX14_list 27 = .ok (.iload_n 3, 1) := by decide +kernel
theorem dX14_list_28 : decode cX14_list 28 = .ok (.ifCond .le 33, 3) := by decide +kernel
theorem dX14_list_61 : decode cX14_list 61 = .ok (.iload_n 3, 1) := by decide +kernel
theorem dX14_list_62 : decode cX14_list 62 = .ok (.ifCond .le 17, 3) := by decide +kernel
theorem dX14_list_79 : decode cX14_list 79 = .ok (.iload_n 3, 1) := by decide +kernel
theorem dX14_list_80 : decode cX14_list 80 = .ok (.istore_n 1, 1) := by decide +kernel
theorem dX14_list_81 : decode cX14_list 81 = .ok (.iinc 2 1, 3) := by decide +kernel
theorem dX14_list_84 : decode cX14_list 84 = .ok (.goto (-75), 3) := by decide +kernel
theorem dX14_list_65 : decode cX14_list 65 = .ok (.aload_n 0, 1) := by decide +kernel
theorem dX14_list_66 : decode cX14_list 66 = .ok (.getfield 26, 3) := by decide +kernel
theorem dX14_list_69 : decode cX14_list 69 = .ok (.aload_n 0, 1) := by decide +kernel
theorem dX14_list_70 : decode cX14_list 70 = .ok (.getfield 125, 3) := by decide +kernel
theorem dX14_list_73 : decode cX14_list 73 = .ok (.iconst 1, 1) := by decide +kernel
theorem dX14_list_74 : decode cX14_list 74 = .ok (.isub, 1) := by decide +kernel
theorem dX14_list_75 : decode cX14_list 75 = .ok (.iload_n 2, 1) := by decide +kernel
theorem dX14_list_76 : decode cX14_list 76 = .ok (.iconst 1, 1) := by decide +kernel
theorem dX14_list_77 : decode cX14_list 77 = .ok (.iadd, 1) := by decide +kernel
theorem dX14_list_78 : decode cX14_list 78 = .ok (.iastore, 1) := by decide +kernel
theorem dX14_list_31 : decode cX14_list 31 = .ok (.iload_n 3, 1) := by decide +kernel
theorem dX14_list_32 : decode cX14_list 32 = .ok (.iconst 3, 1) := by decide +kernel
theorem dX14_list_33 : decode cX14_list 33 = .ok (.if_icmp .eq 8, 3) := by decide +kernel
theorem dX14_list_41 : decode cX14_list 41 = .ok (.aload_n 0, 1) := by decide +kernel
theorem dX14_list_42 : decode cX14_list 42 = .ok (.getfield 23, 3) := by decide +kernel
theorem dX14_list_45 : decode cX14_list 45 = .ok (.aload_n 0, 1) := by decide +kernel
theorem dX14_list_46 : decode cX14_list 46 = .ok (.getfield 125, 3) := by decide +kernel
theorem dX14_list_49 : decode cX14_list 49 = .ok (.iload_n 2, 1) := by decide +kernel
theorem dX14_list_50 : decode cX14_list 50 = .ok (.iastore, 1) := by decide +kernel
theorem dX14_list_51 : decode cX14_list 51 = .ok (.aload_n 0, 1) := by decide +kernel
theorem dX14_list_52 : decode cX14_list 52 = .ok (.dup, 1) := by decide +kernel
theorem dX14_list_53 : decode cX14_list 53 = .ok (.getfield 125, 3) := by decide +kernel
theorem dX14_list_56 : decode cX14_list 56 = .ok (.iconst 1, 1) := by decide +kernel
theorem dX14_list_57 : decode cX14_list 57 = .ok (.iadd, 1) := by decide +kernel
theorem dX14_list_58 : decode cX14_list 58 = .ok (.putfield 125, 3) := by decide +kernel
theorem dX14_list_36 : decode cX14_list 36 = .ok (.iload_n 3, 1) := by decide +kernel
theorem dX14_list_37 : decode cX14_list 37 = .ok (.iload_n 1, 1) := by decide +kernel
theorem dX14_list_38 : decode cX14_list 38 = .ok (.if_icmp .eq 23, 3) := by decide +kernel
theorem dX14_list_87 : decode cX14_list 87 = .ok (.return_, 1) := by decide +kernel
theorem dX14_letters_0 : decode cX14_letters 0 = .ok (.aload_n 0, 1) := by decide +kernel
theorem dX14_letters_1 : decode cX14_letters 1 = .ok (.getfield 131, 3) := by decide +kernel
theorem dX14_letters_4 : decode cX14_letters 4 = .ok (.aload_n 0, 1) := by decide +kernel
theorem dX14_letters_5 : decode cX14_letters 5 = .ok (.getfield 125, 3) := by decide +kernel
theorem dX14_letters_8 : decode cX14_letters 8 = .ok (.if_icmp .ge 47, 3) := by decide +kernel
theorem dX14_letters_55 : decode cX14_letters 55 = .ok (.iconst (-1), 1) := by decide +kernel
theorem dX14_letters_56 : decode cX14_letters 56 = .ok (.ireturn, 1) := by decide +kernel
theorem dX14_letters_11 : decode cX14_letters 11 = .ok (.aload_n 0, 1) := by decide +kernel
theorem dX14_letters_12 : decode cX14_letters 12 = .ok (.getfield 20, 3) := by decide +kernel
theorem dX14_letters_15 : decode cX14_letters 15 = .ok (.aload_n 0, 1) := by decide +kernel
theorem dX14_letters_16 : decode cX14_letters 16 = .ok (.getfield 23, 3) := by decide +kernel
theorem dX14_letters_19 : decode cX14_letters 19 = .ok (.aload_n 0, 1) := by decide +kernel
theorem dX14_letters_20 : decode cX14_letters 20 = .ok (.getfield 131, 3) := by decide +kernel
theorem dX14_letters_23 : decode cX14_letters 23 = .ok (.iaload, 1) := by decide +kernel
theorem dX14_letters_24 : decode cX14_letters 24 = .ok (.iaload, 1) := by decide +kernel
theorem dX14_letters_25 : decode cX14_letters 25 = .ok (.invokestatic 128, 3) := by decide +kernel
theorem dX14_letters_28 : decode cX14_letters 28 = .ok (.iconst 1, 1) := by decide +kernel
theorem dX14_letters_29 : decode cX14_letters 29 = .ok (.if_icmp .ne 26, 3) := by decide +kernel
theorem dX14_letters_32 : decode cX14_letters 32 = .ok (.aload_n 0, 1) := by decide +kernel
theorem dX14_letters_33 : decode cX14_letters 33 = .ok (.getfield 26, 3) := by decide +kernel
theorem dX14_letters_36 : decode cX14_letters 36 = .ok (.aload_n 0, 1) := by decide +kernel
theorem dX14_letters_37 : decode cX14_letters 37 = .ok (.getfield 131, 3) := by decide +kernel
theorem dX14_letters_40 : decode cX14_letters 40 = .ok (.iaload, 1) := by decide +kernel
theorem dX14_letters_41 : decode cX14_letters 41 = .ok (.aload_n 0, 1) := by decide +kernel
theorem dX14_letters_42 : decode cX14_letters 42 = .ok (.getfield 23, 3) := by decide +kernel
theorem dX14_letters_45 : decode cX14_letters 45 = .ok (.aload_n 0, 1) := by decide +kernel
theorem dX14_letters_46 : decode cX14_letters 46 = .ok (.getfield 131, 3) := by decide +kernel
theorem dX14_letters_49 : decode cX14_letters 49 = .ok (.iaload, 1) := by decide +kernel
theorem dX14_letters_50 : decode cX14_letters 50 = .ok (.isub, 1) := by decide +kernel
theorem dX14_letters_51 : decode cX14_letters 51 = .ok (.iconst 5, 1) := by decide +kernel
theorem dX14_letters_52 : decode cX14_letters 52 = .ok (.if_icmp .le 5, 3) := by decide +kernel
theorem dX14_letters_57 : decode cX14_letters 57 = .ok (.iconst 0, 1) := by decide +kernel
theorem dX14_letters_58 : decode cX14_letters 58 = .ok (.istore_n 1, 1) := by decide +kernel
theorem dX14_letters_59 : decode cX14_letters 59 = .ok (.aload_n 0, 1) := by decide +kernel
theorem dX14_letters_60 : decode cX14_letters 60 = .ok (.getfield 26, 3) := by decide +kernel
theorem dX14_letters_63 : decode cX14_letters 63 = .ok (.aload_n 0, 1) := by decide +kernel
theorem dX14_letters_64 : decode cX14_letters 64 = .ok (.getfield 131, 3) := by decide +kernel
theorem dX14_letters_67 : decode cX14_letters 67 = .ok (.iaload, 1) := by decide +kernel
theorem dX14_letters_68 : decode cX14_letters 68 = .ok (.iconst 1, 1) := by decide +kernel
theorem dX14_letters_69 : decode cX14_letters 69 = .ok (.isub, 1) := by decide +kernel
theorem dX14_letters_70 : decode cX14_letters 70 = .ok (.istore_n 2, 1) := by decide +kernel
theorem dX14_letters_71 : decode cX14_letters 71 = .ok (.iload_n 2, 1) := by decide +kernel
theorem dX14_letters_72 : decode cX14_letters 72 = .ok (.aload_n 0, 1) := by decide +kernel
theorem dX14_letters_73 : decode cX14_letters 73 = .ok (.getfield 23, 3) := by decide +kernel
theorem dX14_letters_76 : decode cX14_letters 76 = .ok (.aload_n 0, 1) := by decide +kernel
theorem dX14_letters_77 : decode cX14_letters 77 = .ok (.getfield 131, 3) := by decide +kernel
theorem dX14_letters_80 : decode cX14_letters 80 = .ok (.iaload, 1) := by decide +kernel
theorem dX14_letters_81 : decode cX14_letters 81 = .ok (.if_icmp .lt 24, 3) := by decide +kernel
theorem dX14_letters_84 : decode cX14_letters 84 = .ok (.bipush 32, 2) := by decide +kernel
theorem dX14_letters_86 : decode cX14_letters 86 = .ok (.iload_n 1, 1) := by decide +kernel
theorem dX14_letters_87 : decode cX14_letters 87 = .ok (.imul, 1) := by decide +kernel
theorem dX14_letters_88 : decode cX14_letters 88 = .ok (.aload_n 0, 1) := by decide +kernel
theorem dX14_letters_89 : decode cX14_letters 89 = .ok (.getfield 20, 3) := by decide +kernel
theorem dX14_letters_92 : decode cX14_letters 92 = .ok (.iload_n 2, 1) := by decide +kernel
theorem dX14_letters_93 : decode cX14_letters 93 = .ok (.iaload, 1) := by decide +kernel
theorem dX14_letters_94 : decode cX14_letters 94 = .ok (.iadd, 1) := by decide +kernel
theorem dX14_letters_95 : decode cX14_letters 95 = .ok (.bipush 96, 2) := by decide +kernel
theorem dX14_letters_97 : decode cX14_letters 97 = .ok (.isub, 1) := by decide +kernel
theorem dX14_letters_98 : decode cX14_letters 98 = .ok (.istore_n 1, 1) := by decide +kernel
theorem dX14_letters_99 : decode cX14_letters 99 = .ok (.iinc 2 (-1), 3) := by decide +kernel
theorem dX14_letters_102 : decode cX14_letters 102 = .ok (.goto (-31), 3) := by decide +kernel
theorem dX14_letters_105 : decode cX14_letters 105 = .ok (.iload_n 1, 1) := by decide +kernel
theorem dX14_letters_106 : decode cX14_letters 106 = .ok (.ireturn, 1) := by decide +kernel
theorem dX14_isSign_0 : decode cX14_isSign 0 = .ok (.aload_n 0, 1) := by decide +kernel
theorem dX14_isSign_1 : decode cX14_isSign 1 = .ok (.getfield 131, 3) := by decide +kernel
theorem dX14_isSign_4 : decode cX14_isSign 4 = .ok (.aload_n 0, 1) := by decide +kernel
theorem dX14_isSign_5 : decode cX14_isSign 5 = .ok (.getfield 125, 3) := by decide +kernel
theorem dX14_isSign_8 : decode cX14_isSign 8 = .ok (.if_icmp .ge 48, 3) := by decide +kernel
theorem dX14_isSign_56 : decode cX14_isSign 56 = .ok (.iconst 0, 1) := by decide +kernel
theorem dX14_isSign_57 : decode cX14_isSign 57 = .ok (.ireturn, 1) := by decide +kernel
theorem dX14_isSign_11 : decode cX14_isSign 11 = .ok (.aload_n 0, 1) := by decide +kernel
theorem dX14_isSign_12 : decode cX14_isSign 12 = .ok (.getfield 26, 3) := by decide +kernel
theorem dX14_isSign_15 : decode cX14_isSign 15 = .ok (.aload_n 0, 1) := by decide +kernel
theorem dX14_isSign_16 : decode cX14_isSign 16 = .ok (.getfield 131, 3) := by decide +kernel
theorem dX14_isSign_19 : decode cX14_isSign 19 = .ok (.iaload, 1) := by decide +kernel
theorem dX14_isSign_20 : decode cX14_isSign 20 = .ok (.aload_n 0, 1) := by decide +kernel
theorem dX14_isSign_21 : decode cX14_isSign 21 = .ok (.getfield 23, 3) := by decide +kernel
theorem dX14_isSign_24 : decode cX14_isSign 24 = .ok (.aload_n 0, 1) := by decide +kernel
theorem dX14_isSign_25 : decode cX14_isSign 25 = .ok (.getfield 131, 3) := by decide +kernel
theorem dX14_isSign_28 : decode cX14_isSign 28 = .ok (.iaload, 1) := by decide +kernel
theorem dX14_isSign_29 : decode cX14_isSign 29 = .ok (.isub, 1) := by decide +kernel
theorem dX14_isSign_30 : decode cX14_isSign 30 = .ok (.iconst 1, 1) := by decide +kernel
theorem dX14_isSign_31 : decode cX14_isSign 31 = .ok (.if_icmp .ne 25, 3) := by decide +kernel
theorem dX14_isSign_34 : decode cX14_isSign 34 = .ok (.aload_n 0, 1) := by decide +kernel
theorem dX14_isSign_35 : decode cX14_isSign 35 = .ok (.getfield 20, 3) := by decide +kernel
theorem dX14_isSign_38 : decode cX14_isSign 38 = .ok (.aload_n 0, 1) := by decide +kernel
theorem dX14_isSign_39 : decode cX14_isSign 39 = .ok (.getfield 23, 3) := by decide +kernel
theorem dX14_isSign_42 : decode cX14_isSign 42 = .ok (.aload_n 0, 1) := by decide +kernel
theorem dX14_isSign_43 : decode cX14_isSign 43 = .ok (.getfield 131, 3) := by decide +kernel
theorem dX14_isSign_46 : decode cX14_isSign 46 = .ok (.iaload, 1) := by decide +kernel
theorem dX14_isSign_47 : decode cX14_isSign 47 = .ok (.iaload, 1) := by decide +kernel
theorem dX14_isSign_48 : decode cX14_isSign 48 = .ok (.iload_n 1, 1) := by decide +kernel
theorem dX14_isSign_49 : decode cX14_isSign 49 = .ok (.if_icmp .ne 7, 3) := by decide +kernel
theorem dX14_isSign_52 : decode cX14_isSign 52 = .ok (.iconst 1, 1) := by decide +kernel
theorem dX14_isSign_53 : decode cX14_isSign 53 = .ok (.goto 4, 3) := by decide +kernel
theorem dX14_want_0 : decode cX14_want 0 = .ok (.iload_n 1, 1) := by decide +kernel
theorem dX14_want_1 : decode cX14_want 1 = .ok (.ifCond .ne 18, 3) := by decide +kernel
theorem dX14_want_19 : decode cX14_want 19 = .ok (.aload_n 0, 1) := by decide +kernel
theorem dX14_want_20 : decode cX14_want 20 = .ok (.getfield 134, 3) := by decide +kernel
theorem dX14_want_23 : decode cX14_want 23 = .ok (.ifCond .ge 7, 3) := by decide +kernel
theorem dX14_want_30 : decode cX14_want 30 = .ok (.iconst 0, 1) := by decide +kernel
theorem dX14_want_31 : decode cX14_want 31 = .ok (.ireturn, 1) := by decide +kernel
theorem dX14_want_26 : decode cX14_want 26 = .ok (.iconst 1, 1) := by decide +kernel
theorem dX14_want_27 : decode cX14_want 27 = .ok (.goto 4, 3) := by decide +kernel
theorem dX14_want_4 : decode cX14_want 4 = .ok (.aload_n 0, 1) := by decide +kernel
theorem dX14_want_5 : decode cX14_want 5 = .ok (.getfield 134, 3) := by decide +kernel
theorem dX14_want_8 : decode cX14_want 8 = .ok (.ifCond .ge 11, 3) := by decide +kernel
theorem dX14_want_11 : decode cX14_want 11 = .ok (.aload_n 0, 1) := by decide +kernel
theorem dX14_want_12 : decode cX14_want 12 = .ok (.aload_n 0, 1) := by decide +kernel
theorem dX14_want_13 : decode cX14_want 13 = .ok (.getfield 131, 3) := by decide +kernel
theorem dX14_want_16 : decode cX14_want 16 = .ok (.putfield 134, 3) := by decide +kernel
theorem dX14_take_0 : decode cX14_take 0 = .ok (.aload_n 0, 1) := by decide +kernel
theorem dX14_take_1 : decode cX14_take 1 = .ok (.aload_n 0, 1) := by decide +kernel
theorem dX14_take_2 : decode cX14_take 2 = .ok (.invokevirtual 137, 3) := by decide +kernel
theorem dX14_take_5 : decode cX14_take 5 = .ok (.iload_n 1, 1) := by decide +kernel
theorem dX14_take_6 : decode cX14_take 6 = .ok (.if_icmp .ne 7, 3) := by decide +kernel
theorem dX14_take_13 : decode cX14_take 13 = .ok (.iconst 0, 1) := by decide +kernel
theorem dX14_take_14 : decode cX14_take 14 = .ok (.invokevirtual 141, 3) := by decide +kernel
theorem dX14_take_17 : decode cX14_take 17 = .ok (.ifCond .eq 13, 3) := by decide +kernel
theorem dX14_take_30 : decode cX14_take 30 = .ok (.return_, 1) := by decide +kernel
theorem dX14_take_20 : decode cX14_take 20 = .ok (.aload_n 0, 1) := by decide +kernel
theorem dX14_take_21 : decode cX14_take 21 = .ok (.dup, 1) := by decide +kernel
theorem dX14_take_22 : decode cX14_take 22 = .ok (.getfield 131, 3) := by decide +kernel
theorem dX14_take_25 : decode cX14_take 25 = .ok (.iconst 1, 1) := by decide +kernel
theorem dX14_take_26 : decode cX14_take 26 = .ok (.iadd, 1) := by decide +kernel
theorem dX14_take_27 : decode cX14_take 27 = .ok (.putfield 131, 3) := by decide +kernel
theorem dX14_take_9 : decode cX14_take 9 = .ok (.iconst 1, 1) := by decide +kernel
theorem dX14_take_10 : decode cX14_take 10 = .ok (.goto 4, 3) := by decide +kernel
theorem dX14_takeStop_0 : decode cX14_takeStop 0 = .ok (.aload_n 0, 1) := by decide +kernel
theorem dX14_takeStop_1 : decode cX14_takeStop 1 = .ok (.aload_n 0, 1) := by decide +kernel
theorem dX14_takeStop_2 : decode cX14_takeStop 2 = .ok (.bipush 59, 2) := by decide +kernel
theorem dX14_takeStop_4 : decode cX14_takeStop 4 = .ok (.invokevirtual 145, 3) := by decide +kernel
theorem dX14_takeStop_7 : decode cX14_takeStop 7 = .ok (.invokevirtual 141, 3) := by decide +kernel
theorem dX14_takeStop_10 : decode cX14_takeStop 10 = .ok (.ifCond .eq 13, 3) := by decide +kernel
theorem dX14_takeStop_23 : decode cX14_takeStop 23 = .ok (.return_, 1) := by decide +kernel
theorem dX14_takeStop_13 : decode cX14_takeStop 13 = .ok (.aload_n 0, 1) := by decide +kernel
theorem dX14_takeStop_14 : decode cX14_takeStop 14 = .ok (.dup, 1) := by decide +kernel
theorem dX14_takeStop_15 : decode cX14_takeStop 15 = .ok (.getfield 131, 3) := by decide +kernel
theorem dX14_takeStop_18 : decode cX14_takeStop 18 = .ok (.iconst 1, 1) := by decide +kernel
theorem dX14_takeStop_19 : decode cX14_takeStop 19 = .ok (.iadd, 1) := by decide +kernel
theorem dX14_takeStop_20 : decode cX14_takeStop 20 = .ok (.putfield 131, 3) := by decide +kernel
theorem dX14_look_0 : decode cX14_look 0 = .ok (.aload_n 0, 1) := by decide +kernel
theorem dX14_look_1 : decode cX14_look 1 = .ok (.getfield 131, 3) := by decide +kernel
theorem dX14_look_4 : decode cX14_look 4 = .ok (.aload_n 0, 1) := by decide +kernel
theorem dX14_look_5 : decode cX14_look 5 = .ok (.getfield 125, 3) := by decide +kernel
theorem dX14_look_8 : decode cX14_look 8 = .ok (.if_icmp .ge 52, 3) := by decide +kernel
theorem dX14_look_60 : decode cX14_look 60 = .ok (.iconst 0, 1) := by decide +kernel
theorem dX14_look_61 : decode cX14_look 61 = .ok (.istore_n 3, 1) := by decide +kernel
theorem dX14_look_62 : decode cX14_look 62 = .ok (.iconst 0, 1) := by decide +kernel
theorem dX14_look_63 : decode cX14_look 63 = .ok (.istore 4, 2) := by decide +kernel
theorem dX14_look_65 : decode cX14_look 65 = .ok (.iload_n 3, 1) := by decide +kernel
theorem dX14_look_66 : decode cX14_look 66 = .ok (.ifCond .eq 15, 3) := by decide +kernel
theorem dX14_look_81 : decode cX14_look 81 = .ok (.iconst 0, 1) := by decide +kernel
theorem dX14_look_82 : decode cX14_look 82 = .ok (.istore 5, 2) := by decide +kernel
theorem dX14_look_84 : decode cX14_look 84 = .ok (.iload_n 3, 1) := by decide +kernel
theorem dX14_look_85 : decode cX14_look 85 = .ok (.ifCond .eq 41, 3) := by decide +kernel
theorem dX14_look_88 : decode cX14_look 88 = .ok (.iload 5, 2) := by decide +kernel
theorem dX14_look_90 : decode cX14_look 90 = .ok (.aload_n 0, 1) := by decide +kernel
theorem dX14_look_91 : decode cX14_look 91 = .ok (.getfield 26, 3) := by decide +kernel
theorem dX14_look_94 : decode cX14_look 94 = .ok (.aload_n 0, 1) := by decide +kernel
theorem dX14_look_95 : decode cX14_look 95 = .ok (.getfield 131, 3) := by decide +kernel
theorem dX14_look_98 : decode cX14_look 98 = .ok (.iaload, 1) := by decide +kernel
theorem dX14_look_99 : decode cX14_look 99 = .ok (.if_icmp .ge 27, 3) := by decide +kernel
theorem dX14_look_102 : decode cX14_look 102 = .ok (.bipush 10, 2) := by decide +kernel
theorem dX14_look_104 : decode cX14_look 104 = .ok (.iload 4, 2) := by decide +kernel
theorem dX14_look_106 : decode cX14_look 106 = .ok (.imul, 1) := by decide +kernel
theorem dX14_look_107 : decode cX14_look 107 = .ok (.aload_n 0, 1) := by decide +kernel
theorem dX14_look_108 : decode cX14_look 108 = .ok (.getfield 20, 3) := by decide +kernel
theorem dX14_look_111 : decode cX14_look 111 = .ok (.iload 5, 2) := by decide +kernel
theorem dX14_look_113 : decode cX14_look 113 = .ok (.iaload, 1) := by decide +kernel
theorem dX14_look_114 : decode cX14_look 114 = .ok (.iadd, 1) := by decide +kernel
theorem dX14_look_115 : decode cX14_look 115 = .ok (.bipush 48, 2) := by decide +kernel
theorem dX14_look_117 : decode cX14_look 117 = .ok (.isub, 1) := by decide +kernel
theorem dX14_look_118 : decode cX14_look 118 = .ok (.istore 4, 2) := by decide +kernel
theorem dX14_look_120 : decode cX14_look 120 = .ok (.iinc 5 1, 3) := by decide +kernel
theorem dX14_look_123 : decode cX14_look 123 = .ok (.goto (-39), 3) := by decide +kernel
theorem dX14_look_126 : decode cX14_look 126 = .ok (.aload_n 0, 1) := by decide +kernel
theorem dX14_look_127 : decode cX14_look 127 = .ok (.iload_n 3, 1) := by decide +kernel
theorem dX14_look_128 : decode cX14_look 128 = .ok (.ifCond .eq 19, 3) := by decide +kernel
theorem dX14_look_147 : decode cX14_look 147 = .ok (.iconst 0, 1) := by decide +kernel
theorem dX14_look_148 : decode cX14_look 148 = .ok (.invokevirtual 141, 3) := by decide +kernel
theorem dX14_look_151 : decode cX14_look 151 = .ok (.ifCond .eq 8, 3) := by decide +kernel
theorem dX14_look_159 : decode cX14_look 159 = .ok (.iconst (-1), 1) := by decide +kernel
theorem dX14_look_160 : decode cX14_look 160 = .ok (.ireturn, 1) := by decide +kernel
theorem dX14_look_154 : decode cX14_look 154 = .ok (.iload 4, 2) := by decide +kernel
theorem dX14_look_156 : decode cX14_look 156 = .ok (.goto 4, 3) := by decide +kernel
theorem dX14_look_131 : decode cX14_look 131 = .ok (.iload 4, 2) := by decide +kernel
theorem dX14_look_133 : decode cX14_look 133 = .ok (.iload_n 1, 1) := by decide +kernel
theorem dX14_look_134 : decode cX14_look 134 = .ok (.if_icmp .lt 13, 3) := by decide +kernel
theorem dX14_look_137 : decode cX14_look 137 = .ok (.iload 4, 2) := by decide +kernel
theorem dX14_look_139 : decode cX14_look 139 = .ok (.iload_n 2, 1) := by decide +kernel
theorem dX14_look_140 : decode cX14_look 140 = .ok (.if_icmp .gt 7, 3) := by decide +kernel
theorem dX14_look_143 : decode cX14_look 143 = .ok (.iconst 1, 1) := by decide +kernel
theorem dX14_look_144 : decode cX14_look 144 = .ok (.goto 4, 3) := by decide +kernel
theorem dX14_look_69 : decode cX14_look 69 = .ok (.aload_n 0, 1) := by decide +kernel
theorem dX14_look_70 : decode cX14_look 70 = .ok (.getfield 23, 3) := by decide +kernel
theorem dX14_look_73 : decode cX14_look 73 = .ok (.aload_n 0, 1) := by decide +kernel
theorem dX14_look_74 : decode cX14_look 74 = .ok (.getfield 131, 3) := by decide +kernel
theorem dX14_look_77 : decode cX14_look 77 = .ok (.iaload, 1) := by decide +kernel
theorem dX14_look_78 : decode cX14_look 78 = .ok (.goto 4, 3) := by decide +kernel
theorem dX14_look_11 : decode cX14_look 11 = .ok (.aload_n 0, 1) := by decide +kernel
theorem dX14_look_12 : decode cX14_look 12 = .ok (.getfield 20, 3) := by decide +kernel
theorem dX14_look_15 : decode cX14_look 15 = .ok (.aload_n 0, 1) := by decide +kernel
theorem dX14_look_16 : decode cX14_look 16 = .ok (.getfield 23, 3) := by decide +kernel
theorem dX14_look_19 : decode cX14_look 19 = .ok (.aload_n 0, 1) := by decide +kernel
theorem dX14_look_20 : decode cX14_look 20 = .ok (.getfield 131, 3) := by decide +kernel
theorem dX14_look_23 : decode cX14_look 23 = .ok (.iaload, 1) := by decide +kernel
theorem dX14_look_24 : decode cX14_look 24 = .ok (.iaload, 1) := by decide +kernel
theorem dX14_look_25 : decode cX14_look 25 = .ok (.invokestatic 128, 3) := by decide +kernel
theorem dX14_look_28 : decode cX14_look 28 = .ok (.iconst 2, 1) := by decide +kernel
theorem dX14_look_29 : decode cX14_look 29 = .ok (.if_icmp .ne 31, 3) := by decide +kernel
theorem dX14_look_32 : decode cX14_look 32 = .ok (.aload_n 0, 1) := by decide +kernel
theorem dX14_look_33 : decode cX14_look 33 = .ok (.getfield 26, 3) := by decide +kernel
theorem dX14_look_36 : decode cX14_look 36 = .ok (.aload_n 0, 1) := by decide +kernel
theorem dX14_look_37 : decode cX14_look 37 = .ok (.getfield 131, 3) := by decide +kernel
theorem dX14_look_40 : decode cX14_look 40 = .ok (.iaload, 1) := by decide +kernel
theorem dX14_look_41 : decode cX14_look 41 = .ok (.aload_n 0, 1) := by decide +kernel
theorem dX14_look_42 : decode cX14_look 42 = .ok (.getfield 23, 3) := by decide +kernel
theorem dX14_look_45 : decode cX14_look 45 = .ok (.aload_n 0, 1) := by decide +kernel
theorem dX14_look_46 : decode cX14_look 46 = .ok (.getfield 131, 3) := by decide +kernel
theorem dX14_look_49 : decode cX14_look 49 = .ok (.iaload, 1) := by decide +kernel
theorem dX14_look_50 : decode cX14_look 50 = .ok (.isub, 1) := by decide +kernel
theorem dX14_look_51 : decode cX14_look 51 = .ok (.bipush 6, 2) := by decide +kernel
theorem dX14_look_53 : decode cX14_look 53 = .ok (.if_icmp .gt 7, 3) := by decide +kernel
theorem dX14_look_56 : decode cX14_look 56 = .ok (.iconst 1, 1) := by decide +kernel
theorem dX14_look_57 : decode cX14_look 57 = .ok (.goto 4, 3) := by decide +kernel
theorem dX14_takeNumber_0 : decode cX14_takeNumber 0 = .ok (.aload_n 0, 1) := by decide +kernel
theorem dX14_takeNumber_1 : decode cX14_takeNumber 1 = .ok (.iload_n 1, 1) := by decide +kernel
theorem dX14_takeNumber_2 : decode cX14_takeNumber 2 = .ok (.iload_n 2, 1) := by decide +kernel
theorem dX14_takeNumber_3 : decode cX14_takeNumber 3 = .ok (.invokevirtual 149, 3) := by decide +kernel
theorem dX14_takeNumber_6 : decode cX14_takeNumber 6 = .ok (.istore_n 3, 1) := by decide +kernel
theorem dX14_takeNumber_7 : decode cX14_takeNumber 7 = .ok (.aload_n 0, 1) := by decide +kernel
theorem dX14_takeNumber_8 : decode cX14_takeNumber 8 = .ok (.dup, 1) := by decide +kernel
theorem dX14_takeNumber_9 : decode cX14_takeNumber 9 = .ok (.getfield 131, 3) := by decide +kernel
theorem dX14_takeNumber_12 : decode cX14_takeNumber 12 = .ok (.aload_n 0, 1) := by decide +kernel
theorem dX14_takeNumber_13 : decode cX14_takeNumber 13 = .ok (.getfield 134, 3) := by decide +kernel
theorem dX14_takeNumber_16 : decode cX14_takeNumber 16 = .ok (.ifCond .ge 7, 3) := by decide +kernel
theorem dX14_takeNumber_23 : decode cX14_takeNumber 23 = .ok (.iconst 0, 1) := by decide +kernel
theorem dX14_takeNumber_24 : decode cX14_takeNumber 24 = .ok (.iadd, 1) := by decide +kernel
theorem dX14_takeNumber_25 : decode cX14_takeNumber 25 = .ok (.putfield 131, 3) := by decide +kernel
theorem dX14_takeNumber_28 : decode cX14_takeNumber 28 = .ok (.iload_n 3, 1) := by decide +kernel
theorem dX14_takeNumber_29 : decode cX14_takeNumber 29 = .ok (.ireturn, 1) := by decide +kernel
theorem dX14_takeNumber_19 : decode cX14_takeNumber 19 = .ok (.iconst 1, 1) := by decide +kernel
theorem dX14_takeNumber_20 : decode cX14_takeNumber 20 = .ok (.goto 4, 3) := by decide +kernel
theorem dX14_has_0 : decode cX14_has 0 = .ok (.iconst 0, 1) := by decide +kernel
theorem dX14_has_1 : decode cX14_has 1 = .ok (.istore_n 3, 1) := by decide +kernel
theorem dX14_has_2 : decode cX14_has 2 = .ok (.iconst 0, 1) := by decide +kernel
theorem dX14_has_3 : decode cX14_has 3 = .ok (.istore 4, 2) := by decide +kernel
theorem dX14_has_5 : decode cX14_has 5 = .ok (.iload 4, 2) := by decide +kernel
theorem dX14_has_7 : decode cX14_has 7 = .ok (.aload_n 0, 1) := by decide +kernel
theorem dX14_has_8 : decode cX14_has 8 = .ok (.getfield 35, 3) := by decide +kernel
theorem dX14_has_11 : decode cX14_has 11 = .ok (.iload_n 1, 1) := by decide +kernel
theorem dX14_has_12 : decode cX14_has 12 = .ok (.iaload, 1) := by decide +kernel
theorem dX14_has_13 : decode cX14_has 13 = .ok (.if_icmp .ge 35, 3) := by decide +kernel
theorem dX14_has_16 : decode cX14_has 16 = .ok (.iload_n 3, 1) := by decide +kernel
theorem dX14_has_17 : decode cX14_has 17 = .ok (.ifCond .ne 19, 3) := by decide +kernel
theorem dX14_has_36 : decode cX14_has 36 = .ok (.iconst 1, 1) := by decide +kernel
theorem dX14_has_37 : decode cX14_has 37 = .ok (.goto 4, 3) := by decide +kernel
theorem dX14_has_41 : decode cX14_has 41 = .ok (.istore_n 3, 1) := by decide +kernel
theorem dX14_has_42 : decode cX14_has 42 = .ok (.iinc 4 1, 3) := by decide +kernel
theorem dX14_has_45 : decode cX14_has 45 = .ok (.goto (-40), 3) := by decide +kernel
theorem dX14_has_20 : decode cX14_has 20 = .ok (.aload_n 0, 1) := by decide +kernel
theorem dX14_has_21 : decode cX14_has 21 = .ok (.getfield 38, 3) := by decide +kernel
theorem dX14_has_24 : decode cX14_has 24 = .ok (.bipush 12, 2) := by decide +kernel
theorem dX14_has_26 : decode cX14_has 26 = .ok (.iload_n 1, 1) := by decide +kernel
theorem dX14_has_27 : decode cX14_has 27 = .ok (.imul, 1) := by decide +kernel
theorem dX14_has_28 : decode cX14_has 28 = .ok (.iload 4, 2) := by decide +kernel
theorem dX14_has_30 : decode cX14_has 30 = .ok (.iadd, 1) := by decide +kernel
theorem dX14_has_31 : decode cX14_has 31 = .ok (.iaload, 1) := by decide +kernel
theorem dX14_has_32 : decode cX14_has 32 = .ok (.iload_n 2, 1) := by decide +kernel
theorem dX14_has_33 : decode cX14_has 33 = .ok (.if_icmp .ne 7, 3) := by decide +kernel
theorem dX14_has_40 : decode cX14_has 40 = .ok (.iconst 0, 1) := by decide +kernel
theorem dX14_has_48 : decode cX14_has 48 = .ok (.iload_n 3, 1) := by decide +kernel
theorem dX14_has_49 : decode cX14_has 49 = .ok (.ireturn, 1) := by decide +kernel
theorem dX14_readZone_0 : decode cX14_readZone 0 = .ok (.aload_n 0, 1) := by decide +kernel
theorem dX14_readZone_1 : decode cX14_readZone 1 = .ok (.iconst 0, 1) := by decide +kernel
theorem dX14_readZone_2 : decode cX14_readZone 2 = .ok (.bipush 19, 2) := by decide +kernel
theorem dX14_readZone_4 : decode cX14_readZone 4 = .ok (.invokevirtual 149, 3) := by decide +kernel
theorem dX14_readZone_7 : decode cX14_readZone 7 = .ok (.bipush 20, 2) := by decide +kernel
theorem dX14_readZone_9 : decode cX14_readZone 9 = .ok (.iadd, 1) := by decide +kernel
theorem dX14_readZone_10 : decode cX14_readZone 10 = .ok (.istore_n 1, 1) := by decide +kernel
theorem dX14_readZone_11 : decode cX14_readZone 11 = .ok (.aload_n 0, 1) := by decide +kernel
theorem dX14_readZone_12 : decode cX14_readZone 12 = .ok (.getfield 134, 3) := by decide +kernel
theorem dX14_readZone_15 : decode cX14_readZone 15 = .ok (.ifCond .ge 24, 3) := by decide +kernel
theorem dX14_readZone_39 : decode cX14_readZone 39 = .ok (.return_, 1) := by decide +kernel
theorem dX14_readZone_18 : decode cX14_readZone 18 = .ok (.aload_n 0, 1) := by decide +kernel
theorem dX14_readZone_19 : decode cX14_readZone 19 = .ok (.aload_n 0, 1) := by decide +kernel
theorem dX14_readZone_20 : decode cX14_readZone 20 = .ok (.getfield 29, 3) := by decide +kernel
theorem dX14_readZone_23 : decode cX14_readZone 23 = .ok (.iload_n 1, 1) := by decide +kernel
theorem dX14_readZone_24 : decode cX14_readZone 24 = .ok (.baload, 1) := by decide +kernel
theorem dX14_readZone_25 : decode cX14_readZone 25 = .ok (.ifCond .ne 7, 3) := by decide +kernel
theorem dX14_readZone_32 : decode cX14_readZone 32 = .ok (.iconst 0, 1) := by decide +kernel
theorem dX14_readZone_33 : decode cX14_readZone 33 = .ok (.invokevirtual 141, 3) := by decide +kernel
theorem dX14_readZone_36 : decode cX14_readZone 36 = .ok (.ifCond .ne 4, 3) := by decide +kernel
theorem dX14_readZone_40 : decode cX14_readZone 40 = .ok (.aload_n 0, 1) := by decide +kernel
theorem dX14_readZone_41 : decode cX14_readZone 41 = .ok (.dup, 1) := by decide +kernel
theorem dX14_readZone_42 : decode cX14_readZone 42 = .ok (.getfield 131, 3) := by decide +kernel
theorem dX14_readZone_45 : decode cX14_readZone 45 = .ok (.iconst 1, 1) := by decide +kernel
theorem dX14_readZone_46 : decode cX14_readZone 46 = .ok (.iadd, 1) := by decide +kernel
theorem dX14_readZone_47 : decode cX14_readZone 47 = .ok (.putfield 131, 3) := by decide +kernel
theorem dX14_readZone_50 : decode cX14_readZone 50 = .ok (.aload_n 0, 1) := by decide +kernel
theorem dX14_readZone_51 : decode cX14_readZone 51 = .ok (.ldc 117, 2) := by decide +kernel
theorem dX14_readZone_53 : decode cX14_readZone 53 = .ok (.invokevirtual 153, 3) := by decide +kernel
theorem dX14_readZone_56 : decode cX14_readZone 56 = .ok (.aload_n 0, 1) := by decide +kernel
theorem dX14_readZone_57 : decode cX14_readZone 57 = .ok (.getfield 131, 3) := by decide +kernel
theorem dX14_readZone_60 : decode cX14_readZone 60 = .ok (.istore_n 2, 1) := by decide +kernel
theorem dX14_readZone_61 : decode cX14_readZone 61 = .ok (.aload_n 0, 1) := by decide +kernel
theorem dX14_readZone_62 : decode cX14_readZone 62 = .ok (.iconst 1, 1) := by decide +kernel
theorem dX14_readZone_63 : decode cX14_readZone 63 = .ok (.bipush 12, 2) := by decide +kernel
theorem dX14_readZone_65 : decode cX14_readZone 65 = .ok (.invokevirtual 156, 3) := by decide +kernel
theorem dX14_readZone_68 : decode cX14_readZone 68 = .ok (.istore_n 3, 1) := by decide +kernel
theorem dX14_readZone_69 : decode cX14_readZone 69 = .ok (.aload_n 0, 1) := by decide +kernel
theorem dX14_readZone_70 : decode cX14_readZone 70 = .ok (.sipush 207, 3) := by decide +kernel
theorem dX14_readZone_73 : decode cX14_readZone 73 = .ok (.invokevirtual 153, 3) := by decide +kernel
theorem dX14_readZone_76 : decode cX14_readZone 76 = .ok (.aload_n 0, 1) := by decide +kernel
theorem dX14_readZone_77 : decode cX14_readZone 77 = .ok (.getfield 35, 3) := by decide +kernel
theorem dX14_readZone_80 : decode cX14_readZone 80 = .ok (.iload_n 1, 1) := by decide +kernel
theorem dX14_readZone_81 : decode cX14_readZone 81 = .ok (.iconst 0, 1) := by decide +kernel
theorem dX14_readZone_82 : decode cX14_readZone 82 = .ok (.iastore, 1) := by decide +kernel
theorem dX14_readZone_83 : decode cX14_readZone 83 = .ok (.iconst 1, 1) := by decide +kernel
theorem dX14_readZone_84 : decode cX14_readZone 84 = .ok (.istore 4, 2) := by decide +kernel
theorem dX14_readZone_86 : decode cX14_readZone 86 = .ok (.iload 4, 2) := by decide +kernel
theorem dX14_readZone_88 : decode cX14_readZone 88 = .ok (.ifCond .eq 120, 3) := by decide +kernel
theorem dX14_readZone_91 : decode cX14_readZone 91 = .ok (.aload_n 0, 1) := by decide +kernel
theorem dX14_readZone_92 : decode cX14_readZone 92 = .ok (.getfield 134, 3) := by decide +kernel
theorem dX14_readZone_95 : decode cX14_readZone 95 = .ok (.ifCond .ge 113, 3) := by decide +kernel
theorem dX14_readZone_98 : decode cX14_readZone 98 = .ok (.aload_n 0, 1) := by decide +kernel
theorem dX14_readZone_99 : decode cX14_readZone 99 = .ok (.iconst 0, 1) := by decide +kernel
theorem dX14_readZone_100 : decode cX14_readZone 100 = .ok (.aload_n 0, 1) := by decide +kernel
theorem dX14_readZone_101 : decode cX14_readZone 101 = .ok (.getfield 159, 3) := by decide +kernel
theorem dX14_readZone_104 : decode cX14_readZone 104 = .ok (.iconst 1, 1) := by decide +kernel
theorem dX14_readZone_105 : decode cX14_readZone 105 = .ok (.isub, 1) := by decide +kernel
theorem dX14_readZone_106 : decode cX14_readZone 106 = .ok (.invokevirtual 149, 3) := by decide +kernel
theorem dX14_readZone_109 : decode cX14_readZone 109 = .ok (.istore 5, 2) := by decide +kernel
theorem dX14_readZone_111 : decode cX14_readZone 111 = .ok (.aload_n 0, 1) := by decide +kernel
theorem dX14_readZone_112 : decode cX14_readZone 112 = .ok (.getfield 134, 3) := by decide +kernel
theorem dX14_readZone_115 : decode cX14_readZone 115 = .ok (.ifCond .ge 74, 3) := by decide +kernel
theorem dX14_readZone_189 : decode cX14_readZone 189 = .ok (.aload_n 0, 1) := by decide +kernel
theorem dX14_readZone_190 : decode cX14_readZone 190 = .ok (.bipush 59, 2) := by decide +kernel
theorem dX14_readZone_192 : decode cX14_readZone 192 = .ok (.invokevirtual 145, 3) := by decide +kernel
theorem dX14_readZone_195 : decode cX14_readZone 195 = .ok (.ifCond .ne 7, 3) := by decide +kernel
theorem dX14_readZone_202 : decode cX14_readZone 202 = .ok (.iconst 0, 1) := by decide +kernel
theorem dX14_readZone_203 : decode cX14_readZone 203 = .ok (.istore 4, 2) := by decide +kernel
theorem dX14_readZone_205 : decode cX14_readZone 205 = .ok (.goto (-119), 3) := by decide +kernel
theorem dX14_readZone_198 : decode cX14_readZone 198 = .ok (.iconst 1, 1) := by decide +kernel
theorem dX14_readZone_199 : decode cX14_readZone 199 = .ok (.goto 4, 3) := by decide +kernel
theorem dX14_readZone_118 : decode cX14_readZone 118 = .ok (.aload_n 0, 1) := by decide +kernel
theorem dX14_readZone_119 : decode cX14_readZone 119 = .ok (.aload_n 0, 1) := by decide +kernel
theorem dX14_readZone_120 : decode cX14_readZone 120 = .ok (.getfield 35, 3) := by decide +kernel
theorem dX14_readZone_123 : decode cX14_readZone 123 = .ok (.iload_n 1, 1) := by decide +kernel
theorem dX14_readZone_124 : decode cX14_readZone 124 = .ok (.iaload, 1) := by decide +kernel
theorem dX14_readZone_125 : decode cX14_readZone 125 = .ok (.bipush 12, 2) := by decide +kernel
theorem dX14_readZone_127 : decode cX14_readZone 127 = .ok (.if_icmp .ge 17, 3) := by decide +kernel
theorem dX14_readZone_144 : decode cX14_readZone 144 = .ok (.iconst 0, 1) := by decide +kernel
theorem dX14_readZone_145 : decode cX14_readZone 145 = .ok (.invokevirtual 141, 3) := by decide +kernel
theorem dX14_readZone_148 : decode cX14_readZone 148 = .ok (.ifCond .eq 41, 3) := by decide +kernel
theorem dX14_readZone_151 : decode cX14_readZone 151 = .ok (.aload_n 0, 1) := by decide +kernel
theorem dX14_readZone_152 : decode cX14_readZone 152 = .ok (.getfield 38, 3) := by decide +kernel
theorem dX14_readZone_155 : decode cX14_readZone 155 = .ok (.bipush 12, 2) := by decide +kernel
theorem dX14_readZone_157 : decode cX14_readZone 157 = .ok (.iload_n 1, 1) := by decide +kernel
theorem dX14_readZone_158 : decode cX14_readZone 158 = .ok (.imul, 1) := by decide +kernel
theorem dX14_readZone_159 : decode cX14_readZone 159 = .ok (.aload_n 0, 1) := by decide +kernel
theorem dX14_readZone_160 : decode cX14_readZone 160 = .ok (.getfield 35, 3) := by decide +kernel
theorem dX14_readZone_163 : decode cX14_readZone 163 = .ok (.iload_n 1, 1) := by decide +kernel
theorem dX14_readZone_164 : decode cX14_readZone 164 = .ok (.iaload, 1) := by decide +kernel
theorem dX14_readZone_165 : decode cX14_readZone 165 = .ok (.iadd, 1) := by decide +kernel
theorem dX14_readZone_166 : decode cX14_readZone 166 = .ok (.iload 5, 2) := by decide +kernel
theorem dX14_readZone_168 : decode cX14_readZone 168 = .ok (.iastore, 1) := by decide +kernel
theorem dX14_readZone_169 : decode cX14_readZone 169 = .ok (.aload_n 0, 1) := by decide +kernel
theorem dX14_readZone_170 : decode cX14_readZone 170 = .ok (.getfield 35, 3) := by decide +kernel
theorem dX14_readZone_173 : decode cX14_readZone 173 = .ok (.iload_n 1, 1) := by decide +kernel
theorem dX14_readZone_174 : decode cX14_readZone 174 = .ok (.dup2, 1) := by decide +kernel
theorem dX14_readZone_175 : decode cX14_readZone 175 = .ok (.iaload, 1) := by decide +kernel
theorem dX14_readZone_176 : decode cX14_readZone 176 = .ok (.iconst 1, 1) := by decide +kernel
theorem dX14_readZone_177 : decode cX14_readZone 177 = .ok (.iadd, 1) := by decide +kernel
theorem dX14_readZone_178 : decode cX14_readZone 178 = .ok (.iastore, 1) := by decide +kernel
theorem dX14_readZone_179 : decode cX14_readZone 179 = .ok (.aload_n 0, 1) := by decide +kernel
theorem dX14_readZone_180 : decode cX14_readZone 180 = .ok (.dup, 1) := by decide +kernel
theorem dX14_readZone_181 : decode cX14_readZone 181 = .ok (.getfield 131, 3) := by decide +kernel
theorem dX14_readZone_184 : decode cX14_readZone 184 = .ok (.iconst 1, 1) := by decide +kernel
theorem dX14_readZone_185 : decode cX14_readZone 185 = .ok (.iadd, 1) := by decide +kernel
theorem dX14_readZone_186 : decode cX14_readZone 186 = .ok (.putfield 131, 3) := by decide +kernel
theorem dX14_readZone_130 : decode cX14_readZone 130 = .ok (.aload_n 0, 1) := by decide +kernel
theorem dX14_readZone_131 : decode cX14_readZone 131 = .ok (.iload_n 1, 1) := by decide +kernel
theorem dX14_readZone_132 : decode cX14_readZone 132 = .ok (.iload 5, 2) := by decide +kernel
theorem dX14_readZone_134 : decode cX14_readZone 134 = .ok (.invokevirtual 162, 3) := by decide +kernel
theorem dX14_readZone_137 : decode cX14_readZone 137 = .ok (.ifCond .ne 7, 3) := by decide +kernel
theorem dX14_readZone_140 : decode cX14_readZone 140 = .ok (.iconst 1, 1) := by decide +kernel
theorem dX14_readZone_141 : decode cX14_readZone 141 = .ok (.goto 4, 3) := by decide +kernel
theorem dX14_readZone_208 : decode cX14_readZone 208 = .ok (.aload_n 0, 1) := by decide +kernel
theorem dX14_readZone_209 : decode cX14_readZone 209 = .ok (.getfield 134, 3) := by decide +kernel
theorem dX14_readZone_212 : decode cX14_readZone 212 = .ok (.ifCond .ge 46, 3) := by decide +kernel
theorem dX14_readZone_258 : decode cX14_readZone 258 = .ok (.return_, 1) := by decide +kernel
theorem dX14_readZone_215 : decode cX14_readZone 215 = .ok (.aload_n 0, 1) := by decide +kernel
theorem dX14_readZone_216 : decode cX14_readZone 216 = .ok (.dup, 1) := by decide +kernel
theorem dX14_readZone_217 : decode cX14_readZone 217 = .ok (.getfield 131, 3) := by decide +kernel
theorem dX14_readZone_220 : decode cX14_readZone 220 = .ok (.iconst 1, 1) := by decide +kernel
theorem dX14_readZone_221 : decode cX14_readZone 221 = .ok (.iadd, 1) := by decide +kernel
theorem dX14_readZone_222 : decode cX14_readZone 222 = .ok (.putfield 131, 3) := by decide +kernel
theorem dX14_readZone_225 : decode cX14_readZone 225 = .ok (.aload_n 0, 1) := by decide +kernel
theorem dX14_readZone_226 : decode cX14_readZone 226 = .ok (.iload_n 3, 1) := by decide +kernel
theorem dX14_readZone_227 : decode cX14_readZone 227 = .ok (.aload_n 0, 1) := by decide +kernel
theorem dX14_readZone_228 : decode cX14_readZone 228 = .ok (.getfield 35, 3) := by decide +kernel
theorem dX14_readZone_231 : decode cX14_readZone 231 = .ok (.iload_n 1, 1) := by decide +kernel
theorem dX14_readZone_232 : decode cX14_readZone 232 = .ok (.iaload, 1) := by decide +kernel
theorem dX14_readZone_233 : decode cX14_readZone 233 = .ok (.if_icmp .le 7, 3) := by decide +kernel
theorem dX14_readZone_240 : decode cX14_readZone 240 = .ok (.iconst (-1), 1) := by decide +kernel
theorem dX14_readZone_241 : decode cX14_readZone 241 = .ok (.putfield 134, 3) := by decide +kernel
theorem dX14_readZone_244 : decode cX14_readZone 244 = .ok (.aload_n 0, 1) := by decide +kernel
theorem dX14_readZone_245 : decode cX14_readZone 245 = .ok (.getfield 32, 3) := by decide +kernel
theorem dX14_readZone_248 : decode cX14_readZone 248 = .ok (.iload_n 1, 1) := by decide +kernel
theorem dX14_readZone_249 : decode cX14_readZone 249 = .ok (.iload_n 3, 1) := by decide +kernel
theorem dX14_readZone_250 : decode cX14_readZone 250 = .ok (.iastore, 1) := by decide +kernel
theorem dX14_readZone_251 : decode cX14_readZone 251 = .ok (.aload_n 0, 1) := by decide +kernel
theorem dX14_readZone_252 : decode cX14_readZone 252 = .ok (.getfield 29, 3) := by decide +kernel
theorem dX14_readZone_255 : decode cX14_readZone 255 = .ok (.iload_n 1, 1) := by decide +kernel
theorem dX14_readZone_256 : decode cX14_readZone 256 = .ok (.iconst 1, 1) := by decide +kernel
theorem dX14_readZone_257 : decode cX14_readZone 257 = .ok (.bastore, 1) := by decide +kernel
theorem dX14_readZone_236 : decode cX14_readZone 236 = .ok (.iload_n 2, 1) := by decide +kernel
theorem dX14_readZone_237 : decode cX14_readZone 237 = .ok (.goto 4, 3) := by decide +kernel
theorem dX14_readZone_28 : decode cX14_readZone 28 = .ok (.iconst 1, 1) := by decide +kernel
theorem dX14_readZone_29 : decode cX14_readZone 29 = .ok (.goto 4, 3) := by decide +kernel
theorem dX14_readAct_0 : decode cX14_readAct 0 = .ok (.aload_n 0, 1) := by decide +kernel
theorem dX14_readAct_1 : decode cX14_readAct 1 = .ok (.iconst 0, 1) := by decide +kernel
theorem dX14_readAct_2 : decode cX14_readAct 2 = .ok (.bipush 19, 2) := by decide +kernel
theorem dX14_readAct_4 : decode cX14_readAct 4 = .ok (.invokevirtual 149, 3) := by decide +kernel
theorem dX14_readAct_7 : decode cX14_readAct 7 = .ok (.bipush 20, 2) := by decide +kernel
theorem dX14_readAct_9 : decode cX14_readAct 9 = .ok (.iadd, 1) := by decide +kernel
theorem dX14_readAct_10 : decode cX14_readAct 10 = .ok (.istore_n 1, 1) := by decide +kernel
theorem dX14_readAct_11 : decode cX14_readAct 11 = .ok (.aload_n 0, 1) := by decide +kernel
theorem dX14_readAct_12 : decode cX14_readAct 12 = .ok (.getfield 134, 3) := by decide +kernel
theorem dX14_readAct_15 : decode cX14_readAct 15 = .ok (.ifCond .ge 24, 3) := by decide +kernel
theorem dX14_readAct_39 : decode cX14_readAct 39 = .ok (.return_, 1) := by decide +kernel
theorem dX14_readAct_18 : decode cX14_readAct 18 = .ok (.aload_n 0, 1) := by decide +kernel
theorem dX14_readAct_19 : decode cX14_readAct 19 = .ok (.aload_n 0, 1) := by decide +kernel
theorem dX14_readAct_20 : decode cX14_readAct 20 = .ok (.getfield 41, 3) := by decide +kernel
theorem dX14_readAct_23 : decode cX14_readAct 23 = .ok (.iload_n 1, 1) := by decide +kernel
theorem dX14_readAct_24 : decode cX14_readAct 24 = .ok (.baload, 1) := by decide +kernel
theorem dX14_readAct_25 : decode cX14_readAct 25 = .ok (.ifCond .ne 7, 3) := by decide +kernel
theorem dX14_readAct_32 : decode cX14_readAct 32 = .ok (.iconst 0, 1) := by decide +kernel
theorem dX14_readAct_33 : decode cX14_readAct 33 = .ok (.invokevirtual 141, 3) := by decide +kernel
theorem dX14_readAct_36 : decode cX14_readAct 36 = .ok (.ifCond .ne 4, 3) := by decide +kernel
theorem dX14_readAct_40 : decode cX14_readAct 40 = .ok (.aload_n 0, 1) := by decide +kernel
theorem dX14_readAct_41 : decode cX14_readAct 41 = .ok (.dup, 1) := by decide +kernel
theorem dX14_readAct_42 : decode cX14_readAct 42 = .ok (.getfield 131, 3) := by decide +kernel
theorem dX14_readAct_45 : decode cX14_readAct 45 = .ok (.iconst 1, 1) := by decide +kernel
theorem dX14_readAct_46 : decode cX14_readAct 46 = .ok (.iadd, 1) := by decide +kernel
theorem dX14_readAct_47 : decode cX14_readAct 47 = .ok (.putfield 131, 3) := by decide +kernel
theorem dX14_readAct_50 : decode cX14_readAct 50 = .ok (.aload_n 0, 1) := by decide +kernel
theorem dX14_readAct_51 : decode cX14_readAct 51 = .ok (.ldc 118, 2) := by decide +kernel
theorem dX14_readAct_53 : decode cX14_readAct 53 = .ok (.invokevirtual 153, 3) := by decide +kernel
theorem dX14_readAct_56 : decode cX14_readAct 56 = .ok (.aload_n 0, 1) := by decide +kernel
theorem dX14_readAct_57 : decode cX14_readAct 57 = .ok (.getfield 44, 3) := by decide +kernel
theorem dX14_readAct_60 : decode cX14_readAct 60 = .ok (.iload_n 1, 1) := by decide +kernel
theorem dX14_readAct_61 : decode cX14_readAct 61 = .ok (.aload_n 0, 1) := by decide +kernel
theorem dX14_readAct_62 : decode cX14_readAct 62 = .ok (.iconst 0, 1) := by decide +kernel
theorem dX14_readAct_63 : decode cX14_readAct 63 = .ok (.iconst 5, 1) := by decide +kernel
theorem dX14_readAct_64 : decode cX14_readAct 64 = .ok (.invokevirtual 156, 3) := by decide +kernel
theorem dX14_readAct_67 : decode cX14_readAct 67 = .ok (.iastore, 1) := by decide +kernel
theorem dX14_readAct_68 : decode cX14_readAct 68 = .ok (.aload_n 0, 1) := by decide +kernel
theorem dX14_readAct_69 : decode cX14_readAct 69 = .ok (.ldc 119, 2) := by decide +kernel
theorem dX14_readAct_71 : decode cX14_readAct 71 = .ok (.invokevirtual 153, 3) := by decide +kernel
theorem dX14_readAct_74 : decode cX14_readAct 74 = .ok (.aload_n 0, 1) := by decide +kernel
theorem dX14_readAct_75 : decode cX14_readAct 75 = .ok (.getfield 47, 3) := by decide +kernel
theorem dX14_readAct_78 : decode cX14_readAct 78 = .ok (.iload_n 1, 1) := by decide +kernel
theorem dX14_readAct_79 : decode cX14_readAct 79 = .ok (.aload_n 0, 1) := by decide +kernel
theorem dX14_readAct_80 : decode cX14_readAct 80 = .ok (.iconst 0, 1) := by decide +kernel
theorem dX14_readAct_81 : decode cX14_readAct 81 = .ok (.bipush 99, 2) := by decide +kernel
theorem dX14_readAct_83 : decode cX14_readAct 83 = .ok (.invokevirtual 156, 3) := by decide +kernel
theorem dX14_readAct_86 : decode cX14_readAct 86 = .ok (.iastore, 1) := by decide +kernel
theorem dX14_readAct_87 : decode cX14_readAct 87 = .ok (.aload_n 0, 1) := by decide +kernel
theorem dX14_readAct_88 : decode cX14_readAct 88 = .ok (.ldc 120, 2) := by decide +kernel
theorem dX14_readAct_90 : decode cX14_readAct 90 = .ok (.invokevirtual 153, 3) := by decide +kernel
theorem dX14_readAct_93 : decode cX14_readAct 93 = .ok (.aload_n 0, 1) := by decide +kernel
theorem dX14_readAct_94 : decode cX14_readAct 94 = .ok (.getfield 50, 3) := by decide +kernel
theorem dX14_readAct_97 : decode cX14_readAct 97 = .ok (.iload_n 1, 1) := by decide +kernel
theorem dX14_readAct_98 : decode cX14_readAct 98 = .ok (.aload_n 0, 1) := by decide +kernel
theorem dX14_readAct_99 : decode cX14_readAct 99 = .ok (.iconst 0, 1) := by decide +kernel
theorem dX14_readAct_100 : decode cX14_readAct 100 = .ok (.sipush 600, 3) := by decide +kernel
theorem dX14_readAct_103 : decode cX14_readAct 103 = .ok (.invokevirtual 156, 3) := by decide +kernel
theorem dX14_readAct_106 : decode cX14_readAct 106 = .ok (.iastore, 1) := by decide +kernel
theorem dX14_readAct_107 : decode cX14_readAct 107 = .ok (.aload_n 0, 1) := by decide +kernel
theorem dX14_readAct_108 : decode cX14_readAct 108 = .ok (.invokevirtual 166, 3) := by decide +kernel
theorem dX14_readAct_111 : decode cX14_readAct 111 = .ok (.aload_n 0, 1) := by decide +kernel
theorem dX14_readAct_112 : decode cX14_readAct 112 = .ok (.getfield 41, 3) := by decide +kernel
theorem dX14_readAct_115 : decode cX14_readAct 115 = .ok (.iload_n 1, 1) := by decide +kernel
theorem dX14_readAct_116 : decode cX14_readAct 116 = .ok (.iconst 1, 1) := by decide +kernel
theorem dX14_readAct_117 : decode cX14_readAct 117 = .ok (.bastore, 1) := by decide +kernel
theorem dX14_readAct_118 : decode cX14_readAct 118 = .ok (.aload_n 0, 1) := by decide +kernel
theorem dX14_readAct_119 : decode cX14_readAct 119 = .ok (.getfield 53, 3) := by decide +kernel
theorem dX14_readAct_122 : decode cX14_readAct 122 = .ok (.iload_n 1, 1) := by decide +kernel
theorem dX14_readAct_123 : decode cX14_readAct 123 = .ok (.iconst 0, 1) := by decide +kernel
theorem dX14_readAct_124 : decode cX14_readAct 124 = .ok (.bastore, 1) := by decide +kernel
theorem dX14_readAct_125 : decode cX14_readAct 125 = .ok (.return_, 1) := by decide +kernel
theorem dX14_readAct_28 : decode cX14_readAct 28 = .ok (.iconst 1, 1) := by decide +kernel
theorem dX14_readAct_29 : decode cX14_readAct 29 = .ok (.goto 4, 3) := by decide +kernel
theorem dX14_takeZone_0 : decode cX14_takeZone 0 = .ok (.aload_n 0, 1) := by decide +kernel
theorem dX14_takeZone_1 : decode cX14_takeZone 1 = .ok (.iconst 0, 1) := by decide +kernel
theorem dX14_takeZone_2 : decode cX14_takeZone 2 = .ok (.bipush 19, 2) := by decide +kernel
theorem dX14_takeZone_4 : decode cX14_takeZone 4 = .ok (.invokevirtual 149, 3) := by decide +kernel
theorem dX14_takeZone_7 : decode cX14_takeZone 7 = .ok (.istore_n 2, 1) := by decide +kernel
theorem dX14_takeZone_8 : decode cX14_takeZone 8 = .ok (.aload_n 0, 1) := by decide +kernel
theorem dX14_takeZone_9 : decode cX14_takeZone 9 = .ok (.getfield 134, 3) := by decide +kernel
theorem dX14_takeZone_12 : decode cX14_takeZone 12 = .ok (.ifCond .ge 42, 3) := by decide +kernel
theorem dX14_takeZone_54 : decode cX14_takeZone 54 = .ok (.iload_n 2, 1) := by decide +kernel
theorem dX14_takeZone_55 : decode cX14_takeZone 55 = .ok (.ireturn, 1) := by decide +kernel
theorem dX14_takeZone_15 : decode cX14_takeZone 15 = .ok (.aload_n 0, 1) := by decide +kernel
theorem dX14_takeZone_16 : decode cX14_takeZone 16 = .ok (.aload_n 0, 1) := by decide +kernel
theorem dX14_takeZone_17 : decode cX14_takeZone 17 = .ok (.getfield 29, 3) := by decide +kernel
theorem dX14_takeZone_20 : decode cX14_takeZone 20 = .ok (.bipush 20, 2) := by decide +kernel
theorem dX14_takeZone_22 : decode cX14_takeZone 22 = .ok (.iload_n 2, 1) := by decide +kernel
theorem dX14_takeZone_23 : decode cX14_takeZone 23 = .ok (.iadd, 1) := by decide +kernel
theorem dX14_takeZone_24 : decode cX14_takeZone 24 = .ok (.baload, 1) := by decide +kernel
theorem dX14_takeZone_25 : decode cX14_takeZone 25 = .ok (.ifCond .eq 12, 3) := by decide +kernel
theorem dX14_takeZone_37 : decode cX14_takeZone 37 = .ok (.iconst 0, 1) := by decide +kernel
theorem dX14_takeZone_38 : decode cX14_takeZone 38 = .ok (.invokevirtual 141, 3) := by decide +kernel
theorem dX14_takeZone_41 : decode cX14_takeZone 41 = .ok (.ifCond .eq 13, 3) := by decide +kernel
theorem dX14_takeZone_44 : decode cX14_takeZone 44 = .ok (.aload_n 0, 1) := by decide +kernel
theorem dX14_takeZone_45 : decode cX14_takeZone 45 = .ok (.dup, 1) := by decide +kernel
theorem dX14_takeZone_46 : decode cX14_takeZone 46 = .ok (.getfield 131, 3) := by decide +kernel
theorem dX14_takeZone_49 : decode cX14_takeZone 49 = .ok (.iconst 1, 1) := by decide +kernel
theorem dX14_takeZone_50 : decode cX14_takeZone 50 = .ok (.iadd, 1) := by decide +kernel
theorem dX14_takeZone_51 : decode cX14_takeZone 51 = .ok (.putfield 131, 3) := by decide +kernel
theorem dX14_takeZone_28 : decode cX14_takeZone 28 = .ok (.iload_n 2, 1) := by decide +kernel
theorem dX14_takeZone_29 : decode cX14_takeZone 29 = .ok (.iload_n 1, 1) := by decide +kernel
theorem dX14_takeZone_30 : decode cX14_takeZone 30 = .ok (.if_icmp .eq 7, 3) := by decide +kernel
theorem dX14_takeZone_33 : decode cX14_takeZone 33 = .ok (.iconst 1, 1) := by decide +kernel
theorem dX14_takeZone_34 : decode cX14_takeZone 34 = .ok (.goto 4, 3) := by decide +kernel
theorem dX14_readRow_0 : decode cX14_readRow 0 = .ok (.aload_n 0, 1) := by decide +kernel
theorem dX14_readRow_1 : decode cX14_readRow 1 = .ok (.iconst (-1), 1) := by decide +kernel
theorem dX14_readRow_2 : decode cX14_readRow 2 = .ok (.invokevirtual 169, 3) := by decide +kernel
theorem dX14_readRow_5 : decode cX14_readRow 5 = .ok (.istore_n 1, 1) := by decide +kernel
theorem dX14_readRow_6 : decode cX14_readRow 6 = .ok (.iconst (-1), 1) := by decide +kernel
theorem dX14_readRow_7 : decode cX14_readRow 7 = .ok (.istore_n 2, 1) := by decide +kernel
theorem dX14_readRow_8 : decode cX14_readRow 8 = .ok (.aload_n 0, 1) := by decide +kernel
theorem dX14_readRow_9 : decode cX14_readRow 9 = .ok (.getfield 134, 3) := by decide +kernel
theorem dX14_readRow_12 : decode cX14_readRow 12 = .ok (.ifCond .ge 28, 3) := by decide +kernel
theorem dX14_readRow_40 : decode cX14_readRow 40 = .ok (.aload_n 0, 1) := by decide +kernel
theorem dX14_readRow_41 : decode cX14_readRow 41 = .ok (.ldc 121, 2) := by decide +kernel
theorem dX14_readRow_43 : decode cX14_readRow 43 = .ok (.invokevirtual 153, 3) := by decide +kernel
theorem dX14_readRow_46 : decode cX14_readRow 46 = .ok (.aload_n 0, 1) := by decide +kernel
theorem dX14_readRow_47 : decode cX14_readRow 47 = .ok (.getfield 134, 3) := by decide +kernel
theorem dX14_readRow_50 : decode cX14_readRow 50 = .ok (.ifCond .ge 13, 3) := by decide +kernel
theorem dX14_readRow_63 : decode cX14_readRow 63 = .ok (.iconst (-1), 1) := by decide +kernel
theorem dX14_readRow_64 : decode cX14_readRow 64 = .ok (.istore_n 3, 1) := by decide +kernel
theorem dX14_readRow_65 : decode cX14_readRow 65 = .ok (.aload_n 0, 1) := by decide +kernel
theorem dX14_readRow_66 : decode cX14_readRow 66 = .ok (.getfield 134, 3) := by decide +kernel
theorem dX14_readRow_69 : decode cX14_readRow 69 = .ok (.ifCond .ge 29, 3) := by decide +kernel
theorem dX14_readRow_98 : decode cX14_readRow 98 = .ok (.aload_n 0, 1) := by decide +kernel
theorem dX14_readRow_99 : decode cX14_readRow 99 = .ok (.invokevirtual 166, 3) := by decide +kernel
theorem dX14_readRow_102 : decode cX14_readRow 102 = .ok (.aload_n 0, 1) := by decide +kernel
theorem dX14_readRow_103 : decode cX14_readRow 103 = .ok (.getfield 134, 3) := by decide +kernel
theorem dX14_readRow_106 : decode cX14_readRow 106 = .ok (.ifCond .ge 52, 3) := by decide +kernel
theorem dX14_readRow_158 : decode cX14_readRow 158 = .ok (.return_, 1) := by decide +kernel
theorem dX14_readRow_109 : decode cX14_readRow 109 = .ok (.aload_n 0, 1) := by decide +kernel
theorem dX14_readRow_110 : decode cX14_readRow 110 = .ok (.getfield 56, 3) := by decide +kernel
theorem dX14_readRow_113 : decode cX14_readRow 113 = .ok (.bipush 50, 2) := by decide +kernel
theorem dX14_readRow_115 : decode cX14_readRow 115 = .ok (.aload_n 0, 1) := by decide +kernel
theorem dX14_readRow_116 : decode cX14_readRow 116 = .ok (.getfield 172, 3) := by decide +kernel
theorem dX14_readRow_119 : decode cX14_readRow 119 = .ok (.iadd, 1) := by decide +kernel
theorem dX14_readRow_120 : decode cX14_readRow 120 = .ok (.iload_n 1, 1) := by decide +kernel
theorem dX14_readRow_121 : decode cX14_readRow 121 = .ok (.iastore, 1) := by decide +kernel
theorem dX14_readRow_122 : decode cX14_readRow 122 = .ok (.aload_n 0, 1) := by decide +kernel
theorem dX14_readRow_123 : decode cX14_readRow 123 = .ok (.getfield 59, 3) := by decide +kernel
theorem dX14_readRow_126 : decode cX14_readRow 126 = .ok (.bipush 50, 2) := by decide +kernel
theorem dX14_readRow_128 : decode cX14_readRow 128 = .ok (.aload_n 0, 1) := by decide +kernel
theorem dX14_readRow_129 : decode cX14_readRow 129 = .ok (.getfield 172, 3) := by decide +kernel
theorem dX14_readRow_132 : decode cX14_readRow 132 = .ok (.iadd, 1) := by decide +kernel
theorem dX14_readRow_133 : decode cX14_readRow 133 = .ok (.iload_n 2, 1) := by decide +kernel
theorem dX14_readRow_134 : decode cX14_readRow 134 = .ok (.iastore, 1) := by decide +kernel
theorem dX14_readRow_135 : decode cX14_readRow 135 = .ok (.aload_n 0, 1) := by decide +kernel
theorem dX14_readRow_136 : decode cX14_readRow 136 = .ok (.getfield 62, 3) := by decide +kernel
theorem dX14_readRow_139 : decode cX14_readRow 139 = .ok (.bipush 50, 2) := by decide +kernel
theorem dX14_readRow_141 : decode cX14_readRow 141 = .ok (.aload_n 0, 1) := by decide +kernel
theorem dX14_readRow_142 : decode cX14_readRow 142 = .ok (.getfield 172, 3) := by decide +kernel
theorem dX14_readRow_145 : decode cX14_readRow 145 = .ok (.iadd, 1) := by decide +kernel
theorem dX14_readRow_146 : decode cX14_readRow 146 = .ok (.iload_n 3, 1) := by decide +kernel
theorem dX14_readRow_147 : decode cX14_readRow 147 = .ok (.iastore, 1) := by decide +kernel
theorem dX14_readRow_148 : decode cX14_readRow 148 = .ok (.aload_n 0, 1) := by decide +kernel
theorem dX14_readRow_149 : decode cX14_readRow 149 = .ok (.dup, 1) := by decide +kernel
theorem dX14_readRow_150 : decode cX14_readRow 150 = .ok (.getfield 172, 3) := by decide +kernel
theorem dX14_readRow_153 : decode cX14_readRow 153 = .ok (.iconst 1, 1) := by decide +kernel
theorem dX14_readRow_154 : decode cX14_readRow 154 = .ok (.iadd, 1) := by decide +kernel
theorem dX14_readRow_155 : decode cX14_readRow 155 = .ok (.putfield 172, 3) := by decide +kernel
theorem dX14_readRow_72 : decode cX14_readRow 72 = .ok (.aload_n 0, 1) := by decide +kernel
theorem dX14_readRow_73 : decode cX14_readRow 73 = .ok (.aload_n 0, 1) := by decide +kernel
theorem dX14_readRow_74 : decode cX14_readRow 74 = .ok (.getfield 41, 3) := by decide +kernel
theorem dX14_readRow_77 : decode cX14_readRow 77 = .ok (.bipush 20, 2) := by decide +kernel
theorem dX14_readRow_79 : decode cX14_readRow 79 = .ok (.iload_n 3, 1) := by decide +kernel
theorem dX14_readRow_80 : decode cX14_readRow 80 = .ok (.iadd, 1) := by decide +kernel
theorem dX14_readRow_81 : decode cX14_readRow 81 = .ok (.baload, 1) := by decide +kernel
theorem dX14_readRow_82 : decode cX14_readRow 82 = .ok (.invokevirtual 141, 3) := by decide +kernel
theorem dX14_readRow_85 : decode cX14_readRow 85 = .ok (.ifCond .eq 13, 3) := by decide +kernel
theorem dX14_readRow_88 : decode cX14_readRow 88 = .ok (.aload_n 0, 1) := by decide +kernel
theorem dX14_readRow_89 : decode cX14_readRow 89 = .ok (.dup, 1) := by decide +kernel
theorem dX14_readRow_90 : decode cX14_readRow 90 = .ok (.getfield 131, 3) := by decide +kernel
theorem dX14_readRow_93 : decode cX14_readRow 93 = .ok (.iconst 1, 1) := by decide +kernel
theorem dX14_readRow_94 : decode cX14_readRow 94 = .ok (.iadd, 1) := by decide +kernel
theorem dX14_readRow_95 : decode cX14_readRow 95 = .ok (.putfield 131, 3) := by decide +kernel
theorem dX14_readRow_53 : decode cX14_readRow 53 = .ok (.aload_n 0, 1) := by decide +kernel
theorem dX14_readRow_54 : decode cX14_readRow 54 = .ok (.iconst 0, 1) := by decide +kernel
theorem dX14_readRow_55 : decode cX14_readRow 55 = .ok (.bipush 19, 2) := by decide +kernel
theorem dX14_readRow_57 : decode cX14_readRow 57 = .ok (.invokevirtual 149, 3) := by decide +kernel
theorem dX14_readRow_60 : decode cX14_readRow 60 = .ok (.goto 4, 3) := by decide +kernel
theorem dX14_readRow_15 : decode cX14_readRow 15 = .ok (.aload_n 0, 1) := by decide +kernel
theorem dX14_readRow_16 : decode cX14_readRow 16 = .ok (.bipush 38, 2) := by decide +kernel
theorem dX14_readRow_18 : decode cX14_readRow 18 = .ok (.invokevirtual 145, 3) := by decide +kernel
theorem dX14_readRow_21 : decode cX14_readRow 21 = .ok (.ifCond .eq 19, 3) := by decide +kernel
theorem dX14_readRow_24 : decode cX14_readRow 24 = .ok (.aload_n 0, 1) := by decide +kernel
theorem dX14_readRow_25 : decode cX14_readRow 25 = .ok (.dup, 1) := by decide +kernel
theorem dX14_readRow_26 : decode cX14_readRow 26 = .ok (.getfield 131, 3) := by decide +kernel
theorem dX14_readRow_29 : decode cX14_readRow 29 = .ok (.iconst 1, 1) := by decide +kernel
theorem dX14_readRow_30 : decode cX14_readRow 30 = .ok (.iadd, 1) := by decide +kernel
theorem dX14_readRow_31 : decode cX14_readRow 31 = .ok (.putfield 131, 3) := by decide +kernel
theorem dX14_readRow_34 : decode cX14_readRow 34 = .ok (.aload_n 0, 1) := by decide +kernel
theorem dX14_readRow_35 : decode cX14_readRow 35 = .ok (.iload_n 1, 1) := by decide +kernel
theorem dX14_readRow_36 : decode cX14_readRow 36 = .ok (.invokevirtual 169, 3) := by decide +kernel
theorem dX14_readRow_39 : decode cX14_readRow 39 = .ok (.istore_n 2, 1) := by decide +kernel
theorem dX14_readHold_0 : decode cX14_readHold 0 = .ok (.aload_n 0, 1) := by decide +kernel
theorem dX14_readHold_1 : decode cX14_readHold 1 = .ok (.iconst 0, 1) := by decide +kernel
theorem dX14_readHold_2 : decode cX14_readHold 2 = .ok (.bipush 19, 2) := by decide +kernel
theorem dX14_readHold_4 : decode cX14_readHold 4 = .ok (.invokevirtual 149, 3) := by decide +kernel
theorem dX14_readHold_7 : decode cX14_readHold 7 = .ok (.istore_n 1, 1) := by decide +kernel
theorem dX14_readHold_8 : decode cX14_readHold 8 = .ok (.aload_n 0, 1) := by decide +kernel
theorem dX14_readHold_9 : decode cX14_readHold 9 = .ok (.getfield 134, 3) := by decide +kernel
theorem dX14_readHold_12 : decode cX14_readHold 12 = .ok (.ifCond .ge 49, 3) := by decide +kernel
theorem dX14_readHold_61 : decode cX14_readHold 61 = .ok (.aload_n 0, 1) := by decide +kernel
theorem dX14_readHold_62 : decode cX14_readHold 62 = .ok (.invokevirtual 166, 3) := by decide +kernel
theorem dX14_readHold_65 : decode cX14_readHold 65 = .ok (.aload_n 0, 1) := by decide +kernel
theorem dX14_readHold_66 : decode cX14_readHold 66 = .ok (.getfield 134, 3) := by decide +kernel
theorem dX14_readHold_69 : decode cX14_readHold 69 = .ok (.ifCond .ge 13, 3) := by decide +kernel
theorem dX14_readHold_82 : decode cX14_readHold 82 = .ok (.return_, 1) := by decide +kernel
theorem dX14_readHold_72 : decode cX14_readHold 72 = .ok (.aload_n 0, 1) := by decide +kernel
theorem dX14_readHold_73 : decode cX14_readHold 73 = .ok (.getfield 53, 3) := by decide +kernel
theorem dX14_readHold_76 : decode cX14_readHold 76 = .ok (.bipush 20, 2) := by decide +kernel
theorem dX14_readHold_78 : decode cX14_readHold 78 = .ok (.iload_n 1, 1) := by decide +kernel
theorem dX14_readHold_79 : decode cX14_readHold 79 = .ok (.iadd, 1) := by decide +kernel
theorem dX14_readHold_80 : decode cX14_readHold 80 = .ok (.iconst 1, 1) := by decide +kernel
theorem dX14_readHold_81 : decode cX14_readHold 81 = .ok (.bastore, 1) := by decide +kernel
theorem dX14_readHold_15 : decode cX14_readHold 15 = .ok (.aload_n 0, 1) := by decide +kernel
theorem dX14_readHold_16 : decode cX14_readHold 16 = .ok (.aload_n 0, 1) := by decide +kernel
theorem dX14_readHold_17 : decode cX14_readHold 17 = .ok (.getfield 41, 3) := by decide +kernel
theorem dX14_readHold_20 : decode cX14_readHold 20 = .ok (.bipush 20, 2) := by decide +kernel
theorem dX14_readHold_22 : decode cX14_readHold 22 = .ok (.iload_n 1, 1) := by decide +kernel
theorem dX14_readHold_23 : decode cX14_readHold 23 = .ok (.iadd, 1) := by decide +kernel
theorem dX14_readHold_24 : decode cX14_readHold 24 = .ok (.baload, 1) := by decide +kernel
theorem dX14_readHold_25 : decode cX14_readHold 25 = .ok (.ifCond .eq 19, 3) := by decide +kernel
theorem dX14_readHold_44 : decode cX14_readHold 44 = .ok (.iconst 0, 1) := by decide +kernel
theorem dX14_readHold_45 : decode cX14_readHold 45 = .ok (.invokevirtual 141, 3) := by decide +kernel
theorem dX14_readHold_48 : decode cX14_readHold 48 = .ok (.ifCond .eq 13, 3) := by decide +kernel
theorem dX14_readHold_51 : decode cX14_readHold 51 = .ok (.aload_n 0, 1) := by decide +kernel
theorem dX14_readHold_52 : decode cX14_readHold 52 = .ok (.dup, 1) := by decide +kernel
theorem dX14_readHold_53 : decode cX14_readHold 53 = .ok (.getfield 131, 3) := by decide +kernel
theorem dX14_readHold_56 : decode cX14_readHold 56 = .ok (.iconst 1, 1) := by decide +kernel
theorem dX14_readHold_57 : decode cX14_readHold 57 = .ok (.iadd, 1) := by decide +kernel
theorem dX14_readHold_58 : decode cX14_readHold 58 = .ok (.putfield 131, 3) := by decide +kernel
theorem dX14_readHold_28 : decode cX14_readHold 28 = .ok (.aload_n 0, 1) := by decide +kernel
theorem dX14_readHold_29 : decode cX14_readHold 29 = .ok (.getfield 53, 3) := by decide +kernel
theorem dX14_readHold_32 : decode cX14_readHold 32 = .ok (.bipush 20, 2) := by decide +kernel
theorem dX14_readHold_34 : decode cX14_readHold 34 = .ok (.iload_n 1, 1) := by decide +kernel
theorem dX14_readHold_35 : decode cX14_readHold 35 = .ok (.iadd, 1) := by decide +kernel
theorem dX14_readHold_36 : decode cX14_readHold 36 = .ok (.baload, 1) := by decide +kernel
theorem dX14_readHold_37 : decode cX14_readHold 37 = .ok (.ifCond .ne 7, 3) := by decide +kernel
theorem dX14_readHold_40 : decode cX14_readHold 40 = .ok (.iconst 1, 1) := by decide +kernel
theorem dX14_readHold_41 : decode cX14_readHold 41 = .ok (.goto 4, 3) := by decide +kernel
theorem dX14_readSentence_0 : decode cX14_readSentence 0 = .ok (.aload_n 0, 1) := by decide +kernel
theorem dX14_readSentence_1 : decode cX14_readSentence 1 = .ok (.invokevirtual 137, 3) := by decide +kernel
theorem dX14_readSentence_4 : decode cX14_readSentence 4 = .ok (.istore_n 1, 1) := by decide +kernel
theorem dX14_readSentence_5 : decode cX14_readSentence 5 = .ok (.iload_n 1, 1) := by decide +kernel
theorem dX14_readSentence_6 : decode cX14_readSentence 6 = .ok (.ldc 108, 2) := by decide +kernel
theorem dX14_readSentence_8 : decode cX14_readSentence 8 = .ok (.if_icmp .ne 20, 3) := by decide +kernel
theorem dX14_readSentence_28 : decode cX14_readSentence 28 = .ok (.iload_n 1, 1) := by decide +kernel
theorem dX14_readSentence_29 : decode cX14_readSentence 29 = .ok (.sipush 20577, 3) := by decide +kernel
theorem dX14_readSentence_32 : decode cX14_readSentence 32 = .ok (.if_icmp .ne 20, 3) := by decide +kernel
theorem dX14_readSentence_52 : decode cX14_readSentence 52 = .ok (.iload_n 1, 1) := by decide +kernel
theorem dX14_readSentence_53 : decode cX14_readSentence 53 = .ok (.ldc 110, 2) := by decide +kernel
theorem dX14_readSentence_55 : decode cX14_readSentence 55 = .ok (.if_icmp .ne 41, 3) := by decide +kernel
theorem dX14_readSentence_96 : decode cX14_readSentence 96 = .ok (.aload_n 0, 1) := by decide +kernel
theorem dX14_readSentence_97 : decode cX14_readSentence 97 = .ok (.ldc 109, 2) := by decide +kernel
theorem dX14_readSentence_99 : decode cX14_readSentence 99 = .ok (.invokevirtual 153, 3) := by decide +kernel
theorem dX14_readSentence_102 : decode cX14_readSentence 102 = .ok (.aload_n 0, 1) := by decide +kernel
theorem dX14_readSentence_103 : decode cX14_readSentence 103 = .ok (.getfield 134, 3) := by decide +kernel
theorem dX14_readSentence_106 : decode cX14_readSentence 106 = .ok (.ifCond .ge 7, 3) := by decide +kernel
theorem dX14_readSentence_113 : decode cX14_readSentence 113 = .ok (.return_, 1) := by decide +kernel
theorem dX14_readSentence_109 : decode cX14_readSentence 109 = .ok (.aload_n 0, 1) := by decide +kernel
theorem dX14_readSentence_110 : decode cX14_readSentence 110 = .ok (.invokevirtual 184, 3) := by decide +kernel
theorem dX14_readSentence_58 : decode cX14_readSentence 58 = .ok (.aload_n 0, 1) := by decide +kernel
theorem dX14_readSentence_59 : decode cX14_readSentence 59 = .ok (.aload_n 0, 1) := by decide +kernel
theorem dX14_readSentence_60 : decode cX14_readSentence 60 = .ok (.getfield 172, 3) := by decide +kernel
theorem dX14_readSentence_63 : decode cX14_readSentence 63 = .ok (.bipush 50, 2) := by decide +kernel
theorem dX14_readSentence_65 : decode cX14_readSentence 65 = .ok (.if_icmp .ge 7, 3) := by decide +kernel
theorem dX14_readSentence_72 : decode cX14_readSentence 72 = .ok (.iconst 0, 1) := by decide +kernel
theorem dX14_readSentence_73 : decode cX14_readSentence 73 = .ok (.invokevirtual 141, 3) := by decide +kernel
theorem dX14_readSentence_76 : decode cX14_readSentence 76 = .ok (.ifCond .eq 37, 3) := by decide +kernel
theorem dX14_readSentence_79 : decode cX14_readSentence 79 = .ok (.aload_n 0, 1) := by decide +kernel
theorem dX14_readSentence_80 : decode cX14_readSentence 80 = .ok (.dup, 1) := by decide +kernel
theorem dX14_readSentence_81 : decode cX14_readSentence 81 = .ok (.getfield 131, 3) := by decide +kernel
theorem dX14_readSentence_84 : decode cX14_readSentence 84 = .ok (.iconst 1, 1) := by decide +kernel
theorem dX14_readSentence_85 : decode cX14_readSentence 85 = .ok (.iadd, 1) := by decide +kernel
theorem dX14_readSentence_86 : decode cX14_readSentence 86 = .ok (.putfield 131, 3) := by decide +kernel
theorem dX14_readSentence_89 : decode cX14_readSentence 89 = .ok (.aload_n 0, 1) := by decide +kernel
theorem dX14_readSentence_90 : decode cX14_readSentence 90 = .ok (.invokevirtual 181, 3) := by decide +kernel
theorem dX14_readSentence_93 : decode cX14_readSentence 93 = .ok (.goto 20, 3) := by decide +kernel
theorem dX14_readSentence_68 : decode cX14_readSentence 68 = .ok (.iconst 1, 1) := by decide +kernel
theorem dX14_readSentence_69 : decode cX14_readSentence 69 = .ok (.goto 4, 3) := by decide +kernel
theorem dX14_readSentence_35 : decode cX14_readSentence 35 = .ok (.aload_n 0, 1) := by decide +kernel
theorem dX14_readSentence_36 : decode cX14_readSentence 36 = .ok (.dup, 1) := by decide +kernel
theorem dX14_readSentence_37 : decode cX14_readSentence 37 = .ok (.getfield 131, 3) := by decide +kernel
theorem dX14_readSentence_40 : decode cX14_readSentence 40 = .ok (.iconst 1, 1) := by decide +kernel
theorem dX14_readSentence_41 : decode cX14_readSentence 41 = .ok (.iadd, 1) := by decide +kernel
theorem dX14_readSentence_42 : decode cX14_readSentence 42 = .ok (.putfield 131, 3) := by decide +kernel
theorem dX14_readSentence_45 : decode cX14_readSentence 45 = .ok (.aload_n 0, 1) := by decide +kernel
theorem dX14_readSentence_46 : decode cX14_readSentence 46 = .ok (.invokevirtual 178, 3) := by decide +kernel
theorem dX14_readSentence_49 : decode cX14_readSentence 49 = .ok (.goto 64, 3) := by decide +kernel
theorem dX14_readSentence_11 : decode cX14_readSentence 11 = .ok (.aload_n 0, 1) := by decide +kernel
theorem dX14_readSentence_12 : decode cX14_readSentence 12 = .ok (.dup, 1) := by decide +kernel
theorem dX14_readSentence_13 : decode cX14_readSentence 13 = .ok (.getfield 131, 3) := by decide +kernel
theorem dX14_readSentence_16 : decode cX14_readSentence 16 = .ok (.iconst 1, 1) := by decide +kernel
theorem dX14_readSentence_17 : decode cX14_readSentence 17 = .ok (.iadd, 1) := by decide +kernel
theorem dX14_readSentence_18 : decode cX14_readSentence 18 = .ok (.putfield 131, 3) := by decide +kernel
theorem dX14_readSentence_21 : decode cX14_readSentence 21 = .ok (.aload_n 0, 1) := by decide +kernel
theorem dX14_readSentence_22 : decode cX14_readSentence 22 = .ok (.invokevirtual 175, 3) := by decide +kernel
theorem dX14_readSentence_25 : decode cX14_readSentence 25 = .ok (.goto 88, 3) := by decide +kernel
theorem dX14_rests_0 : decode cX14_rests 0 = .ok (.aload_n 0, 1) := by decide +kernel
theorem dX14_rests_1 : decode cX14_rests 1 = .ok (.getfield 65, 3) := by decide +kernel
theorem dX14_rests_4 : decode cX14_rests 4 = .ok (.iload_n 1, 1) := by decide +kernel
theorem dX14_rests_5 : decode cX14_rests 5 = .ok (.iconst 0, 1) := by decide +kernel
theorem dX14_rests_6 : decode cX14_rests 6 = .ok (.iastore, 1) := by decide +kernel
theorem dX14_rests_7 : decode cX14_rests 7 = .ok (.aload_n 0, 1) := by decide +kernel
theorem dX14_rests_8 : decode cX14_rests 8 = .ok (.getfield 68, 3) := by decide +kernel
theorem dX14_rests_11 : decode cX14_rests 11 = .ok (.iload_n 1, 1) := by decide +kernel
theorem dX14_rests_12 : decode cX14_rests 12 = .ok (.iconst (-1), 1) := by decide +kernel
theorem dX14_rests_13 : decode cX14_rests 13 = .ok (.iastore, 1) := by decide +kernel
theorem dX14_rests_14 : decode cX14_rests 14 = .ok (.aload_n 0, 1) := by decide +kernel
theorem dX14_rests_15 : decode cX14_rests 15 = .ok (.getfield 71, 3) := by decide +kernel
theorem dX14_rests_18 : decode cX14_rests 18 = .ok (.iload_n 1, 1) := by decide +kernel
theorem dX14_rests_19 : decode cX14_rests 19 = .ok (.iconst 0, 1) := by decide +kernel
theorem dX14_rests_20 : decode cX14_rests 20 = .ok (.bastore, 1) := by decide +kernel
theorem dX14_rests_21 : decode cX14_rests 21 = .ok (.aload_n 0, 1) := by decide +kernel
theorem dX14_rests_22 : decode cX14_rests 22 = .ok (.getfield 74, 3) := by decide +kernel
theorem dX14_rests_25 : decode cX14_rests 25 = .ok (.iload_n 1, 1) := by decide +kernel
theorem dX14_rests_26 : decode cX14_rests 26 = .ok (.iconst 0, 1) := by decide +kernel
theorem dX14_rests_27 : decode cX14_rests 27 = .ok (.bastore, 1) := by decide +kernel
theorem dX14_rests_28 : decode cX14_rests 28 = .ok (.return_, 1) := by decide +kernel
theorem dX14_adopt_0 : decode cX14_adopt 0 = .ok (.iconst 0, 1) := by decide +kernel
theorem dX14_adopt_1 : decode cX14_adopt 1 = .ok (.istore_n 1, 1) := by decide +kernel
theorem dX14_adopt_2 : decode cX14_adopt 2 = .ok (.iload_n 1, 1) := by decide +kernel
theorem dX14_adopt_3 : decode cX14_adopt 3 = .ok (.bipush 20, 2) := by decide +kernel
theorem dX14_adopt_5 : decode cX14_adopt 5 = .ok (.if_icmp .ge 174, 3) := by decide +kernel
theorem dX14_adopt_8 : decode cX14_adopt 8 = .ok (.aload_n 0, 1) := by decide +kernel
theorem dX14_adopt_9 : decode cX14_adopt 9 = .ok (.getfield 29, 3) := by decide +kernel
theorem dX14_adopt_12 : decode cX14_adopt 12 = .ok (.iload_n 1, 1) := by decide +kernel
theorem dX14_adopt_13 : decode cX14_adopt 13 = .ok (.aload_n 0, 1) := by decide +kernel
theorem dX14_adopt_14 : decode cX14_adopt 14 = .ok (.getfield 29, 3) := by decide +kernel
theorem dX14_adopt_17 : decode cX14_adopt 17 = .ok (.bipush 20, 2) := by decide +kernel
theorem dX14_adopt_19 : decode cX14_adopt 19 = .ok (.iload_n 1, 1) := by decide +kernel
theorem dX14_adopt_20 : decode cX14_adopt 20 = .ok (.iadd, 1) := by decide +kernel
theorem dX14_adopt_21 : decode cX14_adopt 21 = .ok (.baload, 1) := by decide +kernel
theorem dX14_adopt_22 : decode cX14_adopt 22 = .ok (.bastore, 1) := by decide +kernel
theorem dX14_adopt_23 : decode cX14_adopt 23 = .ok (.aload_n 0, 1) := by decide +kernel
theorem dX14_adopt_24 : decode cX14_adopt 24 = .ok (.getfield 32, 3) := by decide +kernel
theorem dX14_adopt_27 : decode cX14_adopt 27 = .ok (.iload_n 1, 1) := by decide +kernel
theorem dX14_adopt_28 : decode cX14_adopt 28 = .ok (.aload_n 0, 1) := by decide +kernel
theorem dX14_adopt_29 : decode cX14_adopt 29 = .ok (.getfield 32, 3) := by decide +kernel
theorem dX14_adopt_32 : decode cX14_adopt 32 = .ok (.bipush 20, 2) := by decide +kernel
theorem dX14_adopt_34 : decode cX14_adopt 34 = .ok (.iload_n 1, 1) := by decide +kernel
theorem dX14_adopt_35 : decode cX14_adopt 35 = .ok (.iadd, 1) := by decide +kernel
theorem dX14_adopt_36 : decode cX14_adopt 36 = .ok (.iaload, 1) := by decide +kernel
theorem dX14_adopt_37 : decode cX14_adopt 37 = .ok (.iastore, 1) := by decide +kernel
theorem dX14_adopt_38 : decode cX14_adopt 38 = .ok (.aload_n 0, 1) := by decide +kernel
theorem dX14_adopt_39 : decode cX14_adopt 39 = .ok (.getfield 35, 3) := by decide +kernel
theorem dX14_adopt_42 : decode cX14_adopt 42 = .ok (.iload_n 1, 1) := by decide +kernel
theorem dX14_adopt_43 : decode cX14_adopt 43 = .ok (.aload_n 0, 1) := by decide +kernel
theorem dX14_adopt_44 : decode cX14_adopt 44 = .ok (.getfield 35, 3) := by decide +kernel
theorem dX14_adopt_47 : decode cX14_adopt 47 = .ok (.bipush 20, 2) := by decide +kernel
theorem dX14_adopt_49 : decode cX14_adopt 49 = .ok (.iload_n 1, 1) := by decide +kernel
theorem dX14_adopt_50 : decode cX14_adopt 50 = .ok (.iadd, 1) := by decide +kernel
theorem dX14_adopt_51 : decode cX14_adopt 51 = .ok (.iaload, 1) := by decide +kernel
theorem dX14_adopt_52 : decode cX14_adopt 52 = .ok (.iastore, 1) := by decide +kernel
theorem dX14_adopt_53 : decode cX14_adopt 53 = .ok (.iconst 0, 1) := by decide +kernel
theorem dX14_adopt_54 : decode cX14_adopt 54 = .ok (.istore_n 2, 1) := by decide +kernel
theorem dX14_adopt_55 : decode cX14_adopt 55 = .ok (.iload_n 2, 1) := by decide +kernel
theorem dX14_adopt_56 : decode cX14_adopt 56 = .ok (.bipush 12, 2) := by decide +kernel
theorem dX14_adopt_58 : decode cX14_adopt 58 = .ok (.if_icmp .ge 35, 3) := by decide +kernel
theorem dX14_adopt_61 : decode cX14_adopt 61 = .ok (.aload_n 0, 1) := by decide +kernel
theorem dX14_adopt_62 : decode cX14_adopt 62 = .ok (.getfield 38, 3) := by decide +kernel
theorem dX14_adopt_65 : decode cX14_adopt 65 = .ok (.bipush 12, 2) := by decide +kernel
theorem dX14_adopt_67 : decode cX14_adopt 67 = .ok (.iload_n 1, 1) := by decide +kernel
theorem dX14_adopt_68 : decode cX14_adopt 68 = .ok (.imul, 1) := by decide +kernel
theorem dX14_adopt_69 : decode cX14_adopt 69 = .ok (.iload_n 2, 1) := by decide +kernel
theorem dX14_adopt_70 : decode cX14_adopt 70 = .ok (.iadd, 1) := by decide +kernel
theorem dX14_adopt_71 : decode cX14_adopt 71 = .ok (.aload_n 0, 1) := by decide +kernel
theorem dX14_adopt_72 : decode cX14_adopt 72 = .ok (.getfield 38, 3) := by decide +kernel
theorem dX14_adopt_75 : decode cX14_adopt 75 = .ok (.sipush 240, 3) := by decide +kernel
theorem dX14_adopt_78 : decode cX14_adopt 78 = .ok (.bipush 12, 2) := by decide +kernel
theorem dX14_adopt_80 : decode cX14_adopt 80 = .ok (.iload_n 1, 1) := by decide +kernel
theorem dX14_adopt_81 : decode cX14_adopt 81 = .ok (.imul, 1) := by decide +kernel
theorem dX14_adopt_82 : decode cX14_adopt 82 = .ok (.iadd, 1) := by decide +kernel
theorem dX14_adopt_83 : decode cX14_adopt 83 = .ok (.iload_n 2, 1) := by decide +kernel
theorem dX14_adopt_84 : decode cX14_adopt 84 = .ok (.iadd, 1) := by decide +kernel
theorem dX14_adopt_85 : decode cX14_adopt 85 = .ok (.iaload, 1) := by decide +kernel
theorem dX14_adopt_86 : decode cX14_adopt 86 = .ok (.iastore, 1) := by decide +kernel
theorem dX14_adopt_87 : decode cX14_adopt 87 = .ok (.iinc 2 1, 3) := by decide +kernel
theorem dX14_adopt_90 : decode cX14_adopt 90 = .ok (.goto (-35), 3) := by decide +kernel
theorem dX14_adopt_93 : decode cX14_adopt 93 = .ok (.aload_n 0, 1) := by decide +kernel
theorem dX14_adopt_94 : decode cX14_adopt 94 = .ok (.getfield 41, 3) := by decide +kernel
theorem dX14_adopt_97 : decode cX14_adopt 97 = .ok (.iload_n 1, 1) := by decide +kernel
theorem dX14_adopt_98 : decode cX14_adopt 98 = .ok (.aload_n 0, 1) := by decide +kernel
theorem dX14_adopt_99 : decode cX14_adopt 99 = .ok (.getfield 41, 3) := by decide +kernel
theorem dX14_adopt_102 : decode cX14_adopt 102 = .ok (.bipush 20, 2) := by decide +kernel
theorem dX14_adopt_104 : decode cX14_adopt 104 = .ok (.iload_n 1, 1) := by decide +kernel
theorem dX14_adopt_105 : decode cX14_adopt 105 = .ok (.iadd, 1) := by decide +kernel
theorem dX14_adopt_106 : decode cX14_adopt 106 = .ok (.baload, 1) := by decide +kernel
theorem dX14_adopt_107 : decode cX14_adopt 107 = .ok (.bastore, 1) := by decide +kernel
theorem dX14_adopt_108 : decode cX14_adopt 108 = .ok (.aload_n 0, 1) := by decide +kernel
theorem dX14_adopt_109 : decode cX14_adopt 109 = .ok (.getfield 44, 3) := by decide +kernel
theorem dX14_adopt_112 : decode cX14_adopt 112 = .ok (.iload_n 1, 1) := by decide +kernel
theorem dX14_adopt_113 : decode cX14_adopt 113 = .ok (.aload_n 0, 1) := by decide +kernel
theorem dX14_adopt_114 : decode cX14_adopt 114 = .ok (.getfield 44, 3) := by decide +kernel
theorem dX14_adopt_117 : decode cX14_adopt 117 = .ok (.bipush 20, 2) := by decide +kernel
theorem dX14_adopt_119 : decode cX14_adopt 119 = .ok (.iload_n 1, 1) := by decide +kernel
theorem dX14_adopt_120 : decode cX14_adopt 120 = .ok (.iadd, 1) := by decide +kernel
theorem dX14_adopt_121 : decode cX14_adopt 121 = .ok (.iaload, 1) := by decide +kernel
theorem dX14_adopt_122 : decode cX14_adopt 122 = .ok (.iastore, 1) := by decide +kernel
theorem dX14_adopt_123 : decode cX14_adopt 123 = .ok (.aload_n 0, 1) := by decide +kernel
theorem dX14_adopt_124 : decode cX14_adopt 124 = .ok (.getfield 47, 3) := by decide +kernel
theorem dX14_adopt_127 : decode cX14_adopt 127 = .ok (.iload_n 1, 1) := by decide +kernel
theorem dX14_adopt_128 : decode cX14_adopt 128 = .ok (.aload_n 0, 1) := by decide +kernel
theorem dX14_adopt_129 : decode cX14_adopt 129 = .ok (.getfield 47, 3) := by decide +kernel
theorem dX14_adopt_132 : decode cX14_adopt 132 = .ok (.bipush 20, 2) := by decide +kernel
theorem dX14_adopt_134 : decode cX14_adopt 134 = .ok (.iload_n 1, 1) := by decide +kernel
theorem dX14_adopt_135 : decode cX14_adopt 135 = .ok (.iadd, 1) := by decide +kernel
theorem dX14_adopt_136 : decode cX14_adopt 136 = .ok (.iaload, 1) := by decide +kernel
theorem dX14_adopt_137 : decode cX14_adopt 137 = .ok (.iastore, 1) := by decide +kernel
theorem dX14_adopt_138 : decode cX14_adopt 138 = .ok (.aload_n 0, 1) := by decide +kernel
theorem dX14_adopt_139 : decode cX14_adopt 139 = .ok (.getfield 50, 3) := by decide +kernel
theorem dX14_adopt_142 : decode cX14_adopt 142 = .ok (.iload_n 1, 1) := by decide +kernel
theorem dX14_adopt_143 : decode cX14_adopt 143 = .ok (.aload_n 0, 1) := by decide +kernel
theorem dX14_adopt_144 : decode cX14_adopt 144 = .ok (.getfield 50, 3) := by decide +kernel
theorem dX14_adopt_147 : decode cX14_adopt 147 = .ok (.bipush 20, 2) := by decide +kernel
theorem dX14_adopt_149 : decode cX14_adopt 149 = .ok (.iload_n 1, 1) := by decide +kernel
theorem dX14_adopt_150 : decode cX14_adopt 150 = .ok (.iadd, 1) := by decide +kernel
theorem dX14_adopt_151 : decode cX14_adopt 151 = .ok (.iaload, 1) := by decide +kernel
theorem dX14_adopt_152 : decode cX14_adopt 152 = .ok (.iastore, 1) := by decide +kernel
theorem dX14_adopt_153 : decode cX14_adopt 153 = .ok (.aload_n 0, 1) := by decide +kernel
theorem dX14_adopt_154 : decode cX14_adopt 154 = .ok (.getfield 53, 3) := by decide +kernel
theorem dX14_adopt_157 : decode cX14_adopt 157 = .ok (.iload_n 1, 1) := by decide +kernel
theorem dX14_adopt_158 : decode cX14_adopt 158 = .ok (.aload_n 0, 1) := by decide +kernel
theorem dX14_adopt_159 : decode cX14_adopt 159 = .ok (.getfield 53, 3) := by decide +kernel
theorem dX14_adopt_162 : decode cX14_adopt 162 = .ok (.bipush 20, 2) := by decide +kernel
theorem dX14_adopt_164 : decode cX14_adopt 164 = .ok (.iload_n 1, 1) := by decide +kernel
theorem dX14_adopt_165 : decode cX14_adopt 165 = .ok (.iadd, 1) := by decide +kernel
theorem dX14_adopt_166 : decode cX14_adopt 166 = .ok (.baload, 1) := by decide +kernel
theorem dX14_adopt_167 : decode cX14_adopt 167 = .ok (.bastore, 1) := by decide +kernel
theorem dX14_adopt_168 : decode cX14_adopt 168 = .ok (.aload_n 0, 1) := by decide +kernel
theorem dX14_adopt_169 : decode cX14_adopt 169 = .ok (.iload_n 1, 1) := by decide +kernel
theorem dX14_adopt_170 : decode cX14_adopt 170 = .ok (.invokevirtual 199, 3) := by decide +kernel
theorem dX14_adopt_173 : decode cX14_adopt 173 = .ok (.iinc 1 1, 3) := by decide +kernel
theorem dX14_adopt_176 : decode cX14_adopt 176 = .ok (.goto (-174), 3) := by decide +kernel
theorem dX14_adopt_179 : decode cX14_adopt 179 = .ok (.aload_n 0, 1) := by decide +kernel
theorem dX14_adopt_180 : decode cX14_adopt 180 = .ok (.aload_n 0, 1) := by decide +kernel
theorem dX14_adopt_181 : decode cX14_adopt 181 = .ok (.getfield 172, 3) := by decide +kernel
theorem dX14_adopt_184 : decode cX14_adopt 184 = .ok (.putfield 196, 3) := by decide +kernel
theorem dX14_adopt_187 : decode cX14_adopt 187 = .ok (.iconst 0, 1) := by decide +kernel
theorem dX14_adopt_188 : decode cX14_adopt 188 = .ok (.istore_n 1, 1) := by decide +kernel
theorem dX14_adopt_189 : decode cX14_adopt 189 = .ok (.iload_n 1, 1) := by decide +kernel
theorem dX14_adopt_190 : decode cX14_adopt 190 = .ok (.aload_n 0, 1) := by decide +kernel
theorem dX14_adopt_191 : decode cX14_adopt 191 = .ok (.getfield 196, 3) := by decide +kernel
theorem dX14_adopt_194 : decode cX14_adopt 194 = .ok (.if_icmp .ge 54, 3) := by decide +kernel
theorem dX14_adopt_197 : decode cX14_adopt 197 = .ok (.aload_n 0, 1) := by decide +kernel
theorem dX14_adopt_198 : decode cX14_adopt 198 = .ok (.getfield 56, 3) := by decide +kernel
theorem dX14_adopt_201 : decode cX14_adopt 201 = .ok (.iload_n 1, 1) := by decide +kernel
theorem dX14_adopt_202 : decode cX14_adopt 202 = .ok (.aload_n 0, 1) := by decide +kernel
theorem dX14_adopt_203 : decode cX14_adopt 203 = .ok (.getfield 56, 3) := by decide +kernel
theorem dX14_adopt_206 : decode cX14_adopt 206 = .ok (.bipush 50, 2) := by decide +kernel
theorem dX14_adopt_208 : decode cX14_adopt 208 = .ok (.iload_n 1, 1) := by decide +kernel
theorem dX14_adopt_209 : decode cX14_adopt 209 = .ok (.iadd, 1) := by decide +kernel
theorem dX14_adopt_210 : decode cX14_adopt 210 = .ok (.iaload, 1) := by decide +kernel
theorem dX14_adopt_211 : decode cX14_adopt 211 = .ok (.iastore, 1) := by decide +kernel
theorem dX14_adopt_212 : decode cX14_adopt 212 = .ok (.aload_n 0, 1) := by decide +kernel
theorem dX14_adopt_213 : decode cX14_adopt 213 = .ok (.getfield 59, 3) := by decide +kernel
theorem dX14_adopt_216 : decode cX14_adopt 216 = .ok (.iload_n 1, 1) := by decide +kernel
theorem dX14_adopt_217 : decode cX14_adopt 217 = .ok (.aload_n 0, 1) := by decide +kernel
theorem dX14_adopt_218 : decode cX14_adopt 218 = .ok (.getfield 59, 3) := by decide +kernel
theorem dX14_adopt_221 : decode cX14_adopt 221 = .ok (.bipush 50, 2) := by decide +kernel
theorem dX14_adopt_223 : decode cX14_adopt 223 = .ok (.iload_n 1, 1) := by decide +kernel
theorem dX14_adopt_224 : decode cX14_adopt 224 = .ok (.iadd, 1) := by decide +kernel
theorem dX14_adopt_225 : decode cX14_adopt 225 = .ok (.iaload, 1) := by decide +kernel
theorem dX14_adopt_226 : decode cX14_adopt 226 = .ok (.iastore, 1) := by decide +kernel
theorem dX14_adopt_227 : decode cX14_adopt 227 = .ok (.aload_n 0, 1) := by decide +kernel
theorem dX14_adopt_228 : decode cX14_adopt 228 = .ok (.getfield 62, 3) := by decide +kernel
theorem dX14_adopt_231 : decode cX14_adopt 231 = .ok (.iload_n 1, 1) := by decide +kernel
theorem dX14_adopt_232 : decode cX14_adopt 232 = .ok (.aload_n 0, 1) := by decide +kernel
theorem dX14_adopt_233 : decode cX14_adopt 233 = .ok (.getfield 62, 3) := by decide +kernel
theorem dX14_adopt_236 : decode cX14_adopt 236 = .ok (.bipush 50, 2) := by decide +kernel
theorem dX14_adopt_238 : decode cX14_adopt 238 = .ok (.iload_n 1, 1) := by decide +kernel
theorem dX14_adopt_239 : decode cX14_adopt 239 = .ok (.iadd, 1) := by decide +kernel
theorem dX14_adopt_240 : decode cX14_adopt 240 = .ok (.iaload, 1) := by decide +kernel
theorem dX14_adopt_241 : decode cX14_adopt 241 = .ok (.iastore, 1) := by decide +kernel
theorem dX14_adopt_242 : decode cX14_adopt 242 = .ok (.iinc 1 1, 3) := by decide +kernel
theorem dX14_adopt_245 : decode cX14_adopt 245 = .ok (.goto (-56), 3) := by decide +kernel
theorem dX14_adopt_248 : decode cX14_adopt 248 = .ok (.return_, 1) := by decide +kernel
theorem zl_X14_89 : zm_F zk_E RX14 89 14 6 := ⟨RX14, TX14, 36, rfl, zk_i14, by decide, zk_b14 125 (by decide +kernel) rfl⟩
theorem zt_14_6 : zm_T zk_E RX14 14 6 .int false := ⟨RX14, TX14, 36, tyX14, rfl, tyX14_ok, nmX14, rfl, rfl, rfl⟩
theorem zl_X14_93 : zm_F zk_E RX14 93 14 35 := ⟨RX14, TX14, 36, rfl, zk_i14, by decide, zk_b14 160 (by decide +kernel) rfl⟩
theorem zt_14_35 : zm_T zk_E RX14 14 35 .int false := ⟨RX14, TX14, 36, tyX14, rfl, tyX14_ok, nmX14, rfl, rfl, rfl⟩
theorem zl_X14_96 : zm_L zk_E RX14 96 yX14_letter (.code yX14_letter cX14_letter 2 none) 1 ∧ Cond.instanceMethod yX14_letter ∈ zk_E.2.2.1 ∧ Cond.selects yX14_letter.cls yX14_letter yX14_letter ∈ zk_E.2.2.1 := ⟨⟨zk_b19 118 (by decide +kernel) rfl, zk_b1 16 (by decide +kernel) rfl, zk_b19 115 (by decide +kernel) rfl, by decide +kernel, by decide +kernel, by decide +kernel⟩, zk_b19 117 (by decide +kernel) rfl, zk_s15 (q := (yX14_letter, 36)) 12 (by decide +kernel)⟩
theorem zl_X14_110 : Cond.constant RX14 110 (464151 : Int32) ∈ zk_E.2.2.1 := zk_b19 110 (by decide +kernel) rfl
theorem zl_X14_111 : zm_L zk_E RX14 111 yX14_word (.code yX14_word cX14_word 3 none) 1 ∧ Cond.instanceMethod yX14_word ∈ zk_E.2.2.1 ∧ Cond.selects yX14_word.cls yX14_word yX14_word ∈ zk_E.2.2.1 := ⟨⟨zk_b19 114 (by decide +kernel) rfl, zk_b1 16 (by decide +kernel) rfl, zk_b19 111 (by decide +kernel) rfl, by decide +kernel, by decide +kernel, by decide +kernel⟩, zk_b19 113 (by decide +kernel) rfl, zk_s15 (q := (yX14_word, 36)) 11 (by decide +kernel)⟩
theorem zl_X14_114 : zm_L zk_E RX14 114 yX14_number (.code yX14_number cX14_number 2 none) 1 ∧ Cond.instanceMethod yX14_number ∈ zk_E.2.2.1 ∧ Cond.selects yX14_number.cls yX14_number yX14_number ∈ zk_E.2.2.1 := ⟨⟨zk_b19 122 (by decide +kernel) rfl, zk_b1 16 (by decide +kernel) rfl, zk_b19 119 (by decide +kernel) rfl, by decide +kernel, by decide +kernel, by decide +kernel⟩, zk_b19 121 (by decide +kernel) rfl, zk_s15 (q := (yX14_number, 36)) 13 (by decide +kernel)⟩
theorem zl_X14_121 : Cond.constant RX14 121 (628196 : Int32) ∈ zk_E.2.2.1 := zk_b19 127 (by decide +kernel) rfl
theorem zl_X14_122 : zm_L zk_E RX14 122 yX14_stop (.code yX14_stop cX14_stop 1 none) 0 ∧ Cond.instanceMethod yX14_stop ∈ zk_E.2.2.1 ∧ Cond.selects yX14_stop.cls yX14_stop yX14_stop ∈ zk_E.2.2.1 := ⟨⟨zk_b19 131 (by decide +kernel) rfl, zk_b1 16 (by decide +kernel) rfl, zk_b19 128 (by decide +kernel) rfl, by decide +kernel, by decide +kernel, by decide +kernel⟩, zk_b19 130 (by decide +kernel) rfl, zk_s15 (q := (yX14_stop, 36)) 14 (by decide +kernel)⟩
theorem zl_X14_118 : Cond.constant RX14 118 (145707 : Int32) ∈ zk_E.2.2.1 := zk_b19 124 (by decide +kernel) rfl
theorem zl_X14_119 : Cond.constant RX14 119 (374834 : Int32) ∈ zk_E.2.2.1 := zk_b19 125 (by decide +kernel) rfl
theorem zl_X14_120 : Cond.constant RX14 120 (26259620 : Int32) ∈ zk_E.2.2.1 := zk_b19 126 (by decide +kernel) rfl
theorem zl_X14_117 : Cond.constant RX14 117 (20059310 : Int32) ∈ zk_E.2.2.1 := zk_b19 123 (by decide +kernel) rfl
theorem zl_X14_109 : Cond.constant RX14 109 (143848 : Int32) ∈ zk_E.2.2.1 := zk_b19 109 (by decide +kernel) rfl
theorem zl_X14_108 : Cond.constant RX14 108 (178682 : Int32) ∈ zk_E.2.2.1 := zk_b19 108 (by decide +kernel) rfl
theorem zl_X14_100 : zm_L zk_E RX14 100 yX14_sentence (.code yX14_sentence cX14_sentence 7 none) 5 ∧ Cond.instanceMethod yX14_sentence ∈ zk_E.2.2.1 ∧ Cond.selects yX14_sentence.cls yX14_sentence yX14_sentence ∈ zk_E.2.2.1 := ⟨⟨zk_b19 107 (by decide +kernel) rfl, zk_b1 16 (by decide +kernel) rfl, zk_b19 104 (by decide +kernel) rfl, by decide +kernel, by decide +kernel, by decide +kernel⟩, zk_b19 106 (by decide +kernel) rfl, zk_s15 (q := (yX14_sentence, 36)) 10 (by decide +kernel)⟩
theorem zl_X14_104 : zm_L zk_E RX14 104 yX14_unit (.code yX14_unit cX14_unit 2 (some .int)) 1 ∧ Cond.instanceMethod yX14_unit ∈ zk_E.2.2.1 ∧ Cond.selects yX14_unit.cls yX14_unit yX14_unit ∈ zk_E.2.2.1 := ⟨⟨zk_b19 92 (by decide +kernel) rfl, zk_b1 16 (by decide +kernel) rfl, zk_b19 136 (by decide +kernel) rfl, by decide +kernel, by decide +kernel, by decide +kernel⟩, zk_b19 90 (by decide +kernel) rfl, zk_b19 91 (by decide +kernel) rfl⟩
theorem zl_X14_125 : zm_F zk_E RX14 125 14 7 := ⟨RX14, TX14, 36, rfl, zk_i14, by decide, zk_b14 127 (by decide +kernel) rfl⟩
theorem zt_14_7 : zm_T zk_E RX14 14 7 .int false := ⟨RX14, TX14, 36, tyX14, rfl, tyX14_ok, nmX14, rfl, rfl, rfl⟩
theorem zl_X14_128 : zm_L zk_E RX14 128 yX14_sort (.code yX14_sort cX14_sort 1 (some .int)) 1 ∧ Cond.static yX14_sort ∈ zk_E.2.2.1 := ⟨⟨zk_b19 155 (by decide +kernel) rfl, zk_b1 16 (by decide +kernel) rfl, zk_b19 153 (by decide +kernel) rfl, by decide +kernel, by decide +kernel, by decide +kernel⟩, zk_b19 154 (by decide +kernel) rfl⟩
theorem zl_X14_131 : zm_F zk_E RX14 131 14 10 := ⟨RX14, TX14, 36, rfl, zk_i14, by decide, zk_b14 130 (by decide +kernel) rfl⟩
theorem zl_X14_134 : zm_F zk_E RX14 134 14 11 := ⟨RX14, TX14, 36, rfl, zk_i14, by decide, zk_b14 131 (by decide +kernel) rfl⟩
theorem zt_14_11 : zm_T zk_E RX14 14 11 .int false := ⟨RX14, TX14, 36, tyX14, rfl, tyX14_ok, nmX14, rfl, rfl, rfl⟩
theorem zl_X14_137 : zm_L zk_E RX14 137 yX14_letters (.code yX14_letters cX14_letters 3 (some .int)) 0 ∧ Cond.instanceMethod yX14_letters ∈ zk_E.2.2.1 ∧ Cond.selects yX14_letters.cls yX14_letters yX14_letters ∈ zk_E.2.2.1 := ⟨⟨zk_b19 163 (by decide +kernel) rfl, zk_b1 16 (by decide +kernel) rfl, zk_b19 160 (by decide +kernel) rfl, by decide +kernel, by decide +kernel, by decide +kernel⟩, zk_b19 162 (by decide +kernel) rfl, zk_s16 (q := (yX14_letters, 36)) 1 (by decide +kernel)⟩
theorem zl_X14_141 : zm_L zk_E RX14 141 yX14_want (.code yX14_want cX14_want 2 (some .boolean)) 1 ∧ Cond.instanceMethod yX14_want ∈ zk_E.2.2.1 ∧ Cond.selects yX14_want.cls yX14_want yX14_want ∈ zk_E.2.2.1 := ⟨⟨zk_b19 175 (by decide +kernel) rfl, zk_b1 16 (by decide +kernel) rfl, zk_b19 172 (by decide +kernel) rfl, by decide +kernel, by decide +kernel, by decide +kernel⟩, zk_b19 174 (by decide +kernel) rfl, zk_s16 (q := (yX14_want, 36)) 4 (by decide +kernel)⟩
theorem zt_14_10 : zm_T zk_E RX14 14 10 .int false := ⟨RX14, TX14, 36, tyX14, rfl, tyX14_ok, nmX14, rfl, rfl, rfl⟩
theorem zl_X14_145 : zm_L zk_E RX14 145 yX14_isSign (.code yX14_isSign cX14_isSign 2 (some .boolean)) 1 ∧ Cond.instanceMethod yX14_isSign ∈ zk_E.2.2.1 ∧ Cond.selects yX14_isSign.cls yX14_isSign yX14_isSign ∈ zk_E.2.2.1 := ⟨⟨zk_b19 191 (by decide +kernel) rfl, zk_b1 16 (by decide +kernel) rfl, zk_b19 188 (by decide +kernel) rfl, by decide +kernel, by decide +kernel, by decide +kernel⟩, zk_b19 190 (by decide +kernel) rfl, zk_s16 (q := (yX14_isSign, 36)) 8 (by decide +kernel)⟩
theorem zl_X14_149 : zm_L zk_E RX14 149 yX14_look (.code yX14_look cX14_look 6 (some .int)) 2 ∧ Cond.instanceMethod yX14_look ∈ zk_E.2.2.1 ∧ Cond.selects yX14_look.cls yX14_look yX14_look ∈ zk_E.2.2.1 := ⟨⟨zk_b19 171 (by decide +kernel) rfl, zk_b1 16 (by decide +kernel) rfl, zk_b19 168 (by decide +kernel) rfl, by decide +kernel, by decide +kernel, by decide +kernel⟩, zk_b19 170 (by decide +kernel) rfl, zk_s16 (q := (yX14_look, 36)) 3 (by decide +kernel)⟩
theorem zl_X14_153 : zm_L zk_E RX14 153 yX14_take (.code yX14_take cX14_take 2 none) 1 ∧ Cond.instanceMethod yX14_take ∈ zk_E.2.2.1 ∧ Cond.selects yX14_take.cls yX14_take yX14_take ∈ zk_E.2.2.1 := ⟨⟨zk_b19 179 (by decide +kernel) rfl, zk_b1 16 (by decide +kernel) rfl, zk_b19 176 (by decide +kernel) rfl, by decide +kernel, by decide +kernel, by decide +kernel⟩, zk_b19 178 (by decide +kernel) rfl, zk_s16 (q := (yX14_take, 36)) 5 (by decide +kernel)⟩
theorem zl_X14_156 : zm_L zk_E RX14 156 yX14_takeNumber (.code yX14_takeNumber cX14_takeNumber 4 (some .int)) 2 ∧ Cond.instanceMethod yX14_takeNumber ∈ zk_E.2.2.1 ∧ Cond.selects yX14_takeNumber.cls yX14_takeNumber yX14_takeNumber ∈ zk_E.2.2.1 := ⟨⟨zk_b19 183 (by decide +kernel) rfl, zk_b1 16 (by decide +kernel) rfl, zk_b19 180 (by decide +kernel) rfl, by decide +kernel, by decide +kernel, by decide +kernel⟩, zk_b19 182 (by decide +kernel) rfl, zk_s16 (q := (yX14_takeNumber, 36)) 6 (by decide +kernel)⟩
theorem zl_X14_159 : zm_F zk_E RX14 159 14 0 := ⟨RX14, TX14, 36, rfl, zk_i14, by decide, zk_b14 114 (by decide +kernel) rfl⟩
theorem zl_X14_162 : zm_L zk_E RX14 162 yX14_has (.code yX14_has cX14_has 5 (some .boolean)) 2 ∧ Cond.instanceMethod yX14_has ∈ zk_E.2.2.1 ∧ Cond.selects yX14_has.cls yX14_has yX14_has ∈ zk_E.2.2.1 := ⟨⟨zk_b19 187 (by decide +kernel) rfl, zk_b1 16 (by decide +kernel) rfl, zk_b19 184 (by decide +kernel) rfl, by decide +kernel, by decide +kernel, by decide +kernel⟩, zk_b19 186 (by decide +kernel) rfl, zk_s16 (q := (yX14_has, 36)) 7 (by decide +kernel)⟩
theorem zl_X14_166 : zm_L zk_E RX14 166 yX14_takeStop (.code yX14_takeStop cX14_takeStop 1 none) 0 ∧ Cond.instanceMethod yX14_takeStop ∈ zk_E.2.2.1 ∧ Cond.selects yX14_takeStop.cls yX14_takeStop yX14_takeStop ∈ zk_E.2.2.1 := ⟨⟨zk_b19 199 (by decide +kernel) rfl, zk_b1 16 (by decide +kernel) rfl, zk_b19 196 (by decide +kernel) rfl, by decide +kernel, by decide +kernel, by decide +kernel⟩, zk_b19 198 (by decide +kernel) rfl, zk_s16 (q := (yX14_takeStop, 36)) 10 (by decide +kernel)⟩
theorem zl_X14_169 : zm_L zk_E RX14 169 yX14_takeZone (.code yX14_takeZone cX14_takeZone 3 (some .int)) 1 ∧ Cond.instanceMethod yX14_takeZone ∈ zk_E.2.2.1 ∧ Cond.selects yX14_takeZone.cls yX14_takeZone yX14_takeZone ∈ zk_E.2.2.1 := ⟨⟨zk_b19 207 (by decide +kernel) rfl, zk_b1 16 (by decide +kernel) rfl, zk_b19 204 (by decide +kernel) rfl, by decide +kernel, by decide +kernel, by decide +kernel⟩, zk_b19 206 (by decide +kernel) rfl, zk_s16 (q := (yX14_takeZone, 36)) 12 (by decide +kernel)⟩
theorem zl_X14_172 : zm_F zk_E RX14 172 14 22 := ⟨RX14, TX14, 36, rfl, zk_i14, by decide, zk_b14 146 (by decide +kernel) rfl⟩
theorem zt_14_22 : zm_T zk_E RX14 14 22 .int false := ⟨RX14, TX14, 36, tyX14, rfl, tyX14_ok, nmX14, rfl, rfl, rfl⟩
theorem zl_X14_184 : zm_L zk_E RX14 184 yX14_readHold (.code yX14_readHold cX14_readHold 2 none) 0 ∧ Cond.instanceMethod yX14_readHold ∈ zk_E.2.2.1 ∧ Cond.selects yX14_readHold.cls yX14_readHold yX14_readHold ∈ zk_E.2.2.1 := ⟨⟨zk_b19 211 (by decide +kernel) rfl, zk_b1 16 (by decide +kernel) rfl, zk_b19 208 (by decide +kernel) rfl, by decide +kernel, by decide +kernel, by decide +kernel⟩, zk_b19 210 (by decide +kernel) rfl, zk_s16 (q := (yX14_readHold, 36)) 13 (by decide +kernel)⟩
theorem zl_X14_181 : zm_L zk_E RX14 181 yX14_readRow (.code yX14_readRow cX14_readRow 4 none) 0 ∧ Cond.instanceMethod yX14_readRow ∈ zk_E.2.2.1 ∧ Cond.selects yX14_readRow.cls yX14_readRow yX14_readRow ∈ zk_E.2.2.1 := ⟨⟨zk_b19 203 (by decide +kernel) rfl, zk_b1 16 (by decide +kernel) rfl, zk_b19 200 (by decide +kernel) rfl, by decide +kernel, by decide +kernel, by decide +kernel⟩, zk_b19 202 (by decide +kernel) rfl, zk_s16 (q := (yX14_readRow, 36)) 11 (by decide +kernel)⟩
theorem zl_X14_178 : zm_L zk_E RX14 178 yX14_readAct (.code yX14_readAct cX14_readAct 2 none) 0 ∧ Cond.instanceMethod yX14_readAct ∈ zk_E.2.2.1 ∧ Cond.selects yX14_readAct.cls yX14_readAct yX14_readAct ∈ zk_E.2.2.1 := ⟨⟨zk_b19 195 (by decide +kernel) rfl, zk_b1 16 (by decide +kernel) rfl, zk_b19 192 (by decide +kernel) rfl, by decide +kernel, by decide +kernel, by decide +kernel⟩, zk_b19 194 (by decide +kernel) rfl, zk_s16 (q := (yX14_readAct, 36)) 9 (by decide +kernel)⟩
theorem zl_X14_175 : zm_L zk_E RX14 175 yX14_readZone (.code yX14_readZone cX14_readZone 6 none) 0 ∧ Cond.instanceMethod yX14_readZone ∈ zk_E.2.2.1 ∧ Cond.selects yX14_readZone.cls yX14_readZone yX14_readZone ∈ zk_E.2.2.1 := ⟨⟨zk_b19 167 (by decide +kernel) rfl, zk_b1 16 (by decide +kernel) rfl, zk_b19 164 (by decide +kernel) rfl, by decide +kernel, by decide +kernel, by decide +kernel⟩, zk_b19 166 (by decide +kernel) rfl, zk_s16 (q := (yX14_readZone, 36)) 2 (by decide +kernel)⟩
theorem zl_X14_199 : zm_L zk_E RX14 199 yX14_rests (.code yX14_rests cX14_rests 2 none) 1 ∧ Cond.instanceMethod yX14_rests ∈ zk_E.2.2.1 ∧ Cond.selects yX14_rests.cls yX14_rests yX14_rests ∈ zk_E.2.2.1 := ⟨⟨zk_b19 219 (by decide +kernel) rfl, zk_b1 16 (by decide +kernel) rfl, zk_b19 216 (by decide +kernel) rfl, by decide +kernel, by decide +kernel, by decide +kernel⟩, zk_b19 218 (by decide +kernel) rfl, zk_s16 (q := (yX14_rests, 36)) 15 (by decide +kernel)⟩
theorem zl_X14_196 : zm_F zk_E RX14 196 14 21 := ⟨RX14, TX14, 36, rfl, zk_i14, by decide, zk_b14 145 (by decide +kernel) rfl⟩
theorem zt_14_21 : zm_T zk_E RX14 14 21 .int false := ⟨RX14, TX14, 36, tyX14, rfl, tyX14_ok, nmX14, rfl, rfl, rfl⟩
set_option maxHeartbeats 4000000 in
set_option maxRecDepth 100000 in
theorem zt_X14_unit {l : Launch} {V : zm_V} {N : Nat} {S : zm_S} {out : (Int32 × zm_S)} {d : Nat} {a0 : Nat} {i1 : Int32} (hd : 1 ≤ d) (h : zf_X14_unit N a0 i1 S = some out) : zm_Met l zk_E V yX14_unit (.code yX14_unit cX14_unit 2 (some .int)) d [.ref a0, .int i1] S 0 0 (zo_i out) zo_x := by
  refine zm_of (by decide +kernel) (Nat.le_of_ble_eq_true rfl) ?_
  intro p e R s m args below meth c hRR hX hr hxt
  have hR : R.frames = d ∧ R.locals = 64 * d := by rw [hRR]; exact ⟨rfl, rfl⟩
  have hX : zm_X p R s m args meth c RX14 "unit" cX14_unit 2 zk_E V 0 0 := hX
  unfold zf_X14_unit at h
  refine zw_sub (lv' := [(0, .ref a0), (1, .int i1)]) (List.forall_mem_cons.mpr ⟨rfl, (List.forall_mem_cons.mpr ⟨rfl, zs_nil⟩)⟩) ?_
  refine zw_aload_n hX dX14_unit_0 rfl ?_
  obtain ⟨b1, g, h⟩ := zb_some h
  refine zw_getr hX zl_X14_20 dX14_unit_1 g ?_
  refine zw_aload_n hX dX14_unit_4 rfl ?_
  obtain ⟨v2, g, h⟩ := zb_some h
  refine zw_geti hX zl_X14_89 dX14_unit_5 g ?_
  refine zw_iload_n hX dX14_unit_8 rfl ?_
  obtain ⟨S3, g, h⟩ := zb_some h
  refine zw_si hX dX14_unit_9 g ?_
  refine zw_aload_n hX dX14_unit_10 rfl ?_
  refine zw_dup hX dX14_unit_11 rfl ?_
  obtain ⟨v4, g, h⟩ := zb_some h
  refine zw_geti hX zl_X14_89 dX14_unit_12 g ?_
  refine zw_iconst (v := (1 : Int32)) hX dX14_unit_15 (by decide) ?_
  refine zw_iadd hX dX14_unit_16 ?_
  obtain ⟨S5, g, h⟩ := zb_some h
  refine zw_putv hX zl_X14_89 zt_14_6 dX14_unit_17 rfl rfl g ?_
  refine zw_aload_n hX dX14_unit_20 rfl ?_
  obtain ⟨v6, g, h⟩ := zb_some h
  refine zw_geti hX zl_X14_89 dX14_unit_21 g ?_
  obtain rfl := Option.some.inj h
  exact zw_iret hX hr dX14_unit_24 rfl ⟨rfl, rfl⟩
set_option maxHeartbeats 4000000 in
set_option maxRecDepth 100000 in
theorem zt_X14_letter {l : Launch} {V : zm_V} {N : Nat} {S : zm_S} {out : (Unit × zm_S)} {d : Nat} {a0 : Nat} {i1 : Int32} (hd : 1 ≤ d) (h : zf_X14_letter N a0 i1 S = some out) : zm_Met l zk_E V yX14_letter (.code yX14_letter cX14_letter 2 none) d [.ref a0, .int i1] S 0 0 (zo_v out) zo_x := by
  refine zm_of (by decide +kernel) (Nat.le_of_ble_eq_true rfl) ?_
  intro p e R s m args below meth c hRR hX hr hxt
  have hR : R.frames = d ∧ R.locals = 64 * d := by rw [hRR]; exact ⟨rfl, rfl⟩
  have hX : zm_X p R s m args meth c RX14 "letter" cX14_letter 2 zk_E V 0 0 := hX
  unfold zf_X14_letter at h
  refine zw_sub (lv' := [(0, .ref a0), (1, .int i1)]) (List.forall_mem_cons.mpr ⟨rfl, (List.forall_mem_cons.mpr ⟨rfl, zs_nil⟩)⟩) ?_
  refine zw_aload_n hX dX14_letter_0 rfl ?_
  obtain ⟨b1, g, h⟩ := zb_some h
  refine zw_getr hX zl_X14_86 dX14_letter_1 g ?_
  refine zw_aload_n hX dX14_letter_4 rfl ?_
  obtain ⟨v2, g, h⟩ := zb_some h
  refine zw_geti hX zl_X14_93 dX14_letter_5 g ?_
  refine zw_iload_n hX dX14_letter_8 rfl ?_
  obtain ⟨S3, g, h⟩ := zb_some h
  refine zw_si hX dX14_letter_9 g ?_
  refine zw_aload_n hX dX14_letter_10 rfl ?_
  refine zw_dup hX dX14_letter_11 rfl ?_
  obtain ⟨v4, g, h⟩ := zb_some h
  refine zw_geti hX zl_X14_93 dX14_letter_12 g ?_
  refine zw_iconst (v := (1 : Int32)) hX dX14_letter_15 (by decide) ?_
  refine zw_iadd hX dX14_letter_16 ?_
  obtain ⟨S5, g, h⟩ := zb_some h
  refine zw_putv hX zl_X14_93 zt_14_35 dX14_letter_17 rfl rfl g ?_
  obtain rfl := Option.some.inj h
  exact zw_vret hX hr dX14_letter_20 ⟨rfl, rfl⟩
set_option maxHeartbeats 4000000 in
set_option maxRecDepth 100000 in
theorem zt_X14_number_J81 {p : Program} {l : Launch} {e : Env} {R : Room} {s : State} {m : MethodId} {args : Array Value} {below : List Frame} {meth : Method} {c : Code} {V : zm_V} {mc ms d rc rs : Nat} (hX : zm_X p R s m args meth c RX14 "number" cX14_number 2 zk_E V mc ms) (hr : meth.sig.returnType = none) (hR : R.frames = d ∧ R.locals = 64 * d) (hd : 2 ≤ d) {N : Nat} {a0 : Nat} {i1 : Int32} {out : (Unit × zm_S)} {S : zm_S} (h : zf_X14_number_J81 N a0 i1 S = some out) : zw p l e R s m args below meth c (vx_MQ below (zm_Qc zk_E V (zo_v out)) (zm_XC zk_E V zo_x) args s mc ms (fun q => V.2.2.2.1 ≤ q)) 2 zk_E V mc ms 81 [(0, .ref a0), (1, .int i1)] [] S rc rs := by
  unfold zf_X14_number_J81 at h
  refine zw_aload_n hX dX14_number_81 rfl ?_
  refine zw_bipush (v := (48 : Int32)) hX dX14_number_82 (by decide) ?_
  refine zw_iload_n hX dX14_number_84 rfl ?_
  refine zw_bipush (v := (10 : Int32)) hX dX14_number_85 (by decide) ?_
  refine zw_irem hX dX14_number_87 (by decide) ?_
  refine zw_iadd hX dX14_number_88 ?_
  obtain ⟨_, gi, h⟩ := zb_some h
  obtain ⟨r2, g, h⟩ := zb_some h
  refine zc_Vv (as := [.int ((48 : Int32) + (i1 - i1 / (10 : Int32) * (10 : Int32)))]) hX gi (zt_X14_letter (d := d - 1) (by omega) g) zl_X14_96 rfl dX14_number_89 ⟨rfl, rfl, Nat.le_of_ble_eq_true rfl⟩ ⟨by omega, by omega⟩ ?_
  refine zw_aload_n hX dX14_number_92 rfl ?_
  refine zw_bipush (v := (32 : Int32)) hX dX14_number_93 (by decide) ?_
  obtain ⟨_, gi, h⟩ := zb_some h
  obtain ⟨r4, g, h⟩ := zb_some h
  refine zc_Vv (as := [.int (32 : Int32)]) hX gi (zt_X14_letter (d := d - 1) (by omega) g) zl_X14_96 rfl dX14_number_95 ⟨rfl, rfl, Nat.le_of_ble_eq_true rfl⟩ ⟨by omega, by omega⟩ ?_
  obtain rfl := Option.some.inj h
  exact zw_vret hX hr dX14_number_98 ⟨rfl, rfl⟩
set_option maxHeartbeats 4000000 in
set_option maxRecDepth 100000 in
theorem zt_X14_number_J61 {p : Program} {l : Launch} {e : Env} {R : Room} {s : State} {m : MethodId} {args : Array Value} {below : List Frame} {meth : Method} {c : Code} {V : zm_V} {mc ms d rc rs : Nat} (hX : zm_X p R s m args meth c RX14 "number" cX14_number 2 zk_E V mc ms) (hr : meth.sig.returnType = none) (hR : R.frames = d ∧ R.locals = 64 * d) (hd : 2 ≤ d) {N : Nat} {a0 : Nat} {i1 : Int32} {out : (Unit × zm_S)} {S : zm_S} (h : zf_X14_number_J61 N a0 i1 S = some out) : zw p l e R s m args below meth c (vx_MQ below (zm_Qc zk_E V (zo_v out)) (zm_XC zk_E V zo_x) args s mc ms (fun q => V.2.2.2.1 ≤ q)) 2 zk_E V mc ms 61 [(0, .ref a0), (1, .int i1)] [] S rc rs := by
  unfold zf_X14_number_J61 at h
  refine zw_iload_n hX dX14_number_61 rfl ?_
  refine zw_bipush (v := (9 : Int32)) hX dX14_number_62 (by decide) ?_
  refine zw_icmp_le (tgt := 81) hX dX14_number_64 (by decide) (fun c64 => ?_) (fun c64 => ?_)
  · rw [if_pos c64] at h
    refine zw_sub (lv' := [(0, .ref a0), (1, .int i1)]) (List.forall_mem_cons.mpr ⟨rfl, (List.forall_mem_cons.mpr ⟨rfl, zs_nil⟩)⟩) ?_
    exact zt_X14_number_J81 hX hr hR hd h
  · rw [if_neg c64] at h
    refine zw_aload_n hX dX14_number_67 rfl ?_
    refine zw_bipush (v := (48 : Int32)) hX dX14_number_68 (by decide) ?_
    refine zw_iload_n hX dX14_number_70 rfl ?_
    refine zw_bipush (v := (10 : Int32)) hX dX14_number_71 (by decide) ?_
    refine zw_idiv hX dX14_number_73 (by decide) ?_
    refine zw_bipush (v := (10 : Int32)) hX dX14_number_74 (by decide) ?_
    refine zw_irem hX dX14_number_76 (by decide) ?_
    refine zw_iadd hX dX14_number_77 ?_
    obtain ⟨_, gi, h⟩ := zb_some h
    obtain ⟨r6, g, h⟩ := zb_some h
    refine zc_Vv (as := [.int ((48 : Int32) + ((i1 / (10 : Int32)) - (i1 / (10 : Int32)) / (10 : Int32) * (10 : Int32)))]) hX gi (zt_X14_letter (d := d - 1) (by omega) g) zl_X14_96 rfl dX14_number_78 ⟨rfl, rfl, Nat.le_of_ble_eq_true rfl⟩ ⟨by omega, by omega⟩ ?_
    refine zw_sub (lv' := [(0, .ref a0), (1, .int i1)]) (List.forall_mem_cons.mpr ⟨rfl, (List.forall_mem_cons.mpr ⟨rfl, zs_nil⟩)⟩) ?_
    exact zt_X14_number_J81 hX hr hR hd h
set_option maxHeartbeats 4000000 in
set_option maxRecDepth 100000 in
theorem zt_X14_number_J41 {p : Program} {l : Launch} {e : Env} {R : Room} {s : State} {m : MethodId} {args : Array Value} {below : List Frame} {meth : Method} {c : Code} {V : zm_V} {mc ms d rc rs : Nat} (hX : zm_X p R s m args meth c RX14 "number" cX14_number 2 zk_E V mc ms) (hr : meth.sig.returnType = none) (hR : R.frames = d ∧ R.locals = 64 * d) (hd : 2 ≤ d) {N : Nat} {a0 : Nat} {i1 : Int32} {out : (Unit × zm_S)} {S : zm_S} (h : zf_X14_number_J41 N a0 i1 S = some out) : zw p l e R s m args below meth c (vx_MQ below (zm_Qc zk_E V (zo_v out)) (zm_XC zk_E V zo_x) args s mc ms (fun q => V.2.2.2.1 ≤ q)) 2 zk_E V mc ms 41 [(0, .ref a0), (1, .int i1)] [] S rc rs := by
  unfold zf_X14_number_J41 at h
  refine zw_iload_n hX dX14_number_41 rfl ?_
  refine zw_bipush (v := (99 : Int32)) hX dX14_number_42 (by decide) ?_
  refine zw_icmp_le (tgt := 61) hX dX14_number_44 (by decide) (fun c44 => ?_) (fun c44 => ?_)
  · rw [if_pos c44] at h
    refine zw_sub (lv' := [(0, .ref a0), (1, .int i1)]) (List.forall_mem_cons.mpr ⟨rfl, (List.forall_mem_cons.mpr ⟨rfl, zs_nil⟩)⟩) ?_
    exact zt_X14_number_J61 hX hr hR hd h
  · rw [if_neg c44] at h
    refine zw_aload_n hX dX14_number_47 rfl ?_
    refine zw_bipush (v := (48 : Int32)) hX dX14_number_48 (by decide) ?_
    refine zw_iload_n hX dX14_number_50 rfl ?_
    refine zw_bipush (v := (100 : Int32)) hX dX14_number_51 (by decide) ?_
    refine zw_idiv hX dX14_number_53 (by decide) ?_
    refine zw_bipush (v := (10 : Int32)) hX dX14_number_54 (by decide) ?_
    refine zw_irem hX dX14_number_56 (by decide) ?_
    refine zw_iadd hX dX14_number_57 ?_
    obtain ⟨_, gi, h⟩ := zb_some h
    obtain ⟨r8, g, h⟩ := zb_some h
    refine zc_Vv (as := [.int ((48 : Int32) + ((i1 / (100 : Int32)) - (i1 / (100 : Int32)) / (10 : Int32) * (10 : Int32)))]) hX gi (zt_X14_letter (d := d - 1) (by omega) g) zl_X14_96 rfl dX14_number_58 ⟨rfl, rfl, Nat.le_of_ble_eq_true rfl⟩ ⟨by omega, by omega⟩ ?_
    refine zw_sub (lv' := [(0, .ref a0), (1, .int i1)]) (List.forall_mem_cons.mpr ⟨rfl, (List.forall_mem_cons.mpr ⟨rfl, zs_nil⟩)⟩) ?_
    exact zt_X14_number_J61 hX hr hR hd h
set_option maxHeartbeats 4000000 in
set_option maxRecDepth 100000 in
theorem zt_X14_number_J19 {p : Program} {l : Launch} {e : Env} {R : Room} {s : State} {m : MethodId} {args : Array Value} {below : List Frame} {meth : Method} {c : Code} {V : zm_V} {mc ms d rc rs : Nat} (hX : zm_X p R s m args meth c RX14 "number" cX14_number 2 zk_E V mc ms) (hr : meth.sig.returnType = none) (hR : R.frames = d ∧ R.locals = 64 * d) (hd : 2 ≤ d) {N : Nat} {a0 : Nat} {i1 : Int32} {out : (Unit × zm_S)} {S : zm_S} (h : zf_X14_number_J19 N a0 i1 S = some out) : zw p l e R s m args below meth c (vx_MQ below (zm_Qc zk_E V (zo_v out)) (zm_XC zk_E V zo_x) args s mc ms (fun q => V.2.2.2.1 ≤ q)) 2 zk_E V mc ms 19 [(0, .ref a0), (1, .int i1)] [] S rc rs := by
  unfold zf_X14_number_J19 at h
  refine zw_iload_n hX dX14_number_19 rfl ?_
  refine zw_sipush (v := (999 : Int32)) hX dX14_number_20 (by decide) ?_
  refine zw_icmp_le (tgt := 41) hX dX14_number_23 (by decide) (fun c23 => ?_) (fun c23 => ?_)
  · rw [if_pos c23] at h
    refine zw_sub (lv' := [(0, .ref a0), (1, .int i1)]) (List.forall_mem_cons.mpr ⟨rfl, (List.forall_mem_cons.mpr ⟨rfl, zs_nil⟩)⟩) ?_
    exact zt_X14_number_J41 hX hr hR hd h
  · rw [if_neg c23] at h
    refine zw_aload_n hX dX14_number_26 rfl ?_
    refine zw_bipush (v := (48 : Int32)) hX dX14_number_27 (by decide) ?_
    refine zw_iload_n hX dX14_number_29 rfl ?_
    refine zw_sipush (v := (1000 : Int32)) hX dX14_number_30 (by decide) ?_
    refine zw_idiv hX dX14_number_33 (by decide) ?_
    refine zw_bipush (v := (10 : Int32)) hX dX14_number_34 (by decide) ?_
    refine zw_irem hX dX14_number_36 (by decide) ?_
    refine zw_iadd hX dX14_number_37 ?_
    obtain ⟨_, gi, h⟩ := zb_some h
    obtain ⟨r10, g, h⟩ := zb_some h
    refine zc_Vv (as := [.int ((48 : Int32) + ((i1 / (1000 : Int32)) - (i1 / (1000 : Int32)) / (10 : Int32) * (10 : Int32)))]) hX gi (zt_X14_letter (d := d - 1) (by omega) g) zl_X14_96 rfl dX14_number_38 ⟨rfl, rfl, Nat.le_of_ble_eq_true rfl⟩ ⟨by omega, by omega⟩ ?_
    refine zw_sub (lv' := [(0, .ref a0), (1, .int i1)]) (List.forall_mem_cons.mpr ⟨rfl, (List.forall_mem_cons.mpr ⟨rfl, zs_nil⟩)⟩) ?_
    exact zt_X14_number_J41 hX hr hR hd h
set_option maxHeartbeats 4000000 in
set_option maxRecDepth 100000 in
theorem zt_X14_number {l : Launch} {V : zm_V} {N : Nat} {S : zm_S} {out : (Unit × zm_S)} {d : Nat} {a0 : Nat} {i1 : Int32} (hd : 2 ≤ d) (h : zf_X14_number N a0 i1 S = some out) : zm_Met l zk_E V yX14_number (.code yX14_number cX14_number 2 none) d [.ref a0, .int i1] S 0 0 (zo_v out) zo_x := by
  refine zm_of (by decide +kernel) (Nat.le_of_ble_eq_true rfl) ?_
  intro p e R s m args below meth c hRR hX hr hxt
  have hR : R.frames = d ∧ R.locals = 64 * d := by rw [hRR]; exact ⟨rfl, rfl⟩
  have hX : zm_X p R s m args meth c RX14 "number" cX14_number 2 zk_E V 0 0 := hX
  unfold zf_X14_number at h
  refine zw_sub (lv' := [(0, .ref a0), (1, .int i1)]) (List.forall_mem_cons.mpr ⟨rfl, (List.forall_mem_cons.mpr ⟨rfl, zs_nil⟩)⟩) ?_
  refine zw_iload_n hX dX14_number_0 rfl ?_
  refine zw_sipush (v := (9999 : Int32)) hX dX14_number_1 (by decide) ?_
  refine zw_icmp_le (tgt := 19) hX dX14_number_4 (by decide) (fun c4 => ?_) (fun c4 => ?_)
  · rw [if_pos c4] at h
    refine zw_sub (lv' := [(0, .ref a0), (1, .int i1)]) (List.forall_mem_cons.mpr ⟨rfl, (List.forall_mem_cons.mpr ⟨rfl, zs_nil⟩)⟩) ?_
    exact zt_X14_number_J19 hX hr hR hd h
  · rw [if_neg c4] at h
    refine zw_aload_n hX dX14_number_7 rfl ?_
    refine zw_bipush (v := (48 : Int32)) hX dX14_number_8 (by decide) ?_
    refine zw_iload_n hX dX14_number_10 rfl ?_
    refine zw_sipush (v := (10000 : Int32)) hX dX14_number_11 (by decide) ?_
    refine zw_idiv hX dX14_number_14 (by decide) ?_
    refine zw_iadd hX dX14_number_15 ?_
    obtain ⟨_, gi, h⟩ := zb_some h
    obtain ⟨r12, g, h⟩ := zb_some h
    refine zc_Vv (as := [.int ((48 : Int32) + (i1 / (10000 : Int32)))]) hX gi (zt_X14_letter (d := d - 1) (by omega) g) zl_X14_96 rfl dX14_number_16 ⟨rfl, rfl, Nat.le_of_ble_eq_true rfl⟩ ⟨by omega, by omega⟩ ?_
    refine zw_sub (lv' := [(0, .ref a0), (1, .int i1)]) (List.forall_mem_cons.mpr ⟨rfl, (List.forall_mem_cons.mpr ⟨rfl, zs_nil⟩)⟩) ?_
    exact zt_X14_number_J19 hX hr hR hd h
set_option maxHeartbeats 4000000 in
set_option maxRecDepth 100000 in
theorem zt_X14_word_L2 {p : Program} {l : Launch} {e : Env} {R : Room} {s : State} {m : MethodId} {args : Array Value} {below : List Frame} {meth : Method} {c : Code} {V : zm_V} {mc ms d rc rs : Nat} (hX : zm_X p R s m args meth c RX14 "word" cX14_word 3 zk_E V mc ms) (hr : meth.sig.returnType = none) (hR : R.frames = d ∧ R.locals = 64 * d) (hd : 2 ≤ d) {N : Nat} {res : (Unit × zm_S) ⊕ ((Unit) × zm_S)} {out : (Unit × zm_S)} (a0 : Nat) (hf : ∀ o, res = .inl o → o = out) (hk : ∀ (S' : zm_S), res = .inr ((), S') → zw p l e R s m args below meth c (vx_MQ below (zm_Qc zk_E V (zo_v out)) (zm_XC zk_E V zo_x) args s mc ms (fun q => V.2.2.2.1 ≤ q)) 3 zk_E V mc ms 25 [(0, .ref a0)] [] S' rc rs) : ∀ (n : Nat) (i2 : Int32) (S : zm_S), zf_X14_word_L2 N n a0 i2 S = some res → zw p l e R s m args below meth c (vx_MQ below (zm_Qc zk_E V (zo_v out)) (zm_XC zk_E V zo_x) args s mc ms (fun q => V.2.2.2.1 ≤ q)) 3 zk_E V mc ms 2 [(0, .ref a0), (2, .int i2)] [] S rc rs := by
  intro n
  induction n with
  | zero => intro i2 S h; cases h
  | succ n ih =>
    intro i2 S h
    rw [zf_X14_word_L2] at h
    refine zw_iload_n hX dX14_word_2 rfl ?_
    refine zw_if_le (tgt := 25) hX dX14_word_3 (by decide) (fun c3 => ?_) (fun c3 => ?_)
    · rw [if_pos c3] at h
      refine zw_sub (lv' := [(0, .ref a0)]) (List.forall_mem_cons.mpr ⟨rfl, zs_nil⟩) ?_
      exact hk  _ (Option.some.inj h).symm
    · rw [if_neg c3] at h
      refine zw_aload_n hX dX14_word_6 rfl ?_
      refine zw_bipush (v := (96 : Int32)) hX dX14_word_7 (by decide) ?_
      refine zw_iload_n hX dX14_word_9 rfl ?_
      refine zw_bipush (v := (32 : Int32)) hX dX14_word_10 (by decide) ?_
      refine zw_irem hX dX14_word_12 (by decide) ?_
      refine zw_iadd hX dX14_word_13 ?_
      obtain ⟨_, gi, h⟩ := zb_some h
      obtain ⟨r2, g, h⟩ := zb_some h
      refine zc_Vv (as := [.int ((96 : Int32) + (i2 - i2 / (32 : Int32) * (32 : Int32)))]) hX gi (zt_X14_letter (d := d - 1) (by omega) g) zl_X14_96 rfl dX14_word_14 ⟨rfl, rfl, Nat.le_of_ble_eq_true rfl⟩ ⟨by omega, by omega⟩ ?_
      refine zw_iload_n hX dX14_word_17 rfl ?_
      refine zw_bipush (v := (32 : Int32)) hX dX14_word_18 (by decide) ?_
      refine zw_idiv hX dX14_word_20 (by decide) ?_
      refine zw_istore_n hX dX14_word_21 (by decide) ?_
      refine zw_goto (tgt := 2) hX dX14_word_22 (by decide) ?_
      refine zw_sub (lv' := [(0, .ref a0), (2, .int (i2 / (32 : Int32)))]) (List.forall_mem_cons.mpr ⟨rfl, (List.forall_mem_cons.mpr ⟨rfl, zs_nil⟩)⟩) ?_
      exact ih _ _ h
set_option maxHeartbeats 4000000 in
set_option maxRecDepth 100000 in
theorem zt_X14_word {l : Launch} {V : zm_V} {N : Nat} {S : zm_S} {out : (Unit × zm_S)} {d : Nat} {a0 : Nat} {i1 : Int32} (hd : 2 ≤ d) (h : zf_X14_word N a0 i1 S = some out) : zm_Met l zk_E V yX14_word (.code yX14_word cX14_word 3 none) d [.ref a0, .int i1] S 0 0 (zo_v out) zo_x := by
  refine zm_of (by decide +kernel) (Nat.le_of_ble_eq_true rfl) ?_
  intro p e R s m args below meth c hRR hX hr hxt
  have hR : R.frames = d ∧ R.locals = 64 * d := by rw [hRR]; exact ⟨rfl, rfl⟩
  have hX : zm_X p R s m args meth c RX14 "word" cX14_word 3 zk_E V 0 0 := hX
  unfold zf_X14_word at h
  refine zw_sub (lv' := [(0, .ref a0), (1, .int i1)]) (List.forall_mem_cons.mpr ⟨rfl, (List.forall_mem_cons.mpr ⟨rfl, zs_nil⟩)⟩) ?_
  refine zw_iload_n hX dX14_word_0 rfl ?_
  refine zw_istore_n hX dX14_word_1 (by decide) ?_
  obtain ⟨r, g, h⟩ := zb_some h
  refine zw_sub (lv' := [(0, .ref a0), (2, .int i1)]) (List.forall_mem_cons.mpr ⟨rfl, (List.forall_mem_cons.mpr ⟨rfl, zs_nil⟩)⟩) ?_
  refine zt_X14_word_L2 hX hr hR hd (res := r) (out := out) a0 ?_ ?_ N _ _ g
  · intro o ho
    subst ho
    exact Option.some.inj h
  · intro  S3 hx
    subst hx
    try dsimp only at h
    refine zw_aload_n hX dX14_word_25 rfl ?_
    refine zw_bipush (v := (32 : Int32)) hX dX14_word_26 (by decide) ?_
    obtain ⟨_, gi, h⟩ := zb_some h
    obtain ⟨r5, g, h⟩ := zb_some h
    refine zc_Vv (as := [.int (32 : Int32)]) hX gi (zt_X14_letter (d := d - 1) (by omega) g) zl_X14_96 rfl dX14_word_28 ⟨rfl, rfl, Nat.le_of_ble_eq_true rfl⟩ ⟨by omega, by omega⟩ ?_
    obtain rfl := Option.some.inj h
    exact zw_vret hX hr dX14_word_31 ⟨rfl, rfl⟩
set_option maxHeartbeats 4000000 in
set_option maxRecDepth 100000 in
theorem zt_X14_stop {l : Launch} {V : zm_V} {N : Nat} {S : zm_S} {out : (Unit × zm_S)} {d : Nat} {a0 : Nat} (hd : 2 ≤ d) (h : zf_X14_stop N a0 S = some out) : zm_Met l zk_E V yX14_stop (.code yX14_stop cX14_stop 1 none) d [.ref a0] S 0 0 (zo_v out) zo_x := by
  refine zm_of (by decide +kernel) (Nat.le_of_ble_eq_true rfl) ?_
  intro p e R s m args below meth c hRR hX hr hxt
  have hR : R.frames = d ∧ R.locals = 64 * d := by rw [hRR]; exact ⟨rfl, rfl⟩
  have hX : zm_X p R s m args meth c RX14 "stop" cX14_stop 1 zk_E V 0 0 := hX
  unfold zf_X14_stop at h
  refine zw_sub (lv' := [(0, .ref a0)]) (List.forall_mem_cons.mpr ⟨rfl, zs_nil⟩) ?_
  refine zw_aload_n hX dX14_stop_0 rfl ?_
  refine zw_bipush (v := (59 : Int32)) hX dX14_stop_1 (by decide) ?_
  obtain ⟨_, gi, h⟩ := zb_some h
  obtain ⟨r2, g, h⟩ := zb_some h
  refine zc_Vv (as := [.int (59 : Int32)]) hX gi (zt_X14_letter (d := d - 1) (by omega) g) zl_X14_96 rfl dX14_stop_3 ⟨rfl, rfl, Nat.le_of_ble_eq_true rfl⟩ ⟨by omega, by omega⟩ ?_
  refine zw_aload_n hX dX14_stop_6 rfl ?_
  refine zw_bipush (v := (32 : Int32)) hX dX14_stop_7 (by decide) ?_
  obtain ⟨_, gi, h⟩ := zb_some h
  obtain ⟨r4, g, h⟩ := zb_some h
  refine zc_Vv (as := [.int (32 : Int32)]) hX gi (zt_X14_letter (d := d - 1) (by omega) g) zl_X14_96 rfl dX14_stop_9 ⟨rfl, rfl, Nat.le_of_ble_eq_true rfl⟩ ⟨by omega, by omega⟩ ?_
  obtain rfl := Option.some.inj h
  exact zw_vret hX hr dX14_stop_12 ⟨rfl, rfl⟩
set_option maxHeartbeats 4000000 in
set_option maxRecDepth 100000 in
theorem zt_X14_isSaid {l : Launch} {V : zm_V} {N : Nat} {S : zm_S} {out : (Int32 × zm_S)} {d : Nat} {i0 : Int32} (hd : 1 ≤ d) (h : zf_X14_isSaid N i0 S = some out) : zm_Met l zk_E V yX14_isSaid (.code yX14_isSaid cX14_isSaid 1 (some .boolean)) d [.int i0] S 0 0 (zo_i out) zo_x := by
  refine zm_of (by decide +kernel) (Nat.le_of_ble_eq_true rfl) ?_
  intro p e R s m args below meth c hRR hX hr hxt
  have hR : R.frames = d ∧ R.locals = 64 * d := by rw [hRR]; exact ⟨rfl, rfl⟩
  have hX : zm_X p R s m args meth c RX14 "isSaid" cX14_isSaid 1 zk_E V 0 0 := hX
  unfold zf_X14_isSaid at h
  refine zw_sub (lv' := [(0, .int i0)]) (List.forall_mem_cons.mpr ⟨rfl, zs_nil⟩) ?_
  refine zw_iload_n hX dX14_isSaid_0 rfl ?_
  refine zw_if_lt (tgt := 15) hX dX14_isSaid_1 (by decide) (fun c1 => ?_) (fun c1 => ?_)
  · rw [if_pos c1] at h
    refine zw_iconst (v := (0 : Int32)) hX dX14_isSaid_15 (by decide) ?_
    obtain rfl := Option.some.inj h
    exact zw_iret hX hr dX14_isSaid_16 rfl ⟨rfl, rfl⟩
  · rw [if_neg c1] at h
    refine zw_iload_n hX dX14_isSaid_4 rfl ?_
    refine zw_sipush (v := (9999 : Int32)) hX dX14_isSaid_5 (by decide) ?_
    refine zw_icmp_gt (tgt := 15) hX dX14_isSaid_8 (by decide) (fun c8 => ?_) (fun c8 => ?_)
    · rw [if_pos c8] at h
      refine zw_iconst (v := (0 : Int32)) hX dX14_isSaid_15 (by decide) ?_
      obtain rfl := Option.some.inj h
      exact zw_iret hX hr dX14_isSaid_16 rfl ⟨rfl, rfl⟩
    · rw [if_neg c8] at h
      refine zw_iconst (v := (1 : Int32)) hX dX14_isSaid_11 (by decide) ?_
      refine zw_goto (tgt := 16) hX dX14_isSaid_12 (by decide) ?_
      obtain rfl := Option.some.inj h
      exact zw_iret hX hr dX14_isSaid_16 rfl ⟨rfl, rfl⟩
set_option maxHeartbeats 4000000 in
set_option maxRecDepth 100000 in
theorem zt_X14_sentence_J184 {p : Program} {l : Launch} {e : Env} {R : Room} {s : State} {m : MethodId} {args : Array Value} {below : List Frame} {meth : Method} {c : Code} {V : zm_V} {mc ms d rc rs : Nat} (hX : zm_X p R s m args meth c RX14 "sentence" cX14_sentence 7 zk_E V mc ms) (hr : meth.sig.returnType = none) (hR : R.frames = d ∧ R.locals = 64 * d) (hd : 3 ≤ d) {N : Nat} {a0 : Nat} {t0 : Nat} {t1 : Int32} {out : (Unit × zm_S)} {S : zm_S} (h : zf_X14_sentence_J184 N a0 t0 t1 S = some out) : zw p l e R s m args below meth c (vx_MQ below (zm_Qc zk_E V (zo_v out)) (zm_XC zk_E V zo_x) args s mc ms (fun q => V.2.2.2.1 ≤ q)) 7 zk_E V mc ms 184 [(0, .ref a0)] [.int t1, .ref t0] S rc rs := by
  unfold zf_X14_sentence_J184 at h
  obtain ⟨_, gi, h⟩ := zb_some h
  obtain ⟨r8, g, h⟩ := zb_some h
  refine zc_Vv (as := [.int t1]) hX gi (zt_X14_number (d := d - 1) (by omega) g) zl_X14_114 rfl dX14_sentence_184 ⟨rfl, rfl, Nat.le_of_ble_eq_true rfl⟩ ⟨by omega, by omega⟩ ?_
  refine zw_aload_n hX dX14_sentence_187 rfl ?_
  obtain ⟨_, gi, h⟩ := zb_some h
  obtain ⟨r10, g, h⟩ := zb_some h
  refine zc_Vv (as := []) hX gi (zt_X14_stop (d := d - 1) (by omega) g) zl_X14_122 rfl dX14_sentence_188 ⟨rfl, rfl, Nat.le_of_ble_eq_true rfl⟩ ⟨by omega, by omega⟩ ?_
  obtain rfl := Option.some.inj h
  exact zw_vret hX hr dX14_sentence_191 ⟨rfl, rfl⟩
set_option maxHeartbeats 4000000 in
set_option maxRecDepth 100000 in
theorem zt_X14_sentence_J166 {p : Program} {l : Launch} {e : Env} {R : Room} {s : State} {m : MethodId} {args : Array Value} {below : List Frame} {meth : Method} {c : Code} {V : zm_V} {mc ms d rc rs : Nat} (hX : zm_X p R s m args meth c RX14 "sentence" cX14_sentence 7 zk_E V mc ms) (hr : meth.sig.returnType = none) (hR : R.frames = d ∧ R.locals = 64 * d) (hd : 3 ≤ d) {N : Nat} {a0 : Nat} {i1 : Int32} {i3 : Int32} {i4 : Int32} {out : (Unit × zm_S)} {S : zm_S} (h : zf_X14_sentence_J166 N a0 i1 i3 i4 S = some out) : zw p l e R s m args below meth c (vx_MQ below (zm_Qc zk_E V (zo_v out)) (zm_XC zk_E V zo_x) args s mc ms (fun q => V.2.2.2.1 ≤ q)) 7 zk_E V mc ms 166 [(0, .ref a0), (1, .int i1), (3, .int i3), (4, .int i4)] [] S rc rs := by
  unfold zf_X14_sentence_J166 at h
  refine zw_aload_n hX dX14_sentence_166 rfl ?_
  refine zw_ldc (v := (628196 : Int32)) hX dX14_sentence_167 zl_X14_121 ?_
  obtain ⟨_, gi, h⟩ := zb_some h
  obtain ⟨r6, g, h⟩ := zb_some h
  refine zc_Vv (as := [.int (628196 : Int32)]) hX gi (zt_X14_word (d := d - 1) (by omega) g) zl_X14_111 rfl dX14_sentence_169 ⟨rfl, rfl, Nat.le_of_ble_eq_true rfl⟩ ⟨by omega, by omega⟩ ?_
  refine zw_aload_n hX dX14_sentence_172 rfl ?_
  refine zw_iload_n hX dX14_sentence_173 rfl ?_
  refine zw_iconst (v := (2 : Int32)) hX dX14_sentence_174 (by decide) ?_
  refine zw_icmp_ne (tgt := 182) hX dX14_sentence_175 (by decide) (fun c175 => ?_) (fun c175 => ?_)
  · rw [if_neg c175] at h
    refine zw_iload hX dX14_sentence_182 rfl ?_
    refine zw_sub (lv' := [(0, .ref a0)]) (List.forall_mem_cons.mpr ⟨rfl, zs_nil⟩) ?_
    exact zt_X14_sentence_J184 hX hr hR hd h
  · rw [if_pos c175] at h
    refine zw_iload_n hX dX14_sentence_178 rfl ?_
    refine zw_goto (tgt := 184) hX dX14_sentence_179 (by decide) ?_
    refine zw_sub (lv' := [(0, .ref a0)]) (List.forall_mem_cons.mpr ⟨rfl, zs_nil⟩) ?_
    exact zt_X14_sentence_J184 hX hr hR hd h
set_option maxHeartbeats 4000000 in
set_option maxRecDepth 100000 in
theorem zt_X14_sentence_J144 {p : Program} {l : Launch} {e : Env} {R : Room} {s : State} {m : MethodId} {args : Array Value} {below : List Frame} {meth : Method} {c : Code} {V : zm_V} {mc ms d rc rs : Nat} (hX : zm_X p R s m args meth c RX14 "sentence" cX14_sentence 7 zk_E V mc ms) (hr : meth.sig.returnType = none) (hR : R.frames = d ∧ R.locals = 64 * d) (hd : 3 ≤ d) {N : Nat} {a0 : Nat} {i1 : Int32} {i3 : Int32} {i4 : Int32} {out : (Unit × zm_S)} {S : zm_S} (h : zf_X14_sentence_J144 N a0 i1 i3 i4 S = some out) : zw p l e R s m args below meth c (vx_MQ below (zm_Qc zk_E V (zo_v out)) (zm_XC zk_E V zo_x) args s mc ms (fun q => V.2.2.2.1 ≤ q)) 7 zk_E V mc ms 144 [(0, .ref a0), (1, .int i1), (3, .int i3), (4, .int i4)] [] S rc rs := by
  unfold zf_X14_sentence_J144 at h
  refine zw_iload_n hX dX14_sentence_144 rfl ?_
  refine zw_iconst (v := (3 : Int32)) hX dX14_sentence_145 (by decide) ?_
  refine zw_icmp_ne (tgt := 166) hX dX14_sentence_146 (by decide) (fun c146 => ?_) (fun c146 => ?_)
  · rw [if_neg c146] at h
    refine zw_sub (lv' := [(0, .ref a0), (1, .int i1), (3, .int i3), (4, .int i4)]) (List.forall_mem_cons.mpr ⟨rfl, (List.forall_mem_cons.mpr ⟨rfl, (List.forall_mem_cons.mpr ⟨rfl, (List.forall_mem_cons.mpr ⟨rfl, zs_nil⟩)⟩)⟩)⟩) ?_
    exact zt_X14_sentence_J166 hX hr hR hd h
  · rw [if_pos c146] at h
    refine zw_aload_n hX dX14_sentence_149 rfl ?_
    refine zw_bipush (v := (38 : Int32)) hX dX14_sentence_150 (by decide) ?_
    obtain ⟨_, gi, h⟩ := zb_some h
    obtain ⟨r12, g, h⟩ := zb_some h
    refine zc_Vv (as := [.int (38 : Int32)]) hX gi (zt_X14_letter (d := d - 1) (by omega) g) zl_X14_96 rfl dX14_sentence_152 ⟨rfl, rfl, Nat.le_of_ble_eq_true rfl⟩ ⟨by omega, by omega⟩ ?_
    refine zw_aload_n hX dX14_sentence_155 rfl ?_
    refine zw_bipush (v := (32 : Int32)) hX dX14_sentence_156 (by decide) ?_
    obtain ⟨_, gi, h⟩ := zb_some h
    obtain ⟨r14, g, h⟩ := zb_some h
    refine zc_Vv (as := [.int (32 : Int32)]) hX gi (zt_X14_letter (d := d - 1) (by omega) g) zl_X14_96 rfl dX14_sentence_158 ⟨rfl, rfl, Nat.le_of_ble_eq_true rfl⟩ ⟨by omega, by omega⟩ ?_
    refine zw_aload_n hX dX14_sentence_161 rfl ?_
    refine zw_iload_n hX dX14_sentence_162 rfl ?_
    obtain ⟨_, gi, h⟩ := zb_some h
    obtain ⟨r16, g, h⟩ := zb_some h
    refine zc_Vv (as := [.int i3]) hX gi (zt_X14_number (d := d - 1) (by omega) g) zl_X14_114 rfl dX14_sentence_163 ⟨rfl, rfl, Nat.le_of_ble_eq_true rfl⟩ ⟨by omega, by omega⟩ ?_
    refine zw_sub (lv' := [(0, .ref a0), (1, .int i1), (3, .int i3), (4, .int i4)]) (List.forall_mem_cons.mpr ⟨rfl, (List.forall_mem_cons.mpr ⟨rfl, (List.forall_mem_cons.mpr ⟨rfl, (List.forall_mem_cons.mpr ⟨rfl, zs_nil⟩)⟩)⟩)⟩) ?_
    exact zt_X14_sentence_J166 hX hr hR hd h
set_option maxHeartbeats 4000000 in
set_option maxRecDepth 100000 in
theorem zt_X14_sentence_L66 {p : Program} {l : Launch} {e : Env} {R : Room} {s : State} {m : MethodId} {args : Array Value} {below : List Frame} {meth : Method} {c : Code} {V : zm_V} {mc ms d rc rs : Nat} (hX : zm_X p R s m args meth c RX14 "sentence" cX14_sentence 7 zk_E V mc ms) (hr : meth.sig.returnType = none) (hR : R.frames = d ∧ R.locals = 64 * d) (hd : 3 ≤ d) {N : Nat} {res : (Unit × zm_S) ⊕ ((Unit) × zm_S)} {out : (Unit × zm_S)} (a0 : Nat) (i4 : Int32) (i5 : Int32) (hf : ∀ o, res = .inl o → o = out) (hk : ∀ (S' : zm_S), res = .inr ((), S') → zw p l e R s m args below meth c (vx_MQ below (zm_Qc zk_E V (zo_v out)) (zm_XC zk_E V zo_x) args s mc ms (fun q => V.2.2.2.1 ≤ q)) 7 zk_E V mc ms 88 [(0, .ref a0)] [] S' rc rs) : ∀ (n : Nat) (i6 : Int32) (S : zm_S), zf_X14_sentence_L66 N n a0 i4 i5 i6 S = some res → zw p l e R s m args below meth c (vx_MQ below (zm_Qc zk_E V (zo_v out)) (zm_XC zk_E V zo_x) args s mc ms (fun q => V.2.2.2.1 ≤ q)) 7 zk_E V mc ms 66 [(0, .ref a0), (4, .int i4), (5, .int i5), (6, .int i6)] [] S rc rs := by
  intro n
  induction n with
  | zero => intro i6 S h; cases h
  | succ n ih =>
    intro i6 S h
    rw [zf_X14_sentence_L66] at h
    refine zw_iload hX dX14_sentence_66 rfl ?_
    refine zw_iload hX dX14_sentence_68 rfl ?_
    refine zw_icmp_ge (tgt := 88) hX dX14_sentence_70 (by decide) (fun c70 => ?_) (fun c70 => ?_)
    · rw [if_pos c70] at h
      refine zw_sub (lv' := [(0, .ref a0)]) (List.forall_mem_cons.mpr ⟨rfl, zs_nil⟩) ?_
      exact hk  _ (Option.some.inj h).symm
    · rw [if_neg c70] at h
      refine zw_aload_n hX dX14_sentence_73 rfl ?_
      refine zw_iload hX dX14_sentence_74 rfl ?_
      refine zw_iload hX dX14_sentence_76 rfl ?_
      refine zw_iadd hX dX14_sentence_78 ?_
      obtain ⟨_, gi, h⟩ := zb_some h
      obtain ⟨r40, g, h⟩ := zb_some h
      refine zc_Vv (as := [.int (i4 + i6)]) hX gi (zt_X14_number (d := d - 1) (by omega) g) zl_X14_114 rfl dX14_sentence_79 ⟨rfl, rfl, Nat.le_of_ble_eq_true rfl⟩ ⟨by omega, by omega⟩ ?_
      refine zw_iinc (v := (i6 + (1 : Int32))) hX dX14_sentence_82 rfl rfl (by decide) ?_
      refine zw_goto (tgt := 66) hX dX14_sentence_85 (by decide) ?_
      refine zw_sub (lv' := [(0, .ref a0), (4, .int i4), (5, .int i5), (6, .int (i6 + (1 : Int32)))]) (List.forall_mem_cons.mpr ⟨rfl, (List.forall_mem_cons.mpr ⟨rfl, (List.forall_mem_cons.mpr ⟨rfl, (List.forall_mem_cons.mpr ⟨rfl, zs_nil⟩)⟩)⟩)⟩) ?_
      exact ih _ _ h
set_option maxHeartbeats 4000000 in
set_option maxRecDepth 100000 in
theorem zt_X14_sentence_J33 {p : Program} {l : Launch} {e : Env} {R : Room} {s : State} {m : MethodId} {args : Array Value} {below : List Frame} {meth : Method} {c : Code} {V : zm_V} {mc ms d rc rs : Nat} (hX : zm_X p R s m args meth c RX14 "sentence" cX14_sentence 7 zk_E V mc ms) (hr : meth.sig.returnType = none) (hR : R.frames = d ∧ R.locals = 64 * d) (hd : 3 ≤ d) {N : Nat} {a0 : Nat} {i1 : Int32} {i2 : Int32} {i3 : Int32} {i4 : Int32} {i5 : Int32} {t0 : Nat} {t1 : Int32} {out : (Unit × zm_S)} {S : zm_S} (h : zf_X14_sentence_J33 N a0 i1 i2 i3 i4 i5 t0 t1 S = some out) : zw p l e R s m args below meth c (vx_MQ below (zm_Qc zk_E V (zo_v out)) (zm_XC zk_E V zo_x) args s mc ms (fun q => V.2.2.2.1 ≤ q)) 7 zk_E V mc ms 33 [(0, .ref a0), (1, .int i1), (2, .int i2), (3, .int i3), (4, .int i4), (5, .int i5)] [.int t1, .ref t0] S rc rs := by
  unfold zf_X14_sentence_J33 at h
  obtain ⟨_, gi, h⟩ := zb_some h
  obtain ⟨r2, g, h⟩ := zb_some h
  refine zc_Vv (as := [.int t1]) hX gi (zt_X14_word (d := d - 1) (by omega) g) zl_X14_111 rfl dX14_sentence_33 ⟨rfl, rfl, Nat.le_of_ble_eq_true rfl⟩ ⟨by omega, by omega⟩ ?_
  refine zw_aload_n hX dX14_sentence_36 rfl ?_
  refine zw_iload_n hX dX14_sentence_37 rfl ?_
  obtain ⟨_, gi, h⟩ := zb_some h
  obtain ⟨r4, g, h⟩ := zb_some h
  refine zc_Vv (as := [.int i2]) hX gi (zt_X14_number (d := d - 1) (by omega) g) zl_X14_114 rfl dX14_sentence_38 ⟨rfl, rfl, Nat.le_of_ble_eq_true rfl⟩ ⟨by omega, by omega⟩ ?_
  refine zw_iload_n hX dX14_sentence_41 rfl ?_
  refine zw_if_ne (tgt := 91) hX dX14_sentence_42 (by decide) (fun c42 => ?_) (fun c42 => ?_)
  · rw [if_neg c42] at h
    refine zw_iload_n hX dX14_sentence_91 rfl ?_
    refine zw_iconst (v := (1 : Int32)) hX dX14_sentence_92 (by decide) ?_
    refine zw_icmp_ne (tgt := 134) hX dX14_sentence_93 (by decide) (fun c93 => ?_) (fun c93 => ?_)
    · rw [if_neg c93] at h
      refine zw_iload_n hX dX14_sentence_134 rfl ?_
      refine zw_iconst (v := (2 : Int32)) hX dX14_sentence_135 (by decide) ?_
      refine zw_icmp_eq (tgt := 144) hX dX14_sentence_136 (by decide) (fun c136 => ?_) (fun c136 => ?_)
      · rw [if_pos c136] at h
        refine zw_sub (lv' := [(0, .ref a0), (1, .int i1), (3, .int i3), (4, .int i4)]) (List.forall_mem_cons.mpr ⟨rfl, (List.forall_mem_cons.mpr ⟨rfl, (List.forall_mem_cons.mpr ⟨rfl, (List.forall_mem_cons.mpr ⟨rfl, zs_nil⟩)⟩)⟩)⟩) ?_
        exact zt_X14_sentence_J144 hX hr hR hd h
      · rw [if_neg c136] at h
        refine zw_iload_n hX dX14_sentence_139 rfl ?_
        refine zw_iconst (v := (3 : Int32)) hX dX14_sentence_140 (by decide) ?_
        refine zw_icmp_ne (tgt := 187) hX dX14_sentence_141 (by decide) (fun c141 => ?_) (fun c141 => ?_)
        · rw [if_neg c141] at h
          refine zw_aload_n hX dX14_sentence_187 rfl ?_
          obtain ⟨_, gi, h⟩ := zb_some h
          obtain ⟨r18, g, h⟩ := zb_some h
          refine zc_Vv (as := []) hX gi (zt_X14_stop (d := d - 1) (by omega) g) zl_X14_122 rfl dX14_sentence_188 ⟨rfl, rfl, Nat.le_of_ble_eq_true rfl⟩ ⟨by omega, by omega⟩ ?_
          obtain rfl := Option.some.inj h
          exact zw_vret hX hr dX14_sentence_191 ⟨rfl, rfl⟩
        · rw [if_pos c141] at h
          refine zw_sub (lv' := [(0, .ref a0), (1, .int i1), (3, .int i3), (4, .int i4)]) (List.forall_mem_cons.mpr ⟨rfl, (List.forall_mem_cons.mpr ⟨rfl, (List.forall_mem_cons.mpr ⟨rfl, (List.forall_mem_cons.mpr ⟨rfl, zs_nil⟩)⟩)⟩)⟩) ?_
          exact zt_X14_sentence_J144 hX hr hR hd h
    · rw [if_pos c93] at h
      refine zw_aload_n hX dX14_sentence_96 rfl ?_
      refine zw_ldc (v := (145707 : Int32)) hX dX14_sentence_97 zl_X14_118 ?_
      obtain ⟨_, gi, h⟩ := zb_some h
      obtain ⟨r20, g, h⟩ := zb_some h
      refine zc_Vv (as := [.int (145707 : Int32)]) hX gi (zt_X14_word (d := d - 1) (by omega) g) zl_X14_111 rfl dX14_sentence_99 ⟨rfl, rfl, Nat.le_of_ble_eq_true rfl⟩ ⟨by omega, by omega⟩ ?_
      refine zw_aload_n hX dX14_sentence_102 rfl ?_
      refine zw_iload_n hX dX14_sentence_103 rfl ?_
      obtain ⟨_, gi, h⟩ := zb_some h
      obtain ⟨r22, g, h⟩ := zb_some h
      refine zc_Vv (as := [.int i3]) hX gi (zt_X14_number (d := d - 1) (by omega) g) zl_X14_114 rfl dX14_sentence_104 ⟨rfl, rfl, Nat.le_of_ble_eq_true rfl⟩ ⟨by omega, by omega⟩ ?_
      refine zw_aload_n hX dX14_sentence_107 rfl ?_
      refine zw_ldc (v := (374834 : Int32)) hX dX14_sentence_108 zl_X14_119 ?_
      obtain ⟨_, gi, h⟩ := zb_some h
      obtain ⟨r24, g, h⟩ := zb_some h
      refine zc_Vv (as := [.int (374834 : Int32)]) hX gi (zt_X14_word (d := d - 1) (by omega) g) zl_X14_111 rfl dX14_sentence_110 ⟨rfl, rfl, Nat.le_of_ble_eq_true rfl⟩ ⟨by omega, by omega⟩ ?_
      refine zw_aload_n hX dX14_sentence_113 rfl ?_
      refine zw_iload hX dX14_sentence_114 rfl ?_
      obtain ⟨_, gi, h⟩ := zb_some h
      obtain ⟨r26, g, h⟩ := zb_some h
      refine zc_Vv (as := [.int i4]) hX gi (zt_X14_number (d := d - 1) (by omega) g) zl_X14_114 rfl dX14_sentence_116 ⟨rfl, rfl, Nat.le_of_ble_eq_true rfl⟩ ⟨by omega, by omega⟩ ?_
      refine zw_aload_n hX dX14_sentence_119 rfl ?_
      refine zw_ldc (v := (26259620 : Int32)) hX dX14_sentence_120 zl_X14_120 ?_
      obtain ⟨_, gi, h⟩ := zb_some h
      obtain ⟨r28, g, h⟩ := zb_some h
      refine zc_Vv (as := [.int (26259620 : Int32)]) hX gi (zt_X14_word (d := d - 1) (by omega) g) zl_X14_111 rfl dX14_sentence_122 ⟨rfl, rfl, Nat.le_of_ble_eq_true rfl⟩ ⟨by omega, by omega⟩ ?_
      refine zw_aload_n hX dX14_sentence_125 rfl ?_
      refine zw_iload hX dX14_sentence_126 rfl ?_
      obtain ⟨_, gi, h⟩ := zb_some h
      obtain ⟨r30, g, h⟩ := zb_some h
      refine zc_Vv (as := [.int i5]) hX gi (zt_X14_number (d := d - 1) (by omega) g) zl_X14_114 rfl dX14_sentence_128 ⟨rfl, rfl, Nat.le_of_ble_eq_true rfl⟩ ⟨by omega, by omega⟩ ?_
      refine zw_goto (tgt := 187) hX dX14_sentence_131 (by decide) ?_
      refine zw_aload_n hX dX14_sentence_187 rfl ?_
      obtain ⟨_, gi, h⟩ := zb_some h
      obtain ⟨r32, g, h⟩ := zb_some h
      refine zc_Vv (as := []) hX gi (zt_X14_stop (d := d - 1) (by omega) g) zl_X14_122 rfl dX14_sentence_188 ⟨rfl, rfl, Nat.le_of_ble_eq_true rfl⟩ ⟨by omega, by omega⟩ ?_
      obtain rfl := Option.some.inj h
      exact zw_vret hX hr dX14_sentence_191 ⟨rfl, rfl⟩
  · rw [if_pos c42] at h
    refine zw_aload_n hX dX14_sentence_45 rfl ?_
    refine zw_ldc (v := (20059310 : Int32)) hX dX14_sentence_46 zl_X14_117 ?_
    obtain ⟨_, gi, h⟩ := zb_some h
    obtain ⟨r34, g, h⟩ := zb_some h
    refine zc_Vv (as := [.int (20059310 : Int32)]) hX gi (zt_X14_word (d := d - 1) (by omega) g) zl_X14_111 rfl dX14_sentence_48 ⟨rfl, rfl, Nat.le_of_ble_eq_true rfl⟩ ⟨by omega, by omega⟩ ?_
    refine zw_aload_n hX dX14_sentence_51 rfl ?_
    refine zw_iload_n hX dX14_sentence_52 rfl ?_
    obtain ⟨_, gi, h⟩ := zb_some h
    obtain ⟨r36, g, h⟩ := zb_some h
    refine zc_Vv (as := [.int i3]) hX gi (zt_X14_number (d := d - 1) (by omega) g) zl_X14_114 rfl dX14_sentence_53 ⟨rfl, rfl, Nat.le_of_ble_eq_true rfl⟩ ⟨by omega, by omega⟩ ?_
    refine zw_aload_n hX dX14_sentence_56 rfl ?_
    refine zw_sipush (v := (207 : Int32)) hX dX14_sentence_57 (by decide) ?_
    obtain ⟨_, gi, h⟩ := zb_some h
    obtain ⟨r38, g, h⟩ := zb_some h
    refine zc_Vv (as := [.int (207 : Int32)]) hX gi (zt_X14_word (d := d - 1) (by omega) g) zl_X14_111 rfl dX14_sentence_60 ⟨rfl, rfl, Nat.le_of_ble_eq_true rfl⟩ ⟨by omega, by omega⟩ ?_
    refine zw_iconst (v := (0 : Int32)) hX dX14_sentence_63 (by decide) ?_
    refine zw_istore hX dX14_sentence_64 (by decide) ?_
    obtain ⟨r, g, h⟩ := zb_some h
    refine zw_sub (lv' := [(0, .ref a0), (4, .int i4), (5, .int i5), (6, .int (0 : Int32))]) (List.forall_mem_cons.mpr ⟨rfl, (List.forall_mem_cons.mpr ⟨rfl, (List.forall_mem_cons.mpr ⟨rfl, (List.forall_mem_cons.mpr ⟨rfl, zs_nil⟩)⟩)⟩)⟩) ?_
    refine zt_X14_sentence_L66 hX hr hR hd (res := r) (out := out) a0 i4 i5 ?_ ?_ N _ _ g
    · intro o ho
      subst ho
      exact Option.some.inj h
    · intro  S41 hx
      subst hx
      try dsimp only at h
      refine zw_goto (tgt := 187) hX dX14_sentence_88 (by decide) ?_
      refine zw_aload_n hX dX14_sentence_187 rfl ?_
      obtain ⟨_, gi, h⟩ := zb_some h
      obtain ⟨r43, g, h⟩ := zb_some h
      refine zc_Vv (as := []) hX gi (zt_X14_stop (d := d - 1) (by omega) g) zl_X14_122 rfl dX14_sentence_188 ⟨rfl, rfl, Nat.le_of_ble_eq_true rfl⟩ ⟨by omega, by omega⟩ ?_
      obtain rfl := Option.some.inj h
      exact zw_vret hX hr dX14_sentence_191 ⟨rfl, rfl⟩
set_option maxHeartbeats 4000000 in
set_option maxRecDepth 100000 in
theorem zt_X14_sentence {l : Launch} {V : zm_V} {N : Nat} {S : zm_S} {out : (Unit × zm_S)} {d : Nat} {a0 : Nat} {i1 : Int32} {i2 : Int32} {i3 : Int32} {i4 : Int32} {i5 : Int32} (hd : 3 ≤ d) (h : zf_X14_sentence N a0 i1 i2 i3 i4 i5 S = some out) : zm_Met l zk_E V yX14_sentence (.code yX14_sentence cX14_sentence 7 none) d [.ref a0, .int i1, .int i2, .int i3, .int i4, .int i5] S 0 0 (zo_v out) zo_x := by
  refine zm_of (by decide +kernel) (Nat.le_of_ble_eq_true rfl) ?_
  intro p e R s m args below meth c hRR hX hr hxt
  have hR : R.frames = d ∧ R.locals = 64 * d := by rw [hRR]; exact ⟨rfl, rfl⟩
  have hX : zm_X p R s m args meth c RX14 "sentence" cX14_sentence 7 zk_E V 0 0 := hX
  unfold zf_X14_sentence at h
  refine zw_sub (lv' := [(0, .ref a0), (1, .int i1), (2, .int i2), (3, .int i3), (4, .int i4), (5, .int i5)]) (List.forall_mem_cons.mpr ⟨rfl, (List.forall_mem_cons.mpr ⟨rfl, (List.forall_mem_cons.mpr ⟨rfl, (List.forall_mem_cons.mpr ⟨rfl, (List.forall_mem_cons.mpr ⟨rfl, (List.forall_mem_cons.mpr ⟨rfl, zs_nil⟩)⟩)⟩)⟩)⟩)⟩) ?_
  refine zw_aload_n hX dX14_sentence_0 rfl ?_
  refine zw_iload_n hX dX14_sentence_1 rfl ?_
  refine zw_if_ne (tgt := 10) hX dX14_sentence_2 (by decide) (fun c2 => ?_) (fun c2 => ?_)
  · rw [if_neg c2] at h
    refine zw_iload_n hX dX14_sentence_10 rfl ?_
    refine zw_iconst (v := (1 : Int32)) hX dX14_sentence_11 (by decide) ?_
    refine zw_icmp_ne (tgt := 21) hX dX14_sentence_12 (by decide) (fun c12 => ?_) (fun c12 => ?_)
    · rw [if_neg c12] at h
      refine zw_iload_n hX dX14_sentence_21 rfl ?_
      refine zw_iconst (v := (4 : Int32)) hX dX14_sentence_22 (by decide) ?_
      refine zw_icmp_ne (tgt := 31) hX dX14_sentence_23 (by decide) (fun c23 => ?_) (fun c23 => ?_)
      · rw [if_neg c23] at h
        refine zw_ldc (v := (464151 : Int32)) hX dX14_sentence_31 zl_X14_110 ?_
        refine zw_sub (lv' := [(0, .ref a0), (1, .int i1), (2, .int i2), (3, .int i3), (4, .int i4), (5, .int i5)]) (List.forall_mem_cons.mpr ⟨rfl, (List.forall_mem_cons.mpr ⟨rfl, (List.forall_mem_cons.mpr ⟨rfl, (List.forall_mem_cons.mpr ⟨rfl, (List.forall_mem_cons.mpr ⟨rfl, (List.forall_mem_cons.mpr ⟨rfl, zs_nil⟩)⟩)⟩)⟩)⟩)⟩) ?_
        exact zt_X14_sentence_J33 hX hr hR hd h
      · rw [if_pos c23] at h
        refine zw_ldc (v := (143848 : Int32)) hX dX14_sentence_26 zl_X14_109 ?_
        refine zw_goto (tgt := 33) hX dX14_sentence_28 (by decide) ?_
        refine zw_sub (lv' := [(0, .ref a0), (1, .int i1), (2, .int i2), (3, .int i3), (4, .int i4), (5, .int i5)]) (List.forall_mem_cons.mpr ⟨rfl, (List.forall_mem_cons.mpr ⟨rfl, (List.forall_mem_cons.mpr ⟨rfl, (List.forall_mem_cons.mpr ⟨rfl, (List.forall_mem_cons.mpr ⟨rfl, (List.forall_mem_cons.mpr ⟨rfl, zs_nil⟩)⟩)⟩)⟩)⟩)⟩) ?_
        exact zt_X14_sentence_J33 hX hr hR hd h
    · rw [if_pos c12] at h
      refine zw_sipush (v := (20577 : Int32)) hX dX14_sentence_15 (by decide) ?_
      refine zw_goto (tgt := 33) hX dX14_sentence_18 (by decide) ?_
      refine zw_sub (lv' := [(0, .ref a0), (1, .int i1), (2, .int i2), (3, .int i3), (4, .int i4), (5, .int i5)]) (List.forall_mem_cons.mpr ⟨rfl, (List.forall_mem_cons.mpr ⟨rfl, (List.forall_mem_cons.mpr ⟨rfl, (List.forall_mem_cons.mpr ⟨rfl, (List.forall_mem_cons.mpr ⟨rfl, (List.forall_mem_cons.mpr ⟨rfl, zs_nil⟩)⟩)⟩)⟩)⟩)⟩) ?_
      exact zt_X14_sentence_J33 hX hr hR hd h
  · rw [if_pos c2] at h
    refine zw_ldc (v := (178682 : Int32)) hX dX14_sentence_5 zl_X14_108 ?_
    refine zw_goto (tgt := 33) hX dX14_sentence_7 (by decide) ?_
    refine zw_sub (lv' := [(0, .ref a0), (1, .int i1), (2, .int i2), (3, .int i3), (4, .int i4), (5, .int i5)]) (List.forall_mem_cons.mpr ⟨rfl, (List.forall_mem_cons.mpr ⟨rfl, (List.forall_mem_cons.mpr ⟨rfl, (List.forall_mem_cons.mpr ⟨rfl, (List.forall_mem_cons.mpr ⟨rfl, (List.forall_mem_cons.mpr ⟨rfl, zs_nil⟩)⟩)⟩)⟩)⟩)⟩) ?_
    exact zt_X14_sentence_J33 hX hr hR hd h
set_option maxHeartbeats 4000000 in
set_option maxRecDepth 100000 in
theorem zt_X14_make {l : Launch} {V : zm_V} {N : Nat} {S : zm_S} {out : (Unit × zm_S)} {d : Nat} {a0 : Nat} {i1 : Int32} {i2 : Int32} {i3 : Int32} {i4 : Int32} {i5 : Int32} (hd : 4 ≤ d) (h : zf_X14_make N a0 i1 i2 i3 i4 i5 S = some out) : zm_Met l zk_E V yX14_make (.code yX14_make cX14_make 6 none) d [.ref a0, .int i1, .int i2, .int i3, .int i4, .int i5] S 0 0 (zo_v out) zo_x := by
  refine zm_of (by decide +kernel) (Nat.le_of_ble_eq_true rfl) ?_
  intro p e R s m args below meth c hRR hX hr hxt
  have hR : R.frames = d ∧ R.locals = 64 * d := by rw [hRR]; exact ⟨rfl, rfl⟩
  have hX : zm_X p R s m args meth c RX14 "make" cX14_make 6 zk_E V 0 0 := hX
  unfold zf_X14_make at h
  refine zw_sub (lv' := [(0, .ref a0), (1, .int i1), (2, .int i2), (3, .int i3), (4, .int i4), (5, .int i5)]) (List.forall_mem_cons.mpr ⟨rfl, (List.forall_mem_cons.mpr ⟨rfl, (List.forall_mem_cons.mpr ⟨rfl, (List.forall_mem_cons.mpr ⟨rfl, (List.forall_mem_cons.mpr ⟨rfl, (List.forall_mem_cons.mpr ⟨rfl, zs_nil⟩)⟩)⟩)⟩)⟩)⟩) ?_
  refine zw_aload_n hX dX14_make_0 rfl ?_
  refine zw_iconst (v := (0 : Int32)) hX dX14_make_1 (by decide) ?_
  obtain ⟨S1, g, h⟩ := zb_some h
  refine zw_putv hX zl_X14_93 zt_14_35 dX14_make_2 rfl rfl g ?_
  refine zw_aload_n hX dX14_make_5 rfl ?_
  refine zw_iload_n hX dX14_make_6 rfl ?_
  refine zw_iload_n hX dX14_make_7 rfl ?_
  refine zw_iload_n hX dX14_make_8 rfl ?_
  refine zw_iload hX dX14_make_9 rfl ?_
  refine zw_iload hX dX14_make_11 rfl ?_
  obtain ⟨_, gi, h⟩ := zb_some h
  obtain ⟨r3, g, h⟩ := zb_some h
  refine zc_Vv (as := [.int i1, .int i2, .int i3, .int i4, .int i5]) hX gi (zt_X14_sentence (d := d - 1) (by omega) g) zl_X14_100 rfl dX14_make_13 ⟨rfl, rfl, Nat.le_of_ble_eq_true rfl⟩ ⟨by omega, by omega⟩ ?_
  obtain rfl := Option.some.inj h
  exact zw_vret hX hr dX14_make_16 ⟨rfl, rfl⟩
set_option maxHeartbeats 4000000 in
set_option maxRecDepth 100000 in
theorem zt_X14_say_L2 {p : Program} {l : Launch} {e : Env} {R : Room} {s : State} {m : MethodId} {args : Array Value} {below : List Frame} {meth : Method} {c : Code} {V : zm_V} {mc ms d rc rs : Nat} (hX : zm_X p R s m args meth c RX14 "say" cX14_say 3 zk_E V mc ms) (hr : meth.sig.returnType = (some .int)) (hR : R.frames = d ∧ R.locals = 64 * d) (hd : 2 ≤ d) {N : Nat} {res : (Int32 × zm_S) ⊕ ((Unit) × zm_S)} {out : (Int32 × zm_S)} (a0 : Nat) (hf : ∀ o, res = .inl o → o = out) (hk : ∀ (S' : zm_S), res = .inr ((), S') → zw p l e R s m args below meth c (vx_MQ below (zm_Qc zk_E V (zo_i out)) (zm_XC zk_E V zo_x) args s mc ms (fun q => V.2.2.2.1 ≤ q)) 3 zk_E V mc ms 27 [(0, .ref a0)] [] S' rc rs) : ∀ (n : Nat) (i1 : Int32) (S : zm_S), zf_X14_say_L2 N n a0 i1 S = some res → zw p l e R s m args below meth c (vx_MQ below (zm_Qc zk_E V (zo_i out)) (zm_XC zk_E V zo_x) args s mc ms (fun q => V.2.2.2.1 ≤ q)) 3 zk_E V mc ms 2 [(0, .ref a0), (1, .int i1)] [] S rc rs := by
  intro n
  induction n with
  | zero => intro i1 S h; cases h
  | succ n ih =>
    intro i1 S h
    rw [zf_X14_say_L2] at h
    refine zw_iload_n hX dX14_say_2 rfl ?_
    refine zw_aload_n hX dX14_say_3 rfl ?_
    obtain ⟨v1, g, h⟩ := zb_some h
    refine zw_geti hX zl_X14_93 dX14_say_4 g ?_
    refine zw_icmp_ge (tgt := 27) hX dX14_say_7 (by decide) (fun c7 => ?_) (fun c7 => ?_)
    · rw [if_pos c7] at h
      refine zw_sub (lv' := [(0, .ref a0)]) (List.forall_mem_cons.mpr ⟨rfl, zs_nil⟩) ?_
      exact hk  _ (Option.some.inj h).symm
    · rw [if_neg c7] at h
      refine zw_aload_n hX dX14_say_10 rfl ?_
      refine zw_aload_n hX dX14_say_11 rfl ?_
      obtain ⟨b2, g, h⟩ := zb_some h
      refine zw_getr hX zl_X14_86 dX14_say_12 g ?_
      refine zw_iload_n hX dX14_say_15 rfl ?_
      obtain ⟨v3, g, h⟩ := zb_some h
      refine zw_xi hX dX14_say_16 g ?_
      obtain ⟨_, gi, h⟩ := zb_some h
      obtain ⟨r5, g, h⟩ := zb_some h
      refine zc_Vi (as := [.int v3]) hX gi (zt_X14_unit (d := d - 1) (by omega) g) zl_X14_104 rfl dX14_say_17 ⟨rfl, rfl, Nat.le_of_ble_eq_true rfl⟩ ⟨by omega, by omega⟩ ?_
      refine zw_istore_n hX dX14_say_20 (by decide) ?_
      refine zw_iinc (v := (i1 + (1 : Int32))) hX dX14_say_21 rfl rfl (by decide) ?_
      refine zw_goto (tgt := 2) hX dX14_say_24 (by decide) ?_
      refine zw_sub (lv' := [(0, .ref a0), (1, .int (i1 + (1 : Int32)))]) (List.forall_mem_cons.mpr ⟨rfl, (List.forall_mem_cons.mpr ⟨rfl, zs_nil⟩)⟩) ?_
      exact ih _ _ h
set_option maxHeartbeats 4000000 in
set_option maxRecDepth 100000 in
theorem zt_X14_say {l : Launch} {V : zm_V} {N : Nat} {S : zm_S} {out : (Int32 × zm_S)} {d : Nat} {a0 : Nat} (hd : 2 ≤ d) (h : zf_X14_say N a0 S = some out) : zm_Met l zk_E V yX14_say (.code yX14_say cX14_say 3 (some .int)) d [.ref a0] S 0 0 (zo_i out) zo_x := by
  refine zm_of (by decide +kernel) (Nat.le_of_ble_eq_true rfl) ?_
  intro p e R s m args below meth c hRR hX hr hxt
  have hR : R.frames = d ∧ R.locals = 64 * d := by rw [hRR]; exact ⟨rfl, rfl⟩
  have hX : zm_X p R s m args meth c RX14 "say" cX14_say 3 zk_E V 0 0 := hX
  unfold zf_X14_say at h
  refine zw_sub (lv' := [(0, .ref a0)]) (List.forall_mem_cons.mpr ⟨rfl, zs_nil⟩) ?_
  refine zw_iconst (v := (0 : Int32)) hX dX14_say_0 (by decide) ?_
  refine zw_istore_n hX dX14_say_1 (by decide) ?_
  obtain ⟨r, g, h⟩ := zb_some h
  refine zw_sub (lv' := [(0, .ref a0), (1, .int (0 : Int32))]) (List.forall_mem_cons.mpr ⟨rfl, (List.forall_mem_cons.mpr ⟨rfl, zs_nil⟩)⟩) ?_
  refine zt_X14_say_L2 hX hr hR hd (res := r) (out := out) a0 ?_ ?_ N _ _ g
  · intro o ho
    subst ho
    exact Option.some.inj h
  · intro  S6 hx
    subst hx
    try dsimp only at h
    refine zw_aload_n hX dX14_say_27 rfl ?_
    obtain ⟨v7, g, h⟩ := zb_some h
    refine zw_geti hX zl_X14_89 dX14_say_28 g ?_
    obtain rfl := Option.some.inj h
    exact zw_iret hX hr dX14_say_31 rfl ⟨rfl, rfl⟩
set_option maxHeartbeats 4000000 in
set_option maxRecDepth 100000 in
theorem zt_X14_sort_J32 {p : Program} {l : Launch} {e : Env} {R : Room} {s : State} {m : MethodId} {args : Array Value} {below : List Frame} {meth : Method} {c : Code} {V : zm_V} {mc ms d rc rs : Nat} (hX : zm_X p R s m args meth c RX14 "sort" cX14_sort 1 zk_E V mc ms) (hr : meth.sig.returnType = (some .int)) (hR : R.frames = d ∧ R.locals = 64 * d) (hd : 1 ≤ d) {N : Nat} {i0 : Int32} {out : (Int32 × zm_S)} {S : zm_S} (h : zf_X14_sort_J32 N i0 S = some out) : zw p l e R s m args below meth c (vx_MQ below (zm_Qc zk_E V (zo_i out)) (zm_XC zk_E V zo_x) args s mc ms (fun q => V.2.2.2.1 ≤ q)) 1 zk_E V mc ms 32 [(0, .int i0)] [] S rc rs := by
  unfold zf_X14_sort_J32 at h
  refine zw_iload_n hX dX14_sort_32 rfl ?_
  refine zw_bipush (v := (47 : Int32)) hX dX14_sort_33 (by decide) ?_
  refine zw_icmp_le (tgt := 48) hX dX14_sort_35 (by decide) (fun c35 => ?_) (fun c35 => ?_)
  · rw [if_pos c35] at h
    refine zw_iconst (v := (3 : Int32)) hX dX14_sort_48 (by decide) ?_
    obtain rfl := Option.some.inj h
    exact zw_iret hX hr dX14_sort_49 rfl ⟨rfl, rfl⟩
  · rw [if_neg c35] at h
    refine zw_iload_n hX dX14_sort_38 rfl ?_
    refine zw_bipush (v := (58 : Int32)) hX dX14_sort_39 (by decide) ?_
    refine zw_icmp_ge (tgt := 48) hX dX14_sort_41 (by decide) (fun c41 => ?_) (fun c41 => ?_)
    · rw [if_pos c41] at h
      refine zw_iconst (v := (3 : Int32)) hX dX14_sort_48 (by decide) ?_
      obtain rfl := Option.some.inj h
      exact zw_iret hX hr dX14_sort_49 rfl ⟨rfl, rfl⟩
    · rw [if_neg c41] at h
      refine zw_iconst (v := (2 : Int32)) hX dX14_sort_44 (by decide) ?_
      refine zw_goto (tgt := 49) hX dX14_sort_45 (by decide) ?_
      obtain rfl := Option.some.inj h
      exact zw_iret hX hr dX14_sort_49 rfl ⟨rfl, rfl⟩
set_option maxHeartbeats 4000000 in
set_option maxRecDepth 100000 in
theorem zt_X14_sort {l : Launch} {V : zm_V} {N : Nat} {S : zm_S} {out : (Int32 × zm_S)} {d : Nat} {i0 : Int32} (hd : 1 ≤ d) (h : zf_X14_sort N i0 S = some out) : zm_Met l zk_E V yX14_sort (.code yX14_sort cX14_sort 1 (some .int)) d [.int i0] S 0 0 (zo_i out) zo_x := by
  refine zm_of (by decide +kernel) (Nat.le_of_ble_eq_true rfl) ?_
  intro p e R s m args below meth c hRR hX hr hxt
  have hR : R.frames = d ∧ R.locals = 64 * d := by rw [hRR]; exact ⟨rfl, rfl⟩
  have hX : zm_X p R s m args meth c RX14 "sort" cX14_sort 1 zk_E V 0 0 := hX
  unfold zf_X14_sort at h
  refine zw_sub (lv' := [(0, .int i0)]) (List.forall_mem_cons.mpr ⟨rfl, zs_nil⟩) ?_
  refine zw_iload_n hX dX14_sort_0 rfl ?_
  refine zw_bipush (v := (32 : Int32)) hX dX14_sort_1 (by decide) ?_
  refine zw_icmp_eq (tgt := 12) hX dX14_sort_3 (by decide) (fun c3 => ?_) (fun c3 => ?_)
  · rw [if_pos c3] at h
    refine zw_iconst (v := (0 : Int32)) hX dX14_sort_12 (by decide) ?_
    refine zw_goto (tgt := 49) hX dX14_sort_13 (by decide) ?_
    obtain rfl := Option.some.inj h
    exact zw_iret hX hr dX14_sort_49 rfl ⟨rfl, rfl⟩
  · rw [if_neg c3] at h
    refine zw_iload_n hX dX14_sort_6 rfl ?_
    refine zw_bipush (v := (10 : Int32)) hX dX14_sort_7 (by decide) ?_
    refine zw_icmp_ne (tgt := 16) hX dX14_sort_9 (by decide) (fun c9 => ?_) (fun c9 => ?_)
    · rw [if_neg c9] at h
      refine zw_iload_n hX dX14_sort_16 rfl ?_
      refine zw_bipush (v := (96 : Int32)) hX dX14_sort_17 (by decide) ?_
      refine zw_icmp_le (tgt := 32) hX dX14_sort_19 (by decide) (fun c19 => ?_) (fun c19 => ?_)
      · rw [if_pos c19] at h
        refine zw_sub (lv' := [(0, .int i0)]) (List.forall_mem_cons.mpr ⟨rfl, zs_nil⟩) ?_
        exact zt_X14_sort_J32 hX hr hR hd h
      · rw [if_neg c19] at h
        refine zw_iload_n hX dX14_sort_22 rfl ?_
        refine zw_bipush (v := (123 : Int32)) hX dX14_sort_23 (by decide) ?_
        refine zw_icmp_ge (tgt := 32) hX dX14_sort_25 (by decide) (fun c25 => ?_) (fun c25 => ?_)
        · rw [if_pos c25] at h
          refine zw_sub (lv' := [(0, .int i0)]) (List.forall_mem_cons.mpr ⟨rfl, zs_nil⟩) ?_
          exact zt_X14_sort_J32 hX hr hR hd h
        · rw [if_neg c25] at h
          refine zw_iconst (v := (1 : Int32)) hX dX14_sort_28 (by decide) ?_
          refine zw_goto (tgt := 49) hX dX14_sort_29 (by decide) ?_
          obtain rfl := Option.some.inj h
          exact zw_iret hX hr dX14_sort_49 rfl ⟨rfl, rfl⟩
    · rw [if_pos c9] at h
      refine zw_iconst (v := (0 : Int32)) hX dX14_sort_12 (by decide) ?_
      refine zw_goto (tgt := 49) hX dX14_sort_13 (by decide) ?_
      obtain rfl := Option.some.inj h
      exact zw_iret hX hr dX14_sort_49 rfl ⟨rfl, rfl⟩
set_option maxHeartbeats 4000000 in
set_option maxRecDepth 100000 in
theorem zt_X14_list_J79 {p : Program} {l : Launch} {e : Env} {R : Room} {s : State} {m : MethodId} {args : Array Value} {below : List Frame} {meth : Method} {c : Code} {V : zm_V} {mc ms d rc rs : Nat} (hX : zm_X p R s m args meth c RX14 "list" cX14_list 4 zk_E V mc ms) (hr : meth.sig.returnType = none) (hR : R.frames = d ∧ R.locals = 64 * d) (hd : 2 ≤ d) {N : Nat} {k : Nat → Int32 → Int32 → zm_S → Option ((Unit × zm_S) ⊕ ((Unit) × zm_S))} {a0 : Nat} {i2 : Int32} {i3 : Int32} {res : (Unit × zm_S) ⊕ ((Unit) × zm_S)} {out : (Unit × zm_S)}   (hf : ∀ o, res = .inl o → o = out) (hk : ∀ (S' : zm_S), res = .inr ((), S') → zw p l e R s m args below meth c (vx_MQ below (zm_Qc zk_E V (zo_v out)) (zm_XC zk_E V zo_x) args s mc ms (fun q => V.2.2.2.1 ≤ q)) 4 zk_E V mc ms 87 [] [] S' rc rs) (hrec : ∀ (i1' : Int32) (i2' : Int32) (S : zm_S), k a0 i1' i2' S = some res → zw p l e R s m args below meth c (vx_MQ below (zm_Qc zk_E V (zo_v out)) (zm_XC zk_E V zo_x) args s mc ms (fun q => V.2.2.2.1 ≤ q)) 4 zk_E V mc ms 9 [(0, .ref a0), (1, .int i1'), (2, .int i2')] [] S rc rs) {S : zm_S} (h : zf_X14_list_J79 N k a0 i2 i3 S = some res) : zw p l e R s m args below meth c (vx_MQ below (zm_Qc zk_E V (zo_v out)) (zm_XC zk_E V zo_x) args s mc ms (fun q => V.2.2.2.1 ≤ q)) 4 zk_E V mc ms 79 [(0, .ref a0), (2, .int i2), (3, .int i3)] [] S rc rs := by
  unfold zf_X14_list_J79 at h
  refine zw_iload_n hX dX14_list_79 rfl ?_
  refine zw_istore_n hX dX14_list_80 (by decide) ?_
  refine zw_iinc (v := (i2 + (1 : Int32))) hX dX14_list_81 rfl rfl (by decide) ?_
  refine zw_goto (tgt := 9) hX dX14_list_84 (by decide) ?_
  refine zw_sub (lv' := [(0, .ref a0), (1, .int i3), (2, .int (i2 + (1 : Int32)))]) (List.forall_mem_cons.mpr ⟨rfl, (List.forall_mem_cons.mpr ⟨rfl, (List.forall_mem_cons.mpr ⟨rfl, zs_nil⟩)⟩)⟩) ?_
  exact hrec _ _ _ h
set_option maxHeartbeats 4000000 in
set_option maxRecDepth 100000 in
theorem zt_X14_list_J61 {p : Program} {l : Launch} {e : Env} {R : Room} {s : State} {m : MethodId} {args : Array Value} {below : List Frame} {meth : Method} {c : Code} {V : zm_V} {mc ms d rc rs : Nat} (hX : zm_X p R s m args meth c RX14 "list" cX14_list 4 zk_E V mc ms) (hr : meth.sig.returnType = none) (hR : R.frames = d ∧ R.locals = 64 * d) (hd : 2 ≤ d) {N : Nat} {k : Nat → Int32 → Int32 → zm_S → Option ((Unit × zm_S) ⊕ ((Unit) × zm_S))} {a0 : Nat} {i2 : Int32} {i3 : Int32} {res : (Unit × zm_S) ⊕ ((Unit) × zm_S)} {out : (Unit × zm_S)}   (hf : ∀ o, res = .inl o → o = out) (hk : ∀ (S' : zm_S), res = .inr ((), S') → zw p l e R s m args below meth c (vx_MQ below (zm_Qc zk_E V (zo_v out)) (zm_XC zk_E V zo_x) args s mc ms (fun q => V.2.2.2.1 ≤ q)) 4 zk_E V mc ms 87 [] [] S' rc rs) (hrec : ∀ (i1' : Int32) (i2' : Int32) (S : zm_S), k a0 i1' i2' S = some res → zw p l e R s m args below meth c (vx_MQ below (zm_Qc zk_E V (zo_v out)) (zm_XC zk_E V zo_x) args s mc ms (fun q => V.2.2.2.1 ≤ q)) 4 zk_E V mc ms 9 [(0, .ref a0), (1, .int i1'), (2, .int i2')] [] S rc rs) {S : zm_S} (h : zf_X14_list_J61 N k a0 i2 i3 S = some res) : zw p l e R s m args below meth c (vx_MQ below (zm_Qc zk_E V (zo_v out)) (zm_XC zk_E V zo_x) args s mc ms (fun q => V.2.2.2.1 ≤ q)) 4 zk_E V mc ms 61 [(0, .ref a0), (2, .int i2), (3, .int i3)] [] S rc rs := by
  unfold zf_X14_list_J61 at h
  refine zw_iload_n hX dX14_list_61 rfl ?_
  refine zw_if_le (tgt := 79) hX dX14_list_62 (by decide) (fun c62 => ?_) (fun c62 => ?_)
  · rw [if_pos c62] at h
    refine zw_sub (lv' := [(0, .ref a0), (2, .int i2), (3, .int i3)]) (List.forall_mem_cons.mpr ⟨rfl, (List.forall_mem_cons.mpr ⟨rfl, (List.forall_mem_cons.mpr ⟨rfl, zs_nil⟩)⟩)⟩) ?_
    exact zt_X14_list_J79 hX hr hR hd hf hk hrec h
  · rw [if_neg c62] at h
    refine zw_aload_n hX dX14_list_65 rfl ?_
    obtain ⟨b7, g, h⟩ := zb_some h
    refine zw_getr hX zl_X14_26 dX14_list_66 g ?_
    refine zw_aload_n hX dX14_list_69 rfl ?_
    obtain ⟨v8, g, h⟩ := zb_some h
    refine zw_geti hX zl_X14_125 dX14_list_70 g ?_
    refine zw_iconst (v := (1 : Int32)) hX dX14_list_73 (by decide) ?_
    refine zw_isub hX dX14_list_74 ?_
    refine zw_iload_n hX dX14_list_75 rfl ?_
    refine zw_iconst (v := (1 : Int32)) hX dX14_list_76 (by decide) ?_
    refine zw_iadd hX dX14_list_77 ?_
    obtain ⟨S9, g, h⟩ := zb_some h
    refine zw_si hX dX14_list_78 g ?_
    refine zw_sub (lv' := [(0, .ref a0), (2, .int i2), (3, .int i3)]) (List.forall_mem_cons.mpr ⟨rfl, (List.forall_mem_cons.mpr ⟨rfl, (List.forall_mem_cons.mpr ⟨rfl, zs_nil⟩)⟩)⟩) ?_
    exact zt_X14_list_J79 hX hr hR hd hf hk hrec h
set_option maxHeartbeats 4000000 in
set_option maxRecDepth 100000 in
theorem zt_X14_list_J41 {p : Program} {l : Launch} {e : Env} {R : Room} {s : State} {m : MethodId} {args : Array Value} {below : List Frame} {meth : Method} {c : Code} {V : zm_V} {mc ms d rc rs : Nat} (hX : zm_X p R s m args meth c RX14 "list" cX14_list 4 zk_E V mc ms) (hr : meth.sig.returnType = none) (hR : R.frames = d ∧ R.locals = 64 * d) (hd : 2 ≤ d) {N : Nat} {k : Nat → Int32 → Int32 → zm_S → Option ((Unit × zm_S) ⊕ ((Unit) × zm_S))} {a0 : Nat} {i2 : Int32} {i3 : Int32} {res : (Unit × zm_S) ⊕ ((Unit) × zm_S)} {out : (Unit × zm_S)}   (hf : ∀ o, res = .inl o → o = out) (hk : ∀ (S' : zm_S), res = .inr ((), S') → zw p l e R s m args below meth c (vx_MQ below (zm_Qc zk_E V (zo_v out)) (zm_XC zk_E V zo_x) args s mc ms (fun q => V.2.2.2.1 ≤ q)) 4 zk_E V mc ms 87 [] [] S' rc rs) (hrec : ∀ (i1' : Int32) (i2' : Int32) (S : zm_S), k a0 i1' i2' S = some res → zw p l e R s m args below meth c (vx_MQ below (zm_Qc zk_E V (zo_v out)) (zm_XC zk_E V zo_x) args s mc ms (fun q => V.2.2.2.1 ≤ q)) 4 zk_E V mc ms 9 [(0, .ref a0), (1, .int i1'), (2, .int i2')] [] S rc rs) {S : zm_S} (h : zf_X14_list_J41 N k a0 i2 i3 S = some res) : zw p l e R s m args below meth c (vx_MQ below (zm_Qc zk_E V (zo_v out)) (zm_XC zk_E V zo_x) args s mc ms (fun q => V.2.2.2.1 ≤ q)) 4 zk_E V mc ms 41 [(0, .ref a0), (2, .int i2), (3, .int i3)] [] S rc rs := by
  unfold zf_X14_list_J41 at h
  refine zw_aload_n hX dX14_list_41 rfl ?_
  obtain ⟨b10, g, h⟩ := zb_some h
  refine zw_getr hX zl_X14_23 dX14_list_42 g ?_
  refine zw_aload_n hX dX14_list_45 rfl ?_
  obtain ⟨v11, g, h⟩ := zb_some h
  refine zw_geti hX zl_X14_125 dX14_list_46 g ?_
  refine zw_iload_n hX dX14_list_49 rfl ?_
  obtain ⟨S12, g, h⟩ := zb_some h
  refine zw_si hX dX14_list_50 g ?_
  refine zw_aload_n hX dX14_list_51 rfl ?_
  refine zw_dup hX dX14_list_52 rfl ?_
  obtain ⟨v13, g, h⟩ := zb_some h
  refine zw_geti hX zl_X14_125 dX14_list_53 g ?_
  refine zw_iconst (v := (1 : Int32)) hX dX14_list_56 (by decide) ?_
  refine zw_iadd hX dX14_list_57 ?_
  obtain ⟨S14, g, h⟩ := zb_some h
  refine zw_putv hX zl_X14_125 zt_14_7 dX14_list_58 rfl rfl g ?_
  refine zw_sub (lv' := [(0, .ref a0), (2, .int i2), (3, .int i3)]) (List.forall_mem_cons.mpr ⟨rfl, (List.forall_mem_cons.mpr ⟨rfl, (List.forall_mem_cons.mpr ⟨rfl, zs_nil⟩)⟩)⟩) ?_
  exact zt_X14_list_J61 hX hr hR hd hf hk hrec h
set_option maxHeartbeats 4000000 in
set_option maxRecDepth 100000 in
theorem zt_X14_list_L9 {p : Program} {l : Launch} {e : Env} {R : Room} {s : State} {m : MethodId} {args : Array Value} {below : List Frame} {meth : Method} {c : Code} {V : zm_V} {mc ms d rc rs : Nat} (hX : zm_X p R s m args meth c RX14 "list" cX14_list 4 zk_E V mc ms) (hr : meth.sig.returnType = none) (hR : R.frames = d ∧ R.locals = 64 * d) (hd : 2 ≤ d) {N : Nat} {res : (Unit × zm_S) ⊕ ((Unit) × zm_S)} {out : (Unit × zm_S)} (a0 : Nat) (hf : ∀ o, res = .inl o → o = out) (hk : ∀ (S' : zm_S), res = .inr ((), S') → zw p l e R s m args below meth c (vx_MQ below (zm_Qc zk_E V (zo_v out)) (zm_XC zk_E V zo_x) args s mc ms (fun q => V.2.2.2.1 ≤ q)) 4 zk_E V mc ms 87 [] [] S' rc rs) : ∀ (n : Nat) (i1 : Int32) (i2 : Int32) (S : zm_S), zf_X14_list_L9 N n a0 i1 i2 S = some res → zw p l e R s m args below meth c (vx_MQ below (zm_Qc zk_E V (zo_v out)) (zm_XC zk_E V zo_x) args s mc ms (fun q => V.2.2.2.1 ≤ q)) 4 zk_E V mc ms 9 [(0, .ref a0), (1, .int i1), (2, .int i2)] [] S rc rs := by
  intro n
  induction n with
  | zero => intro i1 i2 S h; cases h
  | succ n ih =>
    intro i1 i2 S h
    rw [zf_X14_list_L9] at h
    refine zw_iload_n hX dX14_list_9 rfl ?_
    refine zw_aload_n hX dX14_list_10 rfl ?_
    obtain ⟨v2, g, h⟩ := zb_some h
    refine zw_geti hX zl_X14_89 dX14_list_11 g ?_
    refine zw_icmp_ge (tgt := 87) hX dX14_list_14 (by decide) (fun c14 => ?_) (fun c14 => ?_)
    · rw [if_pos c14] at h
      refine zw_sub (lv' := []) zs_nil ?_
      exact hk  _ (Option.some.inj h).symm
    · rw [if_neg c14] at h
      refine zw_aload_n hX dX14_list_17 rfl ?_
      obtain ⟨b3, g, h⟩ := zb_some h
      refine zw_getr hX zl_X14_20 dX14_list_18 g ?_
      refine zw_iload_n hX dX14_list_21 rfl ?_
      obtain ⟨v4, g, h⟩ := zb_some h
      refine zw_xi hX dX14_list_22 g ?_
      obtain ⟨r6, g, h⟩ := zb_some h
      refine zc_Si (as := [.int v4]) hX (zt_X14_sort (d := d - 1) (by omega) g) zl_X14_128 dX14_list_23 ⟨rfl, rfl, Nat.le_of_ble_eq_true rfl⟩ ⟨by omega, by omega⟩ ?_
      refine zw_istore_n hX dX14_list_26 (by decide) ?_
      refine zw_iload_n hX dX14_list_27 rfl ?_
      refine zw_if_le (tgt := 61) hX dX14_list_28 (by decide) (fun c28 => ?_) (fun c28 => ?_)
      · rw [if_pos c28] at h
        refine zw_sub (lv' := [(0, .ref a0), (2, .int i2), (3, .int r6.1)]) (List.forall_mem_cons.mpr ⟨rfl, (List.forall_mem_cons.mpr ⟨rfl, (List.forall_mem_cons.mpr ⟨rfl, zs_nil⟩)⟩)⟩) ?_
        exact zt_X14_list_J61 hX hr hR hd hf hk ih h
      · rw [if_neg c28] at h
        refine zw_iload_n hX dX14_list_31 rfl ?_
        refine zw_iconst (v := (3 : Int32)) hX dX14_list_32 (by decide) ?_
        refine zw_icmp_eq (tgt := 41) hX dX14_list_33 (by decide) (fun c33 => ?_) (fun c33 => ?_)
        · rw [if_pos c33] at h
          refine zw_sub (lv' := [(0, .ref a0), (2, .int i2), (3, .int r6.1)]) (List.forall_mem_cons.mpr ⟨rfl, (List.forall_mem_cons.mpr ⟨rfl, (List.forall_mem_cons.mpr ⟨rfl, zs_nil⟩)⟩)⟩) ?_
          exact zt_X14_list_J41 hX hr hR hd hf hk ih h
        · rw [if_neg c33] at h
          refine zw_iload_n hX dX14_list_36 rfl ?_
          refine zw_iload_n hX dX14_list_37 rfl ?_
          refine zw_icmp_eq (tgt := 61) hX dX14_list_38 (by decide) (fun c38 => ?_) (fun c38 => ?_)
          · rw [if_pos c38] at h
            refine zw_sub (lv' := [(0, .ref a0), (2, .int i2), (3, .int r6.1)]) (List.forall_mem_cons.mpr ⟨rfl, (List.forall_mem_cons.mpr ⟨rfl, (List.forall_mem_cons.mpr ⟨rfl, zs_nil⟩)⟩)⟩) ?_
            exact zt_X14_list_J61 hX hr hR hd hf hk ih h
          · rw [if_neg c38] at h
            refine zw_sub (lv' := [(0, .ref a0), (2, .int i2), (3, .int r6.1)]) (List.forall_mem_cons.mpr ⟨rfl, (List.forall_mem_cons.mpr ⟨rfl, (List.forall_mem_cons.mpr ⟨rfl, zs_nil⟩)⟩)⟩) ?_
            exact zt_X14_list_J41 hX hr hR hd hf hk ih h
set_option maxHeartbeats 4000000 in
set_option maxRecDepth 100000 in
theorem zt_X14_list {l : Launch} {V : zm_V} {N : Nat} {S : zm_S} {out : (Unit × zm_S)} {d : Nat} {a0 : Nat} (hd : 2 ≤ d) (h : zf_X14_list N a0 S = some out) : zm_Met l zk_E V yX14_list (.code yX14_list cX14_list 4 none) d [.ref a0] S 0 0 (zo_v out) zo_x := by
  refine zm_of (by decide +kernel) (Nat.le_of_ble_eq_true rfl) ?_
  intro p e R s m args below meth c hRR hX hr hxt
  have hR : R.frames = d ∧ R.locals = 64 * d := by rw [hRR]; exact ⟨rfl, rfl⟩
  have hX : zm_X p R s m args meth c RX14 "list" cX14_list 4 zk_E V 0 0 := hX
  unfold zf_X14_list at h
  refine zw_sub (lv' := [(0, .ref a0)]) (List.forall_mem_cons.mpr ⟨rfl, zs_nil⟩) ?_
  refine zw_aload_n hX dX14_list_0 rfl ?_
  refine zw_iconst (v := (0 : Int32)) hX dX14_list_1 (by decide) ?_
  obtain ⟨S1, g, h⟩ := zb_some h
  refine zw_putv hX zl_X14_125 zt_14_7 dX14_list_2 rfl rfl g ?_
  refine zw_iconst (v := (0 : Int32)) hX dX14_list_5 (by decide) ?_
  refine zw_istore_n hX dX14_list_6 (by decide) ?_
  refine zw_iconst (v := (0 : Int32)) hX dX14_list_7 (by decide) ?_
  refine zw_istore_n hX dX14_list_8 (by decide) ?_
  obtain ⟨r, g, h⟩ := zb_some h
  refine zw_sub (lv' := [(0, .ref a0), (1, .int (0 : Int32)), (2, .int (0 : Int32))]) (List.forall_mem_cons.mpr ⟨rfl, (List.forall_mem_cons.mpr ⟨rfl, (List.forall_mem_cons.mpr ⟨rfl, zs_nil⟩)⟩)⟩) ?_
  refine zt_X14_list_L9 hX hr hR hd (res := r) (out := out) a0 ?_ ?_ N _ _ _ g
  · intro o ho
    subst ho
    exact Option.some.inj h
  · intro  S15 hx
    subst hx
    try dsimp only at h
    obtain rfl := Option.some.inj h
    exact zw_vret hX hr dX14_list_87 ⟨rfl, rfl⟩
set_option maxHeartbeats 4000000 in
set_option maxRecDepth 100000 in
theorem zt_X14_letters_L71 {p : Program} {l : Launch} {e : Env} {R : Room} {s : State} {m : MethodId} {args : Array Value} {below : List Frame} {meth : Method} {c : Code} {V : zm_V} {mc ms d rc rs : Nat} (hX : zm_X p R s m args meth c RX14 "letters" cX14_letters 3 zk_E V mc ms) (hr : meth.sig.returnType = (some .int)) (hR : R.frames = d ∧ R.locals = 64 * d) (hd : 2 ≤ d) {N : Nat} {res : (Int32 × zm_S) ⊕ ((Int32) × zm_S)} {out : (Int32 × zm_S)} (a0 : Nat) (hf : ∀ o, res = .inl o → o = out) (hk : ∀ (x1 : Int32) (S' : zm_S), res = .inr (x1, S') → zw p l e R s m args below meth c (vx_MQ below (zm_Qc zk_E V (zo_i out)) (zm_XC zk_E V zo_x) args s mc ms (fun q => V.2.2.2.1 ≤ q)) 3 zk_E V mc ms 105 [(1, .int x1)] [] S' rc rs) : ∀ (n : Nat) (i1 : Int32) (i2 : Int32) (S : zm_S), zf_X14_letters_L71 N n a0 i1 i2 S = some res → zw p l e R s m args below meth c (vx_MQ below (zm_Qc zk_E V (zo_i out)) (zm_XC zk_E V zo_x) args s mc ms (fun q => V.2.2.2.1 ≤ q)) 3 zk_E V mc ms 71 [(0, .ref a0), (1, .int i1), (2, .int i2)] [] S rc rs := by
  intro n
  induction n with
  | zero => intro i1 i2 S h; cases h
  | succ n ih =>
    intro i1 i2 S h
    rw [zf_X14_letters_L71] at h
    refine zw_iload_n hX dX14_letters_71 rfl ?_
    refine zw_aload_n hX dX14_letters_72 rfl ?_
    obtain ⟨b19, g, h⟩ := zb_some h
    refine zw_getr hX zl_X14_23 dX14_letters_73 g ?_
    refine zw_aload_n hX dX14_letters_76 rfl ?_
    obtain ⟨v20, g, h⟩ := zb_some h
    refine zw_geti hX zl_X14_131 dX14_letters_77 g ?_
    obtain ⟨v21, g, h⟩ := zb_some h
    refine zw_xi hX dX14_letters_80 g ?_
    refine zw_icmp_lt (tgt := 105) hX dX14_letters_81 (by decide) (fun c81 => ?_) (fun c81 => ?_)
    · rw [if_pos c81] at h
      refine zw_sub (lv' := [(1, .int i1)]) (List.forall_mem_cons.mpr ⟨rfl, zs_nil⟩) ?_
      exact hk _ _ (Option.some.inj h).symm
    · rw [if_neg c81] at h
      refine zw_bipush (v := (32 : Int32)) hX dX14_letters_84 (by decide) ?_
      refine zw_iload_n hX dX14_letters_86 rfl ?_
      refine zw_imul hX dX14_letters_87 ?_
      refine zw_aload_n hX dX14_letters_88 rfl ?_
      obtain ⟨b22, g, h⟩ := zb_some h
      refine zw_getr hX zl_X14_20 dX14_letters_89 g ?_
      refine zw_iload_n hX dX14_letters_92 rfl ?_
      obtain ⟨v23, g, h⟩ := zb_some h
      refine zw_xi hX dX14_letters_93 g ?_
      refine zw_iadd hX dX14_letters_94 ?_
      refine zw_bipush (v := (96 : Int32)) hX dX14_letters_95 (by decide) ?_
      refine zw_isub hX dX14_letters_97 ?_
      refine zw_istore_n hX dX14_letters_98 (by decide) ?_
      refine zw_iinc (v := (i2 + (-1 : Int32))) hX dX14_letters_99 rfl rfl (by decide) ?_
      refine zw_goto (tgt := 71) hX dX14_letters_102 (by decide) ?_
      refine zw_sub (lv' := [(0, .ref a0), (1, .int ((((32 : Int32) * i1) + v23) - (96 : Int32))), (2, .int (i2 + (-1 : Int32)))]) (List.forall_mem_cons.mpr ⟨rfl, (List.forall_mem_cons.mpr ⟨rfl, (List.forall_mem_cons.mpr ⟨rfl, zs_nil⟩)⟩)⟩) ?_
      exact ih _ _ _ h
set_option maxHeartbeats 4000000 in
set_option maxRecDepth 100000 in
theorem zt_X14_letters {l : Launch} {V : zm_V} {N : Nat} {S : zm_S} {out : (Int32 × zm_S)} {d : Nat} {a0 : Nat} (hd : 2 ≤ d) (h : zf_X14_letters N a0 S = some out) : zm_Met l zk_E V yX14_letters (.code yX14_letters cX14_letters 3 (some .int)) d [.ref a0] S 0 0 (zo_i out) zo_x := by
  refine zm_of (by decide +kernel) (Nat.le_of_ble_eq_true rfl) ?_
  intro p e R s m args below meth c hRR hX hr hxt
  have hR : R.frames = d ∧ R.locals = 64 * d := by rw [hRR]; exact ⟨rfl, rfl⟩
  have hX : zm_X p R s m args meth c RX14 "letters" cX14_letters 3 zk_E V 0 0 := hX
  unfold zf_X14_letters at h
  refine zw_sub (lv' := [(0, .ref a0)]) (List.forall_mem_cons.mpr ⟨rfl, zs_nil⟩) ?_
  refine zw_aload_n hX dX14_letters_0 rfl ?_
  obtain ⟨v1, g, h⟩ := zb_some h
  refine zw_geti hX zl_X14_131 dX14_letters_1 g ?_
  refine zw_aload_n hX dX14_letters_4 rfl ?_
  obtain ⟨v2, g, h⟩ := zb_some h
  refine zw_geti hX zl_X14_125 dX14_letters_5 g ?_
  refine zw_icmp_ge (tgt := 55) hX dX14_letters_8 (by decide) (fun c8 => ?_) (fun c8 => ?_)
  · rw [if_pos c8] at h
    refine zw_iconst (v := (-1 : Int32)) hX dX14_letters_55 (by decide) ?_
    obtain rfl := Option.some.inj h
    exact zw_iret hX hr dX14_letters_56 rfl ⟨rfl, rfl⟩
  · rw [if_neg c8] at h
    refine zw_aload_n hX dX14_letters_11 rfl ?_
    obtain ⟨b3, g, h⟩ := zb_some h
    refine zw_getr hX zl_X14_20 dX14_letters_12 g ?_
    refine zw_aload_n hX dX14_letters_15 rfl ?_
    obtain ⟨b4, g, h⟩ := zb_some h
    refine zw_getr hX zl_X14_23 dX14_letters_16 g ?_
    refine zw_aload_n hX dX14_letters_19 rfl ?_
    obtain ⟨v5, g, h⟩ := zb_some h
    refine zw_geti hX zl_X14_131 dX14_letters_20 g ?_
    obtain ⟨v6, g, h⟩ := zb_some h
    refine zw_xi hX dX14_letters_23 g ?_
    obtain ⟨v7, g, h⟩ := zb_some h
    refine zw_xi hX dX14_letters_24 g ?_
    obtain ⟨r9, g, h⟩ := zb_some h
    refine zc_Si (as := [.int v7]) hX (zt_X14_sort (d := d - 1) (by omega) g) zl_X14_128 dX14_letters_25 ⟨rfl, rfl, Nat.le_of_ble_eq_true rfl⟩ ⟨by omega, by omega⟩ ?_
    refine zw_iconst (v := (1 : Int32)) hX dX14_letters_28 (by decide) ?_
    refine zw_icmp_ne (tgt := 55) hX dX14_letters_29 (by decide) (fun c29 => ?_) (fun c29 => ?_)
    · rw [if_neg c29] at h
      refine zw_iconst (v := (-1 : Int32)) hX dX14_letters_55 (by decide) ?_
      obtain rfl := Option.some.inj h
      exact zw_iret hX hr dX14_letters_56 rfl ⟨rfl, rfl⟩
    · rw [if_pos c29] at h
      refine zw_aload_n hX dX14_letters_32 rfl ?_
      obtain ⟨b10, g, h⟩ := zb_some h
      refine zw_getr hX zl_X14_26 dX14_letters_33 g ?_
      refine zw_aload_n hX dX14_letters_36 rfl ?_
      obtain ⟨v11, g, h⟩ := zb_some h
      refine zw_geti hX zl_X14_131 dX14_letters_37 g ?_
      obtain ⟨v12, g, h⟩ := zb_some h
      refine zw_xi hX dX14_letters_40 g ?_
      refine zw_aload_n hX dX14_letters_41 rfl ?_
      obtain ⟨b13, g, h⟩ := zb_some h
      refine zw_getr hX zl_X14_23 dX14_letters_42 g ?_
      refine zw_aload_n hX dX14_letters_45 rfl ?_
      obtain ⟨v14, g, h⟩ := zb_some h
      refine zw_geti hX zl_X14_131 dX14_letters_46 g ?_
      obtain ⟨v15, g, h⟩ := zb_some h
      refine zw_xi hX dX14_letters_49 g ?_
      refine zw_isub hX dX14_letters_50 ?_
      refine zw_iconst (v := (5 : Int32)) hX dX14_letters_51 (by decide) ?_
      refine zw_icmp_le (tgt := 57) hX dX14_letters_52 (by decide) (fun c52 => ?_) (fun c52 => ?_)
      · rw [if_pos c52] at h
        refine zw_iconst (v := (0 : Int32)) hX dX14_letters_57 (by decide) ?_
        refine zw_istore_n hX dX14_letters_58 (by decide) ?_
        refine zw_aload_n hX dX14_letters_59 rfl ?_
        obtain ⟨b16, g, h⟩ := zb_some h
        refine zw_getr hX zl_X14_26 dX14_letters_60 g ?_
        refine zw_aload_n hX dX14_letters_63 rfl ?_
        obtain ⟨v17, g, h⟩ := zb_some h
        refine zw_geti hX zl_X14_131 dX14_letters_64 g ?_
        obtain ⟨v18, g, h⟩ := zb_some h
        refine zw_xi hX dX14_letters_67 g ?_
        refine zw_iconst (v := (1 : Int32)) hX dX14_letters_68 (by decide) ?_
        refine zw_isub hX dX14_letters_69 ?_
        refine zw_istore_n hX dX14_letters_70 (by decide) ?_
        obtain ⟨r, g, h⟩ := zb_some h
        refine zw_sub (lv' := [(0, .ref a0), (1, .int (0 : Int32)), (2, .int (v18 - (1 : Int32)))]) (List.forall_mem_cons.mpr ⟨rfl, (List.forall_mem_cons.mpr ⟨rfl, (List.forall_mem_cons.mpr ⟨rfl, zs_nil⟩)⟩)⟩) ?_
        refine zt_X14_letters_L71 hX hr hR hd (res := r) (out := out) a0 ?_ ?_ N _ _ _ g
        · intro o ho
          subst ho
          exact Option.some.inj h
        · intro v25 S24 hx
          subst hx
          try dsimp only at h
          refine zw_iload_n hX dX14_letters_105 rfl ?_
          obtain rfl := Option.some.inj h
          exact zw_iret hX hr dX14_letters_106 rfl ⟨rfl, rfl⟩
      · rw [if_neg c52] at h
        refine zw_iconst (v := (-1 : Int32)) hX dX14_letters_55 (by decide) ?_
        obtain rfl := Option.some.inj h
        exact zw_iret hX hr dX14_letters_56 rfl ⟨rfl, rfl⟩
set_option maxHeartbeats 4000000 in
set_option maxRecDepth 100000 in
theorem zt_X14_isSign {l : Launch} {V : zm_V} {N : Nat} {S : zm_S} {out : (Int32 × zm_S)} {d : Nat} {a0 : Nat} {i1 : Int32} (hd : 1 ≤ d) (h : zf_X14_isSign N a0 i1 S = some out) : zm_Met l zk_E V yX14_isSign (.code yX14_isSign cX14_isSign 2 (some .boolean)) d [.ref a0, .int i1] S 0 0 (zo_i out) zo_x := by
  refine zm_of (by decide +kernel) (Nat.le_of_ble_eq_true rfl) ?_
  intro p e R s m args below meth c hRR hX hr hxt
  have hR : R.frames = d ∧ R.locals = 64 * d := by rw [hRR]; exact ⟨rfl, rfl⟩
  have hX : zm_X p R s m args meth c RX14 "isSign" cX14_isSign 2 zk_E V 0 0 := hX
  unfold zf_X14_isSign at h
  refine zw_sub (lv' := [(0, .ref a0), (1, .int i1)]) (List.forall_mem_cons.mpr ⟨rfl, (List.forall_mem_cons.mpr ⟨rfl, zs_nil⟩)⟩) ?_
  refine zw_aload_n hX dX14_isSign_0 rfl ?_
  obtain ⟨v1, g, h⟩ := zb_some h
  refine zw_geti hX zl_X14_131 dX14_isSign_1 g ?_
  refine zw_aload_n hX dX14_isSign_4 rfl ?_
  obtain ⟨v2, g, h⟩ := zb_some h
  refine zw_geti hX zl_X14_125 dX14_isSign_5 g ?_
  refine zw_icmp_ge (tgt := 56) hX dX14_isSign_8 (by decide) (fun c8 => ?_) (fun c8 => ?_)
  · rw [if_pos c8] at h
    refine zw_iconst (v := (0 : Int32)) hX dX14_isSign_56 (by decide) ?_
    obtain rfl := Option.some.inj h
    exact zw_iret hX hr dX14_isSign_57 rfl ⟨rfl, rfl⟩
  · rw [if_neg c8] at h
    refine zw_aload_n hX dX14_isSign_11 rfl ?_
    obtain ⟨b3, g, h⟩ := zb_some h
    refine zw_getr hX zl_X14_26 dX14_isSign_12 g ?_
    refine zw_aload_n hX dX14_isSign_15 rfl ?_
    obtain ⟨v4, g, h⟩ := zb_some h
    refine zw_geti hX zl_X14_131 dX14_isSign_16 g ?_
    obtain ⟨v5, g, h⟩ := zb_some h
    refine zw_xi hX dX14_isSign_19 g ?_
    refine zw_aload_n hX dX14_isSign_20 rfl ?_
    obtain ⟨b6, g, h⟩ := zb_some h
    refine zw_getr hX zl_X14_23 dX14_isSign_21 g ?_
    refine zw_aload_n hX dX14_isSign_24 rfl ?_
    obtain ⟨v7, g, h⟩ := zb_some h
    refine zw_geti hX zl_X14_131 dX14_isSign_25 g ?_
    obtain ⟨v8, g, h⟩ := zb_some h
    refine zw_xi hX dX14_isSign_28 g ?_
    refine zw_isub hX dX14_isSign_29 ?_
    refine zw_iconst (v := (1 : Int32)) hX dX14_isSign_30 (by decide) ?_
    refine zw_icmp_ne (tgt := 56) hX dX14_isSign_31 (by decide) (fun c31 => ?_) (fun c31 => ?_)
    · rw [if_neg c31] at h
      refine zw_iconst (v := (0 : Int32)) hX dX14_isSign_56 (by decide) ?_
      obtain rfl := Option.some.inj h
      exact zw_iret hX hr dX14_isSign_57 rfl ⟨rfl, rfl⟩
    · rw [if_pos c31] at h
      refine zw_aload_n hX dX14_isSign_34 rfl ?_
      obtain ⟨b9, g, h⟩ := zb_some h
      refine zw_getr hX zl_X14_20 dX14_isSign_35 g ?_
      refine zw_aload_n hX dX14_isSign_38 rfl ?_
      obtain ⟨b10, g, h⟩ := zb_some h
      refine zw_getr hX zl_X14_23 dX14_isSign_39 g ?_
      refine zw_aload_n hX dX14_isSign_42 rfl ?_
      obtain ⟨v11, g, h⟩ := zb_some h
      refine zw_geti hX zl_X14_131 dX14_isSign_43 g ?_
      obtain ⟨v12, g, h⟩ := zb_some h
      refine zw_xi hX dX14_isSign_46 g ?_
      obtain ⟨v13, g, h⟩ := zb_some h
      refine zw_xi hX dX14_isSign_47 g ?_
      refine zw_iload_n hX dX14_isSign_48 rfl ?_
      refine zw_icmp_ne (tgt := 56) hX dX14_isSign_49 (by decide) (fun c49 => ?_) (fun c49 => ?_)
      · rw [if_neg c49] at h
        refine zw_iconst (v := (0 : Int32)) hX dX14_isSign_56 (by decide) ?_
        obtain rfl := Option.some.inj h
        exact zw_iret hX hr dX14_isSign_57 rfl ⟨rfl, rfl⟩
      · rw [if_pos c49] at h
        refine zw_iconst (v := (1 : Int32)) hX dX14_isSign_52 (by decide) ?_
        refine zw_goto (tgt := 57) hX dX14_isSign_53 (by decide) ?_
        obtain rfl := Option.some.inj h
        exact zw_iret hX hr dX14_isSign_57 rfl ⟨rfl, rfl⟩
set_option maxHeartbeats 4000000 in
set_option maxRecDepth 100000 in
theorem zt_X14_want_J19 {p : Program} {l : Launch} {e : Env} {R : Room} {s : State} {m : MethodId} {args : Array Value} {below : List Frame} {meth : Method} {c : Code} {V : zm_V} {mc ms d rc rs : Nat} (hX : zm_X p R s m args meth c RX14 "want" cX14_want 2 zk_E V mc ms) (hr : meth.sig.returnType = (some .boolean)) (hR : R.frames = d ∧ R.locals = 64 * d) (hd : 1 ≤ d) {N : Nat} {a0 : Nat} {out : (Int32 × zm_S)} {S : zm_S} (h : zf_X14_want_J19 N a0 S = some out) : zw p l e R s m args below meth c (vx_MQ below (zm_Qc zk_E V (zo_i out)) (zm_XC zk_E V zo_x) args s mc ms (fun q => V.2.2.2.1 ≤ q)) 2 zk_E V mc ms 19 [(0, .ref a0)] [] S rc rs := by
  unfold zf_X14_want_J19 at h
  refine zw_aload_n hX dX14_want_19 rfl ?_
  obtain ⟨v1, g, h⟩ := zb_some h
  refine zw_geti hX zl_X14_134 dX14_want_20 g ?_
  refine zw_if_ge (tgt := 30) hX dX14_want_23 (by decide) (fun c23 => ?_) (fun c23 => ?_)
  · rw [if_pos c23] at h
    refine zw_iconst (v := (0 : Int32)) hX dX14_want_30 (by decide) ?_
    obtain rfl := Option.some.inj h
    exact zw_iret hX hr dX14_want_31 rfl ⟨rfl, rfl⟩
  · rw [if_neg c23] at h
    refine zw_iconst (v := (1 : Int32)) hX dX14_want_26 (by decide) ?_
    refine zw_goto (tgt := 31) hX dX14_want_27 (by decide) ?_
    obtain rfl := Option.some.inj h
    exact zw_iret hX hr dX14_want_31 rfl ⟨rfl, rfl⟩
set_option maxHeartbeats 4000000 in
set_option maxRecDepth 100000 in
theorem zt_X14_want {l : Launch} {V : zm_V} {N : Nat} {S : zm_S} {out : (Int32 × zm_S)} {d : Nat} {a0 : Nat} {i1 : Int32} (hd : 1 ≤ d) (h : zf_X14_want N a0 i1 S = some out) : zm_Met l zk_E V yX14_want (.code yX14_want cX14_want 2 (some .boolean)) d [.ref a0, .int i1] S 0 0 (zo_i out) zo_x := by
  refine zm_of (by decide +kernel) (Nat.le_of_ble_eq_true rfl) ?_
  intro p e R s m args below meth c hRR hX hr hxt
  have hR : R.frames = d ∧ R.locals = 64 * d := by rw [hRR]; exact ⟨rfl, rfl⟩
  have hX : zm_X p R s m args meth c RX14 "want" cX14_want 2 zk_E V 0 0 := hX
  unfold zf_X14_want at h
  refine zw_sub (lv' := [(0, .ref a0), (1, .int i1)]) (List.forall_mem_cons.mpr ⟨rfl, (List.forall_mem_cons.mpr ⟨rfl, zs_nil⟩)⟩) ?_
  refine zw_iload_n hX dX14_want_0 rfl ?_
  refine zw_if_ne (tgt := 19) hX dX14_want_1 (by decide) (fun c1 => ?_) (fun c1 => ?_)
  · rw [if_neg c1] at h
    refine zw_sub (lv' := [(0, .ref a0)]) (List.forall_mem_cons.mpr ⟨rfl, zs_nil⟩) ?_
    exact zt_X14_want_J19 hX hr hR hd h
  · rw [if_pos c1] at h
    refine zw_aload_n hX dX14_want_4 rfl ?_
    obtain ⟨v2, g, h⟩ := zb_some h
    refine zw_geti hX zl_X14_134 dX14_want_5 g ?_
    refine zw_if_ge (tgt := 19) hX dX14_want_8 (by decide) (fun c8 => ?_) (fun c8 => ?_)
    · rw [if_pos c8] at h
      refine zw_sub (lv' := [(0, .ref a0)]) (List.forall_mem_cons.mpr ⟨rfl, zs_nil⟩) ?_
      exact zt_X14_want_J19 hX hr hR hd h
    · rw [if_neg c8] at h
      refine zw_aload_n hX dX14_want_11 rfl ?_
      refine zw_aload_n hX dX14_want_12 rfl ?_
      obtain ⟨v3, g, h⟩ := zb_some h
      refine zw_geti hX zl_X14_131 dX14_want_13 g ?_
      obtain ⟨S4, g, h⟩ := zb_some h
      refine zw_putv hX zl_X14_134 zt_14_11 dX14_want_16 rfl rfl g ?_
      refine zw_sub (lv' := [(0, .ref a0)]) (List.forall_mem_cons.mpr ⟨rfl, zs_nil⟩) ?_
      exact zt_X14_want_J19 hX hr hR hd h
set_option maxHeartbeats 4000000 in
set_option maxRecDepth 100000 in
theorem zt_X14_take_J14 {p : Program} {l : Launch} {e : Env} {R : Room} {s : State} {m : MethodId} {args : Array Value} {below : List Frame} {meth : Method} {c : Code} {V : zm_V} {mc ms d rc rs : Nat} (hX : zm_X p R s m args meth c RX14 "take" cX14_take 2 zk_E V mc ms) (hr : meth.sig.returnType = none) (hR : R.frames = d ∧ R.locals = 64 * d) (hd : 3 ≤ d) {N : Nat} {a0 : Nat} {t0 : Nat} {t1 : Int32} {out : (Unit × zm_S)} {S : zm_S} (h : zf_X14_take_J14 N a0 t0 t1 S = some out) : zw p l e R s m args below meth c (vx_MQ below (zm_Qc zk_E V (zo_v out)) (zm_XC zk_E V zo_x) args s mc ms (fun q => V.2.2.2.1 ≤ q)) 2 zk_E V mc ms 14 [(0, .ref a0)] [.int t1, .ref t0] S rc rs := by
  unfold zf_X14_take_J14 at h
  obtain ⟨_, gi, h⟩ := zb_some h
  obtain ⟨r4, g, h⟩ := zb_some h
  refine zc_Vi (as := [.int t1]) hX gi (zt_X14_want (d := d - 1) (by omega) g) zl_X14_141 rfl dX14_take_14 ⟨rfl, rfl, Nat.le_of_ble_eq_true rfl⟩ ⟨by omega, by omega⟩ ?_
  refine zw_if_eq (tgt := 30) hX dX14_take_17 (by decide) (fun c17 => ?_) (fun c17 => ?_)
  · rw [if_pos c17] at h
    obtain rfl := Option.some.inj h
    exact zw_vret hX hr dX14_take_30 ⟨rfl, rfl⟩
  · rw [if_neg c17] at h
    refine zw_aload_n hX dX14_take_20 rfl ?_
    refine zw_dup hX dX14_take_21 rfl ?_
    obtain ⟨v5, g, h⟩ := zb_some h
    refine zw_geti hX zl_X14_131 dX14_take_22 g ?_
    refine zw_iconst (v := (1 : Int32)) hX dX14_take_25 (by decide) ?_
    refine zw_iadd hX dX14_take_26 ?_
    obtain ⟨S6, g, h⟩ := zb_some h
    refine zw_putv hX zl_X14_131 zt_14_10 dX14_take_27 rfl rfl g ?_
    obtain rfl := Option.some.inj h
    exact zw_vret hX hr dX14_take_30 ⟨rfl, rfl⟩
set_option maxHeartbeats 4000000 in
set_option maxRecDepth 100000 in
theorem zt_X14_take {l : Launch} {V : zm_V} {N : Nat} {S : zm_S} {out : (Unit × zm_S)} {d : Nat} {a0 : Nat} {i1 : Int32} (hd : 3 ≤ d) (h : zf_X14_take N a0 i1 S = some out) : zm_Met l zk_E V yX14_take (.code yX14_take cX14_take 2 none) d [.ref a0, .int i1] S 0 0 (zo_v out) zo_x := by
  refine zm_of (by decide +kernel) (Nat.le_of_ble_eq_true rfl) ?_
  intro p e R s m args below meth c hRR hX hr hxt
  have hR : R.frames = d ∧ R.locals = 64 * d := by rw [hRR]; exact ⟨rfl, rfl⟩
  have hX : zm_X p R s m args meth c RX14 "take" cX14_take 2 zk_E V 0 0 := hX
  unfold zf_X14_take at h
  refine zw_sub (lv' := [(0, .ref a0), (1, .int i1)]) (List.forall_mem_cons.mpr ⟨rfl, (List.forall_mem_cons.mpr ⟨rfl, zs_nil⟩)⟩) ?_
  refine zw_aload_n hX dX14_take_0 rfl ?_
  refine zw_aload_n hX dX14_take_1 rfl ?_
  obtain ⟨_, gi, h⟩ := zb_some h
  obtain ⟨r2, g, h⟩ := zb_some h
  refine zc_Vi (as := []) hX gi (zt_X14_letters (d := d - 1) (by omega) g) zl_X14_137 rfl dX14_take_2 ⟨rfl, rfl, Nat.le_of_ble_eq_true rfl⟩ ⟨by omega, by omega⟩ ?_
  refine zw_iload_n hX dX14_take_5 rfl ?_
  refine zw_icmp_ne (tgt := 13) hX dX14_take_6 (by decide) (fun c6 => ?_) (fun c6 => ?_)
  · rw [if_neg c6] at h
    refine zw_iconst (v := (0 : Int32)) hX dX14_take_13 (by decide) ?_
    refine zw_sub (lv' := [(0, .ref a0)]) (List.forall_mem_cons.mpr ⟨rfl, zs_nil⟩) ?_
    exact zt_X14_take_J14 hX hr hR hd h
  · rw [if_pos c6] at h
    refine zw_iconst (v := (1 : Int32)) hX dX14_take_9 (by decide) ?_
    refine zw_goto (tgt := 14) hX dX14_take_10 (by decide) ?_
    refine zw_sub (lv' := [(0, .ref a0)]) (List.forall_mem_cons.mpr ⟨rfl, zs_nil⟩) ?_
    exact zt_X14_take_J14 hX hr hR hd h
set_option maxHeartbeats 4000000 in
set_option maxRecDepth 100000 in
theorem zt_X14_takeStop {l : Launch} {V : zm_V} {N : Nat} {S : zm_S} {out : (Unit × zm_S)} {d : Nat} {a0 : Nat} (hd : 2 ≤ d) (h : zf_X14_takeStop N a0 S = some out) : zm_Met l zk_E V yX14_takeStop (.code yX14_takeStop cX14_takeStop 1 none) d [.ref a0] S 0 0 (zo_v out) zo_x := by
  refine zm_of (by decide +kernel) (Nat.le_of_ble_eq_true rfl) ?_
  intro p e R s m args below meth c hRR hX hr hxt
  have hR : R.frames = d ∧ R.locals = 64 * d := by rw [hRR]; exact ⟨rfl, rfl⟩
  have hX : zm_X p R s m args meth c RX14 "takeStop" cX14_takeStop 1 zk_E V 0 0 := hX
  unfold zf_X14_takeStop at h
  refine zw_sub (lv' := [(0, .ref a0)]) (List.forall_mem_cons.mpr ⟨rfl, zs_nil⟩) ?_
  refine zw_aload_n hX dX14_takeStop_0 rfl ?_
  refine zw_aload_n hX dX14_takeStop_1 rfl ?_
  refine zw_bipush (v := (59 : Int32)) hX dX14_takeStop_2 (by decide) ?_
  obtain ⟨_, gi, h⟩ := zb_some h
  obtain ⟨r2, g, h⟩ := zb_some h
  refine zc_Vi (as := [.int (59 : Int32)]) hX gi (zt_X14_isSign (d := d - 1) (by omega) g) zl_X14_145 rfl dX14_takeStop_4 ⟨rfl, rfl, Nat.le_of_ble_eq_true rfl⟩ ⟨by omega, by omega⟩ ?_
  obtain ⟨_, gi, h⟩ := zb_some h
  obtain ⟨r4, g, h⟩ := zb_some h
  refine zc_Vi (as := [.int r2.1]) hX gi (zt_X14_want (d := d - 1) (by omega) g) zl_X14_141 rfl dX14_takeStop_7 ⟨rfl, rfl, Nat.le_of_ble_eq_true rfl⟩ ⟨by omega, by omega⟩ ?_
  refine zw_if_eq (tgt := 23) hX dX14_takeStop_10 (by decide) (fun c10 => ?_) (fun c10 => ?_)
  · rw [if_pos c10] at h
    obtain rfl := Option.some.inj h
    exact zw_vret hX hr dX14_takeStop_23 ⟨rfl, rfl⟩
  · rw [if_neg c10] at h
    refine zw_aload_n hX dX14_takeStop_13 rfl ?_
    refine zw_dup hX dX14_takeStop_14 rfl ?_
    obtain ⟨v5, g, h⟩ := zb_some h
    refine zw_geti hX zl_X14_131 dX14_takeStop_15 g ?_
    refine zw_iconst (v := (1 : Int32)) hX dX14_takeStop_18 (by decide) ?_
    refine zw_iadd hX dX14_takeStop_19 ?_
    obtain ⟨S6, g, h⟩ := zb_some h
    refine zw_putv hX zl_X14_131 zt_14_10 dX14_takeStop_20 rfl rfl g ?_
    obtain rfl := Option.some.inj h
    exact zw_vret hX hr dX14_takeStop_23 ⟨rfl, rfl⟩
set_option maxHeartbeats 4000000 in
set_option maxRecDepth 100000 in
theorem zt_X14_look_L84 {p : Program} {l : Launch} {e : Env} {R : Room} {s : State} {m : MethodId} {args : Array Value} {below : List Frame} {meth : Method} {c : Code} {V : zm_V} {mc ms d rc rs : Nat} (hX : zm_X p R s m args meth c RX14 "look" cX14_look 6 zk_E V mc ms) (hr : meth.sig.returnType = (some .int)) (hR : R.frames = d ∧ R.locals = 64 * d) (hd : 2 ≤ d) {N : Nat} {res : (Int32 × zm_S) ⊕ ((Int32) × zm_S)} {out : (Int32 × zm_S)} (a0 : Nat) (i1 : Int32) (i2 : Int32) (i3 : Int32) (hf : ∀ o, res = .inl o → o = out) (hk : ∀ (x4 : Int32) (S' : zm_S), res = .inr (x4, S') → zw p l e R s m args below meth c (vx_MQ below (zm_Qc zk_E V (zo_i out)) (zm_XC zk_E V zo_x) args s mc ms (fun q => V.2.2.2.1 ≤ q)) 6 zk_E V mc ms 126 [(0, .ref a0), (1, .int i1), (2, .int i2), (3, .int i3), (4, .int x4)] [] S' rc rs) : ∀ (n : Nat) (i4 : Int32) (i5 : Int32) (S : zm_S), zf_X14_look_L84 N n a0 i1 i2 i3 i4 i5 S = some res → zw p l e R s m args below meth c (vx_MQ below (zm_Qc zk_E V (zo_i out)) (zm_XC zk_E V zo_x) args s mc ms (fun q => V.2.2.2.1 ≤ q)) 6 zk_E V mc ms 84 [(0, .ref a0), (1, .int i1), (2, .int i2), (3, .int i3), (4, .int i4), (5, .int i5)] [] S rc rs := by
  intro n
  induction n with
  | zero => intro i4 i5 S h; cases h
  | succ n ih =>
    intro i4 i5 S h
    rw [zf_X14_look_L84] at h
    refine zw_iload_n hX dX14_look_84 rfl ?_
    refine zw_if_eq (tgt := 126) hX dX14_look_85 (by decide) (fun c85 => ?_) (fun c85 => ?_)
    · rw [if_pos c85] at h
      refine zw_sub (lv' := [(0, .ref a0), (1, .int i1), (2, .int i2), (3, .int i3), (4, .int i4)]) (List.forall_mem_cons.mpr ⟨rfl, (List.forall_mem_cons.mpr ⟨rfl, (List.forall_mem_cons.mpr ⟨rfl, (List.forall_mem_cons.mpr ⟨rfl, (List.forall_mem_cons.mpr ⟨rfl, zs_nil⟩)⟩)⟩)⟩)⟩) ?_
      exact hk _ _ (Option.some.inj h).symm
    · rw [if_neg c85] at h
      refine zw_iload hX dX14_look_88 rfl ?_
      refine zw_aload_n hX dX14_look_90 rfl ?_
      obtain ⟨b3, g, h⟩ := zb_some h
      refine zw_getr hX zl_X14_26 dX14_look_91 g ?_
      refine zw_aload_n hX dX14_look_94 rfl ?_
      obtain ⟨v4, g, h⟩ := zb_some h
      refine zw_geti hX zl_X14_131 dX14_look_95 g ?_
      obtain ⟨v5, g, h⟩ := zb_some h
      refine zw_xi hX dX14_look_98 g ?_
      refine zw_icmp_ge (tgt := 126) hX dX14_look_99 (by decide) (fun c99 => ?_) (fun c99 => ?_)
      · rw [if_pos c99] at h
        refine zw_sub (lv' := [(0, .ref a0), (1, .int i1), (2, .int i2), (3, .int i3), (4, .int i4)]) (List.forall_mem_cons.mpr ⟨rfl, (List.forall_mem_cons.mpr ⟨rfl, (List.forall_mem_cons.mpr ⟨rfl, (List.forall_mem_cons.mpr ⟨rfl, (List.forall_mem_cons.mpr ⟨rfl, zs_nil⟩)⟩)⟩)⟩)⟩) ?_
        exact hk _ _ (Option.some.inj h).symm
      · rw [if_neg c99] at h
        refine zw_bipush (v := (10 : Int32)) hX dX14_look_102 (by decide) ?_
        refine zw_iload hX dX14_look_104 rfl ?_
        refine zw_imul hX dX14_look_106 ?_
        refine zw_aload_n hX dX14_look_107 rfl ?_
        obtain ⟨b6, g, h⟩ := zb_some h
        refine zw_getr hX zl_X14_20 dX14_look_108 g ?_
        refine zw_iload hX dX14_look_111 rfl ?_
        obtain ⟨v7, g, h⟩ := zb_some h
        refine zw_xi hX dX14_look_113 g ?_
        refine zw_iadd hX dX14_look_114 ?_
        refine zw_bipush (v := (48 : Int32)) hX dX14_look_115 (by decide) ?_
        refine zw_isub hX dX14_look_117 ?_
        refine zw_istore hX dX14_look_118 (by decide) ?_
        refine zw_iinc (v := (i5 + (1 : Int32))) hX dX14_look_120 rfl rfl (by decide) ?_
        refine zw_goto (tgt := 84) hX dX14_look_123 (by decide) ?_
        refine zw_sub (lv' := [(0, .ref a0), (1, .int i1), (2, .int i2), (3, .int i3), (4, .int ((((10 : Int32) * i4) + v7) - (48 : Int32))), (5, .int (i5 + (1 : Int32)))]) (List.forall_mem_cons.mpr ⟨rfl, (List.forall_mem_cons.mpr ⟨rfl, (List.forall_mem_cons.mpr ⟨rfl, (List.forall_mem_cons.mpr ⟨rfl, (List.forall_mem_cons.mpr ⟨rfl, (List.forall_mem_cons.mpr ⟨rfl, zs_nil⟩)⟩)⟩)⟩)⟩)⟩) ?_
        exact ih _ _ _ h
set_option maxHeartbeats 4000000 in
set_option maxRecDepth 100000 in
theorem zt_X14_look_J148 {p : Program} {l : Launch} {e : Env} {R : Room} {s : State} {m : MethodId} {args : Array Value} {below : List Frame} {meth : Method} {c : Code} {V : zm_V} {mc ms d rc rs : Nat} (hX : zm_X p R s m args meth c RX14 "look" cX14_look 6 zk_E V mc ms) (hr : meth.sig.returnType = (some .int)) (hR : R.frames = d ∧ R.locals = 64 * d) (hd : 2 ≤ d) {N : Nat} {i4 : Int32} {t0 : Nat} {t1 : Int32} {out : (Int32 × zm_S)} {S : zm_S} (h : zf_X14_look_J148 N i4 t0 t1 S = some out) : zw p l e R s m args below meth c (vx_MQ below (zm_Qc zk_E V (zo_i out)) (zm_XC zk_E V zo_x) args s mc ms (fun q => V.2.2.2.1 ≤ q)) 6 zk_E V mc ms 148 [(4, .int i4)] [.int t1, .ref t0] S rc rs := by
  unfold zf_X14_look_J148 at h
  obtain ⟨_, gi, h⟩ := zb_some h
  obtain ⟨r11, g, h⟩ := zb_some h
  refine zc_Vi (as := [.int t1]) hX gi (zt_X14_want (d := d - 1) (by omega) g) zl_X14_141 rfl dX14_look_148 ⟨rfl, rfl, Nat.le_of_ble_eq_true rfl⟩ ⟨by omega, by omega⟩ ?_
  refine zw_if_eq (tgt := 159) hX dX14_look_151 (by decide) (fun c151 => ?_) (fun c151 => ?_)
  · rw [if_pos c151] at h
    refine zw_iconst (v := (-1 : Int32)) hX dX14_look_159 (by decide) ?_
    obtain rfl := Option.some.inj h
    exact zw_iret hX hr dX14_look_160 rfl ⟨rfl, rfl⟩
  · rw [if_neg c151] at h
    refine zw_iload hX dX14_look_154 rfl ?_
    refine zw_goto (tgt := 160) hX dX14_look_156 (by decide) ?_
    obtain rfl := Option.some.inj h
    exact zw_iret hX hr dX14_look_160 rfl ⟨rfl, rfl⟩
set_option maxHeartbeats 4000000 in
set_option maxRecDepth 100000 in
theorem zt_X14_look_J147 {p : Program} {l : Launch} {e : Env} {R : Room} {s : State} {m : MethodId} {args : Array Value} {below : List Frame} {meth : Method} {c : Code} {V : zm_V} {mc ms d rc rs : Nat} (hX : zm_X p R s m args meth c RX14 "look" cX14_look 6 zk_E V mc ms) (hr : meth.sig.returnType = (some .int)) (hR : R.frames = d ∧ R.locals = 64 * d) (hd : 2 ≤ d) {N : Nat} {i4 : Int32} {t0 : Nat} {out : (Int32 × zm_S)} {S : zm_S} (h : zf_X14_look_J147 N i4 t0 S = some out) : zw p l e R s m args below meth c (vx_MQ below (zm_Qc zk_E V (zo_i out)) (zm_XC zk_E V zo_x) args s mc ms (fun q => V.2.2.2.1 ≤ q)) 6 zk_E V mc ms 147 [(4, .int i4)] [.ref t0] S rc rs := by
  unfold zf_X14_look_J147 at h
  refine zw_iconst (v := (0 : Int32)) hX dX14_look_147 (by decide) ?_
  refine zw_sub (lv' := [(4, .int i4)]) (List.forall_mem_cons.mpr ⟨rfl, zs_nil⟩) ?_
  exact zt_X14_look_J148 hX hr hR hd h
set_option maxHeartbeats 4000000 in
set_option maxRecDepth 100000 in
theorem zt_X14_look_J126 {p : Program} {l : Launch} {e : Env} {R : Room} {s : State} {m : MethodId} {args : Array Value} {below : List Frame} {meth : Method} {c : Code} {V : zm_V} {mc ms d rc rs : Nat} (hX : zm_X p R s m args meth c RX14 "look" cX14_look 6 zk_E V mc ms) (hr : meth.sig.returnType = (some .int)) (hR : R.frames = d ∧ R.locals = 64 * d) (hd : 2 ≤ d) {N : Nat} {a0 : Nat} {i1 : Int32} {i2 : Int32} {i3 : Int32} {i4 : Int32} {out : (Int32 × zm_S)} {S : zm_S} (h : zf_X14_look_J126 N a0 i1 i2 i3 i4 S = some out) : zw p l e R s m args below meth c (vx_MQ below (zm_Qc zk_E V (zo_i out)) (zm_XC zk_E V zo_x) args s mc ms (fun q => V.2.2.2.1 ≤ q)) 6 zk_E V mc ms 126 [(0, .ref a0), (1, .int i1), (2, .int i2), (3, .int i3), (4, .int i4)] [] S rc rs := by
  unfold zf_X14_look_J126 at h
  refine zw_aload_n hX dX14_look_126 rfl ?_
  refine zw_iload_n hX dX14_look_127 rfl ?_
  refine zw_if_eq (tgt := 147) hX dX14_look_128 (by decide) (fun c128 => ?_) (fun c128 => ?_)
  · rw [if_pos c128] at h
    refine zw_sub (lv' := [(4, .int i4)]) (List.forall_mem_cons.mpr ⟨rfl, zs_nil⟩) ?_
    exact zt_X14_look_J147 hX hr hR hd h
  · rw [if_neg c128] at h
    refine zw_iload hX dX14_look_131 rfl ?_
    refine zw_iload_n hX dX14_look_133 rfl ?_
    refine zw_icmp_lt (tgt := 147) hX dX14_look_134 (by decide) (fun c134 => ?_) (fun c134 => ?_)
    · rw [if_pos c134] at h
      refine zw_sub (lv' := [(4, .int i4)]) (List.forall_mem_cons.mpr ⟨rfl, zs_nil⟩) ?_
      exact zt_X14_look_J147 hX hr hR hd h
    · rw [if_neg c134] at h
      refine zw_iload hX dX14_look_137 rfl ?_
      refine zw_iload_n hX dX14_look_139 rfl ?_
      refine zw_icmp_gt (tgt := 147) hX dX14_look_140 (by decide) (fun c140 => ?_) (fun c140 => ?_)
      · rw [if_pos c140] at h
        refine zw_sub (lv' := [(4, .int i4)]) (List.forall_mem_cons.mpr ⟨rfl, zs_nil⟩) ?_
        exact zt_X14_look_J147 hX hr hR hd h
      · rw [if_neg c140] at h
        refine zw_iconst (v := (1 : Int32)) hX dX14_look_143 (by decide) ?_
        refine zw_goto (tgt := 148) hX dX14_look_144 (by decide) ?_
        refine zw_sub (lv' := [(4, .int i4)]) (List.forall_mem_cons.mpr ⟨rfl, zs_nil⟩) ?_
        exact zt_X14_look_J148 hX hr hR hd h
set_option maxHeartbeats 4000000 in
set_option maxRecDepth 100000 in
theorem zt_X14_look_J82 {p : Program} {l : Launch} {e : Env} {R : Room} {s : State} {m : MethodId} {args : Array Value} {below : List Frame} {meth : Method} {c : Code} {V : zm_V} {mc ms d rc rs : Nat} (hX : zm_X p R s m args meth c RX14 "look" cX14_look 6 zk_E V mc ms) (hr : meth.sig.returnType = (some .int)) (hR : R.frames = d ∧ R.locals = 64 * d) (hd : 2 ≤ d) {N : Nat} {a0 : Nat} {i1 : Int32} {i2 : Int32} {i3 : Int32} {i4 : Int32} {t0 : Int32} {out : (Int32 × zm_S)} {S : zm_S} (h : zf_X14_look_J82 N a0 i1 i2 i3 i4 t0 S = some out) : zw p l e R s m args below meth c (vx_MQ below (zm_Qc zk_E V (zo_i out)) (zm_XC zk_E V zo_x) args s mc ms (fun q => V.2.2.2.1 ≤ q)) 6 zk_E V mc ms 82 [(0, .ref a0), (1, .int i1), (2, .int i2), (3, .int i3), (4, .int i4)] [.int t0] S rc rs := by
  unfold zf_X14_look_J82 at h
  refine zw_istore hX dX14_look_82 (by decide) ?_
  obtain ⟨r, g, h⟩ := zb_some h
  refine zw_sub (lv' := [(0, .ref a0), (1, .int i1), (2, .int i2), (3, .int i3), (4, .int i4), (5, .int t0)]) (List.forall_mem_cons.mpr ⟨rfl, (List.forall_mem_cons.mpr ⟨rfl, (List.forall_mem_cons.mpr ⟨rfl, (List.forall_mem_cons.mpr ⟨rfl, (List.forall_mem_cons.mpr ⟨rfl, (List.forall_mem_cons.mpr ⟨rfl, zs_nil⟩)⟩)⟩)⟩)⟩)⟩) ?_
  refine zt_X14_look_L84 hX hr hR hd (res := r) (out := out) a0 i1 i2 i3 ?_ ?_ N _ _ _ g
  · intro o ho
    subst ho
    exact Option.some.inj h
  · intro v9 S8 hx
    subst hx
    try dsimp only at h
    refine zw_sub (lv' := [(0, .ref a0), (1, .int i1), (2, .int i2), (3, .int i3), (4, .int v9)]) (List.forall_mem_cons.mpr ⟨rfl, (List.forall_mem_cons.mpr ⟨rfl, (List.forall_mem_cons.mpr ⟨rfl, (List.forall_mem_cons.mpr ⟨rfl, (List.forall_mem_cons.mpr ⟨rfl, zs_nil⟩)⟩)⟩)⟩)⟩) ?_
    exact zt_X14_look_J126 hX hr hR hd h
set_option maxHeartbeats 4000000 in
set_option maxRecDepth 100000 in
theorem zt_X14_look_J61 {p : Program} {l : Launch} {e : Env} {R : Room} {s : State} {m : MethodId} {args : Array Value} {below : List Frame} {meth : Method} {c : Code} {V : zm_V} {mc ms d rc rs : Nat} (hX : zm_X p R s m args meth c RX14 "look" cX14_look 6 zk_E V mc ms) (hr : meth.sig.returnType = (some .int)) (hR : R.frames = d ∧ R.locals = 64 * d) (hd : 2 ≤ d) {N : Nat} {a0 : Nat} {i1 : Int32} {i2 : Int32} {t0 : Int32} {out : (Int32 × zm_S)} {S : zm_S} (h : zf_X14_look_J61 N a0 i1 i2 t0 S = some out) : zw p l e R s m args below meth c (vx_MQ below (zm_Qc zk_E V (zo_i out)) (zm_XC zk_E V zo_x) args s mc ms (fun q => V.2.2.2.1 ≤ q)) 6 zk_E V mc ms 61 [(0, .ref a0), (1, .int i1), (2, .int i2)] [.int t0] S rc rs := by
  unfold zf_X14_look_J61 at h
  refine zw_istore_n hX dX14_look_61 (by decide) ?_
  refine zw_iconst (v := (0 : Int32)) hX dX14_look_62 (by decide) ?_
  refine zw_istore hX dX14_look_63 (by decide) ?_
  refine zw_iload_n hX dX14_look_65 rfl ?_
  refine zw_if_eq (tgt := 81) hX dX14_look_66 (by decide) (fun c66 => ?_) (fun c66 => ?_)
  · rw [if_pos c66] at h
    refine zw_iconst (v := (0 : Int32)) hX dX14_look_81 (by decide) ?_
    refine zw_sub (lv' := [(0, .ref a0), (1, .int i1), (2, .int i2), (3, .int t0), (4, .int (0 : Int32))]) (List.forall_mem_cons.mpr ⟨rfl, (List.forall_mem_cons.mpr ⟨rfl, (List.forall_mem_cons.mpr ⟨rfl, (List.forall_mem_cons.mpr ⟨rfl, (List.forall_mem_cons.mpr ⟨rfl, zs_nil⟩)⟩)⟩)⟩)⟩) ?_
    exact zt_X14_look_J82 hX hr hR hd h
  · rw [if_neg c66] at h
    refine zw_aload_n hX dX14_look_69 rfl ?_
    obtain ⟨b12, g, h⟩ := zb_some h
    refine zw_getr hX zl_X14_23 dX14_look_70 g ?_
    refine zw_aload_n hX dX14_look_73 rfl ?_
    obtain ⟨v13, g, h⟩ := zb_some h
    refine zw_geti hX zl_X14_131 dX14_look_74 g ?_
    obtain ⟨v14, g, h⟩ := zb_some h
    refine zw_xi hX dX14_look_77 g ?_
    refine zw_goto (tgt := 82) hX dX14_look_78 (by decide) ?_
    refine zw_sub (lv' := [(0, .ref a0), (1, .int i1), (2, .int i2), (3, .int t0), (4, .int (0 : Int32))]) (List.forall_mem_cons.mpr ⟨rfl, (List.forall_mem_cons.mpr ⟨rfl, (List.forall_mem_cons.mpr ⟨rfl, (List.forall_mem_cons.mpr ⟨rfl, (List.forall_mem_cons.mpr ⟨rfl, zs_nil⟩)⟩)⟩)⟩)⟩) ?_
    exact zt_X14_look_J82 hX hr hR hd h
set_option maxHeartbeats 4000000 in
set_option maxRecDepth 100000 in
theorem zt_X14_look_J60 {p : Program} {l : Launch} {e : Env} {R : Room} {s : State} {m : MethodId} {args : Array Value} {below : List Frame} {meth : Method} {c : Code} {V : zm_V} {mc ms d rc rs : Nat} (hX : zm_X p R s m args meth c RX14 "look" cX14_look 6 zk_E V mc ms) (hr : meth.sig.returnType = (some .int)) (hR : R.frames = d ∧ R.locals = 64 * d) (hd : 2 ≤ d) {N : Nat} {a0 : Nat} {i1 : Int32} {i2 : Int32} {out : (Int32 × zm_S)} {S : zm_S} (h : zf_X14_look_J60 N a0 i1 i2 S = some out) : zw p l e R s m args below meth c (vx_MQ below (zm_Qc zk_E V (zo_i out)) (zm_XC zk_E V zo_x) args s mc ms (fun q => V.2.2.2.1 ≤ q)) 6 zk_E V mc ms 60 [(0, .ref a0), (1, .int i1), (2, .int i2)] [] S rc rs := by
  unfold zf_X14_look_J60 at h
  refine zw_iconst (v := (0 : Int32)) hX dX14_look_60 (by decide) ?_
  refine zw_sub (lv' := [(0, .ref a0), (1, .int i1), (2, .int i2)]) (List.forall_mem_cons.mpr ⟨rfl, (List.forall_mem_cons.mpr ⟨rfl, (List.forall_mem_cons.mpr ⟨rfl, zs_nil⟩)⟩)⟩) ?_
  exact zt_X14_look_J61 hX hr hR hd h
set_option maxHeartbeats 4000000 in
set_option maxRecDepth 100000 in
theorem zt_X14_look {l : Launch} {V : zm_V} {N : Nat} {S : zm_S} {out : (Int32 × zm_S)} {d : Nat} {a0 : Nat} {i1 : Int32} {i2 : Int32} (hd : 2 ≤ d) (h : zf_X14_look N a0 i1 i2 S = some out) : zm_Met l zk_E V yX14_look (.code yX14_look cX14_look 6 (some .int)) d [.ref a0, .int i1, .int i2] S 0 0 (zo_i out) zo_x := by
  refine zm_of (by decide +kernel) (Nat.le_of_ble_eq_true rfl) ?_
  intro p e R s m args below meth c hRR hX hr hxt
  have hR : R.frames = d ∧ R.locals = 64 * d := by rw [hRR]; exact ⟨rfl, rfl⟩
  have hX : zm_X p R s m args meth c RX14 "look" cX14_look 6 zk_E V 0 0 := hX
  unfold zf_X14_look at h
  refine zw_sub (lv' := [(0, .ref a0), (1, .int i1), (2, .int i2)]) (List.forall_mem_cons.mpr ⟨rfl, (List.forall_mem_cons.mpr ⟨rfl, (List.forall_mem_cons.mpr ⟨rfl, zs_nil⟩)⟩)⟩) ?_
  refine zw_aload_n hX dX14_look_0 rfl ?_
  obtain ⟨v1, g, h⟩ := zb_some h
  refine zw_geti hX zl_X14_131 dX14_look_1 g ?_
  refine zw_aload_n hX dX14_look_4 rfl ?_
  obtain ⟨v2, g, h⟩ := zb_some h
  refine zw_geti hX zl_X14_125 dX14_look_5 g ?_
  refine zw_icmp_ge (tgt := 60) hX dX14_look_8 (by decide) (fun c8 => ?_) (fun c8 => ?_)
  · rw [if_pos c8] at h
    refine zw_sub (lv' := [(0, .ref a0), (1, .int i1), (2, .int i2)]) (List.forall_mem_cons.mpr ⟨rfl, (List.forall_mem_cons.mpr ⟨rfl, (List.forall_mem_cons.mpr ⟨rfl, zs_nil⟩)⟩)⟩) ?_
    exact zt_X14_look_J60 hX hr hR hd h
  · rw [if_neg c8] at h
    refine zw_aload_n hX dX14_look_11 rfl ?_
    obtain ⟨b15, g, h⟩ := zb_some h
    refine zw_getr hX zl_X14_20 dX14_look_12 g ?_
    refine zw_aload_n hX dX14_look_15 rfl ?_
    obtain ⟨b16, g, h⟩ := zb_some h
    refine zw_getr hX zl_X14_23 dX14_look_16 g ?_
    refine zw_aload_n hX dX14_look_19 rfl ?_
    obtain ⟨v17, g, h⟩ := zb_some h
    refine zw_geti hX zl_X14_131 dX14_look_20 g ?_
    obtain ⟨v18, g, h⟩ := zb_some h
    refine zw_xi hX dX14_look_23 g ?_
    obtain ⟨v19, g, h⟩ := zb_some h
    refine zw_xi hX dX14_look_24 g ?_
    obtain ⟨r21, g, h⟩ := zb_some h
    refine zc_Si (as := [.int v19]) hX (zt_X14_sort (d := d - 1) (by omega) g) zl_X14_128 dX14_look_25 ⟨rfl, rfl, Nat.le_of_ble_eq_true rfl⟩ ⟨by omega, by omega⟩ ?_
    refine zw_iconst (v := (2 : Int32)) hX dX14_look_28 (by decide) ?_
    refine zw_icmp_ne (tgt := 60) hX dX14_look_29 (by decide) (fun c29 => ?_) (fun c29 => ?_)
    · rw [if_neg c29] at h
      refine zw_sub (lv' := [(0, .ref a0), (1, .int i1), (2, .int i2)]) (List.forall_mem_cons.mpr ⟨rfl, (List.forall_mem_cons.mpr ⟨rfl, (List.forall_mem_cons.mpr ⟨rfl, zs_nil⟩)⟩)⟩) ?_
      exact zt_X14_look_J60 hX hr hR hd h
    · rw [if_pos c29] at h
      refine zw_aload_n hX dX14_look_32 rfl ?_
      obtain ⟨b22, g, h⟩ := zb_some h
      refine zw_getr hX zl_X14_26 dX14_look_33 g ?_
      refine zw_aload_n hX dX14_look_36 rfl ?_
      obtain ⟨v23, g, h⟩ := zb_some h
      refine zw_geti hX zl_X14_131 dX14_look_37 g ?_
      obtain ⟨v24, g, h⟩ := zb_some h
      refine zw_xi hX dX14_look_40 g ?_
      refine zw_aload_n hX dX14_look_41 rfl ?_
      obtain ⟨b25, g, h⟩ := zb_some h
      refine zw_getr hX zl_X14_23 dX14_look_42 g ?_
      refine zw_aload_n hX dX14_look_45 rfl ?_
      obtain ⟨v26, g, h⟩ := zb_some h
      refine zw_geti hX zl_X14_131 dX14_look_46 g ?_
      obtain ⟨v27, g, h⟩ := zb_some h
      refine zw_xi hX dX14_look_49 g ?_
      refine zw_isub hX dX14_look_50 ?_
      refine zw_bipush (v := (6 : Int32)) hX dX14_look_51 (by decide) ?_
      refine zw_icmp_gt (tgt := 60) hX dX14_look_53 (by decide) (fun c53 => ?_) (fun c53 => ?_)
      · rw [if_pos c53] at h
        refine zw_sub (lv' := [(0, .ref a0), (1, .int i1), (2, .int i2)]) (List.forall_mem_cons.mpr ⟨rfl, (List.forall_mem_cons.mpr ⟨rfl, (List.forall_mem_cons.mpr ⟨rfl, zs_nil⟩)⟩)⟩) ?_
        exact zt_X14_look_J60 hX hr hR hd h
      · rw [if_neg c53] at h
        refine zw_iconst (v := (1 : Int32)) hX dX14_look_56 (by decide) ?_
        refine zw_goto (tgt := 61) hX dX14_look_57 (by decide) ?_
        refine zw_sub (lv' := [(0, .ref a0), (1, .int i1), (2, .int i2)]) (List.forall_mem_cons.mpr ⟨rfl, (List.forall_mem_cons.mpr ⟨rfl, (List.forall_mem_cons.mpr ⟨rfl, zs_nil⟩)⟩)⟩) ?_
        exact zt_X14_look_J61 hX hr hR hd h
set_option maxHeartbeats 4000000 in
set_option maxRecDepth 100000 in
theorem zt_X14_takeNumber_J24 {p : Program} {l : Launch} {e : Env} {R : Room} {s : State} {m : MethodId} {args : Array Value} {below : List Frame} {meth : Method} {c : Code} {V : zm_V} {mc ms d rc rs : Nat} (hX : zm_X p R s m args meth c RX14 "takeNumber" cX14_takeNumber 4 zk_E V mc ms) (hr : meth.sig.returnType = (some .int)) (hR : R.frames = d ∧ R.locals = 64 * d) (hd : 3 ≤ d) {N : Nat} {i3 : Int32} {t0 : Nat} {t1 : Int32} {t2 : Int32} {out : (Int32 × zm_S)} {S : zm_S} (h : zf_X14_takeNumber_J24 N i3 t0 t1 t2 S = some out) : zw p l e R s m args below meth c (vx_MQ below (zm_Qc zk_E V (zo_i out)) (zm_XC zk_E V zo_x) args s mc ms (fun q => V.2.2.2.1 ≤ q)) 4 zk_E V mc ms 24 [(3, .int i3)] [.int t2, .int t1, .ref t0] S rc rs := by
  unfold zf_X14_takeNumber_J24 at h
  refine zw_iadd hX dX14_takeNumber_24 ?_
  obtain ⟨S5, g, h⟩ := zb_some h
  refine zw_putv hX zl_X14_131 zt_14_10 dX14_takeNumber_25 rfl rfl g ?_
  refine zw_iload_n hX dX14_takeNumber_28 rfl ?_
  obtain rfl := Option.some.inj h
  exact zw_iret hX hr dX14_takeNumber_29 rfl ⟨rfl, rfl⟩
set_option maxHeartbeats 4000000 in
set_option maxRecDepth 100000 in
theorem zt_X14_takeNumber {l : Launch} {V : zm_V} {N : Nat} {S : zm_S} {out : (Int32 × zm_S)} {d : Nat} {a0 : Nat} {i1 : Int32} {i2 : Int32} (hd : 3 ≤ d) (h : zf_X14_takeNumber N a0 i1 i2 S = some out) : zm_Met l zk_E V yX14_takeNumber (.code yX14_takeNumber cX14_takeNumber 4 (some .int)) d [.ref a0, .int i1, .int i2] S 0 0 (zo_i out) zo_x := by
  refine zm_of (by decide +kernel) (Nat.le_of_ble_eq_true rfl) ?_
  intro p e R s m args below meth c hRR hX hr hxt
  have hR : R.frames = d ∧ R.locals = 64 * d := by rw [hRR]; exact ⟨rfl, rfl⟩
  have hX : zm_X p R s m args meth c RX14 "takeNumber" cX14_takeNumber 4 zk_E V 0 0 := hX
  unfold zf_X14_takeNumber at h
  refine zw_sub (lv' := [(0, .ref a0), (1, .int i1), (2, .int i2)]) (List.forall_mem_cons.mpr ⟨rfl, (List.forall_mem_cons.mpr ⟨rfl, (List.forall_mem_cons.mpr ⟨rfl, zs_nil⟩)⟩)⟩) ?_
  refine zw_aload_n hX dX14_takeNumber_0 rfl ?_
  refine zw_iload_n hX dX14_takeNumber_1 rfl ?_
  refine zw_iload_n hX dX14_takeNumber_2 rfl ?_
  obtain ⟨_, gi, h⟩ := zb_some h
  obtain ⟨r2, g, h⟩ := zb_some h
  refine zc_Vi (as := [.int i1, .int i2]) hX gi (zt_X14_look (d := d - 1) (by omega) g) zl_X14_149 rfl dX14_takeNumber_3 ⟨rfl, rfl, Nat.le_of_ble_eq_true rfl⟩ ⟨by omega, by omega⟩ ?_
  refine zw_istore_n hX dX14_takeNumber_6 (by decide) ?_
  refine zw_aload_n hX dX14_takeNumber_7 rfl ?_
  refine zw_dup hX dX14_takeNumber_8 rfl ?_
  obtain ⟨v3, g, h⟩ := zb_some h
  refine zw_geti hX zl_X14_131 dX14_takeNumber_9 g ?_
  refine zw_aload_n hX dX14_takeNumber_12 rfl ?_
  obtain ⟨v4, g, h⟩ := zb_some h
  refine zw_geti hX zl_X14_134 dX14_takeNumber_13 g ?_
  refine zw_if_ge (tgt := 23) hX dX14_takeNumber_16 (by decide) (fun c16 => ?_) (fun c16 => ?_)
  · rw [if_pos c16] at h
    refine zw_iconst (v := (0 : Int32)) hX dX14_takeNumber_23 (by decide) ?_
    refine zw_sub (lv' := [(3, .int r2.1)]) (List.forall_mem_cons.mpr ⟨rfl, zs_nil⟩) ?_
    exact zt_X14_takeNumber_J24 hX hr hR hd h
  · rw [if_neg c16] at h
    refine zw_iconst (v := (1 : Int32)) hX dX14_takeNumber_19 (by decide) ?_
    refine zw_goto (tgt := 24) hX dX14_takeNumber_20 (by decide) ?_
    refine zw_sub (lv' := [(3, .int r2.1)]) (List.forall_mem_cons.mpr ⟨rfl, zs_nil⟩) ?_
    exact zt_X14_takeNumber_J24 hX hr hR hd h
set_option maxHeartbeats 4000000 in
set_option maxRecDepth 100000 in
theorem zt_X14_has_J36 {p : Program} {l : Launch} {e : Env} {R : Room} {s : State} {m : MethodId} {args : Array Value} {below : List Frame} {meth : Method} {c : Code} {V : zm_V} {mc ms d rc rs : Nat} (hX : zm_X p R s m args meth c RX14 "has" cX14_has 5 zk_E V mc ms) (hr : meth.sig.returnType = (some .boolean)) (hR : R.frames = d ∧ R.locals = 64 * d) (hd : 1 ≤ d) {N : Nat} {k : Nat → Int32 → Int32 → Int32 → Int32 → zm_S → Option ((Int32 × zm_S) ⊕ ((Int32) × zm_S))} {a0 : Nat} {i1 : Int32} {i2 : Int32} {i4 : Int32} {res : (Int32 × zm_S) ⊕ ((Int32) × zm_S)} {out : (Int32 × zm_S)}   (hf : ∀ o, res = .inl o → o = out) (hk : ∀ (x3 : Int32) (S' : zm_S), res = .inr (x3, S') → zw p l e R s m args below meth c (vx_MQ below (zm_Qc zk_E V (zo_i out)) (zm_XC zk_E V zo_x) args s mc ms (fun q => V.2.2.2.1 ≤ q)) 5 zk_E V mc ms 48 [(3, .int x3)] [] S' rc rs) (hrec : ∀ (i3' : Int32) (i4' : Int32) (S : zm_S), k a0 i1 i2 i3' i4' S = some res → zw p l e R s m args below meth c (vx_MQ below (zm_Qc zk_E V (zo_i out)) (zm_XC zk_E V zo_x) args s mc ms (fun q => V.2.2.2.1 ≤ q)) 5 zk_E V mc ms 5 [(0, .ref a0), (1, .int i1), (2, .int i2), (3, .int i3'), (4, .int i4')] [] S rc rs) {S : zm_S} (h : zf_X14_has_J36 N k a0 i1 i2 i4 S = some res) : zw p l e R s m args below meth c (vx_MQ below (zm_Qc zk_E V (zo_i out)) (zm_XC zk_E V zo_x) args s mc ms (fun q => V.2.2.2.1 ≤ q)) 5 zk_E V mc ms 36 [(0, .ref a0), (1, .int i1), (2, .int i2), (4, .int i4)] [] S rc rs := by
  unfold zf_X14_has_J36 at h
  refine zw_iconst (v := (1 : Int32)) hX dX14_has_36 (by decide) ?_
  refine zw_goto (tgt := 41) hX dX14_has_37 (by decide) ?_
  refine zw_istore_n hX dX14_has_41 (by decide) ?_
  refine zw_iinc (v := (i4 + (1 : Int32))) hX dX14_has_42 rfl rfl (by decide) ?_
  refine zw_goto (tgt := 5) hX dX14_has_45 (by decide) ?_
  refine zw_sub (lv' := [(0, .ref a0), (1, .int i1), (2, .int i2), (3, .int (1 : Int32)), (4, .int (i4 + (1 : Int32)))]) (List.forall_mem_cons.mpr ⟨rfl, (List.forall_mem_cons.mpr ⟨rfl, (List.forall_mem_cons.mpr ⟨rfl, (List.forall_mem_cons.mpr ⟨rfl, (List.forall_mem_cons.mpr ⟨rfl, zs_nil⟩)⟩)⟩)⟩)⟩) ?_
  exact hrec _ _ _ h
set_option maxHeartbeats 4000000 in
set_option maxRecDepth 100000 in
theorem zt_X14_has_L5 {p : Program} {l : Launch} {e : Env} {R : Room} {s : State} {m : MethodId} {args : Array Value} {below : List Frame} {meth : Method} {c : Code} {V : zm_V} {mc ms d rc rs : Nat} (hX : zm_X p R s m args meth c RX14 "has" cX14_has 5 zk_E V mc ms) (hr : meth.sig.returnType = (some .boolean)) (hR : R.frames = d ∧ R.locals = 64 * d) (hd : 1 ≤ d) {N : Nat} {res : (Int32 × zm_S) ⊕ ((Int32) × zm_S)} {out : (Int32 × zm_S)} (a0 : Nat) (i1 : Int32) (i2 : Int32) (hf : ∀ o, res = .inl o → o = out) (hk : ∀ (x3 : Int32) (S' : zm_S), res = .inr (x3, S') → zw p l e R s m args below meth c (vx_MQ below (zm_Qc zk_E V (zo_i out)) (zm_XC zk_E V zo_x) args s mc ms (fun q => V.2.2.2.1 ≤ q)) 5 zk_E V mc ms 48 [(3, .int x3)] [] S' rc rs) : ∀ (n : Nat) (i3 : Int32) (i4 : Int32) (S : zm_S), zf_X14_has_L5 N n a0 i1 i2 i3 i4 S = some res → zw p l e R s m args below meth c (vx_MQ below (zm_Qc zk_E V (zo_i out)) (zm_XC zk_E V zo_x) args s mc ms (fun q => V.2.2.2.1 ≤ q)) 5 zk_E V mc ms 5 [(0, .ref a0), (1, .int i1), (2, .int i2), (3, .int i3), (4, .int i4)] [] S rc rs := by
  intro n
  induction n with
  | zero => intro i3 i4 S h; cases h
  | succ n ih =>
    intro i3 i4 S h
    rw [zf_X14_has_L5] at h
    refine zw_iload hX dX14_has_5 rfl ?_
    refine zw_aload_n hX dX14_has_7 rfl ?_
    obtain ⟨b1, g, h⟩ := zb_some h
    refine zw_getr hX zl_X14_35 dX14_has_8 g ?_
    refine zw_iload_n hX dX14_has_11 rfl ?_
    obtain ⟨v2, g, h⟩ := zb_some h
    refine zw_xi hX dX14_has_12 g ?_
    refine zw_icmp_ge (tgt := 48) hX dX14_has_13 (by decide) (fun c13 => ?_) (fun c13 => ?_)
    · rw [if_pos c13] at h
      refine zw_sub (lv' := [(3, .int i3)]) (List.forall_mem_cons.mpr ⟨rfl, zs_nil⟩) ?_
      exact hk _ _ (Option.some.inj h).symm
    · rw [if_neg c13] at h
      refine zw_iload_n hX dX14_has_16 rfl ?_
      refine zw_if_ne (tgt := 36) hX dX14_has_17 (by decide) (fun c17 => ?_) (fun c17 => ?_)
      · rw [if_neg c17] at h
        refine zw_sub (lv' := [(0, .ref a0), (1, .int i1), (2, .int i2), (4, .int i4)]) (List.forall_mem_cons.mpr ⟨rfl, (List.forall_mem_cons.mpr ⟨rfl, (List.forall_mem_cons.mpr ⟨rfl, (List.forall_mem_cons.mpr ⟨rfl, zs_nil⟩)⟩)⟩)⟩) ?_
        exact zt_X14_has_J36 hX hr hR hd hf hk ih h
      · rw [if_pos c17] at h
        refine zw_aload_n hX dX14_has_20 rfl ?_
        obtain ⟨b3, g, h⟩ := zb_some h
        refine zw_getr hX zl_X14_38 dX14_has_21 g ?_
        refine zw_bipush (v := (12 : Int32)) hX dX14_has_24 (by decide) ?_
        refine zw_iload_n hX dX14_has_26 rfl ?_
        refine zw_imul hX dX14_has_27 ?_
        refine zw_iload hX dX14_has_28 rfl ?_
        refine zw_iadd hX dX14_has_30 ?_
        obtain ⟨v4, g, h⟩ := zb_some h
        refine zw_xi hX dX14_has_31 g ?_
        refine zw_iload_n hX dX14_has_32 rfl ?_
        refine zw_icmp_ne (tgt := 40) hX dX14_has_33 (by decide) (fun c33 => ?_) (fun c33 => ?_)
        · rw [if_neg c33] at h
          refine zw_iconst (v := (0 : Int32)) hX dX14_has_40 (by decide) ?_
          refine zw_istore_n hX dX14_has_41 (by decide) ?_
          refine zw_iinc (v := (i4 + (1 : Int32))) hX dX14_has_42 rfl rfl (by decide) ?_
          refine zw_goto (tgt := 5) hX dX14_has_45 (by decide) ?_
          refine zw_sub (lv' := [(0, .ref a0), (1, .int i1), (2, .int i2), (3, .int (0 : Int32)), (4, .int (i4 + (1 : Int32)))]) (List.forall_mem_cons.mpr ⟨rfl, (List.forall_mem_cons.mpr ⟨rfl, (List.forall_mem_cons.mpr ⟨rfl, (List.forall_mem_cons.mpr ⟨rfl, (List.forall_mem_cons.mpr ⟨rfl, zs_nil⟩)⟩)⟩)⟩)⟩) ?_
          exact ih _ _ _ h
        · rw [if_pos c33] at h
          refine zw_sub (lv' := [(0, .ref a0), (1, .int i1), (2, .int i2), (4, .int i4)]) (List.forall_mem_cons.mpr ⟨rfl, (List.forall_mem_cons.mpr ⟨rfl, (List.forall_mem_cons.mpr ⟨rfl, (List.forall_mem_cons.mpr ⟨rfl, zs_nil⟩)⟩)⟩)⟩) ?_
          exact zt_X14_has_J36 hX hr hR hd hf hk ih h
set_option maxHeartbeats 4000000 in
set_option maxRecDepth 100000 in
theorem zt_X14_has {l : Launch} {V : zm_V} {N : Nat} {S : zm_S} {out : (Int32 × zm_S)} {d : Nat} {a0 : Nat} {i1 : Int32} {i2 : Int32} (hd : 1 ≤ d) (h : zf_X14_has N a0 i1 i2 S = some out) : zm_Met l zk_E V yX14_has (.code yX14_has cX14_has 5 (some .boolean)) d [.ref a0, .int i1, .int i2] S 0 0 (zo_i out) zo_x := by
  refine zm_of (by decide +kernel) (Nat.le_of_ble_eq_true rfl) ?_
  intro p e R s m args below meth c hRR hX hr hxt
  have hR : R.frames = d ∧ R.locals = 64 * d := by rw [hRR]; exact ⟨rfl, rfl⟩
  have hX : zm_X p R s m args meth c RX14 "has" cX14_has 5 zk_E V 0 0 := hX
  unfold zf_X14_has at h
  refine zw_sub (lv' := [(0, .ref a0), (1, .int i1), (2, .int i2)]) (List.forall_mem_cons.mpr ⟨rfl, (List.forall_mem_cons.mpr ⟨rfl, (List.forall_mem_cons.mpr ⟨rfl, zs_nil⟩)⟩)⟩) ?_
  refine zw_iconst (v := (0 : Int32)) hX dX14_has_0 (by decide) ?_
  refine zw_istore_n hX dX14_has_1 (by decide) ?_
  refine zw_iconst (v := (0 : Int32)) hX dX14_has_2 (by decide) ?_
  refine zw_istore hX dX14_has_3 (by decide) ?_
  obtain ⟨r, g, h⟩ := zb_some h
  refine zw_sub (lv' := [(0, .ref a0), (1, .int i1), (2, .int i2), (3, .int (0 : Int32)), (4, .int (0 : Int32))]) (List.forall_mem_cons.mpr ⟨rfl, (List.forall_mem_cons.mpr ⟨rfl, (List.forall_mem_cons.mpr ⟨rfl, (List.forall_mem_cons.mpr ⟨rfl, (List.forall_mem_cons.mpr ⟨rfl, zs_nil⟩)⟩)⟩)⟩)⟩) ?_
  refine zt_X14_has_L5 hX hr hR hd (res := r) (out := out) a0 i1 i2 ?_ ?_ N _ _ _ g
  · intro o ho
    subst ho
    exact Option.some.inj h
  · intro v6 S5 hx
    subst hx
    try dsimp only at h
    refine zw_iload_n hX dX14_has_48 rfl ?_
    by_cases cz : v6 = 0 ∨ v6 = 1
    · rw [if_pos cz] at h
      obtain rfl := Option.some.inj h
      exact zw_iret hX hr dX14_has_49 (zn_z cz) ⟨rfl, rfl⟩
    · rw [if_neg cz] at h
      cases h
set_option maxHeartbeats 4000000 in
set_option maxRecDepth 100000 in
theorem zt_X14_readZone_J189 {p : Program} {l : Launch} {e : Env} {R : Room} {s : State} {m : MethodId} {args : Array Value} {below : List Frame} {meth : Method} {c : Code} {V : zm_V} {mc ms d rc rs : Nat} (hX : zm_X p R s m args meth c RX14 "readZone" cX14_readZone 6 zk_E V mc ms) (hr : meth.sig.returnType = none) (hR : R.frames = d ∧ R.locals = 64 * d) (hd : 4 ≤ d) {N : Nat} {k : Nat → Int32 → Int32 → Int32 → Int32 → zm_S → Option ((Unit × zm_S) ⊕ ((Unit) × zm_S))} {a0 : Nat} {i1 : Int32} {i2 : Int32} {i3 : Int32} {res : (Unit × zm_S) ⊕ ((Unit) × zm_S)} {out : (Unit × zm_S)}   (hf : ∀ o, res = .inl o → o = out) (hk : ∀ (S' : zm_S), res = .inr ((), S') → zw p l e R s m args below meth c (vx_MQ below (zm_Qc zk_E V (zo_v out)) (zm_XC zk_E V zo_x) args s mc ms (fun q => V.2.2.2.1 ≤ q)) 6 zk_E V mc ms 208 [(0, .ref a0), (1, .int i1), (2, .int i2), (3, .int i3)] [] S' rc rs) (hrec : ∀ (i4' : Int32) (S : zm_S), k a0 i1 i2 i3 i4' S = some res → zw p l e R s m args below meth c (vx_MQ below (zm_Qc zk_E V (zo_v out)) (zm_XC zk_E V zo_x) args s mc ms (fun q => V.2.2.2.1 ≤ q)) 6 zk_E V mc ms 86 [(0, .ref a0), (1, .int i1), (2, .int i2), (3, .int i3), (4, .int i4')] [] S rc rs) {S : zm_S} (h : zf_X14_readZone_J189 N k a0 i1 i2 i3 S = some res) : zw p l e R s m args below meth c (vx_MQ below (zm_Qc zk_E V (zo_v out)) (zm_XC zk_E V zo_x) args s mc ms (fun q => V.2.2.2.1 ≤ q)) 6 zk_E V mc ms 189 [(0, .ref a0), (1, .int i1), (2, .int i2), (3, .int i3)] [] S rc rs := by
  unfold zf_X14_readZone_J189 at h
  refine zw_aload_n hX dX14_readZone_189 rfl ?_
  refine zw_bipush (v := (59 : Int32)) hX dX14_readZone_190 (by decide) ?_
  obtain ⟨_, gi, h⟩ := zb_some h
  obtain ⟨r25, g, h⟩ := zb_some h
  refine zc_Vi (as := [.int (59 : Int32)]) hX gi (zt_X14_isSign (d := d - 1) (by omega) g) zl_X14_145 rfl dX14_readZone_192 ⟨rfl, rfl, Nat.le_of_ble_eq_true rfl⟩ ⟨by omega, by omega⟩ ?_
  refine zw_if_ne (tgt := 202) hX dX14_readZone_195 (by decide) (fun c195 => ?_) (fun c195 => ?_)
  · rw [if_neg c195] at h
    refine zw_iconst (v := (0 : Int32)) hX dX14_readZone_202 (by decide) ?_
    refine zw_istore hX dX14_readZone_203 (by decide) ?_
    refine zw_goto (tgt := 86) hX dX14_readZone_205 (by decide) ?_
    refine zw_sub (lv' := [(0, .ref a0), (1, .int i1), (2, .int i2), (3, .int i3), (4, .int (0 : Int32))]) (List.forall_mem_cons.mpr ⟨rfl, (List.forall_mem_cons.mpr ⟨rfl, (List.forall_mem_cons.mpr ⟨rfl, (List.forall_mem_cons.mpr ⟨rfl, (List.forall_mem_cons.mpr ⟨rfl, zs_nil⟩)⟩)⟩)⟩)⟩) ?_
    exact hrec _ _ h
  · rw [if_pos c195] at h
    refine zw_iconst (v := (1 : Int32)) hX dX14_readZone_198 (by decide) ?_
    refine zw_goto (tgt := 203) hX dX14_readZone_199 (by decide) ?_
    refine zw_istore hX dX14_readZone_203 (by decide) ?_
    refine zw_goto (tgt := 86) hX dX14_readZone_205 (by decide) ?_
    refine zw_sub (lv' := [(0, .ref a0), (1, .int i1), (2, .int i2), (3, .int i3), (4, .int (1 : Int32))]) (List.forall_mem_cons.mpr ⟨rfl, (List.forall_mem_cons.mpr ⟨rfl, (List.forall_mem_cons.mpr ⟨rfl, (List.forall_mem_cons.mpr ⟨rfl, (List.forall_mem_cons.mpr ⟨rfl, zs_nil⟩)⟩)⟩)⟩)⟩) ?_
    exact hrec _ _ h
set_option maxHeartbeats 4000000 in
set_option maxRecDepth 100000 in
theorem zt_X14_readZone_J145 {p : Program} {l : Launch} {e : Env} {R : Room} {s : State} {m : MethodId} {args : Array Value} {below : List Frame} {meth : Method} {c : Code} {V : zm_V} {mc ms d rc rs : Nat} (hX : zm_X p R s m args meth c RX14 "readZone" cX14_readZone 6 zk_E V mc ms) (hr : meth.sig.returnType = none) (hR : R.frames = d ∧ R.locals = 64 * d) (hd : 4 ≤ d) {N : Nat} {k : Nat → Int32 → Int32 → Int32 → Int32 → zm_S → Option ((Unit × zm_S) ⊕ ((Unit) × zm_S))} {a0 : Nat} {i1 : Int32} {i2 : Int32} {i3 : Int32} {i5 : Int32} {t0 : Nat} {t1 : Int32} {res : (Unit × zm_S) ⊕ ((Unit) × zm_S)} {out : (Unit × zm_S)}   (hf : ∀ o, res = .inl o → o = out) (hk : ∀ (S' : zm_S), res = .inr ((), S') → zw p l e R s m args below meth c (vx_MQ below (zm_Qc zk_E V (zo_v out)) (zm_XC zk_E V zo_x) args s mc ms (fun q => V.2.2.2.1 ≤ q)) 6 zk_E V mc ms 208 [(0, .ref a0), (1, .int i1), (2, .int i2), (3, .int i3)] [] S' rc rs) (hrec : ∀ (i4' : Int32) (S : zm_S), k a0 i1 i2 i3 i4' S = some res → zw p l e R s m args below meth c (vx_MQ below (zm_Qc zk_E V (zo_v out)) (zm_XC zk_E V zo_x) args s mc ms (fun q => V.2.2.2.1 ≤ q)) 6 zk_E V mc ms 86 [(0, .ref a0), (1, .int i1), (2, .int i2), (3, .int i3), (4, .int i4')] [] S rc rs) {S : zm_S} (h : zf_X14_readZone_J145 N k a0 i1 i2 i3 i5 t0 t1 S = some res) : zw p l e R s m args below meth c (vx_MQ below (zm_Qc zk_E V (zo_v out)) (zm_XC zk_E V zo_x) args s mc ms (fun q => V.2.2.2.1 ≤ q)) 6 zk_E V mc ms 145 [(0, .ref a0), (1, .int i1), (2, .int i2), (3, .int i3), (5, .int i5)] [.int t1, .ref t0] S rc rs := by
  unfold zf_X14_readZone_J145 at h
  obtain ⟨_, gi, h⟩ := zb_some h
  obtain ⟨r29, g, h⟩ := zb_some h
  refine zc_Vi (as := [.int t1]) hX gi (zt_X14_want (d := d - 1) (by omega) g) zl_X14_141 rfl dX14_readZone_145 ⟨rfl, rfl, Nat.le_of_ble_eq_true rfl⟩ ⟨by omega, by omega⟩ ?_
  refine zw_if_eq (tgt := 189) hX dX14_readZone_148 (by decide) (fun c148 => ?_) (fun c148 => ?_)
  · rw [if_pos c148] at h
    refine zw_sub (lv' := [(0, .ref a0), (1, .int i1), (2, .int i2), (3, .int i3)]) (List.forall_mem_cons.mpr ⟨rfl, (List.forall_mem_cons.mpr ⟨rfl, (List.forall_mem_cons.mpr ⟨rfl, (List.forall_mem_cons.mpr ⟨rfl, zs_nil⟩)⟩)⟩)⟩) ?_
    exact zt_X14_readZone_J189 hX hr hR hd hf hk hrec h
  · rw [if_neg c148] at h
    refine zw_aload_n hX dX14_readZone_151 rfl ?_
    obtain ⟨b30, g, h⟩ := zb_some h
    refine zw_getr hX zl_X14_38 dX14_readZone_152 g ?_
    refine zw_bipush (v := (12 : Int32)) hX dX14_readZone_155 (by decide) ?_
    refine zw_iload_n hX dX14_readZone_157 rfl ?_
    refine zw_imul hX dX14_readZone_158 ?_
    refine zw_aload_n hX dX14_readZone_159 rfl ?_
    obtain ⟨b31, g, h⟩ := zb_some h
    refine zw_getr hX zl_X14_35 dX14_readZone_160 g ?_
    refine zw_iload_n hX dX14_readZone_163 rfl ?_
    obtain ⟨v32, g, h⟩ := zb_some h
    refine zw_xi hX dX14_readZone_164 g ?_
    refine zw_iadd hX dX14_readZone_165 ?_
    refine zw_iload hX dX14_readZone_166 rfl ?_
    obtain ⟨S33, g, h⟩ := zb_some h
    refine zw_si hX dX14_readZone_168 g ?_
    refine zw_aload_n hX dX14_readZone_169 rfl ?_
    obtain ⟨b34, g, h⟩ := zb_some h
    refine zw_getr hX zl_X14_35 dX14_readZone_170 g ?_
    refine zw_iload_n hX dX14_readZone_173 rfl ?_
    refine zw_dup2 hX dX14_readZone_174 rfl rfl ?_
    obtain ⟨v35, g, h⟩ := zb_some h
    refine zw_xi hX dX14_readZone_175 g ?_
    refine zw_iconst (v := (1 : Int32)) hX dX14_readZone_176 (by decide) ?_
    refine zw_iadd hX dX14_readZone_177 ?_
    obtain ⟨S36, g, h⟩ := zb_some h
    refine zw_si hX dX14_readZone_178 g ?_
    refine zw_aload_n hX dX14_readZone_179 rfl ?_
    refine zw_dup hX dX14_readZone_180 rfl ?_
    obtain ⟨v37, g, h⟩ := zb_some h
    refine zw_geti hX zl_X14_131 dX14_readZone_181 g ?_
    refine zw_iconst (v := (1 : Int32)) hX dX14_readZone_184 (by decide) ?_
    refine zw_iadd hX dX14_readZone_185 ?_
    obtain ⟨S38, g, h⟩ := zb_some h
    refine zw_putv hX zl_X14_131 zt_14_10 dX14_readZone_186 rfl rfl g ?_
    refine zw_sub (lv' := [(0, .ref a0), (1, .int i1), (2, .int i2), (3, .int i3)]) (List.forall_mem_cons.mpr ⟨rfl, (List.forall_mem_cons.mpr ⟨rfl, (List.forall_mem_cons.mpr ⟨rfl, (List.forall_mem_cons.mpr ⟨rfl, zs_nil⟩)⟩)⟩)⟩) ?_
    exact zt_X14_readZone_J189 hX hr hR hd hf hk hrec h
set_option maxHeartbeats 4000000 in
set_option maxRecDepth 100000 in
theorem zt_X14_readZone_J144 {p : Program} {l : Launch} {e : Env} {R : Room} {s : State} {m : MethodId} {args : Array Value} {below : List Frame} {meth : Method} {c : Code} {V : zm_V} {mc ms d rc rs : Nat} (hX : zm_X p R s m args meth c RX14 "readZone" cX14_readZone 6 zk_E V mc ms) (hr : meth.sig.returnType = none) (hR : R.frames = d ∧ R.locals = 64 * d) (hd : 4 ≤ d) {N : Nat} {k : Nat → Int32 → Int32 → Int32 → Int32 → zm_S → Option ((Unit × zm_S) ⊕ ((Unit) × zm_S))} {a0 : Nat} {i1 : Int32} {i2 : Int32} {i3 : Int32} {i5 : Int32} {t0 : Nat} {res : (Unit × zm_S) ⊕ ((Unit) × zm_S)} {out : (Unit × zm_S)}   (hf : ∀ o, res = .inl o → o = out) (hk : ∀ (S' : zm_S), res = .inr ((), S') → zw p l e R s m args below meth c (vx_MQ below (zm_Qc zk_E V (zo_v out)) (zm_XC zk_E V zo_x) args s mc ms (fun q => V.2.2.2.1 ≤ q)) 6 zk_E V mc ms 208 [(0, .ref a0), (1, .int i1), (2, .int i2), (3, .int i3)] [] S' rc rs) (hrec : ∀ (i4' : Int32) (S : zm_S), k a0 i1 i2 i3 i4' S = some res → zw p l e R s m args below meth c (vx_MQ below (zm_Qc zk_E V (zo_v out)) (zm_XC zk_E V zo_x) args s mc ms (fun q => V.2.2.2.1 ≤ q)) 6 zk_E V mc ms 86 [(0, .ref a0), (1, .int i1), (2, .int i2), (3, .int i3), (4, .int i4')] [] S rc rs) {S : zm_S} (h : zf_X14_readZone_J144 N k a0 i1 i2 i3 i5 t0 S = some res) : zw p l e R s m args below meth c (vx_MQ below (zm_Qc zk_E V (zo_v out)) (zm_XC zk_E V zo_x) args s mc ms (fun q => V.2.2.2.1 ≤ q)) 6 zk_E V mc ms 144 [(0, .ref a0), (1, .int i1), (2, .int i2), (3, .int i3), (5, .int i5)] [.ref t0] S rc rs := by
  unfold zf_X14_readZone_J144 at h
  refine zw_iconst (v := (0 : Int32)) hX dX14_readZone_144 (by decide) ?_
  refine zw_sub (lv' := [(0, .ref a0), (1, .int i1), (2, .int i2), (3, .int i3), (5, .int i5)]) (List.forall_mem_cons.mpr ⟨rfl, (List.forall_mem_cons.mpr ⟨rfl, (List.forall_mem_cons.mpr ⟨rfl, (List.forall_mem_cons.mpr ⟨rfl, (List.forall_mem_cons.mpr ⟨rfl, zs_nil⟩)⟩)⟩)⟩)⟩) ?_
  exact zt_X14_readZone_J145 hX hr hR hd hf hk hrec h
set_option maxHeartbeats 4000000 in
set_option maxRecDepth 100000 in
theorem zt_X14_readZone_L86 {p : Program} {l : Launch} {e : Env} {R : Room} {s : State} {m : MethodId} {args : Array Value} {below : List Frame} {meth : Method} {c : Code} {V : zm_V} {mc ms d rc rs : Nat} (hX : zm_X p R s m args meth c RX14 "readZone" cX14_readZone 6 zk_E V mc ms) (hr : meth.sig.returnType = none) (hR : R.frames = d ∧ R.locals = 64 * d) (hd : 4 ≤ d) {N : Nat} {res : (Unit × zm_S) ⊕ ((Unit) × zm_S)} {out : (Unit × zm_S)} (a0 : Nat) (i1 : Int32) (i2 : Int32) (i3 : Int32) (hf : ∀ o, res = .inl o → o = out) (hk : ∀ (S' : zm_S), res = .inr ((), S') → zw p l e R s m args below meth c (vx_MQ below (zm_Qc zk_E V (zo_v out)) (zm_XC zk_E V zo_x) args s mc ms (fun q => V.2.2.2.1 ≤ q)) 6 zk_E V mc ms 208 [(0, .ref a0), (1, .int i1), (2, .int i2), (3, .int i3)] [] S' rc rs) : ∀ (n : Nat) (i4 : Int32) (S : zm_S), zf_X14_readZone_L86 N n a0 i1 i2 i3 i4 S = some res → zw p l e R s m args below meth c (vx_MQ below (zm_Qc zk_E V (zo_v out)) (zm_XC zk_E V zo_x) args s mc ms (fun q => V.2.2.2.1 ≤ q)) 6 zk_E V mc ms 86 [(0, .ref a0), (1, .int i1), (2, .int i2), (3, .int i3), (4, .int i4)] [] S rc rs := by
  intro n
  induction n with
  | zero => intro i4 S h; cases h
  | succ n ih =>
    intro i4 S h
    rw [zf_X14_readZone_L86] at h
    refine zw_iload hX dX14_readZone_86 rfl ?_
    refine zw_if_eq (tgt := 208) hX dX14_readZone_88 (by decide) (fun c88 => ?_) (fun c88 => ?_)
    · rw [if_pos c88] at h
      refine zw_sub (lv' := [(0, .ref a0), (1, .int i1), (2, .int i2), (3, .int i3)]) (List.forall_mem_cons.mpr ⟨rfl, (List.forall_mem_cons.mpr ⟨rfl, (List.forall_mem_cons.mpr ⟨rfl, (List.forall_mem_cons.mpr ⟨rfl, zs_nil⟩)⟩)⟩)⟩) ?_
      exact hk  _ (Option.some.inj h).symm
    · rw [if_neg c88] at h
      refine zw_aload_n hX dX14_readZone_91 rfl ?_
      obtain ⟨v19, g, h⟩ := zb_some h
      refine zw_geti hX zl_X14_134 dX14_readZone_92 g ?_
      refine zw_if_ge (tgt := 208) hX dX14_readZone_95 (by decide) (fun c95 => ?_) (fun c95 => ?_)
      · rw [if_pos c95] at h
        refine zw_sub (lv' := [(0, .ref a0), (1, .int i1), (2, .int i2), (3, .int i3)]) (List.forall_mem_cons.mpr ⟨rfl, (List.forall_mem_cons.mpr ⟨rfl, (List.forall_mem_cons.mpr ⟨rfl, (List.forall_mem_cons.mpr ⟨rfl, zs_nil⟩)⟩)⟩)⟩) ?_
        exact hk  _ (Option.some.inj h).symm
      · rw [if_neg c95] at h
        refine zw_aload_n hX dX14_readZone_98 rfl ?_
        refine zw_iconst (v := (0 : Int32)) hX dX14_readZone_99 (by decide) ?_
        refine zw_aload_n hX dX14_readZone_100 rfl ?_
        obtain ⟨v20, g, h⟩ := zb_some h
        refine zw_geti hX zl_X14_159 dX14_readZone_101 g ?_
        refine zw_iconst (v := (1 : Int32)) hX dX14_readZone_104 (by decide) ?_
        refine zw_isub hX dX14_readZone_105 ?_
        obtain ⟨_, gi, h⟩ := zb_some h
        obtain ⟨r22, g, h⟩ := zb_some h
        refine zc_Vi (as := [.int (0 : Int32), .int (v20 - (1 : Int32))]) hX gi (zt_X14_look (d := d - 1) (by omega) g) zl_X14_149 rfl dX14_readZone_106 ⟨rfl, rfl, Nat.le_of_ble_eq_true rfl⟩ ⟨by omega, by omega⟩ ?_
        refine zw_istore hX dX14_readZone_109 (by decide) ?_
        refine zw_aload_n hX dX14_readZone_111 rfl ?_
        obtain ⟨v23, g, h⟩ := zb_some h
        refine zw_geti hX zl_X14_134 dX14_readZone_112 g ?_
        refine zw_if_ge (tgt := 189) hX dX14_readZone_115 (by decide) (fun c115 => ?_) (fun c115 => ?_)
        · rw [if_pos c115] at h
          refine zw_sub (lv' := [(0, .ref a0), (1, .int i1), (2, .int i2), (3, .int i3)]) (List.forall_mem_cons.mpr ⟨rfl, (List.forall_mem_cons.mpr ⟨rfl, (List.forall_mem_cons.mpr ⟨rfl, (List.forall_mem_cons.mpr ⟨rfl, zs_nil⟩)⟩)⟩)⟩) ?_
          exact zt_X14_readZone_J189 hX hr hR hd hf hk ih h
        · rw [if_neg c115] at h
          refine zw_aload_n hX dX14_readZone_118 rfl ?_
          refine zw_aload_n hX dX14_readZone_119 rfl ?_
          obtain ⟨b26, g, h⟩ := zb_some h
          refine zw_getr hX zl_X14_35 dX14_readZone_120 g ?_
          refine zw_iload_n hX dX14_readZone_123 rfl ?_
          obtain ⟨v27, g, h⟩ := zb_some h
          refine zw_xi hX dX14_readZone_124 g ?_
          refine zw_bipush (v := (12 : Int32)) hX dX14_readZone_125 (by decide) ?_
          refine zw_icmp_ge (tgt := 144) hX dX14_readZone_127 (by decide) (fun c127 => ?_) (fun c127 => ?_)
          · rw [if_pos c127] at h
            refine zw_sub (lv' := [(0, .ref a0), (1, .int i1), (2, .int i2), (3, .int i3), (5, .int r22.1)]) (List.forall_mem_cons.mpr ⟨rfl, (List.forall_mem_cons.mpr ⟨rfl, (List.forall_mem_cons.mpr ⟨rfl, (List.forall_mem_cons.mpr ⟨rfl, (List.forall_mem_cons.mpr ⟨rfl, zs_nil⟩)⟩)⟩)⟩)⟩) ?_
            exact zt_X14_readZone_J144 hX hr hR hd hf hk ih h
          · rw [if_neg c127] at h
            refine zw_aload_n hX dX14_readZone_130 rfl ?_
            refine zw_iload_n hX dX14_readZone_131 rfl ?_
            refine zw_iload hX dX14_readZone_132 rfl ?_
            obtain ⟨_, gi, h⟩ := zb_some h
            obtain ⟨r40, g, h⟩ := zb_some h
            refine zc_Vi (as := [.int i1, .int r22.1]) hX gi (zt_X14_has (d := d - 1) (by omega) g) zl_X14_162 rfl dX14_readZone_134 ⟨rfl, rfl, Nat.le_of_ble_eq_true rfl⟩ ⟨by omega, by omega⟩ ?_
            refine zw_if_ne (tgt := 144) hX dX14_readZone_137 (by decide) (fun c137 => ?_) (fun c137 => ?_)
            · rw [if_neg c137] at h
              refine zw_sub (lv' := [(0, .ref a0), (1, .int i1), (2, .int i2), (3, .int i3), (5, .int r22.1)]) (List.forall_mem_cons.mpr ⟨rfl, (List.forall_mem_cons.mpr ⟨rfl, (List.forall_mem_cons.mpr ⟨rfl, (List.forall_mem_cons.mpr ⟨rfl, (List.forall_mem_cons.mpr ⟨rfl, zs_nil⟩)⟩)⟩)⟩)⟩) ?_
              exact zt_X14_readZone_J144 hX hr hR hd hf hk ih h
            · rw [if_pos c137] at h
              refine zw_iconst (v := (1 : Int32)) hX dX14_readZone_140 (by decide) ?_
              refine zw_goto (tgt := 145) hX dX14_readZone_141 (by decide) ?_
              refine zw_sub (lv' := [(0, .ref a0), (1, .int i1), (2, .int i2), (3, .int i3), (5, .int r22.1)]) (List.forall_mem_cons.mpr ⟨rfl, (List.forall_mem_cons.mpr ⟨rfl, (List.forall_mem_cons.mpr ⟨rfl, (List.forall_mem_cons.mpr ⟨rfl, (List.forall_mem_cons.mpr ⟨rfl, zs_nil⟩)⟩)⟩)⟩)⟩) ?_
              exact zt_X14_readZone_J145 hX hr hR hd hf hk ih h
set_option maxHeartbeats 4000000 in
set_option maxRecDepth 100000 in
theorem zt_X14_readZone_J241 {p : Program} {l : Launch} {e : Env} {R : Room} {s : State} {m : MethodId} {args : Array Value} {below : List Frame} {meth : Method} {c : Code} {V : zm_V} {mc ms d rc rs : Nat} (hX : zm_X p R s m args meth c RX14 "readZone" cX14_readZone 6 zk_E V mc ms) (hr : meth.sig.returnType = none) (hR : R.frames = d ∧ R.locals = 64 * d) (hd : 4 ≤ d) {N : Nat} {a0 : Nat} {i1 : Int32} {i3 : Int32} {t0 : Nat} {t1 : Int32} {out : (Unit × zm_S)} {S : zm_S} (h : zf_X14_readZone_J241 N a0 i1 i3 t0 t1 S = some out) : zw p l e R s m args below meth c (vx_MQ below (zm_Qc zk_E V (zo_v out)) (zm_XC zk_E V zo_x) args s mc ms (fun q => V.2.2.2.1 ≤ q)) 6 zk_E V mc ms 241 [(0, .ref a0), (1, .int i1), (3, .int i3)] [.int t1, .ref t0] S rc rs := by
  unfold zf_X14_readZone_J241 at h
  obtain ⟨S47, g, h⟩ := zb_some h
  refine zw_putv hX zl_X14_134 zt_14_11 dX14_readZone_241 rfl rfl g ?_
  refine zw_aload_n hX dX14_readZone_244 rfl ?_
  obtain ⟨b48, g, h⟩ := zb_some h
  refine zw_getr hX zl_X14_32 dX14_readZone_245 g ?_
  refine zw_iload_n hX dX14_readZone_248 rfl ?_
  refine zw_iload_n hX dX14_readZone_249 rfl ?_
  obtain ⟨S49, g, h⟩ := zb_some h
  refine zw_si hX dX14_readZone_250 g ?_
  refine zw_aload_n hX dX14_readZone_251 rfl ?_
  obtain ⟨b50, g, h⟩ := zb_some h
  refine zw_getr hX zl_X14_29 dX14_readZone_252 g ?_
  refine zw_iload_n hX dX14_readZone_255 rfl ?_
  refine zw_iconst (v := (1 : Int32)) hX dX14_readZone_256 (by decide) ?_
  obtain ⟨S51, g, h⟩ := zb_some h
  refine zw_sz hX dX14_readZone_257 g ?_
  obtain rfl := Option.some.inj h
  exact zw_vret hX hr dX14_readZone_258 ⟨rfl, rfl⟩
set_option maxHeartbeats 4000000 in
set_option maxRecDepth 100000 in
theorem zt_X14_readZone_J208 {p : Program} {l : Launch} {e : Env} {R : Room} {s : State} {m : MethodId} {args : Array Value} {below : List Frame} {meth : Method} {c : Code} {V : zm_V} {mc ms d rc rs : Nat} (hX : zm_X p R s m args meth c RX14 "readZone" cX14_readZone 6 zk_E V mc ms) (hr : meth.sig.returnType = none) (hR : R.frames = d ∧ R.locals = 64 * d) (hd : 4 ≤ d) {N : Nat} {a0 : Nat} {i1 : Int32} {i2 : Int32} {i3 : Int32} {out : (Unit × zm_S)} {S : zm_S} (h : zf_X14_readZone_J208 N a0 i1 i2 i3 S = some out) : zw p l e R s m args below meth c (vx_MQ below (zm_Qc zk_E V (zo_v out)) (zm_XC zk_E V zo_x) args s mc ms (fun q => V.2.2.2.1 ≤ q)) 6 zk_E V mc ms 208 [(0, .ref a0), (1, .int i1), (2, .int i2), (3, .int i3)] [] S rc rs := by
  unfold zf_X14_readZone_J208 at h
  refine zw_aload_n hX dX14_readZone_208 rfl ?_
  obtain ⟨v42, g, h⟩ := zb_some h
  refine zw_geti hX zl_X14_134 dX14_readZone_209 g ?_
  refine zw_if_ge (tgt := 258) hX dX14_readZone_212 (by decide) (fun c212 => ?_) (fun c212 => ?_)
  · rw [if_pos c212] at h
    obtain rfl := Option.some.inj h
    exact zw_vret hX hr dX14_readZone_258 ⟨rfl, rfl⟩
  · rw [if_neg c212] at h
    refine zw_aload_n hX dX14_readZone_215 rfl ?_
    refine zw_dup hX dX14_readZone_216 rfl ?_
    obtain ⟨v43, g, h⟩ := zb_some h
    refine zw_geti hX zl_X14_131 dX14_readZone_217 g ?_
    refine zw_iconst (v := (1 : Int32)) hX dX14_readZone_220 (by decide) ?_
    refine zw_iadd hX dX14_readZone_221 ?_
    obtain ⟨S44, g, h⟩ := zb_some h
    refine zw_putv hX zl_X14_131 zt_14_10 dX14_readZone_222 rfl rfl g ?_
    refine zw_aload_n hX dX14_readZone_225 rfl ?_
    refine zw_iload_n hX dX14_readZone_226 rfl ?_
    refine zw_aload_n hX dX14_readZone_227 rfl ?_
    obtain ⟨b45, g, h⟩ := zb_some h
    refine zw_getr hX zl_X14_35 dX14_readZone_228 g ?_
    refine zw_iload_n hX dX14_readZone_231 rfl ?_
    obtain ⟨v46, g, h⟩ := zb_some h
    refine zw_xi hX dX14_readZone_232 g ?_
    refine zw_icmp_le (tgt := 240) hX dX14_readZone_233 (by decide) (fun c233 => ?_) (fun c233 => ?_)
    · rw [if_pos c233] at h
      refine zw_iconst (v := (-1 : Int32)) hX dX14_readZone_240 (by decide) ?_
      refine zw_sub (lv' := [(0, .ref a0), (1, .int i1), (3, .int i3)]) (List.forall_mem_cons.mpr ⟨rfl, (List.forall_mem_cons.mpr ⟨rfl, (List.forall_mem_cons.mpr ⟨rfl, zs_nil⟩)⟩)⟩) ?_
      exact zt_X14_readZone_J241 hX hr hR hd h
    · rw [if_neg c233] at h
      refine zw_iload_n hX dX14_readZone_236 rfl ?_
      refine zw_goto (tgt := 241) hX dX14_readZone_237 (by decide) ?_
      refine zw_sub (lv' := [(0, .ref a0), (1, .int i1), (3, .int i3)]) (List.forall_mem_cons.mpr ⟨rfl, (List.forall_mem_cons.mpr ⟨rfl, (List.forall_mem_cons.mpr ⟨rfl, zs_nil⟩)⟩)⟩) ?_
      exact zt_X14_readZone_J241 hX hr hR hd h
set_option maxHeartbeats 4000000 in
set_option maxRecDepth 100000 in
theorem zt_X14_readZone_J33 {p : Program} {l : Launch} {e : Env} {R : Room} {s : State} {m : MethodId} {args : Array Value} {below : List Frame} {meth : Method} {c : Code} {V : zm_V} {mc ms d rc rs : Nat} (hX : zm_X p R s m args meth c RX14 "readZone" cX14_readZone 6 zk_E V mc ms) (hr : meth.sig.returnType = none) (hR : R.frames = d ∧ R.locals = 64 * d) (hd : 4 ≤ d) {N : Nat} {a0 : Nat} {i1 : Int32} {t0 : Nat} {t1 : Int32} {out : (Unit × zm_S)} {S : zm_S} (h : zf_X14_readZone_J33 N a0 i1 t0 t1 S = some out) : zw p l e R s m args below meth c (vx_MQ below (zm_Qc zk_E V (zo_v out)) (zm_XC zk_E V zo_x) args s mc ms (fun q => V.2.2.2.1 ≤ q)) 6 zk_E V mc ms 33 [(0, .ref a0), (1, .int i1)] [.int t1, .ref t0] S rc rs := by
  unfold zf_X14_readZone_J33 at h
  obtain ⟨_, gi, h⟩ := zb_some h
  obtain ⟨r7, g, h⟩ := zb_some h
  refine zc_Vi (as := [.int t1]) hX gi (zt_X14_want (d := d - 1) (by omega) g) zl_X14_141 rfl dX14_readZone_33 ⟨rfl, rfl, Nat.le_of_ble_eq_true rfl⟩ ⟨by omega, by omega⟩ ?_
  refine zw_if_ne (tgt := 40) hX dX14_readZone_36 (by decide) (fun c36 => ?_) (fun c36 => ?_)
  · rw [if_neg c36] at h
    refine zw_aload_n hX dX14_readZone_40 rfl ?_
    refine zw_dup hX dX14_readZone_41 rfl ?_
    obtain ⟨v8, g, h⟩ := zb_some h
    refine zw_geti hX zl_X14_131 dX14_readZone_42 g ?_
    refine zw_iconst (v := (1 : Int32)) hX dX14_readZone_45 (by decide) ?_
    refine zw_iadd hX dX14_readZone_46 ?_
    obtain ⟨S9, g, h⟩ := zb_some h
    refine zw_putv hX zl_X14_131 zt_14_10 dX14_readZone_47 rfl rfl g ?_
    refine zw_aload_n hX dX14_readZone_50 rfl ?_
    refine zw_ldc (v := (20059310 : Int32)) hX dX14_readZone_51 zl_X14_117 ?_
    obtain ⟨_, gi, h⟩ := zb_some h
    obtain ⟨r11, g, h⟩ := zb_some h
    refine zc_Vv (as := [.int (20059310 : Int32)]) hX gi (zt_X14_take (d := d - 1) (by omega) g) zl_X14_153 rfl dX14_readZone_53 ⟨rfl, rfl, Nat.le_of_ble_eq_true rfl⟩ ⟨by omega, by omega⟩ ?_
    refine zw_aload_n hX dX14_readZone_56 rfl ?_
    obtain ⟨v12, g, h⟩ := zb_some h
    refine zw_geti hX zl_X14_131 dX14_readZone_57 g ?_
    refine zw_istore_n hX dX14_readZone_60 (by decide) ?_
    refine zw_aload_n hX dX14_readZone_61 rfl ?_
    refine zw_iconst (v := (1 : Int32)) hX dX14_readZone_62 (by decide) ?_
    refine zw_bipush (v := (12 : Int32)) hX dX14_readZone_63 (by decide) ?_
    obtain ⟨_, gi, h⟩ := zb_some h
    obtain ⟨r14, g, h⟩ := zb_some h
    refine zc_Vi (as := [.int (1 : Int32), .int (12 : Int32)]) hX gi (zt_X14_takeNumber (d := d - 1) (by omega) g) zl_X14_156 rfl dX14_readZone_65 ⟨rfl, rfl, Nat.le_of_ble_eq_true rfl⟩ ⟨by omega, by omega⟩ ?_
    refine zw_istore_n hX dX14_readZone_68 (by decide) ?_
    refine zw_aload_n hX dX14_readZone_69 rfl ?_
    refine zw_sipush (v := (207 : Int32)) hX dX14_readZone_70 (by decide) ?_
    obtain ⟨_, gi, h⟩ := zb_some h
    obtain ⟨r16, g, h⟩ := zb_some h
    refine zc_Vv (as := [.int (207 : Int32)]) hX gi (zt_X14_take (d := d - 1) (by omega) g) zl_X14_153 rfl dX14_readZone_73 ⟨rfl, rfl, Nat.le_of_ble_eq_true rfl⟩ ⟨by omega, by omega⟩ ?_
    refine zw_aload_n hX dX14_readZone_76 rfl ?_
    obtain ⟨b17, g, h⟩ := zb_some h
    refine zw_getr hX zl_X14_35 dX14_readZone_77 g ?_
    refine zw_iload_n hX dX14_readZone_80 rfl ?_
    refine zw_iconst (v := (0 : Int32)) hX dX14_readZone_81 (by decide) ?_
    obtain ⟨S18, g, h⟩ := zb_some h
    refine zw_si hX dX14_readZone_82 g ?_
    refine zw_iconst (v := (1 : Int32)) hX dX14_readZone_83 (by decide) ?_
    refine zw_istore hX dX14_readZone_84 (by decide) ?_
    obtain ⟨r, g, h⟩ := zb_some h
    refine zw_sub (lv' := [(0, .ref a0), (1, .int i1), (2, .int v12), (3, .int r14.1), (4, .int (1 : Int32))]) (List.forall_mem_cons.mpr ⟨rfl, (List.forall_mem_cons.mpr ⟨rfl, (List.forall_mem_cons.mpr ⟨rfl, (List.forall_mem_cons.mpr ⟨rfl, (List.forall_mem_cons.mpr ⟨rfl, zs_nil⟩)⟩)⟩)⟩)⟩) ?_
    refine zt_X14_readZone_L86 hX hr hR hd (res := r) (out := out) a0 i1 v12 r14.1 ?_ ?_ N _ _ g
    · intro o ho
      subst ho
      exact Option.some.inj h
    · intro  S41 hx
      subst hx
      try dsimp only at h
      refine zw_sub (lv' := [(0, .ref a0), (1, .int i1), (2, .int v12), (3, .int r14.1)]) (List.forall_mem_cons.mpr ⟨rfl, (List.forall_mem_cons.mpr ⟨rfl, (List.forall_mem_cons.mpr ⟨rfl, (List.forall_mem_cons.mpr ⟨rfl, zs_nil⟩)⟩)⟩)⟩) ?_
      exact zt_X14_readZone_J208 hX hr hR hd h
  · rw [if_pos c36] at h
    obtain rfl := Option.some.inj h
    exact zw_vret hX hr dX14_readZone_39 ⟨rfl, rfl⟩
set_option maxHeartbeats 4000000 in
set_option maxRecDepth 100000 in
theorem zt_X14_readZone {l : Launch} {V : zm_V} {N : Nat} {S : zm_S} {out : (Unit × zm_S)} {d : Nat} {a0 : Nat} (hd : 4 ≤ d) (h : zf_X14_readZone N a0 S = some out) : zm_Met l zk_E V yX14_readZone (.code yX14_readZone cX14_readZone 6 none) d [.ref a0] S 0 0 (zo_v out) zo_x := by
  refine zm_of (by decide +kernel) (Nat.le_of_ble_eq_true rfl) ?_
  intro p e R s m args below meth c hRR hX hr hxt
  have hR : R.frames = d ∧ R.locals = 64 * d := by rw [hRR]; exact ⟨rfl, rfl⟩
  have hX : zm_X p R s m args meth c RX14 "readZone" cX14_readZone 6 zk_E V 0 0 := hX
  unfold zf_X14_readZone at h
  refine zw_sub (lv' := [(0, .ref a0)]) (List.forall_mem_cons.mpr ⟨rfl, zs_nil⟩) ?_
  refine zw_aload_n hX dX14_readZone_0 rfl ?_
  refine zw_iconst (v := (0 : Int32)) hX dX14_readZone_1 (by decide) ?_
  refine zw_bipush (v := (19 : Int32)) hX dX14_readZone_2 (by decide) ?_
  obtain ⟨_, gi, h⟩ := zb_some h
  obtain ⟨r2, g, h⟩ := zb_some h
  refine zc_Vi (as := [.int (0 : Int32), .int (19 : Int32)]) hX gi (zt_X14_look (d := d - 1) (by omega) g) zl_X14_149 rfl dX14_readZone_4 ⟨rfl, rfl, Nat.le_of_ble_eq_true rfl⟩ ⟨by omega, by omega⟩ ?_
  refine zw_bipush (v := (20 : Int32)) hX dX14_readZone_7 (by decide) ?_
  refine zw_iadd hX dX14_readZone_9 ?_
  refine zw_istore_n hX dX14_readZone_10 (by decide) ?_
  refine zw_aload_n hX dX14_readZone_11 rfl ?_
  obtain ⟨v3, g, h⟩ := zb_some h
  refine zw_geti hX zl_X14_134 dX14_readZone_12 g ?_
  refine zw_if_ge (tgt := 39) hX dX14_readZone_15 (by decide) (fun c15 => ?_) (fun c15 => ?_)
  · rw [if_pos c15] at h
    obtain rfl := Option.some.inj h
    exact zw_vret hX hr dX14_readZone_39 ⟨rfl, rfl⟩
  · rw [if_neg c15] at h
    refine zw_aload_n hX dX14_readZone_18 rfl ?_
    refine zw_aload_n hX dX14_readZone_19 rfl ?_
    obtain ⟨b4, g, h⟩ := zb_some h
    refine zw_getr hX zl_X14_29 dX14_readZone_20 g ?_
    refine zw_iload_n hX dX14_readZone_23 rfl ?_
    obtain ⟨v5, g, h⟩ := zb_some h
    refine zw_xz hX dX14_readZone_24 g ?_
    refine zw_if_ne (tgt := 32) hX dX14_readZone_25 (by decide) (fun c25 => ?_) (fun c25 => ?_)
    · rw [if_neg c25] at h
      refine zw_iconst (v := (0 : Int32)) hX dX14_readZone_32 (by decide) ?_
      refine zw_sub (lv' := [(0, .ref a0), (1, .int (r2.1 + (20 : Int32)))]) (List.forall_mem_cons.mpr ⟨rfl, (List.forall_mem_cons.mpr ⟨rfl, zs_nil⟩)⟩) ?_
      exact zt_X14_readZone_J33 hX hr hR hd h
    · rw [if_pos c25] at h
      refine zw_iconst (v := (1 : Int32)) hX dX14_readZone_28 (by decide) ?_
      refine zw_goto (tgt := 33) hX dX14_readZone_29 (by decide) ?_
      refine zw_sub (lv' := [(0, .ref a0), (1, .int (r2.1 + (20 : Int32)))]) (List.forall_mem_cons.mpr ⟨rfl, (List.forall_mem_cons.mpr ⟨rfl, zs_nil⟩)⟩) ?_
      exact zt_X14_readZone_J33 hX hr hR hd h
set_option maxHeartbeats 4000000 in
set_option maxRecDepth 100000 in
theorem zt_X14_readAct_J33 {p : Program} {l : Launch} {e : Env} {R : Room} {s : State} {m : MethodId} {args : Array Value} {below : List Frame} {meth : Method} {c : Code} {V : zm_V} {mc ms d rc rs : Nat} (hX : zm_X p R s m args meth c RX14 "readAct" cX14_readAct 2 zk_E V mc ms) (hr : meth.sig.returnType = none) (hR : R.frames = d ∧ R.locals = 64 * d) (hd : 4 ≤ d) {N : Nat} {a0 : Nat} {i1 : Int32} {t0 : Nat} {t1 : Int32} {out : (Unit × zm_S)} {S : zm_S} (h : zf_X14_readAct_J33 N a0 i1 t0 t1 S = some out) : zw p l e R s m args below meth c (vx_MQ below (zm_Qc zk_E V (zo_v out)) (zm_XC zk_E V zo_x) args s mc ms (fun q => V.2.2.2.1 ≤ q)) 2 zk_E V mc ms 33 [(0, .ref a0), (1, .int i1)] [.int t1, .ref t0] S rc rs := by
  unfold zf_X14_readAct_J33 at h
  obtain ⟨_, gi, h⟩ := zb_some h
  obtain ⟨r7, g, h⟩ := zb_some h
  refine zc_Vi (as := [.int t1]) hX gi (zt_X14_want (d := d - 1) (by omega) g) zl_X14_141 rfl dX14_readAct_33 ⟨rfl, rfl, Nat.le_of_ble_eq_true rfl⟩ ⟨by omega, by omega⟩ ?_
  refine zw_if_ne (tgt := 40) hX dX14_readAct_36 (by decide) (fun c36 => ?_) (fun c36 => ?_)
  · rw [if_neg c36] at h
    refine zw_aload_n hX dX14_readAct_40 rfl ?_
    refine zw_dup hX dX14_readAct_41 rfl ?_
    obtain ⟨v8, g, h⟩ := zb_some h
    refine zw_geti hX zl_X14_131 dX14_readAct_42 g ?_
    refine zw_iconst (v := (1 : Int32)) hX dX14_readAct_45 (by decide) ?_
    refine zw_iadd hX dX14_readAct_46 ?_
    obtain ⟨S9, g, h⟩ := zb_some h
    refine zw_putv hX zl_X14_131 zt_14_10 dX14_readAct_47 rfl rfl g ?_
    refine zw_aload_n hX dX14_readAct_50 rfl ?_
    refine zw_ldc (v := (145707 : Int32)) hX dX14_readAct_51 zl_X14_118 ?_
    obtain ⟨_, gi, h⟩ := zb_some h
    obtain ⟨r11, g, h⟩ := zb_some h
    refine zc_Vv (as := [.int (145707 : Int32)]) hX gi (zt_X14_take (d := d - 1) (by omega) g) zl_X14_153 rfl dX14_readAct_53 ⟨rfl, rfl, Nat.le_of_ble_eq_true rfl⟩ ⟨by omega, by omega⟩ ?_
    refine zw_aload_n hX dX14_readAct_56 rfl ?_
    obtain ⟨b12, g, h⟩ := zb_some h
    refine zw_getr hX zl_X14_44 dX14_readAct_57 g ?_
    refine zw_iload_n hX dX14_readAct_60 rfl ?_
    refine zw_aload_n hX dX14_readAct_61 rfl ?_
    refine zw_iconst (v := (0 : Int32)) hX dX14_readAct_62 (by decide) ?_
    refine zw_iconst (v := (5 : Int32)) hX dX14_readAct_63 (by decide) ?_
    obtain ⟨_, gi, h⟩ := zb_some h
    obtain ⟨r14, g, h⟩ := zb_some h
    refine zc_Vi (as := [.int (0 : Int32), .int (5 : Int32)]) hX gi (zt_X14_takeNumber (d := d - 1) (by omega) g) zl_X14_156 rfl dX14_readAct_64 ⟨rfl, rfl, Nat.le_of_ble_eq_true rfl⟩ ⟨by omega, by omega⟩ ?_
    obtain ⟨S15, g, h⟩ := zb_some h
    refine zw_si hX dX14_readAct_67 g ?_
    refine zw_aload_n hX dX14_readAct_68 rfl ?_
    refine zw_ldc (v := (374834 : Int32)) hX dX14_readAct_69 zl_X14_119 ?_
    obtain ⟨_, gi, h⟩ := zb_some h
    obtain ⟨r17, g, h⟩ := zb_some h
    refine zc_Vv (as := [.int (374834 : Int32)]) hX gi (zt_X14_take (d := d - 1) (by omega) g) zl_X14_153 rfl dX14_readAct_71 ⟨rfl, rfl, Nat.le_of_ble_eq_true rfl⟩ ⟨by omega, by omega⟩ ?_
    refine zw_aload_n hX dX14_readAct_74 rfl ?_
    obtain ⟨b18, g, h⟩ := zb_some h
    refine zw_getr hX zl_X14_47 dX14_readAct_75 g ?_
    refine zw_iload_n hX dX14_readAct_78 rfl ?_
    refine zw_aload_n hX dX14_readAct_79 rfl ?_
    refine zw_iconst (v := (0 : Int32)) hX dX14_readAct_80 (by decide) ?_
    refine zw_bipush (v := (99 : Int32)) hX dX14_readAct_81 (by decide) ?_
    obtain ⟨_, gi, h⟩ := zb_some h
    obtain ⟨r20, g, h⟩ := zb_some h
    refine zc_Vi (as := [.int (0 : Int32), .int (99 : Int32)]) hX gi (zt_X14_takeNumber (d := d - 1) (by omega) g) zl_X14_156 rfl dX14_readAct_83 ⟨rfl, rfl, Nat.le_of_ble_eq_true rfl⟩ ⟨by omega, by omega⟩ ?_
    obtain ⟨S21, g, h⟩ := zb_some h
    refine zw_si hX dX14_readAct_86 g ?_
    refine zw_aload_n hX dX14_readAct_87 rfl ?_
    refine zw_ldc (v := (26259620 : Int32)) hX dX14_readAct_88 zl_X14_120 ?_
    obtain ⟨_, gi, h⟩ := zb_some h
    obtain ⟨r23, g, h⟩ := zb_some h
    refine zc_Vv (as := [.int (26259620 : Int32)]) hX gi (zt_X14_take (d := d - 1) (by omega) g) zl_X14_153 rfl dX14_readAct_90 ⟨rfl, rfl, Nat.le_of_ble_eq_true rfl⟩ ⟨by omega, by omega⟩ ?_
    refine zw_aload_n hX dX14_readAct_93 rfl ?_
    obtain ⟨b24, g, h⟩ := zb_some h
    refine zw_getr hX zl_X14_50 dX14_readAct_94 g ?_
    refine zw_iload_n hX dX14_readAct_97 rfl ?_
    refine zw_aload_n hX dX14_readAct_98 rfl ?_
    refine zw_iconst (v := (0 : Int32)) hX dX14_readAct_99 (by decide) ?_
    refine zw_sipush (v := (600 : Int32)) hX dX14_readAct_100 (by decide) ?_
    obtain ⟨_, gi, h⟩ := zb_some h
    obtain ⟨r26, g, h⟩ := zb_some h
    refine zc_Vi (as := [.int (0 : Int32), .int (600 : Int32)]) hX gi (zt_X14_takeNumber (d := d - 1) (by omega) g) zl_X14_156 rfl dX14_readAct_103 ⟨rfl, rfl, Nat.le_of_ble_eq_true rfl⟩ ⟨by omega, by omega⟩ ?_
    obtain ⟨S27, g, h⟩ := zb_some h
    refine zw_si hX dX14_readAct_106 g ?_
    refine zw_aload_n hX dX14_readAct_107 rfl ?_
    obtain ⟨_, gi, h⟩ := zb_some h
    obtain ⟨r29, g, h⟩ := zb_some h
    refine zc_Vv (as := []) hX gi (zt_X14_takeStop (d := d - 1) (by omega) g) zl_X14_166 rfl dX14_readAct_108 ⟨rfl, rfl, Nat.le_of_ble_eq_true rfl⟩ ⟨by omega, by omega⟩ ?_
    refine zw_aload_n hX dX14_readAct_111 rfl ?_
    obtain ⟨b30, g, h⟩ := zb_some h
    refine zw_getr hX zl_X14_41 dX14_readAct_112 g ?_
    refine zw_iload_n hX dX14_readAct_115 rfl ?_
    refine zw_iconst (v := (1 : Int32)) hX dX14_readAct_116 (by decide) ?_
    obtain ⟨S31, g, h⟩ := zb_some h
    refine zw_sz hX dX14_readAct_117 g ?_
    refine zw_aload_n hX dX14_readAct_118 rfl ?_
    obtain ⟨b32, g, h⟩ := zb_some h
    refine zw_getr hX zl_X14_53 dX14_readAct_119 g ?_
    refine zw_iload_n hX dX14_readAct_122 rfl ?_
    refine zw_iconst (v := (0 : Int32)) hX dX14_readAct_123 (by decide) ?_
    obtain ⟨S33, g, h⟩ := zb_some h
    refine zw_sz hX dX14_readAct_124 g ?_
    obtain rfl := Option.some.inj h
    exact zw_vret hX hr dX14_readAct_125 ⟨rfl, rfl⟩
  · rw [if_pos c36] at h
    obtain rfl := Option.some.inj h
    exact zw_vret hX hr dX14_readAct_39 ⟨rfl, rfl⟩
set_option maxHeartbeats 4000000 in
set_option maxRecDepth 100000 in
theorem zt_X14_readAct {l : Launch} {V : zm_V} {N : Nat} {S : zm_S} {out : (Unit × zm_S)} {d : Nat} {a0 : Nat} (hd : 4 ≤ d) (h : zf_X14_readAct N a0 S = some out) : zm_Met l zk_E V yX14_readAct (.code yX14_readAct cX14_readAct 2 none) d [.ref a0] S 0 0 (zo_v out) zo_x := by
  refine zm_of (by decide +kernel) (Nat.le_of_ble_eq_true rfl) ?_
  intro p e R s m args below meth c hRR hX hr hxt
  have hR : R.frames = d ∧ R.locals = 64 * d := by rw [hRR]; exact ⟨rfl, rfl⟩
  have hX : zm_X p R s m args meth c RX14 "readAct" cX14_readAct 2 zk_E V 0 0 := hX
  unfold zf_X14_readAct at h
  refine zw_sub (lv' := [(0, .ref a0)]) (List.forall_mem_cons.mpr ⟨rfl, zs_nil⟩) ?_
  refine zw_aload_n hX dX14_readAct_0 rfl ?_
  refine zw_iconst (v := (0 : Int32)) hX dX14_readAct_1 (by decide) ?_
  refine zw_bipush (v := (19 : Int32)) hX dX14_readAct_2 (by decide) ?_
  obtain ⟨_, gi, h⟩ := zb_some h
  obtain ⟨r2, g, h⟩ := zb_some h
  refine zc_Vi (as := [.int (0 : Int32), .int (19 : Int32)]) hX gi (zt_X14_look (d := d - 1) (by omega) g) zl_X14_149 rfl dX14_readAct_4 ⟨rfl, rfl, Nat.le_of_ble_eq_true rfl⟩ ⟨by omega, by omega⟩ ?_
  refine zw_bipush (v := (20 : Int32)) hX dX14_readAct_7 (by decide) ?_
  refine zw_iadd hX dX14_readAct_9 ?_
  refine zw_istore_n hX dX14_readAct_10 (by decide) ?_
  refine zw_aload_n hX dX14_readAct_11 rfl ?_
  obtain ⟨v3, g, h⟩ := zb_some h
  refine zw_geti hX zl_X14_134 dX14_readAct_12 g ?_
  refine zw_if_ge (tgt := 39) hX dX14_readAct_15 (by decide) (fun c15 => ?_) (fun c15 => ?_)
  · rw [if_pos c15] at h
    obtain rfl := Option.some.inj h
    exact zw_vret hX hr dX14_readAct_39 ⟨rfl, rfl⟩
  · rw [if_neg c15] at h
    refine zw_aload_n hX dX14_readAct_18 rfl ?_
    refine zw_aload_n hX dX14_readAct_19 rfl ?_
    obtain ⟨b4, g, h⟩ := zb_some h
    refine zw_getr hX zl_X14_41 dX14_readAct_20 g ?_
    refine zw_iload_n hX dX14_readAct_23 rfl ?_
    obtain ⟨v5, g, h⟩ := zb_some h
    refine zw_xz hX dX14_readAct_24 g ?_
    refine zw_if_ne (tgt := 32) hX dX14_readAct_25 (by decide) (fun c25 => ?_) (fun c25 => ?_)
    · rw [if_neg c25] at h
      refine zw_iconst (v := (0 : Int32)) hX dX14_readAct_32 (by decide) ?_
      refine zw_sub (lv' := [(0, .ref a0), (1, .int (r2.1 + (20 : Int32)))]) (List.forall_mem_cons.mpr ⟨rfl, (List.forall_mem_cons.mpr ⟨rfl, zs_nil⟩)⟩) ?_
      exact zt_X14_readAct_J33 hX hr hR hd h
    · rw [if_pos c25] at h
      refine zw_iconst (v := (1 : Int32)) hX dX14_readAct_28 (by decide) ?_
      refine zw_goto (tgt := 33) hX dX14_readAct_29 (by decide) ?_
      refine zw_sub (lv' := [(0, .ref a0), (1, .int (r2.1 + (20 : Int32)))]) (List.forall_mem_cons.mpr ⟨rfl, (List.forall_mem_cons.mpr ⟨rfl, zs_nil⟩)⟩) ?_
      exact zt_X14_readAct_J33 hX hr hR hd h
set_option maxHeartbeats 4000000 in
set_option maxRecDepth 100000 in
theorem zt_X14_takeZone_J38 {p : Program} {l : Launch} {e : Env} {R : Room} {s : State} {m : MethodId} {args : Array Value} {below : List Frame} {meth : Method} {c : Code} {V : zm_V} {mc ms d rc rs : Nat} (hX : zm_X p R s m args meth c RX14 "takeZone" cX14_takeZone 3 zk_E V mc ms) (hr : meth.sig.returnType = (some .int)) (hR : R.frames = d ∧ R.locals = 64 * d) (hd : 3 ≤ d) {N : Nat} {a0 : Nat} {i2 : Int32} {t0 : Nat} {t1 : Int32} {out : (Int32 × zm_S)} {S : zm_S} (h : zf_X14_takeZone_J38 N a0 i2 t0 t1 S = some out) : zw p l e R s m args below meth c (vx_MQ below (zm_Qc zk_E V (zo_i out)) (zm_XC zk_E V zo_x) args s mc ms (fun q => V.2.2.2.1 ≤ q)) 3 zk_E V mc ms 38 [(0, .ref a0), (2, .int i2)] [.int t1, .ref t0] S rc rs := by
  unfold zf_X14_takeZone_J38 at h
  obtain ⟨_, gi, h⟩ := zb_some h
  obtain ⟨r7, g, h⟩ := zb_some h
  refine zc_Vi (as := [.int t1]) hX gi (zt_X14_want (d := d - 1) (by omega) g) zl_X14_141 rfl dX14_takeZone_38 ⟨rfl, rfl, Nat.le_of_ble_eq_true rfl⟩ ⟨by omega, by omega⟩ ?_
  refine zw_if_eq (tgt := 54) hX dX14_takeZone_41 (by decide) (fun c41 => ?_) (fun c41 => ?_)
  · rw [if_pos c41] at h
    refine zw_iload_n hX dX14_takeZone_54 rfl ?_
    obtain rfl := Option.some.inj h
    exact zw_iret hX hr dX14_takeZone_55 rfl ⟨rfl, rfl⟩
  · rw [if_neg c41] at h
    refine zw_aload_n hX dX14_takeZone_44 rfl ?_
    refine zw_dup hX dX14_takeZone_45 rfl ?_
    obtain ⟨v8, g, h⟩ := zb_some h
    refine zw_geti hX zl_X14_131 dX14_takeZone_46 g ?_
    refine zw_iconst (v := (1 : Int32)) hX dX14_takeZone_49 (by decide) ?_
    refine zw_iadd hX dX14_takeZone_50 ?_
    obtain ⟨S9, g, h⟩ := zb_some h
    refine zw_putv hX zl_X14_131 zt_14_10 dX14_takeZone_51 rfl rfl g ?_
    refine zw_iload_n hX dX14_takeZone_54 rfl ?_
    obtain rfl := Option.some.inj h
    exact zw_iret hX hr dX14_takeZone_55 rfl ⟨rfl, rfl⟩
set_option maxHeartbeats 4000000 in
set_option maxRecDepth 100000 in
theorem zt_X14_takeZone_J37 {p : Program} {l : Launch} {e : Env} {R : Room} {s : State} {m : MethodId} {args : Array Value} {below : List Frame} {meth : Method} {c : Code} {V : zm_V} {mc ms d rc rs : Nat} (hX : zm_X p R s m args meth c RX14 "takeZone" cX14_takeZone 3 zk_E V mc ms) (hr : meth.sig.returnType = (some .int)) (hR : R.frames = d ∧ R.locals = 64 * d) (hd : 3 ≤ d) {N : Nat} {a0 : Nat} {i2 : Int32} {t0 : Nat} {out : (Int32 × zm_S)} {S : zm_S} (h : zf_X14_takeZone_J37 N a0 i2 t0 S = some out) : zw p l e R s m args below meth c (vx_MQ below (zm_Qc zk_E V (zo_i out)) (zm_XC zk_E V zo_x) args s mc ms (fun q => V.2.2.2.1 ≤ q)) 3 zk_E V mc ms 37 [(0, .ref a0), (2, .int i2)] [.ref t0] S rc rs := by
  unfold zf_X14_takeZone_J37 at h
  refine zw_iconst (v := (0 : Int32)) hX dX14_takeZone_37 (by decide) ?_
  refine zw_sub (lv' := [(0, .ref a0), (2, .int i2)]) (List.forall_mem_cons.mpr ⟨rfl, (List.forall_mem_cons.mpr ⟨rfl, zs_nil⟩)⟩) ?_
  exact zt_X14_takeZone_J38 hX hr hR hd h
set_option maxHeartbeats 4000000 in
set_option maxRecDepth 100000 in
theorem zt_X14_takeZone {l : Launch} {V : zm_V} {N : Nat} {S : zm_S} {out : (Int32 × zm_S)} {d : Nat} {a0 : Nat} {i1 : Int32} (hd : 3 ≤ d) (h : zf_X14_takeZone N a0 i1 S = some out) : zm_Met l zk_E V yX14_takeZone (.code yX14_takeZone cX14_takeZone 3 (some .int)) d [.ref a0, .int i1] S 0 0 (zo_i out) zo_x := by
  refine zm_of (by decide +kernel) (Nat.le_of_ble_eq_true rfl) ?_
  intro p e R s m args below meth c hRR hX hr hxt
  have hR : R.frames = d ∧ R.locals = 64 * d := by rw [hRR]; exact ⟨rfl, rfl⟩
  have hX : zm_X p R s m args meth c RX14 "takeZone" cX14_takeZone 3 zk_E V 0 0 := hX
  unfold zf_X14_takeZone at h
  refine zw_sub (lv' := [(0, .ref a0), (1, .int i1)]) (List.forall_mem_cons.mpr ⟨rfl, (List.forall_mem_cons.mpr ⟨rfl, zs_nil⟩)⟩) ?_
  refine zw_aload_n hX dX14_takeZone_0 rfl ?_
  refine zw_iconst (v := (0 : Int32)) hX dX14_takeZone_1 (by decide) ?_
  refine zw_bipush (v := (19 : Int32)) hX dX14_takeZone_2 (by decide) ?_
  obtain ⟨_, gi, h⟩ := zb_some h
  obtain ⟨r2, g, h⟩ := zb_some h
  refine zc_Vi (as := [.int (0 : Int32), .int (19 : Int32)]) hX gi (zt_X14_look (d := d - 1) (by omega) g) zl_X14_149 rfl dX14_takeZone_4 ⟨rfl, rfl, Nat.le_of_ble_eq_true rfl⟩ ⟨by omega, by omega⟩ ?_
  refine zw_istore_n hX dX14_takeZone_7 (by decide) ?_
  refine zw_aload_n hX dX14_takeZone_8 rfl ?_
  obtain ⟨v3, g, h⟩ := zb_some h
  refine zw_geti hX zl_X14_134 dX14_takeZone_9 g ?_
  refine zw_if_ge (tgt := 54) hX dX14_takeZone_12 (by decide) (fun c12 => ?_) (fun c12 => ?_)
  · rw [if_pos c12] at h
    refine zw_iload_n hX dX14_takeZone_54 rfl ?_
    obtain rfl := Option.some.inj h
    exact zw_iret hX hr dX14_takeZone_55 rfl ⟨rfl, rfl⟩
  · rw [if_neg c12] at h
    refine zw_aload_n hX dX14_takeZone_15 rfl ?_
    refine zw_aload_n hX dX14_takeZone_16 rfl ?_
    obtain ⟨b4, g, h⟩ := zb_some h
    refine zw_getr hX zl_X14_29 dX14_takeZone_17 g ?_
    refine zw_bipush (v := (20 : Int32)) hX dX14_takeZone_20 (by decide) ?_
    refine zw_iload_n hX dX14_takeZone_22 rfl ?_
    refine zw_iadd hX dX14_takeZone_23 ?_
    obtain ⟨v5, g, h⟩ := zb_some h
    refine zw_xz hX dX14_takeZone_24 g ?_
    refine zw_if_eq (tgt := 37) hX dX14_takeZone_25 (by decide) (fun c25 => ?_) (fun c25 => ?_)
    · rw [if_pos c25] at h
      refine zw_sub (lv' := [(0, .ref a0), (2, .int r2.1)]) (List.forall_mem_cons.mpr ⟨rfl, (List.forall_mem_cons.mpr ⟨rfl, zs_nil⟩)⟩) ?_
      exact zt_X14_takeZone_J37 hX hr hR hd h
    · rw [if_neg c25] at h
      refine zw_iload_n hX dX14_takeZone_28 rfl ?_
      refine zw_iload_n hX dX14_takeZone_29 rfl ?_
      refine zw_icmp_eq (tgt := 37) hX dX14_takeZone_30 (by decide) (fun c30 => ?_) (fun c30 => ?_)
      · rw [if_pos c30] at h
        refine zw_sub (lv' := [(0, .ref a0), (2, .int r2.1)]) (List.forall_mem_cons.mpr ⟨rfl, (List.forall_mem_cons.mpr ⟨rfl, zs_nil⟩)⟩) ?_
        exact zt_X14_takeZone_J37 hX hr hR hd h
      · rw [if_neg c30] at h
        refine zw_iconst (v := (1 : Int32)) hX dX14_takeZone_33 (by decide) ?_
        refine zw_goto (tgt := 38) hX dX14_takeZone_34 (by decide) ?_
        refine zw_sub (lv' := [(0, .ref a0), (2, .int r2.1)]) (List.forall_mem_cons.mpr ⟨rfl, (List.forall_mem_cons.mpr ⟨rfl, zs_nil⟩)⟩) ?_
        exact zt_X14_takeZone_J38 hX hr hR hd h
set_option maxHeartbeats 4000000 in
set_option maxRecDepth 100000 in
theorem zt_X14_readRow_J98 {p : Program} {l : Launch} {e : Env} {R : Room} {s : State} {m : MethodId} {args : Array Value} {below : List Frame} {meth : Method} {c : Code} {V : zm_V} {mc ms d rc rs : Nat} (hX : zm_X p R s m args meth c RX14 "readRow" cX14_readRow 4 zk_E V mc ms) (hr : meth.sig.returnType = none) (hR : R.frames = d ∧ R.locals = 64 * d) (hd : 4 ≤ d) {N : Nat} {a0 : Nat} {i1 : Int32} {i2 : Int32} {i3 : Int32} {out : (Unit × zm_S)} {S : zm_S} (h : zf_X14_readRow_J98 N a0 i1 i2 i3 S = some out) : zw p l e R s m args below meth c (vx_MQ below (zm_Qc zk_E V (zo_v out)) (zm_XC zk_E V zo_x) args s mc ms (fun q => V.2.2.2.1 ≤ q)) 4 zk_E V mc ms 98 [(0, .ref a0), (1, .int i1), (2, .int i2), (3, .int i3)] [] S rc rs := by
  unfold zf_X14_readRow_J98 at h
  refine zw_aload_n hX dX14_readRow_98 rfl ?_
  obtain ⟨_, gi, h⟩ := zb_some h
  obtain ⟨r9, g, h⟩ := zb_some h
  refine zc_Vv (as := []) hX gi (zt_X14_takeStop (d := d - 1) (by omega) g) zl_X14_166 rfl dX14_readRow_99 ⟨rfl, rfl, Nat.le_of_ble_eq_true rfl⟩ ⟨by omega, by omega⟩ ?_
  refine zw_aload_n hX dX14_readRow_102 rfl ?_
  obtain ⟨v10, g, h⟩ := zb_some h
  refine zw_geti hX zl_X14_134 dX14_readRow_103 g ?_
  refine zw_if_ge (tgt := 158) hX dX14_readRow_106 (by decide) (fun c106 => ?_) (fun c106 => ?_)
  · rw [if_pos c106] at h
    obtain rfl := Option.some.inj h
    exact zw_vret hX hr dX14_readRow_158 ⟨rfl, rfl⟩
  · rw [if_neg c106] at h
    refine zw_aload_n hX dX14_readRow_109 rfl ?_
    obtain ⟨b11, g, h⟩ := zb_some h
    refine zw_getr hX zl_X14_56 dX14_readRow_110 g ?_
    refine zw_bipush (v := (50 : Int32)) hX dX14_readRow_113 (by decide) ?_
    refine zw_aload_n hX dX14_readRow_115 rfl ?_
    obtain ⟨v12, g, h⟩ := zb_some h
    refine zw_geti hX zl_X14_172 dX14_readRow_116 g ?_
    refine zw_iadd hX dX14_readRow_119 ?_
    refine zw_iload_n hX dX14_readRow_120 rfl ?_
    obtain ⟨S13, g, h⟩ := zb_some h
    refine zw_si hX dX14_readRow_121 g ?_
    refine zw_aload_n hX dX14_readRow_122 rfl ?_
    obtain ⟨b14, g, h⟩ := zb_some h
    refine zw_getr hX zl_X14_59 dX14_readRow_123 g ?_
    refine zw_bipush (v := (50 : Int32)) hX dX14_readRow_126 (by decide) ?_
    refine zw_aload_n hX dX14_readRow_128 rfl ?_
    obtain ⟨v15, g, h⟩ := zb_some h
    refine zw_geti hX zl_X14_172 dX14_readRow_129 g ?_
    refine zw_iadd hX dX14_readRow_132 ?_
    refine zw_iload_n hX dX14_readRow_133 rfl ?_
    obtain ⟨S16, g, h⟩ := zb_some h
    refine zw_si hX dX14_readRow_134 g ?_
    refine zw_aload_n hX dX14_readRow_135 rfl ?_
    obtain ⟨b17, g, h⟩ := zb_some h
    refine zw_getr hX zl_X14_62 dX14_readRow_136 g ?_
    refine zw_bipush (v := (50 : Int32)) hX dX14_readRow_139 (by decide) ?_
    refine zw_aload_n hX dX14_readRow_141 rfl ?_
    obtain ⟨v18, g, h⟩ := zb_some h
    refine zw_geti hX zl_X14_172 dX14_readRow_142 g ?_
    refine zw_iadd hX dX14_readRow_145 ?_
    refine zw_iload_n hX dX14_readRow_146 rfl ?_
    obtain ⟨S19, g, h⟩ := zb_some h
    refine zw_si hX dX14_readRow_147 g ?_
    refine zw_aload_n hX dX14_readRow_148 rfl ?_
    refine zw_dup hX dX14_readRow_149 rfl ?_
    obtain ⟨v20, g, h⟩ := zb_some h
    refine zw_geti hX zl_X14_172 dX14_readRow_150 g ?_
    refine zw_iconst (v := (1 : Int32)) hX dX14_readRow_153 (by decide) ?_
    refine zw_iadd hX dX14_readRow_154 ?_
    obtain ⟨S21, g, h⟩ := zb_some h
    refine zw_putv hX zl_X14_172 zt_14_22 dX14_readRow_155 rfl rfl g ?_
    obtain rfl := Option.some.inj h
    exact zw_vret hX hr dX14_readRow_158 ⟨rfl, rfl⟩
set_option maxHeartbeats 4000000 in
set_option maxRecDepth 100000 in
theorem zt_X14_readRow_J64 {p : Program} {l : Launch} {e : Env} {R : Room} {s : State} {m : MethodId} {args : Array Value} {below : List Frame} {meth : Method} {c : Code} {V : zm_V} {mc ms d rc rs : Nat} (hX : zm_X p R s m args meth c RX14 "readRow" cX14_readRow 4 zk_E V mc ms) (hr : meth.sig.returnType = none) (hR : R.frames = d ∧ R.locals = 64 * d) (hd : 4 ≤ d) {N : Nat} {a0 : Nat} {i1 : Int32} {i2 : Int32} {t0 : Int32} {out : (Unit × zm_S)} {S : zm_S} (h : zf_X14_readRow_J64 N a0 i1 i2 t0 S = some out) : zw p l e R s m args below meth c (vx_MQ below (zm_Qc zk_E V (zo_v out)) (zm_XC zk_E V zo_x) args s mc ms (fun q => V.2.2.2.1 ≤ q)) 4 zk_E V mc ms 64 [(0, .ref a0), (1, .int i1), (2, .int i2)] [.int t0] S rc rs := by
  unfold zf_X14_readRow_J64 at h
  refine zw_istore_n hX dX14_readRow_64 (by decide) ?_
  refine zw_aload_n hX dX14_readRow_65 rfl ?_
  obtain ⟨v7, g, h⟩ := zb_some h
  refine zw_geti hX zl_X14_134 dX14_readRow_66 g ?_
  refine zw_if_ge (tgt := 98) hX dX14_readRow_69 (by decide) (fun c69 => ?_) (fun c69 => ?_)
  · rw [if_pos c69] at h
    refine zw_sub (lv' := [(0, .ref a0), (1, .int i1), (2, .int i2), (3, .int t0)]) (List.forall_mem_cons.mpr ⟨rfl, (List.forall_mem_cons.mpr ⟨rfl, (List.forall_mem_cons.mpr ⟨rfl, (List.forall_mem_cons.mpr ⟨rfl, zs_nil⟩)⟩)⟩)⟩) ?_
    exact zt_X14_readRow_J98 hX hr hR hd h
  · rw [if_neg c69] at h
    refine zw_aload_n hX dX14_readRow_72 rfl ?_
    refine zw_aload_n hX dX14_readRow_73 rfl ?_
    obtain ⟨b22, g, h⟩ := zb_some h
    refine zw_getr hX zl_X14_41 dX14_readRow_74 g ?_
    refine zw_bipush (v := (20 : Int32)) hX dX14_readRow_77 (by decide) ?_
    refine zw_iload_n hX dX14_readRow_79 rfl ?_
    refine zw_iadd hX dX14_readRow_80 ?_
    obtain ⟨v23, g, h⟩ := zb_some h
    refine zw_xz hX dX14_readRow_81 g ?_
    obtain ⟨_, gi, h⟩ := zb_some h
    obtain ⟨r25, g, h⟩ := zb_some h
    refine zc_Vi (as := [.int v23]) hX gi (zt_X14_want (d := d - 1) (by omega) g) zl_X14_141 rfl dX14_readRow_82 ⟨rfl, rfl, Nat.le_of_ble_eq_true rfl⟩ ⟨by omega, by omega⟩ ?_
    refine zw_if_eq (tgt := 98) hX dX14_readRow_85 (by decide) (fun c85 => ?_) (fun c85 => ?_)
    · rw [if_pos c85] at h
      refine zw_sub (lv' := [(0, .ref a0), (1, .int i1), (2, .int i2), (3, .int t0)]) (List.forall_mem_cons.mpr ⟨rfl, (List.forall_mem_cons.mpr ⟨rfl, (List.forall_mem_cons.mpr ⟨rfl, (List.forall_mem_cons.mpr ⟨rfl, zs_nil⟩)⟩)⟩)⟩) ?_
      exact zt_X14_readRow_J98 hX hr hR hd h
    · rw [if_neg c85] at h
      refine zw_aload_n hX dX14_readRow_88 rfl ?_
      refine zw_dup hX dX14_readRow_89 rfl ?_
      obtain ⟨v26, g, h⟩ := zb_some h
      refine zw_geti hX zl_X14_131 dX14_readRow_90 g ?_
      refine zw_iconst (v := (1 : Int32)) hX dX14_readRow_93 (by decide) ?_
      refine zw_iadd hX dX14_readRow_94 ?_
      obtain ⟨S27, g, h⟩ := zb_some h
      refine zw_putv hX zl_X14_131 zt_14_10 dX14_readRow_95 rfl rfl g ?_
      refine zw_sub (lv' := [(0, .ref a0), (1, .int i1), (2, .int i2), (3, .int t0)]) (List.forall_mem_cons.mpr ⟨rfl, (List.forall_mem_cons.mpr ⟨rfl, (List.forall_mem_cons.mpr ⟨rfl, (List.forall_mem_cons.mpr ⟨rfl, zs_nil⟩)⟩)⟩)⟩) ?_
      exact zt_X14_readRow_J98 hX hr hR hd h
set_option maxHeartbeats 4000000 in
set_option maxRecDepth 100000 in
theorem zt_X14_readRow_J40 {p : Program} {l : Launch} {e : Env} {R : Room} {s : State} {m : MethodId} {args : Array Value} {below : List Frame} {meth : Method} {c : Code} {V : zm_V} {mc ms d rc rs : Nat} (hX : zm_X p R s m args meth c RX14 "readRow" cX14_readRow 4 zk_E V mc ms) (hr : meth.sig.returnType = none) (hR : R.frames = d ∧ R.locals = 64 * d) (hd : 4 ≤ d) {N : Nat} {a0 : Nat} {i1 : Int32} {i2 : Int32} {out : (Unit × zm_S)} {S : zm_S} (h : zf_X14_readRow_J40 N a0 i1 i2 S = some out) : zw p l e R s m args below meth c (vx_MQ below (zm_Qc zk_E V (zo_v out)) (zm_XC zk_E V zo_x) args s mc ms (fun q => V.2.2.2.1 ≤ q)) 4 zk_E V mc ms 40 [(0, .ref a0), (1, .int i1), (2, .int i2)] [] S rc rs := by
  unfold zf_X14_readRow_J40 at h
  refine zw_aload_n hX dX14_readRow_40 rfl ?_
  refine zw_ldc (v := (628196 : Int32)) hX dX14_readRow_41 zl_X14_121 ?_
  obtain ⟨_, gi, h⟩ := zb_some h
  obtain ⟨r5, g, h⟩ := zb_some h
  refine zc_Vv (as := [.int (628196 : Int32)]) hX gi (zt_X14_take (d := d - 1) (by omega) g) zl_X14_153 rfl dX14_readRow_43 ⟨rfl, rfl, Nat.le_of_ble_eq_true rfl⟩ ⟨by omega, by omega⟩ ?_
  refine zw_aload_n hX dX14_readRow_46 rfl ?_
  obtain ⟨v6, g, h⟩ := zb_some h
  refine zw_geti hX zl_X14_134 dX14_readRow_47 g ?_
  refine zw_if_ge (tgt := 63) hX dX14_readRow_50 (by decide) (fun c50 => ?_) (fun c50 => ?_)
  · rw [if_pos c50] at h
    refine zw_iconst (v := (-1 : Int32)) hX dX14_readRow_63 (by decide) ?_
    refine zw_sub (lv' := [(0, .ref a0), (1, .int i1), (2, .int i2)]) (List.forall_mem_cons.mpr ⟨rfl, (List.forall_mem_cons.mpr ⟨rfl, (List.forall_mem_cons.mpr ⟨rfl, zs_nil⟩)⟩)⟩) ?_
    exact zt_X14_readRow_J64 hX hr hR hd h
  · rw [if_neg c50] at h
    refine zw_aload_n hX dX14_readRow_53 rfl ?_
    refine zw_iconst (v := (0 : Int32)) hX dX14_readRow_54 (by decide) ?_
    refine zw_bipush (v := (19 : Int32)) hX dX14_readRow_55 (by decide) ?_
    obtain ⟨_, gi, h⟩ := zb_some h
    obtain ⟨r29, g, h⟩ := zb_some h
    refine zc_Vi (as := [.int (0 : Int32), .int (19 : Int32)]) hX gi (zt_X14_look (d := d - 1) (by omega) g) zl_X14_149 rfl dX14_readRow_57 ⟨rfl, rfl, Nat.le_of_ble_eq_true rfl⟩ ⟨by omega, by omega⟩ ?_
    refine zw_goto (tgt := 64) hX dX14_readRow_60 (by decide) ?_
    refine zw_sub (lv' := [(0, .ref a0), (1, .int i1), (2, .int i2)]) (List.forall_mem_cons.mpr ⟨rfl, (List.forall_mem_cons.mpr ⟨rfl, (List.forall_mem_cons.mpr ⟨rfl, zs_nil⟩)⟩)⟩) ?_
    exact zt_X14_readRow_J64 hX hr hR hd h
set_option maxHeartbeats 4000000 in
set_option maxRecDepth 100000 in
theorem zt_X14_readRow {l : Launch} {V : zm_V} {N : Nat} {S : zm_S} {out : (Unit × zm_S)} {d : Nat} {a0 : Nat} (hd : 4 ≤ d) (h : zf_X14_readRow N a0 S = some out) : zm_Met l zk_E V yX14_readRow (.code yX14_readRow cX14_readRow 4 none) d [.ref a0] S 0 0 (zo_v out) zo_x := by
  refine zm_of (by decide +kernel) (Nat.le_of_ble_eq_true rfl) ?_
  intro p e R s m args below meth c hRR hX hr hxt
  have hR : R.frames = d ∧ R.locals = 64 * d := by rw [hRR]; exact ⟨rfl, rfl⟩
  have hX : zm_X p R s m args meth c RX14 "readRow" cX14_readRow 4 zk_E V 0 0 := hX
  unfold zf_X14_readRow at h
  refine zw_sub (lv' := [(0, .ref a0)]) (List.forall_mem_cons.mpr ⟨rfl, zs_nil⟩) ?_
  refine zw_aload_n hX dX14_readRow_0 rfl ?_
  refine zw_iconst (v := (-1 : Int32)) hX dX14_readRow_1 (by decide) ?_
  obtain ⟨_, gi, h⟩ := zb_some h
  obtain ⟨r2, g, h⟩ := zb_some h
  refine zc_Vi (as := [.int (-1 : Int32)]) hX gi (zt_X14_takeZone (d := d - 1) (by omega) g) zl_X14_169 rfl dX14_readRow_2 ⟨rfl, rfl, Nat.le_of_ble_eq_true rfl⟩ ⟨by omega, by omega⟩ ?_
  refine zw_istore_n hX dX14_readRow_5 (by decide) ?_
  refine zw_iconst (v := (-1 : Int32)) hX dX14_readRow_6 (by decide) ?_
  refine zw_istore_n hX dX14_readRow_7 (by decide) ?_
  refine zw_aload_n hX dX14_readRow_8 rfl ?_
  obtain ⟨v3, g, h⟩ := zb_some h
  refine zw_geti hX zl_X14_134 dX14_readRow_9 g ?_
  refine zw_if_ge (tgt := 40) hX dX14_readRow_12 (by decide) (fun c12 => ?_) (fun c12 => ?_)
  · rw [if_pos c12] at h
    refine zw_sub (lv' := [(0, .ref a0), (1, .int r2.1), (2, .int (-1 : Int32))]) (List.forall_mem_cons.mpr ⟨rfl, (List.forall_mem_cons.mpr ⟨rfl, (List.forall_mem_cons.mpr ⟨rfl, zs_nil⟩)⟩)⟩) ?_
    exact zt_X14_readRow_J40 hX hr hR hd h
  · rw [if_neg c12] at h
    refine zw_aload_n hX dX14_readRow_15 rfl ?_
    refine zw_bipush (v := (38 : Int32)) hX dX14_readRow_16 (by decide) ?_
    obtain ⟨_, gi, h⟩ := zb_some h
    obtain ⟨r31, g, h⟩ := zb_some h
    refine zc_Vi (as := [.int (38 : Int32)]) hX gi (zt_X14_isSign (d := d - 1) (by omega) g) zl_X14_145 rfl dX14_readRow_18 ⟨rfl, rfl, Nat.le_of_ble_eq_true rfl⟩ ⟨by omega, by omega⟩ ?_
    refine zw_if_eq (tgt := 40) hX dX14_readRow_21 (by decide) (fun c21 => ?_) (fun c21 => ?_)
    · rw [if_pos c21] at h
      refine zw_sub (lv' := [(0, .ref a0), (1, .int r2.1), (2, .int (-1 : Int32))]) (List.forall_mem_cons.mpr ⟨rfl, (List.forall_mem_cons.mpr ⟨rfl, (List.forall_mem_cons.mpr ⟨rfl, zs_nil⟩)⟩)⟩) ?_
      exact zt_X14_readRow_J40 hX hr hR hd h
    · rw [if_neg c21] at h
      refine zw_aload_n hX dX14_readRow_24 rfl ?_
      refine zw_dup hX dX14_readRow_25 rfl ?_
      obtain ⟨v32, g, h⟩ := zb_some h
      refine zw_geti hX zl_X14_131 dX14_readRow_26 g ?_
      refine zw_iconst (v := (1 : Int32)) hX dX14_readRow_29 (by decide) ?_
      refine zw_iadd hX dX14_readRow_30 ?_
      obtain ⟨S33, g, h⟩ := zb_some h
      refine zw_putv hX zl_X14_131 zt_14_10 dX14_readRow_31 rfl rfl g ?_
      refine zw_aload_n hX dX14_readRow_34 rfl ?_
      refine zw_iload_n hX dX14_readRow_35 rfl ?_
      obtain ⟨_, gi, h⟩ := zb_some h
      obtain ⟨r35, g, h⟩ := zb_some h
      refine zc_Vi (as := [.int r2.1]) hX gi (zt_X14_takeZone (d := d - 1) (by omega) g) zl_X14_169 rfl dX14_readRow_36 ⟨rfl, rfl, Nat.le_of_ble_eq_true rfl⟩ ⟨by omega, by omega⟩ ?_
      refine zw_istore_n hX dX14_readRow_39 (by decide) ?_
      refine zw_sub (lv' := [(0, .ref a0), (1, .int r2.1), (2, .int r35.1)]) (List.forall_mem_cons.mpr ⟨rfl, (List.forall_mem_cons.mpr ⟨rfl, (List.forall_mem_cons.mpr ⟨rfl, zs_nil⟩)⟩)⟩) ?_
      exact zt_X14_readRow_J40 hX hr hR hd h
set_option maxHeartbeats 4000000 in
set_option maxRecDepth 100000 in
theorem zt_X14_readHold_J61 {p : Program} {l : Launch} {e : Env} {R : Room} {s : State} {m : MethodId} {args : Array Value} {below : List Frame} {meth : Method} {c : Code} {V : zm_V} {mc ms d rc rs : Nat} (hX : zm_X p R s m args meth c RX14 "readHold" cX14_readHold 2 zk_E V mc ms) (hr : meth.sig.returnType = none) (hR : R.frames = d ∧ R.locals = 64 * d) (hd : 3 ≤ d) {N : Nat} {a0 : Nat} {i1 : Int32} {out : (Unit × zm_S)} {S : zm_S} (h : zf_X14_readHold_J61 N a0 i1 S = some out) : zw p l e R s m args below meth c (vx_MQ below (zm_Qc zk_E V (zo_v out)) (zm_XC zk_E V zo_x) args s mc ms (fun q => V.2.2.2.1 ≤ q)) 2 zk_E V mc ms 61 [(0, .ref a0), (1, .int i1)] [] S rc rs := by
  unfold zf_X14_readHold_J61 at h
  refine zw_aload_n hX dX14_readHold_61 rfl ?_
  obtain ⟨_, gi, h⟩ := zb_some h
  obtain ⟨r5, g, h⟩ := zb_some h
  refine zc_Vv (as := []) hX gi (zt_X14_takeStop (d := d - 1) (by omega) g) zl_X14_166 rfl dX14_readHold_62 ⟨rfl, rfl, Nat.le_of_ble_eq_true rfl⟩ ⟨by omega, by omega⟩ ?_
  refine zw_aload_n hX dX14_readHold_65 rfl ?_
  obtain ⟨v6, g, h⟩ := zb_some h
  refine zw_geti hX zl_X14_134 dX14_readHold_66 g ?_
  refine zw_if_ge (tgt := 82) hX dX14_readHold_69 (by decide) (fun c69 => ?_) (fun c69 => ?_)
  · rw [if_pos c69] at h
    obtain rfl := Option.some.inj h
    exact zw_vret hX hr dX14_readHold_82 ⟨rfl, rfl⟩
  · rw [if_neg c69] at h
    refine zw_aload_n hX dX14_readHold_72 rfl ?_
    obtain ⟨b7, g, h⟩ := zb_some h
    refine zw_getr hX zl_X14_53 dX14_readHold_73 g ?_
    refine zw_bipush (v := (20 : Int32)) hX dX14_readHold_76 (by decide) ?_
    refine zw_iload_n hX dX14_readHold_78 rfl ?_
    refine zw_iadd hX dX14_readHold_79 ?_
    refine zw_iconst (v := (1 : Int32)) hX dX14_readHold_80 (by decide) ?_
    obtain ⟨S8, g, h⟩ := zb_some h
    refine zw_sz hX dX14_readHold_81 g ?_
    obtain rfl := Option.some.inj h
    exact zw_vret hX hr dX14_readHold_82 ⟨rfl, rfl⟩
set_option maxHeartbeats 4000000 in
set_option maxRecDepth 100000 in
theorem zt_X14_readHold_J45 {p : Program} {l : Launch} {e : Env} {R : Room} {s : State} {m : MethodId} {args : Array Value} {below : List Frame} {meth : Method} {c : Code} {V : zm_V} {mc ms d rc rs : Nat} (hX : zm_X p R s m args meth c RX14 "readHold" cX14_readHold 2 zk_E V mc ms) (hr : meth.sig.returnType = none) (hR : R.frames = d ∧ R.locals = 64 * d) (hd : 3 ≤ d) {N : Nat} {a0 : Nat} {i1 : Int32} {t0 : Nat} {t1 : Int32} {out : (Unit × zm_S)} {S : zm_S} (h : zf_X14_readHold_J45 N a0 i1 t0 t1 S = some out) : zw p l e R s m args below meth c (vx_MQ below (zm_Qc zk_E V (zo_v out)) (zm_XC zk_E V zo_x) args s mc ms (fun q => V.2.2.2.1 ≤ q)) 2 zk_E V mc ms 45 [(0, .ref a0), (1, .int i1)] [.int t1, .ref t0] S rc rs := by
  unfold zf_X14_readHold_J45 at h
  obtain ⟨_, gi, h⟩ := zb_some h
  obtain ⟨r12, g, h⟩ := zb_some h
  refine zc_Vi (as := [.int t1]) hX gi (zt_X14_want (d := d - 1) (by omega) g) zl_X14_141 rfl dX14_readHold_45 ⟨rfl, rfl, Nat.le_of_ble_eq_true rfl⟩ ⟨by omega, by omega⟩ ?_
  refine zw_if_eq (tgt := 61) hX dX14_readHold_48 (by decide) (fun c48 => ?_) (fun c48 => ?_)
  · rw [if_pos c48] at h
    refine zw_sub (lv' := [(0, .ref a0), (1, .int i1)]) (List.forall_mem_cons.mpr ⟨rfl, (List.forall_mem_cons.mpr ⟨rfl, zs_nil⟩)⟩) ?_
    exact zt_X14_readHold_J61 hX hr hR hd h
  · rw [if_neg c48] at h
    refine zw_aload_n hX dX14_readHold_51 rfl ?_
    refine zw_dup hX dX14_readHold_52 rfl ?_
    obtain ⟨v13, g, h⟩ := zb_some h
    refine zw_geti hX zl_X14_131 dX14_readHold_53 g ?_
    refine zw_iconst (v := (1 : Int32)) hX dX14_readHold_56 (by decide) ?_
    refine zw_iadd hX dX14_readHold_57 ?_
    obtain ⟨S14, g, h⟩ := zb_some h
    refine zw_putv hX zl_X14_131 zt_14_10 dX14_readHold_58 rfl rfl g ?_
    refine zw_sub (lv' := [(0, .ref a0), (1, .int i1)]) (List.forall_mem_cons.mpr ⟨rfl, (List.forall_mem_cons.mpr ⟨rfl, zs_nil⟩)⟩) ?_
    exact zt_X14_readHold_J61 hX hr hR hd h
set_option maxHeartbeats 4000000 in
set_option maxRecDepth 100000 in
theorem zt_X14_readHold_J44 {p : Program} {l : Launch} {e : Env} {R : Room} {s : State} {m : MethodId} {args : Array Value} {below : List Frame} {meth : Method} {c : Code} {V : zm_V} {mc ms d rc rs : Nat} (hX : zm_X p R s m args meth c RX14 "readHold" cX14_readHold 2 zk_E V mc ms) (hr : meth.sig.returnType = none) (hR : R.frames = d ∧ R.locals = 64 * d) (hd : 3 ≤ d) {N : Nat} {a0 : Nat} {i1 : Int32} {t0 : Nat} {out : (Unit × zm_S)} {S : zm_S} (h : zf_X14_readHold_J44 N a0 i1 t0 S = some out) : zw p l e R s m args below meth c (vx_MQ below (zm_Qc zk_E V (zo_v out)) (zm_XC zk_E V zo_x) args s mc ms (fun q => V.2.2.2.1 ≤ q)) 2 zk_E V mc ms 44 [(0, .ref a0), (1, .int i1)] [.ref t0] S rc rs := by
  unfold zf_X14_readHold_J44 at h
  refine zw_iconst (v := (0 : Int32)) hX dX14_readHold_44 (by decide) ?_
  refine zw_sub (lv' := [(0, .ref a0), (1, .int i1)]) (List.forall_mem_cons.mpr ⟨rfl, (List.forall_mem_cons.mpr ⟨rfl, zs_nil⟩)⟩) ?_
  exact zt_X14_readHold_J45 hX hr hR hd h
set_option maxHeartbeats 4000000 in
set_option maxRecDepth 100000 in
theorem zt_X14_readHold {l : Launch} {V : zm_V} {N : Nat} {S : zm_S} {out : (Unit × zm_S)} {d : Nat} {a0 : Nat} (hd : 3 ≤ d) (h : zf_X14_readHold N a0 S = some out) : zm_Met l zk_E V yX14_readHold (.code yX14_readHold cX14_readHold 2 none) d [.ref a0] S 0 0 (zo_v out) zo_x := by
  refine zm_of (by decide +kernel) (Nat.le_of_ble_eq_true rfl) ?_
  intro p e R s m args below meth c hRR hX hr hxt
  have hR : R.frames = d ∧ R.locals = 64 * d := by rw [hRR]; exact ⟨rfl, rfl⟩
  have hX : zm_X p R s m args meth c RX14 "readHold" cX14_readHold 2 zk_E V 0 0 := hX
  unfold zf_X14_readHold at h
  refine zw_sub (lv' := [(0, .ref a0)]) (List.forall_mem_cons.mpr ⟨rfl, zs_nil⟩) ?_
  refine zw_aload_n hX dX14_readHold_0 rfl ?_
  refine zw_iconst (v := (0 : Int32)) hX dX14_readHold_1 (by decide) ?_
  refine zw_bipush (v := (19 : Int32)) hX dX14_readHold_2 (by decide) ?_
  obtain ⟨_, gi, h⟩ := zb_some h
  obtain ⟨r2, g, h⟩ := zb_some h
  refine zc_Vi (as := [.int (0 : Int32), .int (19 : Int32)]) hX gi (zt_X14_look (d := d - 1) (by omega) g) zl_X14_149 rfl dX14_readHold_4 ⟨rfl, rfl, Nat.le_of_ble_eq_true rfl⟩ ⟨by omega, by omega⟩ ?_
  refine zw_istore_n hX dX14_readHold_7 (by decide) ?_
  refine zw_aload_n hX dX14_readHold_8 rfl ?_
  obtain ⟨v3, g, h⟩ := zb_some h
  refine zw_geti hX zl_X14_134 dX14_readHold_9 g ?_
  refine zw_if_ge (tgt := 61) hX dX14_readHold_12 (by decide) (fun c12 => ?_) (fun c12 => ?_)
  · rw [if_pos c12] at h
    refine zw_sub (lv' := [(0, .ref a0), (1, .int r2.1)]) (List.forall_mem_cons.mpr ⟨rfl, (List.forall_mem_cons.mpr ⟨rfl, zs_nil⟩)⟩) ?_
    exact zt_X14_readHold_J61 hX hr hR hd h
  · rw [if_neg c12] at h
    refine zw_aload_n hX dX14_readHold_15 rfl ?_
    refine zw_aload_n hX dX14_readHold_16 rfl ?_
    obtain ⟨b9, g, h⟩ := zb_some h
    refine zw_getr hX zl_X14_41 dX14_readHold_17 g ?_
    refine zw_bipush (v := (20 : Int32)) hX dX14_readHold_20 (by decide) ?_
    refine zw_iload_n hX dX14_readHold_22 rfl ?_
    refine zw_iadd hX dX14_readHold_23 ?_
    obtain ⟨v10, g, h⟩ := zb_some h
    refine zw_xz hX dX14_readHold_24 g ?_
    refine zw_if_eq (tgt := 44) hX dX14_readHold_25 (by decide) (fun c25 => ?_) (fun c25 => ?_)
    · rw [if_pos c25] at h
      refine zw_sub (lv' := [(0, .ref a0), (1, .int r2.1)]) (List.forall_mem_cons.mpr ⟨rfl, (List.forall_mem_cons.mpr ⟨rfl, zs_nil⟩)⟩) ?_
      exact zt_X14_readHold_J44 hX hr hR hd h
    · rw [if_neg c25] at h
      refine zw_aload_n hX dX14_readHold_28 rfl ?_
      obtain ⟨b15, g, h⟩ := zb_some h
      refine zw_getr hX zl_X14_53 dX14_readHold_29 g ?_
      refine zw_bipush (v := (20 : Int32)) hX dX14_readHold_32 (by decide) ?_
      refine zw_iload_n hX dX14_readHold_34 rfl ?_
      refine zw_iadd hX dX14_readHold_35 ?_
      obtain ⟨v16, g, h⟩ := zb_some h
      refine zw_xz hX dX14_readHold_36 g ?_
      refine zw_if_ne (tgt := 44) hX dX14_readHold_37 (by decide) (fun c37 => ?_) (fun c37 => ?_)
      · rw [if_neg c37] at h
        refine zw_sub (lv' := [(0, .ref a0), (1, .int r2.1)]) (List.forall_mem_cons.mpr ⟨rfl, (List.forall_mem_cons.mpr ⟨rfl, zs_nil⟩)⟩) ?_
        exact zt_X14_readHold_J44 hX hr hR hd h
      · rw [if_pos c37] at h
        refine zw_iconst (v := (1 : Int32)) hX dX14_readHold_40 (by decide) ?_
        refine zw_goto (tgt := 45) hX dX14_readHold_41 (by decide) ?_
        refine zw_sub (lv' := [(0, .ref a0), (1, .int r2.1)]) (List.forall_mem_cons.mpr ⟨rfl, (List.forall_mem_cons.mpr ⟨rfl, zs_nil⟩)⟩) ?_
        exact zt_X14_readHold_J45 hX hr hR hd h
set_option maxHeartbeats 4000000 in
set_option maxRecDepth 100000 in
theorem zt_X14_readSentence_J73 {p : Program} {l : Launch} {e : Env} {R : Room} {s : State} {m : MethodId} {args : Array Value} {below : List Frame} {meth : Method} {c : Code} {V : zm_V} {mc ms d rc rs : Nat} (hX : zm_X p R s m args meth c RX14 "readSentence" cX14_readSentence 2 zk_E V mc ms) (hr : meth.sig.returnType = none) (hR : R.frames = d ∧ R.locals = 64 * d) (hd : 5 ≤ d) {N : Nat} {a0 : Nat} {t0 : Nat} {t1 : Int32} {out : (Unit × zm_S)} {S : zm_S} (h : zf_X14_readSentence_J73 N a0 t0 t1 S = some out) : zw p l e R s m args below meth c (vx_MQ below (zm_Qc zk_E V (zo_v out)) (zm_XC zk_E V zo_x) args s mc ms (fun q => V.2.2.2.1 ≤ q)) 2 zk_E V mc ms 73 [(0, .ref a0)] [.int t1, .ref t0] S rc rs := by
  unfold zf_X14_readSentence_J73 at h
  obtain ⟨_, gi, h⟩ := zb_some h
  obtain ⟨r10, g, h⟩ := zb_some h
  refine zc_Vi (as := [.int t1]) hX gi (zt_X14_want (d := d - 1) (by omega) g) zl_X14_141 rfl dX14_readSentence_73 ⟨rfl, rfl, Nat.le_of_ble_eq_true rfl⟩ ⟨by omega, by omega⟩ ?_
  refine zw_if_eq (tgt := 113) hX dX14_readSentence_76 (by decide) (fun c76 => ?_) (fun c76 => ?_)
  · rw [if_pos c76] at h
    obtain rfl := Option.some.inj h
    exact zw_vret hX hr dX14_readSentence_113 ⟨rfl, rfl⟩
  · rw [if_neg c76] at h
    refine zw_aload_n hX dX14_readSentence_79 rfl ?_
    refine zw_dup hX dX14_readSentence_80 rfl ?_
    obtain ⟨v11, g, h⟩ := zb_some h
    refine zw_geti hX zl_X14_131 dX14_readSentence_81 g ?_
    refine zw_iconst (v := (1 : Int32)) hX dX14_readSentence_84 (by decide) ?_
    refine zw_iadd hX dX14_readSentence_85 ?_
    obtain ⟨S12, g, h⟩ := zb_some h
    refine zw_putv hX zl_X14_131 zt_14_10 dX14_readSentence_86 rfl rfl g ?_
    refine zw_aload_n hX dX14_readSentence_89 rfl ?_
    obtain ⟨_, gi, h⟩ := zb_some h
    obtain ⟨r14, g, h⟩ := zb_some h
    refine zc_Vv (as := []) hX gi (zt_X14_readRow (d := d - 1) (by omega) g) zl_X14_181 rfl dX14_readSentence_90 ⟨rfl, rfl, Nat.le_of_ble_eq_true rfl⟩ ⟨by omega, by omega⟩ ?_
    refine zw_goto (tgt := 113) hX dX14_readSentence_93 (by decide) ?_
    obtain rfl := Option.some.inj h
    exact zw_vret hX hr dX14_readSentence_113 ⟨rfl, rfl⟩
set_option maxHeartbeats 4000000 in
set_option maxRecDepth 100000 in
theorem zt_X14_readSentence {l : Launch} {V : zm_V} {N : Nat} {S : zm_S} {out : (Unit × zm_S)} {d : Nat} {a0 : Nat} (hd : 5 ≤ d) (h : zf_X14_readSentence N a0 S = some out) : zm_Met l zk_E V yX14_readSentence (.code yX14_readSentence cX14_readSentence 2 none) d [.ref a0] S 0 0 (zo_v out) zo_x := by
  refine zm_of (by decide +kernel) (Nat.le_of_ble_eq_true rfl) ?_
  intro p e R s m args below meth c hRR hX hr hxt
  have hR : R.frames = d ∧ R.locals = 64 * d := by rw [hRR]; exact ⟨rfl, rfl⟩
  have hX : zm_X p R s m args meth c RX14 "readSentence" cX14_readSentence 2 zk_E V 0 0 := hX
  unfold zf_X14_readSentence at h
  refine zw_sub (lv' := [(0, .ref a0)]) (List.forall_mem_cons.mpr ⟨rfl, zs_nil⟩) ?_
  refine zw_aload_n hX dX14_readSentence_0 rfl ?_
  obtain ⟨_, gi, h⟩ := zb_some h
  obtain ⟨r2, g, h⟩ := zb_some h
  refine zc_Vi (as := []) hX gi (zt_X14_letters (d := d - 1) (by omega) g) zl_X14_137 rfl dX14_readSentence_1 ⟨rfl, rfl, Nat.le_of_ble_eq_true rfl⟩ ⟨by omega, by omega⟩ ?_
  refine zw_istore_n hX dX14_readSentence_4 (by decide) ?_
  refine zw_iload_n hX dX14_readSentence_5 rfl ?_
  refine zw_ldc (v := (178682 : Int32)) hX dX14_readSentence_6 zl_X14_108 ?_
  refine zw_icmp_ne (tgt := 28) hX dX14_readSentence_8 (by decide) (fun c8 => ?_) (fun c8 => ?_)
  · rw [if_neg c8] at h
    refine zw_iload_n hX dX14_readSentence_28 rfl ?_
    refine zw_sipush (v := (20577 : Int32)) hX dX14_readSentence_29 (by decide) ?_
    refine zw_icmp_ne (tgt := 52) hX dX14_readSentence_32 (by decide) (fun c32 => ?_) (fun c32 => ?_)
    · rw [if_neg c32] at h
      refine zw_iload_n hX dX14_readSentence_52 rfl ?_
      refine zw_ldc (v := (464151 : Int32)) hX dX14_readSentence_53 zl_X14_110 ?_
      refine zw_icmp_ne (tgt := 96) hX dX14_readSentence_55 (by decide) (fun c55 => ?_) (fun c55 => ?_)
      · rw [if_neg c55] at h
        refine zw_aload_n hX dX14_readSentence_96 rfl ?_
        refine zw_ldc (v := (143848 : Int32)) hX dX14_readSentence_97 zl_X14_109 ?_
        obtain ⟨_, gi, h⟩ := zb_some h
        obtain ⟨r4, g, h⟩ := zb_some h
        refine zc_Vv (as := [.int (143848 : Int32)]) hX gi (zt_X14_take (d := d - 1) (by omega) g) zl_X14_153 rfl dX14_readSentence_99 ⟨rfl, rfl, Nat.le_of_ble_eq_true rfl⟩ ⟨by omega, by omega⟩ ?_
        refine zw_aload_n hX dX14_readSentence_102 rfl ?_
        obtain ⟨v5, g, h⟩ := zb_some h
        refine zw_geti hX zl_X14_134 dX14_readSentence_103 g ?_
        refine zw_if_ge (tgt := 113) hX dX14_readSentence_106 (by decide) (fun c106 => ?_) (fun c106 => ?_)
        · rw [if_pos c106] at h
          obtain rfl := Option.some.inj h
          exact zw_vret hX hr dX14_readSentence_113 ⟨rfl, rfl⟩
        · rw [if_neg c106] at h
          refine zw_aload_n hX dX14_readSentence_109 rfl ?_
          obtain ⟨_, gi, h⟩ := zb_some h
          obtain ⟨r7, g, h⟩ := zb_some h
          refine zc_Vv (as := []) hX gi (zt_X14_readHold (d := d - 1) (by omega) g) zl_X14_184 rfl dX14_readSentence_110 ⟨rfl, rfl, Nat.le_of_ble_eq_true rfl⟩ ⟨by omega, by omega⟩ ?_
          obtain rfl := Option.some.inj h
          exact zw_vret hX hr dX14_readSentence_113 ⟨rfl, rfl⟩
      · rw [if_pos c55] at h
        refine zw_aload_n hX dX14_readSentence_58 rfl ?_
        refine zw_aload_n hX dX14_readSentence_59 rfl ?_
        obtain ⟨v8, g, h⟩ := zb_some h
        refine zw_geti hX zl_X14_172 dX14_readSentence_60 g ?_
        refine zw_bipush (v := (50 : Int32)) hX dX14_readSentence_63 (by decide) ?_
        refine zw_icmp_ge (tgt := 72) hX dX14_readSentence_65 (by decide) (fun c65 => ?_) (fun c65 => ?_)
        · rw [if_pos c65] at h
          refine zw_iconst (v := (0 : Int32)) hX dX14_readSentence_72 (by decide) ?_
          refine zw_sub (lv' := [(0, .ref a0)]) (List.forall_mem_cons.mpr ⟨rfl, zs_nil⟩) ?_
          exact zt_X14_readSentence_J73 hX hr hR hd h
        · rw [if_neg c65] at h
          refine zw_iconst (v := (1 : Int32)) hX dX14_readSentence_68 (by decide) ?_
          refine zw_goto (tgt := 73) hX dX14_readSentence_69 (by decide) ?_
          refine zw_sub (lv' := [(0, .ref a0)]) (List.forall_mem_cons.mpr ⟨rfl, zs_nil⟩) ?_
          exact zt_X14_readSentence_J73 hX hr hR hd h
    · rw [if_pos c32] at h
      refine zw_aload_n hX dX14_readSentence_35 rfl ?_
      refine zw_dup hX dX14_readSentence_36 rfl ?_
      obtain ⟨v15, g, h⟩ := zb_some h
      refine zw_geti hX zl_X14_131 dX14_readSentence_37 g ?_
      refine zw_iconst (v := (1 : Int32)) hX dX14_readSentence_40 (by decide) ?_
      refine zw_iadd hX dX14_readSentence_41 ?_
      obtain ⟨S16, g, h⟩ := zb_some h
      refine zw_putv hX zl_X14_131 zt_14_10 dX14_readSentence_42 rfl rfl g ?_
      refine zw_aload_n hX dX14_readSentence_45 rfl ?_
      obtain ⟨_, gi, h⟩ := zb_some h
      obtain ⟨r18, g, h⟩ := zb_some h
      refine zc_Vv (as := []) hX gi (zt_X14_readAct (d := d - 1) (by omega) g) zl_X14_178 rfl dX14_readSentence_46 ⟨rfl, rfl, Nat.le_of_ble_eq_true rfl⟩ ⟨by omega, by omega⟩ ?_
      refine zw_goto (tgt := 113) hX dX14_readSentence_49 (by decide) ?_
      obtain rfl := Option.some.inj h
      exact zw_vret hX hr dX14_readSentence_113 ⟨rfl, rfl⟩
  · rw [if_pos c8] at h
    refine zw_aload_n hX dX14_readSentence_11 rfl ?_
    refine zw_dup hX dX14_readSentence_12 rfl ?_
    obtain ⟨v19, g, h⟩ := zb_some h
    refine zw_geti hX zl_X14_131 dX14_readSentence_13 g ?_
    refine zw_iconst (v := (1 : Int32)) hX dX14_readSentence_16 (by decide) ?_
    refine zw_iadd hX dX14_readSentence_17 ?_
    obtain ⟨S20, g, h⟩ := zb_some h
    refine zw_putv hX zl_X14_131 zt_14_10 dX14_readSentence_18 rfl rfl g ?_
    refine zw_aload_n hX dX14_readSentence_21 rfl ?_
    obtain ⟨_, gi, h⟩ := zb_some h
    obtain ⟨r22, g, h⟩ := zb_some h
    refine zc_Vv (as := []) hX gi (zt_X14_readZone (d := d - 1) (by omega) g) zl_X14_175 rfl dX14_readSentence_22 ⟨rfl, rfl, Nat.le_of_ble_eq_true rfl⟩ ⟨by omega, by omega⟩ ?_
    refine zw_goto (tgt := 113) hX dX14_readSentence_25 (by decide) ?_
    obtain rfl := Option.some.inj h
    exact zw_vret hX hr dX14_readSentence_113 ⟨rfl, rfl⟩
set_option maxHeartbeats 4000000 in
set_option maxRecDepth 100000 in
theorem zt_X14_rests {l : Launch} {V : zm_V} {N : Nat} {S : zm_S} {out : (Unit × zm_S)} {d : Nat} {a0 : Nat} {i1 : Int32} (hd : 1 ≤ d) (h : zf_X14_rests N a0 i1 S = some out) : zm_Met l zk_E V yX14_rests (.code yX14_rests cX14_rests 2 none) d [.ref a0, .int i1] S 0 0 (zo_v out) zo_x := by
  refine zm_of (by decide +kernel) (Nat.le_of_ble_eq_true rfl) ?_
  intro p e R s m args below meth c hRR hX hr hxt
  have hR : R.frames = d ∧ R.locals = 64 * d := by rw [hRR]; exact ⟨rfl, rfl⟩
  have hX : zm_X p R s m args meth c RX14 "rests" cX14_rests 2 zk_E V 0 0 := hX
  unfold zf_X14_rests at h
  refine zw_sub (lv' := [(0, .ref a0), (1, .int i1)]) (List.forall_mem_cons.mpr ⟨rfl, (List.forall_mem_cons.mpr ⟨rfl, zs_nil⟩)⟩) ?_
  refine zw_aload_n hX dX14_rests_0 rfl ?_
  obtain ⟨b1, g, h⟩ := zb_some h
  refine zw_getr hX zl_X14_65 dX14_rests_1 g ?_
  refine zw_iload_n hX dX14_rests_4 rfl ?_
  refine zw_iconst (v := (0 : Int32)) hX dX14_rests_5 (by decide) ?_
  obtain ⟨S2, g, h⟩ := zb_some h
  refine zw_si hX dX14_rests_6 g ?_
  refine zw_aload_n hX dX14_rests_7 rfl ?_
  obtain ⟨b3, g, h⟩ := zb_some h
  refine zw_getr hX zl_X14_68 dX14_rests_8 g ?_
  refine zw_iload_n hX dX14_rests_11 rfl ?_
  refine zw_iconst (v := (-1 : Int32)) hX dX14_rests_12 (by decide) ?_
  obtain ⟨S4, g, h⟩ := zb_some h
  refine zw_si hX dX14_rests_13 g ?_
  refine zw_aload_n hX dX14_rests_14 rfl ?_
  obtain ⟨b5, g, h⟩ := zb_some h
  refine zw_getr hX zl_X14_71 dX14_rests_15 g ?_
  refine zw_iload_n hX dX14_rests_18 rfl ?_
  refine zw_iconst (v := (0 : Int32)) hX dX14_rests_19 (by decide) ?_
  obtain ⟨S6, g, h⟩ := zb_some h
  refine zw_sz hX dX14_rests_20 g ?_
  refine zw_aload_n hX dX14_rests_21 rfl ?_
  obtain ⟨b7, g, h⟩ := zb_some h
  refine zw_getr hX zl_X14_74 dX14_rests_22 g ?_
  refine zw_iload_n hX dX14_rests_25 rfl ?_
  refine zw_iconst (v := (0 : Int32)) hX dX14_rests_26 (by decide) ?_
  obtain ⟨S8, g, h⟩ := zb_some h
  refine zw_sz hX dX14_rests_27 g ?_
  obtain rfl := Option.some.inj h
  exact zw_vret hX hr dX14_rests_28 ⟨rfl, rfl⟩
set_option maxHeartbeats 4000000 in
set_option maxRecDepth 100000 in
theorem zt_X14_adopt_L55 {p : Program} {l : Launch} {e : Env} {R : Room} {s : State} {m : MethodId} {args : Array Value} {below : List Frame} {meth : Method} {c : Code} {V : zm_V} {mc ms d rc rs : Nat} (hX : zm_X p R s m args meth c RX14 "adopt" cX14_adopt 3 zk_E V mc ms) (hr : meth.sig.returnType = none) (hR : R.frames = d ∧ R.locals = 64 * d) (hd : 2 ≤ d) {N : Nat} {res : (Unit × zm_S) ⊕ ((Unit) × zm_S)} {out : (Unit × zm_S)} (a0 : Nat) (i1 : Int32) (hf : ∀ o, res = .inl o → o = out) (hk : ∀ (S' : zm_S), res = .inr ((), S') → zw p l e R s m args below meth c (vx_MQ below (zm_Qc zk_E V (zo_v out)) (zm_XC zk_E V zo_x) args s mc ms (fun q => V.2.2.2.1 ≤ q)) 3 zk_E V mc ms 93 [(0, .ref a0), (1, .int i1)] [] S' rc rs) : ∀ (n : Nat) (i2 : Int32) (S : zm_S), zf_X14_adopt_L55 N n a0 i1 i2 S = some res → zw p l e R s m args below meth c (vx_MQ below (zm_Qc zk_E V (zo_v out)) (zm_XC zk_E V zo_x) args s mc ms (fun q => V.2.2.2.1 ≤ q)) 3 zk_E V mc ms 55 [(0, .ref a0), (1, .int i1), (2, .int i2)] [] S rc rs := by
  intro n
  induction n with
  | zero => intro i2 S h; cases h
  | succ n ih =>
    intro i2 S h
    rw [zf_X14_adopt_L55] at h
    refine zw_iload_n hX dX14_adopt_55 rfl ?_
    refine zw_bipush (v := (12 : Int32)) hX dX14_adopt_56 (by decide) ?_
    refine zw_icmp_ge (tgt := 93) hX dX14_adopt_58 (by decide) (fun c58 => ?_) (fun c58 => ?_)
    · rw [if_pos c58] at h
      refine zw_sub (lv' := [(0, .ref a0), (1, .int i1)]) (List.forall_mem_cons.mpr ⟨rfl, (List.forall_mem_cons.mpr ⟨rfl, zs_nil⟩)⟩) ?_
      exact hk  _ (Option.some.inj h).symm
    · rw [if_neg c58] at h
      refine zw_aload_n hX dX14_adopt_61 rfl ?_
      obtain ⟨b13, g, h⟩ := zb_some h
      refine zw_getr hX zl_X14_38 dX14_adopt_62 g ?_
      refine zw_bipush (v := (12 : Int32)) hX dX14_adopt_65 (by decide) ?_
      refine zw_iload_n hX dX14_adopt_67 rfl ?_
      refine zw_imul hX dX14_adopt_68 ?_
      refine zw_iload_n hX dX14_adopt_69 rfl ?_
      refine zw_iadd hX dX14_adopt_70 ?_
      refine zw_aload_n hX dX14_adopt_71 rfl ?_
      obtain ⟨b14, g, h⟩ := zb_some h
      refine zw_getr hX zl_X14_38 dX14_adopt_72 g ?_
      refine zw_sipush (v := (240 : Int32)) hX dX14_adopt_75 (by decide) ?_
      refine zw_bipush (v := (12 : Int32)) hX dX14_adopt_78 (by decide) ?_
      refine zw_iload_n hX dX14_adopt_80 rfl ?_
      refine zw_imul hX dX14_adopt_81 ?_
      refine zw_iadd hX dX14_adopt_82 ?_
      refine zw_iload_n hX dX14_adopt_83 rfl ?_
      refine zw_iadd hX dX14_adopt_84 ?_
      obtain ⟨v15, g, h⟩ := zb_some h
      refine zw_xi hX dX14_adopt_85 g ?_
      obtain ⟨S16, g, h⟩ := zb_some h
      refine zw_si hX dX14_adopt_86 g ?_
      refine zw_iinc (v := (i2 + (1 : Int32))) hX dX14_adopt_87 rfl rfl (by decide) ?_
      refine zw_goto (tgt := 55) hX dX14_adopt_90 (by decide) ?_
      refine zw_sub (lv' := [(0, .ref a0), (1, .int i1), (2, .int (i2 + (1 : Int32)))]) (List.forall_mem_cons.mpr ⟨rfl, (List.forall_mem_cons.mpr ⟨rfl, (List.forall_mem_cons.mpr ⟨rfl, zs_nil⟩)⟩)⟩) ?_
      exact ih _ _ h
set_option maxHeartbeats 4000000 in
set_option maxRecDepth 100000 in
theorem zt_X14_adopt_L2 {p : Program} {l : Launch} {e : Env} {R : Room} {s : State} {m : MethodId} {args : Array Value} {below : List Frame} {meth : Method} {c : Code} {V : zm_V} {mc ms d rc rs : Nat} (hX : zm_X p R s m args meth c RX14 "adopt" cX14_adopt 3 zk_E V mc ms) (hr : meth.sig.returnType = none) (hR : R.frames = d ∧ R.locals = 64 * d) (hd : 2 ≤ d) {N : Nat} {res : (Unit × zm_S) ⊕ ((Unit) × zm_S)} {out : (Unit × zm_S)} (a0 : Nat) (hf : ∀ o, res = .inl o → o = out) (hk : ∀ (S' : zm_S), res = .inr ((), S') → zw p l e R s m args below meth c (vx_MQ below (zm_Qc zk_E V (zo_v out)) (zm_XC zk_E V zo_x) args s mc ms (fun q => V.2.2.2.1 ≤ q)) 3 zk_E V mc ms 179 [(0, .ref a0)] [] S' rc rs) : ∀ (n : Nat) (i1 : Int32) (S : zm_S), zf_X14_adopt_L2 N n a0 i1 S = some res → zw p l e R s m args below meth c (vx_MQ below (zm_Qc zk_E V (zo_v out)) (zm_XC zk_E V zo_x) args s mc ms (fun q => V.2.2.2.1 ≤ q)) 3 zk_E V mc ms 2 [(0, .ref a0), (1, .int i1)] [] S rc rs := by
  intro n
  induction n with
  | zero => intro i1 S h; cases h
  | succ n ih =>
    intro i1 S h
    rw [zf_X14_adopt_L2] at h
    refine zw_iload_n hX dX14_adopt_2 rfl ?_
    refine zw_bipush (v := (20 : Int32)) hX dX14_adopt_3 (by decide) ?_
    refine zw_icmp_ge (tgt := 179) hX dX14_adopt_5 (by decide) (fun c5 => ?_) (fun c5 => ?_)
    · rw [if_pos c5] at h
      refine zw_sub (lv' := [(0, .ref a0)]) (List.forall_mem_cons.mpr ⟨rfl, zs_nil⟩) ?_
      exact hk  _ (Option.some.inj h).symm
    · rw [if_neg c5] at h
      refine zw_aload_n hX dX14_adopt_8 rfl ?_
      obtain ⟨b1, g, h⟩ := zb_some h
      refine zw_getr hX zl_X14_29 dX14_adopt_9 g ?_
      refine zw_iload_n hX dX14_adopt_12 rfl ?_
      refine zw_aload_n hX dX14_adopt_13 rfl ?_
      obtain ⟨b2, g, h⟩ := zb_some h
      refine zw_getr hX zl_X14_29 dX14_adopt_14 g ?_
      refine zw_bipush (v := (20 : Int32)) hX dX14_adopt_17 (by decide) ?_
      refine zw_iload_n hX dX14_adopt_19 rfl ?_
      refine zw_iadd hX dX14_adopt_20 ?_
      obtain ⟨v3, g, h⟩ := zb_some h
      refine zw_xz hX dX14_adopt_21 g ?_
      obtain ⟨S4, g, h⟩ := zb_some h
      refine zw_sz hX dX14_adopt_22 g ?_
      refine zw_aload_n hX dX14_adopt_23 rfl ?_
      obtain ⟨b5, g, h⟩ := zb_some h
      refine zw_getr hX zl_X14_32 dX14_adopt_24 g ?_
      refine zw_iload_n hX dX14_adopt_27 rfl ?_
      refine zw_aload_n hX dX14_adopt_28 rfl ?_
      obtain ⟨b6, g, h⟩ := zb_some h
      refine zw_getr hX zl_X14_32 dX14_adopt_29 g ?_
      refine zw_bipush (v := (20 : Int32)) hX dX14_adopt_32 (by decide) ?_
      refine zw_iload_n hX dX14_adopt_34 rfl ?_
      refine zw_iadd hX dX14_adopt_35 ?_
      obtain ⟨v7, g, h⟩ := zb_some h
      refine zw_xi hX dX14_adopt_36 g ?_
      obtain ⟨S8, g, h⟩ := zb_some h
      refine zw_si hX dX14_adopt_37 g ?_
      refine zw_aload_n hX dX14_adopt_38 rfl ?_
      obtain ⟨b9, g, h⟩ := zb_some h
      refine zw_getr hX zl_X14_35 dX14_adopt_39 g ?_
      refine zw_iload_n hX dX14_adopt_42 rfl ?_
      refine zw_aload_n hX dX14_adopt_43 rfl ?_
      obtain ⟨b10, g, h⟩ := zb_some h
      refine zw_getr hX zl_X14_35 dX14_adopt_44 g ?_
      refine zw_bipush (v := (20 : Int32)) hX dX14_adopt_47 (by decide) ?_
      refine zw_iload_n hX dX14_adopt_49 rfl ?_
      refine zw_iadd hX dX14_adopt_50 ?_
      obtain ⟨v11, g, h⟩ := zb_some h
      refine zw_xi hX dX14_adopt_51 g ?_
      obtain ⟨S12, g, h⟩ := zb_some h
      refine zw_si hX dX14_adopt_52 g ?_
      refine zw_iconst (v := (0 : Int32)) hX dX14_adopt_53 (by decide) ?_
      refine zw_istore_n hX dX14_adopt_54 (by decide) ?_
      obtain ⟨r, g, h⟩ := zb_some h
      refine zw_sub (lv' := [(0, .ref a0), (1, .int i1), (2, .int (0 : Int32))]) (List.forall_mem_cons.mpr ⟨rfl, (List.forall_mem_cons.mpr ⟨rfl, (List.forall_mem_cons.mpr ⟨rfl, zs_nil⟩)⟩)⟩) ?_
      refine zt_X14_adopt_L55 hX hr hR hd (res := r) (out := out) a0 i1 ?_ ?_ N _ _ g
      · intro o ho
        subst ho
        exact hf _ (Option.some.inj h).symm
      · intro  S17 hx
        subst hx
        try dsimp only at h
        refine zw_aload_n hX dX14_adopt_93 rfl ?_
        obtain ⟨b18, g, h⟩ := zb_some h
        refine zw_getr hX zl_X14_41 dX14_adopt_94 g ?_
        refine zw_iload_n hX dX14_adopt_97 rfl ?_
        refine zw_aload_n hX dX14_adopt_98 rfl ?_
        obtain ⟨b19, g, h⟩ := zb_some h
        refine zw_getr hX zl_X14_41 dX14_adopt_99 g ?_
        refine zw_bipush (v := (20 : Int32)) hX dX14_adopt_102 (by decide) ?_
        refine zw_iload_n hX dX14_adopt_104 rfl ?_
        refine zw_iadd hX dX14_adopt_105 ?_
        obtain ⟨v20, g, h⟩ := zb_some h
        refine zw_xz hX dX14_adopt_106 g ?_
        obtain ⟨S21, g, h⟩ := zb_some h
        refine zw_sz hX dX14_adopt_107 g ?_
        refine zw_aload_n hX dX14_adopt_108 rfl ?_
        obtain ⟨b22, g, h⟩ := zb_some h
        refine zw_getr hX zl_X14_44 dX14_adopt_109 g ?_
        refine zw_iload_n hX dX14_adopt_112 rfl ?_
        refine zw_aload_n hX dX14_adopt_113 rfl ?_
        obtain ⟨b23, g, h⟩ := zb_some h
        refine zw_getr hX zl_X14_44 dX14_adopt_114 g ?_
        refine zw_bipush (v := (20 : Int32)) hX dX14_adopt_117 (by decide) ?_
        refine zw_iload_n hX dX14_adopt_119 rfl ?_
        refine zw_iadd hX dX14_adopt_120 ?_
        obtain ⟨v24, g, h⟩ := zb_some h
        refine zw_xi hX dX14_adopt_121 g ?_
        obtain ⟨S25, g, h⟩ := zb_some h
        refine zw_si hX dX14_adopt_122 g ?_
        refine zw_aload_n hX dX14_adopt_123 rfl ?_
        obtain ⟨b26, g, h⟩ := zb_some h
        refine zw_getr hX zl_X14_47 dX14_adopt_124 g ?_
        refine zw_iload_n hX dX14_adopt_127 rfl ?_
        refine zw_aload_n hX dX14_adopt_128 rfl ?_
        obtain ⟨b27, g, h⟩ := zb_some h
        refine zw_getr hX zl_X14_47 dX14_adopt_129 g ?_
        refine zw_bipush (v := (20 : Int32)) hX dX14_adopt_132 (by decide) ?_
        refine zw_iload_n hX dX14_adopt_134 rfl ?_
        refine zw_iadd hX dX14_adopt_135 ?_
        obtain ⟨v28, g, h⟩ := zb_some h
        refine zw_xi hX dX14_adopt_136 g ?_
        obtain ⟨S29, g, h⟩ := zb_some h
        refine zw_si hX dX14_adopt_137 g ?_
        refine zw_aload_n hX dX14_adopt_138 rfl ?_
        obtain ⟨b30, g, h⟩ := zb_some h
        refine zw_getr hX zl_X14_50 dX14_adopt_139 g ?_
        refine zw_iload_n hX dX14_adopt_142 rfl ?_
        refine zw_aload_n hX dX14_adopt_143 rfl ?_
        obtain ⟨b31, g, h⟩ := zb_some h
        refine zw_getr hX zl_X14_50 dX14_adopt_144 g ?_
        refine zw_bipush (v := (20 : Int32)) hX dX14_adopt_147 (by decide) ?_
        refine zw_iload_n hX dX14_adopt_149 rfl ?_
        refine zw_iadd hX dX14_adopt_150 ?_
        obtain ⟨v32, g, h⟩ := zb_some h
        refine zw_xi hX dX14_adopt_151 g ?_
        obtain ⟨S33, g, h⟩ := zb_some h
        refine zw_si hX dX14_adopt_152 g ?_
        refine zw_aload_n hX dX14_adopt_153 rfl ?_
        obtain ⟨b34, g, h⟩ := zb_some h
        refine zw_getr hX zl_X14_53 dX14_adopt_154 g ?_
        refine zw_iload_n hX dX14_adopt_157 rfl ?_
        refine zw_aload_n hX dX14_adopt_158 rfl ?_
        obtain ⟨b35, g, h⟩ := zb_some h
        refine zw_getr hX zl_X14_53 dX14_adopt_159 g ?_
        refine zw_bipush (v := (20 : Int32)) hX dX14_adopt_162 (by decide) ?_
        refine zw_iload_n hX dX14_adopt_164 rfl ?_
        refine zw_iadd hX dX14_adopt_165 ?_
        obtain ⟨v36, g, h⟩ := zb_some h
        refine zw_xz hX dX14_adopt_166 g ?_
        obtain ⟨S37, g, h⟩ := zb_some h
        refine zw_sz hX dX14_adopt_167 g ?_
        refine zw_aload_n hX dX14_adopt_168 rfl ?_
        refine zw_iload_n hX dX14_adopt_169 rfl ?_
        obtain ⟨_, gi, h⟩ := zb_some h
        obtain ⟨r39, g, h⟩ := zb_some h
        refine zc_Vv (as := [.int i1]) hX gi (zt_X14_rests (d := d - 1) (by omega) g) zl_X14_199 rfl dX14_adopt_170 ⟨rfl, rfl, Nat.le_of_ble_eq_true rfl⟩ ⟨by omega, by omega⟩ ?_
        refine zw_iinc (v := (i1 + (1 : Int32))) hX dX14_adopt_173 rfl rfl (by decide) ?_
        refine zw_goto (tgt := 2) hX dX14_adopt_176 (by decide) ?_
        refine zw_sub (lv' := [(0, .ref a0), (1, .int (i1 + (1 : Int32)))]) (List.forall_mem_cons.mpr ⟨rfl, (List.forall_mem_cons.mpr ⟨rfl, zs_nil⟩)⟩) ?_
        exact ih _ _ h
set_option maxHeartbeats 4000000 in
set_option maxRecDepth 100000 in
theorem zt_X14_adopt_L189 {p : Program} {l : Launch} {e : Env} {R : Room} {s : State} {m : MethodId} {args : Array Value} {below : List Frame} {meth : Method} {c : Code} {V : zm_V} {mc ms d rc rs : Nat} (hX : zm_X p R s m args meth c RX14 "adopt" cX14_adopt 3 zk_E V mc ms) (hr : meth.sig.returnType = none) (hR : R.frames = d ∧ R.locals = 64 * d) (hd : 2 ≤ d) {N : Nat} {res : (Unit × zm_S) ⊕ ((Unit) × zm_S)} {out : (Unit × zm_S)} (a0 : Nat) (hf : ∀ o, res = .inl o → o = out) (hk : ∀ (S' : zm_S), res = .inr ((), S') → zw p l e R s m args below meth c (vx_MQ below (zm_Qc zk_E V (zo_v out)) (zm_XC zk_E V zo_x) args s mc ms (fun q => V.2.2.2.1 ≤ q)) 3 zk_E V mc ms 248 [] [] S' rc rs) : ∀ (n : Nat) (i1 : Int32) (S : zm_S), zf_X14_adopt_L189 N n a0 i1 S = some res → zw p l e R s m args below meth c (vx_MQ below (zm_Qc zk_E V (zo_v out)) (zm_XC zk_E V zo_x) args s mc ms (fun q => V.2.2.2.1 ≤ q)) 3 zk_E V mc ms 189 [(0, .ref a0), (1, .int i1)] [] S rc rs := by
  intro n
  induction n with
  | zero => intro i1 S h; cases h
  | succ n ih =>
    intro i1 S h
    rw [zf_X14_adopt_L189] at h
    refine zw_iload_n hX dX14_adopt_189 rfl ?_
    refine zw_aload_n hX dX14_adopt_190 rfl ?_
    obtain ⟨v43, g, h⟩ := zb_some h
    refine zw_geti hX zl_X14_196 dX14_adopt_191 g ?_
    refine zw_icmp_ge (tgt := 248) hX dX14_adopt_194 (by decide) (fun c194 => ?_) (fun c194 => ?_)
    · rw [if_pos c194] at h
      refine zw_sub (lv' := []) zs_nil ?_
      exact hk  _ (Option.some.inj h).symm
    · rw [if_neg c194] at h
      refine zw_aload_n hX dX14_adopt_197 rfl ?_
      obtain ⟨b44, g, h⟩ := zb_some h
      refine zw_getr hX zl_X14_56 dX14_adopt_198 g ?_
      refine zw_iload_n hX dX14_adopt_201 rfl ?_
      refine zw_aload_n hX dX14_adopt_202 rfl ?_
      obtain ⟨b45, g, h⟩ := zb_some h
      refine zw_getr hX zl_X14_56 dX14_adopt_203 g ?_
      refine zw_bipush (v := (50 : Int32)) hX dX14_adopt_206 (by decide) ?_
      refine zw_iload_n hX dX14_adopt_208 rfl ?_
      refine zw_iadd hX dX14_adopt_209 ?_
      obtain ⟨v46, g, h⟩ := zb_some h
      refine zw_xi hX dX14_adopt_210 g ?_
      obtain ⟨S47, g, h⟩ := zb_some h
      refine zw_si hX dX14_adopt_211 g ?_
      refine zw_aload_n hX dX14_adopt_212 rfl ?_
      obtain ⟨b48, g, h⟩ := zb_some h
      refine zw_getr hX zl_X14_59 dX14_adopt_213 g ?_
      refine zw_iload_n hX dX14_adopt_216 rfl ?_
      refine zw_aload_n hX dX14_adopt_217 rfl ?_
      obtain ⟨b49, g, h⟩ := zb_some h
      refine zw_getr hX zl_X14_59 dX14_adopt_218 g ?_
      refine zw_bipush (v := (50 : Int32)) hX dX14_adopt_221 (by decide) ?_
      refine zw_iload_n hX dX14_adopt_223 rfl ?_
      refine zw_iadd hX dX14_adopt_224 ?_
      obtain ⟨v50, g, h⟩ := zb_some h
      refine zw_xi hX dX14_adopt_225 g ?_
      obtain ⟨S51, g, h⟩ := zb_some h
      refine zw_si hX dX14_adopt_226 g ?_
      refine zw_aload_n hX dX14_adopt_227 rfl ?_
      obtain ⟨b52, g, h⟩ := zb_some h
      refine zw_getr hX zl_X14_62 dX14_adopt_228 g ?_
      refine zw_iload_n hX dX14_adopt_231 rfl ?_
      refine zw_aload_n hX dX14_adopt_232 rfl ?_
      obtain ⟨b53, g, h⟩ := zb_some h
      refine zw_getr hX zl_X14_62 dX14_adopt_233 g ?_
      refine zw_bipush (v := (50 : Int32)) hX dX14_adopt_236 (by decide) ?_
      refine zw_iload_n hX dX14_adopt_238 rfl ?_
      refine zw_iadd hX dX14_adopt_239 ?_
      obtain ⟨v54, g, h⟩ := zb_some h
      refine zw_xi hX dX14_adopt_240 g ?_
      obtain ⟨S55, g, h⟩ := zb_some h
      refine zw_si hX dX14_adopt_241 g ?_
      refine zw_iinc (v := (i1 + (1 : Int32))) hX dX14_adopt_242 rfl rfl (by decide) ?_
      refine zw_goto (tgt := 189) hX dX14_adopt_245 (by decide) ?_
      refine zw_sub (lv' := [(0, .ref a0), (1, .int (i1 + (1 : Int32)))]) (List.forall_mem_cons.mpr ⟨rfl, (List.forall_mem_cons.mpr ⟨rfl, zs_nil⟩)⟩) ?_
      exact ih _ _ h
set_option maxHeartbeats 4000000 in
set_option maxRecDepth 100000 in
theorem zt_X14_adopt {l : Launch} {V : zm_V} {N : Nat} {S : zm_S} {out : (Unit × zm_S)} {d : Nat} {a0 : Nat} (hd : 2 ≤ d) (h : zf_X14_adopt N a0 S = some out) : zm_Met l zk_E V yX14_adopt (.code yX14_adopt cX14_adopt 3 none) d [.ref a0] S 0 0 (zo_v out) zo_x := by
  refine zm_of (by decide +kernel) (Nat.le_of_ble_eq_true rfl) ?_
  intro p e R s m args below meth c hRR hX hr hxt
  have hR : R.frames = d ∧ R.locals = 64 * d := by rw [hRR]; exact ⟨rfl, rfl⟩
  have hX : zm_X p R s m args meth c RX14 "adopt" cX14_adopt 3 zk_E V 0 0 := hX
  unfold zf_X14_adopt at h
  refine zw_sub (lv' := [(0, .ref a0)]) (List.forall_mem_cons.mpr ⟨rfl, zs_nil⟩) ?_
  refine zw_iconst (v := (0 : Int32)) hX dX14_adopt_0 (by decide) ?_
  refine zw_istore_n hX dX14_adopt_1 (by decide) ?_
  obtain ⟨r, g, h⟩ := zb_some h
  refine zw_sub (lv' := [(0, .ref a0), (1, .int (0 : Int32))]) (List.forall_mem_cons.mpr ⟨rfl, (List.forall_mem_cons.mpr ⟨rfl, zs_nil⟩)⟩) ?_
  refine zt_X14_adopt_L2 hX hr hR hd (res := r) (out := out) a0 ?_ ?_ N _ _ g
  · intro o ho
    subst ho
    exact Option.some.inj h
  · intro  S40 hx
    subst hx
    try dsimp only at h
    refine zw_aload_n hX dX14_adopt_179 rfl ?_
    refine zw_aload_n hX dX14_adopt_180 rfl ?_
    obtain ⟨v41, g, h⟩ := zb_some h
    refine zw_geti hX zl_X14_172 dX14_adopt_181 g ?_
    obtain ⟨S42, g, h⟩ := zb_some h
    refine zw_putv hX zl_X14_196 zt_14_21 dX14_adopt_184 rfl rfl g ?_
    refine zw_iconst (v := (0 : Int32)) hX dX14_adopt_187 (by decide) ?_
    refine zw_istore_n hX dX14_adopt_188 (by decide) ?_
    obtain ⟨r, g, h⟩ := zb_some h
    refine zw_sub (lv' := [(0, .ref a0), (1, .int (0 : Int32))]) (List.forall_mem_cons.mpr ⟨rfl, (List.forall_mem_cons.mpr ⟨rfl, zs_nil⟩)⟩) ?_
    refine zt_X14_adopt_L189 hX hr hR hd (res := r) (out := out) a0 ?_ ?_ N _ _ g
    · intro o ho
      subst ho
      exact Option.some.inj h
    · intro  S56 hx
      subst hx
      try dsimp only at h
      obtain rfl := Option.some.inj h
      exact zw_vret hX hr dX14_adopt_248 ⟨rfl, rfl⟩

