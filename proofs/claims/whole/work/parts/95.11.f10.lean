/-! ===== functions of methods, by program (wip/whole/tools/gen11.py) ===== -/
theorem dX10_step_0 : decode cX10_step 0 = .ok (.aload_n 0, 1) := by decide +kernel
theorem dX10_step_1 : decode cX10_step 1 = .ok (.getfield 29, 3) := by decide +kernel
theorem dX10_step_4 : decode cX10_step 4 = .ok (.iload_n 1, 1) := by decide +kernel
theorem dX10_step_5 : decode cX10_step 5 = .ok (.aaload, 1) := by decide +kernel
theorem dX10_step_6 : decode cX10_step 6 = .ok (.iconst 4, 1) := by decide +kernel
theorem dX10_step_7 : decode cX10_step 7 = .ok (.dup2, 1) := by decide +kernel
theorem dX10_step_8 : decode cX10_step 8 = .ok (.iaload, 1) := by decide +kernel
theorem dX10_step_9 : decode cX10_step 9 = .ok (.iconst 1, 1) := by decide +kernel
theorem dX10_step_10 : decode cX10_step 10 = .ok (.iadd, 1) := by decide +kernel
theorem dX10_step_11 : decode cX10_step 11 = .ok (.iastore, 1) := by decide +kernel
theorem dX10_step_12 : decode cX10_step 12 = .ok (.aload_n 0, 1) := by decide +kernel
theorem dX10_step_13 : decode cX10_step 13 = .ok (.iload_n 2, 1) := by decide +kernel
theorem dX10_step_14 : decode cX10_step 14 = .ok (.invokevirtual 70, 3) := by decide +kernel
theorem dX10_step_17 : decode cX10_step 17 = .ok (.ifCond .eq 29, 3) := by decide +kernel
theorem dX10_step_46 : decode cX10_step 46 = .ok (.aload_n 0, 1) := by decide +kernel
theorem dX10_step_47 : decode cX10_step 47 = .ok (.iload_n 1, 1) := by decide +kernel
theorem dX10_step_48 : decode cX10_step 48 = .ok (.aload_n 0, 1) := by decide +kernel
theorem dX10_step_49 : decode cX10_step 49 = .ok (.invokevirtual 102, 3) := by decide +kernel
theorem dX10_step_52 : decode cX10_step 52 = .ok (.iconst (-1), 1) := by decide +kernel
theorem dX10_step_53 : decode cX10_step 53 = .ok (.iconst (-1), 1) := by decide +kernel
theorem dX10_step_54 : decode cX10_step 54 = .ok (.iload_n 3, 1) := by decide +kernel
theorem dX10_step_55 : decode cX10_step 55 = .ok (.invokevirtual 160, 3) := by decide +kernel
theorem dX10_step_58 : decode cX10_step 58 = .ok (.return_, 1) := by decide +kernel
theorem dX10_step_20 : decode cX10_step 20 = .ok (.aload_n 0, 1) := by decide +kernel
theorem dX10_step_21 : decode cX10_step 21 = .ok (.iload_n 1, 1) := by decide +kernel
theorem dX10_step_22 : decode cX10_step 22 = .ok (.aload_n 0, 1) := by decide +kernel
theorem dX10_step_23 : decode cX10_step 23 = .ok (.getfield 44, 3) := by decide +kernel
theorem dX10_step_26 : decode cX10_step 26 = .ok (.getfield 55, 3) := by decide +kernel
theorem dX10_step_29 : decode cX10_step 29 = .ok (.iload_n 2, 1) := by decide +kernel
theorem dX10_step_30 : decode cX10_step 30 = .ok (.iaload, 1) := by decide +kernel
theorem dX10_step_31 : decode cX10_step 31 = .ok (.iload_n 2, 1) := by decide +kernel
theorem dX10_step_32 : decode cX10_step 32 = .ok (.bipush 24, 2) := by decide +kernel
theorem dX10_step_34 : decode cX10_step 34 = .ok (.idiv, 1) := by decide +kernel
theorem dX10_step_35 : decode cX10_step 35 = .ok (.iload_n 2, 1) := by decide +kernel
theorem dX10_step_36 : decode cX10_step 36 = .ok (.bipush 24, 2) := by decide +kernel
theorem dX10_step_38 : decode cX10_step 38 = .ok (.irem, 1) := by decide +kernel
theorem dX10_step_39 : decode cX10_step 39 = .ok (.iload_n 3, 1) := by decide +kernel
theorem dX10_step_40 : decode cX10_step 40 = .ok (.invokevirtual 160, 3) := by decide +kernel
theorem dX10_step_43 : decode cX10_step 43 = .ok (.goto 15, 3) := by decide +kernel
theorem dX10_moveOne_0 : decode cX10_moveOne 0 = .ok (.aload_n 0, 1) := by decide +kernel
theorem dX10_moveOne_1 : decode cX10_moveOne 1 = .ok (.iload_n 1, 1) := by decide +kernel
theorem dX10_moveOne_2 : decode cX10_moveOne 2 = .ok (.invokevirtual 96, 3) := by decide +kernel
theorem dX10_moveOne_5 : decode cX10_moveOne 5 = .ok (.istore_n 3, 1) := by decide +kernel
theorem dX10_moveOne_6 : decode cX10_moveOne 6 = .ok (.iconst 0, 1) := by decide +kernel
theorem dX10_moveOne_7 : decode cX10_moveOne 7 = .ok (.istore 4, 2) := by decide +kernel
theorem dX10_moveOne_9 : decode cX10_moveOne 9 = .ok (.iload 4, 2) := by decide +kernel
theorem dX10_moveOne_11 : decode cX10_moveOne 11 = .ok (.iconst 4, 1) := by decide +kernel
theorem dX10_moveOne_12 : decode cX10_moveOne 12 = .ok (.if_icmp .ge 46, 3) := by decide +kernel
theorem dX10_moveOne_15 : decode cX10_moveOne 15 = .ok (.aload_n 0, 1) := by decide +kernel
theorem dX10_moveOne_16 : decode cX10_moveOne 16 = .ok (.iload_n 3, 1) := by decide +kernel
theorem dX10_moveOne_17 : decode cX10_moveOne 17 = .ok (.iload 4, 2) := by decide +kernel
theorem dX10_moveOne_19 : decode cX10_moveOne 19 = .ok (.invokevirtual 140, 3) := by decide +kernel
theorem dX10_moveOne_22 : decode cX10_moveOne 22 = .ok (.ifCond .eq 30, 3) := by decide +kernel
theorem dX10_moveOne_52 : decode cX10_moveOne 52 = .ok (.iinc 4 1, 3) := by decide +kernel
theorem dX10_moveOne_55 : decode cX10_moveOne 55 = .ok (.goto (-46), 3) := by decide +kernel
theorem dX10_moveOne_25 : decode cX10_moveOne 25 = .ok (.aload_n 0, 1) := by decide +kernel
theorem dX10_moveOne_26 : decode cX10_moveOne 26 = .ok (.iload_n 3, 1) := by decide +kernel
theorem dX10_moveOne_27 : decode cX10_moveOne 27 = .ok (.iload 4, 2) := by decide +kernel
theorem dX10_moveOne_29 : decode cX10_moveOne 29 = .ok (.invokevirtual 143, 3) := by decide +kernel
theorem dX10_moveOne_32 : decode cX10_moveOne 32 = .ok (.ifCond .eq 20, 3) := by decide +kernel
theorem dX10_moveOne_35 : decode cX10_moveOne 35 = .ok (.aload_n 0, 1) := by decide +kernel
theorem dX10_moveOne_36 : decode cX10_moveOne 36 = .ok (.iload_n 1, 1) := by decide +kernel
theorem dX10_moveOne_37 : decode cX10_moveOne 37 = .ok (.aload_n 0, 1) := by decide +kernel
theorem dX10_moveOne_38 : decode cX10_moveOne 38 = .ok (.getfield 44, 3) := by decide +kernel
theorem dX10_moveOne_41 : decode cX10_moveOne 41 = .ok (.iload_n 3, 1) := by decide +kernel
theorem dX10_moveOne_42 : decode cX10_moveOne 42 = .ok (.iload 4, 2) := by decide +kernel
theorem dX10_moveOne_44 : decode cX10_moveOne 44 = .ok (.invokevirtual 77, 3) := by decide +kernel
theorem dX10_moveOne_47 : decode cX10_moveOne 47 = .ok (.iload_n 2, 1) := by decide +kernel
theorem dX10_moveOne_48 : decode cX10_moveOne 48 = .ok (.invokevirtual 146, 3) := by decide +kernel
theorem dX10_moveOne_51 : decode cX10_moveOne 51 = .ok (.return_, 1) := by decide +kernel
theorem dX10_moveOne_58 : decode cX10_moveOne 58 = .ok (.return_, 1) := by decide +kernel
theorem dX10_movePersons_0 : decode cX10_movePersons 0 = .ok (.iconst 0, 1) := by decide +kernel
theorem dX10_movePersons_1 : decode cX10_movePersons 1 = .ok (.istore_n 2, 1) := by decide +kernel
theorem dX10_movePersons_2 : decode cX10_movePersons 2 = .ok (.iload_n 2, 1) := by decide +kernel
theorem dX10_movePersons_3 : decode cX10_movePersons 3 = .ok (.aload_n 0, 1) := by decide +kernel
theorem dX10_movePersons_4 : decode cX10_movePersons 4 = .ok (.getfield 40, 3) := by decide +kernel
theorem dX10_movePersons_7 : decode cX10_movePersons 7 = .ok (.getfield 118, 3) := by decide +kernel
theorem dX10_movePersons_10 : decode cX10_movePersons 10 = .ok (.if_icmp .ge 19, 3) := by decide +kernel
theorem dX10_movePersons_13 : decode cX10_movePersons 13 = .ok (.aload_n 0, 1) := by decide +kernel
theorem dX10_movePersons_14 : decode cX10_movePersons 14 = .ok (.getfield 37, 3) := by decide +kernel
theorem dX10_movePersons_17 : decode cX10_movePersons 17 = .ok (.iload_n 2, 1) := by decide +kernel
theorem dX10_movePersons_18 : decode cX10_movePersons 18 = .ok (.aaload, 1) := by decide +kernel
theorem dX10_movePersons_19 : decode cX10_movePersons 19 = .ok (.iconst 0, 1) := by decide +kernel
theorem dX10_movePersons_20 : decode cX10_movePersons 20 = .ok (.invokestatic 121, 3) := by decide +kernel
theorem dX10_movePersons_23 : decode cX10_movePersons 23 = .ok (.iinc 2 1, 3) := by decide +kernel
theorem dX10_movePersons_26 : decode cX10_movePersons 26 = .ok (.goto (-24), 3) := by decide +kernel
theorem dX10_movePersons_29 : decode cX10_movePersons 29 = .ok (.aload_n 0, 1) := by decide +kernel
theorem dX10_movePersons_30 : decode cX10_movePersons 30 = .ok (.iload_n 1, 1) := by decide +kernel
theorem dX10_movePersons_31 : decode cX10_movePersons 31 = .ok (.invokevirtual 127, 3) := by decide +kernel
theorem dX10_movePersons_34 : decode cX10_movePersons 34 = .ok (.istore_n 2, 1) := by decide +kernel
theorem dX10_movePersons_35 : decode cX10_movePersons 35 = .ok (.iconst 0, 1) := by decide +kernel
theorem dX10_movePersons_36 : decode cX10_movePersons 36 = .ok (.istore_n 3, 1) := by decide +kernel
theorem dX10_movePersons_37 : decode cX10_movePersons 37 = .ok (.iload_n 3, 1) := by decide +kernel
theorem dX10_movePersons_38 : decode cX10_movePersons 38 = .ok (.iload_n 2, 1) := by decide +kernel
theorem dX10_movePersons_39 : decode cX10_movePersons 39 = .ok (.if_icmp .ge 20, 3) := by decide +kernel
theorem dX10_movePersons_42 : decode cX10_movePersons 42 = .ok (.aload_n 0, 1) := by decide +kernel
theorem dX10_movePersons_43 : decode cX10_movePersons 43 = .ok (.aload_n 0, 1) := by decide +kernel
theorem dX10_movePersons_44 : decode cX10_movePersons 44 = .ok (.getfield 32, 3) := by decide +kernel
theorem dX10_movePersons_47 : decode cX10_movePersons 47 = .ok (.iload_n 3, 1) := by decide +kernel
theorem dX10_movePersons_48 : decode cX10_movePersons 48 = .ok (.iaload, 1) := by decide +kernel
theorem dX10_movePersons_49 : decode cX10_movePersons 49 = .ok (.iload_n 1, 1) := by decide +kernel
theorem dX10_movePersons_50 : decode cX10_movePersons 50 = .ok (.invokevirtual 130, 3) := by decide +kernel
theorem dX10_movePersons_53 : decode cX10_movePersons 53 = .ok (.iinc 3 1, 3) := by decide +kernel
theorem dX10_movePersons_56 : decode cX10_movePersons 56 = .ok (.goto (-19), 3) := by decide +kernel
theorem dX10_movePersons_59 : decode cX10_movePersons 59 = .ok (.return_, 1) := by decide +kernel
theorem dX12_init_0 : decode cX12_init 0 = .ok (.aload_n 0, 1) := by decide +kernel
theorem dX12_init_1 : decode cX12_init 1 = .ok (.invokespecial 1, 3) := by decide +kernel
theorem dX12_init_4 : decode cX12_init 4 = .ok (.aload_n 0, 1) := by decide +kernel
theorem dX12_init_5 : decode cX12_init 5 = .ok (.ldc 7, 2) := by decide +kernel
theorem dX12_init_7 : decode cX12_init 7 = .ok (.newarray .boolean, 2) := by decide +kernel
theorem dX12_init_9 : decode cX12_init 9 = .ok (.putfield 8, 3) := by decide +kernel
theorem dX12_init_12 : decode cX12_init 12 = .ok (.aload_n 0, 1) := by decide +kernel
theorem dX12_init_13 : decode cX12_init 13 = .ok (.ldc 14, 2) := by decide +kernel
theorem dX12_init_15 : decode cX12_init 15 = .ok (.newarray .boolean, 2) := by decide +kernel
theorem dX12_init_17 : decode cX12_init 17 = .ok (.putfield 15, 3) := by decide +kernel
theorem dX12_init_20 : decode cX12_init 20 = .ok (.aload_n 0, 1) := by decide +kernel
theorem dX12_init_21 : decode cX12_init 21 = .ok (.bipush 8, 2) := by decide +kernel
theorem dX12_init_23 : decode cX12_init 23 = .ok (.newarray .int, 2) := by decide +kernel
theorem dX12_init_25 : decode cX12_init 25 = .ok (.putfield 18, 3) := by decide +kernel
theorem dX12_init_28 : decode cX12_init 28 = .ok (.aload_n 0, 1) := by decide +kernel
theorem dX12_init_29 : decode cX12_init 29 = .ok (.sipush 2048, 3) := by decide +kernel
theorem dX12_init_32 : decode cX12_init 32 = .ok (.newarray .boolean, 2) := by decide +kernel
theorem dX12_init_34 : decode cX12_init 34 = .ok (.putfield 22, 3) := by decide +kernel
theorem dX12_init_37 : decode cX12_init 37 = .ok (.aload_n 0, 1) := by decide +kernel
theorem dX12_init_38 : decode cX12_init 38 = .ok (.bipush 8, 2) := by decide +kernel
theorem dX12_init_40 : decode cX12_init 40 = .ok (.newarray .boolean, 2) := by decide +kernel
theorem dX12_init_42 : decode cX12_init 42 = .ok (.putfield 25, 3) := by decide +kernel
theorem dX12_init_45 : decode cX12_init 45 = .ok (.aload_n 0, 1) := by decide +kernel
theorem dX12_init_46 : decode cX12_init 46 = .ok (.bipush 8, 2) := by decide +kernel
theorem dX12_init_48 : decode cX12_init 48 = .ok (.newarray .int, 2) := by decide +kernel
theorem dX12_init_50 : decode cX12_init 50 = .ok (.putfield 28, 3) := by decide +kernel
theorem dX12_init_53 : decode cX12_init 53 = .ok (.aload_n 0, 1) := by decide +kernel
theorem dX12_init_54 : decode cX12_init 54 = .ok (.sipush 1152, 3) := by decide +kernel
theorem dX12_init_57 : decode cX12_init 57 = .ok (.newarray .int, 2) := by decide +kernel
theorem dX12_init_59 : decode cX12_init 59 = .ok (.putfield 31, 3) := by decide +kernel
theorem dX12_init_62 : decode cX12_init 62 = .ok (.aload_n 0, 1) := by decide +kernel
theorem dX12_init_63 : decode cX12_init 63 = .ok (.bipush 8, 2) := by decide +kernel
theorem dX12_init_65 : decode cX12_init 65 = .ok (.newarray .int, 2) := by decide +kernel
theorem dX12_init_67 : decode cX12_init 67 = .ok (.putfield 34, 3) := by decide +kernel
theorem dX12_init_70 : decode cX12_init 70 = .ok (.aload_n 0, 1) := by decide +kernel
theorem dX12_init_71 : decode cX12_init 71 = .ok (.bipush 8, 2) := by decide +kernel
theorem dX12_init_73 : decode cX12_init 73 = .ok (.newarray .int, 2) := by decide +kernel
theorem dX12_init_75 : decode cX12_init 75 = .ok (.putfield 37, 3) := by decide +kernel
theorem dX12_init_78 : decode cX12_init 78 = .ok (.aload_n 0, 1) := by decide +kernel
theorem dX12_init_79 : decode cX12_init 79 = .ok (.bipush 8, 2) := by decide +kernel
theorem dX12_init_81 : decode cX12_init 81 = .ok (.newarray .int, 2) := by decide +kernel
theorem dX12_init_83 : decode cX12_init 83 = .ok (.putfield 40, 3) := by decide +kernel
theorem dX12_init_86 : decode cX12_init 86 = .ok (.aload_n 0, 1) := by decide +kernel
theorem dX12_init_87 : decode cX12_init 87 = .ok (.bipush 8, 2) := by decide +kernel
theorem dX12_init_89 : decode cX12_init 89 = .ok (.newarray .int, 2) := by decide +kernel
theorem dX12_init_91 : decode cX12_init 91 = .ok (.putfield 43, 3) := by decide +kernel
theorem dX12_init_94 : decode cX12_init 94 = .ok (.aload_n 0, 1) := by decide +kernel
theorem dX12_init_95 : decode cX12_init 95 = .ok (.bipush 8, 2) := by decide +kernel
theorem dX12_init_97 : decode cX12_init 97 = .ok (.newarray .int, 2) := by decide +kernel
theorem dX12_init_99 : decode cX12_init 99 = .ok (.putfield 46, 3) := by decide +kernel
theorem dX12_init_102 : decode cX12_init 102 = .ok (.aload_n 0, 1) := by decide +kernel
theorem dX12_init_103 : decode cX12_init 103 = .ok (.bipush 8, 2) := by decide +kernel
theorem dX12_init_105 : decode cX12_init 105 = .ok (.newarray .int, 2) := by decide +kernel
theorem dX12_init_107 : decode cX12_init 107 = .ok (.putfield 49, 3) := by decide +kernel
theorem dX12_init_110 : decode cX12_init 110 = .ok (.aload_n 0, 1) := by decide +kernel
theorem dX12_init_111 : decode cX12_init 111 = .ok (.bipush 8, 2) := by decide +kernel
theorem dX12_init_113 : decode cX12_init 113 = .ok (.newarray .int, 2) := by decide +kernel
theorem dX12_init_115 : decode cX12_init 115 = .ok (.putfield 52, 3) := by decide +kernel
theorem dX12_init_118 : decode cX12_init 118 = .ok (.aload_n 0, 1) := by decide +kernel
theorem dX12_init_119 : decode cX12_init 119 = .ok (.sipush 14000, 3) := by decide +kernel
theorem dX12_init_122 : decode cX12_init 122 = .ok (.newarray .int, 2) := by decide +kernel
theorem dX12_init_124 : decode cX12_init 124 = .ok (.putfield 55, 3) := by decide +kernel
theorem dX12_init_127 : decode cX12_init 127 = .ok (.aload_n 0, 1) := by decide +kernel
theorem dX12_init_128 : decode cX12_init 128 = .ok (.sipush 14000, 3) := by decide +kernel
theorem dX12_init_131 : decode cX12_init 131 = .ok (.newarray .int, 2) := by decide +kernel
theorem dX12_init_133 : decode cX12_init 133 = .ok (.putfield 58, 3) := by decide +kernel
theorem dX12_init_136 : decode cX12_init 136 = .ok (.aload_n 0, 1) := by decide +kernel
theorem dX12_init_137 : decode cX12_init 137 = .ok (.iconst (-1), 1) := by decide +kernel
theorem dX12_init_138 : decode cX12_init 138 = .ok (.putfield 61, 3) := by decide +kernel
theorem dX12_init_141 : decode cX12_init 141 = .ok (.aload_n 0, 1) := by decide +kernel
theorem dX12_init_142 : decode cX12_init 142 = .ok (.iconst 5, 1) := by decide +kernel
theorem dX12_init_143 : decode cX12_init 143 = .ok (.newarray .int, 2) := by decide +kernel
theorem dX12_init_145 : decode cX12_init 145 = .ok (.putfield 65, 3) := by decide +kernel
theorem dX12_init_148 : decode cX12_init 148 = .ok (.iconst 0, 1) := by decide +kernel
theorem dX12_init_149 : decode cX12_init 149 = .ok (.istore_n 1, 1) := by decide +kernel
theorem dX12_init_150 : decode cX12_init 150 = .ok (.iload_n 1, 1) := by decide +kernel
theorem dX12_init_151 : decode cX12_init 151 = .ok (.bipush 8, 2) := by decide +kernel
theorem dX12_init_153 : decode cX12_init 153 = .ok (.if_icmp .ge 37, 3) := by decide +kernel
theorem dX12_init_156 : decode cX12_init 156 = .ok (.aload_n 0, 1) := by decide +kernel
theorem dX12_init_157 : decode cX12_init 157 = .ok (.getfield 18, 3) := by decide +kernel
theorem dX12_init_160 : decode cX12_init 160 = .ok (.iload_n 1, 1) := by decide +kernel
theorem dX12_init_161 : decode cX12_init 161 = .ok (.iload_n 1, 1) := by decide +kernel
theorem dX12_init_162 : decode cX12_init 162 = .ok (.iastore, 1) := by decide +kernel
theorem dX12_init_163 : decode cX12_init 163 = .ok (.aload_n 0, 1) := by decide +kernel
theorem dX12_init_164 : decode cX12_init 164 = .ok (.getfield 34, 3) := by decide +kernel
theorem dX12_init_167 : decode cX12_init 167 = .ok (.iload_n 1, 1) := by decide +kernel
theorem dX12_init_168 : decode cX12_init 168 = .ok (.iconst (-1), 1) := by decide +kernel
theorem dX12_init_169 : decode cX12_init 169 = .ok (.iastore, 1) := by decide +kernel
theorem dX12_init_170 : decode cX12_init 170 = .ok (.aload_n 0, 1) := by decide +kernel
theorem dX12_init_171 : decode cX12_init 171 = .ok (.getfield 37, 3) := by decide +kernel
theorem dX12_init_174 : decode cX12_init 174 = .ok (.iload_n 1, 1) := by decide +kernel
theorem dX12_init_175 : decode cX12_init 175 = .ok (.iconst (-1), 1) := by decide +kernel
theorem dX12_init_176 : decode cX12_init 176 = .ok (.iastore, 1) := by decide +kernel
theorem dX12_init_177 : decode cX12_init 177 = .ok (.aload_n 0, 1) := by decide +kernel
theorem dX12_init_178 : decode cX12_init 178 = .ok (.getfield 40, 3) := by decide +kernel
theorem dX12_init_181 : decode cX12_init 181 = .ok (.iload_n 1, 1) := by decide +kernel
theorem dX12_init_182 : decode cX12_init 182 = .ok (.iconst (-1), 1) := by decide +kernel
theorem dX12_init_183 : decode cX12_init 183 = .ok (.iastore, 1) := by decide +kernel
theorem dX12_init_184 : decode cX12_init 184 = .ok (.iinc 1 1, 3) := by decide +kernel
theorem dX12_init_187 : decode cX12_init 187 = .ok (.goto (-37), 3) := by decide +kernel
theorem dX12_init_190 : decode cX12_init 190 = .ok (.return_, 1) := by decide +kernel
theorem dX12_check_0 : decode cX12_check 0 = .ok (.aload_n 0, 1) := by decide +kernel
theorem dX12_check_1 : decode cX12_check 1 = .ok (.getfield 31, 3) := by decide +kernel
theorem dX12_check_4 : decode cX12_check 4 = .ok (.iload_n 1, 1) := by decide +kernel
theorem dX12_check_5 : decode cX12_check 5 = .ok (.bipush 21, 2) := by decide +kernel
theorem dX12_check_7 : decode cX12_check 7 = .ok (.iadd, 1) := by decide +kernel
theorem dX12_check_8 : decode cX12_check 8 = .ok (.iaload, 1) := by decide +kernel
theorem dX12_check_9 : decode cX12_check 9 = .ok (.istore_n 2, 1) := by decide +kernel
theorem dX12_check_10 : decode cX12_check 10 = .ok (.sipush 255, 3) := by decide +kernel
theorem dX12_check_13 : decode cX12_check 13 = .ok (.istore_n 3, 1) := by decide +kernel
theorem dX12_check_14 : decode cX12_check 14 = .ok (.iconst 0, 1) := by decide +kernel
theorem dX12_check_15 : decode cX12_check 15 = .ok (.istore 4, 2) := by decide +kernel
theorem dX12_check_17 : decode cX12_check 17 = .ok (.iload 4, 2) := by decide +kernel
theorem dX12_check_19 : decode cX12_check 19 = .ok (.iload_n 2, 1) := by decide +kernel
theorem dX12_check_20 : decode cX12_check 20 = .ok (.iconst 1, 1) := by decide +kernel
theorem dX12_check_21 : decode cX12_check 21 = .ok (.isub, 1) := by decide +kernel
theorem dX12_check_22 : decode cX12_check 22 = .ok (.if_icmp .ge 21, 3) := by decide +kernel
theorem dX12_check_25 : decode cX12_check 25 = .ok (.iload_n 3, 1) := by decide +kernel
theorem dX12_check_26 : decode cX12_check 26 = .ok (.aload_n 0, 1) := by decide +kernel
theorem dX12_check_27 : decode cX12_check 27 = .ok (.getfield 31, 3) := by decide +kernel
theorem dX12_check_30 : decode cX12_check 30 = .ok (.iload_n 1, 1) := by decide +kernel
theorem dX12_check_31 : decode cX12_check 31 = .ok (.iload 4, 2) := by decide +kernel
theorem dX12_check_33 : decode cX12_check 33 = .ok (.iadd, 1) := by decide +kernel
theorem dX12_check_34 : decode cX12_check 34 = .ok (.iaload, 1) := by decide +kernel
theorem dX12_check_35 : decode cX12_check 35 = .ok (.ixor, 1) := by decide +kernel
theorem dX12_check_36 : decode cX12_check 36 = .ok (.istore_n 3, 1) := by decide +kernel
theorem dX12_check_37 : decode cX12_check 37 = .ok (.iinc 4 1, 3) := by decide +kernel
theorem dX12_check_40 : decode cX12_check 40 = .ok (.goto (-23), 3) := by decide +kernel
theorem dX12_check_43 : decode cX12_check 43 = .ok (.aload_n 0, 1) := by decide +kernel
theorem dX12_check_44 : decode cX12_check 44 = .ok (.getfield 31, 3) := by decide +kernel
theorem dX12_check_47 : decode cX12_check 47 = .ok (.iload_n 1, 1) := by decide +kernel
theorem dX12_check_48 : decode cX12_check 48 = .ok (.iload_n 2, 1) := by decide +kernel
theorem dX12_check_49 : decode cX12_check 49 = .ok (.iadd, 1) := by decide +kernel
theorem dX12_check_50 : decode cX12_check 50 = .ok (.iconst 1, 1) := by decide +kernel
theorem dX12_check_51 : decode cX12_check 51 = .ok (.isub, 1) := by decide +kernel
theorem dX12_check_52 : decode cX12_check 52 = .ok (.iload_n 3, 1) := by decide +kernel
theorem dX12_check_53 : decode cX12_check 53 = .ok (.iastore, 1) := by decide +kernel
theorem dX12_check_54 : decode cX12_check 54 = .ok (.return_, 1) := by decide +kernel
theorem dX12_send_0 : decode cX12_send 0 = .ok (.bipush 24, 2) := by decide +kernel
theorem dX12_send_2 : decode cX12_send 2 = .ok (.bipush 6, 2) := by decide +kernel
theorem dX12_send_4 : decode cX12_send 4 = .ok (.iload_n 1, 1) := by decide +kernel
theorem dX12_send_5 : decode cX12_send 5 = .ok (.imul, 1) := by decide +kernel
theorem dX12_send_6 : decode cX12_send 6 = .ok (.aload_n 0, 1) := by decide +kernel
theorem dX12_send_7 : decode cX12_send 7 = .ok (.getfield 28, 3) := by decide +kernel
theorem dX12_send_10 : decode cX12_send 10 = .ok (.iload_n 1, 1) := by decide +kernel
theorem dX12_send_11 : decode cX12_send 11 = .ok (.iaload, 1) := by decide +kernel
theorem dX12_send_12 : decode cX12_send 12 = .ok (.iadd, 1) := by decide +kernel
theorem dX12_send_13 : decode cX12_send 13 = .ok (.imul, 1) := by decide +kernel
theorem dX12_send_14 : decode cX12_send 14 = .ok (.istore 7, 2) := by decide +kernel
theorem dX12_send_16 : decode cX12_send 16 = .ok (.aload_n 0, 1) := by decide +kernel
theorem dX12_send_17 : decode cX12_send 17 = .ok (.getfield 31, 3) := by decide +kernel
theorem dX12_send_20 : decode cX12_send 20 = .ok (.iload 7, 2) := by decide +kernel
theorem dX12_send_22 : decode cX12_send 22 = .ok (.sipush 176, 3) := by decide +kernel
theorem dX12_send_25 : decode cX12_send 25 = .ok (.iconst 4, 1) := by decide +kernel
theorem dX12_send_26 : decode cX12_send 26 = .ok (.iload_n 2, 1) := by decide +kernel
theorem dX12_send_27 : decode cX12_send 27 = .ok (.imul, 1) := by decide +kernel
theorem dX12_send_28 : decode cX12_send 28 = .ok (.iadd, 1) := by decide +kernel
theorem dX12_send_29 : decode cX12_send 29 = .ok (.iastore, 1) := by decide +kernel
theorem dX12_send_30 : decode cX12_send 30 = .ok (.aload_n 0, 1) := by decide +kernel
theorem dX12_send_31 : decode cX12_send 31 = .ok (.getfield 31, 3) := by decide +kernel
theorem dX12_send_34 : decode cX12_send 34 = .ok (.iload 7, 2) := by decide +kernel
theorem dX12_send_36 : decode cX12_send 36 = .ok (.iconst 1, 1) := by decide +kernel
theorem dX12_send_37 : decode cX12_send 37 = .ok (.iadd, 1) := by decide +kernel
theorem dX12_send_38 : decode cX12_send 38 = .ok (.aload_n 0, 1) := by decide +kernel
theorem dX12_send_39 : decode cX12_send 39 = .ok (.getfield 18, 3) := by decide +kernel
theorem dX12_send_42 : decode cX12_send 42 = .ok (.iload_n 1, 1) := by decide +kernel
theorem dX12_send_43 : decode cX12_send 43 = .ok (.iaload, 1) := by decide +kernel
theorem dX12_send_44 : decode cX12_send 44 = .ok (.sipush 256, 3) := by decide +kernel
theorem dX12_send_47 : decode cX12_send 47 = .ok (.idiv, 1) := by decide +kernel
theorem dX12_send_48 : decode cX12_send 48 = .ok (.iastore, 1) := by decide +kernel
theorem dX12_send_49 : decode cX12_send 49 = .ok (.aload_n 0, 1) := by decide +kernel
theorem dX12_send_50 : decode cX12_send 50 = .ok (.getfield 31, 3) := by decide +kernel
theorem dX12_send_53 : decode cX12_send 53 = .ok (.iload 7, 2) := by decide +kernel
theorem dX12_send_55 : decode cX12_send 55 = .ok (.iconst 2, 1) := by decide +kernel
theorem dX12_send_56 : decode cX12_send 56 = .ok (.iadd, 1) := by decide +kernel
theorem dX12_send_57 : decode cX12_send 57 = .ok (.aload_n 0, 1) := by decide +kernel
theorem dX12_send_58 : decode cX12_send 58 = .ok (.getfield 18, 3) := by decide +kernel
theorem dX12_send_61 : decode cX12_send 61 = .ok (.iload_n 1, 1) := by decide +kernel
theorem dX12_send_62 : decode cX12_send 62 = .ok (.iaload, 1) := by decide +kernel
theorem dX12_send_63 : decode cX12_send 63 = .ok (.sipush 256, 3) := by decide +kernel
theorem dX12_send_66 : decode cX12_send 66 = .ok (.irem, 1) := by decide +kernel
theorem dX12_send_67 : decode cX12_send 67 = .ok (.iastore, 1) := by decide +kernel
theorem dX12_send_68 : decode cX12_send 68 = .ok (.aload_n 0, 1) := by decide +kernel
theorem dX12_send_69 : decode cX12_send 69 = .ok (.getfield 31, 3) := by decide +kernel
theorem dX12_send_72 : decode cX12_send 72 = .ok (.iload 7, 2) := by decide +kernel
theorem dX12_send_74 : decode cX12_send 74 = .ok (.iconst 3, 1) := by decide +kernel
theorem dX12_send_75 : decode cX12_send 75 = .ok (.iadd, 1) := by decide +kernel
theorem dX12_send_76 : decode cX12_send 76 = .ok (.iload_n 3, 1) := by decide +kernel
theorem dX12_send_77 : decode cX12_send 77 = .ok (.sipush 256, 3) := by decide +kernel
theorem dX12_send_80 : decode cX12_send 80 = .ok (.idiv, 1) := by decide +kernel
theorem dX12_send_81 : decode cX12_send 81 = .ok (.iastore, 1) := by decide +kernel
theorem dX12_send_82 : decode cX12_send 82 = .ok (.aload_n 0, 1) := by decide +kernel
theorem dX12_send_83 : decode cX12_send 83 = .ok (.getfield 31, 3) := by decide +kernel
theorem dX12_send_86 : decode cX12_send 86 = .ok (.iload 7, 2) := by decide +kernel
theorem dX12_send_88 : decode cX12_send 88 = .ok (.iconst 4, 1) := by decide +kernel
theorem dX12_send_89 : decode cX12_send 89 = .ok (.iadd, 1) := by decide +kernel
theorem dX12_send_90 : decode cX12_send 90 = .ok (.iload_n 3, 1) := by decide +kernel
theorem dX12_send_91 : decode cX12_send 91 = .ok (.sipush 256, 3) := by decide +kernel
theorem dX12_send_94 : decode cX12_send 94 = .ok (.irem, 1) := by decide +kernel
theorem dX12_send_95 : decode cX12_send 95 = .ok (.iastore, 1) := by decide +kernel
theorem dX12_send_96 : decode cX12_send 96 = .ok (.aload_n 0, 1) := by decide +kernel
theorem dX12_send_97 : decode cX12_send 97 = .ok (.getfield 31, 3) := by decide +kernel
theorem dX12_send_100 : decode cX12_send 100 = .ok (.iload 7, 2) := by decide +kernel
theorem dX12_send_102 : decode cX12_send 102 = .ok (.iconst 5, 1) := by decide +kernel
theorem dX12_send_103 : decode cX12_send 103 = .ok (.iadd, 1) := by decide +kernel
theorem dX12_send_104 : decode cX12_send 104 = .ok (.iload 5, 2) := by decide +kernel
theorem dX12_send_106 : decode cX12_send 106 = .ok (.iconst 1, 1) := by decide +kernel
theorem dX12_send_107 : decode cX12_send 107 = .ok (.isub, 1) := by decide +kernel
theorem dX12_send_108 : decode cX12_send 108 = .ok (.iload 4, 2) := by decide +kernel
theorem dX12_send_110 : decode cX12_send 110 = .ok (.ifCond .eq 9, 3) := by decide +kernel
theorem dX12_send_119 : decode cX12_send 119 = .ok (.iconst 0, 1) := by decide +kernel
theorem dX12_send_120 : decode cX12_send 120 = .ok (.iadd, 1) := by decide +kernel
theorem dX12_send_121 : decode cX12_send 121 = .ok (.iastore, 1) := by decide +kernel
theorem dX12_send_122 : decode cX12_send 122 = .ok (.iconst 0, 1) := by decide +kernel
theorem dX12_send_123 : decode cX12_send 123 = .ok (.istore 8, 2) := by decide +kernel
theorem dX12_send_125 : decode cX12_send 125 = .ok (.iload 8, 2) := by decide +kernel
theorem dX12_send_127 : decode cX12_send 127 = .ok (.iload 5, 2) := by decide +kernel
theorem dX12_send_129 : decode cX12_send 129 = .ok (.if_icmp .ge 31, 3) := by decide +kernel
theorem dX12_send_132 : decode cX12_send 132 = .ok (.aload_n 0, 1) := by decide +kernel
theorem dX12_send_133 : decode cX12_send 133 = .ok (.getfield 31, 3) := by decide +kernel
theorem dX12_send_136 : decode cX12_send 136 = .ok (.iload 7, 2) := by decide +kernel
theorem dX12_send_138 : decode cX12_send 138 = .ok (.bipush 6, 2) := by decide +kernel
theorem dX12_send_140 : decode cX12_send 140 = .ok (.iadd, 1) := by decide +kernel
theorem dX12_send_141 : decode cX12_send 141 = .ok (.iload 8, 2) := by decide +kernel
theorem dX12_send_143 : decode cX12_send 143 = .ok (.iadd, 1) := by decide +kernel
theorem dX12_send_144 : decode cX12_send 144 = .ok (.iload 6, 2) := by decide +kernel
theorem dX12_send_146 : decode cX12_send 146 = .ok (.iload 8, 2) := by decide +kernel
theorem dX12_send_148 : decode cX12_send 148 = .ok (.iadd, 1) := by decide +kernel
theorem dX12_send_149 : decode cX12_send 149 = .ok (.sipush 256, 3) := by decide +kernel
theorem dX12_send_152 : decode cX12_send 152 = .ok (.irem, 1) := by decide +kernel
theorem dX12_send_153 : decode cX12_send 153 = .ok (.iastore, 1) := by decide +kernel
theorem dX12_send_154 : decode cX12_send 154 = .ok (.iinc 8 1, 3) := by decide +kernel
theorem dX12_send_157 : decode cX12_send 157 = .ok (.goto (-32), 3) := by decide +kernel
theorem dX12_send_160 : decode cX12_send 160 = .ok (.aload_n 0, 1) := by decide +kernel
theorem dX12_send_161 : decode cX12_send 161 = .ok (.getfield 31, 3) := by decide +kernel
theorem dX12_send_164 : decode cX12_send 164 = .ok (.iload 7, 2) := by decide +kernel
theorem dX12_send_166 : decode cX12_send 166 = .ok (.bipush 21, 2) := by decide +kernel
theorem dX12_send_168 : decode cX12_send 168 = .ok (.iadd, 1) := by decide +kernel
theorem dX12_send_169 : decode cX12_send 169 = .ok (.iload 5, 2) := by decide +kernel
theorem dX12_send_171 : decode cX12_send 171 = .ok (.bipush 7, 2) := by decide +kernel
theorem dX12_send_173 : decode cX12_send 173 = .ok (.iadd, 1) := by decide +kernel
theorem dX12_send_174 : decode cX12_send 174 = .ok (.iastore, 1) := by decide +kernel
theorem dX12_send_175 : decode cX12_send 175 = .ok (.aload_n 0, 1) := by decide +kernel
theorem dX12_send_176 : decode cX12_send 176 = .ok (.getfield 31, 3) := by decide +kernel
theorem dX12_send_179 : decode cX12_send 179 = .ok (.iload 7, 2) := by decide +kernel
theorem dX12_send_181 : decode cX12_send 181 = .ok (.bipush 22, 2) := by decide +kernel
theorem dX12_send_183 : decode cX12_send 183 = .ok (.iadd, 1) := by decide +kernel
theorem dX12_send_184 : decode cX12_send 184 = .ok (.iload_n 2, 1) := by decide +kernel
theorem dX12_send_185 : decode cX12_send 185 = .ok (.iastore, 1) := by decide +kernel
theorem dX12_send_186 : decode cX12_send 186 = .ok (.aload_n 0, 1) := by decide +kernel
theorem dX12_send_187 : decode cX12_send 187 = .ok (.getfield 31, 3) := by decide +kernel
theorem dX12_send_190 : decode cX12_send 190 = .ok (.iload 7, 2) := by decide +kernel
theorem dX12_send_192 : decode cX12_send 192 = .ok (.bipush 23, 2) := by decide +kernel
theorem dX12_send_194 : decode cX12_send 194 = .ok (.iadd, 1) := by decide +kernel
theorem dX12_send_195 : decode cX12_send 195 = .ok (.iconst 0, 1) := by decide +kernel
theorem dX12_send_196 : decode cX12_send 196 = .ok (.iastore, 1) := by decide +kernel
theorem dX12_send_197 : decode cX12_send 197 = .ok (.aload_n 0, 1) := by decide +kernel
theorem dX12_send_198 : decode cX12_send 198 = .ok (.iload 7, 2) := by decide +kernel
theorem dX12_send_200 : decode cX12_send 200 = .ok (.invokevirtual 68, 3) := by decide +kernel
theorem dX12_send_203 : decode cX12_send 203 = .ok (.aload_n 0, 1) := by decide +kernel
theorem dX12_send_204 : decode cX12_send 204 = .ok (.getfield 28, 3) := by decide +kernel
theorem dX12_send_207 : decode cX12_send 207 = .ok (.iload_n 1, 1) := by decide +kernel
theorem dX12_send_208 : decode cX12_send 208 = .ok (.dup2, 1) := by decide +kernel
theorem dX12_send_209 : decode cX12_send 209 = .ok (.iaload, 1) := by decide +kernel
theorem dX12_send_210 : decode cX12_send 210 = .ok (.iconst 1, 1) := by decide +kernel
theorem dX12_send_211 : decode cX12_send 211 = .ok (.iadd, 1) := by decide +kernel
theorem dX12_send_212 : decode cX12_send 212 = .ok (.iastore, 1) := by decide +kernel
theorem dX12_send_213 : decode cX12_send 213 = .ok (.aload_n 0, 1) := by decide +kernel
theorem dX12_send_214 : decode cX12_send 214 = .ok (.getfield 28, 3) := by decide +kernel
theorem dX12_send_217 : decode cX12_send 217 = .ok (.iload_n 1, 1) := by decide +kernel
theorem dX12_send_218 : decode cX12_send 218 = .ok (.iaload, 1) := by decide +kernel
theorem dX12_send_219 : decode cX12_send 219 = .ok (.ireturn, 1) := by decide +kernel
theorem dX12_send_113 : decode cX12_send 113 = .ok (.sipush 128, 3) := by decide +kernel
theorem dX12_send_116 : decode cX12_send 116 = .ok (.goto 4, 3) := by decide +kernel
theorem dX12_mayDisturb_0 : decode cX12_mayDisturb 0 = .ok (.aload_n 0, 1) := by decide +kernel
theorem dX12_mayDisturb_1 : decode cX12_mayDisturb 1 = .ok (.getfield 72, 3) := by decide +kernel
theorem dX12_mayDisturb_4 : decode cX12_mayDisturb 4 = .ok (.bipush 50, 2) := by decide +kernel
theorem dX12_mayDisturb_6 : decode cX12_mayDisturb 6 = .ok (.if_icmp .ge 7, 3) := by decide +kernel
theorem dX12_mayDisturb_13 : decode cX12_mayDisturb 13 = .ok (.iconst 0, 1) := by decide +kernel
theorem dX12_mayDisturb_14 : decode cX12_mayDisturb 14 = .ok (.ireturn, 1) := by decide +kernel
theorem dX12_mayDisturb_9 : decode cX12_mayDisturb 9 = .ok (.iconst 1, 1) := by decide +kernel
theorem dX12_mayDisturb_10 : decode cX12_mayDisturb 10 = .ok (.goto 4, 3) := by decide +kernel
theorem dX12_disturb_0 : decode cX12_disturb 0 = .ok (.aload_n 0, 1) := by decide +kernel
theorem dX12_disturb_1 : decode cX12_disturb 1 = .ok (.getfield 15, 3) := by decide +kernel
theorem dX12_disturb_4 : decode cX12_disturb 4 = .ok (.aload_n 0, 1) := by decide +kernel
theorem dX12_disturb_5 : decode cX12_disturb 5 = .ok (.getfield 75, 3) := by decide +kernel
theorem dX12_disturb_8 : decode cX12_disturb 8 = .ok (.iload_n 1, 1) := by decide +kernel
theorem dX12_disturb_9 : decode cX12_disturb 9 = .ok (.iadd, 1) := by decide +kernel
theorem dX12_disturb_10 : decode cX12_disturb 10 = .ok (.baload, 1) := by decide +kernel
theorem dX12_disturb_11 : decode cX12_disturb 11 = .ok (.ifCond .ne 7, 3) := by decide +kernel
theorem dX12_disturb_18 : decode cX12_disturb 18 = .ok (.iconst 0, 1) := by decide +kernel
theorem dX12_disturb_19 : decode cX12_disturb 19 = .ok (.istore_n 2, 1) := by decide +kernel
theorem dX12_disturb_20 : decode cX12_disturb 20 = .ok (.aload_n 0, 1) := by decide +kernel
theorem dX12_disturb_21 : decode cX12_disturb 21 = .ok (.getfield 15, 3) := by decide +kernel
theorem dX12_disturb_24 : decode cX12_disturb 24 = .ok (.aload_n 0, 1) := by decide +kernel
theorem dX12_disturb_25 : decode cX12_disturb 25 = .ok (.getfield 75, 3) := by decide +kernel
theorem dX12_disturb_28 : decode cX12_disturb 28 = .ok (.iload_n 1, 1) := by decide +kernel
theorem dX12_disturb_29 : decode cX12_disturb 29 = .ok (.iadd, 1) := by decide +kernel
theorem dX12_disturb_30 : decode cX12_disturb 30 = .ok (.iconst 1, 1) := by decide +kernel
theorem dX12_disturb_31 : decode cX12_disturb 31 = .ok (.bastore, 1) := by decide +kernel
theorem dX12_disturb_32 : decode cX12_disturb 32 = .ok (.aload_n 0, 1) := by decide +kernel
theorem dX12_disturb_33 : decode cX12_disturb 33 = .ok (.dup, 1) := by decide +kernel
theorem dX12_disturb_34 : decode cX12_disturb 34 = .ok (.getfield 72, 3) := by decide +kernel
theorem dX12_disturb_37 : decode cX12_disturb 37 = .ok (.iload_n 2, 1) := by decide +kernel
theorem dX12_disturb_38 : decode cX12_disturb 38 = .ok (.ifCond .eq 7, 3) := by decide +kernel
theorem dX12_disturb_45 : decode cX12_disturb 45 = .ok (.iconst 0, 1) := by decide +kernel
theorem dX12_disturb_46 : decode cX12_disturb 46 = .ok (.iadd, 1) := by decide +kernel
theorem dX12_disturb_47 : decode cX12_disturb 47 = .ok (.putfield 72, 3) := by decide +kernel
theorem dX12_disturb_50 : decode cX12_disturb 50 = .ok (.iload_n 2, 1) := by decide +kernel
theorem dX12_disturb_51 : decode cX12_disturb 51 = .ok (.ireturn, 1) := by decide +kernel
theorem dX12_disturb_41 : decode cX12_disturb 41 = .ok (.iconst 1, 1) := by decide +kernel
theorem dX12_disturb_42 : decode cX12_disturb 42 = .ok (.goto 4, 3) := by decide +kernel
theorem dX12_disturb_14 : decode cX12_disturb 14 = .ok (.iconst 1, 1) := by decide +kernel
theorem dX12_disturb_15 : decode cX12_disturb 15 = .ok (.goto 4, 3) := by decide +kernel
theorem dX12_ones_0 : decode cX12_ones 0 = .ok (.iconst 0, 1) := by decide +kernel
theorem dX12_ones_1 : decode cX12_ones 1 = .ok (.istore_n 1, 1) := by decide +kernel
theorem dX12_ones_2 : decode cX12_ones 2 = .ok (.iconst 0, 1) := by decide +kernel
theorem dX12_ones_3 : decode cX12_ones 3 = .ok (.istore_n 2, 1) := by decide +kernel
theorem dX12_ones_4 : decode cX12_ones 4 = .ok (.iload_n 2, 1) := by decide +kernel
theorem dX12_ones_5 : decode cX12_ones 5 = .ok (.bipush 8, 2) := by decide +kernel
theorem dX12_ones_7 : decode cX12_ones 7 = .ok (.if_icmp .ge 17, 3) := by decide +kernel
theorem dX12_ones_10 : decode cX12_ones 10 = .ok (.iload_n 1, 1) := by decide +kernel
theorem dX12_ones_11 : decode cX12_ones 11 = .ok (.iload_n 0, 1) := by decide +kernel
theorem dX12_ones_12 : decode cX12_ones 12 = .ok (.iload_n 2, 1) := by decide +kernel
theorem dX12_ones_13 : decode cX12_ones 13 = .ok (.ishr, 1) := by decide +kernel
theorem dX12_ones_14 : decode cX12_ones 14 = .ok (.iconst 1, 1) := by decide +kernel
theorem dX12_ones_15 : decode cX12_ones 15 = .ok (.iand, 1) := by decide +kernel
theorem dX12_ones_16 : decode cX12_ones 16 = .ok (.iadd, 1) := by decide +kernel
theorem dX12_ones_17 : decode cX12_ones 17 = .ok (.istore_n 1, 1) := by decide +kernel
theorem dX12_ones_18 : decode cX12_ones 18 = .ok (.iinc 2 1, 3) := by decide +kernel
theorem dX12_ones_21 : decode cX12_ones 21 = .ok (.goto (-17), 3) := by decide +kernel
theorem dX12_ones_24 : decode cX12_ones 24 = .ok (.iload_n 1, 1) := by decide +kernel
theorem dX12_ones_25 : decode cX12_ones 25 = .ok (.ireturn, 1) := by decide +kernel
theorem dX12_letterBit_0 : decode cX12_letterBit 0 = .ok (.iload_n 1, 1) := by decide +kernel
theorem dX12_letterBit_1 : decode cX12_letterBit 1 = .ok (.bipush 9, 2) := by decide +kernel
theorem dX12_letterBit_3 : decode cX12_letterBit 3 = .ok (.if_icmp .ne 19, 3) := by decide +kernel
theorem dX12_letterBit_22 : decode cX12_letterBit 22 = .ok (.iload_n 1, 1) := by decide +kernel
theorem dX12_letterBit_23 : decode cX12_letterBit 23 = .ok (.ifCond .le 24, 3) := by decide +kernel
theorem dX12_letterBit_47 : decode cX12_letterBit 47 = .ok (.iconst 0, 1) := by decide +kernel
theorem dX12_letterBit_48 : decode cX12_letterBit 48 = .ok (.ireturn, 1) := by decide +kernel
theorem dX12_letterBit_26 : decode cX12_letterBit 26 = .ok (.iload_n 1, 1) := by decide +kernel
theorem dX12_letterBit_27 : decode cX12_letterBit 27 = .ok (.bipush 10, 2) := by decide +kernel
theorem dX12_letterBit_29 : decode cX12_letterBit 29 = .ok (.if_icmp .eq 14, 3) := by decide +kernel
theorem dX12_letterBit_43 : decode cX12_letterBit 43 = .ok (.iconst 1, 1) := by decide +kernel
theorem dX12_letterBit_44 : decode cX12_letterBit 44 = .ok (.goto 4, 3) := by decide +kernel
theorem dX12_letterBit_32 : decode cX12_letterBit 32 = .ok (.iload_n 0, 1) := by decide +kernel
theorem dX12_letterBit_33 : decode cX12_letterBit 33 = .ok (.iload_n 1, 1) := by decide +kernel
theorem dX12_letterBit_34 : decode cX12_letterBit 34 = .ok (.iconst 1, 1) := by decide +kernel
theorem dX12_letterBit_35 : decode cX12_letterBit 35 = .ok (.isub, 1) := by decide +kernel
theorem dX12_letterBit_36 : decode cX12_letterBit 36 = .ok (.ishr, 1) := by decide +kernel
theorem dX12_letterBit_37 : decode cX12_letterBit 37 = .ok (.iconst 1, 1) := by decide +kernel
theorem dX12_letterBit_38 : decode cX12_letterBit 38 = .ok (.iand, 1) := by decide +kernel
theorem dX12_letterBit_39 : decode cX12_letterBit 39 = .ok (.iconst 1, 1) := by decide +kernel
theorem dX12_letterBit_40 : decode cX12_letterBit 40 = .ok (.if_icmp .ne 7, 3) := by decide +kernel
theorem dX12_letterBit_6 : decode cX12_letterBit 6 = .ok (.iload_n 0, 1) := by decide +kernel
theorem dX12_letterBit_7 : decode cX12_letterBit 7 = .ok (.invokestatic 78, 3) := by decide +kernel
theorem dX12_letterBit_10 : decode cX12_letterBit 10 = .ok (.iconst 2, 1) := by decide +kernel
theorem dX12_letterBit_11 : decode cX12_letterBit 11 = .ok (.irem, 1) := by decide +kernel
theorem dX12_letterBit_12 : decode cX12_letterBit 12 = .ok (.iconst 1, 1) := by decide +kernel
theorem dX12_letterBit_13 : decode cX12_letterBit 13 = .ok (.if_icmp .ne 7, 3) := by decide +kernel
theorem dX12_letterBit_20 : decode cX12_letterBit 20 = .ok (.iconst 0, 1) := by decide +kernel
theorem dX12_letterBit_21 : decode cX12_letterBit 21 = .ok (.ireturn, 1) := by decide +kernel
theorem dX12_letterBit_16 : decode cX12_letterBit 16 = .ok (.iconst 1, 1) := by decide +kernel
theorem dX12_letterBit_17 : decode cX12_letterBit 17 = .ok (.goto 4, 3) := by decide +kernel
theorem dX12_telegramBit_0 : decode cX12_telegramBit 0 = .ok (.iload_n 2, 1) := by decide +kernel
theorem dX12_telegramBit_1 : decode cX12_telegramBit 1 = .ok (.bipush 13, 2) := by decide +kernel
theorem dX12_telegramBit_3 : decode cX12_telegramBit 3 = .ok (.irem, 1) := by decide +kernel
theorem dX12_telegramBit_4 : decode cX12_telegramBit 4 = .ok (.bipush 10, 2) := by decide +kernel
theorem dX12_telegramBit_6 : decode cX12_telegramBit 6 = .ok (.if_icmp .gt 28, 3) := by decide +kernel
theorem dX12_telegramBit_34 : decode cX12_telegramBit 34 = .ok (.iconst 1, 1) := by decide +kernel
theorem dX12_telegramBit_35 : decode cX12_telegramBit 35 = .ok (.goto 4, 3) := by decide +kernel
theorem dX12_telegramBit_39 : decode cX12_telegramBit 39 = .ok (.ireturn, 1) := by decide +kernel
theorem dX12_telegramBit_9 : decode cX12_telegramBit 9 = .ok (.aload_n 0, 1) := by decide +kernel
theorem dX12_telegramBit_10 : decode cX12_telegramBit 10 = .ok (.getfield 31, 3) := by decide +kernel
theorem dX12_telegramBit_13 : decode cX12_telegramBit 13 = .ok (.sipush 144, 3) := by decide +kernel
theorem dX12_telegramBit_16 : decode cX12_telegramBit 16 = .ok (.iload_n 1, 1) := by decide +kernel
theorem dX12_telegramBit_17 : decode cX12_telegramBit 17 = .ok (.imul, 1) := by decide +kernel
theorem dX12_telegramBit_18 : decode cX12_telegramBit 18 = .ok (.iload_n 2, 1) := by decide +kernel
theorem dX12_telegramBit_19 : decode cX12_telegramBit 19 = .ok (.bipush 13, 2) := by decide +kernel
theorem dX12_telegramBit_21 : decode cX12_telegramBit 21 = .ok (.idiv, 1) := by decide +kernel
theorem dX12_telegramBit_22 : decode cX12_telegramBit 22 = .ok (.iadd, 1) := by decide +kernel
theorem dX12_telegramBit_23 : decode cX12_telegramBit 23 = .ok (.iaload, 1) := by decide +kernel
theorem dX12_telegramBit_24 : decode cX12_telegramBit 24 = .ok (.iload_n 2, 1) := by decide +kernel
theorem dX12_telegramBit_25 : decode cX12_telegramBit 25 = .ok (.bipush 13, 2) := by decide +kernel
theorem dX12_telegramBit_27 : decode cX12_telegramBit 27 = .ok (.irem, 1) := by decide +kernel
theorem dX12_telegramBit_28 : decode cX12_telegramBit 28 = .ok (.invokestatic 82, 3) := by decide +kernel
theorem dX12_telegramBit_31 : decode cX12_telegramBit 31 = .ok (.ifCond .eq 7, 3) := by decide +kernel
theorem dX12_telegramBit_38 : decode cX12_telegramBit 38 = .ok (.iconst 0, 1) := by decide +kernel
theorem dX12_idle_0 : decode cX12_idle 0 = .ok (.iconst 0, 1) := by decide +kernel
theorem dX12_idle_1 : decode cX12_idle 1 = .ok (.istore_n 1, 1) := by decide +kernel
theorem dX12_idle_2 : decode cX12_idle 2 = .ok (.iload_n 1, 1) := by decide +kernel
theorem dX12_idle_3 : decode cX12_idle 3 = .ok (.bipush 60, 2) := by decide +kernel
theorem dX12_idle_5 : decode cX12_idle 5 = .ok (.if_icmp .ge 37, 3) := by decide +kernel
theorem dX12_idle_8 : decode cX12_idle 8 = .ok (.aload_n 0, 1) := by decide +kernel
theorem dX12_idle_9 : decode cX12_idle 9 = .ok (.getfield 75, 3) := by decide +kernel
theorem dX12_idle_12 : decode cX12_idle 12 = .ok (.iconst 1, 1) := by decide +kernel
theorem dX12_idle_13 : decode cX12_idle 13 = .ok (.isub, 1) := by decide +kernel
theorem dX12_idle_14 : decode cX12_idle 14 = .ok (.iload_n 1, 1) := by decide +kernel
theorem dX12_idle_15 : decode cX12_idle 15 = .ok (.isub, 1) := by decide +kernel
theorem dX12_idle_16 : decode cX12_idle 16 = .ok (.iconst 1, 1) := by decide +kernel
theorem dX12_idle_17 : decode cX12_idle 17 = .ok (.if_icmp .lt 19, 3) := by decide +kernel
theorem dX12_idle_36 : decode cX12_idle 36 = .ok (.iinc 1 1, 3) := by decide +kernel
theorem dX12_idle_39 : decode cX12_idle 39 = .ok (.goto (-37), 3) := by decide +kernel
theorem dX12_idle_20 : decode cX12_idle 20 = .ok (.aload_n 0, 1) := by decide +kernel
theorem dX12_idle_21 : decode cX12_idle 21 = .ok (.getfield 8, 3) := by decide +kernel
theorem dX12_idle_24 : decode cX12_idle 24 = .ok (.aload_n 0, 1) := by decide +kernel
theorem dX12_idle_25 : decode cX12_idle 25 = .ok (.getfield 75, 3) := by decide +kernel
theorem dX12_idle_28 : decode cX12_idle 28 = .ok (.iconst 1, 1) := by decide +kernel
theorem dX12_idle_29 : decode cX12_idle 29 = .ok (.isub, 1) := by decide +kernel
theorem dX12_idle_30 : decode cX12_idle 30 = .ok (.iload_n 1, 1) := by decide +kernel
theorem dX12_idle_31 : decode cX12_idle 31 = .ok (.isub, 1) := by decide +kernel
theorem dX12_idle_32 : decode cX12_idle 32 = .ok (.baload, 1) := by decide +kernel
theorem dX12_idle_33 : decode cX12_idle 33 = .ok (.ifCond .eq 9, 3) := by decide +kernel
theorem dX12_idle_42 : decode cX12_idle 42 = .ok (.iload_n 1, 1) := by decide +kernel
theorem dX12_idle_43 : decode cX12_idle 43 = .ok (.ireturn, 1) := by decide +kernel
theorem dX12_begin_0 : decode cX12_begin 0 = .ok (.aload_n 0, 1) := by decide +kernel
theorem dX12_begin_1 : decode cX12_begin 1 = .ok (.getfield 34, 3) := by decide +kernel
theorem dX12_begin_4 : decode cX12_begin 4 = .ok (.iload_n 1, 1) := by decide +kernel
theorem dX12_begin_5 : decode cX12_begin 5 = .ok (.iaload, 1) := by decide +kernel
theorem dX12_begin_6 : decode cX12_begin 6 = .ok (.ifCond .ge 86, 3) := by decide +kernel
theorem dX12_begin_92 : decode cX12_begin 92 = .ok (.return_, 1) := by decide +kernel
theorem dX12_begin_9 : decode cX12_begin 9 = .ok (.aload_n 0, 1) := by decide +kernel
theorem dX12_begin_10 : decode cX12_begin 10 = .ok (.getfield 37, 3) := by decide +kernel
theorem dX12_begin_13 : decode cX12_begin 13 = .ok (.iload_n 1, 1) := by decide +kernel
theorem dX12_begin_14 : decode cX12_begin 14 = .ok (.iaload, 1) := by decide +kernel
theorem dX12_begin_15 : decode cX12_begin 15 = .ok (.ifCond .ge 77, 3) := by decide +kernel
theorem dX12_begin_18 : decode cX12_begin 18 = .ok (.aload_n 0, 1) := by decide +kernel
theorem dX12_begin_19 : decode cX12_begin 19 = .ok (.getfield 28, 3) := by decide +kernel
theorem dX12_begin_22 : decode cX12_begin 22 = .ok (.iload_n 1, 1) := by decide +kernel
theorem dX12_begin_23 : decode cX12_begin 23 = .ok (.iaload, 1) := by decide +kernel
theorem dX12_begin_24 : decode cX12_begin 24 = .ok (.ifCond .le 68, 3) := by decide +kernel
theorem dX12_begin_27 : decode cX12_begin 27 = .ok (.aload_n 0, 1) := by decide +kernel
theorem dX12_begin_28 : decode cX12_begin 28 = .ok (.getfield 31, 3) := by decide +kernel
theorem dX12_begin_31 : decode cX12_begin 31 = .ok (.sipush 144, 3) := by decide +kernel
theorem dX12_begin_34 : decode cX12_begin 34 = .ok (.iload_n 1, 1) := by decide +kernel
theorem dX12_begin_35 : decode cX12_begin 35 = .ok (.imul, 1) := by decide +kernel
theorem dX12_begin_36 : decode cX12_begin 36 = .ok (.bipush 22, 2) := by decide +kernel
theorem dX12_begin_38 : decode cX12_begin 38 = .ok (.iadd, 1) := by decide +kernel
theorem dX12_begin_39 : decode cX12_begin 39 = .ok (.iaload, 1) := by decide +kernel
theorem dX12_begin_40 : decode cX12_begin 40 = .ok (.iconst 1, 1) := by decide +kernel
theorem dX12_begin_41 : decode cX12_begin 41 = .ok (.if_icmp .le 23, 3) := by decide +kernel
theorem dX12_begin_64 : decode cX12_begin 64 = .ok (.iconst 0, 1) := by decide +kernel
theorem dX12_begin_65 : decode cX12_begin 65 = .ok (.istore_n 3, 1) := by decide +kernel
theorem dX12_begin_66 : decode cX12_begin 66 = .ok (.aload_n 0, 1) := by decide +kernel
theorem dX12_begin_67 : decode cX12_begin 67 = .ok (.getfield 34, 3) := by decide +kernel
theorem dX12_begin_70 : decode cX12_begin 70 = .ok (.iload_n 1, 1) := by decide +kernel
theorem dX12_begin_71 : decode cX12_begin 71 = .ok (.iload_n 2, 1) := by decide +kernel
theorem dX12_begin_72 : decode cX12_begin 72 = .ok (.iload_n 3, 1) := by decide +kernel
theorem dX12_begin_73 : decode cX12_begin 73 = .ok (.ifCond .eq 8, 3) := by decide +kernel
theorem dX12_begin_81 : decode cX12_begin 81 = .ok (.bipush 50, 2) := by decide +kernel
theorem dX12_begin_83 : decode cX12_begin 83 = .ok (.if_icmp .lt 7, 3) := by decide +kernel
theorem dX12_begin_90 : decode cX12_begin 90 = .ok (.iconst (-1), 1) := by decide +kernel
theorem dX12_begin_91 : decode cX12_begin 91 = .ok (.iastore, 1) := by decide +kernel
theorem dX12_begin_86 : decode cX12_begin 86 = .ok (.iconst 0, 1) := by decide +kernel
theorem dX12_begin_87 : decode cX12_begin 87 = .ok (.goto 4, 3) := by decide +kernel
theorem dX12_begin_76 : decode cX12_begin 76 = .ok (.bipush 53, 2) := by decide +kernel
theorem dX12_begin_78 : decode cX12_begin 78 = .ok (.goto 5, 3) := by decide +kernel
theorem dX12_begin_44 : decode cX12_begin 44 = .ok (.aload_n 0, 1) := by decide +kernel
theorem dX12_begin_45 : decode cX12_begin 45 = .ok (.getfield 31, 3) := by decide +kernel
theorem dX12_begin_48 : decode cX12_begin 48 = .ok (.sipush 144, 3) := by decide +kernel
theorem dX12_begin_51 : decode cX12_begin 51 = .ok (.iload_n 1, 1) := by decide +kernel
theorem dX12_begin_52 : decode cX12_begin 52 = .ok (.imul, 1) := by decide +kernel
theorem dX12_begin_53 : decode cX12_begin 53 = .ok (.bipush 23, 2) := by decide +kernel
theorem dX12_begin_55 : decode cX12_begin 55 = .ok (.iadd, 1) := by decide +kernel
theorem dX12_begin_56 : decode cX12_begin 56 = .ok (.iaload, 1) := by decide +kernel
theorem dX12_begin_57 : decode cX12_begin 57 = .ok (.ifCond .ne 7, 3) := by decide +kernel
theorem dX12_begin_60 : decode cX12_begin 60 = .ok (.iconst 1, 1) := by decide +kernel
theorem dX12_begin_61 : decode cX12_begin 61 = .ok (.goto 4, 3) := by decide +kernel
theorem dX12_answers_0 : decode cX12_answers 0 = .ok (.aload_n 0, 1) := by decide +kernel
theorem dX12_answers_1 : decode cX12_answers 1 = .ok (.getfield 86, 3) := by decide +kernel
theorem dX12_answers_4 : decode cX12_answers 4 = .ok (.ifCond .eq 24, 3) := by decide +kernel
theorem dX12_answers_28 : decode cX12_answers 28 = .ok (.return_, 1) := by decide +kernel
theorem dX12_answers_7 : decode cX12_answers 7 = .ok (.aload_n 0, 1) := by decide +kernel
theorem dX12_answers_8 : decode cX12_answers 8 = .ok (.getfield 75, 3) := by decide +kernel
theorem dX12_answers_11 : decode cX12_answers 11 = .ok (.aload_n 0, 1) := by decide +kernel
theorem dX12_answers_12 : decode cX12_answers 12 = .ok (.getfield 86, 3) := by decide +kernel
theorem dX12_answers_15 : decode cX12_answers 15 = .ok (.bipush 14, 2) := by decide +kernel
theorem dX12_answers_17 : decode cX12_answers 17 = .ok (.iadd, 1) := by decide +kernel
theorem dX12_answers_18 : decode cX12_answers 18 = .ok (.if_icmp .ne 10, 3) := by decide +kernel
theorem dX12_answers_21 : decode cX12_answers 21 = .ok (.aload_n 0, 1) := by decide +kernel
theorem dX12_answers_22 : decode cX12_answers 22 = .ok (.getfield 89, 3) := by decide +kernel
theorem dX12_answers_25 : decode cX12_answers 25 = .ok (.ifCond .eq 4, 3) := by decide +kernel
theorem dX12_answers_29 : decode cX12_answers 29 = .ok (.sipush 256, 3) := by decide +kernel
theorem dX12_answers_32 : decode cX12_answers 32 = .ok (.aload_n 0, 1) := by decide +kernel
theorem dX12_answers_33 : decode cX12_answers 33 = .ok (.getfield 58, 3) := by decide +kernel
theorem dX12_answers_36 : decode cX12_answers 36 = .ok (.iconst 3, 1) := by decide +kernel
theorem dX12_answers_37 : decode cX12_answers 37 = .ok (.iaload, 1) := by decide +kernel
theorem dX12_answers_38 : decode cX12_answers 38 = .ok (.imul, 1) := by decide +kernel
theorem dX12_answers_39 : decode cX12_answers 39 = .ok (.aload_n 0, 1) := by decide +kernel
theorem dX12_answers_40 : decode cX12_answers 40 = .ok (.getfield 58, 3) := by decide +kernel
theorem dX12_answers_43 : decode cX12_answers 43 = .ok (.iconst 4, 1) := by decide +kernel
theorem dX12_answers_44 : decode cX12_answers 44 = .ok (.iaload, 1) := by decide +kernel
theorem dX12_answers_45 : decode cX12_answers 45 = .ok (.iadd, 1) := by decide +kernel
theorem dX12_answers_46 : decode cX12_answers 46 = .ok (.istore_n 1, 1) := by decide +kernel
theorem dX12_answers_47 : decode cX12_answers 47 = .ok (.iconst 0, 1) := by decide +kernel
theorem dX12_answers_48 : decode cX12_answers 48 = .ok (.istore_n 2, 1) := by decide +kernel
theorem dX12_answers_49 : decode cX12_answers 49 = .ok (.iload_n 2, 1) := by decide +kernel
theorem dX12_answers_50 : decode cX12_answers 50 = .ok (.bipush 8, 2) := by decide +kernel
theorem dX12_answers_52 : decode cX12_answers 52 = .ok (.if_icmp .ge 136, 3) := by decide +kernel
theorem dX12_answers_55 : decode cX12_answers 55 = .ok (.aload_n 0, 1) := by decide +kernel
theorem dX12_answers_56 : decode cX12_answers 56 = .ok (.getfield 58, 3) := by decide +kernel
theorem dX12_answers_59 : decode cX12_answers 59 = .ok (.iconst 5, 1) := by decide +kernel
theorem dX12_answers_60 : decode cX12_answers 60 = .ok (.iaload, 1) := by decide +kernel
theorem dX12_answers_61 : decode cX12_answers 61 = .ok (.sipush 128, 3) := by decide +kernel
theorem dX12_answers_64 : decode cX12_answers 64 = .ok (.if_icmp .ge 21, 3) := by decide +kernel
theorem dX12_answers_85 : decode cX12_answers 85 = .ok (.iload_n 1, 1) := by decide +kernel
theorem dX12_answers_86 : decode cX12_answers 86 = .ok (.sipush 256, 3) := by decide +kernel
theorem dX12_answers_89 : decode cX12_answers 89 = .ok (.if_icmp .ge 26, 3) := by decide +kernel
theorem dX12_answers_115 : decode cX12_answers 115 = .ok (.iconst 0, 1) := by decide +kernel
theorem dX12_answers_116 : decode cX12_answers 116 = .ok (.istore_n 3, 1) := by decide +kernel
theorem dX12_answers_117 : decode cX12_answers 117 = .ok (.iload_n 3, 1) := by decide +kernel
theorem dX12_answers_118 : decode cX12_answers 118 = .ok (.ifCond .eq 64, 3) := by decide +kernel
theorem dX12_answers_182 : decode cX12_answers 182 = .ok (.iinc 2 1, 3) := by decide +kernel
theorem dX12_answers_185 : decode cX12_answers 185 = .ok (.goto (-136), 3) := by decide +kernel
theorem dX12_answers_121 : decode cX12_answers 121 = .ok (.aload_n 0, 1) := by decide +kernel
theorem dX12_answers_122 : decode cX12_answers 122 = .ok (.getfield 34, 3) := by decide +kernel
theorem dX12_answers_125 : decode cX12_answers 125 = .ok (.iload_n 2, 1) := by decide +kernel
theorem dX12_answers_126 : decode cX12_answers 126 = .ok (.iaload, 1) := by decide +kernel
theorem dX12_answers_127 : decode cX12_answers 127 = .ok (.ifCond .ge 55, 3) := by decide +kernel
theorem dX12_answers_130 : decode cX12_answers 130 = .ok (.aload_n 0, 1) := by decide +kernel
theorem dX12_answers_131 : decode cX12_answers 131 = .ok (.getfield 37, 3) := by decide +kernel
theorem dX12_answers_134 : decode cX12_answers 134 = .ok (.iload_n 2, 1) := by decide +kernel
theorem dX12_answers_135 : decode cX12_answers 135 = .ok (.iaload, 1) := by decide +kernel
theorem dX12_answers_136 : decode cX12_answers 136 = .ok (.ifCond .ge 46, 3) := by decide +kernel
theorem dX12_answers_139 : decode cX12_answers 139 = .ok (.aload_n 0, 1) := by decide +kernel
theorem dX12_answers_140 : decode cX12_answers 140 = .ok (.getfield 40, 3) := by decide +kernel
theorem dX12_answers_143 : decode cX12_answers 143 = .ok (.iload_n 2, 1) := by decide +kernel
theorem dX12_answers_144 : decode cX12_answers 144 = .ok (.aload_n 0, 1) := by decide +kernel
theorem dX12_answers_145 : decode cX12_answers 145 = .ok (.getfield 93, 3) := by decide +kernel
theorem dX12_answers_148 : decode cX12_answers 148 = .ok (.ifCond .ne 8, 3) := by decide +kernel
theorem dX12_answers_156 : decode cX12_answers 156 = .ok (.aload_n 0, 1) := by decide +kernel
theorem dX12_answers_157 : decode cX12_answers 157 = .ok (.getfield 25, 3) := by decide +kernel
theorem dX12_answers_160 : decode cX12_answers 160 = .ok (.iload_n 2, 1) := by decide +kernel
theorem dX12_answers_161 : decode cX12_answers 161 = .ok (.baload, 1) := by decide +kernel
theorem dX12_answers_162 : decode cX12_answers 162 = .ok (.ifCond .eq 9, 3) := by decide +kernel
theorem dX12_answers_171 : decode cX12_answers 171 = .ok (.sipush 204, 3) := by decide +kernel
theorem dX12_answers_174 : decode cX12_answers 174 = .ok (.iastore, 1) := by decide +kernel
theorem dX12_answers_175 : decode cX12_answers 175 = .ok (.aload_n 0, 1) := by decide +kernel
theorem dX12_answers_176 : decode cX12_answers 176 = .ok (.getfield 43, 3) := by decide +kernel
theorem dX12_answers_179 : decode cX12_answers 179 = .ok (.iload_n 2, 1) := by decide +kernel
theorem dX12_answers_180 : decode cX12_answers 180 = .ok (.iconst 0, 1) := by decide +kernel
theorem dX12_answers_181 : decode cX12_answers 181 = .ok (.iastore, 1) := by decide +kernel
theorem dX12_answers_165 : decode cX12_answers 165 = .ok (.sipush 192, 3) := by decide +kernel
theorem dX12_answers_168 : decode cX12_answers 168 = .ok (.goto 6, 3) := by decide +kernel
theorem dX12_answers_151 : decode cX12_answers 151 = .ok (.bipush 12, 2) := by decide +kernel
theorem dX12_answers_153 : decode cX12_answers 153 = .ok (.goto 21, 3) := by decide +kernel
theorem dX12_answers_92 : decode cX12_answers 92 = .ok (.aload_n 0, 1) := by decide +kernel
theorem dX12_answers_93 : decode cX12_answers 93 = .ok (.getfield 22, 3) := by decide +kernel
theorem dX12_answers_96 : decode cX12_answers 96 = .ok (.sipush 256, 3) := by decide +kernel
theorem dX12_answers_99 : decode cX12_answers 99 = .ok (.iload_n 2, 1) := by decide +kernel
theorem dX12_answers_100 : decode cX12_answers 100 = .ok (.imul, 1) := by decide +kernel
theorem dX12_answers_101 : decode cX12_answers 101 = .ok (.iload_n 1, 1) := by decide +kernel
theorem dX12_answers_102 : decode cX12_answers 102 = .ok (.sipush 256, 3) := by decide +kernel
theorem dX12_answers_105 : decode cX12_answers 105 = .ok (.irem, 1) := by decide +kernel
theorem dX12_answers_106 : decode cX12_answers 106 = .ok (.iadd, 1) := by decide +kernel
theorem dX12_answers_107 : decode cX12_answers 107 = .ok (.baload, 1) := by decide +kernel
theorem dX12_answers_108 : decode cX12_answers 108 = .ok (.ifCond .eq 7, 3) := by decide +kernel
theorem dX12_answers_111 : decode cX12_answers 111 = .ok (.iconst 1, 1) := by decide +kernel
theorem dX12_answers_112 : decode cX12_answers 112 = .ok (.goto 4, 3) := by decide +kernel
theorem dX12_answers_67 : decode cX12_answers 67 = .ok (.iload_n 1, 1) := by decide +kernel
theorem dX12_answers_68 : decode cX12_answers 68 = .ok (.aload_n 0, 1) := by decide +kernel
theorem dX12_answers_69 : decode cX12_answers 69 = .ok (.getfield 18, 3) := by decide +kernel
theorem dX12_answers_72 : decode cX12_answers 72 = .ok (.iload_n 2, 1) := by decide +kernel
theorem dX12_answers_73 : decode cX12_answers 73 = .ok (.iaload, 1) := by decide +kernel
theorem dX12_answers_74 : decode cX12_answers 74 = .ok (.if_icmp .ne 7, 3) := by decide +kernel
theorem dX12_answers_81 : decode cX12_answers 81 = .ok (.iconst 0, 1) := by decide +kernel
theorem dX12_answers_82 : decode cX12_answers 82 = .ok (.goto 34, 3) := by decide +kernel
theorem dX12_answers_77 : decode cX12_answers 77 = .ok (.iconst 1, 1) := by decide +kernel
theorem dX12_answers_78 : decode cX12_answers 78 = .ok (.goto 38, 3) := by decide +kernel
theorem dX12_answers_188 : decode cX12_answers 188 = .ok (.return_, 1) := by decide +kernel
theorem dX12_sendsOne_0 : decode cX12_sendsOne 0 = .ok (.aload_n 0, 1) := by decide +kernel
theorem dX12_sendsOne_1 : decode cX12_sendsOne 1 = .ok (.getfield 34, 3) := by decide +kernel
theorem dX12_sendsOne_4 : decode cX12_sendsOne 4 = .ok (.iload_n 1, 1) := by decide +kernel
theorem dX12_sendsOne_5 : decode cX12_sendsOne 5 = .ok (.iaload, 1) := by decide +kernel
theorem dX12_sendsOne_6 : decode cX12_sendsOne 6 = .ok (.ifCond .lt 17, 3) := by decide +kernel
theorem dX12_sendsOne_23 : decode cX12_sendsOne 23 = .ok (.iconst 1, 1) := by decide +kernel
theorem dX12_sendsOne_24 : decode cX12_sendsOne 24 = .ok (.goto 4, 3) := by decide +kernel
theorem dX12_sendsOne_28 : decode cX12_sendsOne 28 = .ok (.istore_n 2, 1) := by decide +kernel
theorem dX12_sendsOne_29 : decode cX12_sendsOne 29 = .ok (.iload_n 2, 1) := by decide +kernel
theorem dX12_sendsOne_30 : decode cX12_sendsOne 30 = .ok (.ifCond .eq 34, 3) := by decide +kernel
theorem dX12_sendsOne_64 : decode cX12_sendsOne 64 = .ok (.iconst 0, 1) := by decide +kernel
theorem dX12_sendsOne_65 : decode cX12_sendsOne 65 = .ok (.ireturn, 1) := by decide +kernel
theorem dX12_sendsOne_33 : decode cX12_sendsOne 33 = .ok (.aload_n 0, 1) := by decide +kernel
theorem dX12_sendsOne_34 : decode cX12_sendsOne 34 = .ok (.getfield 40, 3) := by decide +kernel
theorem dX12_sendsOne_37 : decode cX12_sendsOne 37 = .ok (.iload_n 1, 1) := by decide +kernel
theorem dX12_sendsOne_38 : decode cX12_sendsOne 38 = .ok (.iaload, 1) := by decide +kernel
theorem dX12_sendsOne_39 : decode cX12_sendsOne 39 = .ok (.ifCond .lt 21, 3) := by decide +kernel
theorem dX12_sendsOne_60 : decode cX12_sendsOne 60 = .ok (.iconst 1, 1) := by decide +kernel
theorem dX12_sendsOne_61 : decode cX12_sendsOne 61 = .ok (.goto 4, 3) := by decide +kernel
theorem dX12_sendsOne_42 : decode cX12_sendsOne 42 = .ok (.aload_n 0, 1) := by decide +kernel
theorem dX12_sendsOne_43 : decode cX12_sendsOne 43 = .ok (.getfield 40, 3) := by decide +kernel
theorem dX12_sendsOne_46 : decode cX12_sendsOne 46 = .ok (.iload_n 1, 1) := by decide +kernel
theorem dX12_sendsOne_47 : decode cX12_sendsOne 47 = .ok (.iaload, 1) := by decide +kernel
theorem dX12_sendsOne_48 : decode cX12_sendsOne 48 = .ok (.aload_n 0, 1) := by decide +kernel
theorem dX12_sendsOne_49 : decode cX12_sendsOne 49 = .ok (.getfield 43, 3) := by decide +kernel
theorem dX12_sendsOne_52 : decode cX12_sendsOne 52 = .ok (.iload_n 1, 1) := by decide +kernel
theorem dX12_sendsOne_53 : decode cX12_sendsOne 53 = .ok (.iaload, 1) := by decide +kernel
theorem dX12_sendsOne_54 : decode cX12_sendsOne 54 = .ok (.invokestatic 82, 3) := by decide +kernel
theorem dX12_sendsOne_57 : decode cX12_sendsOne 57 = .ok (.ifCond .eq 7, 3) := by decide +kernel
theorem dX12_sendsOne_9 : decode cX12_sendsOne 9 = .ok (.aload_n 0, 1) := by decide +kernel
theorem dX12_sendsOne_10 : decode cX12_sendsOne 10 = .ok (.iload_n 1, 1) := by decide +kernel
theorem dX12_sendsOne_11 : decode cX12_sendsOne 11 = .ok (.aload_n 0, 1) := by decide +kernel
theorem dX12_sendsOne_12 : decode cX12_sendsOne 12 = .ok (.getfield 34, 3) := by decide +kernel
theorem dX12_sendsOne_15 : decode cX12_sendsOne 15 = .ok (.iload_n 1, 1) := by decide +kernel
theorem dX12_sendsOne_16 : decode cX12_sendsOne 16 = .ok (.iaload, 1) := by decide +kernel
theorem dX12_sendsOne_17 : decode cX12_sendsOne 17 = .ok (.invokevirtual 96, 3) := by decide +kernel
theorem dX12_sendsOne_20 : decode cX12_sendsOne 20 = .ok (.ifCond .eq 7, 3) := by decide +kernel
theorem dX12_sendsOne_27 : decode cX12_sendsOne 27 = .ok (.iconst 0, 1) := by decide +kernel
theorem dX12_goOn_0 : decode cX12_goOn 0 = .ok (.aload_n 0, 1) := by decide +kernel
theorem dX12_goOn_1 : decode cX12_goOn 1 = .ok (.getfield 40, 3) := by decide +kernel
theorem dX12_goOn_4 : decode cX12_goOn 4 = .ok (.iload_n 1, 1) := by decide +kernel
theorem dX12_goOn_5 : decode cX12_goOn 5 = .ok (.iaload, 1) := by decide +kernel
theorem dX12_goOn_6 : decode cX12_goOn 6 = .ok (.ifCond .lt 40, 3) := by decide +kernel
theorem dX12_goOn_46 : decode cX12_goOn 46 = .ok (.aload_n 0, 1) := by decide +kernel
theorem dX12_goOn_47 : decode cX12_goOn 47 = .ok (.getfield 34, 3) := by decide +kernel
theorem dX12_goOn_50 : decode cX12_goOn 50 = .ok (.iload_n 1, 1) := by decide +kernel
theorem dX12_goOn_51 : decode cX12_goOn 51 = .ok (.iaload, 1) := by decide +kernel
theorem dX12_goOn_52 : decode cX12_goOn 52 = .ok (.ifCond .ge 4, 3) := by decide +kernel
theorem dX12_goOn_56 : decode cX12_goOn 56 = .ok (.sipush 144, 3) := by decide +kernel
theorem dX12_goOn_59 : decode cX12_goOn 59 = .ok (.iload_n 1, 1) := by decide +kernel
theorem dX12_goOn_60 : decode cX12_goOn 60 = .ok (.imul, 1) := by decide +kernel
theorem dX12_goOn_61 : decode cX12_goOn 61 = .ok (.istore_n 2, 1) := by decide +kernel
theorem dX12_goOn_62 : decode cX12_goOn 62 = .ok (.aload_n 0, 1) := by decide +kernel
theorem dX12_goOn_63 : decode cX12_goOn 63 = .ok (.iload_n 1, 1) := by decide +kernel
theorem dX12_goOn_64 : decode cX12_goOn 64 = .ok (.aload_n 0, 1) := by decide +kernel
theorem dX12_goOn_65 : decode cX12_goOn 65 = .ok (.getfield 34, 3) := by decide +kernel
theorem dX12_goOn_68 : decode cX12_goOn 68 = .ok (.iload_n 1, 1) := by decide +kernel
theorem dX12_goOn_69 : decode cX12_goOn 69 = .ok (.iaload, 1) := by decide +kernel
theorem dX12_goOn_70 : decode cX12_goOn 70 = .ok (.invokevirtual 96, 3) := by decide +kernel
theorem dX12_goOn_73 : decode cX12_goOn 73 = .ok (.ifCond .eq 33, 3) := by decide +kernel
theorem dX12_goOn_106 : decode cX12_goOn 106 = .ok (.aload_n 0, 1) := by decide +kernel
theorem dX12_goOn_107 : decode cX12_goOn 107 = .ok (.getfield 34, 3) := by decide +kernel
theorem dX12_goOn_110 : decode cX12_goOn 110 = .ok (.iload_n 1, 1) := by decide +kernel
theorem dX12_goOn_111 : decode cX12_goOn 111 = .ok (.dup2, 1) := by decide +kernel
theorem dX12_goOn_112 : decode cX12_goOn 112 = .ok (.iaload, 1) := by decide +kernel
theorem dX12_goOn_113 : decode cX12_goOn 113 = .ok (.iconst 1, 1) := by decide +kernel
theorem dX12_goOn_114 : decode cX12_goOn 114 = .ok (.iadd, 1) := by decide +kernel
theorem dX12_goOn_115 : decode cX12_goOn 115 = .ok (.iastore, 1) := by decide +kernel
theorem dX12_goOn_116 : decode cX12_goOn 116 = .ok (.aload_n 0, 1) := by decide +kernel
theorem dX12_goOn_117 : decode cX12_goOn 117 = .ok (.getfield 34, 3) := by decide +kernel
theorem dX12_goOn_120 : decode cX12_goOn 120 = .ok (.iload_n 1, 1) := by decide +kernel
theorem dX12_goOn_121 : decode cX12_goOn 121 = .ok (.iaload, 1) := by decide +kernel
theorem dX12_goOn_122 : decode cX12_goOn 122 = .ok (.bipush 13, 2) := by decide +kernel
theorem dX12_goOn_124 : decode cX12_goOn 124 = .ok (.aload_n 0, 1) := by decide +kernel
theorem dX12_goOn_125 : decode cX12_goOn 125 = .ok (.getfield 31, 3) := by decide +kernel
theorem dX12_goOn_128 : decode cX12_goOn 128 = .ok (.iload_n 2, 1) := by decide +kernel
theorem dX12_goOn_129 : decode cX12_goOn 129 = .ok (.bipush 21, 2) := by decide +kernel
theorem dX12_goOn_131 : decode cX12_goOn 131 = .ok (.iadd, 1) := by decide +kernel
theorem dX12_goOn_132 : decode cX12_goOn 132 = .ok (.iaload, 1) := by decide +kernel
theorem dX12_goOn_133 : decode cX12_goOn 133 = .ok (.imul, 1) := by decide +kernel
theorem dX12_goOn_134 : decode cX12_goOn 134 = .ok (.iconst 2, 1) := by decide +kernel
theorem dX12_goOn_135 : decode cX12_goOn 135 = .ok (.isub, 1) := by decide +kernel
theorem dX12_goOn_136 : decode cX12_goOn 136 = .ok (.if_icmp .ne 64, 3) := by decide +kernel
theorem dX12_goOn_200 : decode cX12_goOn 200 = .ok (.return_, 1) := by decide +kernel
theorem dX12_goOn_139 : decode cX12_goOn 139 = .ok (.aload_n 0, 1) := by decide +kernel
theorem dX12_goOn_140 : decode cX12_goOn 140 = .ok (.getfield 34, 3) := by decide +kernel
theorem dX12_goOn_143 : decode cX12_goOn 143 = .ok (.iload_n 1, 1) := by decide +kernel
theorem dX12_goOn_144 : decode cX12_goOn 144 = .ok (.iconst (-1), 1) := by decide +kernel
theorem dX12_goOn_145 : decode cX12_goOn 145 = .ok (.iastore, 1) := by decide +kernel
theorem dX12_goOn_146 : decode cX12_goOn 146 = .ok (.aload_n 0, 1) := by decide +kernel
theorem dX12_goOn_147 : decode cX12_goOn 147 = .ok (.getfield 37, 3) := by decide +kernel
theorem dX12_goOn_150 : decode cX12_goOn 150 = .ok (.iload_n 1, 1) := by decide +kernel
theorem dX12_goOn_151 : decode cX12_goOn 151 = .ok (.aload_n 0, 1) := by decide +kernel
theorem dX12_goOn_152 : decode cX12_goOn 152 = .ok (.getfield 75, 3) := by decide +kernel
theorem dX12_goOn_155 : decode cX12_goOn 155 = .ok (.bipush 28, 2) := by decide +kernel
theorem dX12_goOn_157 : decode cX12_goOn 157 = .ok (.iadd, 1) := by decide +kernel
theorem dX12_goOn_158 : decode cX12_goOn 158 = .ok (.iastore, 1) := by decide +kernel
theorem dX12_goOn_159 : decode cX12_goOn 159 = .ok (.aload_n 0, 1) := by decide +kernel
theorem dX12_goOn_160 : decode cX12_goOn 160 = .ok (.getfield 31, 3) := by decide +kernel
theorem dX12_goOn_163 : decode cX12_goOn 163 = .ok (.iload_n 2, 1) := by decide +kernel
theorem dX12_goOn_164 : decode cX12_goOn 164 = .ok (.bipush 23, 2) := by decide +kernel
theorem dX12_goOn_166 : decode cX12_goOn 166 = .ok (.iadd, 1) := by decide +kernel
theorem dX12_goOn_167 : decode cX12_goOn 167 = .ok (.iaload, 1) := by decide +kernel
theorem dX12_goOn_168 : decode cX12_goOn 168 = .ok (.ifCond .ne 19, 3) := by decide +kernel
theorem dX12_goOn_187 : decode cX12_goOn 187 = .ok (.aload_n 0, 1) := by decide +kernel
theorem dX12_goOn_188 : decode cX12_goOn 188 = .ok (.getfield 31, 3) := by decide +kernel
theorem dX12_goOn_191 : decode cX12_goOn 191 = .ok (.iload_n 2, 1) := by decide +kernel
theorem dX12_goOn_192 : decode cX12_goOn 192 = .ok (.bipush 23, 2) := by decide +kernel
theorem dX12_goOn_194 : decode cX12_goOn 194 = .ok (.iadd, 1) := by decide +kernel
theorem dX12_goOn_195 : decode cX12_goOn 195 = .ok (.dup2, 1) := by decide +kernel
theorem dX12_goOn_196 : decode cX12_goOn 196 = .ok (.iaload, 1) := by decide +kernel
theorem dX12_goOn_197 : decode cX12_goOn 197 = .ok (.iconst 1, 1) := by decide +kernel
theorem dX12_goOn_198 : decode cX12_goOn 198 = .ok (.iadd, 1) := by decide +kernel
theorem dX12_goOn_199 : decode cX12_goOn 199 = .ok (.iastore, 1) := by decide +kernel
theorem dX12_goOn_171 : decode cX12_goOn 171 = .ok (.aload_n 0, 1) := by decide +kernel
theorem dX12_goOn_172 : decode cX12_goOn 172 = .ok (.getfield 31, 3) := by decide +kernel
theorem dX12_goOn_175 : decode cX12_goOn 175 = .ok (.iload_n 2, 1) := by decide +kernel
theorem dX12_goOn_176 : decode cX12_goOn 176 = .ok (.dup2, 1) := by decide +kernel
theorem dX12_goOn_177 : decode cX12_goOn 177 = .ok (.iaload, 1) := by decide +kernel
theorem dX12_goOn_178 : decode cX12_goOn 178 = .ok (.bipush 32, 2) := by decide +kernel
theorem dX12_goOn_180 : decode cX12_goOn 180 = .ok (.isub, 1) := by decide +kernel
theorem dX12_goOn_181 : decode cX12_goOn 181 = .ok (.iastore, 1) := by decide +kernel
theorem dX12_goOn_182 : decode cX12_goOn 182 = .ok (.aload_n 0, 1) := by decide +kernel
theorem dX12_goOn_183 : decode cX12_goOn 183 = .ok (.iload_n 2, 1) := by decide +kernel
theorem dX12_goOn_184 : decode cX12_goOn 184 = .ok (.invokevirtual 68, 3) := by decide +kernel
theorem dX12_goOn_76 : decode cX12_goOn 76 = .ok (.aload_n 0, 1) := by decide +kernel
theorem dX12_goOn_77 : decode cX12_goOn 77 = .ok (.getfield 8, 3) := by decide +kernel
theorem dX12_goOn_80 : decode cX12_goOn 80 = .ok (.aload_n 0, 1) := by decide +kernel
theorem dX12_goOn_81 : decode cX12_goOn 81 = .ok (.getfield 75, 3) := by decide +kernel
theorem dX12_goOn_84 : decode cX12_goOn 84 = .ok (.baload, 1) := by decide +kernel
theorem dX12_goOn_85 : decode cX12_goOn 85 = .ok (.ifCond .ne 21, 3) := by decide +kernel
theorem dX12_goOn_88 : decode cX12_goOn 88 = .ok (.aload_n 0, 1) := by decide +kernel
theorem dX12_goOn_89 : decode cX12_goOn 89 = .ok (.getfield 34, 3) := by decide +kernel
theorem dX12_goOn_92 : decode cX12_goOn 92 = .ok (.iload_n 1, 1) := by decide +kernel
theorem dX12_goOn_93 : decode cX12_goOn 93 = .ok (.iconst (-1), 1) := by decide +kernel
theorem dX12_goOn_94 : decode cX12_goOn 94 = .ok (.iastore, 1) := by decide +kernel
theorem dX12_goOn_95 : decode cX12_goOn 95 = .ok (.aload_n 0, 1) := by decide +kernel
theorem dX12_goOn_96 : decode cX12_goOn 96 = .ok (.getfield 52, 3) := by decide +kernel
theorem dX12_goOn_99 : decode cX12_goOn 99 = .ok (.iload_n 1, 1) := by decide +kernel
theorem dX12_goOn_100 : decode cX12_goOn 100 = .ok (.dup2, 1) := by decide +kernel
theorem dX12_goOn_101 : decode cX12_goOn 101 = .ok (.iaload, 1) := by decide +kernel
theorem dX12_goOn_102 : decode cX12_goOn 102 = .ok (.iconst 1, 1) := by decide +kernel
theorem dX12_goOn_103 : decode cX12_goOn 103 = .ok (.iadd, 1) := by decide +kernel
theorem dX12_goOn_104 : decode cX12_goOn 104 = .ok (.iastore, 1) := by decide +kernel
theorem dX12_goOn_105 : decode cX12_goOn 105 = .ok (.return_, 1) := by decide +kernel
theorem dX12_goOn_55 : decode cX12_goOn 55 = .ok (.return_, 1) := by decide +kernel
theorem dX12_goOn_9 : decode cX12_goOn 9 = .ok (.aload_n 0, 1) := by decide +kernel
theorem dX12_goOn_10 : decode cX12_goOn 10 = .ok (.getfield 43, 3) := by decide +kernel
theorem dX12_goOn_13 : decode cX12_goOn 13 = .ok (.iload_n 1, 1) := by decide +kernel
theorem dX12_goOn_14 : decode cX12_goOn 14 = .ok (.dup2, 1) := by decide +kernel
theorem dX12_goOn_15 : decode cX12_goOn 15 = .ok (.iaload, 1) := by decide +kernel
theorem dX12_goOn_16 : decode cX12_goOn 16 = .ok (.iconst 1, 1) := by decide +kernel
theorem dX12_goOn_17 : decode cX12_goOn 17 = .ok (.iadd, 1) := by decide +kernel
theorem dX12_goOn_18 : decode cX12_goOn 18 = .ok (.iastore, 1) := by decide +kernel
theorem dX12_goOn_19 : decode cX12_goOn 19 = .ok (.aload_n 0, 1) := by decide +kernel
theorem dX12_goOn_20 : decode cX12_goOn 20 = .ok (.getfield 40, 3) := by decide +kernel
theorem dX12_goOn_23 : decode cX12_goOn 23 = .ok (.iload_n 1, 1) := by decide +kernel
theorem dX12_goOn_24 : decode cX12_goOn 24 = .ok (.aload_n 0, 1) := by decide +kernel
theorem dX12_goOn_25 : decode cX12_goOn 25 = .ok (.getfield 43, 3) := by decide +kernel
theorem dX12_goOn_28 : decode cX12_goOn 28 = .ok (.iload_n 1, 1) := by decide +kernel
theorem dX12_goOn_29 : decode cX12_goOn 29 = .ok (.iaload, 1) := by decide +kernel
theorem dX12_goOn_30 : decode cX12_goOn 30 = .ok (.bipush 11, 2) := by decide +kernel
theorem dX12_goOn_32 : decode cX12_goOn 32 = .ok (.if_icmp .ne 7, 3) := by decide +kernel
theorem dX12_goOn_39 : decode cX12_goOn 39 = .ok (.aload_n 0, 1) := by decide +kernel
theorem dX12_goOn_40 : decode cX12_goOn 40 = .ok (.getfield 40, 3) := by decide +kernel
theorem dX12_goOn_43 : decode cX12_goOn 43 = .ok (.iload_n 1, 1) := by decide +kernel
theorem dX12_goOn_44 : decode cX12_goOn 44 = .ok (.iaload, 1) := by decide +kernel
theorem dX12_goOn_45 : decode cX12_goOn 45 = .ok (.iastore, 1) := by decide +kernel
theorem dX12_goOn_35 : decode cX12_goOn 35 = .ok (.iconst (-1), 1) := by decide +kernel
theorem dX12_goOn_36 : decode cX12_goOn 36 = .ok (.goto 9, 3) := by decide +kernel
theorem dX12_reads_0 : decode cX12_reads 0 = .ok (.aload_n 0, 1) := by decide +kernel
theorem dX12_reads_1 : decode cX12_reads 1 = .ok (.getfield 99, 3) := by decide +kernel
theorem dX12_reads_4 : decode cX12_reads 4 = .ok (.ifCond .le 148, 3) := by decide +kernel
theorem dX12_reads_152 : decode cX12_reads 152 = .ok (.aload_n 0, 1) := by decide +kernel
theorem dX12_reads_153 : decode cX12_reads 153 = .ok (.getfield 75, 3) := by decide +kernel
theorem dX12_reads_156 : decode cX12_reads 156 = .ok (.aload_n 0, 1) := by decide +kernel
theorem dX12_reads_157 : decode cX12_reads 157 = .ok (.getfield 108, 3) := by decide +kernel
theorem dX12_reads_160 : decode cX12_reads 160 = .ok (.iconst 3, 1) := by decide +kernel
theorem dX12_reads_161 : decode cX12_reads 161 = .ok (.iadd, 1) := by decide +kernel
theorem dX12_reads_162 : decode cX12_reads 162 = .ok (.if_icmp .ne 25, 3) := by decide +kernel
theorem dX12_reads_187 : decode cX12_reads 187 = .ok (.aload_n 0, 1) := by decide +kernel
theorem dX12_reads_188 : decode cX12_reads 188 = .ok (.getfield 75, 3) := by decide +kernel
theorem dX12_reads_191 : decode cX12_reads 191 = .ok (.aload_n 0, 1) := by decide +kernel
theorem dX12_reads_192 : decode cX12_reads 192 = .ok (.getfield 108, 3) := by decide +kernel
theorem dX12_reads_195 : decode cX12_reads 195 = .ok (.iconst 3, 1) := by decide +kernel
theorem dX12_reads_196 : decode cX12_reads 196 = .ok (.iadd, 1) := by decide +kernel
theorem dX12_reads_197 : decode cX12_reads 197 = .ok (.if_icmp .eq 15, 3) := by decide +kernel
theorem dX12_reads_212 : decode cX12_reads 212 = .ok (.iconst 1, 1) := by decide +kernel
theorem dX12_reads_213 : decode cX12_reads 213 = .ok (.goto 4, 3) := by decide +kernel
theorem dX12_reads_217 : decode cX12_reads 217 = .ok (.ireturn, 1) := by decide +kernel
theorem dX12_reads_200 : decode cX12_reads 200 = .ok (.aload_n 0, 1) := by decide +kernel
theorem dX12_reads_201 : decode cX12_reads 201 = .ok (.getfield 8, 3) := by decide +kernel
theorem dX12_reads_204 : decode cX12_reads 204 = .ok (.aload_n 0, 1) := by decide +kernel
theorem dX12_reads_205 : decode cX12_reads 205 = .ok (.getfield 75, 3) := by decide +kernel
theorem dX12_reads_208 : decode cX12_reads 208 = .ok (.baload, 1) := by decide +kernel
theorem dX12_reads_209 : decode cX12_reads 209 = .ok (.ifCond .ne 7, 3) := by decide +kernel
theorem dX12_reads_216 : decode cX12_reads 216 = .ok (.iconst 0, 1) := by decide +kernel
theorem dX12_reads_165 : decode cX12_reads 165 = .ok (.aload_n 0, 1) := by decide +kernel
theorem dX12_reads_166 : decode cX12_reads 166 = .ok (.getfield 8, 3) := by decide +kernel
theorem dX12_reads_169 : decode cX12_reads 169 = .ok (.aload_n 0, 1) := by decide +kernel
theorem dX12_reads_170 : decode cX12_reads 170 = .ok (.getfield 75, 3) := by decide +kernel
theorem dX12_reads_173 : decode cX12_reads 173 = .ok (.baload, 1) := by decide +kernel
theorem dX12_reads_174 : decode cX12_reads 174 = .ok (.ifCond .ne 13, 3) := by decide +kernel
theorem dX12_reads_177 : decode cX12_reads 177 = .ok (.aload_n 0, 1) := by decide +kernel
theorem dX12_reads_178 : decode cX12_reads 178 = .ok (.aload_n 0, 1) := by decide +kernel
theorem dX12_reads_179 : decode cX12_reads 179 = .ok (.getfield 75, 3) := by decide +kernel
theorem dX12_reads_182 : decode cX12_reads 182 = .ok (.putfield 99, 3) := by decide +kernel
theorem dX12_reads_185 : decode cX12_reads 185 = .ok (.iconst 0, 1) := by decide +kernel
theorem dX12_reads_186 : decode cX12_reads 186 = .ok (.ireturn, 1) := by decide +kernel
theorem dX12_reads_7 : decode cX12_reads 7 = .ok (.aload_n 0, 1) := by decide +kernel
theorem dX12_reads_8 : decode cX12_reads 8 = .ok (.getfield 75, 3) := by decide +kernel
theorem dX12_reads_11 : decode cX12_reads 11 = .ok (.aload_n 0, 1) := by decide +kernel
theorem dX12_reads_12 : decode cX12_reads 12 = .ok (.getfield 99, 3) := by decide +kernel
theorem dX12_reads_15 : decode cX12_reads 15 = .ok (.bipush 10, 2) := by decide +kernel
theorem dX12_reads_17 : decode cX12_reads 17 = .ok (.iadd, 1) := by decide +kernel
theorem dX12_reads_18 : decode cX12_reads 18 = .ok (.if_icmp .ne 132, 3) := by decide +kernel
theorem dX12_reads_150 : decode cX12_reads 150 = .ok (.iconst 0, 1) := by decide +kernel
theorem dX12_reads_151 : decode cX12_reads 151 = .ok (.ireturn, 1) := by decide +kernel
theorem dX12_reads_21 : decode cX12_reads 21 = .ok (.iconst 0, 1) := by decide +kernel
theorem dX12_reads_22 : decode cX12_reads 22 = .ok (.istore_n 1, 1) := by decide +kernel
theorem dX12_reads_23 : decode cX12_reads 23 = .ok (.bipush 8, 2) := by decide +kernel
theorem dX12_reads_25 : decode cX12_reads 25 = .ok (.istore_n 2, 1) := by decide +kernel
theorem dX12_reads_26 : decode cX12_reads 26 = .ok (.iload_n 2, 1) := by decide +kernel
theorem dX12_reads_27 : decode cX12_reads 27 = .ok (.ifCond .le 33, 3) := by decide +kernel
theorem dX12_reads_30 : decode cX12_reads 30 = .ok (.iconst 2, 1) := by decide +kernel
theorem dX12_reads_31 : decode cX12_reads 31 = .ok (.iload_n 1, 1) := by decide +kernel
theorem dX12_reads_32 : decode cX12_reads 32 = .ok (.imul, 1) := by decide +kernel
theorem dX12_reads_33 : decode cX12_reads 33 = .ok (.aload_n 0, 1) := by decide +kernel
theorem dX12_reads_34 : decode cX12_reads 34 = .ok (.getfield 8, 3) := by decide +kernel
theorem dX12_reads_37 : decode cX12_reads 37 = .ok (.aload_n 0, 1) := by decide +kernel
theorem dX12_reads_38 : decode cX12_reads 38 = .ok (.getfield 99, 3) := by decide +kernel
theorem dX12_reads_41 : decode cX12_reads 41 = .ok (.iload_n 2, 1) := by decide +kernel
theorem dX12_reads_42 : decode cX12_reads 42 = .ok (.iadd, 1) := by decide +kernel
theorem dX12_reads_43 : decode cX12_reads 43 = .ok (.baload, 1) := by decide +kernel
theorem dX12_reads_44 : decode cX12_reads 44 = .ok (.ifCond .eq 7, 3) := by decide +kernel
theorem dX12_reads_51 : decode cX12_reads 51 = .ok (.iconst 0, 1) := by decide +kernel
theorem dX12_reads_52 : decode cX12_reads 52 = .ok (.iadd, 1) := by decide +kernel
theorem dX12_reads_53 : decode cX12_reads 53 = .ok (.istore_n 1, 1) := by decide +kernel
theorem dX12_reads_54 : decode cX12_reads 54 = .ok (.iinc 2 (-1), 3) := by decide +kernel
theorem dX12_reads_57 : decode cX12_reads 57 = .ok (.goto (-31), 3) := by decide +kernel
theorem dX12_reads_47 : decode cX12_reads 47 = .ok (.iconst 1, 1) := by decide +kernel
theorem dX12_reads_48 : decode cX12_reads 48 = .ok (.goto 4, 3) := by decide +kernel
theorem dX12_reads_60 : decode cX12_reads 60 = .ok (.aload_n 0, 1) := by decide +kernel
theorem dX12_reads_61 : decode cX12_reads 61 = .ok (.aload_n 0, 1) := by decide +kernel
theorem dX12_reads_62 : decode cX12_reads 62 = .ok (.getfield 102, 3) := by decide +kernel
theorem dX12_reads_65 : decode cX12_reads 65 = .ok (.ifCond .ne 44, 3) := by decide +kernel
theorem dX12_reads_109 : decode cX12_reads 109 = .ok (.iconst 1, 1) := by decide +kernel
theorem dX12_reads_110 : decode cX12_reads 110 = .ok (.goto 4, 3) := by decide +kernel
theorem dX12_reads_114 : decode cX12_reads 114 = .ok (.putfield 102, 3) := by decide +kernel
theorem dX12_reads_117 : decode cX12_reads 117 = .ok (.aload_n 0, 1) := by decide +kernel
theorem dX12_reads_118 : decode cX12_reads 118 = .ok (.getfield 55, 3) := by decide +kernel
theorem dX12_reads_121 : decode cX12_reads 121 = .ok (.aload_n 0, 1) := by decide +kernel
theorem dX12_reads_122 : decode cX12_reads 122 = .ok (.getfield 105, 3) := by decide +kernel
theorem dX12_reads_125 : decode cX12_reads 125 = .ok (.iload_n 1, 1) := by decide +kernel
theorem dX12_reads_126 : decode cX12_reads 126 = .ok (.iastore, 1) := by decide +kernel
theorem dX12_reads_127 : decode cX12_reads 127 = .ok (.aload_n 0, 1) := by decide +kernel
theorem dX12_reads_128 : decode cX12_reads 128 = .ok (.dup, 1) := by decide +kernel
theorem dX12_reads_129 : decode cX12_reads 129 = .ok (.getfield 105, 3) := by decide +kernel
theorem dX12_reads_132 : decode cX12_reads 132 = .ok (.iconst 1, 1) := by decide +kernel
theorem dX12_reads_133 : decode cX12_reads 133 = .ok (.iadd, 1) := by decide +kernel
theorem dX12_reads_134 : decode cX12_reads 134 = .ok (.putfield 105, 3) := by decide +kernel
theorem dX12_reads_137 : decode cX12_reads 137 = .ok (.aload_n 0, 1) := by decide +kernel
theorem dX12_reads_138 : decode cX12_reads 138 = .ok (.aload_n 0, 1) := by decide +kernel
theorem dX12_reads_139 : decode cX12_reads 139 = .ok (.getfield 75, 3) := by decide +kernel
theorem dX12_reads_142 : decode cX12_reads 142 = .ok (.putfield 108, 3) := by decide +kernel
theorem dX12_reads_145 : decode cX12_reads 145 = .ok (.aload_n 0, 1) := by decide +kernel
theorem dX12_reads_146 : decode cX12_reads 146 = .ok (.iconst 0, 1) := by decide +kernel
theorem dX12_reads_147 : decode cX12_reads 147 = .ok (.putfield 99, 3) := by decide +kernel
theorem dX12_reads_68 : decode cX12_reads 68 = .ok (.aload_n 0, 1) := by decide +kernel
theorem dX12_reads_69 : decode cX12_reads 69 = .ok (.getfield 8, 3) := by decide +kernel
theorem dX12_reads_72 : decode cX12_reads 72 = .ok (.aload_n 0, 1) := by decide +kernel
theorem dX12_reads_73 : decode cX12_reads 73 = .ok (.getfield 75, 3) := by decide +kernel
theorem dX12_reads_76 : decode cX12_reads 76 = .ok (.iconst 1, 1) := by decide +kernel
theorem dX12_reads_77 : decode cX12_reads 77 = .ok (.isub, 1) := by decide +kernel
theorem dX12_reads_78 : decode cX12_reads 78 = .ok (.baload, 1) := by decide +kernel
theorem dX12_reads_79 : decode cX12_reads 79 = .ok (.iload_n 1, 1) := by decide +kernel
theorem dX12_reads_80 : decode cX12_reads 80 = .ok (.invokestatic 78, 3) := by decide +kernel
theorem dX12_reads_83 : decode cX12_reads 83 = .ok (.iconst 2, 1) := by decide +kernel
theorem dX12_reads_84 : decode cX12_reads 84 = .ok (.irem, 1) := by decide +kernel
theorem dX12_reads_85 : decode cX12_reads 85 = .ok (.iconst 1, 1) := by decide +kernel
theorem dX12_reads_86 : decode cX12_reads 86 = .ok (.if_icmp .ne 7, 3) := by decide +kernel
theorem dX12_reads_93 : decode cX12_reads 93 = .ok (.iconst 0, 1) := by decide +kernel
theorem dX12_reads_94 : decode cX12_reads 94 = .ok (.if_icmp .ne 15, 3) := by decide +kernel
theorem dX12_reads_97 : decode cX12_reads 97 = .ok (.aload_n 0, 1) := by decide +kernel
theorem dX12_reads_98 : decode cX12_reads 98 = .ok (.getfield 8, 3) := by decide +kernel
theorem dX12_reads_101 : decode cX12_reads 101 = .ok (.aload_n 0, 1) := by decide +kernel
theorem dX12_reads_102 : decode cX12_reads 102 = .ok (.getfield 75, 3) := by decide +kernel
theorem dX12_reads_105 : decode cX12_reads 105 = .ok (.baload, 1) := by decide +kernel
theorem dX12_reads_106 : decode cX12_reads 106 = .ok (.ifCond .ne 7, 3) := by decide +kernel
theorem dX12_reads_113 : decode cX12_reads 113 = .ok (.iconst 0, 1) := by decide +kernel
theorem dX12_reads_89 : decode cX12_reads 89 = .ok (.iconst 1, 1) := by decide +kernel
theorem dX12_reads_90 : decode cX12_reads 90 = .ok (.goto 4, 3) := by decide +kernel
theorem dX12_starts_0 : decode cX12_starts 0 = .ok (.aload_n 0, 1) := by decide +kernel
theorem dX12_starts_1 : decode cX12_starts 1 = .ok (.aload_n 0, 1) := by decide +kernel
theorem dX12_starts_2 : decode cX12_starts 2 = .ok (.getfield 8, 3) := by decide +kernel
theorem dX12_starts_5 : decode cX12_starts 5 = .ok (.aload_n 0, 1) := by decide +kernel
theorem dX12_starts_6 : decode cX12_starts 6 = .ok (.getfield 75, 3) := by decide +kernel
theorem dX12_starts_9 : decode cX12_starts 9 = .ok (.baload, 1) := by decide +kernel
theorem dX12_starts_10 : decode cX12_starts 10 = .ok (.ifCond .eq 7, 3) := by decide +kernel
theorem dX12_starts_17 : decode cX12_starts 17 = .ok (.aload_n 0, 1) := by decide +kernel
theorem dX12_starts_18 : decode cX12_starts 18 = .ok (.getfield 75, 3) := by decide +kernel
theorem dX12_starts_21 : decode cX12_starts 21 = .ok (.putfield 111, 3) := by decide +kernel
theorem dX12_starts_24 : decode cX12_starts 24 = .ok (.aload_n 0, 1) := by decide +kernel
theorem dX12_starts_25 : decode cX12_starts 25 = .ok (.aload_n 0, 1) := by decide +kernel
theorem dX12_starts_26 : decode cX12_starts 26 = .ok (.getfield 111, 3) := by decide +kernel
theorem dX12_starts_29 : decode cX12_starts 29 = .ok (.putfield 99, 3) := by decide +kernel
theorem dX12_starts_32 : decode cX12_starts 32 = .ok (.aload_n 0, 1) := by decide +kernel
theorem dX12_starts_33 : decode cX12_starts 33 = .ok (.iconst 0, 1) := by decide +kernel
theorem dX12_starts_34 : decode cX12_starts 34 = .ok (.putfield 105, 3) := by decide +kernel
theorem dX12_starts_37 : decode cX12_starts 37 = .ok (.aload_n 0, 1) := by decide +kernel
theorem dX12_starts_38 : decode cX12_starts 38 = .ok (.iconst 0, 1) := by decide +kernel
theorem dX12_starts_39 : decode cX12_starts 39 = .ok (.putfield 102, 3) := by decide +kernel
theorem dX12_starts_42 : decode cX12_starts 42 = .ok (.return_, 1) := by decide +kernel
theorem dX12_starts_13 : decode cX12_starts 13 = .ok (.iconst 0, 1) := by decide +kernel
theorem dX12_starts_14 : decode cX12_starts 14 = .ok (.goto 7, 3) := by decide +kernel
theorem dX12_hear_0 : decode cX12_hear 0 = .ok (.aload_n 0, 1) := by decide +kernel
theorem dX12_hear_1 : decode cX12_hear 1 = .ok (.getfield 111, 3) := by decide +kernel
theorem dX12_hear_4 : decode cX12_hear 4 = .ok (.ifCond .ne 8, 3) := by decide +kernel
theorem dX12_hear_12 : decode cX12_hear 12 = .ok (.aload_n 0, 1) := by decide +kernel
theorem dX12_hear_13 : decode cX12_hear 13 = .ok (.invokevirtual 117, 3) := by decide +kernel
theorem dX12_hear_16 : decode cX12_hear 16 = .ok (.ifCond .ne 4, 3) := by decide +kernel
theorem dX12_hear_20 : decode cX12_hear 20 = .ok (.aload_n 0, 1) := by decide +kernel
theorem dX12_hear_21 : decode cX12_hear 21 = .ok (.getfield 105, 3) := by decide +kernel
theorem dX12_hear_24 : decode cX12_hear 24 = .ok (.bipush 8, 2) := by decide +kernel
theorem dX12_hear_26 : decode cX12_hear 26 = .ok (.if_icmp .lt 144, 3) := by decide +kernel
theorem dX12_hear_170 : decode cX12_hear 170 = .ok (.aload_n 0, 1) := by decide +kernel
theorem dX12_hear_171 : decode cX12_hear 171 = .ok (.iconst 1, 1) := by decide +kernel
theorem dX12_hear_172 : decode cX12_hear 172 = .ok (.putfield 89, 3) := by decide +kernel
theorem dX12_hear_175 : decode cX12_hear 175 = .ok (.aload_n 0, 1) := by decide +kernel
theorem dX12_hear_176 : decode cX12_hear 176 = .ok (.getfield 86, 3) := by decide +kernel
theorem dX12_hear_179 : decode cX12_hear 179 = .ok (.ifCond .le 36, 3) := by decide +kernel
theorem dX12_hear_215 : decode cX12_hear 215 = .ok (.iconst 0, 1) := by decide +kernel
theorem dX12_hear_216 : decode cX12_hear 216 = .ok (.istore_n 1, 1) := by decide +kernel
theorem dX12_hear_217 : decode cX12_hear 217 = .ok (.aload_n 0, 1) := by decide +kernel
theorem dX12_hear_218 : decode cX12_hear 218 = .ok (.iload_n 1, 1) := by decide +kernel
theorem dX12_hear_219 : decode cX12_hear 219 = .ok (.ifCond .eq 12, 3) := by decide +kernel
theorem dX12_hear_231 : decode cX12_hear 231 = .ok (.aload_n 0, 1) := by decide +kernel
theorem dX12_hear_232 : decode cX12_hear 232 = .ok (.getfield 61, 3) := by decide +kernel
theorem dX12_hear_235 : decode cX12_hear 235 = .ok (.putfield 61, 3) := by decide +kernel
theorem dX12_hear_238 : decode cX12_hear 238 = .ok (.aload_n 0, 1) := by decide +kernel
theorem dX12_hear_239 : decode cX12_hear 239 = .ok (.getfield 65, 3) := by decide +kernel
theorem dX12_hear_242 : decode cX12_hear 242 = .ok (.iload_n 1, 1) := by decide +kernel
theorem dX12_hear_243 : decode cX12_hear 243 = .ok (.ifCond .ne 7, 3) := by decide +kernel
theorem dX12_hear_250 : decode cX12_hear 250 = .ok (.aload_n 0, 1) := by decide +kernel
theorem dX12_hear_251 : decode cX12_hear 251 = .ok (.getfield 61, 3) := by decide +kernel
theorem dX12_hear_254 : decode cX12_hear 254 = .ok (.sipush 204, 3) := by decide +kernel
theorem dX12_hear_257 : decode cX12_hear 257 = .ok (.if_icmp .ne 7, 3) := by decide +kernel
theorem dX12_hear_264 : decode cX12_hear 264 = .ok (.iconst 4, 1) := by decide +kernel
theorem dX12_hear_265 : decode cX12_hear 265 = .ok (.dup2, 1) := by decide +kernel
theorem dX12_hear_266 : decode cX12_hear 266 = .ok (.iaload, 1) := by decide +kernel
theorem dX12_hear_267 : decode cX12_hear 267 = .ok (.iconst 1, 1) := by decide +kernel
theorem dX12_hear_268 : decode cX12_hear 268 = .ok (.iadd, 1) := by decide +kernel
theorem dX12_hear_269 : decode cX12_hear 269 = .ok (.iastore, 1) := by decide +kernel
theorem dX12_hear_270 : decode cX12_hear 270 = .ok (.aload_n 0, 1) := by decide +kernel
theorem dX12_hear_271 : decode cX12_hear 271 = .ok (.invokevirtual 114, 3) := by decide +kernel
theorem dX12_hear_274 : decode cX12_hear 274 = .ok (.return_, 1) := by decide +kernel
theorem dX12_hear_260 : decode cX12_hear 260 = .ok (.iconst 3, 1) := by decide +kernel
theorem dX12_hear_261 : decode cX12_hear 261 = .ok (.goto 4, 3) := by decide +kernel
theorem dX12_hear_246 : decode cX12_hear 246 = .ok (.iconst 2, 1) := by decide +kernel
theorem dX12_hear_247 : decode cX12_hear 247 = .ok (.goto 18, 3) := by decide +kernel
theorem dX12_hear_222 : decode cX12_hear 222 = .ok (.aload_n 0, 1) := by decide +kernel
theorem dX12_hear_223 : decode cX12_hear 223 = .ok (.getfield 55, 3) := by decide +kernel
theorem dX12_hear_226 : decode cX12_hear 226 = .ok (.iconst 0, 1) := by decide +kernel
theorem dX12_hear_227 : decode cX12_hear 227 = .ok (.iaload, 1) := by decide +kernel
theorem dX12_hear_228 : decode cX12_hear 228 = .ok (.goto 7, 3) := by decide +kernel
theorem dX12_hear_182 : decode cX12_hear 182 = .ok (.aload_n 0, 1) := by decide +kernel
theorem dX12_hear_183 : decode cX12_hear 183 = .ok (.getfield 111, 3) := by decide +kernel
theorem dX12_hear_186 : decode cX12_hear 186 = .ok (.aload_n 0, 1) := by decide +kernel
theorem dX12_hear_187 : decode cX12_hear 187 = .ok (.getfield 86, 3) := by decide +kernel
theorem dX12_hear_190 : decode cX12_hear 190 = .ok (.bipush 14, 2) := by decide +kernel
theorem dX12_hear_192 : decode cX12_hear 192 = .ok (.iadd, 1) := by decide +kernel
theorem dX12_hear_193 : decode cX12_hear 193 = .ok (.if_icmp .ne 22, 3) := by decide +kernel
theorem dX12_hear_196 : decode cX12_hear 196 = .ok (.aload_n 0, 1) := by decide +kernel
theorem dX12_hear_197 : decode cX12_hear 197 = .ok (.getfield 105, 3) := by decide +kernel
theorem dX12_hear_200 : decode cX12_hear 200 = .ok (.iconst 1, 1) := by decide +kernel
theorem dX12_hear_201 : decode cX12_hear 201 = .ok (.if_icmp .ne 14, 3) := by decide +kernel
theorem dX12_hear_204 : decode cX12_hear 204 = .ok (.aload_n 0, 1) := by decide +kernel
theorem dX12_hear_205 : decode cX12_hear 205 = .ok (.getfield 102, 3) := by decide +kernel
theorem dX12_hear_208 : decode cX12_hear 208 = .ok (.ifCond .ne 7, 3) := by decide +kernel
theorem dX12_hear_211 : decode cX12_hear 211 = .ok (.iconst 1, 1) := by decide +kernel
theorem dX12_hear_212 : decode cX12_hear 212 = .ok (.goto 4, 3) := by decide +kernel
theorem dX12_hear_29 : decode cX12_hear 29 = .ok (.aload_n 0, 1) := by decide +kernel
theorem dX12_hear_30 : decode cX12_hear 30 = .ok (.getfield 102, 3) := by decide +kernel
theorem dX12_hear_33 : decode cX12_hear 33 = .ok (.ifCond .ne 137, 3) := by decide +kernel
theorem dX12_hear_36 : decode cX12_hear 36 = .ok (.sipush 255, 3) := by decide +kernel
theorem dX12_hear_39 : decode cX12_hear 39 = .ok (.istore_n 1, 1) := by decide +kernel
theorem dX12_hear_40 : decode cX12_hear 40 = .ok (.iconst 0, 1) := by decide +kernel
theorem dX12_hear_41 : decode cX12_hear 41 = .ok (.istore_n 2, 1) := by decide +kernel
theorem dX12_hear_42 : decode cX12_hear 42 = .ok (.iload_n 2, 1) := by decide +kernel
theorem dX12_hear_43 : decode cX12_hear 43 = .ok (.aload_n 0, 1) := by decide +kernel
theorem dX12_hear_44 : decode cX12_hear 44 = .ok (.getfield 105, 3) := by decide +kernel
theorem dX12_hear_47 : decode cX12_hear 47 = .ok (.if_icmp .ge 30, 3) := by decide +kernel
theorem dX12_hear_50 : decode cX12_hear 50 = .ok (.aload_n 0, 1) := by decide +kernel
theorem dX12_hear_51 : decode cX12_hear 51 = .ok (.getfield 58, 3) := by decide +kernel
theorem dX12_hear_54 : decode cX12_hear 54 = .ok (.iload_n 2, 1) := by decide +kernel
theorem dX12_hear_55 : decode cX12_hear 55 = .ok (.aload_n 0, 1) := by decide +kernel
theorem dX12_hear_56 : decode cX12_hear 56 = .ok (.getfield 55, 3) := by decide +kernel
theorem dX12_hear_59 : decode cX12_hear 59 = .ok (.iload_n 2, 1) := by decide +kernel
theorem dX12_hear_60 : decode cX12_hear 60 = .ok (.iaload, 1) := by decide +kernel
theorem dX12_hear_61 : decode cX12_hear 61 = .ok (.iastore, 1) := by decide +kernel
theorem dX12_hear_62 : decode cX12_hear 62 = .ok (.iload_n 1, 1) := by decide +kernel
theorem dX12_hear_63 : decode cX12_hear 63 = .ok (.aload_n 0, 1) := by decide +kernel
theorem dX12_hear_64 : decode cX12_hear 64 = .ok (.getfield 55, 3) := by decide +kernel
theorem dX12_hear_67 : decode cX12_hear 67 = .ok (.iload_n 2, 1) := by decide +kernel
theorem dX12_hear_68 : decode cX12_hear 68 = .ok (.iaload, 1) := by decide +kernel
theorem dX12_hear_69 : decode cX12_hear 69 = .ok (.ixor, 1) := by decide +kernel
theorem dX12_hear_70 : decode cX12_hear 70 = .ok (.istore_n 1, 1) := by decide +kernel
theorem dX12_hear_71 : decode cX12_hear 71 = .ok (.iinc 2 1, 3) := by decide +kernel
theorem dX12_hear_74 : decode cX12_hear 74 = .ok (.goto (-32), 3) := by decide +kernel
theorem dX12_hear_77 : decode cX12_hear 77 = .ok (.aload_n 0, 1) := by decide +kernel
theorem dX12_hear_78 : decode cX12_hear 78 = .ok (.aload_n 0, 1) := by decide +kernel
theorem dX12_hear_79 : decode cX12_hear 79 = .ok (.getfield 105, 3) := by decide +kernel
theorem dX12_hear_82 : decode cX12_hear 82 = .ok (.putfield 121, 3) := by decide +kernel
theorem dX12_hear_85 : decode cX12_hear 85 = .ok (.aload_n 0, 1) := by decide +kernel
theorem dX12_hear_86 : decode cX12_hear 86 = .ok (.iload_n 1, 1) := by decide +kernel
theorem dX12_hear_87 : decode cX12_hear 87 = .ok (.ifCond .ne 27, 3) := by decide +kernel
theorem dX12_hear_114 : decode cX12_hear 114 = .ok (.iconst 0, 1) := by decide +kernel
theorem dX12_hear_115 : decode cX12_hear 115 = .ok (.putfield 93, 3) := by decide +kernel
theorem dX12_hear_118 : decode cX12_hear 118 = .ok (.aload_n 0, 1) := by decide +kernel
theorem dX12_hear_119 : decode cX12_hear 119 = .ok (.aload_n 0, 1) := by decide +kernel
theorem dX12_hear_120 : decode cX12_hear 120 = .ok (.getfield 108, 3) := by decide +kernel
theorem dX12_hear_123 : decode cX12_hear 123 = .ok (.putfield 86, 3) := by decide +kernel
theorem dX12_hear_126 : decode cX12_hear 126 = .ok (.aload_n 0, 1) := by decide +kernel
theorem dX12_hear_127 : decode cX12_hear 127 = .ok (.iconst (-1), 1) := by decide +kernel
theorem dX12_hear_128 : decode cX12_hear 128 = .ok (.putfield 61, 3) := by decide +kernel
theorem dX12_hear_131 : decode cX12_hear 131 = .ok (.aload_n 0, 1) := by decide +kernel
theorem dX12_hear_132 : decode cX12_hear 132 = .ok (.iconst 0, 1) := by decide +kernel
theorem dX12_hear_133 : decode cX12_hear 133 = .ok (.putfield 89, 3) := by decide +kernel
theorem dX12_hear_136 : decode cX12_hear 136 = .ok (.aload_n 0, 1) := by decide +kernel
theorem dX12_hear_137 : decode cX12_hear 137 = .ok (.getfield 65, 3) := by decide +kernel
theorem dX12_hear_140 : decode cX12_hear 140 = .ok (.iconst 0, 1) := by decide +kernel
theorem dX12_hear_141 : decode cX12_hear 141 = .ok (.dup2, 1) := by decide +kernel
theorem dX12_hear_142 : decode cX12_hear 142 = .ok (.iaload, 1) := by decide +kernel
theorem dX12_hear_143 : decode cX12_hear 143 = .ok (.iconst 1, 1) := by decide +kernel
theorem dX12_hear_144 : decode cX12_hear 144 = .ok (.iadd, 1) := by decide +kernel
theorem dX12_hear_145 : decode cX12_hear 145 = .ok (.iastore, 1) := by decide +kernel
theorem dX12_hear_146 : decode cX12_hear 146 = .ok (.aload_n 0, 1) := by decide +kernel
theorem dX12_hear_147 : decode cX12_hear 147 = .ok (.getfield 65, 3) := by decide +kernel
theorem dX12_hear_150 : decode cX12_hear 150 = .ok (.iconst 1, 1) := by decide +kernel
theorem dX12_hear_151 : decode cX12_hear 151 = .ok (.dup2, 1) := by decide +kernel
theorem dX12_hear_152 : decode cX12_hear 152 = .ok (.iaload, 1) := by decide +kernel
theorem dX12_hear_153 : decode cX12_hear 153 = .ok (.aload_n 0, 1) := by decide +kernel
theorem dX12_hear_154 : decode cX12_hear 154 = .ok (.getfield 93, 3) := by decide +kernel
theorem dX12_hear_157 : decode cX12_hear 157 = .ok (.ifCond .eq 7, 3) := by decide +kernel
theorem dX12_hear_164 : decode cX12_hear 164 = .ok (.iconst 0, 1) := by decide +kernel
theorem dX12_hear_165 : decode cX12_hear 165 = .ok (.iadd, 1) := by decide +kernel
theorem dX12_hear_166 : decode cX12_hear 166 = .ok (.iastore, 1) := by decide +kernel
theorem dX12_hear_167 : decode cX12_hear 167 = .ok (.goto 103, 3) := by decide +kernel
theorem dX12_hear_160 : decode cX12_hear 160 = .ok (.iconst 1, 1) := by decide +kernel
theorem dX12_hear_161 : decode cX12_hear 161 = .ok (.goto 4, 3) := by decide +kernel
theorem dX12_hear_90 : decode cX12_hear 90 = .ok (.aload_n 0, 1) := by decide +kernel
theorem dX12_hear_91 : decode cX12_hear 91 = .ok (.getfield 121, 3) := by decide +kernel
theorem dX12_hear_94 : decode cX12_hear 94 = .ok (.aload_n 0, 1) := by decide +kernel
theorem dX12_hear_95 : decode cX12_hear 95 = .ok (.getfield 58, 3) := by decide +kernel
theorem dX12_hear_98 : decode cX12_hear 98 = .ok (.iconst 5, 1) := by decide +kernel
theorem dX12_hear_99 : decode cX12_hear 99 = .ok (.iaload, 1) := by decide +kernel
theorem dX12_hear_100 : decode cX12_hear 100 = .ok (.sipush 128, 3) := by decide +kernel
theorem dX12_hear_103 : decode cX12_hear 103 = .ok (.irem, 1) := by decide +kernel
theorem dX12_hear_104 : decode cX12_hear 104 = .ok (.bipush 8, 2) := by decide +kernel
theorem dX12_hear_106 : decode cX12_hear 106 = .ok (.iadd, 1) := by decide +kernel
theorem dX12_hear_107 : decode cX12_hear 107 = .ok (.if_icmp .ne 7, 3) := by decide +kernel
theorem dX12_hear_110 : decode cX12_hear 110 = .ok (.iconst 1, 1) := by decide +kernel
theorem dX12_hear_111 : decode cX12_hear 111 = .ok (.goto 4, 3) := by decide +kernel
theorem dX12_hear_19 : decode cX12_hear 19 = .ok (.return_, 1) := by decide +kernel
theorem dX12_hear_7 : decode cX12_hear 7 = .ok (.aload_n 0, 1) := by decide +kernel
theorem dX12_hear_8 : decode cX12_hear 8 = .ok (.invokevirtual 114, 3) := by decide +kernel
theorem dX12_hear_11 : decode cX12_hear 11 = .ok (.return_, 1) := by decide +kernel
theorem dX12_look_0 : decode cX12_look 0 = .ok (.aload_n 0, 1) := by decide +kernel
theorem dX12_look_1 : decode cX12_look 1 = .ok (.getfield 37, 3) := by decide +kernel
theorem dX12_look_4 : decode cX12_look 4 = .ok (.iload_n 1, 1) := by decide +kernel
theorem dX12_look_5 : decode cX12_look 5 = .ok (.iaload, 1) := by decide +kernel
theorem dX12_look_6 : decode cX12_look 6 = .ok (.aload_n 0, 1) := by decide +kernel
theorem dX12_look_7 : decode cX12_look 7 = .ok (.getfield 75, 3) := by decide +kernel
theorem dX12_look_10 : decode cX12_look 10 = .ok (.if_icmp .eq 4, 3) := by decide +kernel
theorem dX12_look_14 : decode cX12_look 14 = .ok (.aload_n 0, 1) := by decide +kernel
theorem dX12_look_15 : decode cX12_look 15 = .ok (.getfield 37, 3) := by decide +kernel
theorem dX12_look_18 : decode cX12_look 18 = .ok (.iload_n 1, 1) := by decide +kernel
theorem dX12_look_19 : decode cX12_look 19 = .ok (.iconst (-1), 1) := by decide +kernel
theorem dX12_look_20 : decode cX12_look 20 = .ok (.iastore, 1) := by decide +kernel
theorem dX12_look_21 : decode cX12_look 21 = .ok (.aload_n 0, 1) := by decide +kernel
theorem dX12_look_22 : decode cX12_look 22 = .ok (.getfield 61, 3) := by decide +kernel
theorem dX12_look_25 : decode cX12_look 25 = .ok (.sipush 204, 3) := by decide +kernel
theorem dX12_look_28 : decode cX12_look 28 = .ok (.if_icmp .ne 7, 3) := by decide +kernel
theorem dX12_look_35 : decode cX12_look 35 = .ok (.iconst 0, 1) := by decide +kernel
theorem dX12_look_36 : decode cX12_look 36 = .ok (.istore_n 2, 1) := by decide +kernel
theorem dX12_look_37 : decode cX12_look 37 = .ok (.iload_n 2, 1) := by decide +kernel
theorem dX12_look_38 : decode cX12_look 38 = .ok (.ifCond .ne 20, 3) := by decide +kernel
theorem dX12_look_58 : decode cX12_look 58 = .ok (.aload_n 0, 1) := by decide +kernel
theorem dX12_look_59 : decode cX12_look 59 = .ok (.getfield 46, 3) := by decide +kernel
theorem dX12_look_62 : decode cX12_look 62 = .ok (.iload_n 1, 1) := by decide +kernel
theorem dX12_look_63 : decode cX12_look 63 = .ok (.dup2, 1) := by decide +kernel
theorem dX12_look_64 : decode cX12_look 64 = .ok (.iaload, 1) := by decide +kernel
theorem dX12_look_65 : decode cX12_look 65 = .ok (.iload_n 2, 1) := by decide +kernel
theorem dX12_look_66 : decode cX12_look 66 = .ok (.ifCond .eq 7, 3) := by decide +kernel
theorem dX12_look_73 : decode cX12_look 73 = .ok (.iconst 0, 1) := by decide +kernel
theorem dX12_look_74 : decode cX12_look 74 = .ok (.iadd, 1) := by decide +kernel
theorem dX12_look_75 : decode cX12_look 75 = .ok (.iastore, 1) := by decide +kernel
theorem dX12_look_76 : decode cX12_look 76 = .ok (.aload_n 0, 1) := by decide +kernel
theorem dX12_look_77 : decode cX12_look 77 = .ok (.getfield 49, 3) := by decide +kernel
theorem dX12_look_80 : decode cX12_look 80 = .ok (.iload_n 1, 1) := by decide +kernel
theorem dX12_look_81 : decode cX12_look 81 = .ok (.dup2, 1) := by decide +kernel
theorem dX12_look_82 : decode cX12_look 82 = .ok (.iaload, 1) := by decide +kernel
theorem dX12_look_83 : decode cX12_look 83 = .ok (.iload_n 2, 1) := by decide +kernel
theorem dX12_look_84 : decode cX12_look 84 = .ok (.ifCond .eq 7, 3) := by decide +kernel
theorem dX12_look_91 : decode cX12_look 91 = .ok (.iconst 1, 1) := by decide +kernel
theorem dX12_look_92 : decode cX12_look 92 = .ok (.iadd, 1) := by decide +kernel
theorem dX12_look_93 : decode cX12_look 93 = .ok (.iastore, 1) := by decide +kernel
theorem dX12_look_94 : decode cX12_look 94 = .ok (.aload_n 0, 1) := by decide +kernel
theorem dX12_look_95 : decode cX12_look 95 = .ok (.getfield 28, 3) := by decide +kernel
theorem dX12_look_98 : decode cX12_look 98 = .ok (.iload_n 1, 1) := by decide +kernel
theorem dX12_look_99 : decode cX12_look 99 = .ok (.dup2, 1) := by decide +kernel
theorem dX12_look_100 : decode cX12_look 100 = .ok (.iaload, 1) := by decide +kernel
theorem dX12_look_101 : decode cX12_look 101 = .ok (.iconst 1, 1) := by decide +kernel
theorem dX12_look_102 : decode cX12_look 102 = .ok (.isub, 1) := by decide +kernel
theorem dX12_look_103 : decode cX12_look 103 = .ok (.iastore, 1) := by decide +kernel
theorem dX12_look_104 : decode cX12_look 104 = .ok (.sipush 144, 3) := by decide +kernel
theorem dX12_look_107 : decode cX12_look 107 = .ok (.iload_n 1, 1) := by decide +kernel
theorem dX12_look_108 : decode cX12_look 108 = .ok (.imul, 1) := by decide +kernel
theorem dX12_look_109 : decode cX12_look 109 = .ok (.istore_n 3, 1) := by decide +kernel
theorem dX12_look_110 : decode cX12_look 110 = .ok (.iload_n 3, 1) := by decide +kernel
theorem dX12_look_111 : decode cX12_look 111 = .ok (.sipush 144, 3) := by decide +kernel
theorem dX12_look_114 : decode cX12_look 114 = .ok (.iload_n 1, 1) := by decide +kernel
theorem dX12_look_115 : decode cX12_look 115 = .ok (.imul, 1) := by decide +kernel
theorem dX12_look_116 : decode cX12_look 116 = .ok (.bipush 24, 2) := by decide +kernel
theorem dX12_look_118 : decode cX12_look 118 = .ok (.aload_n 0, 1) := by decide +kernel
theorem dX12_look_119 : decode cX12_look 119 = .ok (.getfield 28, 3) := by decide +kernel
theorem dX12_look_122 : decode cX12_look 122 = .ok (.iload_n 1, 1) := by decide +kernel
theorem dX12_look_123 : decode cX12_look 123 = .ok (.iaload, 1) := by decide +kernel
theorem dX12_look_124 : decode cX12_look 124 = .ok (.imul, 1) := by decide +kernel
theorem dX12_look_125 : decode cX12_look 125 = .ok (.iadd, 1) := by decide +kernel
theorem dX12_look_126 : decode cX12_look 126 = .ok (.if_icmp .ge 24, 3) := by decide +kernel
theorem dX12_look_129 : decode cX12_look 129 = .ok (.aload_n 0, 1) := by decide +kernel
theorem dX12_look_130 : decode cX12_look 130 = .ok (.getfield 31, 3) := by decide +kernel
theorem dX12_look_133 : decode cX12_look 133 = .ok (.iload_n 3, 1) := by decide +kernel
theorem dX12_look_134 : decode cX12_look 134 = .ok (.aload_n 0, 1) := by decide +kernel
theorem dX12_look_135 : decode cX12_look 135 = .ok (.getfield 31, 3) := by decide +kernel
theorem dX12_look_138 : decode cX12_look 138 = .ok (.iload_n 3, 1) := by decide +kernel
theorem dX12_look_139 : decode cX12_look 139 = .ok (.bipush 24, 2) := by decide +kernel
theorem dX12_look_141 : decode cX12_look 141 = .ok (.iadd, 1) := by decide +kernel
theorem dX12_look_142 : decode cX12_look 142 = .ok (.iaload, 1) := by decide +kernel
theorem dX12_look_143 : decode cX12_look 143 = .ok (.iastore, 1) := by decide +kernel
theorem dX12_look_144 : decode cX12_look 144 = .ok (.iinc 3 1, 3) := by decide +kernel
theorem dX12_look_147 : decode cX12_look 147 = .ok (.goto (-37), 3) := by decide +kernel
theorem dX12_look_150 : decode cX12_look 150 = .ok (.return_, 1) := by decide +kernel
theorem dX12_look_87 : decode cX12_look 87 = .ok (.iconst 0, 1) := by decide +kernel
theorem dX12_look_88 : decode cX12_look 88 = .ok (.goto 4, 3) := by decide +kernel
theorem dX12_look_69 : decode cX12_look 69 = .ok (.iconst 1, 1) := by decide +kernel
theorem dX12_look_70 : decode cX12_look 70 = .ok (.goto 4, 3) := by decide +kernel
theorem dX12_look_41 : decode cX12_look 41 = .ok (.aload_n 0, 1) := by decide +kernel
theorem dX12_look_42 : decode cX12_look 42 = .ok (.getfield 31, 3) := by decide +kernel
theorem dX12_look_45 : decode cX12_look 45 = .ok (.sipush 144, 3) := by decide +kernel
theorem dX12_look_48 : decode cX12_look 48 = .ok (.iload_n 1, 1) := by decide +kernel
theorem dX12_look_49 : decode cX12_look 49 = .ok (.imul, 1) := by decide +kernel
theorem dX12_look_50 : decode cX12_look 50 = .ok (.bipush 23, 2) := by decide +kernel
theorem dX12_look_52 : decode cX12_look 52 = .ok (.iadd, 1) := by decide +kernel
theorem dX12_look_53 : decode cX12_look 53 = .ok (.iaload, 1) := by decide +kernel
theorem dX12_look_54 : decode cX12_look 54 = .ok (.iconst 4, 1) := by decide +kernel
theorem dX12_look_55 : decode cX12_look 55 = .ok (.if_icmp .ne 95, 3) := by decide +kernel
theorem dX12_look_31 : decode cX12_look 31 = .ok (.iconst 1, 1) := by decide +kernel
theorem dX12_look_32 : decode cX12_look 32 = .ok (.goto 4, 3) := by decide +kernel
theorem dX12_look_13 : decode cX12_look 13 = .ok (.return_, 1) := by decide +kernel
theorem zl_X10_160 : zm_L zk_E RX10 160 yX10_putInto (.code yX10_putInto cX10_putInto 8 none) 5 ∧ Cond.instanceMethod yX10_putInto ∈ zk_E.2.2.1 ∧ Cond.selects yX10_putInto.cls yX10_putInto yX10_putInto ∈ zk_E.2.2.1 := ⟨⟨zk_b8 197 (by decide +kernel) rfl, zk_b1 6 (by decide +kernel) rfl, zk_b13 54 (by decide +kernel) rfl, by decide +kernel, by decide +kernel, by decide +kernel⟩, zk_b8 195 (by decide +kernel) rfl, zk_b8 196 (by decide +kernel) rfl⟩
theorem zl_X10_140 : zm_L zk_E RX10 140 yX10_isBetter (.code yX10_isBetter cX10_isBetter 5 (some .boolean)) 2 ∧ Cond.instanceMethod yX10_isBetter ∈ zk_E.2.2.1 ∧ Cond.selects yX10_isBetter.cls yX10_isBetter yX10_isBetter ∈ zk_E.2.2.1 := ⟨⟨zk_b13 40 (by decide +kernel) rfl, zk_b1 6 (by decide +kernel) rfl, zk_b13 37 (by decide +kernel) rfl, by decide +kernel, by decide +kernel, by decide +kernel⟩, zk_b13 39 (by decide +kernel) rfl, zk_s11 (q := (yX10_isBetter, 11)) 4 (by decide +kernel)⟩
theorem zl_X10_143 : zm_L zk_E RX10 143 yX10_goesThrough (.code yX10_goesThrough cX10_goesThrough 6 (some .boolean)) 2 ∧ Cond.instanceMethod yX10_goesThrough ∈ zk_E.2.2.1 ∧ Cond.selects yX10_goesThrough.cls yX10_goesThrough yX10_goesThrough ∈ zk_E.2.2.1 := ⟨⟨zk_b13 44 (by decide +kernel) rfl, zk_b1 6 (by decide +kernel) rfl, zk_b13 41 (by decide +kernel) rfl, by decide +kernel, by decide +kernel, by decide +kernel⟩, zk_b13 43 (by decide +kernel) rfl, zk_s11 (q := (yX10_goesThrough, 11)) 5 (by decide +kernel)⟩
theorem zl_X10_146 : zm_L zk_E RX10 146 yX10_step (.code yX10_step cX10_step 4 none) 3 ∧ Cond.instanceMethod yX10_step ∈ zk_E.2.2.1 ∧ Cond.selects yX10_step.cls yX10_step yX10_step ∈ zk_E.2.2.1 := ⟨⟨zk_b13 53 (by decide +kernel) rfl, zk_b1 6 (by decide +kernel) rfl, zk_b13 50 (by decide +kernel) rfl, by decide +kernel, by decide +kernel, by decide +kernel⟩, zk_b13 52 (by decide +kernel) rfl, zk_s11 (q := (yX10_step, 11)) 6 (by decide +kernel)⟩
theorem zl_X10_118 : zm_FN zk_E RX10 118 8 0 := ⟨RX8, TX8, 4, "TowerHouse", rfl, zk_i8, by decide, zk_n1 57 (by decide +kernel) rfl⟩
theorem zl_X10_121 : zm_L zk_E RX10 121 yJ7_fill_53178 (.code yJ7_fill_53178 cJ7_fill_53178 4 none) 2 ∧ Cond.static yJ7_fill_53178 ∈ zk_E.2.2.1 := ⟨⟨zk_b5 43 (by decide +kernel) rfl, zk_b1 26 (by decide +kernel) rfl, zk_b13 23 (by decide +kernel) rfl, by decide +kernel, by decide +kernel, by decide +kernel⟩, zk_b5 42 (by decide +kernel) rfl⟩
theorem zl_X10_127 : zm_L zk_E RX10 127 yX10_lineUp (.code yX10_lineUp cX10_lineUp 6 (some .int)) 1 ∧ Cond.instanceMethod yX10_lineUp ∈ zk_E.2.2.1 ∧ Cond.selects yX10_lineUp.cls yX10_lineUp yX10_lineUp ∈ zk_E.2.2.1 := ⟨⟨zk_b13 27 (by decide +kernel) rfl, zk_b1 6 (by decide +kernel) rfl, zk_b13 24 (by decide +kernel) rfl, by decide +kernel, by decide +kernel, by decide +kernel⟩, zk_b13 26 (by decide +kernel) rfl, zk_s11 (q := (yX10_lineUp, 11)) 1 (by decide +kernel)⟩
theorem zl_X10_130 : zm_L zk_E RX10 130 yX10_moveOne (.code yX10_moveOne cX10_moveOne 5 none) 2 ∧ Cond.instanceMethod yX10_moveOne ∈ zk_E.2.2.1 ∧ Cond.selects yX10_moveOne.cls yX10_moveOne yX10_moveOne ∈ zk_E.2.2.1 := ⟨⟨zk_b13 36 (by decide +kernel) rfl, zk_b1 6 (by decide +kernel) rfl, zk_b13 33 (by decide +kernel) rfl, by decide +kernel, by decide +kernel, by decide +kernel⟩, zk_b13 35 (by decide +kernel) rfl, zk_s11 (q := (yX10_moveOne, 11)) 3 (by decide +kernel)⟩
theorem zl_X12_1 : Cond.methodLink RX12 1 Lib.objectInit ∈ zk_E.2.2.1 ∧ Cond.instanceMethod Lib.objectInit ∈ zk_E.2.2.1 ∧ Cond.code Lib.objectInit ⟨#[0xb1]⟩ 1 none ∈ zk_E.2.2.1 := ⟨zk_b15 80 (by decide +kernel) rfl, zk_b1 43 (by decide +kernel) rfl, zk_b1 44 (by decide +kernel) rfl⟩
theorem zl_X12_7 : Cond.constant RX12 7 (180001 : Int32) ∈ zk_E.2.2.1 := zk_b15 81 (by decide +kernel) rfl
theorem zl_X12_8 : zm_F zk_E RX12 8 12 1 := ⟨RX12, TX12, 29, rfl, zk_i12, by decide, zk_b15 84 (by decide +kernel) rfl⟩
theorem zt_12_1 : zm_T zk_E RX12 12 1 (.array .boolean) true := ⟨RX12, TX12, 29, tyX12, rfl, tyX12_ok, nmX12, rfl, rfl, rfl⟩
theorem zl_X12_14 : Cond.constant RX12 14 (182001 : Int32) ∈ zk_E.2.2.1 := zk_b15 82 (by decide +kernel) rfl
theorem zl_X12_15 : zm_F zk_E RX12 15 12 2 := ⟨RX12, TX12, 29, rfl, zk_i12, by decide, zk_b15 85 (by decide +kernel) rfl⟩
theorem zt_12_2 : zm_T zk_E RX12 12 2 (.array .boolean) true := ⟨RX12, TX12, 29, tyX12, rfl, tyX12_ok, nmX12, rfl, rfl, rfl⟩
theorem zl_X12_18 : zm_F zk_E RX12 18 12 4 := ⟨RX12, TX12, 29, rfl, zk_i12, by decide, zk_b15 87 (by decide +kernel) rfl⟩
theorem zt_12_4 : zm_T zk_E RX12 12 4 (.array .int) true := ⟨RX12, TX12, 29, tyX12, rfl, tyX12_ok, nmX12, rfl, rfl, rfl⟩
theorem zl_X12_22 : zm_F zk_E RX12 22 12 5 := ⟨RX12, TX12, 29, rfl, zk_i12, by decide, zk_b15 89 (by decide +kernel) rfl⟩
theorem zt_12_5 : zm_T zk_E RX12 12 5 (.array .boolean) true := ⟨RX12, TX12, 29, tyX12, rfl, tyX12_ok, nmX12, rfl, rfl, rfl⟩
theorem zl_X12_25 : zm_F zk_E RX12 25 12 6 := ⟨RX12, TX12, 29, rfl, zk_i12, by decide, zk_b15 91 (by decide +kernel) rfl⟩
theorem zt_12_6 : zm_T zk_E RX12 12 6 (.array .boolean) true := ⟨RX12, TX12, 29, tyX12, rfl, tyX12_ok, nmX12, rfl, rfl, rfl⟩
theorem zl_X12_28 : zm_F zk_E RX12 28 12 7 := ⟨RX12, TX12, 29, rfl, zk_i12, by decide, zk_b15 93 (by decide +kernel) rfl⟩
theorem zt_12_7 : zm_T zk_E RX12 12 7 (.array .int) true := ⟨RX12, TX12, 29, tyX12, rfl, tyX12_ok, nmX12, rfl, rfl, rfl⟩
theorem zl_X12_31 : zm_F zk_E RX12 31 12 8 := ⟨RX12, TX12, 29, rfl, zk_i12, by decide, zk_b15 95 (by decide +kernel) rfl⟩
theorem zt_12_8 : zm_T zk_E RX12 12 8 (.array .int) true := ⟨RX12, TX12, 29, tyX12, rfl, tyX12_ok, nmX12, rfl, rfl, rfl⟩
theorem zl_X12_34 : zm_F zk_E RX12 34 12 9 := ⟨RX12, TX12, 29, rfl, zk_i12, by decide, zk_b15 96 (by decide +kernel) rfl⟩
theorem zt_12_9 : zm_T zk_E RX12 12 9 (.array .int) true := ⟨RX12, TX12, 29, tyX12, rfl, tyX12_ok, nmX12, rfl, rfl, rfl⟩
theorem zl_X12_37 : zm_F zk_E RX12 37 12 10 := ⟨RX12, TX12, 29, rfl, zk_i12, by decide, zk_b15 97 (by decide +kernel) rfl⟩
theorem zt_12_10 : zm_T zk_E RX12 12 10 (.array .int) true := ⟨RX12, TX12, 29, tyX12, rfl, tyX12_ok, nmX12, rfl, rfl, rfl⟩
theorem zl_X12_40 : zm_F zk_E RX12 40 12 11 := ⟨RX12, TX12, 29, rfl, zk_i12, by decide, zk_b15 98 (by decide +kernel) rfl⟩
theorem zt_12_11 : zm_T zk_E RX12 12 11 (.array .int) true := ⟨RX12, TX12, 29, tyX12, rfl, tyX12_ok, nmX12, rfl, rfl, rfl⟩
theorem zl_X12_43 : zm_F zk_E RX12 43 12 12 := ⟨RX12, TX12, 29, rfl, zk_i12, by decide, zk_b15 99 (by decide +kernel) rfl⟩
theorem zt_12_12 : zm_T zk_E RX12 12 12 (.array .int) true := ⟨RX12, TX12, 29, tyX12, rfl, tyX12_ok, nmX12, rfl, rfl, rfl⟩
theorem zl_X12_46 : zm_F zk_E RX12 46 12 13 := ⟨RX12, TX12, 29, rfl, zk_i12, by decide, zk_b15 100 (by decide +kernel) rfl⟩
theorem zt_12_13 : zm_T zk_E RX12 12 13 (.array .int) true := ⟨RX12, TX12, 29, tyX12, rfl, tyX12_ok, nmX12, rfl, rfl, rfl⟩
theorem zl_X12_49 : zm_F zk_E RX12 49 12 14 := ⟨RX12, TX12, 29, rfl, zk_i12, by decide, zk_b15 101 (by decide +kernel) rfl⟩
theorem zt_12_14 : zm_T zk_E RX12 12 14 (.array .int) true := ⟨RX12, TX12, 29, tyX12, rfl, tyX12_ok, nmX12, rfl, rfl, rfl⟩
theorem zl_X12_52 : zm_F zk_E RX12 52 12 15 := ⟨RX12, TX12, 29, rfl, zk_i12, by decide, zk_b15 102 (by decide +kernel) rfl⟩
theorem zt_12_15 : zm_T zk_E RX12 12 15 (.array .int) true := ⟨RX12, TX12, 29, tyX12, rfl, tyX12_ok, nmX12, rfl, rfl, rfl⟩
theorem zl_X12_55 : zm_F zk_E RX12 55 12 18 := ⟨RX12, TX12, 29, rfl, zk_i12, by decide, zk_b15 105 (by decide +kernel) rfl⟩
theorem zt_12_18 : zm_T zk_E RX12 12 18 (.array .int) true := ⟨RX12, TX12, 29, tyX12, rfl, tyX12_ok, nmX12, rfl, rfl, rfl⟩
theorem zl_X12_58 : zm_F zk_E RX12 58 12 22 := ⟨RX12, TX12, 29, rfl, zk_i12, by decide, zk_b15 110 (by decide +kernel) rfl⟩
theorem zt_12_22 : zm_T zk_E RX12 12 22 (.array .int) true := ⟨RX12, TX12, 29, tyX12, rfl, tyX12_ok, nmX12, rfl, rfl, rfl⟩
theorem zl_X12_61 : zm_F zk_E RX12 61 12 26 := ⟨RX12, TX12, 29, rfl, zk_i12, by decide, zk_b15 115 (by decide +kernel) rfl⟩
theorem zt_12_26 : zm_T zk_E RX12 12 26 .int false := ⟨RX12, TX12, 29, tyX12, rfl, tyX12_ok, nmX12, rfl, rfl, rfl⟩
theorem zl_X12_65 : zm_F zk_E RX12 65 12 27 := ⟨RX12, TX12, 29, rfl, zk_i12, by decide, zk_b15 117 (by decide +kernel) rfl⟩
theorem zt_12_27 : zm_T zk_E RX12 12 27 (.array .int) true := ⟨RX12, TX12, 29, tyX12, rfl, tyX12_ok, nmX12, rfl, rfl, rfl⟩
theorem zl_X12_68 : zm_L zk_E RX12 68 yX12_check (.code yX12_check cX12_check 5 none) 1 ∧ Cond.instanceMethod yX12_check ∈ zk_E.2.2.1 ∧ Cond.selects yX12_check.cls yX12_check yX12_check ∈ zk_E.2.2.1 := ⟨⟨zk_b20 51 (by decide +kernel) rfl, zk_b1 18 (by decide +kernel) rfl, zk_b20 48 (by decide +kernel) rfl, by decide +kernel, by decide +kernel, by decide +kernel⟩, zk_b20 50 (by decide +kernel) rfl, zk_s17 (q := (yX12_check, 29)) 5 (by decide +kernel)⟩
theorem zl_X12_72 : zm_F zk_E RX12 72 12 3 := ⟨RX12, TX12, 29, rfl, zk_i12, by decide, zk_b15 86 (by decide +kernel) rfl⟩
theorem zl_X12_75 : zm_F zk_E RX12 75 12 0 := ⟨RX12, TX12, 29, rfl, zk_i12, by decide, zk_b15 83 (by decide +kernel) rfl⟩
theorem zt_12_3 : zm_T zk_E RX12 12 3 .int false := ⟨RX12, TX12, 29, tyX12, rfl, tyX12_ok, nmX12, rfl, rfl, rfl⟩
theorem zl_X12_78 : zm_L zk_E RX12 78 yX12_ones (.code yX12_ones cX12_ones 3 (some .int)) 1 ∧ Cond.static yX12_ones ∈ zk_E.2.2.1 := ⟨⟨zk_b21 178 (by decide +kernel) rfl, zk_b1 18 (by decide +kernel) rfl, zk_b21 176 (by decide +kernel) rfl, by decide +kernel, by decide +kernel, by decide +kernel⟩, zk_b21 177 (by decide +kernel) rfl⟩
theorem zl_X12_82 : zm_L zk_E RX12 82 yX12_letterBit (.code yX12_letterBit cX12_letterBit 2 (some .boolean)) 2 ∧ Cond.static yX12_letterBit ∈ zk_E.2.2.1 := ⟨⟨zk_b21 175 (by decide +kernel) rfl, zk_b1 18 (by decide +kernel) rfl, zk_b21 173 (by decide +kernel) rfl, by decide +kernel, by decide +kernel, by decide +kernel⟩, zk_b21 174 (by decide +kernel) rfl⟩
theorem zl_X12_86 : zm_F zk_E RX12 86 12 24 := ⟨RX12, TX12, 29, rfl, zk_i12, by decide, zk_b15 113 (by decide +kernel) rfl⟩
theorem zl_X12_89 : zm_F zk_E RX12 89 12 25 := ⟨RX12, TX12, 29, rfl, zk_i12, by decide, zk_b15 114 (by decide +kernel) rfl⟩
theorem zl_X12_93 : zm_F zk_E RX12 93 12 23 := ⟨RX12, TX12, 29, rfl, zk_i12, by decide, zk_b15 112 (by decide +kernel) rfl⟩
theorem zl_X12_96 : zm_L zk_E RX12 96 yX12_telegramBit (.code yX12_telegramBit cX12_telegramBit 3 (some .boolean)) 2 ∧ Cond.instanceMethod yX12_telegramBit ∈ zk_E.2.2.1 ∧ Cond.selects yX12_telegramBit.cls yX12_telegramBit yX12_telegramBit ∈ zk_E.2.2.1 := ⟨⟨zk_b21 172 (by decide +kernel) rfl, zk_b1 18 (by decide +kernel) rfl, zk_b21 169 (by decide +kernel) rfl, by decide +kernel, by decide +kernel, by decide +kernel⟩, zk_b21 171 (by decide +kernel) rfl, zk_s19 (q := (yX12_telegramBit, 29)) 8 (by decide +kernel)⟩
theorem zl_X12_99 : zm_F zk_E RX12 99 12 28 := ⟨RX12, TX12, 29, rfl, zk_i12, by decide, zk_b15 119 (by decide +kernel) rfl⟩
theorem zl_X12_108 : zm_F zk_E RX12 108 12 20 := ⟨RX12, TX12, 29, rfl, zk_i12, by decide, zk_b15 107 (by decide +kernel) rfl⟩
theorem zt_12_28 : zm_T zk_E RX12 12 28 .int false := ⟨RX12, TX12, 29, tyX12, rfl, tyX12_ok, nmX12, rfl, rfl, rfl⟩
theorem zl_X12_102 : zm_F zk_E RX12 102 12 19 := ⟨RX12, TX12, 29, rfl, zk_i12, by decide, zk_b15 106 (by decide +kernel) rfl⟩
theorem zt_12_19 : zm_T zk_E RX12 12 19 .boolean false := ⟨RX12, TX12, 29, tyX12, rfl, tyX12_ok, nmX12, rfl, rfl, rfl⟩
theorem zl_X12_105 : zm_F zk_E RX12 105 12 17 := ⟨RX12, TX12, 29, rfl, zk_i12, by decide, zk_b15 104 (by decide +kernel) rfl⟩
theorem zt_12_17 : zm_T zk_E RX12 12 17 .int false := ⟨RX12, TX12, 29, tyX12, rfl, tyX12_ok, nmX12, rfl, rfl, rfl⟩
theorem zt_12_20 : zm_T zk_E RX12 12 20 .int false := ⟨RX12, TX12, 29, tyX12, rfl, tyX12_ok, nmX12, rfl, rfl, rfl⟩
theorem zl_X12_111 : zm_F zk_E RX12 111 12 16 := ⟨RX12, TX12, 29, rfl, zk_i12, by decide, zk_b15 103 (by decide +kernel) rfl⟩
theorem zt_12_16 : zm_T zk_E RX12 12 16 .int false := ⟨RX12, TX12, 29, tyX12, rfl, tyX12_ok, nmX12, rfl, rfl, rfl⟩
theorem zl_X12_117 : zm_L zk_E RX12 117 yX12_reads (.code yX12_reads cX12_reads 3 (some .boolean)) 0 ∧ Cond.instanceMethod yX12_reads ∈ zk_E.2.2.1 ∧ Cond.selects yX12_reads.cls yX12_reads yX12_reads ∈ zk_E.2.2.1 := ⟨⟨zk_b21 194 (by decide +kernel) rfl, zk_b1 18 (by decide +kernel) rfl, zk_b21 191 (by decide +kernel) rfl, by decide +kernel, by decide +kernel, by decide +kernel⟩, zk_b21 193 (by decide +kernel) rfl, zk_s19 (q := (yX12_reads, 29)) 12 (by decide +kernel)⟩
theorem zt_12_25 : zm_T zk_E RX12 12 25 .boolean false := ⟨RX12, TX12, 29, tyX12, rfl, tyX12_ok, nmX12, rfl, rfl, rfl⟩
theorem zl_X12_114 : zm_L zk_E RX12 114 yX12_starts (.code yX12_starts cX12_starts 1 none) 0 ∧ Cond.instanceMethod yX12_starts ∈ zk_E.2.2.1 ∧ Cond.selects yX12_starts.cls yX12_starts yX12_starts ∈ zk_E.2.2.1 := ⟨⟨zk_b21 190 (by decide +kernel) rfl, zk_b1 18 (by decide +kernel) rfl, zk_b21 187 (by decide +kernel) rfl, by decide +kernel, by decide +kernel, by decide +kernel⟩, zk_b21 189 (by decide +kernel) rfl, zk_s19 (q := (yX12_starts, 29)) 11 (by decide +kernel)⟩
theorem zl_X12_121 : zm_F zk_E RX12 121 12 21 := ⟨RX12, TX12, 29, rfl, zk_i12, by decide, zk_b15 108 (by decide +kernel) rfl⟩
theorem zt_12_21 : zm_T zk_E RX12 12 21 .int false := ⟨RX12, TX12, 29, tyX12, rfl, tyX12_ok, nmX12, rfl, rfl, rfl⟩
theorem zt_12_23 : zm_T zk_E RX12 12 23 .boolean false := ⟨RX12, TX12, 29, tyX12, rfl, tyX12_ok, nmX12, rfl, rfl, rfl⟩
theorem zt_12_24 : zm_T zk_E RX12 12 24 .int false := ⟨RX12, TX12, 29, tyX12, rfl, tyX12_ok, nmX12, rfl, rfl, rfl⟩
set_option maxHeartbeats 4000000 in
set_option maxRecDepth 100000 in
theorem zt_X10_step {l : Launch} {V : zm_V} {N : Nat} {S : zm_S} {out : (Unit × zm_S)} {d : Nat} {a0 : Nat} {i1 : Int32} {i2 : Int32} {i3 : Int32} (hd : 3 ≤ d) (h : zf_X10_step N a0 i1 i2 i3 S = some out) : zm_Met l zk_E V yX10_step (.code yX10_step cX10_step 4 none) d [.ref a0, .int i1, .int i2, .int i3] S 0 0 (zo_v out) zo_x := by
  refine zm_of (by decide +kernel) (Nat.le_of_ble_eq_true rfl) ?_
  intro p e R s m args below meth c hRR hX hr hxt
  have hR : R.frames = d ∧ R.locals = 64 * d := by rw [hRR]; exact ⟨rfl, rfl⟩
  have hX : zm_X p R s m args meth c RX10 "step" cX10_step 4 zk_E V 0 0 := hX
  unfold zf_X10_step at h
  refine zw_sub (lv' := [(0, .ref a0), (1, .int i1), (2, .int i2), (3, .int i3)]) (List.forall_mem_cons.mpr ⟨rfl, (List.forall_mem_cons.mpr ⟨rfl, (List.forall_mem_cons.mpr ⟨rfl, (List.forall_mem_cons.mpr ⟨rfl, zs_nil⟩)⟩)⟩)⟩) ?_
  refine zw_aload_n hX dX10_step_0 rfl ?_
  obtain ⟨b1, g, h⟩ := zb_some h
  refine zw_getr hX zl_X10_29 dX10_step_1 g ?_
  refine zw_iload_n hX dX10_step_4 rfl ?_
  obtain ⟨b2, g, h⟩ := zb_some h
  refine zw_xr hX dX10_step_5 g ?_
  refine zw_iconst (v := (4 : Int32)) hX dX10_step_6 (by decide) ?_
  refine zw_dup2 hX dX10_step_7 rfl rfl ?_
  obtain ⟨v3, g, h⟩ := zb_some h
  refine zw_xi hX dX10_step_8 g ?_
  refine zw_iconst (v := (1 : Int32)) hX dX10_step_9 (by decide) ?_
  refine zw_iadd hX dX10_step_10 ?_
  obtain ⟨S4, g, h⟩ := zb_some h
  refine zw_si hX dX10_step_11 g ?_
  refine zw_aload_n hX dX10_step_12 rfl ?_
  refine zw_iload_n hX dX10_step_13 rfl ?_
  obtain ⟨_, gi, h⟩ := zb_some h
  obtain ⟨r6, g, h⟩ := zb_some h
  refine zc_Vi (as := [.int i2]) hX gi (zt_X10_isInSpace (d := d - 1) (by omega) g) zl_X10_70 rfl dX10_step_14 ⟨rfl, rfl, Nat.le_of_ble_eq_true rfl⟩ ⟨by omega, by omega⟩ ?_
  refine zw_if_eq (tgt := 46) hX dX10_step_17 (by decide) (fun c17 => ?_) (fun c17 => ?_)
  · rw [if_pos c17] at h
    refine zw_aload_n hX dX10_step_46 rfl ?_
    refine zw_iload_n hX dX10_step_47 rfl ?_
    refine zw_aload_n hX dX10_step_48 rfl ?_
    obtain ⟨_, gi, h⟩ := zb_some h
    obtain ⟨r8, g, h⟩ := zb_some h
    refine zc_Vi (as := []) hX gi (zt_X10_outside (d := d - 1) (by omega) g) zl_X10_102 rfl dX10_step_49 ⟨rfl, rfl, Nat.le_of_ble_eq_true rfl⟩ ⟨by omega, by omega⟩ ?_
    refine zw_iconst (v := (-1 : Int32)) hX dX10_step_52 (by decide) ?_
    refine zw_iconst (v := (-1 : Int32)) hX dX10_step_53 (by decide) ?_
    refine zw_iload_n hX dX10_step_54 rfl ?_
    obtain ⟨_, gi, h⟩ := zb_some h
    obtain ⟨r10, g, h⟩ := zb_some h
    refine zc_Vv (as := [.int i1, .int r8.1, .int (-1 : Int32), .int (-1 : Int32), .int i3]) hX gi (zt_X10_putInto (d := d - 1) (by omega) g) zl_X10_160 rfl dX10_step_55 ⟨rfl, rfl, Nat.le_of_ble_eq_true rfl⟩ ⟨by omega, by omega⟩ ?_
    obtain rfl := Option.some.inj h
    exact zw_vret hX hr dX10_step_58 ⟨rfl, rfl⟩
  · rw [if_neg c17] at h
    refine zw_aload_n hX dX10_step_20 rfl ?_
    refine zw_iload_n hX dX10_step_21 rfl ?_
    refine zw_aload_n hX dX10_step_22 rfl ?_
    obtain ⟨b11, g, h⟩ := zb_some h
    refine zw_getr hX zl_X10_44 dX10_step_23 g ?_
    obtain ⟨b12, g, h⟩ := zb_some h
    refine zw_getNr hX zl_X10_55 dX10_step_26 g ?_
    refine zw_iload_n hX dX10_step_29 rfl ?_
    obtain ⟨v13, g, h⟩ := zb_some h
    refine zw_xi hX dX10_step_30 g ?_
    refine zw_iload_n hX dX10_step_31 rfl ?_
    refine zw_bipush (v := (24 : Int32)) hX dX10_step_32 (by decide) ?_
    refine zw_idiv hX dX10_step_34 (by decide) ?_
    refine zw_iload_n hX dX10_step_35 rfl ?_
    refine zw_bipush (v := (24 : Int32)) hX dX10_step_36 (by decide) ?_
    refine zw_irem hX dX10_step_38 (by decide) ?_
    refine zw_iload_n hX dX10_step_39 rfl ?_
    obtain ⟨_, gi, h⟩ := zb_some h
    obtain ⟨r15, g, h⟩ := zb_some h
    refine zc_Vv (as := [.int i1, .int v13, .int (i2 / (24 : Int32)), .int (i2 - i2 / (24 : Int32) * (24 : Int32)), .int i3]) hX gi (zt_X10_putInto (d := d - 1) (by omega) g) zl_X10_160 rfl dX10_step_40 ⟨rfl, rfl, Nat.le_of_ble_eq_true rfl⟩ ⟨by omega, by omega⟩ ?_
    refine zw_goto (tgt := 58) hX dX10_step_43 (by decide) ?_
    obtain rfl := Option.some.inj h
    exact zw_vret hX hr dX10_step_58 ⟨rfl, rfl⟩
set_option maxHeartbeats 4000000 in
set_option maxRecDepth 100000 in
theorem zt_X10_moveOne_L9 {p : Program} {l : Launch} {e : Env} {R : Room} {s : State} {m : MethodId} {args : Array Value} {below : List Frame} {meth : Method} {c : Code} {V : zm_V} {mc ms d rc rs : Nat} (hX : zm_X p R s m args meth c RX10 "moveOne" cX10_moveOne 5 zk_E V mc ms) (hr : meth.sig.returnType = none) (hR : R.frames = d ∧ R.locals = 64 * d) (hd : 4 ≤ d) {N : Nat} {res : (Unit × zm_S) ⊕ ((Unit) × zm_S)} {out : (Unit × zm_S)} (a0 : Nat) (i1 : Int32) (i2 : Int32) (i3 : Int32) (hf : ∀ o, res = .inl o → o = out) (hk : ∀ (S' : zm_S), res = .inr ((), S') → zw p l e R s m args below meth c (vx_MQ below (zm_Qc zk_E V (zo_v out)) (zm_XC zk_E V zo_x) args s mc ms (fun q => V.2.2.2.1 ≤ q)) 5 zk_E V mc ms 58 [] [] S' rc rs) : ∀ (n : Nat) (i4 : Int32) (S : zm_S), zf_X10_moveOne_L9 N n a0 i1 i2 i3 i4 S = some res → zw p l e R s m args below meth c (vx_MQ below (zm_Qc zk_E V (zo_v out)) (zm_XC zk_E V zo_x) args s mc ms (fun q => V.2.2.2.1 ≤ q)) 5 zk_E V mc ms 9 [(0, .ref a0), (1, .int i1), (2, .int i2), (3, .int i3), (4, .int i4)] [] S rc rs := by
  intro n
  induction n with
  | zero => intro i4 S h; cases h
  | succ n ih =>
    intro i4 S h
    rw [zf_X10_moveOne_L9] at h
    refine zw_iload hX dX10_moveOne_9 rfl ?_
    refine zw_iconst (v := (4 : Int32)) hX dX10_moveOne_11 (by decide) ?_
    refine zw_icmp_ge (tgt := 58) hX dX10_moveOne_12 (by decide) (fun c12 => ?_) (fun c12 => ?_)
    · rw [if_pos c12] at h
      refine zw_sub (lv' := []) zs_nil ?_
      exact hk  _ (Option.some.inj h).symm
    · rw [if_neg c12] at h
      refine zw_aload_n hX dX10_moveOne_15 rfl ?_
      refine zw_iload_n hX dX10_moveOne_16 rfl ?_
      refine zw_iload hX dX10_moveOne_17 rfl ?_
      obtain ⟨_, gi, h⟩ := zb_some h
      obtain ⟨r4, g, h⟩ := zb_some h
      refine zc_Vi (as := [.int i3, .int i4]) hX gi (zt_X10_isBetter (d := d - 1) (by omega) g) zl_X10_140 rfl dX10_moveOne_19 ⟨rfl, rfl, Nat.le_of_ble_eq_true rfl⟩ ⟨by omega, by omega⟩ ?_
      refine zw_if_eq (tgt := 52) hX dX10_moveOne_22 (by decide) (fun c22 => ?_) (fun c22 => ?_)
      · rw [if_pos c22] at h
        refine zw_iinc (v := (i4 + (1 : Int32))) hX dX10_moveOne_52 rfl rfl (by decide) ?_
        refine zw_goto (tgt := 9) hX dX10_moveOne_55 (by decide) ?_
        refine zw_sub (lv' := [(0, .ref a0), (1, .int i1), (2, .int i2), (3, .int i3), (4, .int (i4 + (1 : Int32)))]) (List.forall_mem_cons.mpr ⟨rfl, (List.forall_mem_cons.mpr ⟨rfl, (List.forall_mem_cons.mpr ⟨rfl, (List.forall_mem_cons.mpr ⟨rfl, (List.forall_mem_cons.mpr ⟨rfl, zs_nil⟩)⟩)⟩)⟩)⟩) ?_
        exact ih _ _ h
      · rw [if_neg c22] at h
        refine zw_aload_n hX dX10_moveOne_25 rfl ?_
        refine zw_iload_n hX dX10_moveOne_26 rfl ?_
        refine zw_iload hX dX10_moveOne_27 rfl ?_
        obtain ⟨_, gi, h⟩ := zb_some h
        obtain ⟨r6, g, h⟩ := zb_some h
        refine zc_Vi (as := [.int i3, .int i4]) hX gi (zt_X10_goesThrough (d := d - 1) (by omega) g) zl_X10_143 rfl dX10_moveOne_29 ⟨rfl, rfl, Nat.le_of_ble_eq_true rfl⟩ ⟨by omega, by omega⟩ ?_
        refine zw_if_eq (tgt := 52) hX dX10_moveOne_32 (by decide) (fun c32 => ?_) (fun c32 => ?_)
        · rw [if_pos c32] at h
          refine zw_iinc (v := (i4 + (1 : Int32))) hX dX10_moveOne_52 rfl rfl (by decide) ?_
          refine zw_goto (tgt := 9) hX dX10_moveOne_55 (by decide) ?_
          refine zw_sub (lv' := [(0, .ref a0), (1, .int i1), (2, .int i2), (3, .int i3), (4, .int (i4 + (1 : Int32)))]) (List.forall_mem_cons.mpr ⟨rfl, (List.forall_mem_cons.mpr ⟨rfl, (List.forall_mem_cons.mpr ⟨rfl, (List.forall_mem_cons.mpr ⟨rfl, (List.forall_mem_cons.mpr ⟨rfl, zs_nil⟩)⟩)⟩)⟩)⟩) ?_
          exact ih _ _ h
        · rw [if_neg c32] at h
          refine zw_aload_n hX dX10_moveOne_35 rfl ?_
          refine zw_iload_n hX dX10_moveOne_36 rfl ?_
          refine zw_aload_n hX dX10_moveOne_37 rfl ?_
          obtain ⟨b7, g, h⟩ := zb_some h
          refine zw_getr hX zl_X10_44 dX10_moveOne_38 g ?_
          refine zw_iload_n hX dX10_moveOne_41 rfl ?_
          refine zw_iload hX dX10_moveOne_42 rfl ?_
          obtain ⟨_, gi, h⟩ := zb_some h
          obtain ⟨r9, g, h⟩ := zb_some h
          refine zc_Vi (as := [.int i3, .int i4]) hX gi (zt_X2_cellBeside (d := d - 1) (by omega) g) zl_X10_77 rfl dX10_moveOne_44 ⟨rfl, rfl, Nat.le_of_ble_eq_true rfl⟩ ⟨by omega, by omega⟩ ?_
          refine zw_iload_n hX dX10_moveOne_47 rfl ?_
          obtain ⟨_, gi, h⟩ := zb_some h
          obtain ⟨r11, g, h⟩ := zb_some h
          refine zc_Vv (as := [.int i1, .int r9.1, .int i2]) hX gi (zt_X10_step (d := d - 1) (by omega) g) zl_X10_146 rfl dX10_moveOne_48 ⟨rfl, rfl, Nat.le_of_ble_eq_true rfl⟩ ⟨by omega, by omega⟩ ?_
          have hz := hf _ (Option.some.inj h).symm
          subst hz
          exact zw_vret hX hr dX10_moveOne_51 ⟨rfl, rfl⟩
set_option maxHeartbeats 4000000 in
set_option maxRecDepth 100000 in
theorem zt_X10_moveOne {l : Launch} {V : zm_V} {N : Nat} {S : zm_S} {out : (Unit × zm_S)} {d : Nat} {a0 : Nat} {i1 : Int32} {i2 : Int32} (hd : 4 ≤ d) (h : zf_X10_moveOne N a0 i1 i2 S = some out) : zm_Met l zk_E V yX10_moveOne (.code yX10_moveOne cX10_moveOne 5 none) d [.ref a0, .int i1, .int i2] S 0 0 (zo_v out) zo_x := by
  refine zm_of (by decide +kernel) (Nat.le_of_ble_eq_true rfl) ?_
  intro p e R s m args below meth c hRR hX hr hxt
  have hR : R.frames = d ∧ R.locals = 64 * d := by rw [hRR]; exact ⟨rfl, rfl⟩
  have hX : zm_X p R s m args meth c RX10 "moveOne" cX10_moveOne 5 zk_E V 0 0 := hX
  unfold zf_X10_moveOne at h
  refine zw_sub (lv' := [(0, .ref a0), (1, .int i1), (2, .int i2)]) (List.forall_mem_cons.mpr ⟨rfl, (List.forall_mem_cons.mpr ⟨rfl, (List.forall_mem_cons.mpr ⟨rfl, zs_nil⟩)⟩)⟩) ?_
  refine zw_aload_n hX dX10_moveOne_0 rfl ?_
  refine zw_iload_n hX dX10_moveOne_1 rfl ?_
  obtain ⟨_, gi, h⟩ := zb_some h
  obtain ⟨r2, g, h⟩ := zb_some h
  refine zc_Vi (as := [.int i1]) hX gi (zt_X10_cellOf (d := d - 1) (by omega) g) zl_X10_96 rfl dX10_moveOne_2 ⟨rfl, rfl, Nat.le_of_ble_eq_true rfl⟩ ⟨by omega, by omega⟩ ?_
  refine zw_istore_n hX dX10_moveOne_5 (by decide) ?_
  refine zw_iconst (v := (0 : Int32)) hX dX10_moveOne_6 (by decide) ?_
  refine zw_istore hX dX10_moveOne_7 (by decide) ?_
  obtain ⟨r, g, h⟩ := zb_some h
  refine zw_sub (lv' := [(0, .ref a0), (1, .int i1), (2, .int i2), (3, .int r2.1), (4, .int (0 : Int32))]) (List.forall_mem_cons.mpr ⟨rfl, (List.forall_mem_cons.mpr ⟨rfl, (List.forall_mem_cons.mpr ⟨rfl, (List.forall_mem_cons.mpr ⟨rfl, (List.forall_mem_cons.mpr ⟨rfl, zs_nil⟩)⟩)⟩)⟩)⟩) ?_
  refine zt_X10_moveOne_L9 hX hr hR hd (res := r) (out := out) a0 i1 i2 r2.1 ?_ ?_ N _ _ g
  · intro o ho
    subst ho
    exact Option.some.inj h
  · intro  S12 hx
    subst hx
    try dsimp only at h
    obtain rfl := Option.some.inj h
    exact zw_vret hX hr dX10_moveOne_58 ⟨rfl, rfl⟩
set_option maxHeartbeats 4000000 in
set_option maxRecDepth 100000 in
theorem zt_X10_movePersons_L2 {p : Program} {l : Launch} {e : Env} {R : Room} {s : State} {m : MethodId} {args : Array Value} {below : List Frame} {meth : Method} {c : Code} {V : zm_V} {mc ms d rc rs : Nat} (hX : zm_X p R s m args meth c RX10 "movePersons" cX10_movePersons 4 zk_E V mc ms) (hr : meth.sig.returnType = none) (hR : R.frames = d ∧ R.locals = 64 * d) (hd : 5 ≤ d) {N : Nat} {res : (Unit × zm_S) ⊕ ((Unit) × zm_S)} {out : (Unit × zm_S)} (a0 : Nat) (i1 : Int32) (hf : ∀ o, res = .inl o → o = out) (hk : ∀ (S' : zm_S), res = .inr ((), S') → zw p l e R s m args below meth c (vx_MQ below (zm_Qc zk_E V (zo_v out)) (zm_XC zk_E V zo_x) args s mc ms (fun q => V.2.2.2.1 ≤ q)) 4 zk_E V mc ms 29 [(0, .ref a0), (1, .int i1)] [] S' rc rs) : ∀ (n : Nat) (i2 : Int32) (S : zm_S), zf_X10_movePersons_L2 N n a0 i1 i2 S = some res → zw p l e R s m args below meth c (vx_MQ below (zm_Qc zk_E V (zo_v out)) (zm_XC zk_E V zo_x) args s mc ms (fun q => V.2.2.2.1 ≤ q)) 4 zk_E V mc ms 2 [(0, .ref a0), (1, .int i1), (2, .int i2)] [] S rc rs := by
  intro n
  induction n with
  | zero => intro i2 S h; cases h
  | succ n ih =>
    intro i2 S h
    rw [zf_X10_movePersons_L2] at h
    refine zw_iload_n hX dX10_movePersons_2 rfl ?_
    refine zw_aload_n hX dX10_movePersons_3 rfl ?_
    obtain ⟨b1, g, h⟩ := zb_some h
    refine zw_getr hX zl_X10_40 dX10_movePersons_4 g ?_
    obtain ⟨v2, g, h⟩ := zb_some h
    refine zw_getNi hX zl_X10_118 dX10_movePersons_7 g ?_
    refine zw_icmp_ge (tgt := 29) hX dX10_movePersons_10 (by decide) (fun c10 => ?_) (fun c10 => ?_)
    · rw [if_pos c10] at h
      refine zw_sub (lv' := [(0, .ref a0), (1, .int i1)]) (List.forall_mem_cons.mpr ⟨rfl, (List.forall_mem_cons.mpr ⟨rfl, zs_nil⟩)⟩) ?_
      exact hk  _ (Option.some.inj h).symm
    · rw [if_neg c10] at h
      refine zw_aload_n hX dX10_movePersons_13 rfl ?_
      obtain ⟨b3, g, h⟩ := zb_some h
      refine zw_getr hX zl_X10_37 dX10_movePersons_14 g ?_
      refine zw_iload_n hX dX10_movePersons_17 rfl ?_
      obtain ⟨b4, g, h⟩ := zb_some h
      refine zw_xr hX dX10_movePersons_18 g ?_
      refine zw_iconst (v := (0 : Int32)) hX dX10_movePersons_19 (by decide) ?_
      obtain ⟨r6, g, h⟩ := zb_some h
      refine zc_Sv (as := [.ref b4, .int (0 : Int32)]) hX (zt_J7_fill_53178 (d := d - 1) (by omega) g) zl_X10_121 dX10_movePersons_20 ⟨rfl, rfl, Nat.le_of_ble_eq_true rfl⟩ ⟨by omega, by omega⟩ ?_
      refine zw_iinc (v := (i2 + (1 : Int32))) hX dX10_movePersons_23 rfl rfl (by decide) ?_
      refine zw_goto (tgt := 2) hX dX10_movePersons_26 (by decide) ?_
      refine zw_sub (lv' := [(0, .ref a0), (1, .int i1), (2, .int (i2 + (1 : Int32)))]) (List.forall_mem_cons.mpr ⟨rfl, (List.forall_mem_cons.mpr ⟨rfl, (List.forall_mem_cons.mpr ⟨rfl, zs_nil⟩)⟩)⟩) ?_
      exact ih _ _ h
set_option maxHeartbeats 4000000 in
set_option maxRecDepth 100000 in
theorem zt_X10_movePersons_L37 {p : Program} {l : Launch} {e : Env} {R : Room} {s : State} {m : MethodId} {args : Array Value} {below : List Frame} {meth : Method} {c : Code} {V : zm_V} {mc ms d rc rs : Nat} (hX : zm_X p R s m args meth c RX10 "movePersons" cX10_movePersons 4 zk_E V mc ms) (hr : meth.sig.returnType = none) (hR : R.frames = d ∧ R.locals = 64 * d) (hd : 5 ≤ d) {N : Nat} {res : (Unit × zm_S) ⊕ ((Unit) × zm_S)} {out : (Unit × zm_S)} (a0 : Nat) (i1 : Int32) (i2 : Int32) (hf : ∀ o, res = .inl o → o = out) (hk : ∀ (S' : zm_S), res = .inr ((), S') → zw p l e R s m args below meth c (vx_MQ below (zm_Qc zk_E V (zo_v out)) (zm_XC zk_E V zo_x) args s mc ms (fun q => V.2.2.2.1 ≤ q)) 4 zk_E V mc ms 59 [] [] S' rc rs) : ∀ (n : Nat) (i3 : Int32) (S : zm_S), zf_X10_movePersons_L37 N n a0 i1 i2 i3 S = some res → zw p l e R s m args below meth c (vx_MQ below (zm_Qc zk_E V (zo_v out)) (zm_XC zk_E V zo_x) args s mc ms (fun q => V.2.2.2.1 ≤ q)) 4 zk_E V mc ms 37 [(0, .ref a0), (1, .int i1), (2, .int i2), (3, .int i3)] [] S rc rs := by
  intro n
  induction n with
  | zero => intro i3 S h; cases h
  | succ n ih =>
    intro i3 S h
    rw [zf_X10_movePersons_L37] at h
    refine zw_iload_n hX dX10_movePersons_37 rfl ?_
    refine zw_iload_n hX dX10_movePersons_38 rfl ?_
    refine zw_icmp_ge (tgt := 59) hX dX10_movePersons_39 (by decide) (fun c39 => ?_) (fun c39 => ?_)
    · rw [if_pos c39] at h
      refine zw_sub (lv' := []) zs_nil ?_
      exact hk  _ (Option.some.inj h).symm
    · rw [if_neg c39] at h
      refine zw_aload_n hX dX10_movePersons_42 rfl ?_
      refine zw_aload_n hX dX10_movePersons_43 rfl ?_
      obtain ⟨b10, g, h⟩ := zb_some h
      refine zw_getr hX zl_X10_32 dX10_movePersons_44 g ?_
      refine zw_iload_n hX dX10_movePersons_47 rfl ?_
      obtain ⟨v11, g, h⟩ := zb_some h
      refine zw_xi hX dX10_movePersons_48 g ?_
      refine zw_iload_n hX dX10_movePersons_49 rfl ?_
      obtain ⟨_, gi, h⟩ := zb_some h
      obtain ⟨r13, g, h⟩ := zb_some h
      refine zc_Vv (as := [.int v11, .int i1]) hX gi (zt_X10_moveOne (d := d - 1) (by omega) g) zl_X10_130 rfl dX10_movePersons_50 ⟨rfl, rfl, Nat.le_of_ble_eq_true rfl⟩ ⟨by omega, by omega⟩ ?_
      refine zw_iinc (v := (i3 + (1 : Int32))) hX dX10_movePersons_53 rfl rfl (by decide) ?_
      refine zw_goto (tgt := 37) hX dX10_movePersons_56 (by decide) ?_
      refine zw_sub (lv' := [(0, .ref a0), (1, .int i1), (2, .int i2), (3, .int (i3 + (1 : Int32)))]) (List.forall_mem_cons.mpr ⟨rfl, (List.forall_mem_cons.mpr ⟨rfl, (List.forall_mem_cons.mpr ⟨rfl, (List.forall_mem_cons.mpr ⟨rfl, zs_nil⟩)⟩)⟩)⟩) ?_
      exact ih _ _ h
set_option maxHeartbeats 4000000 in
set_option maxRecDepth 100000 in
theorem zt_X10_movePersons {l : Launch} {V : zm_V} {N : Nat} {S : zm_S} {out : (Unit × zm_S)} {d : Nat} {a0 : Nat} {i1 : Int32} (hd : 5 ≤ d) (h : zf_X10_movePersons N a0 i1 S = some out) : zm_Met l zk_E V yX10_movePersons (.code yX10_movePersons cX10_movePersons 4 none) d [.ref a0, .int i1] S 0 0 (zo_v out) zo_x := by
  refine zm_of (by decide +kernel) (Nat.le_of_ble_eq_true rfl) ?_
  intro p e R s m args below meth c hRR hX hr hxt
  have hR : R.frames = d ∧ R.locals = 64 * d := by rw [hRR]; exact ⟨rfl, rfl⟩
  have hX : zm_X p R s m args meth c RX10 "movePersons" cX10_movePersons 4 zk_E V 0 0 := hX
  unfold zf_X10_movePersons at h
  refine zw_sub (lv' := [(0, .ref a0), (1, .int i1)]) (List.forall_mem_cons.mpr ⟨rfl, (List.forall_mem_cons.mpr ⟨rfl, zs_nil⟩)⟩) ?_
  refine zw_iconst (v := (0 : Int32)) hX dX10_movePersons_0 (by decide) ?_
  refine zw_istore_n hX dX10_movePersons_1 (by decide) ?_
  obtain ⟨r, g, h⟩ := zb_some h
  refine zw_sub (lv' := [(0, .ref a0), (1, .int i1), (2, .int (0 : Int32))]) (List.forall_mem_cons.mpr ⟨rfl, (List.forall_mem_cons.mpr ⟨rfl, (List.forall_mem_cons.mpr ⟨rfl, zs_nil⟩)⟩)⟩) ?_
  refine zt_X10_movePersons_L2 hX hr hR hd (res := r) (out := out) a0 i1 ?_ ?_ N _ _ g
  · intro o ho
    subst ho
    exact Option.some.inj h
  · intro  S7 hx
    subst hx
    try dsimp only at h
    refine zw_aload_n hX dX10_movePersons_29 rfl ?_
    refine zw_iload_n hX dX10_movePersons_30 rfl ?_
    obtain ⟨_, gi, h⟩ := zb_some h
    obtain ⟨r9, g, h⟩ := zb_some h
    refine zc_Vi (as := [.int i1]) hX gi (zt_X10_lineUp (d := d - 1) (by omega) g) zl_X10_127 rfl dX10_movePersons_31 ⟨rfl, rfl, Nat.le_of_ble_eq_true rfl⟩ ⟨by omega, by omega⟩ ?_
    refine zw_istore_n hX dX10_movePersons_34 (by decide) ?_
    refine zw_iconst (v := (0 : Int32)) hX dX10_movePersons_35 (by decide) ?_
    refine zw_istore_n hX dX10_movePersons_36 (by decide) ?_
    obtain ⟨r, g, h⟩ := zb_some h
    refine zw_sub (lv' := [(0, .ref a0), (1, .int i1), (2, .int r9.1), (3, .int (0 : Int32))]) (List.forall_mem_cons.mpr ⟨rfl, (List.forall_mem_cons.mpr ⟨rfl, (List.forall_mem_cons.mpr ⟨rfl, (List.forall_mem_cons.mpr ⟨rfl, zs_nil⟩)⟩)⟩)⟩) ?_
    refine zt_X10_movePersons_L37 hX hr hR hd (res := r) (out := out) a0 i1 r9.1 ?_ ?_ N _ _ g
    · intro o ho
      subst ho
      exact Option.some.inj h
    · intro  S14 hx
      subst hx
      try dsimp only at h
      obtain rfl := Option.some.inj h
      exact zw_vret hX hr dX10_movePersons_59 ⟨rfl, rfl⟩
set_option maxHeartbeats 4000000 in
set_option maxRecDepth 100000 in
theorem zt_X12_init_L150 {p : Program} {l : Launch} {e : Env} {R : Room} {s : State} {m : MethodId} {args : Array Value} {below : List Frame} {meth : Method} {c : Code} {V : zm_V} {mc ms d rc rs : Nat} (hX : zm_X p R s m args meth c RX12 "<init>" cX12_init 2 zk_E V mc ms) (hr : meth.sig.returnType = none) (hR : R.frames = d ∧ R.locals = 64 * d) (hd : 2 ≤ d) {N : Nat} {res : (Unit × zm_S) ⊕ ((Unit) × zm_S)} {out : (Unit × zm_S)} (a0 : Nat) (hf : ∀ o, res = .inl o → o = out) (hk : ∀ (S' : zm_S), res = .inr ((), S') → zw p l e R s m args below meth c (vx_MQ below (zm_Qc zk_E V (zo_v out)) (zm_XC zk_E V zo_x) args s mc ms (fun q => V.2.2.2.1 ≤ q)) 2 zk_E V mc ms 190 [] [] S' rc rs) : ∀ (n : Nat) (i1 : Int32) (S : zm_S), zf_X12_init_L150 N n a0 i1 S = some res → zw p l e R s m args below meth c (vx_MQ below (zm_Qc zk_E V (zo_v out)) (zm_XC zk_E V zo_x) args s mc ms (fun q => V.2.2.2.1 ≤ q)) 2 zk_E V mc ms 150 [(0, .ref a0), (1, .int i1)] [] S rc rs := by
  intro n
  induction n with
  | zero => intro i1 S h; cases h
  | succ n ih =>
    intro i1 S h
    rw [zf_X12_init_L150] at h
    refine zw_iload_n hX dX12_init_150 rfl ?_
    refine zw_bipush (v := (8 : Int32)) hX dX12_init_151 (by decide) ?_
    refine zw_icmp_ge (tgt := 190) hX dX12_init_153 (by decide) (fun c153 => ?_) (fun c153 => ?_)
    · rw [if_pos c153] at h
      refine zw_sub (lv' := []) zs_nil ?_
      exact hk  _ (Option.some.inj h).symm
    · rw [if_neg c153] at h
      refine zw_aload_n hX dX12_init_156 rfl ?_
      obtain ⟨b36, g, h⟩ := zb_some h
      refine zw_getr hX zl_X12_18 dX12_init_157 g ?_
      refine zw_iload_n hX dX12_init_160 rfl ?_
      refine zw_iload_n hX dX12_init_161 rfl ?_
      obtain ⟨S37, g, h⟩ := zb_some h
      refine zw_si hX dX12_init_162 g ?_
      refine zw_aload_n hX dX12_init_163 rfl ?_
      obtain ⟨b38, g, h⟩ := zb_some h
      refine zw_getr hX zl_X12_34 dX12_init_164 g ?_
      refine zw_iload_n hX dX12_init_167 rfl ?_
      refine zw_iconst (v := (-1 : Int32)) hX dX12_init_168 (by decide) ?_
      obtain ⟨S39, g, h⟩ := zb_some h
      refine zw_si hX dX12_init_169 g ?_
      refine zw_aload_n hX dX12_init_170 rfl ?_
      obtain ⟨b40, g, h⟩ := zb_some h
      refine zw_getr hX zl_X12_37 dX12_init_171 g ?_
      refine zw_iload_n hX dX12_init_174 rfl ?_
      refine zw_iconst (v := (-1 : Int32)) hX dX12_init_175 (by decide) ?_
      obtain ⟨S41, g, h⟩ := zb_some h
      refine zw_si hX dX12_init_176 g ?_
      refine zw_aload_n hX dX12_init_177 rfl ?_
      obtain ⟨b42, g, h⟩ := zb_some h
      refine zw_getr hX zl_X12_40 dX12_init_178 g ?_
      refine zw_iload_n hX dX12_init_181 rfl ?_
      refine zw_iconst (v := (-1 : Int32)) hX dX12_init_182 (by decide) ?_
      obtain ⟨S43, g, h⟩ := zb_some h
      refine zw_si hX dX12_init_183 g ?_
      refine zw_iinc (v := (i1 + (1 : Int32))) hX dX12_init_184 rfl rfl (by decide) ?_
      refine zw_goto (tgt := 150) hX dX12_init_187 (by decide) ?_
      refine zw_sub (lv' := [(0, .ref a0), (1, .int (i1 + (1 : Int32)))]) (List.forall_mem_cons.mpr ⟨rfl, (List.forall_mem_cons.mpr ⟨rfl, zs_nil⟩)⟩) ?_
      exact ih _ _ h
set_option maxHeartbeats 4000000 in
set_option maxRecDepth 100000 in
theorem zt_X12_init {l : Launch} {V : zm_V} {N : Nat} {S : zm_S} {out : (Unit × zm_S)} {d : Nat} {a0 : Nat} (hd : 2 ≤ d) (h : zf_X12_init N a0 S = some out) : zm_Met l zk_E V yX12_init (.code yX12_init cX12_init 2 none) d [.ref a0] S 17 393287 (zo_v out) zo_x := by
  refine zm_of (by decide +kernel) (Nat.le_of_ble_eq_true rfl) ?_
  intro p e R s m args below meth c hRR hX hr hxt
  have hR : R.frames = d ∧ R.locals = 64 * d := by rw [hRR]; exact ⟨rfl, rfl⟩
  have hX : zm_X p R s m args meth c RX12 "<init>" cX12_init 2 zk_E V 17 393287 := hX
  unfold zf_X12_init at h
  refine zw_sub (lv' := [(0, .ref a0)]) (List.forall_mem_cons.mpr ⟨rfl, zs_nil⟩) ?_
  refine zw_aload_n hX dX12_init_0 rfl ?_
  refine zw_objInit hX zl_X12_1.1 zl_X12_1.2.1 zl_X12_1.2.2 dX12_init_1 (by omega) (by show 0 + 12 ≤ R.locals; omega) ?_
  refine zw_aload_n hX dX12_init_4 rfl ?_
  refine zw_ldc (v := (180001 : Int32)) hX dX12_init_5 zl_X12_7 ?_
  obtain ⟨S1, g, h⟩ := zb_some h
  refine zw_nb (b := 180001) hX zk_ab dX12_init_7 (by omega) (by omega) (by decide) g ?_
  obtain ⟨S2, g, h⟩ := zb_some h
  refine zw_putvF hX zl_X12_8 zt_12_1 dX12_init_9 rfl rfl g ?_
  refine zw_aload_n hX dX12_init_12 rfl ?_
  refine zw_ldc (v := (182001 : Int32)) hX dX12_init_13 zl_X12_14 ?_
  obtain ⟨S3, g, h⟩ := zb_some h
  refine zw_nb (b := 182001) hX zk_ab dX12_init_15 (by omega) (by omega) (by decide) g ?_
  obtain ⟨S4, g, h⟩ := zb_some h
  refine zw_putvF hX zl_X12_15 zt_12_2 dX12_init_17 rfl rfl g ?_
  refine zw_aload_n hX dX12_init_20 rfl ?_
  refine zw_bipush (v := (8 : Int32)) hX dX12_init_21 (by decide) ?_
  obtain ⟨S5, g, h⟩ := zb_some h
  refine zw_ni (b := 8) hX zk_ai dX12_init_23 (by omega) (by omega) (by decide) g ?_
  obtain ⟨S6, g, h⟩ := zb_some h
  refine zw_putvF hX zl_X12_18 zt_12_4 dX12_init_25 rfl rfl g ?_
  refine zw_aload_n hX dX12_init_28 rfl ?_
  refine zw_sipush (v := (2048 : Int32)) hX dX12_init_29 (by decide) ?_
  obtain ⟨S7, g, h⟩ := zb_some h
  refine zw_nb (b := 2048) hX zk_ab dX12_init_32 (by omega) (by omega) (by decide) g ?_
  obtain ⟨S8, g, h⟩ := zb_some h
  refine zw_putvF hX zl_X12_22 zt_12_5 dX12_init_34 rfl rfl g ?_
  refine zw_aload_n hX dX12_init_37 rfl ?_
  refine zw_bipush (v := (8 : Int32)) hX dX12_init_38 (by decide) ?_
  obtain ⟨S9, g, h⟩ := zb_some h
  refine zw_nb (b := 8) hX zk_ab dX12_init_40 (by omega) (by omega) (by decide) g ?_
  obtain ⟨S10, g, h⟩ := zb_some h
  refine zw_putvF hX zl_X12_25 zt_12_6 dX12_init_42 rfl rfl g ?_
  refine zw_aload_n hX dX12_init_45 rfl ?_
  refine zw_bipush (v := (8 : Int32)) hX dX12_init_46 (by decide) ?_
  obtain ⟨S11, g, h⟩ := zb_some h
  refine zw_ni (b := 8) hX zk_ai dX12_init_48 (by omega) (by omega) (by decide) g ?_
  obtain ⟨S12, g, h⟩ := zb_some h
  refine zw_putvF hX zl_X12_28 zt_12_7 dX12_init_50 rfl rfl g ?_
  refine zw_aload_n hX dX12_init_53 rfl ?_
  refine zw_sipush (v := (1152 : Int32)) hX dX12_init_54 (by decide) ?_
  obtain ⟨S13, g, h⟩ := zb_some h
  refine zw_ni (b := 1152) hX zk_ai dX12_init_57 (by omega) (by omega) (by decide) g ?_
  obtain ⟨S14, g, h⟩ := zb_some h
  refine zw_putvF hX zl_X12_31 zt_12_8 dX12_init_59 rfl rfl g ?_
  refine zw_aload_n hX dX12_init_62 rfl ?_
  refine zw_bipush (v := (8 : Int32)) hX dX12_init_63 (by decide) ?_
  obtain ⟨S15, g, h⟩ := zb_some h
  refine zw_ni (b := 8) hX zk_ai dX12_init_65 (by omega) (by omega) (by decide) g ?_
  obtain ⟨S16, g, h⟩ := zb_some h
  refine zw_putvF hX zl_X12_34 zt_12_9 dX12_init_67 rfl rfl g ?_
  refine zw_aload_n hX dX12_init_70 rfl ?_
  refine zw_bipush (v := (8 : Int32)) hX dX12_init_71 (by decide) ?_
  obtain ⟨S17, g, h⟩ := zb_some h
  refine zw_ni (b := 8) hX zk_ai dX12_init_73 (by omega) (by omega) (by decide) g ?_
  obtain ⟨S18, g, h⟩ := zb_some h
  refine zw_putvF hX zl_X12_37 zt_12_10 dX12_init_75 rfl rfl g ?_
  refine zw_aload_n hX dX12_init_78 rfl ?_
  refine zw_bipush (v := (8 : Int32)) hX dX12_init_79 (by decide) ?_
  obtain ⟨S19, g, h⟩ := zb_some h
  refine zw_ni (b := 8) hX zk_ai dX12_init_81 (by omega) (by omega) (by decide) g ?_
  obtain ⟨S20, g, h⟩ := zb_some h
  refine zw_putvF hX zl_X12_40 zt_12_11 dX12_init_83 rfl rfl g ?_
  refine zw_aload_n hX dX12_init_86 rfl ?_
  refine zw_bipush (v := (8 : Int32)) hX dX12_init_87 (by decide) ?_
  obtain ⟨S21, g, h⟩ := zb_some h
  refine zw_ni (b := 8) hX zk_ai dX12_init_89 (by omega) (by omega) (by decide) g ?_
  obtain ⟨S22, g, h⟩ := zb_some h
  refine zw_putvF hX zl_X12_43 zt_12_12 dX12_init_91 rfl rfl g ?_
  refine zw_aload_n hX dX12_init_94 rfl ?_
  refine zw_bipush (v := (8 : Int32)) hX dX12_init_95 (by decide) ?_
  obtain ⟨S23, g, h⟩ := zb_some h
  refine zw_ni (b := 8) hX zk_ai dX12_init_97 (by omega) (by omega) (by decide) g ?_
  obtain ⟨S24, g, h⟩ := zb_some h
  refine zw_putvF hX zl_X12_46 zt_12_13 dX12_init_99 rfl rfl g ?_
  refine zw_aload_n hX dX12_init_102 rfl ?_
  refine zw_bipush (v := (8 : Int32)) hX dX12_init_103 (by decide) ?_
  obtain ⟨S25, g, h⟩ := zb_some h
  refine zw_ni (b := 8) hX zk_ai dX12_init_105 (by omega) (by omega) (by decide) g ?_
  obtain ⟨S26, g, h⟩ := zb_some h
  refine zw_putvF hX zl_X12_49 zt_12_14 dX12_init_107 rfl rfl g ?_
  refine zw_aload_n hX dX12_init_110 rfl ?_
  refine zw_bipush (v := (8 : Int32)) hX dX12_init_111 (by decide) ?_
  obtain ⟨S27, g, h⟩ := zb_some h
  refine zw_ni (b := 8) hX zk_ai dX12_init_113 (by omega) (by omega) (by decide) g ?_
  obtain ⟨S28, g, h⟩ := zb_some h
  refine zw_putvF hX zl_X12_52 zt_12_15 dX12_init_115 rfl rfl g ?_
  refine zw_aload_n hX dX12_init_118 rfl ?_
  refine zw_sipush (v := (14000 : Int32)) hX dX12_init_119 (by decide) ?_
  obtain ⟨S29, g, h⟩ := zb_some h
  refine zw_ni (b := 14000) hX zk_ai dX12_init_122 (by omega) (by omega) (by decide) g ?_
  obtain ⟨S30, g, h⟩ := zb_some h
  refine zw_putvF hX zl_X12_55 zt_12_18 dX12_init_124 rfl rfl g ?_
  refine zw_aload_n hX dX12_init_127 rfl ?_
  refine zw_sipush (v := (14000 : Int32)) hX dX12_init_128 (by decide) ?_
  obtain ⟨S31, g, h⟩ := zb_some h
  refine zw_ni (b := 14000) hX zk_ai dX12_init_131 (by omega) (by omega) (by decide) g ?_
  obtain ⟨S32, g, h⟩ := zb_some h
  refine zw_putvF hX zl_X12_58 zt_12_22 dX12_init_133 rfl rfl g ?_
  refine zw_aload_n hX dX12_init_136 rfl ?_
  refine zw_iconst (v := (-1 : Int32)) hX dX12_init_137 (by decide) ?_
  obtain ⟨S33, g, h⟩ := zb_some h
  refine zw_putv hX zl_X12_61 zt_12_26 dX12_init_138 rfl rfl g ?_
  refine zw_aload_n hX dX12_init_141 rfl ?_
  refine zw_iconst (v := (5 : Int32)) hX dX12_init_142 (by decide) ?_
  obtain ⟨S34, g, h⟩ := zb_some h
  refine zw_ni (b := 5) hX zk_ai dX12_init_143 (by omega) (by omega) (by decide) g ?_
  obtain ⟨S35, g, h⟩ := zb_some h
  refine zw_putvF hX zl_X12_65 zt_12_27 dX12_init_145 rfl rfl g ?_
  refine zw_iconst (v := (0 : Int32)) hX dX12_init_148 (by decide) ?_
  refine zw_istore_n hX dX12_init_149 (by decide) ?_
  obtain ⟨r, g, h⟩ := zb_some h
  refine zw_sub (lv' := [(0, .ref a0), (1, .int (0 : Int32))]) (List.forall_mem_cons.mpr ⟨rfl, (List.forall_mem_cons.mpr ⟨rfl, zs_nil⟩)⟩) ?_
  refine zt_X12_init_L150 hX hr hR hd (res := r) (out := out) a0 ?_ ?_ N _ _ g
  · intro o ho
    subst ho
    exact Option.some.inj h
  · intro  S44 hx
    subst hx
    try dsimp only at h
    obtain rfl := Option.some.inj h
    exact zw_vret hX hr dX12_init_190 ⟨rfl, rfl⟩
set_option maxHeartbeats 4000000 in
set_option maxRecDepth 100000 in
theorem zt_X12_check_L17 {p : Program} {l : Launch} {e : Env} {R : Room} {s : State} {m : MethodId} {args : Array Value} {below : List Frame} {meth : Method} {c : Code} {V : zm_V} {mc ms d rc rs : Nat} (hX : zm_X p R s m args meth c RX12 "check" cX12_check 5 zk_E V mc ms) (hr : meth.sig.returnType = none) (hR : R.frames = d ∧ R.locals = 64 * d) (hd : 1 ≤ d) {N : Nat} {res : (Unit × zm_S) ⊕ ((Int32) × zm_S)} {out : (Unit × zm_S)} (a0 : Nat) (i1 : Int32) (i2 : Int32) (hf : ∀ o, res = .inl o → o = out) (hk : ∀ (x3 : Int32) (S' : zm_S), res = .inr (x3, S') → zw p l e R s m args below meth c (vx_MQ below (zm_Qc zk_E V (zo_v out)) (zm_XC zk_E V zo_x) args s mc ms (fun q => V.2.2.2.1 ≤ q)) 5 zk_E V mc ms 43 [(0, .ref a0), (1, .int i1), (2, .int i2), (3, .int x3)] [] S' rc rs) : ∀ (n : Nat) (i3 : Int32) (i4 : Int32) (S : zm_S), zf_X12_check_L17 N n a0 i1 i2 i3 i4 S = some res → zw p l e R s m args below meth c (vx_MQ below (zm_Qc zk_E V (zo_v out)) (zm_XC zk_E V zo_x) args s mc ms (fun q => V.2.2.2.1 ≤ q)) 5 zk_E V mc ms 17 [(0, .ref a0), (1, .int i1), (2, .int i2), (3, .int i3), (4, .int i4)] [] S rc rs := by
  intro n
  induction n with
  | zero => intro i3 i4 S h; cases h
  | succ n ih =>
    intro i3 i4 S h
    rw [zf_X12_check_L17] at h
    refine zw_iload hX dX12_check_17 rfl ?_
    refine zw_iload_n hX dX12_check_19 rfl ?_
    refine zw_iconst (v := (1 : Int32)) hX dX12_check_20 (by decide) ?_
    refine zw_isub hX dX12_check_21 ?_
    refine zw_icmp_ge (tgt := 43) hX dX12_check_22 (by decide) (fun c22 => ?_) (fun c22 => ?_)
    · rw [if_pos c22] at h
      refine zw_sub (lv' := [(0, .ref a0), (1, .int i1), (2, .int i2), (3, .int i3)]) (List.forall_mem_cons.mpr ⟨rfl, (List.forall_mem_cons.mpr ⟨rfl, (List.forall_mem_cons.mpr ⟨rfl, (List.forall_mem_cons.mpr ⟨rfl, zs_nil⟩)⟩)⟩)⟩) ?_
      exact hk _ _ (Option.some.inj h).symm
    · rw [if_neg c22] at h
      refine zw_iload_n hX dX12_check_25 rfl ?_
      refine zw_aload_n hX dX12_check_26 rfl ?_
      obtain ⟨b3, g, h⟩ := zb_some h
      refine zw_getr hX zl_X12_31 dX12_check_27 g ?_
      refine zw_iload_n hX dX12_check_30 rfl ?_
      refine zw_iload hX dX12_check_31 rfl ?_
      refine zw_iadd hX dX12_check_33 ?_
      obtain ⟨v4, g, h⟩ := zb_some h
      refine zw_xi hX dX12_check_34 g ?_
      refine zw_ixor hX dX12_check_35 ?_
      refine zw_istore_n hX dX12_check_36 (by decide) ?_
      refine zw_iinc (v := (i4 + (1 : Int32))) hX dX12_check_37 rfl rfl (by decide) ?_
      refine zw_goto (tgt := 17) hX dX12_check_40 (by decide) ?_
      refine zw_sub (lv' := [(0, .ref a0), (1, .int i1), (2, .int i2), (3, .int (i3 ^^^ v4)), (4, .int (i4 + (1 : Int32)))]) (List.forall_mem_cons.mpr ⟨rfl, (List.forall_mem_cons.mpr ⟨rfl, (List.forall_mem_cons.mpr ⟨rfl, (List.forall_mem_cons.mpr ⟨rfl, (List.forall_mem_cons.mpr ⟨rfl, zs_nil⟩)⟩)⟩)⟩)⟩) ?_
      exact ih _ _ _ h
set_option maxHeartbeats 4000000 in
set_option maxRecDepth 100000 in
theorem zt_X12_check {l : Launch} {V : zm_V} {N : Nat} {S : zm_S} {out : (Unit × zm_S)} {d : Nat} {a0 : Nat} {i1 : Int32} (hd : 1 ≤ d) (h : zf_X12_check N a0 i1 S = some out) : zm_Met l zk_E V yX12_check (.code yX12_check cX12_check 5 none) d [.ref a0, .int i1] S 0 0 (zo_v out) zo_x := by
  refine zm_of (by decide +kernel) (Nat.le_of_ble_eq_true rfl) ?_
  intro p e R s m args below meth c hRR hX hr hxt
  have hR : R.frames = d ∧ R.locals = 64 * d := by rw [hRR]; exact ⟨rfl, rfl⟩
  have hX : zm_X p R s m args meth c RX12 "check" cX12_check 5 zk_E V 0 0 := hX
  unfold zf_X12_check at h
  refine zw_sub (lv' := [(0, .ref a0), (1, .int i1)]) (List.forall_mem_cons.mpr ⟨rfl, (List.forall_mem_cons.mpr ⟨rfl, zs_nil⟩)⟩) ?_
  refine zw_aload_n hX dX12_check_0 rfl ?_
  obtain ⟨b1, g, h⟩ := zb_some h
  refine zw_getr hX zl_X12_31 dX12_check_1 g ?_
  refine zw_iload_n hX dX12_check_4 rfl ?_
  refine zw_bipush (v := (21 : Int32)) hX dX12_check_5 (by decide) ?_
  refine zw_iadd hX dX12_check_7 ?_
  obtain ⟨v2, g, h⟩ := zb_some h
  refine zw_xi hX dX12_check_8 g ?_
  refine zw_istore_n hX dX12_check_9 (by decide) ?_
  refine zw_sipush (v := (255 : Int32)) hX dX12_check_10 (by decide) ?_
  refine zw_istore_n hX dX12_check_13 (by decide) ?_
  refine zw_iconst (v := (0 : Int32)) hX dX12_check_14 (by decide) ?_
  refine zw_istore hX dX12_check_15 (by decide) ?_
  obtain ⟨r, g, h⟩ := zb_some h
  refine zw_sub (lv' := [(0, .ref a0), (1, .int i1), (2, .int v2), (3, .int (255 : Int32)), (4, .int (0 : Int32))]) (List.forall_mem_cons.mpr ⟨rfl, (List.forall_mem_cons.mpr ⟨rfl, (List.forall_mem_cons.mpr ⟨rfl, (List.forall_mem_cons.mpr ⟨rfl, (List.forall_mem_cons.mpr ⟨rfl, zs_nil⟩)⟩)⟩)⟩)⟩) ?_
  refine zt_X12_check_L17 hX hr hR hd (res := r) (out := out) a0 i1 v2 ?_ ?_ N _ _ _ g
  · intro o ho
    subst ho
    exact Option.some.inj h
  · intro v6 S5 hx
    subst hx
    try dsimp only at h
    refine zw_aload_n hX dX12_check_43 rfl ?_
    obtain ⟨b7, g, h⟩ := zb_some h
    refine zw_getr hX zl_X12_31 dX12_check_44 g ?_
    refine zw_iload_n hX dX12_check_47 rfl ?_
    refine zw_iload_n hX dX12_check_48 rfl ?_
    refine zw_iadd hX dX12_check_49 ?_
    refine zw_iconst (v := (1 : Int32)) hX dX12_check_50 (by decide) ?_
    refine zw_isub hX dX12_check_51 ?_
    refine zw_iload_n hX dX12_check_52 rfl ?_
    obtain ⟨S8, g, h⟩ := zb_some h
    refine zw_si hX dX12_check_53 g ?_
    obtain rfl := Option.some.inj h
    exact zw_vret hX hr dX12_check_54 ⟨rfl, rfl⟩
set_option maxHeartbeats 4000000 in
set_option maxRecDepth 100000 in
theorem zt_X12_send_L125 {p : Program} {l : Launch} {e : Env} {R : Room} {s : State} {m : MethodId} {args : Array Value} {below : List Frame} {meth : Method} {c : Code} {V : zm_V} {mc ms d rc rs : Nat} (hX : zm_X p R s m args meth c RX12 "send" cX12_send 9 zk_E V mc ms) (hr : meth.sig.returnType = (some .int)) (hR : R.frames = d ∧ R.locals = 64 * d) (hd : 2 ≤ d) {N : Nat} {res : (Int32 × zm_S) ⊕ ((Unit) × zm_S)} {out : (Int32 × zm_S)} (a0 : Nat) (i1 : Int32) (i2 : Int32) (i5 : Int32) (i6 : Int32) (i7 : Int32) (hf : ∀ o, res = .inl o → o = out) (hk : ∀ (S' : zm_S), res = .inr ((), S') → zw p l e R s m args below meth c (vx_MQ below (zm_Qc zk_E V (zo_i out)) (zm_XC zk_E V zo_x) args s mc ms (fun q => V.2.2.2.1 ≤ q)) 9 zk_E V mc ms 160 [(0, .ref a0), (1, .int i1), (2, .int i2), (5, .int i5), (7, .int i7)] [] S' rc rs) : ∀ (n : Nat) (i8 : Int32) (S : zm_S), zf_X12_send_L125 N n a0 i1 i2 i5 i6 i7 i8 S = some res → zw p l e R s m args below meth c (vx_MQ below (zm_Qc zk_E V (zo_i out)) (zm_XC zk_E V zo_x) args s mc ms (fun q => V.2.2.2.1 ≤ q)) 9 zk_E V mc ms 125 [(0, .ref a0), (1, .int i1), (2, .int i2), (5, .int i5), (6, .int i6), (7, .int i7), (8, .int i8)] [] S rc rs := by
  intro n
  induction n with
  | zero => intro i8 S h; cases h
  | succ n ih =>
    intro i8 S h
    rw [zf_X12_send_L125] at h
    refine zw_iload hX dX12_send_125 rfl ?_
    refine zw_iload hX dX12_send_127 rfl ?_
    refine zw_icmp_ge (tgt := 160) hX dX12_send_129 (by decide) (fun c129 => ?_) (fun c129 => ?_)
    · rw [if_pos c129] at h
      refine zw_sub (lv' := [(0, .ref a0), (1, .int i1), (2, .int i2), (5, .int i5), (7, .int i7)]) (List.forall_mem_cons.mpr ⟨rfl, (List.forall_mem_cons.mpr ⟨rfl, (List.forall_mem_cons.mpr ⟨rfl, (List.forall_mem_cons.mpr ⟨rfl, (List.forall_mem_cons.mpr ⟨rfl, zs_nil⟩)⟩)⟩)⟩)⟩) ?_
      exact hk  _ (Option.some.inj h).symm
    · rw [if_neg c129] at h
      refine zw_aload_n hX dX12_send_132 rfl ?_
      obtain ⟨b19, g, h⟩ := zb_some h
      refine zw_getr hX zl_X12_31 dX12_send_133 g ?_
      refine zw_iload hX dX12_send_136 rfl ?_
      refine zw_bipush (v := (6 : Int32)) hX dX12_send_138 (by decide) ?_
      refine zw_iadd hX dX12_send_140 ?_
      refine zw_iload hX dX12_send_141 rfl ?_
      refine zw_iadd hX dX12_send_143 ?_
      refine zw_iload hX dX12_send_144 rfl ?_
      refine zw_iload hX dX12_send_146 rfl ?_
      refine zw_iadd hX dX12_send_148 ?_
      refine zw_sipush (v := (256 : Int32)) hX dX12_send_149 (by decide) ?_
      refine zw_irem hX dX12_send_152 (by decide) ?_
      obtain ⟨S20, g, h⟩ := zb_some h
      refine zw_si hX dX12_send_153 g ?_
      refine zw_iinc (v := (i8 + (1 : Int32))) hX dX12_send_154 rfl rfl (by decide) ?_
      refine zw_goto (tgt := 125) hX dX12_send_157 (by decide) ?_
      refine zw_sub (lv' := [(0, .ref a0), (1, .int i1), (2, .int i2), (5, .int i5), (6, .int i6), (7, .int i7), (8, .int (i8 + (1 : Int32)))]) (List.forall_mem_cons.mpr ⟨rfl, (List.forall_mem_cons.mpr ⟨rfl, (List.forall_mem_cons.mpr ⟨rfl, (List.forall_mem_cons.mpr ⟨rfl, (List.forall_mem_cons.mpr ⟨rfl, (List.forall_mem_cons.mpr ⟨rfl, (List.forall_mem_cons.mpr ⟨rfl, zs_nil⟩)⟩)⟩)⟩)⟩)⟩)⟩) ?_
      exact ih _ _ h
set_option maxHeartbeats 4000000 in
set_option maxRecDepth 100000 in
theorem zt_X12_send_J120 {p : Program} {l : Launch} {e : Env} {R : Room} {s : State} {m : MethodId} {args : Array Value} {below : List Frame} {meth : Method} {c : Code} {V : zm_V} {mc ms d rc rs : Nat} (hX : zm_X p R s m args meth c RX12 "send" cX12_send 9 zk_E V mc ms) (hr : meth.sig.returnType = (some .int)) (hR : R.frames = d ∧ R.locals = 64 * d) (hd : 2 ≤ d) {N : Nat} {a0 : Nat} {i1 : Int32} {i2 : Int32} {i5 : Int32} {i6 : Int32} {i7 : Int32} {t0 : Nat} {t1 : Int32} {t2 : Int32} {t3 : Int32} {out : (Int32 × zm_S)} {S : zm_S} (h : zf_X12_send_J120 N a0 i1 i2 i5 i6 i7 t0 t1 t2 t3 S = some out) : zw p l e R s m args below meth c (vx_MQ below (zm_Qc zk_E V (zo_i out)) (zm_XC zk_E V zo_x) args s mc ms (fun q => V.2.2.2.1 ≤ q)) 9 zk_E V mc ms 120 [(0, .ref a0), (1, .int i1), (2, .int i2), (5, .int i5), (6, .int i6), (7, .int i7)] [.int t3, .int t2, .int t1, .ref t0] S rc rs := by
  unfold zf_X12_send_J120 at h
  refine zw_iadd hX dX12_send_120 ?_
  obtain ⟨S18, g, h⟩ := zb_some h
  refine zw_si hX dX12_send_121 g ?_
  refine zw_iconst (v := (0 : Int32)) hX dX12_send_122 (by decide) ?_
  refine zw_istore hX dX12_send_123 (by decide) ?_
  obtain ⟨r, g, h⟩ := zb_some h
  refine zw_sub (lv' := [(0, .ref a0), (1, .int i1), (2, .int i2), (5, .int i5), (6, .int i6), (7, .int i7), (8, .int (0 : Int32))]) (List.forall_mem_cons.mpr ⟨rfl, (List.forall_mem_cons.mpr ⟨rfl, (List.forall_mem_cons.mpr ⟨rfl, (List.forall_mem_cons.mpr ⟨rfl, (List.forall_mem_cons.mpr ⟨rfl, (List.forall_mem_cons.mpr ⟨rfl, (List.forall_mem_cons.mpr ⟨rfl, zs_nil⟩)⟩)⟩)⟩)⟩)⟩)⟩) ?_
  refine zt_X12_send_L125 hX hr hR hd (res := r) (out := out) a0 i1 i2 i5 i6 i7 ?_ ?_ N _ _ g
  · intro o ho
    subst ho
    exact Option.some.inj h
  · intro  S21 hx
    subst hx
    try dsimp only at h
    refine zw_aload_n hX dX12_send_160 rfl ?_
    obtain ⟨b22, g, h⟩ := zb_some h
    refine zw_getr hX zl_X12_31 dX12_send_161 g ?_
    refine zw_iload hX dX12_send_164 rfl ?_
    refine zw_bipush (v := (21 : Int32)) hX dX12_send_166 (by decide) ?_
    refine zw_iadd hX dX12_send_168 ?_
    refine zw_iload hX dX12_send_169 rfl ?_
    refine zw_bipush (v := (7 : Int32)) hX dX12_send_171 (by decide) ?_
    refine zw_iadd hX dX12_send_173 ?_
    obtain ⟨S23, g, h⟩ := zb_some h
    refine zw_si hX dX12_send_174 g ?_
    refine zw_aload_n hX dX12_send_175 rfl ?_
    obtain ⟨b24, g, h⟩ := zb_some h
    refine zw_getr hX zl_X12_31 dX12_send_176 g ?_
    refine zw_iload hX dX12_send_179 rfl ?_
    refine zw_bipush (v := (22 : Int32)) hX dX12_send_181 (by decide) ?_
    refine zw_iadd hX dX12_send_183 ?_
    refine zw_iload_n hX dX12_send_184 rfl ?_
    obtain ⟨S25, g, h⟩ := zb_some h
    refine zw_si hX dX12_send_185 g ?_
    refine zw_aload_n hX dX12_send_186 rfl ?_
    obtain ⟨b26, g, h⟩ := zb_some h
    refine zw_getr hX zl_X12_31 dX12_send_187 g ?_
    refine zw_iload hX dX12_send_190 rfl ?_
    refine zw_bipush (v := (23 : Int32)) hX dX12_send_192 (by decide) ?_
    refine zw_iadd hX dX12_send_194 ?_
    refine zw_iconst (v := (0 : Int32)) hX dX12_send_195 (by decide) ?_
    obtain ⟨S27, g, h⟩ := zb_some h
    refine zw_si hX dX12_send_196 g ?_
    refine zw_aload_n hX dX12_send_197 rfl ?_
    refine zw_iload hX dX12_send_198 rfl ?_
    obtain ⟨_, gi, h⟩ := zb_some h
    obtain ⟨r29, g, h⟩ := zb_some h
    refine zc_Vv (as := [.int i7]) hX gi (zt_X12_check (d := d - 1) (by omega) g) zl_X12_68 rfl dX12_send_200 ⟨rfl, rfl, Nat.le_of_ble_eq_true rfl⟩ ⟨by omega, by omega⟩ ?_
    refine zw_aload_n hX dX12_send_203 rfl ?_
    obtain ⟨b30, g, h⟩ := zb_some h
    refine zw_getr hX zl_X12_28 dX12_send_204 g ?_
    refine zw_iload_n hX dX12_send_207 rfl ?_
    refine zw_dup2 hX dX12_send_208 rfl rfl ?_
    obtain ⟨v31, g, h⟩ := zb_some h
    refine zw_xi hX dX12_send_209 g ?_
    refine zw_iconst (v := (1 : Int32)) hX dX12_send_210 (by decide) ?_
    refine zw_iadd hX dX12_send_211 ?_
    obtain ⟨S32, g, h⟩ := zb_some h
    refine zw_si hX dX12_send_212 g ?_
    refine zw_aload_n hX dX12_send_213 rfl ?_
    obtain ⟨b33, g, h⟩ := zb_some h
    refine zw_getr hX zl_X12_28 dX12_send_214 g ?_
    refine zw_iload_n hX dX12_send_217 rfl ?_
    obtain ⟨v34, g, h⟩ := zb_some h
    refine zw_xi hX dX12_send_218 g ?_
    obtain rfl := Option.some.inj h
    exact zw_iret hX hr dX12_send_219 rfl ⟨rfl, rfl⟩
set_option maxHeartbeats 4000000 in
set_option maxRecDepth 100000 in
theorem zt_X12_send {l : Launch} {V : zm_V} {N : Nat} {S : zm_S} {out : (Int32 × zm_S)} {d : Nat} {a0 : Nat} {i1 : Int32} {i2 : Int32} {i3 : Int32} {i4 : Int32} {i5 : Int32} {i6 : Int32} (hd : 2 ≤ d) (h : zf_X12_send N a0 i1 i2 i3 i4 i5 i6 S = some out) : zm_Met l zk_E V yX12_send (.code yX12_send cX12_send 9 (some .int)) d [.ref a0, .int i1, .int i2, .int i3, .int i4, .int i5, .int i6] S 0 0 (zo_i out) zo_x := by
  refine zm_of (by decide +kernel) (Nat.le_of_ble_eq_true rfl) ?_
  intro p e R s m args below meth c hRR hX hr hxt
  have hR : R.frames = d ∧ R.locals = 64 * d := by rw [hRR]; exact ⟨rfl, rfl⟩
  have hX : zm_X p R s m args meth c RX12 "send" cX12_send 9 zk_E V 0 0 := hX
  unfold zf_X12_send at h
  refine zw_sub (lv' := [(0, .ref a0), (1, .int i1), (2, .int i2), (3, .int i3), (4, .int i4), (5, .int i5), (6, .int i6)]) (List.forall_mem_cons.mpr ⟨rfl, (List.forall_mem_cons.mpr ⟨rfl, (List.forall_mem_cons.mpr ⟨rfl, (List.forall_mem_cons.mpr ⟨rfl, (List.forall_mem_cons.mpr ⟨rfl, (List.forall_mem_cons.mpr ⟨rfl, (List.forall_mem_cons.mpr ⟨rfl, zs_nil⟩)⟩)⟩)⟩)⟩)⟩)⟩) ?_
  refine zw_bipush (v := (24 : Int32)) hX dX12_send_0 (by decide) ?_
  refine zw_bipush (v := (6 : Int32)) hX dX12_send_2 (by decide) ?_
  refine zw_iload_n hX dX12_send_4 rfl ?_
  refine zw_imul hX dX12_send_5 ?_
  refine zw_aload_n hX dX12_send_6 rfl ?_
  obtain ⟨b1, g, h⟩ := zb_some h
  refine zw_getr hX zl_X12_28 dX12_send_7 g ?_
  refine zw_iload_n hX dX12_send_10 rfl ?_
  obtain ⟨v2, g, h⟩ := zb_some h
  refine zw_xi hX dX12_send_11 g ?_
  refine zw_iadd hX dX12_send_12 ?_
  refine zw_imul hX dX12_send_13 ?_
  refine zw_istore hX dX12_send_14 (by decide) ?_
  refine zw_aload_n hX dX12_send_16 rfl ?_
  obtain ⟨b3, g, h⟩ := zb_some h
  refine zw_getr hX zl_X12_31 dX12_send_17 g ?_
  refine zw_iload hX dX12_send_20 rfl ?_
  refine zw_sipush (v := (176 : Int32)) hX dX12_send_22 (by decide) ?_
  refine zw_iconst (v := (4 : Int32)) hX dX12_send_25 (by decide) ?_
  refine zw_iload_n hX dX12_send_26 rfl ?_
  refine zw_imul hX dX12_send_27 ?_
  refine zw_iadd hX dX12_send_28 ?_
  obtain ⟨S4, g, h⟩ := zb_some h
  refine zw_si hX dX12_send_29 g ?_
  refine zw_aload_n hX dX12_send_30 rfl ?_
  obtain ⟨b5, g, h⟩ := zb_some h
  refine zw_getr hX zl_X12_31 dX12_send_31 g ?_
  refine zw_iload hX dX12_send_34 rfl ?_
  refine zw_iconst (v := (1 : Int32)) hX dX12_send_36 (by decide) ?_
  refine zw_iadd hX dX12_send_37 ?_
  refine zw_aload_n hX dX12_send_38 rfl ?_
  obtain ⟨b6, g, h⟩ := zb_some h
  refine zw_getr hX zl_X12_18 dX12_send_39 g ?_
  refine zw_iload_n hX dX12_send_42 rfl ?_
  obtain ⟨v7, g, h⟩ := zb_some h
  refine zw_xi hX dX12_send_43 g ?_
  refine zw_sipush (v := (256 : Int32)) hX dX12_send_44 (by decide) ?_
  refine zw_idiv hX dX12_send_47 (by decide) ?_
  obtain ⟨S8, g, h⟩ := zb_some h
  refine zw_si hX dX12_send_48 g ?_
  refine zw_aload_n hX dX12_send_49 rfl ?_
  obtain ⟨b9, g, h⟩ := zb_some h
  refine zw_getr hX zl_X12_31 dX12_send_50 g ?_
  refine zw_iload hX dX12_send_53 rfl ?_
  refine zw_iconst (v := (2 : Int32)) hX dX12_send_55 (by decide) ?_
  refine zw_iadd hX dX12_send_56 ?_
  refine zw_aload_n hX dX12_send_57 rfl ?_
  obtain ⟨b10, g, h⟩ := zb_some h
  refine zw_getr hX zl_X12_18 dX12_send_58 g ?_
  refine zw_iload_n hX dX12_send_61 rfl ?_
  obtain ⟨v11, g, h⟩ := zb_some h
  refine zw_xi hX dX12_send_62 g ?_
  refine zw_sipush (v := (256 : Int32)) hX dX12_send_63 (by decide) ?_
  refine zw_irem hX dX12_send_66 (by decide) ?_
  obtain ⟨S12, g, h⟩ := zb_some h
  refine zw_si hX dX12_send_67 g ?_
  refine zw_aload_n hX dX12_send_68 rfl ?_
  obtain ⟨b13, g, h⟩ := zb_some h
  refine zw_getr hX zl_X12_31 dX12_send_69 g ?_
  refine zw_iload hX dX12_send_72 rfl ?_
  refine zw_iconst (v := (3 : Int32)) hX dX12_send_74 (by decide) ?_
  refine zw_iadd hX dX12_send_75 ?_
  refine zw_iload_n hX dX12_send_76 rfl ?_
  refine zw_sipush (v := (256 : Int32)) hX dX12_send_77 (by decide) ?_
  refine zw_idiv hX dX12_send_80 (by decide) ?_
  obtain ⟨S14, g, h⟩ := zb_some h
  refine zw_si hX dX12_send_81 g ?_
  refine zw_aload_n hX dX12_send_82 rfl ?_
  obtain ⟨b15, g, h⟩ := zb_some h
  refine zw_getr hX zl_X12_31 dX12_send_83 g ?_
  refine zw_iload hX dX12_send_86 rfl ?_
  refine zw_iconst (v := (4 : Int32)) hX dX12_send_88 (by decide) ?_
  refine zw_iadd hX dX12_send_89 ?_
  refine zw_iload_n hX dX12_send_90 rfl ?_
  refine zw_sipush (v := (256 : Int32)) hX dX12_send_91 (by decide) ?_
  refine zw_irem hX dX12_send_94 (by decide) ?_
  obtain ⟨S16, g, h⟩ := zb_some h
  refine zw_si hX dX12_send_95 g ?_
  refine zw_aload_n hX dX12_send_96 rfl ?_
  obtain ⟨b17, g, h⟩ := zb_some h
  refine zw_getr hX zl_X12_31 dX12_send_97 g ?_
  refine zw_iload hX dX12_send_100 rfl ?_
  refine zw_iconst (v := (5 : Int32)) hX dX12_send_102 (by decide) ?_
  refine zw_iadd hX dX12_send_103 ?_
  refine zw_iload hX dX12_send_104 rfl ?_
  refine zw_iconst (v := (1 : Int32)) hX dX12_send_106 (by decide) ?_
  refine zw_isub hX dX12_send_107 ?_
  refine zw_iload hX dX12_send_108 rfl ?_
  refine zw_if_eq (tgt := 119) hX dX12_send_110 (by decide) (fun c110 => ?_) (fun c110 => ?_)
  · rw [if_pos c110] at h
    refine zw_iconst (v := (0 : Int32)) hX dX12_send_119 (by decide) ?_
    refine zw_sub (lv' := [(0, .ref a0), (1, .int i1), (2, .int i2), (5, .int i5), (6, .int i6), (7, .int ((24 : Int32) * (((6 : Int32) * i1) + v2)))]) (List.forall_mem_cons.mpr ⟨rfl, (List.forall_mem_cons.mpr ⟨rfl, (List.forall_mem_cons.mpr ⟨rfl, (List.forall_mem_cons.mpr ⟨rfl, (List.forall_mem_cons.mpr ⟨rfl, (List.forall_mem_cons.mpr ⟨rfl, zs_nil⟩)⟩)⟩)⟩)⟩)⟩) ?_
    exact zt_X12_send_J120 hX hr hR hd h
  · rw [if_neg c110] at h
    refine zw_sipush (v := (128 : Int32)) hX dX12_send_113 (by decide) ?_
    refine zw_goto (tgt := 120) hX dX12_send_116 (by decide) ?_
    refine zw_sub (lv' := [(0, .ref a0), (1, .int i1), (2, .int i2), (5, .int i5), (6, .int i6), (7, .int ((24 : Int32) * (((6 : Int32) * i1) + v2)))]) (List.forall_mem_cons.mpr ⟨rfl, (List.forall_mem_cons.mpr ⟨rfl, (List.forall_mem_cons.mpr ⟨rfl, (List.forall_mem_cons.mpr ⟨rfl, (List.forall_mem_cons.mpr ⟨rfl, (List.forall_mem_cons.mpr ⟨rfl, zs_nil⟩)⟩)⟩)⟩)⟩)⟩) ?_
    exact zt_X12_send_J120 hX hr hR hd h
set_option maxHeartbeats 4000000 in
set_option maxRecDepth 100000 in
theorem zt_X12_mayDisturb {l : Launch} {V : zm_V} {N : Nat} {S : zm_S} {out : (Int32 × zm_S)} {d : Nat} {a0 : Nat} (hd : 1 ≤ d) (h : zf_X12_mayDisturb N a0 S = some out) : zm_Met l zk_E V yX12_mayDisturb (.code yX12_mayDisturb cX12_mayDisturb 1 (some .boolean)) d [.ref a0] S 0 0 (zo_i out) zo_x := by
  refine zm_of (by decide +kernel) (Nat.le_of_ble_eq_true rfl) ?_
  intro p e R s m args below meth c hRR hX hr hxt
  have hR : R.frames = d ∧ R.locals = 64 * d := by rw [hRR]; exact ⟨rfl, rfl⟩
  have hX : zm_X p R s m args meth c RX12 "mayDisturb" cX12_mayDisturb 1 zk_E V 0 0 := hX
  unfold zf_X12_mayDisturb at h
  refine zw_sub (lv' := [(0, .ref a0)]) (List.forall_mem_cons.mpr ⟨rfl, zs_nil⟩) ?_
  refine zw_aload_n hX dX12_mayDisturb_0 rfl ?_
  obtain ⟨v1, g, h⟩ := zb_some h
  refine zw_geti hX zl_X12_72 dX12_mayDisturb_1 g ?_
  refine zw_bipush (v := (50 : Int32)) hX dX12_mayDisturb_4 (by decide) ?_
  refine zw_icmp_ge (tgt := 13) hX dX12_mayDisturb_6 (by decide) (fun c6 => ?_) (fun c6 => ?_)
  · rw [if_pos c6] at h
    refine zw_iconst (v := (0 : Int32)) hX dX12_mayDisturb_13 (by decide) ?_
    obtain rfl := Option.some.inj h
    exact zw_iret hX hr dX12_mayDisturb_14 rfl ⟨rfl, rfl⟩
  · rw [if_neg c6] at h
    refine zw_iconst (v := (1 : Int32)) hX dX12_mayDisturb_9 (by decide) ?_
    refine zw_goto (tgt := 14) hX dX12_mayDisturb_10 (by decide) ?_
    obtain rfl := Option.some.inj h
    exact zw_iret hX hr dX12_mayDisturb_14 rfl ⟨rfl, rfl⟩
set_option maxHeartbeats 4000000 in
set_option maxRecDepth 100000 in
theorem zt_X12_disturb_J46 {p : Program} {l : Launch} {e : Env} {R : Room} {s : State} {m : MethodId} {args : Array Value} {below : List Frame} {meth : Method} {c : Code} {V : zm_V} {mc ms d rc rs : Nat} (hX : zm_X p R s m args meth c RX12 "disturb" cX12_disturb 3 zk_E V mc ms) (hr : meth.sig.returnType = (some .boolean)) (hR : R.frames = d ∧ R.locals = 64 * d) (hd : 1 ≤ d) {N : Nat} {i2 : Int32} {t0 : Nat} {t1 : Int32} {t2 : Int32} {out : (Int32 × zm_S)} {S : zm_S} (h : zf_X12_disturb_J46 N i2 t0 t1 t2 S = some out) : zw p l e R s m args below meth c (vx_MQ below (zm_Qc zk_E V (zo_i out)) (zm_XC zk_E V zo_x) args s mc ms (fun q => V.2.2.2.1 ≤ q)) 3 zk_E V mc ms 46 [(2, .int i2)] [.int t2, .int t1, .ref t0] S rc rs := by
  unfold zf_X12_disturb_J46 at h
  refine zw_iadd hX dX12_disturb_46 ?_
  obtain ⟨S8, g, h⟩ := zb_some h
  refine zw_putv hX zl_X12_72 zt_12_3 dX12_disturb_47 rfl rfl g ?_
  refine zw_iload_n hX dX12_disturb_50 rfl ?_
  by_cases cz : i2 = 0 ∨ i2 = 1
  · rw [if_pos cz] at h
    obtain rfl := Option.some.inj h
    exact zw_iret hX hr dX12_disturb_51 (zn_z cz) ⟨rfl, rfl⟩
  · rw [if_neg cz] at h
    cases h
set_option maxHeartbeats 4000000 in
set_option maxRecDepth 100000 in
theorem zt_X12_disturb_J19 {p : Program} {l : Launch} {e : Env} {R : Room} {s : State} {m : MethodId} {args : Array Value} {below : List Frame} {meth : Method} {c : Code} {V : zm_V} {mc ms d rc rs : Nat} (hX : zm_X p R s m args meth c RX12 "disturb" cX12_disturb 3 zk_E V mc ms) (hr : meth.sig.returnType = (some .boolean)) (hR : R.frames = d ∧ R.locals = 64 * d) (hd : 1 ≤ d) {N : Nat} {a0 : Nat} {i1 : Int32} {t0 : Int32} {out : (Int32 × zm_S)} {S : zm_S} (h : zf_X12_disturb_J19 N a0 i1 t0 S = some out) : zw p l e R s m args below meth c (vx_MQ below (zm_Qc zk_E V (zo_i out)) (zm_XC zk_E V zo_x) args s mc ms (fun q => V.2.2.2.1 ≤ q)) 3 zk_E V mc ms 19 [(0, .ref a0), (1, .int i1)] [.int t0] S rc rs := by
  unfold zf_X12_disturb_J19 at h
  refine zw_istore_n hX dX12_disturb_19 (by decide) ?_
  refine zw_aload_n hX dX12_disturb_20 rfl ?_
  obtain ⟨b4, g, h⟩ := zb_some h
  refine zw_getr hX zl_X12_15 dX12_disturb_21 g ?_
  refine zw_aload_n hX dX12_disturb_24 rfl ?_
  obtain ⟨v5, g, h⟩ := zb_some h
  refine zw_geti hX zl_X12_75 dX12_disturb_25 g ?_
  refine zw_iload_n hX dX12_disturb_28 rfl ?_
  refine zw_iadd hX dX12_disturb_29 ?_
  refine zw_iconst (v := (1 : Int32)) hX dX12_disturb_30 (by decide) ?_
  obtain ⟨S6, g, h⟩ := zb_some h
  refine zw_sz hX dX12_disturb_31 g ?_
  refine zw_aload_n hX dX12_disturb_32 rfl ?_
  refine zw_dup hX dX12_disturb_33 rfl ?_
  obtain ⟨v7, g, h⟩ := zb_some h
  refine zw_geti hX zl_X12_72 dX12_disturb_34 g ?_
  refine zw_iload_n hX dX12_disturb_37 rfl ?_
  refine zw_if_eq (tgt := 45) hX dX12_disturb_38 (by decide) (fun c38 => ?_) (fun c38 => ?_)
  · rw [if_pos c38] at h
    refine zw_iconst (v := (0 : Int32)) hX dX12_disturb_45 (by decide) ?_
    refine zw_sub (lv' := [(2, .int t0)]) (List.forall_mem_cons.mpr ⟨rfl, zs_nil⟩) ?_
    exact zt_X12_disturb_J46 hX hr hR hd h
  · rw [if_neg c38] at h
    refine zw_iconst (v := (1 : Int32)) hX dX12_disturb_41 (by decide) ?_
    refine zw_goto (tgt := 46) hX dX12_disturb_42 (by decide) ?_
    refine zw_sub (lv' := [(2, .int t0)]) (List.forall_mem_cons.mpr ⟨rfl, zs_nil⟩) ?_
    exact zt_X12_disturb_J46 hX hr hR hd h
set_option maxHeartbeats 4000000 in
set_option maxRecDepth 100000 in
theorem zt_X12_disturb {l : Launch} {V : zm_V} {N : Nat} {S : zm_S} {out : (Int32 × zm_S)} {d : Nat} {a0 : Nat} {i1 : Int32} (hd : 1 ≤ d) (h : zf_X12_disturb N a0 i1 S = some out) : zm_Met l zk_E V yX12_disturb (.code yX12_disturb cX12_disturb 3 (some .boolean)) d [.ref a0, .int i1] S 0 0 (zo_i out) zo_x := by
  refine zm_of (by decide +kernel) (Nat.le_of_ble_eq_true rfl) ?_
  intro p e R s m args below meth c hRR hX hr hxt
  have hR : R.frames = d ∧ R.locals = 64 * d := by rw [hRR]; exact ⟨rfl, rfl⟩
  have hX : zm_X p R s m args meth c RX12 "disturb" cX12_disturb 3 zk_E V 0 0 := hX
  unfold zf_X12_disturb at h
  refine zw_sub (lv' := [(0, .ref a0), (1, .int i1)]) (List.forall_mem_cons.mpr ⟨rfl, (List.forall_mem_cons.mpr ⟨rfl, zs_nil⟩)⟩) ?_
  refine zw_aload_n hX dX12_disturb_0 rfl ?_
  obtain ⟨b1, g, h⟩ := zb_some h
  refine zw_getr hX zl_X12_15 dX12_disturb_1 g ?_
  refine zw_aload_n hX dX12_disturb_4 rfl ?_
  obtain ⟨v2, g, h⟩ := zb_some h
  refine zw_geti hX zl_X12_75 dX12_disturb_5 g ?_
  refine zw_iload_n hX dX12_disturb_8 rfl ?_
  refine zw_iadd hX dX12_disturb_9 ?_
  obtain ⟨v3, g, h⟩ := zb_some h
  refine zw_xz hX dX12_disturb_10 g ?_
  refine zw_if_ne (tgt := 18) hX dX12_disturb_11 (by decide) (fun c11 => ?_) (fun c11 => ?_)
  · rw [if_neg c11] at h
    refine zw_iconst (v := (0 : Int32)) hX dX12_disturb_18 (by decide) ?_
    refine zw_sub (lv' := [(0, .ref a0), (1, .int i1)]) (List.forall_mem_cons.mpr ⟨rfl, (List.forall_mem_cons.mpr ⟨rfl, zs_nil⟩)⟩) ?_
    exact zt_X12_disturb_J19 hX hr hR hd h
  · rw [if_pos c11] at h
    refine zw_iconst (v := (1 : Int32)) hX dX12_disturb_14 (by decide) ?_
    refine zw_goto (tgt := 19) hX dX12_disturb_15 (by decide) ?_
    refine zw_sub (lv' := [(0, .ref a0), (1, .int i1)]) (List.forall_mem_cons.mpr ⟨rfl, (List.forall_mem_cons.mpr ⟨rfl, zs_nil⟩)⟩) ?_
    exact zt_X12_disturb_J19 hX hr hR hd h
set_option maxHeartbeats 4000000 in
set_option maxRecDepth 100000 in
theorem zt_X12_ones_L4 {p : Program} {l : Launch} {e : Env} {R : Room} {s : State} {m : MethodId} {args : Array Value} {below : List Frame} {meth : Method} {c : Code} {V : zm_V} {mc ms d rc rs : Nat} (hX : zm_X p R s m args meth c RX12 "ones" cX12_ones 3 zk_E V mc ms) (hr : meth.sig.returnType = (some .int)) (hR : R.frames = d ∧ R.locals = 64 * d) (hd : 1 ≤ d) {N : Nat} {res : (Int32 × zm_S) ⊕ ((Int32) × zm_S)} {out : (Int32 × zm_S)} (i0 : Int32) (hf : ∀ o, res = .inl o → o = out) (hk : ∀ (x1 : Int32) (S' : zm_S), res = .inr (x1, S') → zw p l e R s m args below meth c (vx_MQ below (zm_Qc zk_E V (zo_i out)) (zm_XC zk_E V zo_x) args s mc ms (fun q => V.2.2.2.1 ≤ q)) 3 zk_E V mc ms 24 [(1, .int x1)] [] S' rc rs) : ∀ (n : Nat) (i1 : Int32) (i2 : Int32) (S : zm_S), zf_X12_ones_L4 N n i0 i1 i2 S = some res → zw p l e R s m args below meth c (vx_MQ below (zm_Qc zk_E V (zo_i out)) (zm_XC zk_E V zo_x) args s mc ms (fun q => V.2.2.2.1 ≤ q)) 3 zk_E V mc ms 4 [(0, .int i0), (1, .int i1), (2, .int i2)] [] S rc rs := by
  intro n
  induction n with
  | zero => intro i1 i2 S h; cases h
  | succ n ih =>
    intro i1 i2 S h
    rw [zf_X12_ones_L4] at h
    refine zw_iload_n hX dX12_ones_4 rfl ?_
    refine zw_bipush (v := (8 : Int32)) hX dX12_ones_5 (by decide) ?_
    refine zw_icmp_ge (tgt := 24) hX dX12_ones_7 (by decide) (fun c7 => ?_) (fun c7 => ?_)
    · rw [if_pos c7] at h
      refine zw_sub (lv' := [(1, .int i1)]) (List.forall_mem_cons.mpr ⟨rfl, zs_nil⟩) ?_
      exact hk _ _ (Option.some.inj h).symm
    · rw [if_neg c7] at h
      refine zw_iload_n hX dX12_ones_10 rfl ?_
      refine zw_iload_n hX dX12_ones_11 rfl ?_
      refine zw_iload_n hX dX12_ones_12 rfl ?_
      refine zw_ishr hX dX12_ones_13 ?_
      refine zw_iconst (v := (1 : Int32)) hX dX12_ones_14 (by decide) ?_
      refine zw_iand hX dX12_ones_15 ?_
      refine zw_iadd hX dX12_ones_16 ?_
      refine zw_istore_n hX dX12_ones_17 (by decide) ?_
      refine zw_iinc (v := (i2 + (1 : Int32))) hX dX12_ones_18 rfl rfl (by decide) ?_
      refine zw_goto (tgt := 4) hX dX12_ones_21 (by decide) ?_
      refine zw_sub (lv' := [(0, .int i0), (1, .int (i1 + ((i0 >>> (i2 &&& 31)) &&& (1 : Int32)))), (2, .int (i2 + (1 : Int32)))]) (List.forall_mem_cons.mpr ⟨rfl, (List.forall_mem_cons.mpr ⟨rfl, (List.forall_mem_cons.mpr ⟨rfl, zs_nil⟩)⟩)⟩) ?_
      exact ih _ _ _ h
set_option maxHeartbeats 4000000 in
set_option maxRecDepth 100000 in
theorem zt_X12_ones {l : Launch} {V : zm_V} {N : Nat} {S : zm_S} {out : (Int32 × zm_S)} {d : Nat} {i0 : Int32} (hd : 1 ≤ d) (h : zf_X12_ones N i0 S = some out) : zm_Met l zk_E V yX12_ones (.code yX12_ones cX12_ones 3 (some .int)) d [.int i0] S 0 0 (zo_i out) zo_x := by
  refine zm_of (by decide +kernel) (Nat.le_of_ble_eq_true rfl) ?_
  intro p e R s m args below meth c hRR hX hr hxt
  have hR : R.frames = d ∧ R.locals = 64 * d := by rw [hRR]; exact ⟨rfl, rfl⟩
  have hX : zm_X p R s m args meth c RX12 "ones" cX12_ones 3 zk_E V 0 0 := hX
  unfold zf_X12_ones at h
  refine zw_sub (lv' := [(0, .int i0)]) (List.forall_mem_cons.mpr ⟨rfl, zs_nil⟩) ?_
  refine zw_iconst (v := (0 : Int32)) hX dX12_ones_0 (by decide) ?_
  refine zw_istore_n hX dX12_ones_1 (by decide) ?_
  refine zw_iconst (v := (0 : Int32)) hX dX12_ones_2 (by decide) ?_
  refine zw_istore_n hX dX12_ones_3 (by decide) ?_
  obtain ⟨r, g, h⟩ := zb_some h
  refine zw_sub (lv' := [(0, .int i0), (1, .int (0 : Int32)), (2, .int (0 : Int32))]) (List.forall_mem_cons.mpr ⟨rfl, (List.forall_mem_cons.mpr ⟨rfl, (List.forall_mem_cons.mpr ⟨rfl, zs_nil⟩)⟩)⟩) ?_
  refine zt_X12_ones_L4 hX hr hR hd (res := r) (out := out) i0 ?_ ?_ N _ _ _ g
  · intro o ho
    subst ho
    exact Option.some.inj h
  · intro v2 S1 hx
    subst hx
    try dsimp only at h
    refine zw_iload_n hX dX12_ones_24 rfl ?_
    obtain rfl := Option.some.inj h
    exact zw_iret hX hr dX12_ones_25 rfl ⟨rfl, rfl⟩
set_option maxHeartbeats 4000000 in
set_option maxRecDepth 100000 in
theorem zt_X12_letterBit {l : Launch} {V : zm_V} {N : Nat} {S : zm_S} {out : (Int32 × zm_S)} {d : Nat} {i0 : Int32} {i1 : Int32} (hd : 2 ≤ d) (h : zf_X12_letterBit N i0 i1 S = some out) : zm_Met l zk_E V yX12_letterBit (.code yX12_letterBit cX12_letterBit 2 (some .boolean)) d [.int i0, .int i1] S 0 0 (zo_i out) zo_x := by
  refine zm_of (by decide +kernel) (Nat.le_of_ble_eq_true rfl) ?_
  intro p e R s m args below meth c hRR hX hr hxt
  have hR : R.frames = d ∧ R.locals = 64 * d := by rw [hRR]; exact ⟨rfl, rfl⟩
  have hX : zm_X p R s m args meth c RX12 "letterBit" cX12_letterBit 2 zk_E V 0 0 := hX
  unfold zf_X12_letterBit at h
  refine zw_sub (lv' := [(0, .int i0), (1, .int i1)]) (List.forall_mem_cons.mpr ⟨rfl, (List.forall_mem_cons.mpr ⟨rfl, zs_nil⟩)⟩) ?_
  refine zw_iload_n hX dX12_letterBit_0 rfl ?_
  refine zw_bipush (v := (9 : Int32)) hX dX12_letterBit_1 (by decide) ?_
  refine zw_icmp_ne (tgt := 22) hX dX12_letterBit_3 (by decide) (fun c3 => ?_) (fun c3 => ?_)
  · rw [if_neg c3] at h
    refine zw_iload_n hX dX12_letterBit_22 rfl ?_
    refine zw_if_le (tgt := 47) hX dX12_letterBit_23 (by decide) (fun c23 => ?_) (fun c23 => ?_)
    · rw [if_pos c23] at h
      refine zw_iconst (v := (0 : Int32)) hX dX12_letterBit_47 (by decide) ?_
      obtain rfl := Option.some.inj h
      exact zw_iret hX hr dX12_letterBit_48 rfl ⟨rfl, rfl⟩
    · rw [if_neg c23] at h
      refine zw_iload_n hX dX12_letterBit_26 rfl ?_
      refine zw_bipush (v := (10 : Int32)) hX dX12_letterBit_27 (by decide) ?_
      refine zw_icmp_eq (tgt := 43) hX dX12_letterBit_29 (by decide) (fun c29 => ?_) (fun c29 => ?_)
      · rw [if_pos c29] at h
        refine zw_iconst (v := (1 : Int32)) hX dX12_letterBit_43 (by decide) ?_
        refine zw_goto (tgt := 48) hX dX12_letterBit_44 (by decide) ?_
        obtain rfl := Option.some.inj h
        exact zw_iret hX hr dX12_letterBit_48 rfl ⟨rfl, rfl⟩
      · rw [if_neg c29] at h
        refine zw_iload_n hX dX12_letterBit_32 rfl ?_
        refine zw_iload_n hX dX12_letterBit_33 rfl ?_
        refine zw_iconst (v := (1 : Int32)) hX dX12_letterBit_34 (by decide) ?_
        refine zw_isub hX dX12_letterBit_35 ?_
        refine zw_ishr hX dX12_letterBit_36 ?_
        refine zw_iconst (v := (1 : Int32)) hX dX12_letterBit_37 (by decide) ?_
        refine zw_iand hX dX12_letterBit_38 ?_
        refine zw_iconst (v := (1 : Int32)) hX dX12_letterBit_39 (by decide) ?_
        refine zw_icmp_ne (tgt := 47) hX dX12_letterBit_40 (by decide) (fun c40 => ?_) (fun c40 => ?_)
        · rw [if_neg c40] at h
          refine zw_iconst (v := (0 : Int32)) hX dX12_letterBit_47 (by decide) ?_
          obtain rfl := Option.some.inj h
          exact zw_iret hX hr dX12_letterBit_48 rfl ⟨rfl, rfl⟩
        · rw [if_pos c40] at h
          refine zw_iconst (v := (1 : Int32)) hX dX12_letterBit_43 (by decide) ?_
          refine zw_goto (tgt := 48) hX dX12_letterBit_44 (by decide) ?_
          obtain rfl := Option.some.inj h
          exact zw_iret hX hr dX12_letterBit_48 rfl ⟨rfl, rfl⟩
  · rw [if_pos c3] at h
    refine zw_iload_n hX dX12_letterBit_6 rfl ?_
    obtain ⟨r2, g, h⟩ := zb_some h
    refine zc_Si (as := [.int i0]) hX (zt_X12_ones (d := d - 1) (by omega) g) zl_X12_78 dX12_letterBit_7 ⟨rfl, rfl, Nat.le_of_ble_eq_true rfl⟩ ⟨by omega, by omega⟩ ?_
    refine zw_iconst (v := (2 : Int32)) hX dX12_letterBit_10 (by decide) ?_
    refine zw_irem hX dX12_letterBit_11 (by decide) ?_
    refine zw_iconst (v := (1 : Int32)) hX dX12_letterBit_12 (by decide) ?_
    refine zw_icmp_ne (tgt := 20) hX dX12_letterBit_13 (by decide) (fun c13 => ?_) (fun c13 => ?_)
    · rw [if_neg c13] at h
      refine zw_iconst (v := (0 : Int32)) hX dX12_letterBit_20 (by decide) ?_
      obtain rfl := Option.some.inj h
      exact zw_iret hX hr dX12_letterBit_21 rfl ⟨rfl, rfl⟩
    · rw [if_pos c13] at h
      refine zw_iconst (v := (1 : Int32)) hX dX12_letterBit_16 (by decide) ?_
      refine zw_goto (tgt := 21) hX dX12_letterBit_17 (by decide) ?_
      obtain rfl := Option.some.inj h
      exact zw_iret hX hr dX12_letterBit_21 rfl ⟨rfl, rfl⟩
set_option maxHeartbeats 4000000 in
set_option maxRecDepth 100000 in
theorem zt_X12_telegramBit {l : Launch} {V : zm_V} {N : Nat} {S : zm_S} {out : (Int32 × zm_S)} {d : Nat} {a0 : Nat} {i1 : Int32} {i2 : Int32} (hd : 3 ≤ d) (h : zf_X12_telegramBit N a0 i1 i2 S = some out) : zm_Met l zk_E V yX12_telegramBit (.code yX12_telegramBit cX12_telegramBit 3 (some .boolean)) d [.ref a0, .int i1, .int i2] S 0 0 (zo_i out) zo_x := by
  refine zm_of (by decide +kernel) (Nat.le_of_ble_eq_true rfl) ?_
  intro p e R s m args below meth c hRR hX hr hxt
  have hR : R.frames = d ∧ R.locals = 64 * d := by rw [hRR]; exact ⟨rfl, rfl⟩
  have hX : zm_X p R s m args meth c RX12 "telegramBit" cX12_telegramBit 3 zk_E V 0 0 := hX
  unfold zf_X12_telegramBit at h
  refine zw_sub (lv' := [(0, .ref a0), (1, .int i1), (2, .int i2)]) (List.forall_mem_cons.mpr ⟨rfl, (List.forall_mem_cons.mpr ⟨rfl, (List.forall_mem_cons.mpr ⟨rfl, zs_nil⟩)⟩)⟩) ?_
  refine zw_iload_n hX dX12_telegramBit_0 rfl ?_
  refine zw_bipush (v := (13 : Int32)) hX dX12_telegramBit_1 (by decide) ?_
  refine zw_irem hX dX12_telegramBit_3 (by decide) ?_
  refine zw_bipush (v := (10 : Int32)) hX dX12_telegramBit_4 (by decide) ?_
  refine zw_icmp_gt (tgt := 34) hX dX12_telegramBit_6 (by decide) (fun c6 => ?_) (fun c6 => ?_)
  · rw [if_pos c6] at h
    refine zw_iconst (v := (1 : Int32)) hX dX12_telegramBit_34 (by decide) ?_
    refine zw_goto (tgt := 39) hX dX12_telegramBit_35 (by decide) ?_
    obtain rfl := Option.some.inj h
    exact zw_iret hX hr dX12_telegramBit_39 rfl ⟨rfl, rfl⟩
  · rw [if_neg c6] at h
    refine zw_aload_n hX dX12_telegramBit_9 rfl ?_
    obtain ⟨b1, g, h⟩ := zb_some h
    refine zw_getr hX zl_X12_31 dX12_telegramBit_10 g ?_
    refine zw_sipush (v := (144 : Int32)) hX dX12_telegramBit_13 (by decide) ?_
    refine zw_iload_n hX dX12_telegramBit_16 rfl ?_
    refine zw_imul hX dX12_telegramBit_17 ?_
    refine zw_iload_n hX dX12_telegramBit_18 rfl ?_
    refine zw_bipush (v := (13 : Int32)) hX dX12_telegramBit_19 (by decide) ?_
    refine zw_idiv hX dX12_telegramBit_21 (by decide) ?_
    refine zw_iadd hX dX12_telegramBit_22 ?_
    obtain ⟨v2, g, h⟩ := zb_some h
    refine zw_xi hX dX12_telegramBit_23 g ?_
    refine zw_iload_n hX dX12_telegramBit_24 rfl ?_
    refine zw_bipush (v := (13 : Int32)) hX dX12_telegramBit_25 (by decide) ?_
    refine zw_irem hX dX12_telegramBit_27 (by decide) ?_
    obtain ⟨r4, g, h⟩ := zb_some h
    refine zc_Si (as := [.int v2, .int (i2 - i2 / (13 : Int32) * (13 : Int32))]) hX (zt_X12_letterBit (d := d - 1) (by omega) g) zl_X12_82 dX12_telegramBit_28 ⟨rfl, rfl, Nat.le_of_ble_eq_true rfl⟩ ⟨by omega, by omega⟩ ?_
    refine zw_if_eq (tgt := 38) hX dX12_telegramBit_31 (by decide) (fun c31 => ?_) (fun c31 => ?_)
    · rw [if_pos c31] at h
      refine zw_iconst (v := (0 : Int32)) hX dX12_telegramBit_38 (by decide) ?_
      obtain rfl := Option.some.inj h
      exact zw_iret hX hr dX12_telegramBit_39 rfl ⟨rfl, rfl⟩
    · rw [if_neg c31] at h
      refine zw_iconst (v := (1 : Int32)) hX dX12_telegramBit_34 (by decide) ?_
      refine zw_goto (tgt := 39) hX dX12_telegramBit_35 (by decide) ?_
      obtain rfl := Option.some.inj h
      exact zw_iret hX hr dX12_telegramBit_39 rfl ⟨rfl, rfl⟩
set_option maxHeartbeats 4000000 in
set_option maxRecDepth 100000 in
theorem zt_X12_idle_L2 {p : Program} {l : Launch} {e : Env} {R : Room} {s : State} {m : MethodId} {args : Array Value} {below : List Frame} {meth : Method} {c : Code} {V : zm_V} {mc ms d rc rs : Nat} (hX : zm_X p R s m args meth c RX12 "idle" cX12_idle 2 zk_E V mc ms) (hr : meth.sig.returnType = (some .int)) (hR : R.frames = d ∧ R.locals = 64 * d) (hd : 1 ≤ d) {N : Nat} {res : (Int32 × zm_S) ⊕ ((Int32) × zm_S)} {out : (Int32 × zm_S)} (a0 : Nat) (hf : ∀ o, res = .inl o → o = out) (hk : ∀ (x1 : Int32) (S' : zm_S), res = .inr (x1, S') → zw p l e R s m args below meth c (vx_MQ below (zm_Qc zk_E V (zo_i out)) (zm_XC zk_E V zo_x) args s mc ms (fun q => V.2.2.2.1 ≤ q)) 2 zk_E V mc ms 42 [(1, .int x1)] [] S' rc rs) : ∀ (n : Nat) (i1 : Int32) (S : zm_S), zf_X12_idle_L2 N n a0 i1 S = some res → zw p l e R s m args below meth c (vx_MQ below (zm_Qc zk_E V (zo_i out)) (zm_XC zk_E V zo_x) args s mc ms (fun q => V.2.2.2.1 ≤ q)) 2 zk_E V mc ms 2 [(0, .ref a0), (1, .int i1)] [] S rc rs := by
  intro n
  induction n with
  | zero => intro i1 S h; cases h
  | succ n ih =>
    intro i1 S h
    rw [zf_X12_idle_L2] at h
    refine zw_iload_n hX dX12_idle_2 rfl ?_
    refine zw_bipush (v := (60 : Int32)) hX dX12_idle_3 (by decide) ?_
    refine zw_icmp_ge (tgt := 42) hX dX12_idle_5 (by decide) (fun c5 => ?_) (fun c5 => ?_)
    · rw [if_pos c5] at h
      refine zw_sub (lv' := [(1, .int i1)]) (List.forall_mem_cons.mpr ⟨rfl, zs_nil⟩) ?_
      exact hk _ _ (Option.some.inj h).symm
    · rw [if_neg c5] at h
      refine zw_aload_n hX dX12_idle_8 rfl ?_
      obtain ⟨v1, g, h⟩ := zb_some h
      refine zw_geti hX zl_X12_75 dX12_idle_9 g ?_
      refine zw_iconst (v := (1 : Int32)) hX dX12_idle_12 (by decide) ?_
      refine zw_isub hX dX12_idle_13 ?_
      refine zw_iload_n hX dX12_idle_14 rfl ?_
      refine zw_isub hX dX12_idle_15 ?_
      refine zw_iconst (v := (1 : Int32)) hX dX12_idle_16 (by decide) ?_
      refine zw_icmp_lt (tgt := 36) hX dX12_idle_17 (by decide) (fun c17 => ?_) (fun c17 => ?_)
      · rw [if_pos c17] at h
        refine zw_iinc (v := (i1 + (1 : Int32))) hX dX12_idle_36 rfl rfl (by decide) ?_
        refine zw_goto (tgt := 2) hX dX12_idle_39 (by decide) ?_
        refine zw_sub (lv' := [(0, .ref a0), (1, .int (i1 + (1 : Int32)))]) (List.forall_mem_cons.mpr ⟨rfl, (List.forall_mem_cons.mpr ⟨rfl, zs_nil⟩)⟩) ?_
        exact ih _ _ h
      · rw [if_neg c17] at h
        refine zw_aload_n hX dX12_idle_20 rfl ?_
        obtain ⟨b2, g, h⟩ := zb_some h
        refine zw_getr hX zl_X12_8 dX12_idle_21 g ?_
        refine zw_aload_n hX dX12_idle_24 rfl ?_
        obtain ⟨v3, g, h⟩ := zb_some h
        refine zw_geti hX zl_X12_75 dX12_idle_25 g ?_
        refine zw_iconst (v := (1 : Int32)) hX dX12_idle_28 (by decide) ?_
        refine zw_isub hX dX12_idle_29 ?_
        refine zw_iload_n hX dX12_idle_30 rfl ?_
        refine zw_isub hX dX12_idle_31 ?_
        obtain ⟨v4, g, h⟩ := zb_some h
        refine zw_xz hX dX12_idle_32 g ?_
        refine zw_if_eq (tgt := 42) hX dX12_idle_33 (by decide) (fun c33 => ?_) (fun c33 => ?_)
        · rw [if_pos c33] at h
          refine zw_sub (lv' := [(1, .int i1)]) (List.forall_mem_cons.mpr ⟨rfl, zs_nil⟩) ?_
          exact hk _ _ (Option.some.inj h).symm
        · rw [if_neg c33] at h
          refine zw_iinc (v := (i1 + (1 : Int32))) hX dX12_idle_36 rfl rfl (by decide) ?_
          refine zw_goto (tgt := 2) hX dX12_idle_39 (by decide) ?_
          refine zw_sub (lv' := [(0, .ref a0), (1, .int (i1 + (1 : Int32)))]) (List.forall_mem_cons.mpr ⟨rfl, (List.forall_mem_cons.mpr ⟨rfl, zs_nil⟩)⟩) ?_
          exact ih _ _ h
set_option maxHeartbeats 4000000 in
set_option maxRecDepth 100000 in
theorem zt_X12_idle {l : Launch} {V : zm_V} {N : Nat} {S : zm_S} {out : (Int32 × zm_S)} {d : Nat} {a0 : Nat} (hd : 1 ≤ d) (h : zf_X12_idle N a0 S = some out) : zm_Met l zk_E V yX12_idle (.code yX12_idle cX12_idle 2 (some .int)) d [.ref a0] S 0 0 (zo_i out) zo_x := by
  refine zm_of (by decide +kernel) (Nat.le_of_ble_eq_true rfl) ?_
  intro p e R s m args below meth c hRR hX hr hxt
  have hR : R.frames = d ∧ R.locals = 64 * d := by rw [hRR]; exact ⟨rfl, rfl⟩
  have hX : zm_X p R s m args meth c RX12 "idle" cX12_idle 2 zk_E V 0 0 := hX
  unfold zf_X12_idle at h
  refine zw_sub (lv' := [(0, .ref a0)]) (List.forall_mem_cons.mpr ⟨rfl, zs_nil⟩) ?_
  refine zw_iconst (v := (0 : Int32)) hX dX12_idle_0 (by decide) ?_
  refine zw_istore_n hX dX12_idle_1 (by decide) ?_
  obtain ⟨r, g, h⟩ := zb_some h
  refine zw_sub (lv' := [(0, .ref a0), (1, .int (0 : Int32))]) (List.forall_mem_cons.mpr ⟨rfl, (List.forall_mem_cons.mpr ⟨rfl, zs_nil⟩)⟩) ?_
  refine zt_X12_idle_L2 hX hr hR hd (res := r) (out := out) a0 ?_ ?_ N _ _ g
  · intro o ho
    subst ho
    exact Option.some.inj h
  · intro v6 S5 hx
    subst hx
    try dsimp only at h
    refine zw_iload_n hX dX12_idle_42 rfl ?_
    obtain rfl := Option.some.inj h
    exact zw_iret hX hr dX12_idle_43 rfl ⟨rfl, rfl⟩
set_option maxHeartbeats 4000000 in
set_option maxRecDepth 100000 in
theorem zt_X12_begin_J83 {p : Program} {l : Launch} {e : Env} {R : Room} {s : State} {m : MethodId} {args : Array Value} {below : List Frame} {meth : Method} {c : Code} {V : zm_V} {mc ms d rc rs : Nat} (hX : zm_X p R s m args meth c RX12 "begin" cX12_begin 4 zk_E V mc ms) (hr : meth.sig.returnType = none) (hR : R.frames = d ∧ R.locals = 64 * d) (hd : 1 ≤ d) {N : Nat} {t0 : Nat} {t1 : Int32} {t2 : Int32} {t3 : Int32} {out : (Unit × zm_S)} {S : zm_S} (h : zf_X12_begin_J83 N t0 t1 t2 t3 S = some out) : zw p l e R s m args below meth c (vx_MQ below (zm_Qc zk_E V (zo_v out)) (zm_XC zk_E V zo_x) args s mc ms (fun q => V.2.2.2.1 ≤ q)) 4 zk_E V mc ms 83 [] [.int t3, .int t2, .int t1, .ref t0] S rc rs := by
  unfold zf_X12_begin_J83 at h
  refine zw_icmp_lt (tgt := 90) hX dX12_begin_83 (by decide) (fun c83 => ?_) (fun c83 => ?_)
  · rw [if_pos c83] at h
    refine zw_iconst (v := (-1 : Int32)) hX dX12_begin_90 (by decide) ?_
    obtain ⟨S10, g, h⟩ := zb_some h
    refine zw_si hX dX12_begin_91 g ?_
    obtain rfl := Option.some.inj h
    exact zw_vret hX hr dX12_begin_92 ⟨rfl, rfl⟩
  · rw [if_neg c83] at h
    refine zw_iconst (v := (0 : Int32)) hX dX12_begin_86 (by decide) ?_
    refine zw_goto (tgt := 91) hX dX12_begin_87 (by decide) ?_
    obtain ⟨S11, g, h⟩ := zb_some h
    refine zw_si hX dX12_begin_91 g ?_
    obtain rfl := Option.some.inj h
    exact zw_vret hX hr dX12_begin_92 ⟨rfl, rfl⟩
set_option maxHeartbeats 4000000 in
set_option maxRecDepth 100000 in
theorem zt_X12_begin_J65 {p : Program} {l : Launch} {e : Env} {R : Room} {s : State} {m : MethodId} {args : Array Value} {below : List Frame} {meth : Method} {c : Code} {V : zm_V} {mc ms d rc rs : Nat} (hX : zm_X p R s m args meth c RX12 "begin" cX12_begin 4 zk_E V mc ms) (hr : meth.sig.returnType = none) (hR : R.frames = d ∧ R.locals = 64 * d) (hd : 1 ≤ d) {N : Nat} {a0 : Nat} {i1 : Int32} {i2 : Int32} {t0 : Int32} {out : (Unit × zm_S)} {S : zm_S} (h : zf_X12_begin_J65 N a0 i1 i2 t0 S = some out) : zw p l e R s m args below meth c (vx_MQ below (zm_Qc zk_E V (zo_v out)) (zm_XC zk_E V zo_x) args s mc ms (fun q => V.2.2.2.1 ≤ q)) 4 zk_E V mc ms 65 [(0, .ref a0), (1, .int i1), (2, .int i2)] [.int t0] S rc rs := by
  unfold zf_X12_begin_J65 at h
  refine zw_istore_n hX dX12_begin_65 (by decide) ?_
  refine zw_aload_n hX dX12_begin_66 rfl ?_
  obtain ⟨b9, g, h⟩ := zb_some h
  refine zw_getr hX zl_X12_34 dX12_begin_67 g ?_
  refine zw_iload_n hX dX12_begin_70 rfl ?_
  refine zw_iload_n hX dX12_begin_71 rfl ?_
  refine zw_iload_n hX dX12_begin_72 rfl ?_
  refine zw_if_eq (tgt := 81) hX dX12_begin_73 (by decide) (fun c73 => ?_) (fun c73 => ?_)
  · rw [if_pos c73] at h
    refine zw_bipush (v := (50 : Int32)) hX dX12_begin_81 (by decide) ?_
    refine zw_sub (lv' := []) zs_nil ?_
    exact zt_X12_begin_J83 hX hr hR hd h
  · rw [if_neg c73] at h
    refine zw_bipush (v := (53 : Int32)) hX dX12_begin_76 (by decide) ?_
    refine zw_goto (tgt := 83) hX dX12_begin_78 (by decide) ?_
    refine zw_sub (lv' := []) zs_nil ?_
    exact zt_X12_begin_J83 hX hr hR hd h
set_option maxHeartbeats 4000000 in
set_option maxRecDepth 100000 in
theorem zt_X12_begin_J64 {p : Program} {l : Launch} {e : Env} {R : Room} {s : State} {m : MethodId} {args : Array Value} {below : List Frame} {meth : Method} {c : Code} {V : zm_V} {mc ms d rc rs : Nat} (hX : zm_X p R s m args meth c RX12 "begin" cX12_begin 4 zk_E V mc ms) (hr : meth.sig.returnType = none) (hR : R.frames = d ∧ R.locals = 64 * d) (hd : 1 ≤ d) {N : Nat} {a0 : Nat} {i1 : Int32} {i2 : Int32} {out : (Unit × zm_S)} {S : zm_S} (h : zf_X12_begin_J64 N a0 i1 i2 S = some out) : zw p l e R s m args below meth c (vx_MQ below (zm_Qc zk_E V (zo_v out)) (zm_XC zk_E V zo_x) args s mc ms (fun q => V.2.2.2.1 ≤ q)) 4 zk_E V mc ms 64 [(0, .ref a0), (1, .int i1), (2, .int i2)] [] S rc rs := by
  unfold zf_X12_begin_J64 at h
  refine zw_iconst (v := (0 : Int32)) hX dX12_begin_64 (by decide) ?_
  refine zw_sub (lv' := [(0, .ref a0), (1, .int i1), (2, .int i2)]) (List.forall_mem_cons.mpr ⟨rfl, (List.forall_mem_cons.mpr ⟨rfl, (List.forall_mem_cons.mpr ⟨rfl, zs_nil⟩)⟩)⟩) ?_
  exact zt_X12_begin_J65 hX hr hR hd h
set_option maxHeartbeats 4000000 in
set_option maxRecDepth 100000 in
theorem zt_X12_begin {l : Launch} {V : zm_V} {N : Nat} {S : zm_S} {out : (Unit × zm_S)} {d : Nat} {a0 : Nat} {i1 : Int32} {i2 : Int32} (hd : 1 ≤ d) (h : zf_X12_begin N a0 i1 i2 S = some out) : zm_Met l zk_E V yX12_begin (.code yX12_begin cX12_begin 4 none) d [.ref a0, .int i1, .int i2] S 0 0 (zo_v out) zo_x := by
  refine zm_of (by decide +kernel) (Nat.le_of_ble_eq_true rfl) ?_
  intro p e R s m args below meth c hRR hX hr hxt
  have hR : R.frames = d ∧ R.locals = 64 * d := by rw [hRR]; exact ⟨rfl, rfl⟩
  have hX : zm_X p R s m args meth c RX12 "begin" cX12_begin 4 zk_E V 0 0 := hX
  unfold zf_X12_begin at h
  refine zw_sub (lv' := [(0, .ref a0), (1, .int i1), (2, .int i2)]) (List.forall_mem_cons.mpr ⟨rfl, (List.forall_mem_cons.mpr ⟨rfl, (List.forall_mem_cons.mpr ⟨rfl, zs_nil⟩)⟩)⟩) ?_
  refine zw_aload_n hX dX12_begin_0 rfl ?_
  obtain ⟨b1, g, h⟩ := zb_some h
  refine zw_getr hX zl_X12_34 dX12_begin_1 g ?_
  refine zw_iload_n hX dX12_begin_4 rfl ?_
  obtain ⟨v2, g, h⟩ := zb_some h
  refine zw_xi hX dX12_begin_5 g ?_
  refine zw_if_ge (tgt := 92) hX dX12_begin_6 (by decide) (fun c6 => ?_) (fun c6 => ?_)
  · rw [if_pos c6] at h
    obtain rfl := Option.some.inj h
    exact zw_vret hX hr dX12_begin_92 ⟨rfl, rfl⟩
  · rw [if_neg c6] at h
    refine zw_aload_n hX dX12_begin_9 rfl ?_
    obtain ⟨b3, g, h⟩ := zb_some h
    refine zw_getr hX zl_X12_37 dX12_begin_10 g ?_
    refine zw_iload_n hX dX12_begin_13 rfl ?_
    obtain ⟨v4, g, h⟩ := zb_some h
    refine zw_xi hX dX12_begin_14 g ?_
    refine zw_if_ge (tgt := 92) hX dX12_begin_15 (by decide) (fun c15 => ?_) (fun c15 => ?_)
    · rw [if_pos c15] at h
      obtain rfl := Option.some.inj h
      exact zw_vret hX hr dX12_begin_92 ⟨rfl, rfl⟩
    · rw [if_neg c15] at h
      refine zw_aload_n hX dX12_begin_18 rfl ?_
      obtain ⟨b5, g, h⟩ := zb_some h
      refine zw_getr hX zl_X12_28 dX12_begin_19 g ?_
      refine zw_iload_n hX dX12_begin_22 rfl ?_
      obtain ⟨v6, g, h⟩ := zb_some h
      refine zw_xi hX dX12_begin_23 g ?_
      refine zw_if_le (tgt := 92) hX dX12_begin_24 (by decide) (fun c24 => ?_) (fun c24 => ?_)
      · rw [if_pos c24] at h
        obtain rfl := Option.some.inj h
        exact zw_vret hX hr dX12_begin_92 ⟨rfl, rfl⟩
      · rw [if_neg c24] at h
        refine zw_aload_n hX dX12_begin_27 rfl ?_
        obtain ⟨b7, g, h⟩ := zb_some h
        refine zw_getr hX zl_X12_31 dX12_begin_28 g ?_
        refine zw_sipush (v := (144 : Int32)) hX dX12_begin_31 (by decide) ?_
        refine zw_iload_n hX dX12_begin_34 rfl ?_
        refine zw_imul hX dX12_begin_35 ?_
        refine zw_bipush (v := (22 : Int32)) hX dX12_begin_36 (by decide) ?_
        refine zw_iadd hX dX12_begin_38 ?_
        obtain ⟨v8, g, h⟩ := zb_some h
        refine zw_xi hX dX12_begin_39 g ?_
        refine zw_iconst (v := (1 : Int32)) hX dX12_begin_40 (by decide) ?_
        refine zw_icmp_le (tgt := 64) hX dX12_begin_41 (by decide) (fun c41 => ?_) (fun c41 => ?_)
        · rw [if_pos c41] at h
          refine zw_sub (lv' := [(0, .ref a0), (1, .int i1), (2, .int i2)]) (List.forall_mem_cons.mpr ⟨rfl, (List.forall_mem_cons.mpr ⟨rfl, (List.forall_mem_cons.mpr ⟨rfl, zs_nil⟩)⟩)⟩) ?_
          exact zt_X12_begin_J64 hX hr hR hd h
        · rw [if_neg c41] at h
          refine zw_aload_n hX dX12_begin_44 rfl ?_
          obtain ⟨b12, g, h⟩ := zb_some h
          refine zw_getr hX zl_X12_31 dX12_begin_45 g ?_
          refine zw_sipush (v := (144 : Int32)) hX dX12_begin_48 (by decide) ?_
          refine zw_iload_n hX dX12_begin_51 rfl ?_
          refine zw_imul hX dX12_begin_52 ?_
          refine zw_bipush (v := (23 : Int32)) hX dX12_begin_53 (by decide) ?_
          refine zw_iadd hX dX12_begin_55 ?_
          obtain ⟨v13, g, h⟩ := zb_some h
          refine zw_xi hX dX12_begin_56 g ?_
          refine zw_if_ne (tgt := 64) hX dX12_begin_57 (by decide) (fun c57 => ?_) (fun c57 => ?_)
          · rw [if_neg c57] at h
            refine zw_sub (lv' := [(0, .ref a0), (1, .int i1), (2, .int i2)]) (List.forall_mem_cons.mpr ⟨rfl, (List.forall_mem_cons.mpr ⟨rfl, (List.forall_mem_cons.mpr ⟨rfl, zs_nil⟩)⟩)⟩) ?_
            exact zt_X12_begin_J64 hX hr hR hd h
          · rw [if_pos c57] at h
            refine zw_iconst (v := (1 : Int32)) hX dX12_begin_60 (by decide) ?_
            refine zw_goto (tgt := 65) hX dX12_begin_61 (by decide) ?_
            refine zw_sub (lv' := [(0, .ref a0), (1, .int i1), (2, .int i2)]) (List.forall_mem_cons.mpr ⟨rfl, (List.forall_mem_cons.mpr ⟨rfl, (List.forall_mem_cons.mpr ⟨rfl, zs_nil⟩)⟩)⟩) ?_
            exact zt_X12_begin_J65 hX hr hR hd h
set_option maxHeartbeats 4000000 in
set_option maxRecDepth 100000 in
theorem zt_X12_answers_J174 {p : Program} {l : Launch} {e : Env} {R : Room} {s : State} {m : MethodId} {args : Array Value} {below : List Frame} {meth : Method} {c : Code} {V : zm_V} {mc ms d rc rs : Nat} (hX : zm_X p R s m args meth c RX12 "answers" cX12_answers 4 zk_E V mc ms) (hr : meth.sig.returnType = none) (hR : R.frames = d ∧ R.locals = 64 * d) (hd : 1 ≤ d) {N : Nat} {k : Nat → Int32 → Int32 → zm_S → Option ((Unit × zm_S) ⊕ ((Unit) × zm_S))} {a0 : Nat} {i1 : Int32} {i2 : Int32} {t0 : Nat} {t1 : Int32} {t2 : Int32} {res : (Unit × zm_S) ⊕ ((Unit) × zm_S)} {out : (Unit × zm_S)}   (hf : ∀ o, res = .inl o → o = out) (hk : ∀ (S' : zm_S), res = .inr ((), S') → zw p l e R s m args below meth c (vx_MQ below (zm_Qc zk_E V (zo_v out)) (zm_XC zk_E V zo_x) args s mc ms (fun q => V.2.2.2.1 ≤ q)) 4 zk_E V mc ms 188 [] [] S' rc rs) (hrec : ∀ (i2' : Int32) (S : zm_S), k a0 i1 i2' S = some res → zw p l e R s m args below meth c (vx_MQ below (zm_Qc zk_E V (zo_v out)) (zm_XC zk_E V zo_x) args s mc ms (fun q => V.2.2.2.1 ≤ q)) 4 zk_E V mc ms 49 [(0, .ref a0), (1, .int i1), (2, .int i2')] [] S rc rs) {S : zm_S} (h : zf_X12_answers_J174 N k a0 i1 i2 t0 t1 t2 S = some res) : zw p l e R s m args below meth c (vx_MQ below (zm_Qc zk_E V (zo_v out)) (zm_XC zk_E V zo_x) args s mc ms (fun q => V.2.2.2.1 ≤ q)) 4 zk_E V mc ms 174 [(0, .ref a0), (1, .int i1), (2, .int i2)] [.int t2, .int t1, .ref t0] S rc rs := by
  unfold zf_X12_answers_J174 at h
  obtain ⟨S19, g, h⟩ := zb_some h
  refine zw_si hX dX12_answers_174 g ?_
  refine zw_aload_n hX dX12_answers_175 rfl ?_
  obtain ⟨b20, g, h⟩ := zb_some h
  refine zw_getr hX zl_X12_43 dX12_answers_176 g ?_
  refine zw_iload_n hX dX12_answers_179 rfl ?_
  refine zw_iconst (v := (0 : Int32)) hX dX12_answers_180 (by decide) ?_
  obtain ⟨S21, g, h⟩ := zb_some h
  refine zw_si hX dX12_answers_181 g ?_
  refine zw_iinc (v := (i2 + (1 : Int32))) hX dX12_answers_182 rfl rfl (by decide) ?_
  refine zw_goto (tgt := 49) hX dX12_answers_185 (by decide) ?_
  refine zw_sub (lv' := [(0, .ref a0), (1, .int i1), (2, .int (i2 + (1 : Int32)))]) (List.forall_mem_cons.mpr ⟨rfl, (List.forall_mem_cons.mpr ⟨rfl, (List.forall_mem_cons.mpr ⟨rfl, zs_nil⟩)⟩)⟩) ?_
  exact hrec _ _ h
set_option maxHeartbeats 4000000 in
set_option maxRecDepth 100000 in
theorem zt_X12_answers_J116 {p : Program} {l : Launch} {e : Env} {R : Room} {s : State} {m : MethodId} {args : Array Value} {below : List Frame} {meth : Method} {c : Code} {V : zm_V} {mc ms d rc rs : Nat} (hX : zm_X p R s m args meth c RX12 "answers" cX12_answers 4 zk_E V mc ms) (hr : meth.sig.returnType = none) (hR : R.frames = d ∧ R.locals = 64 * d) (hd : 1 ≤ d) {N : Nat} {k : Nat → Int32 → Int32 → zm_S → Option ((Unit × zm_S) ⊕ ((Unit) × zm_S))} {a0 : Nat} {i1 : Int32} {i2 : Int32} {t0 : Int32} {res : (Unit × zm_S) ⊕ ((Unit) × zm_S)} {out : (Unit × zm_S)}   (hf : ∀ o, res = .inl o → o = out) (hk : ∀ (S' : zm_S), res = .inr ((), S') → zw p l e R s m args below meth c (vx_MQ below (zm_Qc zk_E V (zo_v out)) (zm_XC zk_E V zo_x) args s mc ms (fun q => V.2.2.2.1 ≤ q)) 4 zk_E V mc ms 188 [] [] S' rc rs) (hrec : ∀ (i2' : Int32) (S : zm_S), k a0 i1 i2' S = some res → zw p l e R s m args below meth c (vx_MQ below (zm_Qc zk_E V (zo_v out)) (zm_XC zk_E V zo_x) args s mc ms (fun q => V.2.2.2.1 ≤ q)) 4 zk_E V mc ms 49 [(0, .ref a0), (1, .int i1), (2, .int i2')] [] S rc rs) {S : zm_S} (h : zf_X12_answers_J116 N k a0 i1 i2 t0 S = some res) : zw p l e R s m args below meth c (vx_MQ below (zm_Qc zk_E V (zo_v out)) (zm_XC zk_E V zo_x) args s mc ms (fun q => V.2.2.2.1 ≤ q)) 4 zk_E V mc ms 116 [(0, .ref a0), (1, .int i1), (2, .int i2)] [.int t0] S rc rs := by
  unfold zf_X12_answers_J116 at h
  refine zw_istore_n hX dX12_answers_116 (by decide) ?_
  refine zw_iload_n hX dX12_answers_117 rfl ?_
  refine zw_if_eq (tgt := 182) hX dX12_answers_118 (by decide) (fun c118 => ?_) (fun c118 => ?_)
  · rw [if_pos c118] at h
    refine zw_iinc (v := (i2 + (1 : Int32))) hX dX12_answers_182 rfl rfl (by decide) ?_
    refine zw_goto (tgt := 49) hX dX12_answers_185 (by decide) ?_
    refine zw_sub (lv' := [(0, .ref a0), (1, .int i1), (2, .int (i2 + (1 : Int32)))]) (List.forall_mem_cons.mpr ⟨rfl, (List.forall_mem_cons.mpr ⟨rfl, (List.forall_mem_cons.mpr ⟨rfl, zs_nil⟩)⟩)⟩) ?_
    exact hrec _ _ h
  · rw [if_neg c118] at h
    refine zw_aload_n hX dX12_answers_121 rfl ?_
    obtain ⟨b11, g, h⟩ := zb_some h
    refine zw_getr hX zl_X12_34 dX12_answers_122 g ?_
    refine zw_iload_n hX dX12_answers_125 rfl ?_
    obtain ⟨v12, g, h⟩ := zb_some h
    refine zw_xi hX dX12_answers_126 g ?_
    refine zw_if_ge (tgt := 182) hX dX12_answers_127 (by decide) (fun c127 => ?_) (fun c127 => ?_)
    · rw [if_pos c127] at h
      refine zw_iinc (v := (i2 + (1 : Int32))) hX dX12_answers_182 rfl rfl (by decide) ?_
      refine zw_goto (tgt := 49) hX dX12_answers_185 (by decide) ?_
      refine zw_sub (lv' := [(0, .ref a0), (1, .int i1), (2, .int (i2 + (1 : Int32)))]) (List.forall_mem_cons.mpr ⟨rfl, (List.forall_mem_cons.mpr ⟨rfl, (List.forall_mem_cons.mpr ⟨rfl, zs_nil⟩)⟩)⟩) ?_
      exact hrec _ _ h
    · rw [if_neg c127] at h
      refine zw_aload_n hX dX12_answers_130 rfl ?_
      obtain ⟨b13, g, h⟩ := zb_some h
      refine zw_getr hX zl_X12_37 dX12_answers_131 g ?_
      refine zw_iload_n hX dX12_answers_134 rfl ?_
      obtain ⟨v14, g, h⟩ := zb_some h
      refine zw_xi hX dX12_answers_135 g ?_
      refine zw_if_ge (tgt := 182) hX dX12_answers_136 (by decide) (fun c136 => ?_) (fun c136 => ?_)
      · rw [if_pos c136] at h
        refine zw_iinc (v := (i2 + (1 : Int32))) hX dX12_answers_182 rfl rfl (by decide) ?_
        refine zw_goto (tgt := 49) hX dX12_answers_185 (by decide) ?_
        refine zw_sub (lv' := [(0, .ref a0), (1, .int i1), (2, .int (i2 + (1 : Int32)))]) (List.forall_mem_cons.mpr ⟨rfl, (List.forall_mem_cons.mpr ⟨rfl, (List.forall_mem_cons.mpr ⟨rfl, zs_nil⟩)⟩)⟩) ?_
        exact hrec _ _ h
      · rw [if_neg c136] at h
        refine zw_aload_n hX dX12_answers_139 rfl ?_
        obtain ⟨b15, g, h⟩ := zb_some h
        refine zw_getr hX zl_X12_40 dX12_answers_140 g ?_
        refine zw_iload_n hX dX12_answers_143 rfl ?_
        refine zw_aload_n hX dX12_answers_144 rfl ?_
        obtain ⟨v16, g, h⟩ := zb_some h
        refine zw_geti hX zl_X12_93 dX12_answers_145 g ?_
        refine zw_if_ne (tgt := 156) hX dX12_answers_148 (by decide) (fun c148 => ?_) (fun c148 => ?_)
        · rw [if_neg c148] at h
          refine zw_aload_n hX dX12_answers_156 rfl ?_
          obtain ⟨b17, g, h⟩ := zb_some h
          refine zw_getr hX zl_X12_25 dX12_answers_157 g ?_
          refine zw_iload_n hX dX12_answers_160 rfl ?_
          obtain ⟨v18, g, h⟩ := zb_some h
          refine zw_xz hX dX12_answers_161 g ?_
          refine zw_if_eq (tgt := 171) hX dX12_answers_162 (by decide) (fun c162 => ?_) (fun c162 => ?_)
          · rw [if_pos c162] at h
            refine zw_sipush (v := (204 : Int32)) hX dX12_answers_171 (by decide) ?_
            refine zw_sub (lv' := [(0, .ref a0), (1, .int i1), (2, .int i2)]) (List.forall_mem_cons.mpr ⟨rfl, (List.forall_mem_cons.mpr ⟨rfl, (List.forall_mem_cons.mpr ⟨rfl, zs_nil⟩)⟩)⟩) ?_
            exact zt_X12_answers_J174 hX hr hR hd hf hk hrec h
          · rw [if_neg c162] at h
            refine zw_sipush (v := (192 : Int32)) hX dX12_answers_165 (by decide) ?_
            refine zw_goto (tgt := 174) hX dX12_answers_168 (by decide) ?_
            refine zw_sub (lv' := [(0, .ref a0), (1, .int i1), (2, .int i2)]) (List.forall_mem_cons.mpr ⟨rfl, (List.forall_mem_cons.mpr ⟨rfl, (List.forall_mem_cons.mpr ⟨rfl, zs_nil⟩)⟩)⟩) ?_
            exact zt_X12_answers_J174 hX hr hR hd hf hk hrec h
        · rw [if_pos c148] at h
          refine zw_bipush (v := (12 : Int32)) hX dX12_answers_151 (by decide) ?_
          refine zw_goto (tgt := 174) hX dX12_answers_153 (by decide) ?_
          refine zw_sub (lv' := [(0, .ref a0), (1, .int i1), (2, .int i2)]) (List.forall_mem_cons.mpr ⟨rfl, (List.forall_mem_cons.mpr ⟨rfl, (List.forall_mem_cons.mpr ⟨rfl, zs_nil⟩)⟩)⟩) ?_
          exact zt_X12_answers_J174 hX hr hR hd hf hk hrec h
set_option maxHeartbeats 4000000 in
set_option maxRecDepth 100000 in
theorem zt_X12_answers_J115 {p : Program} {l : Launch} {e : Env} {R : Room} {s : State} {m : MethodId} {args : Array Value} {below : List Frame} {meth : Method} {c : Code} {V : zm_V} {mc ms d rc rs : Nat} (hX : zm_X p R s m args meth c RX12 "answers" cX12_answers 4 zk_E V mc ms) (hr : meth.sig.returnType = none) (hR : R.frames = d ∧ R.locals = 64 * d) (hd : 1 ≤ d) {N : Nat} {k : Nat → Int32 → Int32 → zm_S → Option ((Unit × zm_S) ⊕ ((Unit) × zm_S))} {a0 : Nat} {i1 : Int32} {i2 : Int32} {res : (Unit × zm_S) ⊕ ((Unit) × zm_S)} {out : (Unit × zm_S)}   (hf : ∀ o, res = .inl o → o = out) (hk : ∀ (S' : zm_S), res = .inr ((), S') → zw p l e R s m args below meth c (vx_MQ below (zm_Qc zk_E V (zo_v out)) (zm_XC zk_E V zo_x) args s mc ms (fun q => V.2.2.2.1 ≤ q)) 4 zk_E V mc ms 188 [] [] S' rc rs) (hrec : ∀ (i2' : Int32) (S : zm_S), k a0 i1 i2' S = some res → zw p l e R s m args below meth c (vx_MQ below (zm_Qc zk_E V (zo_v out)) (zm_XC zk_E V zo_x) args s mc ms (fun q => V.2.2.2.1 ≤ q)) 4 zk_E V mc ms 49 [(0, .ref a0), (1, .int i1), (2, .int i2')] [] S rc rs) {S : zm_S} (h : zf_X12_answers_J115 N k a0 i1 i2 S = some res) : zw p l e R s m args below meth c (vx_MQ below (zm_Qc zk_E V (zo_v out)) (zm_XC zk_E V zo_x) args s mc ms (fun q => V.2.2.2.1 ≤ q)) 4 zk_E V mc ms 115 [(0, .ref a0), (1, .int i1), (2, .int i2)] [] S rc rs := by
  unfold zf_X12_answers_J115 at h
  refine zw_iconst (v := (0 : Int32)) hX dX12_answers_115 (by decide) ?_
  refine zw_sub (lv' := [(0, .ref a0), (1, .int i1), (2, .int i2)]) (List.forall_mem_cons.mpr ⟨rfl, (List.forall_mem_cons.mpr ⟨rfl, (List.forall_mem_cons.mpr ⟨rfl, zs_nil⟩)⟩)⟩) ?_
  exact zt_X12_answers_J116 hX hr hR hd hf hk hrec h
set_option maxHeartbeats 4000000 in
set_option maxRecDepth 100000 in
theorem zt_X12_answers_L49 {p : Program} {l : Launch} {e : Env} {R : Room} {s : State} {m : MethodId} {args : Array Value} {below : List Frame} {meth : Method} {c : Code} {V : zm_V} {mc ms d rc rs : Nat} (hX : zm_X p R s m args meth c RX12 "answers" cX12_answers 4 zk_E V mc ms) (hr : meth.sig.returnType = none) (hR : R.frames = d ∧ R.locals = 64 * d) (hd : 1 ≤ d) {N : Nat} {res : (Unit × zm_S) ⊕ ((Unit) × zm_S)} {out : (Unit × zm_S)} (a0 : Nat) (i1 : Int32) (hf : ∀ o, res = .inl o → o = out) (hk : ∀ (S' : zm_S), res = .inr ((), S') → zw p l e R s m args below meth c (vx_MQ below (zm_Qc zk_E V (zo_v out)) (zm_XC zk_E V zo_x) args s mc ms (fun q => V.2.2.2.1 ≤ q)) 4 zk_E V mc ms 188 [] [] S' rc rs) : ∀ (n : Nat) (i2 : Int32) (S : zm_S), zf_X12_answers_L49 N n a0 i1 i2 S = some res → zw p l e R s m args below meth c (vx_MQ below (zm_Qc zk_E V (zo_v out)) (zm_XC zk_E V zo_x) args s mc ms (fun q => V.2.2.2.1 ≤ q)) 4 zk_E V mc ms 49 [(0, .ref a0), (1, .int i1), (2, .int i2)] [] S rc rs := by
  intro n
  induction n with
  | zero => intro i2 S h; cases h
  | succ n ih =>
    intro i2 S h
    rw [zf_X12_answers_L49] at h
    refine zw_iload_n hX dX12_answers_49 rfl ?_
    refine zw_bipush (v := (8 : Int32)) hX dX12_answers_50 (by decide) ?_
    refine zw_icmp_ge (tgt := 188) hX dX12_answers_52 (by decide) (fun c52 => ?_) (fun c52 => ?_)
    · rw [if_pos c52] at h
      refine zw_sub (lv' := []) zs_nil ?_
      exact hk  _ (Option.some.inj h).symm
    · rw [if_neg c52] at h
      refine zw_aload_n hX dX12_answers_55 rfl ?_
      obtain ⟨b9, g, h⟩ := zb_some h
      refine zw_getr hX zl_X12_58 dX12_answers_56 g ?_
      refine zw_iconst (v := (5 : Int32)) hX dX12_answers_59 (by decide) ?_
      obtain ⟨v10, g, h⟩ := zb_some h
      refine zw_xi hX dX12_answers_60 g ?_
      refine zw_sipush (v := (128 : Int32)) hX dX12_answers_61 (by decide) ?_
      refine zw_icmp_ge (tgt := 85) hX dX12_answers_64 (by decide) (fun c64 => ?_) (fun c64 => ?_)
      · rw [if_pos c64] at h
        refine zw_iload_n hX dX12_answers_85 rfl ?_
        refine zw_sipush (v := (256 : Int32)) hX dX12_answers_86 (by decide) ?_
        refine zw_icmp_ge (tgt := 115) hX dX12_answers_89 (by decide) (fun c89 => ?_) (fun c89 => ?_)
        · rw [if_pos c89] at h
          refine zw_sub (lv' := [(0, .ref a0), (1, .int i1), (2, .int i2)]) (List.forall_mem_cons.mpr ⟨rfl, (List.forall_mem_cons.mpr ⟨rfl, (List.forall_mem_cons.mpr ⟨rfl, zs_nil⟩)⟩)⟩) ?_
          exact zt_X12_answers_J115 hX hr hR hd hf hk ih h
        · rw [if_neg c89] at h
          refine zw_aload_n hX dX12_answers_92 rfl ?_
          obtain ⟨b22, g, h⟩ := zb_some h
          refine zw_getr hX zl_X12_22 dX12_answers_93 g ?_
          refine zw_sipush (v := (256 : Int32)) hX dX12_answers_96 (by decide) ?_
          refine zw_iload_n hX dX12_answers_99 rfl ?_
          refine zw_imul hX dX12_answers_100 ?_
          refine zw_iload_n hX dX12_answers_101 rfl ?_
          refine zw_sipush (v := (256 : Int32)) hX dX12_answers_102 (by decide) ?_
          refine zw_irem hX dX12_answers_105 (by decide) ?_
          refine zw_iadd hX dX12_answers_106 ?_
          obtain ⟨v23, g, h⟩ := zb_some h
          refine zw_xz hX dX12_answers_107 g ?_
          refine zw_if_eq (tgt := 115) hX dX12_answers_108 (by decide) (fun c108 => ?_) (fun c108 => ?_)
          · rw [if_pos c108] at h
            refine zw_sub (lv' := [(0, .ref a0), (1, .int i1), (2, .int i2)]) (List.forall_mem_cons.mpr ⟨rfl, (List.forall_mem_cons.mpr ⟨rfl, (List.forall_mem_cons.mpr ⟨rfl, zs_nil⟩)⟩)⟩) ?_
            exact zt_X12_answers_J115 hX hr hR hd hf hk ih h
          · rw [if_neg c108] at h
            refine zw_iconst (v := (1 : Int32)) hX dX12_answers_111 (by decide) ?_
            refine zw_goto (tgt := 116) hX dX12_answers_112 (by decide) ?_
            refine zw_sub (lv' := [(0, .ref a0), (1, .int i1), (2, .int i2)]) (List.forall_mem_cons.mpr ⟨rfl, (List.forall_mem_cons.mpr ⟨rfl, (List.forall_mem_cons.mpr ⟨rfl, zs_nil⟩)⟩)⟩) ?_
            exact zt_X12_answers_J116 hX hr hR hd hf hk ih h
      · rw [if_neg c64] at h
        refine zw_iload_n hX dX12_answers_67 rfl ?_
        refine zw_aload_n hX dX12_answers_68 rfl ?_
        obtain ⟨b24, g, h⟩ := zb_some h
        refine zw_getr hX zl_X12_18 dX12_answers_69 g ?_
        refine zw_iload_n hX dX12_answers_72 rfl ?_
        obtain ⟨v25, g, h⟩ := zb_some h
        refine zw_xi hX dX12_answers_73 g ?_
        refine zw_icmp_ne (tgt := 81) hX dX12_answers_74 (by decide) (fun c74 => ?_) (fun c74 => ?_)
        · rw [if_neg c74] at h
          refine zw_iconst (v := (0 : Int32)) hX dX12_answers_81 (by decide) ?_
          refine zw_goto (tgt := 116) hX dX12_answers_82 (by decide) ?_
          refine zw_sub (lv' := [(0, .ref a0), (1, .int i1), (2, .int i2)]) (List.forall_mem_cons.mpr ⟨rfl, (List.forall_mem_cons.mpr ⟨rfl, (List.forall_mem_cons.mpr ⟨rfl, zs_nil⟩)⟩)⟩) ?_
          exact zt_X12_answers_J116 hX hr hR hd hf hk ih h
        · rw [if_pos c74] at h
          refine zw_iconst (v := (1 : Int32)) hX dX12_answers_77 (by decide) ?_
          refine zw_goto (tgt := 116) hX dX12_answers_78 (by decide) ?_
          refine zw_sub (lv' := [(0, .ref a0), (1, .int i1), (2, .int i2)]) (List.forall_mem_cons.mpr ⟨rfl, (List.forall_mem_cons.mpr ⟨rfl, (List.forall_mem_cons.mpr ⟨rfl, zs_nil⟩)⟩)⟩) ?_
          exact zt_X12_answers_J116 hX hr hR hd hf hk ih h
set_option maxHeartbeats 4000000 in
set_option maxRecDepth 100000 in
theorem zt_X12_answers {l : Launch} {V : zm_V} {N : Nat} {S : zm_S} {out : (Unit × zm_S)} {d : Nat} {a0 : Nat} (hd : 1 ≤ d) (h : zf_X12_answers N a0 S = some out) : zm_Met l zk_E V yX12_answers (.code yX12_answers cX12_answers 4 none) d [.ref a0] S 0 0 (zo_v out) zo_x := by
  refine zm_of (by decide +kernel) (Nat.le_of_ble_eq_true rfl) ?_
  intro p e R s m args below meth c hRR hX hr hxt
  have hR : R.frames = d ∧ R.locals = 64 * d := by rw [hRR]; exact ⟨rfl, rfl⟩
  have hX : zm_X p R s m args meth c RX12 "answers" cX12_answers 4 zk_E V 0 0 := hX
  unfold zf_X12_answers at h
  refine zw_sub (lv' := [(0, .ref a0)]) (List.forall_mem_cons.mpr ⟨rfl, zs_nil⟩) ?_
  refine zw_aload_n hX dX12_answers_0 rfl ?_
  obtain ⟨v1, g, h⟩ := zb_some h
  refine zw_geti hX zl_X12_86 dX12_answers_1 g ?_
  refine zw_if_eq (tgt := 28) hX dX12_answers_4 (by decide) (fun c4 => ?_) (fun c4 => ?_)
  · rw [if_pos c4] at h
    obtain rfl := Option.some.inj h
    exact zw_vret hX hr dX12_answers_28 ⟨rfl, rfl⟩
  · rw [if_neg c4] at h
    refine zw_aload_n hX dX12_answers_7 rfl ?_
    obtain ⟨v2, g, h⟩ := zb_some h
    refine zw_geti hX zl_X12_75 dX12_answers_8 g ?_
    refine zw_aload_n hX dX12_answers_11 rfl ?_
    obtain ⟨v3, g, h⟩ := zb_some h
    refine zw_geti hX zl_X12_86 dX12_answers_12 g ?_
    refine zw_bipush (v := (14 : Int32)) hX dX12_answers_15 (by decide) ?_
    refine zw_iadd hX dX12_answers_17 ?_
    refine zw_icmp_ne (tgt := 28) hX dX12_answers_18 (by decide) (fun c18 => ?_) (fun c18 => ?_)
    · rw [if_neg c18] at h
      obtain rfl := Option.some.inj h
      exact zw_vret hX hr dX12_answers_28 ⟨rfl, rfl⟩
    · rw [if_pos c18] at h
      refine zw_aload_n hX dX12_answers_21 rfl ?_
      obtain ⟨v4, g, h⟩ := zb_some h
      refine zw_geti hX zl_X12_89 dX12_answers_22 g ?_
      refine zw_if_eq (tgt := 29) hX dX12_answers_25 (by decide) (fun c25 => ?_) (fun c25 => ?_)
      · rw [if_pos c25] at h
        refine zw_sipush (v := (256 : Int32)) hX dX12_answers_29 (by decide) ?_
        refine zw_aload_n hX dX12_answers_32 rfl ?_
        obtain ⟨b5, g, h⟩ := zb_some h
        refine zw_getr hX zl_X12_58 dX12_answers_33 g ?_
        refine zw_iconst (v := (3 : Int32)) hX dX12_answers_36 (by decide) ?_
        obtain ⟨v6, g, h⟩ := zb_some h
        refine zw_xi hX dX12_answers_37 g ?_
        refine zw_imul hX dX12_answers_38 ?_
        refine zw_aload_n hX dX12_answers_39 rfl ?_
        obtain ⟨b7, g, h⟩ := zb_some h
        refine zw_getr hX zl_X12_58 dX12_answers_40 g ?_
        refine zw_iconst (v := (4 : Int32)) hX dX12_answers_43 (by decide) ?_
        obtain ⟨v8, g, h⟩ := zb_some h
        refine zw_xi hX dX12_answers_44 g ?_
        refine zw_iadd hX dX12_answers_45 ?_
        refine zw_istore_n hX dX12_answers_46 (by decide) ?_
        refine zw_iconst (v := (0 : Int32)) hX dX12_answers_47 (by decide) ?_
        refine zw_istore_n hX dX12_answers_48 (by decide) ?_
        obtain ⟨r, g, h⟩ := zb_some h
        refine zw_sub (lv' := [(0, .ref a0), (1, .int (((256 : Int32) * v6) + v8)), (2, .int (0 : Int32))]) (List.forall_mem_cons.mpr ⟨rfl, (List.forall_mem_cons.mpr ⟨rfl, (List.forall_mem_cons.mpr ⟨rfl, zs_nil⟩)⟩)⟩) ?_
        refine zt_X12_answers_L49 hX hr hR hd (res := r) (out := out) a0 (((256 : Int32) * v6) + v8) ?_ ?_ N _ _ g
        · intro o ho
          subst ho
          exact Option.some.inj h
        · intro  S26 hx
          subst hx
          try dsimp only at h
          obtain rfl := Option.some.inj h
          exact zw_vret hX hr dX12_answers_188 ⟨rfl, rfl⟩
      · rw [if_neg c25] at h
        obtain rfl := Option.some.inj h
        exact zw_vret hX hr dX12_answers_28 ⟨rfl, rfl⟩
set_option maxHeartbeats 4000000 in
set_option maxRecDepth 100000 in
theorem zt_X12_sendsOne_J28 {p : Program} {l : Launch} {e : Env} {R : Room} {s : State} {m : MethodId} {args : Array Value} {below : List Frame} {meth : Method} {c : Code} {V : zm_V} {mc ms d rc rs : Nat} (hX : zm_X p R s m args meth c RX12 "sendsOne" cX12_sendsOne 3 zk_E V mc ms) (hr : meth.sig.returnType = (some .boolean)) (hR : R.frames = d ∧ R.locals = 64 * d) (hd : 4 ≤ d) {N : Nat} {a0 : Nat} {i1 : Int32} {t0 : Int32} {out : (Int32 × zm_S)} {S : zm_S} (h : zf_X12_sendsOne_J28 N a0 i1 t0 S = some out) : zw p l e R s m args below meth c (vx_MQ below (zm_Qc zk_E V (zo_i out)) (zm_XC zk_E V zo_x) args s mc ms (fun q => V.2.2.2.1 ≤ q)) 3 zk_E V mc ms 28 [(0, .ref a0), (1, .int i1)] [.int t0] S rc rs := by
  unfold zf_X12_sendsOne_J28 at h
  refine zw_istore_n hX dX12_sendsOne_28 (by decide) ?_
  refine zw_iload_n hX dX12_sendsOne_29 rfl ?_
  refine zw_if_eq (tgt := 64) hX dX12_sendsOne_30 (by decide) (fun c30 => ?_) (fun c30 => ?_)
  · rw [if_pos c30] at h
    refine zw_iconst (v := (0 : Int32)) hX dX12_sendsOne_64 (by decide) ?_
    obtain rfl := Option.some.inj h
    exact zw_iret hX hr dX12_sendsOne_65 rfl ⟨rfl, rfl⟩
  · rw [if_neg c30] at h
    refine zw_aload_n hX dX12_sendsOne_33 rfl ?_
    obtain ⟨b3, g, h⟩ := zb_some h
    refine zw_getr hX zl_X12_40 dX12_sendsOne_34 g ?_
    refine zw_iload_n hX dX12_sendsOne_37 rfl ?_
    obtain ⟨v4, g, h⟩ := zb_some h
    refine zw_xi hX dX12_sendsOne_38 g ?_
    refine zw_if_lt (tgt := 60) hX dX12_sendsOne_39 (by decide) (fun c39 => ?_) (fun c39 => ?_)
    · rw [if_pos c39] at h
      refine zw_iconst (v := (1 : Int32)) hX dX12_sendsOne_60 (by decide) ?_
      refine zw_goto (tgt := 65) hX dX12_sendsOne_61 (by decide) ?_
      obtain rfl := Option.some.inj h
      exact zw_iret hX hr dX12_sendsOne_65 rfl ⟨rfl, rfl⟩
    · rw [if_neg c39] at h
      refine zw_aload_n hX dX12_sendsOne_42 rfl ?_
      obtain ⟨b5, g, h⟩ := zb_some h
      refine zw_getr hX zl_X12_40 dX12_sendsOne_43 g ?_
      refine zw_iload_n hX dX12_sendsOne_46 rfl ?_
      obtain ⟨v6, g, h⟩ := zb_some h
      refine zw_xi hX dX12_sendsOne_47 g ?_
      refine zw_aload_n hX dX12_sendsOne_48 rfl ?_
      obtain ⟨b7, g, h⟩ := zb_some h
      refine zw_getr hX zl_X12_43 dX12_sendsOne_49 g ?_
      refine zw_iload_n hX dX12_sendsOne_52 rfl ?_
      obtain ⟨v8, g, h⟩ := zb_some h
      refine zw_xi hX dX12_sendsOne_53 g ?_
      obtain ⟨r10, g, h⟩ := zb_some h
      refine zc_Si (as := [.int v6, .int v8]) hX (zt_X12_letterBit (d := d - 1) (by omega) g) zl_X12_82 dX12_sendsOne_54 ⟨rfl, rfl, Nat.le_of_ble_eq_true rfl⟩ ⟨by omega, by omega⟩ ?_
      refine zw_if_eq (tgt := 64) hX dX12_sendsOne_57 (by decide) (fun c57 => ?_) (fun c57 => ?_)
      · rw [if_pos c57] at h
        refine zw_iconst (v := (0 : Int32)) hX dX12_sendsOne_64 (by decide) ?_
        obtain rfl := Option.some.inj h
        exact zw_iret hX hr dX12_sendsOne_65 rfl ⟨rfl, rfl⟩
      · rw [if_neg c57] at h
        refine zw_iconst (v := (1 : Int32)) hX dX12_sendsOne_60 (by decide) ?_
        refine zw_goto (tgt := 65) hX dX12_sendsOne_61 (by decide) ?_
        obtain rfl := Option.some.inj h
        exact zw_iret hX hr dX12_sendsOne_65 rfl ⟨rfl, rfl⟩
set_option maxHeartbeats 4000000 in
set_option maxRecDepth 100000 in
theorem zt_X12_sendsOne_J23 {p : Program} {l : Launch} {e : Env} {R : Room} {s : State} {m : MethodId} {args : Array Value} {below : List Frame} {meth : Method} {c : Code} {V : zm_V} {mc ms d rc rs : Nat} (hX : zm_X p R s m args meth c RX12 "sendsOne" cX12_sendsOne 3 zk_E V mc ms) (hr : meth.sig.returnType = (some .boolean)) (hR : R.frames = d ∧ R.locals = 64 * d) (hd : 4 ≤ d) {N : Nat} {a0 : Nat} {i1 : Int32} {out : (Int32 × zm_S)} {S : zm_S} (h : zf_X12_sendsOne_J23 N a0 i1 S = some out) : zw p l e R s m args below meth c (vx_MQ below (zm_Qc zk_E V (zo_i out)) (zm_XC zk_E V zo_x) args s mc ms (fun q => V.2.2.2.1 ≤ q)) 3 zk_E V mc ms 23 [(0, .ref a0), (1, .int i1)] [] S rc rs := by
  unfold zf_X12_sendsOne_J23 at h
  refine zw_iconst (v := (1 : Int32)) hX dX12_sendsOne_23 (by decide) ?_
  refine zw_goto (tgt := 28) hX dX12_sendsOne_24 (by decide) ?_
  refine zw_sub (lv' := [(0, .ref a0), (1, .int i1)]) (List.forall_mem_cons.mpr ⟨rfl, (List.forall_mem_cons.mpr ⟨rfl, zs_nil⟩)⟩) ?_
  exact zt_X12_sendsOne_J28 hX hr hR hd h
set_option maxHeartbeats 4000000 in
set_option maxRecDepth 100000 in
theorem zt_X12_sendsOne {l : Launch} {V : zm_V} {N : Nat} {S : zm_S} {out : (Int32 × zm_S)} {d : Nat} {a0 : Nat} {i1 : Int32} (hd : 4 ≤ d) (h : zf_X12_sendsOne N a0 i1 S = some out) : zm_Met l zk_E V yX12_sendsOne (.code yX12_sendsOne cX12_sendsOne 3 (some .boolean)) d [.ref a0, .int i1] S 0 0 (zo_i out) zo_x := by
  refine zm_of (by decide +kernel) (Nat.le_of_ble_eq_true rfl) ?_
  intro p e R s m args below meth c hRR hX hr hxt
  have hR : R.frames = d ∧ R.locals = 64 * d := by rw [hRR]; exact ⟨rfl, rfl⟩
  have hX : zm_X p R s m args meth c RX12 "sendsOne" cX12_sendsOne 3 zk_E V 0 0 := hX
  unfold zf_X12_sendsOne at h
  refine zw_sub (lv' := [(0, .ref a0), (1, .int i1)]) (List.forall_mem_cons.mpr ⟨rfl, (List.forall_mem_cons.mpr ⟨rfl, zs_nil⟩)⟩) ?_
  refine zw_aload_n hX dX12_sendsOne_0 rfl ?_
  obtain ⟨b1, g, h⟩ := zb_some h
  refine zw_getr hX zl_X12_34 dX12_sendsOne_1 g ?_
  refine zw_iload_n hX dX12_sendsOne_4 rfl ?_
  obtain ⟨v2, g, h⟩ := zb_some h
  refine zw_xi hX dX12_sendsOne_5 g ?_
  refine zw_if_lt (tgt := 23) hX dX12_sendsOne_6 (by decide) (fun c6 => ?_) (fun c6 => ?_)
  · rw [if_pos c6] at h
    refine zw_sub (lv' := [(0, .ref a0), (1, .int i1)]) (List.forall_mem_cons.mpr ⟨rfl, (List.forall_mem_cons.mpr ⟨rfl, zs_nil⟩)⟩) ?_
    exact zt_X12_sendsOne_J23 hX hr hR hd h
  · rw [if_neg c6] at h
    refine zw_aload_n hX dX12_sendsOne_9 rfl ?_
    refine zw_iload_n hX dX12_sendsOne_10 rfl ?_
    refine zw_aload_n hX dX12_sendsOne_11 rfl ?_
    obtain ⟨b11, g, h⟩ := zb_some h
    refine zw_getr hX zl_X12_34 dX12_sendsOne_12 g ?_
    refine zw_iload_n hX dX12_sendsOne_15 rfl ?_
    obtain ⟨v12, g, h⟩ := zb_some h
    refine zw_xi hX dX12_sendsOne_16 g ?_
    obtain ⟨_, gi, h⟩ := zb_some h
    obtain ⟨r14, g, h⟩ := zb_some h
    refine zc_Vi (as := [.int i1, .int v12]) hX gi (zt_X12_telegramBit (d := d - 1) (by omega) g) zl_X12_96 rfl dX12_sendsOne_17 ⟨rfl, rfl, Nat.le_of_ble_eq_true rfl⟩ ⟨by omega, by omega⟩ ?_
    refine zw_if_eq (tgt := 27) hX dX12_sendsOne_20 (by decide) (fun c20 => ?_) (fun c20 => ?_)
    · rw [if_pos c20] at h
      refine zw_iconst (v := (0 : Int32)) hX dX12_sendsOne_27 (by decide) ?_
      refine zw_sub (lv' := [(0, .ref a0), (1, .int i1)]) (List.forall_mem_cons.mpr ⟨rfl, (List.forall_mem_cons.mpr ⟨rfl, zs_nil⟩)⟩) ?_
      exact zt_X12_sendsOne_J28 hX hr hR hd h
    · rw [if_neg c20] at h
      refine zw_sub (lv' := [(0, .ref a0), (1, .int i1)]) (List.forall_mem_cons.mpr ⟨rfl, (List.forall_mem_cons.mpr ⟨rfl, zs_nil⟩)⟩) ?_
      exact zt_X12_sendsOne_J23 hX hr hR hd h
set_option maxHeartbeats 4000000 in
set_option maxRecDepth 100000 in
theorem zt_X12_goOn_J187 {p : Program} {l : Launch} {e : Env} {R : Room} {s : State} {m : MethodId} {args : Array Value} {below : List Frame} {meth : Method} {c : Code} {V : zm_V} {mc ms d rc rs : Nat} (hX : zm_X p R s m args meth c RX12 "goOn" cX12_goOn 3 zk_E V mc ms) (hr : meth.sig.returnType = none) (hR : R.frames = d ∧ R.locals = 64 * d) (hd : 4 ≤ d) {N : Nat} {a0 : Nat} {i2 : Int32} {out : (Unit × zm_S)} {S : zm_S} (h : zf_X12_goOn_J187 N a0 i2 S = some out) : zw p l e R s m args below meth c (vx_MQ below (zm_Qc zk_E V (zo_v out)) (zm_XC zk_E V zo_x) args s mc ms (fun q => V.2.2.2.1 ≤ q)) 3 zk_E V mc ms 187 [(0, .ref a0), (2, .int i2)] [] S rc rs := by
  unfold zf_X12_goOn_J187 at h
  refine zw_aload_n hX dX12_goOn_187 rfl ?_
  obtain ⟨b23, g, h⟩ := zb_some h
  refine zw_getr hX zl_X12_31 dX12_goOn_188 g ?_
  refine zw_iload_n hX dX12_goOn_191 rfl ?_
  refine zw_bipush (v := (23 : Int32)) hX dX12_goOn_192 (by decide) ?_
  refine zw_iadd hX dX12_goOn_194 ?_
  refine zw_dup2 hX dX12_goOn_195 rfl rfl ?_
  obtain ⟨v24, g, h⟩ := zb_some h
  refine zw_xi hX dX12_goOn_196 g ?_
  refine zw_iconst (v := (1 : Int32)) hX dX12_goOn_197 (by decide) ?_
  refine zw_iadd hX dX12_goOn_198 ?_
  obtain ⟨S25, g, h⟩ := zb_some h
  refine zw_si hX dX12_goOn_199 g ?_
  obtain rfl := Option.some.inj h
  exact zw_vret hX hr dX12_goOn_200 ⟨rfl, rfl⟩
set_option maxHeartbeats 4000000 in
set_option maxRecDepth 100000 in
theorem zt_X12_goOn_J106 {p : Program} {l : Launch} {e : Env} {R : Room} {s : State} {m : MethodId} {args : Array Value} {below : List Frame} {meth : Method} {c : Code} {V : zm_V} {mc ms d rc rs : Nat} (hX : zm_X p R s m args meth c RX12 "goOn" cX12_goOn 3 zk_E V mc ms) (hr : meth.sig.returnType = none) (hR : R.frames = d ∧ R.locals = 64 * d) (hd : 4 ≤ d) {N : Nat} {a0 : Nat} {i1 : Int32} {i2 : Int32} {out : (Unit × zm_S)} {S : zm_S} (h : zf_X12_goOn_J106 N a0 i1 i2 S = some out) : zw p l e R s m args below meth c (vx_MQ below (zm_Qc zk_E V (zo_v out)) (zm_XC zk_E V zo_x) args s mc ms (fun q => V.2.2.2.1 ≤ q)) 3 zk_E V mc ms 106 [(0, .ref a0), (1, .int i1), (2, .int i2)] [] S rc rs := by
  unfold zf_X12_goOn_J106 at h
  refine zw_aload_n hX dX12_goOn_106 rfl ?_
  obtain ⟨b9, g, h⟩ := zb_some h
  refine zw_getr hX zl_X12_34 dX12_goOn_107 g ?_
  refine zw_iload_n hX dX12_goOn_110 rfl ?_
  refine zw_dup2 hX dX12_goOn_111 rfl rfl ?_
  obtain ⟨v10, g, h⟩ := zb_some h
  refine zw_xi hX dX12_goOn_112 g ?_
  refine zw_iconst (v := (1 : Int32)) hX dX12_goOn_113 (by decide) ?_
  refine zw_iadd hX dX12_goOn_114 ?_
  obtain ⟨S11, g, h⟩ := zb_some h
  refine zw_si hX dX12_goOn_115 g ?_
  refine zw_aload_n hX dX12_goOn_116 rfl ?_
  obtain ⟨b12, g, h⟩ := zb_some h
  refine zw_getr hX zl_X12_34 dX12_goOn_117 g ?_
  refine zw_iload_n hX dX12_goOn_120 rfl ?_
  obtain ⟨v13, g, h⟩ := zb_some h
  refine zw_xi hX dX12_goOn_121 g ?_
  refine zw_bipush (v := (13 : Int32)) hX dX12_goOn_122 (by decide) ?_
  refine zw_aload_n hX dX12_goOn_124 rfl ?_
  obtain ⟨b14, g, h⟩ := zb_some h
  refine zw_getr hX zl_X12_31 dX12_goOn_125 g ?_
  refine zw_iload_n hX dX12_goOn_128 rfl ?_
  refine zw_bipush (v := (21 : Int32)) hX dX12_goOn_129 (by decide) ?_
  refine zw_iadd hX dX12_goOn_131 ?_
  obtain ⟨v15, g, h⟩ := zb_some h
  refine zw_xi hX dX12_goOn_132 g ?_
  refine zw_imul hX dX12_goOn_133 ?_
  refine zw_iconst (v := (2 : Int32)) hX dX12_goOn_134 (by decide) ?_
  refine zw_isub hX dX12_goOn_135 ?_
  refine zw_icmp_ne (tgt := 200) hX dX12_goOn_136 (by decide) (fun c136 => ?_) (fun c136 => ?_)
  · rw [if_neg c136] at h
    obtain rfl := Option.some.inj h
    exact zw_vret hX hr dX12_goOn_200 ⟨rfl, rfl⟩
  · rw [if_pos c136] at h
    refine zw_aload_n hX dX12_goOn_139 rfl ?_
    obtain ⟨b16, g, h⟩ := zb_some h
    refine zw_getr hX zl_X12_34 dX12_goOn_140 g ?_
    refine zw_iload_n hX dX12_goOn_143 rfl ?_
    refine zw_iconst (v := (-1 : Int32)) hX dX12_goOn_144 (by decide) ?_
    obtain ⟨S17, g, h⟩ := zb_some h
    refine zw_si hX dX12_goOn_145 g ?_
    refine zw_aload_n hX dX12_goOn_146 rfl ?_
    obtain ⟨b18, g, h⟩ := zb_some h
    refine zw_getr hX zl_X12_37 dX12_goOn_147 g ?_
    refine zw_iload_n hX dX12_goOn_150 rfl ?_
    refine zw_aload_n hX dX12_goOn_151 rfl ?_
    obtain ⟨v19, g, h⟩ := zb_some h
    refine zw_geti hX zl_X12_75 dX12_goOn_152 g ?_
    refine zw_bipush (v := (28 : Int32)) hX dX12_goOn_155 (by decide) ?_
    refine zw_iadd hX dX12_goOn_157 ?_
    obtain ⟨S20, g, h⟩ := zb_some h
    refine zw_si hX dX12_goOn_158 g ?_
    refine zw_aload_n hX dX12_goOn_159 rfl ?_
    obtain ⟨b21, g, h⟩ := zb_some h
    refine zw_getr hX zl_X12_31 dX12_goOn_160 g ?_
    refine zw_iload_n hX dX12_goOn_163 rfl ?_
    refine zw_bipush (v := (23 : Int32)) hX dX12_goOn_164 (by decide) ?_
    refine zw_iadd hX dX12_goOn_166 ?_
    obtain ⟨v22, g, h⟩ := zb_some h
    refine zw_xi hX dX12_goOn_167 g ?_
    refine zw_if_ne (tgt := 187) hX dX12_goOn_168 (by decide) (fun c168 => ?_) (fun c168 => ?_)
    · rw [if_neg c168] at h
      refine zw_sub (lv' := [(0, .ref a0), (2, .int i2)]) (List.forall_mem_cons.mpr ⟨rfl, (List.forall_mem_cons.mpr ⟨rfl, zs_nil⟩)⟩) ?_
      exact zt_X12_goOn_J187 hX hr hR hd h
    · rw [if_pos c168] at h
      refine zw_aload_n hX dX12_goOn_171 rfl ?_
      obtain ⟨b26, g, h⟩ := zb_some h
      refine zw_getr hX zl_X12_31 dX12_goOn_172 g ?_
      refine zw_iload_n hX dX12_goOn_175 rfl ?_
      refine zw_dup2 hX dX12_goOn_176 rfl rfl ?_
      obtain ⟨v27, g, h⟩ := zb_some h
      refine zw_xi hX dX12_goOn_177 g ?_
      refine zw_bipush (v := (32 : Int32)) hX dX12_goOn_178 (by decide) ?_
      refine zw_isub hX dX12_goOn_180 ?_
      obtain ⟨S28, g, h⟩ := zb_some h
      refine zw_si hX dX12_goOn_181 g ?_
      refine zw_aload_n hX dX12_goOn_182 rfl ?_
      refine zw_iload_n hX dX12_goOn_183 rfl ?_
      obtain ⟨_, gi, h⟩ := zb_some h
      obtain ⟨r30, g, h⟩ := zb_some h
      refine zc_Vv (as := [.int i2]) hX gi (zt_X12_check (d := d - 1) (by omega) g) zl_X12_68 rfl dX12_goOn_184 ⟨rfl, rfl, Nat.le_of_ble_eq_true rfl⟩ ⟨by omega, by omega⟩ ?_
      refine zw_sub (lv' := [(0, .ref a0), (2, .int i2)]) (List.forall_mem_cons.mpr ⟨rfl, (List.forall_mem_cons.mpr ⟨rfl, zs_nil⟩)⟩) ?_
      exact zt_X12_goOn_J187 hX hr hR hd h
set_option maxHeartbeats 4000000 in
set_option maxRecDepth 100000 in
theorem zt_X12_goOn_J46 {p : Program} {l : Launch} {e : Env} {R : Room} {s : State} {m : MethodId} {args : Array Value} {below : List Frame} {meth : Method} {c : Code} {V : zm_V} {mc ms d rc rs : Nat} (hX : zm_X p R s m args meth c RX12 "goOn" cX12_goOn 3 zk_E V mc ms) (hr : meth.sig.returnType = none) (hR : R.frames = d ∧ R.locals = 64 * d) (hd : 4 ≤ d) {N : Nat} {a0 : Nat} {i1 : Int32} {out : (Unit × zm_S)} {S : zm_S} (h : zf_X12_goOn_J46 N a0 i1 S = some out) : zw p l e R s m args below meth c (vx_MQ below (zm_Qc zk_E V (zo_v out)) (zm_XC zk_E V zo_x) args s mc ms (fun q => V.2.2.2.1 ≤ q)) 3 zk_E V mc ms 46 [(0, .ref a0), (1, .int i1)] [] S rc rs := by
  unfold zf_X12_goOn_J46 at h
  refine zw_aload_n hX dX12_goOn_46 rfl ?_
  obtain ⟨b3, g, h⟩ := zb_some h
  refine zw_getr hX zl_X12_34 dX12_goOn_47 g ?_
  refine zw_iload_n hX dX12_goOn_50 rfl ?_
  obtain ⟨v4, g, h⟩ := zb_some h
  refine zw_xi hX dX12_goOn_51 g ?_
  refine zw_if_ge (tgt := 56) hX dX12_goOn_52 (by decide) (fun c52 => ?_) (fun c52 => ?_)
  · rw [if_pos c52] at h
    refine zw_sipush (v := (144 : Int32)) hX dX12_goOn_56 (by decide) ?_
    refine zw_iload_n hX dX12_goOn_59 rfl ?_
    refine zw_imul hX dX12_goOn_60 ?_
    refine zw_istore_n hX dX12_goOn_61 (by decide) ?_
    refine zw_aload_n hX dX12_goOn_62 rfl ?_
    refine zw_iload_n hX dX12_goOn_63 rfl ?_
    refine zw_aload_n hX dX12_goOn_64 rfl ?_
    obtain ⟨b5, g, h⟩ := zb_some h
    refine zw_getr hX zl_X12_34 dX12_goOn_65 g ?_
    refine zw_iload_n hX dX12_goOn_68 rfl ?_
    obtain ⟨v6, g, h⟩ := zb_some h
    refine zw_xi hX dX12_goOn_69 g ?_
    obtain ⟨_, gi, h⟩ := zb_some h
    obtain ⟨r8, g, h⟩ := zb_some h
    refine zc_Vi (as := [.int i1, .int v6]) hX gi (zt_X12_telegramBit (d := d - 1) (by omega) g) zl_X12_96 rfl dX12_goOn_70 ⟨rfl, rfl, Nat.le_of_ble_eq_true rfl⟩ ⟨by omega, by omega⟩ ?_
    refine zw_if_eq (tgt := 106) hX dX12_goOn_73 (by decide) (fun c73 => ?_) (fun c73 => ?_)
    · rw [if_pos c73] at h
      refine zw_sub (lv' := [(0, .ref a0), (1, .int i1), (2, .int ((144 : Int32) * i1))]) (List.forall_mem_cons.mpr ⟨rfl, (List.forall_mem_cons.mpr ⟨rfl, (List.forall_mem_cons.mpr ⟨rfl, zs_nil⟩)⟩)⟩) ?_
      exact zt_X12_goOn_J106 hX hr hR hd h
    · rw [if_neg c73] at h
      refine zw_aload_n hX dX12_goOn_76 rfl ?_
      obtain ⟨b31, g, h⟩ := zb_some h
      refine zw_getr hX zl_X12_8 dX12_goOn_77 g ?_
      refine zw_aload_n hX dX12_goOn_80 rfl ?_
      obtain ⟨v32, g, h⟩ := zb_some h
      refine zw_geti hX zl_X12_75 dX12_goOn_81 g ?_
      obtain ⟨v33, g, h⟩ := zb_some h
      refine zw_xz hX dX12_goOn_84 g ?_
      refine zw_if_ne (tgt := 106) hX dX12_goOn_85 (by decide) (fun c85 => ?_) (fun c85 => ?_)
      · rw [if_neg c85] at h
        refine zw_sub (lv' := [(0, .ref a0), (1, .int i1), (2, .int ((144 : Int32) * i1))]) (List.forall_mem_cons.mpr ⟨rfl, (List.forall_mem_cons.mpr ⟨rfl, (List.forall_mem_cons.mpr ⟨rfl, zs_nil⟩)⟩)⟩) ?_
        exact zt_X12_goOn_J106 hX hr hR hd h
      · rw [if_pos c85] at h
        refine zw_aload_n hX dX12_goOn_88 rfl ?_
        obtain ⟨b34, g, h⟩ := zb_some h
        refine zw_getr hX zl_X12_34 dX12_goOn_89 g ?_
        refine zw_iload_n hX dX12_goOn_92 rfl ?_
        refine zw_iconst (v := (-1 : Int32)) hX dX12_goOn_93 (by decide) ?_
        obtain ⟨S35, g, h⟩ := zb_some h
        refine zw_si hX dX12_goOn_94 g ?_
        refine zw_aload_n hX dX12_goOn_95 rfl ?_
        obtain ⟨b36, g, h⟩ := zb_some h
        refine zw_getr hX zl_X12_52 dX12_goOn_96 g ?_
        refine zw_iload_n hX dX12_goOn_99 rfl ?_
        refine zw_dup2 hX dX12_goOn_100 rfl rfl ?_
        obtain ⟨v37, g, h⟩ := zb_some h
        refine zw_xi hX dX12_goOn_101 g ?_
        refine zw_iconst (v := (1 : Int32)) hX dX12_goOn_102 (by decide) ?_
        refine zw_iadd hX dX12_goOn_103 ?_
        obtain ⟨S38, g, h⟩ := zb_some h
        refine zw_si hX dX12_goOn_104 g ?_
        obtain rfl := Option.some.inj h
        exact zw_vret hX hr dX12_goOn_105 ⟨rfl, rfl⟩
  · rw [if_neg c52] at h
    obtain rfl := Option.some.inj h
    exact zw_vret hX hr dX12_goOn_55 ⟨rfl, rfl⟩
set_option maxHeartbeats 4000000 in
set_option maxRecDepth 100000 in
theorem zt_X12_goOn_J45 {p : Program} {l : Launch} {e : Env} {R : Room} {s : State} {m : MethodId} {args : Array Value} {below : List Frame} {meth : Method} {c : Code} {V : zm_V} {mc ms d rc rs : Nat} (hX : zm_X p R s m args meth c RX12 "goOn" cX12_goOn 3 zk_E V mc ms) (hr : meth.sig.returnType = none) (hR : R.frames = d ∧ R.locals = 64 * d) (hd : 4 ≤ d) {N : Nat} {a0 : Nat} {i1 : Int32} {t0 : Nat} {t1 : Int32} {t2 : Int32} {out : (Unit × zm_S)} {S : zm_S} (h : zf_X12_goOn_J45 N a0 i1 t0 t1 t2 S = some out) : zw p l e R s m args below meth c (vx_MQ below (zm_Qc zk_E V (zo_v out)) (zm_XC zk_E V zo_x) args s mc ms (fun q => V.2.2.2.1 ≤ q)) 3 zk_E V mc ms 45 [(0, .ref a0), (1, .int i1)] [.int t2, .int t1, .ref t0] S rc rs := by
  unfold zf_X12_goOn_J45 at h
  obtain ⟨S47, g, h⟩ := zb_some h
  refine zw_si hX dX12_goOn_45 g ?_
  refine zw_sub (lv' := [(0, .ref a0), (1, .int i1)]) (List.forall_mem_cons.mpr ⟨rfl, (List.forall_mem_cons.mpr ⟨rfl, zs_nil⟩)⟩) ?_
  exact zt_X12_goOn_J46 hX hr hR hd h
set_option maxHeartbeats 4000000 in
set_option maxRecDepth 100000 in
theorem zt_X12_goOn {l : Launch} {V : zm_V} {N : Nat} {S : zm_S} {out : (Unit × zm_S)} {d : Nat} {a0 : Nat} {i1 : Int32} (hd : 4 ≤ d) (h : zf_X12_goOn N a0 i1 S = some out) : zm_Met l zk_E V yX12_goOn (.code yX12_goOn cX12_goOn 3 none) d [.ref a0, .int i1] S 0 0 (zo_v out) zo_x := by
  refine zm_of (by decide +kernel) (Nat.le_of_ble_eq_true rfl) ?_
  intro p e R s m args below meth c hRR hX hr hxt
  have hR : R.frames = d ∧ R.locals = 64 * d := by rw [hRR]; exact ⟨rfl, rfl⟩
  have hX : zm_X p R s m args meth c RX12 "goOn" cX12_goOn 3 zk_E V 0 0 := hX
  unfold zf_X12_goOn at h
  refine zw_sub (lv' := [(0, .ref a0), (1, .int i1)]) (List.forall_mem_cons.mpr ⟨rfl, (List.forall_mem_cons.mpr ⟨rfl, zs_nil⟩)⟩) ?_
  refine zw_aload_n hX dX12_goOn_0 rfl ?_
  obtain ⟨b1, g, h⟩ := zb_some h
  refine zw_getr hX zl_X12_40 dX12_goOn_1 g ?_
  refine zw_iload_n hX dX12_goOn_4 rfl ?_
  obtain ⟨v2, g, h⟩ := zb_some h
  refine zw_xi hX dX12_goOn_5 g ?_
  refine zw_if_lt (tgt := 46) hX dX12_goOn_6 (by decide) (fun c6 => ?_) (fun c6 => ?_)
  · rw [if_pos c6] at h
    refine zw_sub (lv' := [(0, .ref a0), (1, .int i1)]) (List.forall_mem_cons.mpr ⟨rfl, (List.forall_mem_cons.mpr ⟨rfl, zs_nil⟩)⟩) ?_
    exact zt_X12_goOn_J46 hX hr hR hd h
  · rw [if_neg c6] at h
    refine zw_aload_n hX dX12_goOn_9 rfl ?_
    obtain ⟨b39, g, h⟩ := zb_some h
    refine zw_getr hX zl_X12_43 dX12_goOn_10 g ?_
    refine zw_iload_n hX dX12_goOn_13 rfl ?_
    refine zw_dup2 hX dX12_goOn_14 rfl rfl ?_
    obtain ⟨v40, g, h⟩ := zb_some h
    refine zw_xi hX dX12_goOn_15 g ?_
    refine zw_iconst (v := (1 : Int32)) hX dX12_goOn_16 (by decide) ?_
    refine zw_iadd hX dX12_goOn_17 ?_
    obtain ⟨S41, g, h⟩ := zb_some h
    refine zw_si hX dX12_goOn_18 g ?_
    refine zw_aload_n hX dX12_goOn_19 rfl ?_
    obtain ⟨b42, g, h⟩ := zb_some h
    refine zw_getr hX zl_X12_40 dX12_goOn_20 g ?_
    refine zw_iload_n hX dX12_goOn_23 rfl ?_
    refine zw_aload_n hX dX12_goOn_24 rfl ?_
    obtain ⟨b43, g, h⟩ := zb_some h
    refine zw_getr hX zl_X12_43 dX12_goOn_25 g ?_
    refine zw_iload_n hX dX12_goOn_28 rfl ?_
    obtain ⟨v44, g, h⟩ := zb_some h
    refine zw_xi hX dX12_goOn_29 g ?_
    refine zw_bipush (v := (11 : Int32)) hX dX12_goOn_30 (by decide) ?_
    refine zw_icmp_ne (tgt := 39) hX dX12_goOn_32 (by decide) (fun c32 => ?_) (fun c32 => ?_)
    · rw [if_neg c32] at h
      refine zw_aload_n hX dX12_goOn_39 rfl ?_
      obtain ⟨b45, g, h⟩ := zb_some h
      refine zw_getr hX zl_X12_40 dX12_goOn_40 g ?_
      refine zw_iload_n hX dX12_goOn_43 rfl ?_
      obtain ⟨v46, g, h⟩ := zb_some h
      refine zw_xi hX dX12_goOn_44 g ?_
      refine zw_sub (lv' := [(0, .ref a0), (1, .int i1)]) (List.forall_mem_cons.mpr ⟨rfl, (List.forall_mem_cons.mpr ⟨rfl, zs_nil⟩)⟩) ?_
      exact zt_X12_goOn_J45 hX hr hR hd h
    · rw [if_pos c32] at h
      refine zw_iconst (v := (-1 : Int32)) hX dX12_goOn_35 (by decide) ?_
      refine zw_goto (tgt := 45) hX dX12_goOn_36 (by decide) ?_
      refine zw_sub (lv' := [(0, .ref a0), (1, .int i1)]) (List.forall_mem_cons.mpr ⟨rfl, (List.forall_mem_cons.mpr ⟨rfl, zs_nil⟩)⟩) ?_
      exact zt_X12_goOn_J45 hX hr hR hd h
set_option maxHeartbeats 4000000 in
set_option maxRecDepth 100000 in
theorem zt_X12_reads_J187 {p : Program} {l : Launch} {e : Env} {R : Room} {s : State} {m : MethodId} {args : Array Value} {below : List Frame} {meth : Method} {c : Code} {V : zm_V} {mc ms d rc rs : Nat} (hX : zm_X p R s m args meth c RX12 "reads" cX12_reads 3 zk_E V mc ms) (hr : meth.sig.returnType = (some .boolean)) (hR : R.frames = d ∧ R.locals = 64 * d) (hd : 2 ≤ d) {N : Nat} {a0 : Nat} {out : (Int32 × zm_S)} {S : zm_S} (h : zf_X12_reads_J187 N a0 S = some out) : zw p l e R s m args below meth c (vx_MQ below (zm_Qc zk_E V (zo_i out)) (zm_XC zk_E V zo_x) args s mc ms (fun q => V.2.2.2.1 ≤ q)) 3 zk_E V mc ms 187 [(0, .ref a0)] [] S rc rs := by
  unfold zf_X12_reads_J187 at h
  refine zw_aload_n hX dX12_reads_187 rfl ?_
  obtain ⟨v4, g, h⟩ := zb_some h
  refine zw_geti hX zl_X12_75 dX12_reads_188 g ?_
  refine zw_aload_n hX dX12_reads_191 rfl ?_
  obtain ⟨v5, g, h⟩ := zb_some h
  refine zw_geti hX zl_X12_108 dX12_reads_192 g ?_
  refine zw_iconst (v := (3 : Int32)) hX dX12_reads_195 (by decide) ?_
  refine zw_iadd hX dX12_reads_196 ?_
  refine zw_icmp_eq (tgt := 212) hX dX12_reads_197 (by decide) (fun c197 => ?_) (fun c197 => ?_)
  · rw [if_pos c197] at h
    refine zw_iconst (v := (1 : Int32)) hX dX12_reads_212 (by decide) ?_
    refine zw_goto (tgt := 217) hX dX12_reads_213 (by decide) ?_
    obtain rfl := Option.some.inj h
    exact zw_iret hX hr dX12_reads_217 rfl ⟨rfl, rfl⟩
  · rw [if_neg c197] at h
    refine zw_aload_n hX dX12_reads_200 rfl ?_
    obtain ⟨b6, g, h⟩ := zb_some h
    refine zw_getr hX zl_X12_8 dX12_reads_201 g ?_
    refine zw_aload_n hX dX12_reads_204 rfl ?_
    obtain ⟨v7, g, h⟩ := zb_some h
    refine zw_geti hX zl_X12_75 dX12_reads_205 g ?_
    obtain ⟨v8, g, h⟩ := zb_some h
    refine zw_xz hX dX12_reads_208 g ?_
    refine zw_if_ne (tgt := 216) hX dX12_reads_209 (by decide) (fun c209 => ?_) (fun c209 => ?_)
    · rw [if_neg c209] at h
      refine zw_iconst (v := (0 : Int32)) hX dX12_reads_216 (by decide) ?_
      obtain rfl := Option.some.inj h
      exact zw_iret hX hr dX12_reads_217 rfl ⟨rfl, rfl⟩
    · rw [if_pos c209] at h
      refine zw_iconst (v := (1 : Int32)) hX dX12_reads_212 (by decide) ?_
      refine zw_goto (tgt := 217) hX dX12_reads_213 (by decide) ?_
      obtain rfl := Option.some.inj h
      exact zw_iret hX hr dX12_reads_217 rfl ⟨rfl, rfl⟩
set_option maxHeartbeats 4000000 in
set_option maxRecDepth 100000 in
theorem zt_X12_reads_J52 {p : Program} {l : Launch} {e : Env} {R : Room} {s : State} {m : MethodId} {args : Array Value} {below : List Frame} {meth : Method} {c : Code} {V : zm_V} {mc ms d rc rs : Nat} (hX : zm_X p R s m args meth c RX12 "reads" cX12_reads 3 zk_E V mc ms) (hr : meth.sig.returnType = (some .boolean)) (hR : R.frames = d ∧ R.locals = 64 * d) (hd : 2 ≤ d) {N : Nat} {k : Nat → Int32 → Int32 → zm_S → Option ((Int32 × zm_S) ⊕ ((Int32) × zm_S))} {a0 : Nat} {i2 : Int32} {t0 : Int32} {t1 : Int32} {res : (Int32 × zm_S) ⊕ ((Int32) × zm_S)} {out : (Int32 × zm_S)}   (hf : ∀ o, res = .inl o → o = out) (hk : ∀ (x1 : Int32) (S' : zm_S), res = .inr (x1, S') → zw p l e R s m args below meth c (vx_MQ below (zm_Qc zk_E V (zo_i out)) (zm_XC zk_E V zo_x) args s mc ms (fun q => V.2.2.2.1 ≤ q)) 3 zk_E V mc ms 60 [(0, .ref a0), (1, .int x1)] [] S' rc rs) (hrec : ∀ (i1' : Int32) (i2' : Int32) (S : zm_S), k a0 i1' i2' S = some res → zw p l e R s m args below meth c (vx_MQ below (zm_Qc zk_E V (zo_i out)) (zm_XC zk_E V zo_x) args s mc ms (fun q => V.2.2.2.1 ≤ q)) 3 zk_E V mc ms 26 [(0, .ref a0), (1, .int i1'), (2, .int i2')] [] S rc rs) {S : zm_S} (h : zf_X12_reads_J52 N k a0 i2 t0 t1 S = some res) : zw p l e R s m args below meth c (vx_MQ below (zm_Qc zk_E V (zo_i out)) (zm_XC zk_E V zo_x) args s mc ms (fun q => V.2.2.2.1 ≤ q)) 3 zk_E V mc ms 52 [(0, .ref a0), (2, .int i2)] [.int t1, .int t0] S rc rs := by
  unfold zf_X12_reads_J52 at h
  refine zw_iadd hX dX12_reads_52 ?_
  refine zw_istore_n hX dX12_reads_53 (by decide) ?_
  refine zw_iinc (v := (i2 + (-1 : Int32))) hX dX12_reads_54 rfl rfl (by decide) ?_
  refine zw_goto (tgt := 26) hX dX12_reads_57 (by decide) ?_
  refine zw_sub (lv' := [(0, .ref a0), (1, .int (t0 + t1)), (2, .int (i2 + (-1 : Int32)))]) (List.forall_mem_cons.mpr ⟨rfl, (List.forall_mem_cons.mpr ⟨rfl, (List.forall_mem_cons.mpr ⟨rfl, zs_nil⟩)⟩)⟩) ?_
  exact hrec _ _ _ h
set_option maxHeartbeats 4000000 in
set_option maxRecDepth 100000 in
theorem zt_X12_reads_L26 {p : Program} {l : Launch} {e : Env} {R : Room} {s : State} {m : MethodId} {args : Array Value} {below : List Frame} {meth : Method} {c : Code} {V : zm_V} {mc ms d rc rs : Nat} (hX : zm_X p R s m args meth c RX12 "reads" cX12_reads 3 zk_E V mc ms) (hr : meth.sig.returnType = (some .boolean)) (hR : R.frames = d ∧ R.locals = 64 * d) (hd : 2 ≤ d) {N : Nat} {res : (Int32 × zm_S) ⊕ ((Int32) × zm_S)} {out : (Int32 × zm_S)} (a0 : Nat) (hf : ∀ o, res = .inl o → o = out) (hk : ∀ (x1 : Int32) (S' : zm_S), res = .inr (x1, S') → zw p l e R s m args below meth c (vx_MQ below (zm_Qc zk_E V (zo_i out)) (zm_XC zk_E V zo_x) args s mc ms (fun q => V.2.2.2.1 ≤ q)) 3 zk_E V mc ms 60 [(0, .ref a0), (1, .int x1)] [] S' rc rs) : ∀ (n : Nat) (i1 : Int32) (i2 : Int32) (S : zm_S), zf_X12_reads_L26 N n a0 i1 i2 S = some res → zw p l e R s m args below meth c (vx_MQ below (zm_Qc zk_E V (zo_i out)) (zm_XC zk_E V zo_x) args s mc ms (fun q => V.2.2.2.1 ≤ q)) 3 zk_E V mc ms 26 [(0, .ref a0), (1, .int i1), (2, .int i2)] [] S rc rs := by
  intro n
  induction n with
  | zero => intro i1 i2 S h; cases h
  | succ n ih =>
    intro i1 i2 S h
    rw [zf_X12_reads_L26] at h
    refine zw_iload_n hX dX12_reads_26 rfl ?_
    refine zw_if_le (tgt := 60) hX dX12_reads_27 (by decide) (fun c27 => ?_) (fun c27 => ?_)
    · rw [if_pos c27] at h
      refine zw_sub (lv' := [(0, .ref a0), (1, .int i1)]) (List.forall_mem_cons.mpr ⟨rfl, (List.forall_mem_cons.mpr ⟨rfl, zs_nil⟩)⟩) ?_
      exact hk _ _ (Option.some.inj h).symm
    · rw [if_neg c27] at h
      refine zw_iconst (v := (2 : Int32)) hX dX12_reads_30 (by decide) ?_
      refine zw_iload_n hX dX12_reads_31 rfl ?_
      refine zw_imul hX dX12_reads_32 ?_
      refine zw_aload_n hX dX12_reads_33 rfl ?_
      obtain ⟨b16, g, h⟩ := zb_some h
      refine zw_getr hX zl_X12_8 dX12_reads_34 g ?_
      refine zw_aload_n hX dX12_reads_37 rfl ?_
      obtain ⟨v17, g, h⟩ := zb_some h
      refine zw_geti hX zl_X12_99 dX12_reads_38 g ?_
      refine zw_iload_n hX dX12_reads_41 rfl ?_
      refine zw_iadd hX dX12_reads_42 ?_
      obtain ⟨v18, g, h⟩ := zb_some h
      refine zw_xz hX dX12_reads_43 g ?_
      refine zw_if_eq (tgt := 51) hX dX12_reads_44 (by decide) (fun c44 => ?_) (fun c44 => ?_)
      · rw [if_pos c44] at h
        refine zw_iconst (v := (0 : Int32)) hX dX12_reads_51 (by decide) ?_
        refine zw_sub (lv' := [(0, .ref a0), (2, .int i2)]) (List.forall_mem_cons.mpr ⟨rfl, (List.forall_mem_cons.mpr ⟨rfl, zs_nil⟩)⟩) ?_
        exact zt_X12_reads_J52 hX hr hR hd hf hk ih h
      · rw [if_neg c44] at h
        refine zw_iconst (v := (1 : Int32)) hX dX12_reads_47 (by decide) ?_
        refine zw_goto (tgt := 52) hX dX12_reads_48 (by decide) ?_
        refine zw_sub (lv' := [(0, .ref a0), (2, .int i2)]) (List.forall_mem_cons.mpr ⟨rfl, (List.forall_mem_cons.mpr ⟨rfl, zs_nil⟩)⟩) ?_
        exact zt_X12_reads_J52 hX hr hR hd hf hk ih h
set_option maxHeartbeats 4000000 in
set_option maxRecDepth 100000 in
theorem zt_X12_reads_J114 {p : Program} {l : Launch} {e : Env} {R : Room} {s : State} {m : MethodId} {args : Array Value} {below : List Frame} {meth : Method} {c : Code} {V : zm_V} {mc ms d rc rs : Nat} (hX : zm_X p R s m args meth c RX12 "reads" cX12_reads 3 zk_E V mc ms) (hr : meth.sig.returnType = (some .boolean)) (hR : R.frames = d ∧ R.locals = 64 * d) (hd : 2 ≤ d) {N : Nat} {a0 : Nat} {i1 : Int32} {t0 : Nat} {t1 : Int32} {out : (Int32 × zm_S)} {S : zm_S} (h : zf_X12_reads_J114 N a0 i1 t0 t1 S = some out) : zw p l e R s m args below meth c (vx_MQ below (zm_Qc zk_E V (zo_i out)) (zm_XC zk_E V zo_x) args s mc ms (fun q => V.2.2.2.1 ≤ q)) 3 zk_E V mc ms 114 [(0, .ref a0), (1, .int i1)] [.int t1, .ref t0] S rc rs := by
  unfold zf_X12_reads_J114 at h
  obtain ⟨S22, g, h⟩ := zb_some h
  obtain ⟨gz, g⟩ := zp_z_spec g
  refine zw_putv hX zl_X12_102 zt_12_19 dX12_reads_114 (zn_z gz) (zf_z gz) g ?_
  refine zw_aload_n hX dX12_reads_117 rfl ?_
  obtain ⟨b23, g, h⟩ := zb_some h
  refine zw_getr hX zl_X12_55 dX12_reads_118 g ?_
  refine zw_aload_n hX dX12_reads_121 rfl ?_
  obtain ⟨v24, g, h⟩ := zb_some h
  refine zw_geti hX zl_X12_105 dX12_reads_122 g ?_
  refine zw_iload_n hX dX12_reads_125 rfl ?_
  obtain ⟨S25, g, h⟩ := zb_some h
  refine zw_si hX dX12_reads_126 g ?_
  refine zw_aload_n hX dX12_reads_127 rfl ?_
  refine zw_dup hX dX12_reads_128 rfl ?_
  obtain ⟨v26, g, h⟩ := zb_some h
  refine zw_geti hX zl_X12_105 dX12_reads_129 g ?_
  refine zw_iconst (v := (1 : Int32)) hX dX12_reads_132 (by decide) ?_
  refine zw_iadd hX dX12_reads_133 ?_
  obtain ⟨S27, g, h⟩ := zb_some h
  refine zw_putv hX zl_X12_105 zt_12_17 dX12_reads_134 rfl rfl g ?_
  refine zw_aload_n hX dX12_reads_137 rfl ?_
  refine zw_aload_n hX dX12_reads_138 rfl ?_
  obtain ⟨v28, g, h⟩ := zb_some h
  refine zw_geti hX zl_X12_75 dX12_reads_139 g ?_
  obtain ⟨S29, g, h⟩ := zb_some h
  refine zw_putv hX zl_X12_108 zt_12_20 dX12_reads_142 rfl rfl g ?_
  refine zw_aload_n hX dX12_reads_145 rfl ?_
  refine zw_iconst (v := (0 : Int32)) hX dX12_reads_146 (by decide) ?_
  obtain ⟨S30, g, h⟩ := zb_some h
  refine zw_putv hX zl_X12_99 zt_12_28 dX12_reads_147 rfl rfl g ?_
  refine zw_iconst (v := (0 : Int32)) hX dX12_reads_150 (by decide) ?_
  obtain rfl := Option.some.inj h
  exact zw_iret hX hr dX12_reads_151 rfl ⟨rfl, rfl⟩
set_option maxHeartbeats 4000000 in
set_option maxRecDepth 100000 in
theorem zt_X12_reads_J109 {p : Program} {l : Launch} {e : Env} {R : Room} {s : State} {m : MethodId} {args : Array Value} {below : List Frame} {meth : Method} {c : Code} {V : zm_V} {mc ms d rc rs : Nat} (hX : zm_X p R s m args meth c RX12 "reads" cX12_reads 3 zk_E V mc ms) (hr : meth.sig.returnType = (some .boolean)) (hR : R.frames = d ∧ R.locals = 64 * d) (hd : 2 ≤ d) {N : Nat} {a0 : Nat} {i1 : Int32} {t0 : Nat} {out : (Int32 × zm_S)} {S : zm_S} (h : zf_X12_reads_J109 N a0 i1 t0 S = some out) : zw p l e R s m args below meth c (vx_MQ below (zm_Qc zk_E V (zo_i out)) (zm_XC zk_E V zo_x) args s mc ms (fun q => V.2.2.2.1 ≤ q)) 3 zk_E V mc ms 109 [(0, .ref a0), (1, .int i1)] [.ref t0] S rc rs := by
  unfold zf_X12_reads_J109 at h
  refine zw_iconst (v := (1 : Int32)) hX dX12_reads_109 (by decide) ?_
  refine zw_goto (tgt := 114) hX dX12_reads_110 (by decide) ?_
  refine zw_sub (lv' := [(0, .ref a0), (1, .int i1)]) (List.forall_mem_cons.mpr ⟨rfl, (List.forall_mem_cons.mpr ⟨rfl, zs_nil⟩)⟩) ?_
  exact zt_X12_reads_J114 hX hr hR hd h
set_option maxHeartbeats 4000000 in
set_option maxRecDepth 100000 in
theorem zt_X12_reads_J94 {p : Program} {l : Launch} {e : Env} {R : Room} {s : State} {m : MethodId} {args : Array Value} {below : List Frame} {meth : Method} {c : Code} {V : zm_V} {mc ms d rc rs : Nat} (hX : zm_X p R s m args meth c RX12 "reads" cX12_reads 3 zk_E V mc ms) (hr : meth.sig.returnType = (some .boolean)) (hR : R.frames = d ∧ R.locals = 64 * d) (hd : 2 ≤ d) {N : Nat} {a0 : Nat} {i1 : Int32} {t0 : Nat} {t1 : Int32} {t2 : Int32} {out : (Int32 × zm_S)} {S : zm_S} (h : zf_X12_reads_J94 N a0 i1 t0 t1 t2 S = some out) : zw p l e R s m args below meth c (vx_MQ below (zm_Qc zk_E V (zo_i out)) (zm_XC zk_E V zo_x) args s mc ms (fun q => V.2.2.2.1 ≤ q)) 3 zk_E V mc ms 94 [(0, .ref a0), (1, .int i1)] [.int t2, .int t1, .ref t0] S rc rs := by
  unfold zf_X12_reads_J94 at h
  refine zw_icmp_ne (tgt := 109) hX dX12_reads_94 (by decide) (fun c94 => ?_) (fun c94 => ?_)
  · rw [if_neg c94] at h
    refine zw_sub (lv' := [(0, .ref a0), (1, .int i1)]) (List.forall_mem_cons.mpr ⟨rfl, (List.forall_mem_cons.mpr ⟨rfl, zs_nil⟩)⟩) ?_
    exact zt_X12_reads_J109 hX hr hR hd h
  · rw [if_pos c94] at h
    refine zw_aload_n hX dX12_reads_97 rfl ?_
    obtain ⟨b36, g, h⟩ := zb_some h
    refine zw_getr hX zl_X12_8 dX12_reads_98 g ?_
    refine zw_aload_n hX dX12_reads_101 rfl ?_
    obtain ⟨v37, g, h⟩ := zb_some h
    refine zw_geti hX zl_X12_75 dX12_reads_102 g ?_
    obtain ⟨v38, g, h⟩ := zb_some h
    refine zw_xz hX dX12_reads_105 g ?_
    refine zw_if_ne (tgt := 113) hX dX12_reads_106 (by decide) (fun c106 => ?_) (fun c106 => ?_)
    · rw [if_neg c106] at h
      refine zw_iconst (v := (0 : Int32)) hX dX12_reads_113 (by decide) ?_
      refine zw_sub (lv' := [(0, .ref a0), (1, .int i1)]) (List.forall_mem_cons.mpr ⟨rfl, (List.forall_mem_cons.mpr ⟨rfl, zs_nil⟩)⟩) ?_
      exact zt_X12_reads_J114 hX hr hR hd h
    · rw [if_pos c106] at h
      refine zw_sub (lv' := [(0, .ref a0), (1, .int i1)]) (List.forall_mem_cons.mpr ⟨rfl, (List.forall_mem_cons.mpr ⟨rfl, zs_nil⟩)⟩) ?_
      exact zt_X12_reads_J109 hX hr hR hd h
set_option maxHeartbeats 4000000 in
set_option maxRecDepth 100000 in
theorem zt_X12_reads {l : Launch} {V : zm_V} {N : Nat} {S : zm_S} {out : (Int32 × zm_S)} {d : Nat} {a0 : Nat} (hd : 2 ≤ d) (h : zf_X12_reads N a0 S = some out) : zm_Met l zk_E V yX12_reads (.code yX12_reads cX12_reads 3 (some .boolean)) d [.ref a0] S 0 0 (zo_i out) zo_x := by
  refine zm_of (by decide +kernel) (Nat.le_of_ble_eq_true rfl) ?_
  intro p e R s m args below meth c hRR hX hr hxt
  have hR : R.frames = d ∧ R.locals = 64 * d := by rw [hRR]; exact ⟨rfl, rfl⟩
  have hX : zm_X p R s m args meth c RX12 "reads" cX12_reads 3 zk_E V 0 0 := hX
  unfold zf_X12_reads at h
  refine zw_sub (lv' := [(0, .ref a0)]) (List.forall_mem_cons.mpr ⟨rfl, zs_nil⟩) ?_
  refine zw_aload_n hX dX12_reads_0 rfl ?_
  obtain ⟨v1, g, h⟩ := zb_some h
  refine zw_geti hX zl_X12_99 dX12_reads_1 g ?_
  refine zw_if_le (tgt := 152) hX dX12_reads_4 (by decide) (fun c4 => ?_) (fun c4 => ?_)
  · rw [if_pos c4] at h
    refine zw_aload_n hX dX12_reads_152 rfl ?_
    obtain ⟨v2, g, h⟩ := zb_some h
    refine zw_geti hX zl_X12_75 dX12_reads_153 g ?_
    refine zw_aload_n hX dX12_reads_156 rfl ?_
    obtain ⟨v3, g, h⟩ := zb_some h
    refine zw_geti hX zl_X12_108 dX12_reads_157 g ?_
    refine zw_iconst (v := (3 : Int32)) hX dX12_reads_160 (by decide) ?_
    refine zw_iadd hX dX12_reads_161 ?_
    refine zw_icmp_ne (tgt := 187) hX dX12_reads_162 (by decide) (fun c162 => ?_) (fun c162 => ?_)
    · rw [if_neg c162] at h
      refine zw_sub (lv' := [(0, .ref a0)]) (List.forall_mem_cons.mpr ⟨rfl, zs_nil⟩) ?_
      exact zt_X12_reads_J187 hX hr hR hd h
    · rw [if_pos c162] at h
      refine zw_aload_n hX dX12_reads_165 rfl ?_
      obtain ⟨b9, g, h⟩ := zb_some h
      refine zw_getr hX zl_X12_8 dX12_reads_166 g ?_
      refine zw_aload_n hX dX12_reads_169 rfl ?_
      obtain ⟨v10, g, h⟩ := zb_some h
      refine zw_geti hX zl_X12_75 dX12_reads_170 g ?_
      obtain ⟨v11, g, h⟩ := zb_some h
      refine zw_xz hX dX12_reads_173 g ?_
      refine zw_if_ne (tgt := 187) hX dX12_reads_174 (by decide) (fun c174 => ?_) (fun c174 => ?_)
      · rw [if_neg c174] at h
        refine zw_sub (lv' := [(0, .ref a0)]) (List.forall_mem_cons.mpr ⟨rfl, zs_nil⟩) ?_
        exact zt_X12_reads_J187 hX hr hR hd h
      · rw [if_pos c174] at h
        refine zw_aload_n hX dX12_reads_177 rfl ?_
        refine zw_aload_n hX dX12_reads_178 rfl ?_
        obtain ⟨v12, g, h⟩ := zb_some h
        refine zw_geti hX zl_X12_75 dX12_reads_179 g ?_
        obtain ⟨S13, g, h⟩ := zb_some h
        refine zw_putv hX zl_X12_99 zt_12_28 dX12_reads_182 rfl rfl g ?_
        refine zw_iconst (v := (0 : Int32)) hX dX12_reads_185 (by decide) ?_
        obtain rfl := Option.some.inj h
        exact zw_iret hX hr dX12_reads_186 rfl ⟨rfl, rfl⟩
  · rw [if_neg c4] at h
    refine zw_aload_n hX dX12_reads_7 rfl ?_
    obtain ⟨v14, g, h⟩ := zb_some h
    refine zw_geti hX zl_X12_75 dX12_reads_8 g ?_
    refine zw_aload_n hX dX12_reads_11 rfl ?_
    obtain ⟨v15, g, h⟩ := zb_some h
    refine zw_geti hX zl_X12_99 dX12_reads_12 g ?_
    refine zw_bipush (v := (10 : Int32)) hX dX12_reads_15 (by decide) ?_
    refine zw_iadd hX dX12_reads_17 ?_
    refine zw_icmp_ne (tgt := 150) hX dX12_reads_18 (by decide) (fun c18 => ?_) (fun c18 => ?_)
    · rw [if_neg c18] at h
      refine zw_iconst (v := (0 : Int32)) hX dX12_reads_150 (by decide) ?_
      obtain rfl := Option.some.inj h
      exact zw_iret hX hr dX12_reads_151 rfl ⟨rfl, rfl⟩
    · rw [if_pos c18] at h
      refine zw_iconst (v := (0 : Int32)) hX dX12_reads_21 (by decide) ?_
      refine zw_istore_n hX dX12_reads_22 (by decide) ?_
      refine zw_bipush (v := (8 : Int32)) hX dX12_reads_23 (by decide) ?_
      refine zw_istore_n hX dX12_reads_25 (by decide) ?_
      obtain ⟨r, g, h⟩ := zb_some h
      refine zw_sub (lv' := [(0, .ref a0), (1, .int (0 : Int32)), (2, .int (8 : Int32))]) (List.forall_mem_cons.mpr ⟨rfl, (List.forall_mem_cons.mpr ⟨rfl, (List.forall_mem_cons.mpr ⟨rfl, zs_nil⟩)⟩)⟩) ?_
      refine zt_X12_reads_L26 hX hr hR hd (res := r) (out := out) a0 ?_ ?_ N _ _ _ g
      · intro o ho
        subst ho
        exact Option.some.inj h
      · intro v20 S19 hx
        subst hx
        try dsimp only at h
        refine zw_aload_n hX dX12_reads_60 rfl ?_
        refine zw_aload_n hX dX12_reads_61 rfl ?_
        obtain ⟨v21, g, h⟩ := zb_some h
        refine zw_geti hX zl_X12_102 dX12_reads_62 g ?_
        refine zw_if_ne (tgt := 109) hX dX12_reads_65 (by decide) (fun c65 => ?_) (fun c65 => ?_)
        · rw [if_neg c65] at h
          refine zw_sub (lv' := [(0, .ref a0), (1, .int v20)]) (List.forall_mem_cons.mpr ⟨rfl, (List.forall_mem_cons.mpr ⟨rfl, zs_nil⟩)⟩) ?_
          exact zt_X12_reads_J109 hX hr hR hd h
        · rw [if_pos c65] at h
          refine zw_aload_n hX dX12_reads_68 rfl ?_
          obtain ⟨b31, g, h⟩ := zb_some h
          refine zw_getr hX zl_X12_8 dX12_reads_69 g ?_
          refine zw_aload_n hX dX12_reads_72 rfl ?_
          obtain ⟨v32, g, h⟩ := zb_some h
          refine zw_geti hX zl_X12_75 dX12_reads_73 g ?_
          refine zw_iconst (v := (1 : Int32)) hX dX12_reads_76 (by decide) ?_
          refine zw_isub hX dX12_reads_77 ?_
          obtain ⟨v33, g, h⟩ := zb_some h
          refine zw_xz hX dX12_reads_78 g ?_
          refine zw_iload_n hX dX12_reads_79 rfl ?_
          obtain ⟨r35, g, h⟩ := zb_some h
          refine zc_Si (as := [.int v20]) hX (zt_X12_ones (d := d - 1) (by omega) g) zl_X12_78 dX12_reads_80 ⟨rfl, rfl, Nat.le_of_ble_eq_true rfl⟩ ⟨by omega, by omega⟩ ?_
          refine zw_iconst (v := (2 : Int32)) hX dX12_reads_83 (by decide) ?_
          refine zw_irem hX dX12_reads_84 (by decide) ?_
          refine zw_iconst (v := (1 : Int32)) hX dX12_reads_85 (by decide) ?_
          refine zw_icmp_ne (tgt := 93) hX dX12_reads_86 (by decide) (fun c86 => ?_) (fun c86 => ?_)
          · rw [if_neg c86] at h
            refine zw_iconst (v := (0 : Int32)) hX dX12_reads_93 (by decide) ?_
            refine zw_sub (lv' := [(0, .ref a0), (1, .int v20)]) (List.forall_mem_cons.mpr ⟨rfl, (List.forall_mem_cons.mpr ⟨rfl, zs_nil⟩)⟩) ?_
            exact zt_X12_reads_J94 hX hr hR hd h
          · rw [if_pos c86] at h
            refine zw_iconst (v := (1 : Int32)) hX dX12_reads_89 (by decide) ?_
            refine zw_goto (tgt := 94) hX dX12_reads_90 (by decide) ?_
            refine zw_sub (lv' := [(0, .ref a0), (1, .int v20)]) (List.forall_mem_cons.mpr ⟨rfl, (List.forall_mem_cons.mpr ⟨rfl, zs_nil⟩)⟩) ?_
            exact zt_X12_reads_J94 hX hr hR hd h
set_option maxHeartbeats 4000000 in
set_option maxRecDepth 100000 in
theorem zt_X12_starts_J21 {p : Program} {l : Launch} {e : Env} {R : Room} {s : State} {m : MethodId} {args : Array Value} {below : List Frame} {meth : Method} {c : Code} {V : zm_V} {mc ms d rc rs : Nat} (hX : zm_X p R s m args meth c RX12 "starts" cX12_starts 1 zk_E V mc ms) (hr : meth.sig.returnType = none) (hR : R.frames = d ∧ R.locals = 64 * d) (hd : 1 ≤ d) {N : Nat} {a0 : Nat} {t0 : Nat} {t1 : Int32} {out : (Unit × zm_S)} {S : zm_S} (h : zf_X12_starts_J21 N a0 t0 t1 S = some out) : zw p l e R s m args below meth c (vx_MQ below (zm_Qc zk_E V (zo_v out)) (zm_XC zk_E V zo_x) args s mc ms (fun q => V.2.2.2.1 ≤ q)) 1 zk_E V mc ms 21 [(0, .ref a0)] [.int t1, .ref t0] S rc rs := by
  unfold zf_X12_starts_J21 at h
  obtain ⟨S5, g, h⟩ := zb_some h
  refine zw_putv hX zl_X12_111 zt_12_16 dX12_starts_21 rfl rfl g ?_
  refine zw_aload_n hX dX12_starts_24 rfl ?_
  refine zw_aload_n hX dX12_starts_25 rfl ?_
  obtain ⟨v6, g, h⟩ := zb_some h
  refine zw_geti hX zl_X12_111 dX12_starts_26 g ?_
  obtain ⟨S7, g, h⟩ := zb_some h
  refine zw_putv hX zl_X12_99 zt_12_28 dX12_starts_29 rfl rfl g ?_
  refine zw_aload_n hX dX12_starts_32 rfl ?_
  refine zw_iconst (v := (0 : Int32)) hX dX12_starts_33 (by decide) ?_
  obtain ⟨S8, g, h⟩ := zb_some h
  refine zw_putv hX zl_X12_105 zt_12_17 dX12_starts_34 rfl rfl g ?_
  refine zw_aload_n hX dX12_starts_37 rfl ?_
  refine zw_iconst (v := (0 : Int32)) hX dX12_starts_38 (by decide) ?_
  obtain ⟨S9, g, h⟩ := zb_some h
  refine zw_putv hX zl_X12_102 zt_12_19 dX12_starts_39 rfl (by decide) g ?_
  obtain rfl := Option.some.inj h
  exact zw_vret hX hr dX12_starts_42 ⟨rfl, rfl⟩
set_option maxHeartbeats 4000000 in
set_option maxRecDepth 100000 in
theorem zt_X12_starts {l : Launch} {V : zm_V} {N : Nat} {S : zm_S} {out : (Unit × zm_S)} {d : Nat} {a0 : Nat} (hd : 1 ≤ d) (h : zf_X12_starts N a0 S = some out) : zm_Met l zk_E V yX12_starts (.code yX12_starts cX12_starts 1 none) d [.ref a0] S 0 0 (zo_v out) zo_x := by
  refine zm_of (by decide +kernel) (Nat.le_of_ble_eq_true rfl) ?_
  intro p e R s m args below meth c hRR hX hr hxt
  have hR : R.frames = d ∧ R.locals = 64 * d := by rw [hRR]; exact ⟨rfl, rfl⟩
  have hX : zm_X p R s m args meth c RX12 "starts" cX12_starts 1 zk_E V 0 0 := hX
  unfold zf_X12_starts at h
  refine zw_sub (lv' := [(0, .ref a0)]) (List.forall_mem_cons.mpr ⟨rfl, zs_nil⟩) ?_
  refine zw_aload_n hX dX12_starts_0 rfl ?_
  refine zw_aload_n hX dX12_starts_1 rfl ?_
  obtain ⟨b1, g, h⟩ := zb_some h
  refine zw_getr hX zl_X12_8 dX12_starts_2 g ?_
  refine zw_aload_n hX dX12_starts_5 rfl ?_
  obtain ⟨v2, g, h⟩ := zb_some h
  refine zw_geti hX zl_X12_75 dX12_starts_6 g ?_
  obtain ⟨v3, g, h⟩ := zb_some h
  refine zw_xz hX dX12_starts_9 g ?_
  refine zw_if_eq (tgt := 17) hX dX12_starts_10 (by decide) (fun c10 => ?_) (fun c10 => ?_)
  · rw [if_pos c10] at h
    refine zw_aload_n hX dX12_starts_17 rfl ?_
    obtain ⟨v4, g, h⟩ := zb_some h
    refine zw_geti hX zl_X12_75 dX12_starts_18 g ?_
    refine zw_sub (lv' := [(0, .ref a0)]) (List.forall_mem_cons.mpr ⟨rfl, zs_nil⟩) ?_
    exact zt_X12_starts_J21 hX hr hR hd h
  · rw [if_neg c10] at h
    refine zw_iconst (v := (0 : Int32)) hX dX12_starts_13 (by decide) ?_
    refine zw_goto (tgt := 21) hX dX12_starts_14 (by decide) ?_
    refine zw_sub (lv' := [(0, .ref a0)]) (List.forall_mem_cons.mpr ⟨rfl, zs_nil⟩) ?_
    exact zt_X12_starts_J21 hX hr hR hd h
set_option maxHeartbeats 4000000 in
set_option maxRecDepth 100000 in
theorem zt_X12_hear_J265 {p : Program} {l : Launch} {e : Env} {R : Room} {s : State} {m : MethodId} {args : Array Value} {below : List Frame} {meth : Method} {c : Code} {V : zm_V} {mc ms d rc rs : Nat} (hX : zm_X p R s m args meth c RX12 "hear" cX12_hear 3 zk_E V mc ms) (hr : meth.sig.returnType = none) (hR : R.frames = d ∧ R.locals = 64 * d) (hd : 3 ≤ d) {N : Nat} {a0 : Nat} {t0 : Nat} {t1 : Int32} {out : (Unit × zm_S)} {S : zm_S} (h : zf_X12_hear_J265 N a0 t0 t1 S = some out) : zw p l e R s m args below meth c (vx_MQ below (zm_Qc zk_E V (zo_v out)) (zm_XC zk_E V zo_x) args s mc ms (fun q => V.2.2.2.1 ≤ q)) 3 zk_E V mc ms 265 [(0, .ref a0)] [.int t1, .ref t0] S rc rs := by
  unfold zf_X12_hear_J265 at h
  refine zw_dup2 hX dX12_hear_265 rfl rfl ?_
  obtain ⟨v11, g, h⟩ := zb_some h
  refine zw_xi hX dX12_hear_266 g ?_
  refine zw_iconst (v := (1 : Int32)) hX dX12_hear_267 (by decide) ?_
  refine zw_iadd hX dX12_hear_268 ?_
  obtain ⟨S12, g, h⟩ := zb_some h
  refine zw_si hX dX12_hear_269 g ?_
  refine zw_aload_n hX dX12_hear_270 rfl ?_
  obtain ⟨_, gi, h⟩ := zb_some h
  obtain ⟨r14, g, h⟩ := zb_some h
  refine zc_Vv (as := []) hX gi (zt_X12_starts (d := d - 1) (by omega) g) zl_X12_114 rfl dX12_hear_271 ⟨rfl, rfl, Nat.le_of_ble_eq_true rfl⟩ ⟨by omega, by omega⟩ ?_
  obtain rfl := Option.some.inj h
  exact zw_vret hX hr dX12_hear_274 ⟨rfl, rfl⟩
set_option maxHeartbeats 4000000 in
set_option maxRecDepth 100000 in
theorem zt_X12_hear_J235 {p : Program} {l : Launch} {e : Env} {R : Room} {s : State} {m : MethodId} {args : Array Value} {below : List Frame} {meth : Method} {c : Code} {V : zm_V} {mc ms d rc rs : Nat} (hX : zm_X p R s m args meth c RX12 "hear" cX12_hear 3 zk_E V mc ms) (hr : meth.sig.returnType = none) (hR : R.frames = d ∧ R.locals = 64 * d) (hd : 3 ≤ d) {N : Nat} {a0 : Nat} {i1 : Int32} {t0 : Nat} {t1 : Int32} {out : (Unit × zm_S)} {S : zm_S} (h : zf_X12_hear_J235 N a0 i1 t0 t1 S = some out) : zw p l e R s m args below meth c (vx_MQ below (zm_Qc zk_E V (zo_v out)) (zm_XC zk_E V zo_x) args s mc ms (fun q => V.2.2.2.1 ≤ q)) 3 zk_E V mc ms 235 [(0, .ref a0), (1, .int i1)] [.int t1, .ref t0] S rc rs := by
  unfold zf_X12_hear_J235 at h
  obtain ⟨S8, g, h⟩ := zb_some h
  refine zw_putv hX zl_X12_61 zt_12_26 dX12_hear_235 rfl rfl g ?_
  refine zw_aload_n hX dX12_hear_238 rfl ?_
  obtain ⟨b9, g, h⟩ := zb_some h
  refine zw_getr hX zl_X12_65 dX12_hear_239 g ?_
  refine zw_iload_n hX dX12_hear_242 rfl ?_
  refine zw_if_ne (tgt := 250) hX dX12_hear_243 (by decide) (fun c243 => ?_) (fun c243 => ?_)
  · rw [if_neg c243] at h
    refine zw_aload_n hX dX12_hear_250 rfl ?_
    obtain ⟨v10, g, h⟩ := zb_some h
    refine zw_geti hX zl_X12_61 dX12_hear_251 g ?_
    refine zw_sipush (v := (204 : Int32)) hX dX12_hear_254 (by decide) ?_
    refine zw_icmp_ne (tgt := 264) hX dX12_hear_257 (by decide) (fun c257 => ?_) (fun c257 => ?_)
    · rw [if_neg c257] at h
      refine zw_iconst (v := (4 : Int32)) hX dX12_hear_264 (by decide) ?_
      refine zw_sub (lv' := [(0, .ref a0)]) (List.forall_mem_cons.mpr ⟨rfl, zs_nil⟩) ?_
      exact zt_X12_hear_J265 hX hr hR hd h
    · rw [if_pos c257] at h
      refine zw_iconst (v := (3 : Int32)) hX dX12_hear_260 (by decide) ?_
      refine zw_goto (tgt := 265) hX dX12_hear_261 (by decide) ?_
      refine zw_sub (lv' := [(0, .ref a0)]) (List.forall_mem_cons.mpr ⟨rfl, zs_nil⟩) ?_
      exact zt_X12_hear_J265 hX hr hR hd h
  · rw [if_pos c243] at h
    refine zw_iconst (v := (2 : Int32)) hX dX12_hear_246 (by decide) ?_
    refine zw_goto (tgt := 265) hX dX12_hear_247 (by decide) ?_
    refine zw_sub (lv' := [(0, .ref a0)]) (List.forall_mem_cons.mpr ⟨rfl, zs_nil⟩) ?_
    exact zt_X12_hear_J265 hX hr hR hd h
set_option maxHeartbeats 4000000 in
set_option maxRecDepth 100000 in
theorem zt_X12_hear_J216 {p : Program} {l : Launch} {e : Env} {R : Room} {s : State} {m : MethodId} {args : Array Value} {below : List Frame} {meth : Method} {c : Code} {V : zm_V} {mc ms d rc rs : Nat} (hX : zm_X p R s m args meth c RX12 "hear" cX12_hear 3 zk_E V mc ms) (hr : meth.sig.returnType = none) (hR : R.frames = d ∧ R.locals = 64 * d) (hd : 3 ≤ d) {N : Nat} {a0 : Nat} {t0 : Int32} {out : (Unit × zm_S)} {S : zm_S} (h : zf_X12_hear_J216 N a0 t0 S = some out) : zw p l e R s m args below meth c (vx_MQ below (zm_Qc zk_E V (zo_v out)) (zm_XC zk_E V zo_x) args s mc ms (fun q => V.2.2.2.1 ≤ q)) 3 zk_E V mc ms 216 [(0, .ref a0)] [.int t0] S rc rs := by
  unfold zf_X12_hear_J216 at h
  refine zw_istore_n hX dX12_hear_216 (by decide) ?_
  refine zw_aload_n hX dX12_hear_217 rfl ?_
  refine zw_iload_n hX dX12_hear_218 rfl ?_
  refine zw_if_eq (tgt := 231) hX dX12_hear_219 (by decide) (fun c219 => ?_) (fun c219 => ?_)
  · rw [if_pos c219] at h
    refine zw_aload_n hX dX12_hear_231 rfl ?_
    obtain ⟨v7, g, h⟩ := zb_some h
    refine zw_geti hX zl_X12_61 dX12_hear_232 g ?_
    refine zw_sub (lv' := [(0, .ref a0), (1, .int t0)]) (List.forall_mem_cons.mpr ⟨rfl, (List.forall_mem_cons.mpr ⟨rfl, zs_nil⟩)⟩) ?_
    exact zt_X12_hear_J235 hX hr hR hd h
  · rw [if_neg c219] at h
    refine zw_aload_n hX dX12_hear_222 rfl ?_
    obtain ⟨b15, g, h⟩ := zb_some h
    refine zw_getr hX zl_X12_55 dX12_hear_223 g ?_
    refine zw_iconst (v := (0 : Int32)) hX dX12_hear_226 (by decide) ?_
    obtain ⟨v16, g, h⟩ := zb_some h
    refine zw_xi hX dX12_hear_227 g ?_
    refine zw_goto (tgt := 235) hX dX12_hear_228 (by decide) ?_
    refine zw_sub (lv' := [(0, .ref a0), (1, .int t0)]) (List.forall_mem_cons.mpr ⟨rfl, (List.forall_mem_cons.mpr ⟨rfl, zs_nil⟩)⟩) ?_
    exact zt_X12_hear_J235 hX hr hR hd h
set_option maxHeartbeats 4000000 in
set_option maxRecDepth 100000 in
theorem zt_X12_hear_J215 {p : Program} {l : Launch} {e : Env} {R : Room} {s : State} {m : MethodId} {args : Array Value} {below : List Frame} {meth : Method} {c : Code} {V : zm_V} {mc ms d rc rs : Nat} (hX : zm_X p R s m args meth c RX12 "hear" cX12_hear 3 zk_E V mc ms) (hr : meth.sig.returnType = none) (hR : R.frames = d ∧ R.locals = 64 * d) (hd : 3 ≤ d) {N : Nat} {a0 : Nat} {out : (Unit × zm_S)} {S : zm_S} (h : zf_X12_hear_J215 N a0 S = some out) : zw p l e R s m args below meth c (vx_MQ below (zm_Qc zk_E V (zo_v out)) (zm_XC zk_E V zo_x) args s mc ms (fun q => V.2.2.2.1 ≤ q)) 3 zk_E V mc ms 215 [(0, .ref a0)] [] S rc rs := by
  unfold zf_X12_hear_J215 at h
  refine zw_iconst (v := (0 : Int32)) hX dX12_hear_215 (by decide) ?_
  refine zw_sub (lv' := [(0, .ref a0)]) (List.forall_mem_cons.mpr ⟨rfl, zs_nil⟩) ?_
  exact zt_X12_hear_J216 hX hr hR hd h
set_option maxHeartbeats 4000000 in
set_option maxRecDepth 100000 in
theorem zt_X12_hear_J170 {p : Program} {l : Launch} {e : Env} {R : Room} {s : State} {m : MethodId} {args : Array Value} {below : List Frame} {meth : Method} {c : Code} {V : zm_V} {mc ms d rc rs : Nat} (hX : zm_X p R s m args meth c RX12 "hear" cX12_hear 3 zk_E V mc ms) (hr : meth.sig.returnType = none) (hR : R.frames = d ∧ R.locals = 64 * d) (hd : 3 ≤ d) {N : Nat} {a0 : Nat} {out : (Unit × zm_S)} {S : zm_S} (h : zf_X12_hear_J170 N a0 S = some out) : zw p l e R s m args below meth c (vx_MQ below (zm_Qc zk_E V (zo_v out)) (zm_XC zk_E V zo_x) args s mc ms (fun q => V.2.2.2.1 ≤ q)) 3 zk_E V mc ms 170 [(0, .ref a0)] [] S rc rs := by
  unfold zf_X12_hear_J170 at h
  refine zw_aload_n hX dX12_hear_170 rfl ?_
  refine zw_iconst (v := (1 : Int32)) hX dX12_hear_171 (by decide) ?_
  obtain ⟨S5, g, h⟩ := zb_some h
  refine zw_putv hX zl_X12_89 zt_12_25 dX12_hear_172 rfl (by decide) g ?_
  refine zw_aload_n hX dX12_hear_175 rfl ?_
  obtain ⟨v6, g, h⟩ := zb_some h
  refine zw_geti hX zl_X12_86 dX12_hear_176 g ?_
  refine zw_if_le (tgt := 215) hX dX12_hear_179 (by decide) (fun c179 => ?_) (fun c179 => ?_)
  · rw [if_pos c179] at h
    refine zw_sub (lv' := [(0, .ref a0)]) (List.forall_mem_cons.mpr ⟨rfl, zs_nil⟩) ?_
    exact zt_X12_hear_J215 hX hr hR hd h
  · rw [if_neg c179] at h
    refine zw_aload_n hX dX12_hear_182 rfl ?_
    obtain ⟨v17, g, h⟩ := zb_some h
    refine zw_geti hX zl_X12_111 dX12_hear_183 g ?_
    refine zw_aload_n hX dX12_hear_186 rfl ?_
    obtain ⟨v18, g, h⟩ := zb_some h
    refine zw_geti hX zl_X12_86 dX12_hear_187 g ?_
    refine zw_bipush (v := (14 : Int32)) hX dX12_hear_190 (by decide) ?_
    refine zw_iadd hX dX12_hear_192 ?_
    refine zw_icmp_ne (tgt := 215) hX dX12_hear_193 (by decide) (fun c193 => ?_) (fun c193 => ?_)
    · rw [if_neg c193] at h
      refine zw_sub (lv' := [(0, .ref a0)]) (List.forall_mem_cons.mpr ⟨rfl, zs_nil⟩) ?_
      exact zt_X12_hear_J215 hX hr hR hd h
    · rw [if_pos c193] at h
      refine zw_aload_n hX dX12_hear_196 rfl ?_
      obtain ⟨v19, g, h⟩ := zb_some h
      refine zw_geti hX zl_X12_105 dX12_hear_197 g ?_
      refine zw_iconst (v := (1 : Int32)) hX dX12_hear_200 (by decide) ?_
      refine zw_icmp_ne (tgt := 215) hX dX12_hear_201 (by decide) (fun c201 => ?_) (fun c201 => ?_)
      · rw [if_neg c201] at h
        refine zw_sub (lv' := [(0, .ref a0)]) (List.forall_mem_cons.mpr ⟨rfl, zs_nil⟩) ?_
        exact zt_X12_hear_J215 hX hr hR hd h
      · rw [if_pos c201] at h
        refine zw_aload_n hX dX12_hear_204 rfl ?_
        obtain ⟨v20, g, h⟩ := zb_some h
        refine zw_geti hX zl_X12_102 dX12_hear_205 g ?_
        refine zw_if_ne (tgt := 215) hX dX12_hear_208 (by decide) (fun c208 => ?_) (fun c208 => ?_)
        · rw [if_neg c208] at h
          refine zw_sub (lv' := [(0, .ref a0)]) (List.forall_mem_cons.mpr ⟨rfl, zs_nil⟩) ?_
          exact zt_X12_hear_J215 hX hr hR hd h
        · rw [if_pos c208] at h
          refine zw_iconst (v := (1 : Int32)) hX dX12_hear_211 (by decide) ?_
          refine zw_goto (tgt := 216) hX dX12_hear_212 (by decide) ?_
          refine zw_sub (lv' := [(0, .ref a0)]) (List.forall_mem_cons.mpr ⟨rfl, zs_nil⟩) ?_
          exact zt_X12_hear_J216 hX hr hR hd h
set_option maxHeartbeats 4000000 in
set_option maxRecDepth 100000 in
theorem zt_X12_hear_L42 {p : Program} {l : Launch} {e : Env} {R : Room} {s : State} {m : MethodId} {args : Array Value} {below : List Frame} {meth : Method} {c : Code} {V : zm_V} {mc ms d rc rs : Nat} (hX : zm_X p R s m args meth c RX12 "hear" cX12_hear 3 zk_E V mc ms) (hr : meth.sig.returnType = none) (hR : R.frames = d ∧ R.locals = 64 * d) (hd : 3 ≤ d) {N : Nat} {res : (Unit × zm_S) ⊕ ((Int32) × zm_S)} {out : (Unit × zm_S)} (a0 : Nat) (hf : ∀ o, res = .inl o → o = out) (hk : ∀ (x1 : Int32) (S' : zm_S), res = .inr (x1, S') → zw p l e R s m args below meth c (vx_MQ below (zm_Qc zk_E V (zo_v out)) (zm_XC zk_E V zo_x) args s mc ms (fun q => V.2.2.2.1 ≤ q)) 3 zk_E V mc ms 77 [(0, .ref a0), (1, .int x1)] [] S' rc rs) : ∀ (n : Nat) (i1 : Int32) (i2 : Int32) (S : zm_S), zf_X12_hear_L42 N n a0 i1 i2 S = some res → zw p l e R s m args below meth c (vx_MQ below (zm_Qc zk_E V (zo_v out)) (zm_XC zk_E V zo_x) args s mc ms (fun q => V.2.2.2.1 ≤ q)) 3 zk_E V mc ms 42 [(0, .ref a0), (1, .int i1), (2, .int i2)] [] S rc rs := by
  intro n
  induction n with
  | zero => intro i1 i2 S h; cases h
  | succ n ih =>
    intro i1 i2 S h
    rw [zf_X12_hear_L42] at h
    refine zw_iload_n hX dX12_hear_42 rfl ?_
    refine zw_aload_n hX dX12_hear_43 rfl ?_
    obtain ⟨v22, g, h⟩ := zb_some h
    refine zw_geti hX zl_X12_105 dX12_hear_44 g ?_
    refine zw_icmp_ge (tgt := 77) hX dX12_hear_47 (by decide) (fun c47 => ?_) (fun c47 => ?_)
    · rw [if_pos c47] at h
      refine zw_sub (lv' := [(0, .ref a0), (1, .int i1)]) (List.forall_mem_cons.mpr ⟨rfl, (List.forall_mem_cons.mpr ⟨rfl, zs_nil⟩)⟩) ?_
      exact hk _ _ (Option.some.inj h).symm
    · rw [if_neg c47] at h
      refine zw_aload_n hX dX12_hear_50 rfl ?_
      obtain ⟨b23, g, h⟩ := zb_some h
      refine zw_getr hX zl_X12_58 dX12_hear_51 g ?_
      refine zw_iload_n hX dX12_hear_54 rfl ?_
      refine zw_aload_n hX dX12_hear_55 rfl ?_
      obtain ⟨b24, g, h⟩ := zb_some h
      refine zw_getr hX zl_X12_55 dX12_hear_56 g ?_
      refine zw_iload_n hX dX12_hear_59 rfl ?_
      obtain ⟨v25, g, h⟩ := zb_some h
      refine zw_xi hX dX12_hear_60 g ?_
      obtain ⟨S26, g, h⟩ := zb_some h
      refine zw_si hX dX12_hear_61 g ?_
      refine zw_iload_n hX dX12_hear_62 rfl ?_
      refine zw_aload_n hX dX12_hear_63 rfl ?_
      obtain ⟨b27, g, h⟩ := zb_some h
      refine zw_getr hX zl_X12_55 dX12_hear_64 g ?_
      refine zw_iload_n hX dX12_hear_67 rfl ?_
      obtain ⟨v28, g, h⟩ := zb_some h
      refine zw_xi hX dX12_hear_68 g ?_
      refine zw_ixor hX dX12_hear_69 ?_
      refine zw_istore_n hX dX12_hear_70 (by decide) ?_
      refine zw_iinc (v := (i2 + (1 : Int32))) hX dX12_hear_71 rfl rfl (by decide) ?_
      refine zw_goto (tgt := 42) hX dX12_hear_74 (by decide) ?_
      refine zw_sub (lv' := [(0, .ref a0), (1, .int (i1 ^^^ v28)), (2, .int (i2 + (1 : Int32)))]) (List.forall_mem_cons.mpr ⟨rfl, (List.forall_mem_cons.mpr ⟨rfl, (List.forall_mem_cons.mpr ⟨rfl, zs_nil⟩)⟩)⟩) ?_
      exact ih _ _ _ h
set_option maxHeartbeats 4000000 in
set_option maxRecDepth 100000 in
theorem zt_X12_hear_J165 {p : Program} {l : Launch} {e : Env} {R : Room} {s : State} {m : MethodId} {args : Array Value} {below : List Frame} {meth : Method} {c : Code} {V : zm_V} {mc ms d rc rs : Nat} (hX : zm_X p R s m args meth c RX12 "hear" cX12_hear 3 zk_E V mc ms) (hr : meth.sig.returnType = none) (hR : R.frames = d ∧ R.locals = 64 * d) (hd : 3 ≤ d) {N : Nat} {a0 : Nat} {t0 : Nat} {t1 : Int32} {t2 : Int32} {t3 : Int32} {out : (Unit × zm_S)} {S : zm_S} (h : zf_X12_hear_J165 N a0 t0 t1 t2 t3 S = some out) : zw p l e R s m args below meth c (vx_MQ below (zm_Qc zk_E V (zo_v out)) (zm_XC zk_E V zo_x) args s mc ms (fun q => V.2.2.2.1 ≤ q)) 3 zk_E V mc ms 165 [(0, .ref a0)] [.int t3, .int t2, .int t1, .ref t0] S rc rs := by
  unfold zf_X12_hear_J165 at h
  refine zw_iadd hX dX12_hear_165 ?_
  obtain ⟨S44, g, h⟩ := zb_some h
  refine zw_si hX dX12_hear_166 g ?_
  refine zw_goto (tgt := 270) hX dX12_hear_167 (by decide) ?_
  refine zw_aload_n hX dX12_hear_270 rfl ?_
  obtain ⟨_, gi, h⟩ := zb_some h
  obtain ⟨r46, g, h⟩ := zb_some h
  refine zc_Vv (as := []) hX gi (zt_X12_starts (d := d - 1) (by omega) g) zl_X12_114 rfl dX12_hear_271 ⟨rfl, rfl, Nat.le_of_ble_eq_true rfl⟩ ⟨by omega, by omega⟩ ?_
  obtain rfl := Option.some.inj h
  exact zw_vret hX hr dX12_hear_274 ⟨rfl, rfl⟩
set_option maxHeartbeats 4000000 in
set_option maxRecDepth 100000 in
theorem zt_X12_hear_J115 {p : Program} {l : Launch} {e : Env} {R : Room} {s : State} {m : MethodId} {args : Array Value} {below : List Frame} {meth : Method} {c : Code} {V : zm_V} {mc ms d rc rs : Nat} (hX : zm_X p R s m args meth c RX12 "hear" cX12_hear 3 zk_E V mc ms) (hr : meth.sig.returnType = none) (hR : R.frames = d ∧ R.locals = 64 * d) (hd : 3 ≤ d) {N : Nat} {a0 : Nat} {t0 : Nat} {t1 : Int32} {out : (Unit × zm_S)} {S : zm_S} (h : zf_X12_hear_J115 N a0 t0 t1 S = some out) : zw p l e R s m args below meth c (vx_MQ below (zm_Qc zk_E V (zo_v out)) (zm_XC zk_E V zo_x) args s mc ms (fun q => V.2.2.2.1 ≤ q)) 3 zk_E V mc ms 115 [(0, .ref a0)] [.int t1, .ref t0] S rc rs := by
  unfold zf_X12_hear_J115 at h
  obtain ⟨S33, g, h⟩ := zb_some h
  obtain ⟨gz, g⟩ := zp_z_spec g
  refine zw_putv hX zl_X12_93 zt_12_23 dX12_hear_115 (zn_z gz) (zf_z gz) g ?_
  refine zw_aload_n hX dX12_hear_118 rfl ?_
  refine zw_aload_n hX dX12_hear_119 rfl ?_
  obtain ⟨v34, g, h⟩ := zb_some h
  refine zw_geti hX zl_X12_108 dX12_hear_120 g ?_
  obtain ⟨S35, g, h⟩ := zb_some h
  refine zw_putv hX zl_X12_86 zt_12_24 dX12_hear_123 rfl rfl g ?_
  refine zw_aload_n hX dX12_hear_126 rfl ?_
  refine zw_iconst (v := (-1 : Int32)) hX dX12_hear_127 (by decide) ?_
  obtain ⟨S36, g, h⟩ := zb_some h
  refine zw_putv hX zl_X12_61 zt_12_26 dX12_hear_128 rfl rfl g ?_
  refine zw_aload_n hX dX12_hear_131 rfl ?_
  refine zw_iconst (v := (0 : Int32)) hX dX12_hear_132 (by decide) ?_
  obtain ⟨S37, g, h⟩ := zb_some h
  refine zw_putv hX zl_X12_89 zt_12_25 dX12_hear_133 rfl (by decide) g ?_
  refine zw_aload_n hX dX12_hear_136 rfl ?_
  obtain ⟨b38, g, h⟩ := zb_some h
  refine zw_getr hX zl_X12_65 dX12_hear_137 g ?_
  refine zw_iconst (v := (0 : Int32)) hX dX12_hear_140 (by decide) ?_
  refine zw_dup2 hX dX12_hear_141 rfl rfl ?_
  obtain ⟨v39, g, h⟩ := zb_some h
  refine zw_xi hX dX12_hear_142 g ?_
  refine zw_iconst (v := (1 : Int32)) hX dX12_hear_143 (by decide) ?_
  refine zw_iadd hX dX12_hear_144 ?_
  obtain ⟨S40, g, h⟩ := zb_some h
  refine zw_si hX dX12_hear_145 g ?_
  refine zw_aload_n hX dX12_hear_146 rfl ?_
  obtain ⟨b41, g, h⟩ := zb_some h
  refine zw_getr hX zl_X12_65 dX12_hear_147 g ?_
  refine zw_iconst (v := (1 : Int32)) hX dX12_hear_150 (by decide) ?_
  refine zw_dup2 hX dX12_hear_151 rfl rfl ?_
  obtain ⟨v42, g, h⟩ := zb_some h
  refine zw_xi hX dX12_hear_152 g ?_
  refine zw_aload_n hX dX12_hear_153 rfl ?_
  obtain ⟨v43, g, h⟩ := zb_some h
  refine zw_geti hX zl_X12_93 dX12_hear_154 g ?_
  refine zw_if_eq (tgt := 164) hX dX12_hear_157 (by decide) (fun c157 => ?_) (fun c157 => ?_)
  · rw [if_pos c157] at h
    refine zw_iconst (v := (0 : Int32)) hX dX12_hear_164 (by decide) ?_
    refine zw_sub (lv' := [(0, .ref a0)]) (List.forall_mem_cons.mpr ⟨rfl, zs_nil⟩) ?_
    exact zt_X12_hear_J165 hX hr hR hd h
  · rw [if_neg c157] at h
    refine zw_iconst (v := (1 : Int32)) hX dX12_hear_160 (by decide) ?_
    refine zw_goto (tgt := 165) hX dX12_hear_161 (by decide) ?_
    refine zw_sub (lv' := [(0, .ref a0)]) (List.forall_mem_cons.mpr ⟨rfl, zs_nil⟩) ?_
    exact zt_X12_hear_J165 hX hr hR hd h
set_option maxHeartbeats 4000000 in
set_option maxRecDepth 100000 in
theorem zt_X12_hear_J114 {p : Program} {l : Launch} {e : Env} {R : Room} {s : State} {m : MethodId} {args : Array Value} {below : List Frame} {meth : Method} {c : Code} {V : zm_V} {mc ms d rc rs : Nat} (hX : zm_X p R s m args meth c RX12 "hear" cX12_hear 3 zk_E V mc ms) (hr : meth.sig.returnType = none) (hR : R.frames = d ∧ R.locals = 64 * d) (hd : 3 ≤ d) {N : Nat} {a0 : Nat} {t0 : Nat} {out : (Unit × zm_S)} {S : zm_S} (h : zf_X12_hear_J114 N a0 t0 S = some out) : zw p l e R s m args below meth c (vx_MQ below (zm_Qc zk_E V (zo_v out)) (zm_XC zk_E V zo_x) args s mc ms (fun q => V.2.2.2.1 ≤ q)) 3 zk_E V mc ms 114 [(0, .ref a0)] [.ref t0] S rc rs := by
  unfold zf_X12_hear_J114 at h
  refine zw_iconst (v := (0 : Int32)) hX dX12_hear_114 (by decide) ?_
  refine zw_sub (lv' := [(0, .ref a0)]) (List.forall_mem_cons.mpr ⟨rfl, zs_nil⟩) ?_
  exact zt_X12_hear_J115 hX hr hR hd h
set_option maxHeartbeats 4000000 in
set_option maxRecDepth 100000 in
theorem zt_X12_hear {l : Launch} {V : zm_V} {N : Nat} {S : zm_S} {out : (Unit × zm_S)} {d : Nat} {a0 : Nat} (hd : 3 ≤ d) (h : zf_X12_hear N a0 S = some out) : zm_Met l zk_E V yX12_hear (.code yX12_hear cX12_hear 3 none) d [.ref a0] S 0 0 (zo_v out) zo_x := by
  refine zm_of (by decide +kernel) (Nat.le_of_ble_eq_true rfl) ?_
  intro p e R s m args below meth c hRR hX hr hxt
  have hR : R.frames = d ∧ R.locals = 64 * d := by rw [hRR]; exact ⟨rfl, rfl⟩
  have hX : zm_X p R s m args meth c RX12 "hear" cX12_hear 3 zk_E V 0 0 := hX
  unfold zf_X12_hear at h
  refine zw_sub (lv' := [(0, .ref a0)]) (List.forall_mem_cons.mpr ⟨rfl, zs_nil⟩) ?_
  refine zw_aload_n hX dX12_hear_0 rfl ?_
  obtain ⟨v1, g, h⟩ := zb_some h
  refine zw_geti hX zl_X12_111 dX12_hear_1 g ?_
  refine zw_if_ne (tgt := 12) hX dX12_hear_4 (by decide) (fun c4 => ?_) (fun c4 => ?_)
  · rw [if_neg c4] at h
    refine zw_aload_n hX dX12_hear_12 rfl ?_
    obtain ⟨_, gi, h⟩ := zb_some h
    obtain ⟨r3, g, h⟩ := zb_some h
    refine zc_Vi (as := []) hX gi (zt_X12_reads (d := d - 1) (by omega) g) zl_X12_117 rfl dX12_hear_13 ⟨rfl, rfl, Nat.le_of_ble_eq_true rfl⟩ ⟨by omega, by omega⟩ ?_
    refine zw_if_ne (tgt := 20) hX dX12_hear_16 (by decide) (fun c16 => ?_) (fun c16 => ?_)
    · rw [if_neg c16] at h
      refine zw_aload_n hX dX12_hear_20 rfl ?_
      obtain ⟨v4, g, h⟩ := zb_some h
      refine zw_geti hX zl_X12_105 dX12_hear_21 g ?_
      refine zw_bipush (v := (8 : Int32)) hX dX12_hear_24 (by decide) ?_
      refine zw_icmp_lt (tgt := 170) hX dX12_hear_26 (by decide) (fun c26 => ?_) (fun c26 => ?_)
      · rw [if_pos c26] at h
        refine zw_sub (lv' := [(0, .ref a0)]) (List.forall_mem_cons.mpr ⟨rfl, zs_nil⟩) ?_
        exact zt_X12_hear_J170 hX hr hR hd h
      · rw [if_neg c26] at h
        refine zw_aload_n hX dX12_hear_29 rfl ?_
        obtain ⟨v21, g, h⟩ := zb_some h
        refine zw_geti hX zl_X12_102 dX12_hear_30 g ?_
        refine zw_if_ne (tgt := 170) hX dX12_hear_33 (by decide) (fun c33 => ?_) (fun c33 => ?_)
        · rw [if_neg c33] at h
          refine zw_sub (lv' := [(0, .ref a0)]) (List.forall_mem_cons.mpr ⟨rfl, zs_nil⟩) ?_
          exact zt_X12_hear_J170 hX hr hR hd h
        · rw [if_pos c33] at h
          refine zw_sipush (v := (255 : Int32)) hX dX12_hear_36 (by decide) ?_
          refine zw_istore_n hX dX12_hear_39 (by decide) ?_
          refine zw_iconst (v := (0 : Int32)) hX dX12_hear_40 (by decide) ?_
          refine zw_istore_n hX dX12_hear_41 (by decide) ?_
          obtain ⟨r, g, h⟩ := zb_some h
          refine zw_sub (lv' := [(0, .ref a0), (1, .int (255 : Int32)), (2, .int (0 : Int32))]) (List.forall_mem_cons.mpr ⟨rfl, (List.forall_mem_cons.mpr ⟨rfl, (List.forall_mem_cons.mpr ⟨rfl, zs_nil⟩)⟩)⟩) ?_
          refine zt_X12_hear_L42 hX hr hR hd (res := r) (out := out) a0 ?_ ?_ N _ _ _ g
          · intro o ho
            subst ho
            exact Option.some.inj h
          · intro v30 S29 hx
            subst hx
            try dsimp only at h
            refine zw_aload_n hX dX12_hear_77 rfl ?_
            refine zw_aload_n hX dX12_hear_78 rfl ?_
            obtain ⟨v31, g, h⟩ := zb_some h
            refine zw_geti hX zl_X12_105 dX12_hear_79 g ?_
            obtain ⟨S32, g, h⟩ := zb_some h
            refine zw_putv hX zl_X12_121 zt_12_21 dX12_hear_82 rfl rfl g ?_
            refine zw_aload_n hX dX12_hear_85 rfl ?_
            refine zw_iload_n hX dX12_hear_86 rfl ?_
            refine zw_if_ne (tgt := 114) hX dX12_hear_87 (by decide) (fun c87 => ?_) (fun c87 => ?_)
            · rw [if_neg c87] at h
              refine zw_sub (lv' := [(0, .ref a0)]) (List.forall_mem_cons.mpr ⟨rfl, zs_nil⟩) ?_
              exact zt_X12_hear_J114 hX hr hR hd h
            · rw [if_pos c87] at h
              refine zw_aload_n hX dX12_hear_90 rfl ?_
              obtain ⟨v47, g, h⟩ := zb_some h
              refine zw_geti hX zl_X12_121 dX12_hear_91 g ?_
              refine zw_aload_n hX dX12_hear_94 rfl ?_
              obtain ⟨b48, g, h⟩ := zb_some h
              refine zw_getr hX zl_X12_58 dX12_hear_95 g ?_
              refine zw_iconst (v := (5 : Int32)) hX dX12_hear_98 (by decide) ?_
              obtain ⟨v49, g, h⟩ := zb_some h
              refine zw_xi hX dX12_hear_99 g ?_
              refine zw_sipush (v := (128 : Int32)) hX dX12_hear_100 (by decide) ?_
              refine zw_irem hX dX12_hear_103 (by decide) ?_
              refine zw_bipush (v := (8 : Int32)) hX dX12_hear_104 (by decide) ?_
              refine zw_iadd hX dX12_hear_106 ?_
              refine zw_icmp_ne (tgt := 114) hX dX12_hear_107 (by decide) (fun c107 => ?_) (fun c107 => ?_)
              · rw [if_neg c107] at h
                refine zw_sub (lv' := [(0, .ref a0)]) (List.forall_mem_cons.mpr ⟨rfl, zs_nil⟩) ?_
                exact zt_X12_hear_J114 hX hr hR hd h
              · rw [if_pos c107] at h
                refine zw_iconst (v := (1 : Int32)) hX dX12_hear_110 (by decide) ?_
                refine zw_goto (tgt := 115) hX dX12_hear_111 (by decide) ?_
                refine zw_sub (lv' := [(0, .ref a0)]) (List.forall_mem_cons.mpr ⟨rfl, zs_nil⟩) ?_
                exact zt_X12_hear_J115 hX hr hR hd h
    · rw [if_pos c16] at h
      obtain rfl := Option.some.inj h
      exact zw_vret hX hr dX12_hear_19 ⟨rfl, rfl⟩
  · rw [if_pos c4] at h
    refine zw_aload_n hX dX12_hear_7 rfl ?_
    obtain ⟨_, gi, h⟩ := zb_some h
    obtain ⟨r51, g, h⟩ := zb_some h
    refine zc_Vv (as := []) hX gi (zt_X12_starts (d := d - 1) (by omega) g) zl_X12_114 rfl dX12_hear_8 ⟨rfl, rfl, Nat.le_of_ble_eq_true rfl⟩ ⟨by omega, by omega⟩ ?_
    obtain rfl := Option.some.inj h
    exact zw_vret hX hr dX12_hear_11 ⟨rfl, rfl⟩
set_option maxHeartbeats 4000000 in
set_option maxRecDepth 100000 in
theorem zt_X12_look_L110 {p : Program} {l : Launch} {e : Env} {R : Room} {s : State} {m : MethodId} {args : Array Value} {below : List Frame} {meth : Method} {c : Code} {V : zm_V} {mc ms d rc rs : Nat} (hX : zm_X p R s m args meth c RX12 "look" cX12_look 4 zk_E V mc ms) (hr : meth.sig.returnType = none) (hR : R.frames = d ∧ R.locals = 64 * d) (hd : 1 ≤ d) {N : Nat} {res : (Unit × zm_S) ⊕ ((Unit) × zm_S)} {out : (Unit × zm_S)} (a0 : Nat) (i1 : Int32) (hf : ∀ o, res = .inl o → o = out) (hk : ∀ (S' : zm_S), res = .inr ((), S') → zw p l e R s m args below meth c (vx_MQ below (zm_Qc zk_E V (zo_v out)) (zm_XC zk_E V zo_x) args s mc ms (fun q => V.2.2.2.1 ≤ q)) 4 zk_E V mc ms 150 [] [] S' rc rs) : ∀ (n : Nat) (i3 : Int32) (S : zm_S), zf_X12_look_L110 N n a0 i1 i3 S = some res → zw p l e R s m args below meth c (vx_MQ below (zm_Qc zk_E V (zo_v out)) (zm_XC zk_E V zo_x) args s mc ms (fun q => V.2.2.2.1 ≤ q)) 4 zk_E V mc ms 110 [(0, .ref a0), (1, .int i1), (3, .int i3)] [] S rc rs := by
  intro n
  induction n with
  | zero => intro i3 S h; cases h
  | succ n ih =>
    intro i3 S h
    rw [zf_X12_look_L110] at h
    refine zw_iload_n hX dX12_look_110 rfl ?_
    refine zw_sipush (v := (144 : Int32)) hX dX12_look_111 (by decide) ?_
    refine zw_iload_n hX dX12_look_114 rfl ?_
    refine zw_imul hX dX12_look_115 ?_
    refine zw_bipush (v := (24 : Int32)) hX dX12_look_116 (by decide) ?_
    refine zw_aload_n hX dX12_look_118 rfl ?_
    obtain ⟨b16, g, h⟩ := zb_some h
    refine zw_getr hX zl_X12_28 dX12_look_119 g ?_
    refine zw_iload_n hX dX12_look_122 rfl ?_
    obtain ⟨v17, g, h⟩ := zb_some h
    refine zw_xi hX dX12_look_123 g ?_
    refine zw_imul hX dX12_look_124 ?_
    refine zw_iadd hX dX12_look_125 ?_
    refine zw_icmp_ge (tgt := 150) hX dX12_look_126 (by decide) (fun c126 => ?_) (fun c126 => ?_)
    · rw [if_pos c126] at h
      refine zw_sub (lv' := []) zs_nil ?_
      exact hk  _ (Option.some.inj h).symm
    · rw [if_neg c126] at h
      refine zw_aload_n hX dX12_look_129 rfl ?_
      obtain ⟨b18, g, h⟩ := zb_some h
      refine zw_getr hX zl_X12_31 dX12_look_130 g ?_
      refine zw_iload_n hX dX12_look_133 rfl ?_
      refine zw_aload_n hX dX12_look_134 rfl ?_
      obtain ⟨b19, g, h⟩ := zb_some h
      refine zw_getr hX zl_X12_31 dX12_look_135 g ?_
      refine zw_iload_n hX dX12_look_138 rfl ?_
      refine zw_bipush (v := (24 : Int32)) hX dX12_look_139 (by decide) ?_
      refine zw_iadd hX dX12_look_141 ?_
      obtain ⟨v20, g, h⟩ := zb_some h
      refine zw_xi hX dX12_look_142 g ?_
      obtain ⟨S21, g, h⟩ := zb_some h
      refine zw_si hX dX12_look_143 g ?_
      refine zw_iinc (v := (i3 + (1 : Int32))) hX dX12_look_144 rfl rfl (by decide) ?_
      refine zw_goto (tgt := 110) hX dX12_look_147 (by decide) ?_
      refine zw_sub (lv' := [(0, .ref a0), (1, .int i1), (3, .int (i3 + (1 : Int32)))]) (List.forall_mem_cons.mpr ⟨rfl, (List.forall_mem_cons.mpr ⟨rfl, (List.forall_mem_cons.mpr ⟨rfl, zs_nil⟩)⟩)⟩) ?_
      exact ih _ _ h
set_option maxHeartbeats 4000000 in
set_option maxRecDepth 100000 in
theorem zt_X12_look_J92 {p : Program} {l : Launch} {e : Env} {R : Room} {s : State} {m : MethodId} {args : Array Value} {below : List Frame} {meth : Method} {c : Code} {V : zm_V} {mc ms d rc rs : Nat} (hX : zm_X p R s m args meth c RX12 "look" cX12_look 4 zk_E V mc ms) (hr : meth.sig.returnType = none) (hR : R.frames = d ∧ R.locals = 64 * d) (hd : 1 ≤ d) {N : Nat} {a0 : Nat} {i1 : Int32} {t0 : Nat} {t1 : Int32} {t2 : Int32} {t3 : Int32} {out : (Unit × zm_S)} {S : zm_S} (h : zf_X12_look_J92 N a0 i1 t0 t1 t2 t3 S = some out) : zw p l e R s m args below meth c (vx_MQ below (zm_Qc zk_E V (zo_v out)) (zm_XC zk_E V zo_x) args s mc ms (fun q => V.2.2.2.1 ≤ q)) 4 zk_E V mc ms 92 [(0, .ref a0), (1, .int i1)] [.int t3, .int t2, .int t1, .ref t0] S rc rs := by
  unfold zf_X12_look_J92 at h
  refine zw_iadd hX dX12_look_92 ?_
  obtain ⟨S12, g, h⟩ := zb_some h
  refine zw_si hX dX12_look_93 g ?_
  refine zw_aload_n hX dX12_look_94 rfl ?_
  obtain ⟨b13, g, h⟩ := zb_some h
  refine zw_getr hX zl_X12_28 dX12_look_95 g ?_
  refine zw_iload_n hX dX12_look_98 rfl ?_
  refine zw_dup2 hX dX12_look_99 rfl rfl ?_
  obtain ⟨v14, g, h⟩ := zb_some h
  refine zw_xi hX dX12_look_100 g ?_
  refine zw_iconst (v := (1 : Int32)) hX dX12_look_101 (by decide) ?_
  refine zw_isub hX dX12_look_102 ?_
  obtain ⟨S15, g, h⟩ := zb_some h
  refine zw_si hX dX12_look_103 g ?_
  refine zw_sipush (v := (144 : Int32)) hX dX12_look_104 (by decide) ?_
  refine zw_iload_n hX dX12_look_107 rfl ?_
  refine zw_imul hX dX12_look_108 ?_
  refine zw_istore_n hX dX12_look_109 (by decide) ?_
  obtain ⟨r, g, h⟩ := zb_some h
  refine zw_sub (lv' := [(0, .ref a0), (1, .int i1), (3, .int ((144 : Int32) * i1))]) (List.forall_mem_cons.mpr ⟨rfl, (List.forall_mem_cons.mpr ⟨rfl, (List.forall_mem_cons.mpr ⟨rfl, zs_nil⟩)⟩)⟩) ?_
  refine zt_X12_look_L110 hX hr hR hd (res := r) (out := out) a0 i1 ?_ ?_ N _ _ g
  · intro o ho
    subst ho
    exact Option.some.inj h
  · intro  S22 hx
    subst hx
    try dsimp only at h
    obtain rfl := Option.some.inj h
    exact zw_vret hX hr dX12_look_150 ⟨rfl, rfl⟩
set_option maxHeartbeats 4000000 in
set_option maxRecDepth 100000 in
theorem zt_X12_look_J74 {p : Program} {l : Launch} {e : Env} {R : Room} {s : State} {m : MethodId} {args : Array Value} {below : List Frame} {meth : Method} {c : Code} {V : zm_V} {mc ms d rc rs : Nat} (hX : zm_X p R s m args meth c RX12 "look" cX12_look 4 zk_E V mc ms) (hr : meth.sig.returnType = none) (hR : R.frames = d ∧ R.locals = 64 * d) (hd : 1 ≤ d) {N : Nat} {a0 : Nat} {i1 : Int32} {i2 : Int32} {t0 : Nat} {t1 : Int32} {t2 : Int32} {t3 : Int32} {out : (Unit × zm_S)} {S : zm_S} (h : zf_X12_look_J74 N a0 i1 i2 t0 t1 t2 t3 S = some out) : zw p l e R s m args below meth c (vx_MQ below (zm_Qc zk_E V (zo_v out)) (zm_XC zk_E V zo_x) args s mc ms (fun q => V.2.2.2.1 ≤ q)) 4 zk_E V mc ms 74 [(0, .ref a0), (1, .int i1), (2, .int i2)] [.int t3, .int t2, .int t1, .ref t0] S rc rs := by
  unfold zf_X12_look_J74 at h
  refine zw_iadd hX dX12_look_74 ?_
  obtain ⟨S9, g, h⟩ := zb_some h
  refine zw_si hX dX12_look_75 g ?_
  refine zw_aload_n hX dX12_look_76 rfl ?_
  obtain ⟨b10, g, h⟩ := zb_some h
  refine zw_getr hX zl_X12_49 dX12_look_77 g ?_
  refine zw_iload_n hX dX12_look_80 rfl ?_
  refine zw_dup2 hX dX12_look_81 rfl rfl ?_
  obtain ⟨v11, g, h⟩ := zb_some h
  refine zw_xi hX dX12_look_82 g ?_
  refine zw_iload_n hX dX12_look_83 rfl ?_
  refine zw_if_eq (tgt := 91) hX dX12_look_84 (by decide) (fun c84 => ?_) (fun c84 => ?_)
  · rw [if_pos c84] at h
    refine zw_iconst (v := (1 : Int32)) hX dX12_look_91 (by decide) ?_
    refine zw_sub (lv' := [(0, .ref a0), (1, .int i1)]) (List.forall_mem_cons.mpr ⟨rfl, (List.forall_mem_cons.mpr ⟨rfl, zs_nil⟩)⟩) ?_
    exact zt_X12_look_J92 hX hr hR hd h
  · rw [if_neg c84] at h
    refine zw_iconst (v := (0 : Int32)) hX dX12_look_87 (by decide) ?_
    refine zw_goto (tgt := 92) hX dX12_look_88 (by decide) ?_
    refine zw_sub (lv' := [(0, .ref a0), (1, .int i1)]) (List.forall_mem_cons.mpr ⟨rfl, (List.forall_mem_cons.mpr ⟨rfl, zs_nil⟩)⟩) ?_
    exact zt_X12_look_J92 hX hr hR hd h
set_option maxHeartbeats 4000000 in
set_option maxRecDepth 100000 in
theorem zt_X12_look_J58 {p : Program} {l : Launch} {e : Env} {R : Room} {s : State} {m : MethodId} {args : Array Value} {below : List Frame} {meth : Method} {c : Code} {V : zm_V} {mc ms d rc rs : Nat} (hX : zm_X p R s m args meth c RX12 "look" cX12_look 4 zk_E V mc ms) (hr : meth.sig.returnType = none) (hR : R.frames = d ∧ R.locals = 64 * d) (hd : 1 ≤ d) {N : Nat} {a0 : Nat} {i1 : Int32} {i2 : Int32} {out : (Unit × zm_S)} {S : zm_S} (h : zf_X12_look_J58 N a0 i1 i2 S = some out) : zw p l e R s m args below meth c (vx_MQ below (zm_Qc zk_E V (zo_v out)) (zm_XC zk_E V zo_x) args s mc ms (fun q => V.2.2.2.1 ≤ q)) 4 zk_E V mc ms 58 [(0, .ref a0), (1, .int i1), (2, .int i2)] [] S rc rs := by
  unfold zf_X12_look_J58 at h
  refine zw_aload_n hX dX12_look_58 rfl ?_
  obtain ⟨b7, g, h⟩ := zb_some h
  refine zw_getr hX zl_X12_46 dX12_look_59 g ?_
  refine zw_iload_n hX dX12_look_62 rfl ?_
  refine zw_dup2 hX dX12_look_63 rfl rfl ?_
  obtain ⟨v8, g, h⟩ := zb_some h
  refine zw_xi hX dX12_look_64 g ?_
  refine zw_iload_n hX dX12_look_65 rfl ?_
  refine zw_if_eq (tgt := 73) hX dX12_look_66 (by decide) (fun c66 => ?_) (fun c66 => ?_)
  · rw [if_pos c66] at h
    refine zw_iconst (v := (0 : Int32)) hX dX12_look_73 (by decide) ?_
    refine zw_sub (lv' := [(0, .ref a0), (1, .int i1), (2, .int i2)]) (List.forall_mem_cons.mpr ⟨rfl, (List.forall_mem_cons.mpr ⟨rfl, (List.forall_mem_cons.mpr ⟨rfl, zs_nil⟩)⟩)⟩) ?_
    exact zt_X12_look_J74 hX hr hR hd h
  · rw [if_neg c66] at h
    refine zw_iconst (v := (1 : Int32)) hX dX12_look_69 (by decide) ?_
    refine zw_goto (tgt := 74) hX dX12_look_70 (by decide) ?_
    refine zw_sub (lv' := [(0, .ref a0), (1, .int i1), (2, .int i2)]) (List.forall_mem_cons.mpr ⟨rfl, (List.forall_mem_cons.mpr ⟨rfl, (List.forall_mem_cons.mpr ⟨rfl, zs_nil⟩)⟩)⟩) ?_
    exact zt_X12_look_J74 hX hr hR hd h
set_option maxHeartbeats 4000000 in
set_option maxRecDepth 100000 in
theorem zt_X12_look_J36 {p : Program} {l : Launch} {e : Env} {R : Room} {s : State} {m : MethodId} {args : Array Value} {below : List Frame} {meth : Method} {c : Code} {V : zm_V} {mc ms d rc rs : Nat} (hX : zm_X p R s m args meth c RX12 "look" cX12_look 4 zk_E V mc ms) (hr : meth.sig.returnType = none) (hR : R.frames = d ∧ R.locals = 64 * d) (hd : 1 ≤ d) {N : Nat} {a0 : Nat} {i1 : Int32} {t0 : Int32} {out : (Unit × zm_S)} {S : zm_S} (h : zf_X12_look_J36 N a0 i1 t0 S = some out) : zw p l e R s m args below meth c (vx_MQ below (zm_Qc zk_E V (zo_v out)) (zm_XC zk_E V zo_x) args s mc ms (fun q => V.2.2.2.1 ≤ q)) 4 zk_E V mc ms 36 [(0, .ref a0), (1, .int i1)] [.int t0] S rc rs := by
  unfold zf_X12_look_J36 at h
  refine zw_istore_n hX dX12_look_36 (by decide) ?_
  refine zw_iload_n hX dX12_look_37 rfl ?_
  refine zw_if_ne (tgt := 58) hX dX12_look_38 (by decide) (fun c38 => ?_) (fun c38 => ?_)
  · rw [if_neg c38] at h
    refine zw_sub (lv' := [(0, .ref a0), (1, .int i1), (2, .int t0)]) (List.forall_mem_cons.mpr ⟨rfl, (List.forall_mem_cons.mpr ⟨rfl, (List.forall_mem_cons.mpr ⟨rfl, zs_nil⟩)⟩)⟩) ?_
    exact zt_X12_look_J58 hX hr hR hd h
  · rw [if_pos c38] at h
    refine zw_aload_n hX dX12_look_41 rfl ?_
    obtain ⟨b23, g, h⟩ := zb_some h
    refine zw_getr hX zl_X12_31 dX12_look_42 g ?_
    refine zw_sipush (v := (144 : Int32)) hX dX12_look_45 (by decide) ?_
    refine zw_iload_n hX dX12_look_48 rfl ?_
    refine zw_imul hX dX12_look_49 ?_
    refine zw_bipush (v := (23 : Int32)) hX dX12_look_50 (by decide) ?_
    refine zw_iadd hX dX12_look_52 ?_
    obtain ⟨v24, g, h⟩ := zb_some h
    refine zw_xi hX dX12_look_53 g ?_
    refine zw_iconst (v := (4 : Int32)) hX dX12_look_54 (by decide) ?_
    refine zw_icmp_ne (tgt := 150) hX dX12_look_55 (by decide) (fun c55 => ?_) (fun c55 => ?_)
    · rw [if_neg c55] at h
      obtain rfl := Option.some.inj h
      exact zw_vret hX hr dX12_look_150 ⟨rfl, rfl⟩
    · rw [if_pos c55] at h
      refine zw_sub (lv' := [(0, .ref a0), (1, .int i1), (2, .int t0)]) (List.forall_mem_cons.mpr ⟨rfl, (List.forall_mem_cons.mpr ⟨rfl, (List.forall_mem_cons.mpr ⟨rfl, zs_nil⟩)⟩)⟩) ?_
      exact zt_X12_look_J58 hX hr hR hd h
set_option maxHeartbeats 4000000 in
set_option maxRecDepth 100000 in
theorem zt_X12_look {l : Launch} {V : zm_V} {N : Nat} {S : zm_S} {out : (Unit × zm_S)} {d : Nat} {a0 : Nat} {i1 : Int32} (hd : 1 ≤ d) (h : zf_X12_look N a0 i1 S = some out) : zm_Met l zk_E V yX12_look (.code yX12_look cX12_look 4 none) d [.ref a0, .int i1] S 0 0 (zo_v out) zo_x := by
  refine zm_of (by decide +kernel) (Nat.le_of_ble_eq_true rfl) ?_
  intro p e R s m args below meth c hRR hX hr hxt
  have hR : R.frames = d ∧ R.locals = 64 * d := by rw [hRR]; exact ⟨rfl, rfl⟩
  have hX : zm_X p R s m args meth c RX12 "look" cX12_look 4 zk_E V 0 0 := hX
  unfold zf_X12_look at h
  refine zw_sub (lv' := [(0, .ref a0), (1, .int i1)]) (List.forall_mem_cons.mpr ⟨rfl, (List.forall_mem_cons.mpr ⟨rfl, zs_nil⟩)⟩) ?_
  refine zw_aload_n hX dX12_look_0 rfl ?_
  obtain ⟨b1, g, h⟩ := zb_some h
  refine zw_getr hX zl_X12_37 dX12_look_1 g ?_
  refine zw_iload_n hX dX12_look_4 rfl ?_
  obtain ⟨v2, g, h⟩ := zb_some h
  refine zw_xi hX dX12_look_5 g ?_
  refine zw_aload_n hX dX12_look_6 rfl ?_
  obtain ⟨v3, g, h⟩ := zb_some h
  refine zw_geti hX zl_X12_75 dX12_look_7 g ?_
  refine zw_icmp_eq (tgt := 14) hX dX12_look_10 (by decide) (fun c10 => ?_) (fun c10 => ?_)
  · rw [if_pos c10] at h
    refine zw_aload_n hX dX12_look_14 rfl ?_
    obtain ⟨b4, g, h⟩ := zb_some h
    refine zw_getr hX zl_X12_37 dX12_look_15 g ?_
    refine zw_iload_n hX dX12_look_18 rfl ?_
    refine zw_iconst (v := (-1 : Int32)) hX dX12_look_19 (by decide) ?_
    obtain ⟨S5, g, h⟩ := zb_some h
    refine zw_si hX dX12_look_20 g ?_
    refine zw_aload_n hX dX12_look_21 rfl ?_
    obtain ⟨v6, g, h⟩ := zb_some h
    refine zw_geti hX zl_X12_61 dX12_look_22 g ?_
    refine zw_sipush (v := (204 : Int32)) hX dX12_look_25 (by decide) ?_
    refine zw_icmp_ne (tgt := 35) hX dX12_look_28 (by decide) (fun c28 => ?_) (fun c28 => ?_)
    · rw [if_neg c28] at h
      refine zw_iconst (v := (0 : Int32)) hX dX12_look_35 (by decide) ?_
      refine zw_sub (lv' := [(0, .ref a0), (1, .int i1)]) (List.forall_mem_cons.mpr ⟨rfl, (List.forall_mem_cons.mpr ⟨rfl, zs_nil⟩)⟩) ?_
      exact zt_X12_look_J36 hX hr hR hd h
    · rw [if_pos c28] at h
      refine zw_iconst (v := (1 : Int32)) hX dX12_look_31 (by decide) ?_
      refine zw_goto (tgt := 36) hX dX12_look_32 (by decide) ?_
      refine zw_sub (lv' := [(0, .ref a0), (1, .int i1)]) (List.forall_mem_cons.mpr ⟨rfl, (List.forall_mem_cons.mpr ⟨rfl, zs_nil⟩)⟩) ?_
      exact zt_X12_look_J36 hX hr hR hd h
  · rw [if_neg c10] at h
    obtain rfl := Option.some.inj h
    exact zw_vret hX hr dX12_look_13 ⟨rfl, rfl⟩

