/-! ===== functions of methods, by program (wip/whole/tools/gen11.py) ===== -/
theorem dX16_run_0 : decode cX16_run 0 = .ok (.aload_n 0, 1) := by decide +kernel
theorem dX16_run_1 : decode cX16_run 1 = .ok (.dup, 1) := by decide +kernel
theorem dX16_run_2 : decode cX16_run 2 = .ok (.getfield 189, 3) := by decide +kernel
theorem dX16_run_5 : decode cX16_run 5 = .ok (.iconst 1, 1) := by decide +kernel
theorem dX16_run_6 : decode cX16_run 6 = .ok (.iadd, 1) := by decide +kernel
theorem dX16_run_7 : decode cX16_run 7 = .ok (.putfield 189, 3) := by decide +kernel
theorem dX16_run_10 : decode cX16_run 10 = .ok (.aload_n 0, 1) := by decide +kernel
theorem dX16_run_11 : decode cX16_run 11 = .ok (.invokevirtual 192, 3) := by decide +kernel
theorem dX16_run_14 : decode cX16_run 14 = .ok (.aload_n 0, 1) := by decide +kernel
theorem dX16_run_15 : decode cX16_run 15 = .ok (.iconst 0, 1) := by decide +kernel
theorem dX16_run_16 : decode cX16_run 16 = .ok (.putfield 118, 3) := by decide +kernel
theorem dX16_run_19 : decode cX16_run 19 = .ok (.aload_n 0, 1) := by decide +kernel
theorem dX16_run_20 : decode cX16_run 20 = .ok (.iconst 0, 1) := by decide +kernel
theorem dX16_run_21 : decode cX16_run 21 = .ok (.putfield 115, 3) := by decide +kernel
theorem dX16_run_24 : decode cX16_run 24 = .ok (.iconst 0, 1) := by decide +kernel
theorem dX16_run_25 : decode cX16_run 25 = .ok (.istore_n 1, 1) := by decide +kernel
theorem dX16_run_26 : decode cX16_run 26 = .ok (.iload_n 1, 1) := by decide +kernel
theorem dX16_run_27 : decode cX16_run 27 = .ok (.aload_n 0, 1) := by decide +kernel
theorem dX16_run_28 : decode cX16_run 28 = .ok (.getfield 96, 3) := by decide +kernel
theorem dX16_run_31 : decode cX16_run 31 = .ok (.if_icmp .ge 91, 3) := by decide +kernel
theorem dX16_run_34 : decode cX16_run 34 = .ok (.aload_n 0, 1) := by decide +kernel
theorem dX16_run_35 : decode cX16_run 35 = .ok (.aload_n 0, 1) := by decide +kernel
theorem dX16_run_36 : decode cX16_run 36 = .ok (.getfield 35, 3) := by decide +kernel
theorem dX16_run_39 : decode cX16_run 39 = .ok (.aload_n 0, 1) := by decide +kernel
theorem dX16_run_40 : decode cX16_run 40 = .ok (.getfield 118, 3) := by decide +kernel
theorem dX16_run_43 : decode cX16_run 43 = .ok (.aload_n 0, 1) := by decide +kernel
theorem dX16_run_44 : decode cX16_run 44 = .ok (.getfield 7, 3) := by decide +kernel
theorem dX16_run_47 : decode cX16_run 47 = .ok (.iload_n 1, 1) := by decide +kernel
theorem dX16_run_48 : decode cX16_run 48 = .ok (.iaload, 1) := by decide +kernel
theorem dX16_run_49 : decode cX16_run 49 = .ok (.invokestatic 195, 3) := by decide +kernel
theorem dX16_run_52 : decode cX16_run 52 = .ok (.putfield 118, 3) := by decide +kernel
theorem dX16_run_55 : decode cX16_run 55 = .ok (.aload_n 0, 1) := by decide +kernel
theorem dX16_run_56 : decode cX16_run 56 = .ok (.aload_n 0, 1) := by decide +kernel
theorem dX16_run_57 : decode cX16_run 57 = .ok (.getfield 35, 3) := by decide +kernel
theorem dX16_run_60 : decode cX16_run 60 = .ok (.aload_n 0, 1) := by decide +kernel
theorem dX16_run_61 : decode cX16_run 61 = .ok (.getfield 118, 3) := by decide +kernel
theorem dX16_run_64 : decode cX16_run 64 = .ok (.aload_n 0, 1) := by decide +kernel
theorem dX16_run_65 : decode cX16_run 65 = .ok (.iload_n 1, 1) := by decide +kernel
theorem dX16_run_66 : decode cX16_run 66 = .ok (.invokevirtual 89, 3) := by decide +kernel
theorem dX16_run_69 : decode cX16_run 69 = .ok (.invokestatic 195, 3) := by decide +kernel
theorem dX16_run_72 : decode cX16_run 72 = .ok (.putfield 118, 3) := by decide +kernel
theorem dX16_run_75 : decode cX16_run 75 = .ok (.aload_n 0, 1) := by decide +kernel
theorem dX16_run_76 : decode cX16_run 76 = .ok (.aload_n 0, 1) := by decide +kernel
theorem dX16_run_77 : decode cX16_run 77 = .ok (.getfield 38, 3) := by decide +kernel
theorem dX16_run_80 : decode cX16_run 80 = .ok (.aload_n 0, 1) := by decide +kernel
theorem dX16_run_81 : decode cX16_run 81 = .ok (.getfield 115, 3) := by decide +kernel
theorem dX16_run_84 : decode cX16_run 84 = .ok (.aload_n 0, 1) := by decide +kernel
theorem dX16_run_85 : decode cX16_run 85 = .ok (.getfield 13, 3) := by decide +kernel
theorem dX16_run_88 : decode cX16_run 88 = .ok (.iload_n 1, 1) := by decide +kernel
theorem dX16_run_89 : decode cX16_run 89 = .ok (.iaload, 1) := by decide +kernel
theorem dX16_run_90 : decode cX16_run 90 = .ok (.invokestatic 195, 3) := by decide +kernel
theorem dX16_run_93 : decode cX16_run 93 = .ok (.putfield 115, 3) := by decide +kernel
theorem dX16_run_96 : decode cX16_run 96 = .ok (.aload_n 0, 1) := by decide +kernel
theorem dX16_run_97 : decode cX16_run 97 = .ok (.aload_n 0, 1) := by decide +kernel
theorem dX16_run_98 : decode cX16_run 98 = .ok (.getfield 38, 3) := by decide +kernel
theorem dX16_run_101 : decode cX16_run 101 = .ok (.aload_n 0, 1) := by decide +kernel
theorem dX16_run_102 : decode cX16_run 102 = .ok (.getfield 115, 3) := by decide +kernel
theorem dX16_run_105 : decode cX16_run 105 = .ok (.aload_n 0, 1) := by decide +kernel
theorem dX16_run_106 : decode cX16_run 106 = .ok (.iload_n 1, 1) := by decide +kernel
theorem dX16_run_107 : decode cX16_run 107 = .ok (.invokevirtual 93, 3) := by decide +kernel
theorem dX16_run_110 : decode cX16_run 110 = .ok (.invokestatic 195, 3) := by decide +kernel
theorem dX16_run_113 : decode cX16_run 113 = .ok (.putfield 115, 3) := by decide +kernel
theorem dX16_run_116 : decode cX16_run 116 = .ok (.iinc 1 1, 3) := by decide +kernel
theorem dX16_run_119 : decode cX16_run 119 = .ok (.goto (-93), 3) := by decide +kernel
theorem dX16_run_122 : decode cX16_run 122 = .ok (.aload_n 0, 1) := by decide +kernel
theorem dX16_run_123 : decode cX16_run 123 = .ok (.invokevirtual 199, 3) := by decide +kernel
theorem dX16_run_126 : decode cX16_run 126 = .ok (.aload_n 0, 1) := by decide +kernel
theorem dX16_run_127 : decode cX16_run 127 = .ok (.invokevirtual 202, 3) := by decide +kernel
theorem dX16_run_130 : decode cX16_run 130 = .ok (.aload_n 0, 1) := by decide +kernel
theorem dX16_run_131 : decode cX16_run 131 = .ok (.invokevirtual 205, 3) := by decide +kernel
theorem dX16_run_134 : decode cX16_run 134 = .ok (.aload_n 0, 1) := by decide +kernel
theorem dX16_run_135 : decode cX16_run 135 = .ok (.invokevirtual 208, 3) := by decide +kernel
theorem dX16_run_138 : decode cX16_run 138 = .ok (.iconst 0, 1) := by decide +kernel
theorem dX16_run_139 : decode cX16_run 139 = .ok (.istore_n 1, 1) := by decide +kernel
theorem dX16_run_140 : decode cX16_run 140 = .ok (.iload_n 1, 1) := by decide +kernel
theorem dX16_run_141 : decode cX16_run 141 = .ok (.sipush 400, 3) := by decide +kernel
theorem dX16_run_144 : decode cX16_run 144 = .ok (.if_icmp .ge 16, 3) := by decide +kernel
theorem dX16_run_147 : decode cX16_run 147 = .ok (.aload_n 0, 1) := by decide +kernel
theorem dX16_run_148 : decode cX16_run 148 = .ok (.getfield 53, 3) := by decide +kernel
theorem dX16_run_151 : decode cX16_run 151 = .ok (.iload_n 1, 1) := by decide +kernel
theorem dX16_run_152 : decode cX16_run 152 = .ok (.iconst 0, 1) := by decide +kernel
theorem dX16_run_153 : decode cX16_run 153 = .ok (.iastore, 1) := by decide +kernel
theorem dX16_run_154 : decode cX16_run 154 = .ok (.iinc 1 1, 3) := by decide +kernel
theorem dX16_run_157 : decode cX16_run 157 = .ok (.goto (-17), 3) := by decide +kernel
theorem dX16_run_160 : decode cX16_run 160 = .ok (.aload_n 0, 1) := by decide +kernel
theorem dX16_run_161 : decode cX16_run 161 = .ok (.getfield 186, 3) := by decide +kernel
theorem dX16_run_164 : decode cX16_run 164 = .ok (.ifCond .eq 7, 3) := by decide +kernel
theorem dX16_run_171 : decode cX16_run 171 = .ok (.aload_n 0, 1) := by decide +kernel
theorem dX16_run_172 : decode cX16_run 172 = .ok (.iconst 1, 1) := by decide +kernel
theorem dX16_run_173 : decode cX16_run 173 = .ok (.putfield 183, 3) := by decide +kernel
theorem dX16_run_176 : decode cX16_run 176 = .ok (.aload_n 0, 1) := by decide +kernel
theorem dX16_run_177 : decode cX16_run 177 = .ok (.iconst 1, 1) := by decide +kernel
theorem dX16_run_178 : decode cX16_run 178 = .ok (.putfield 108, 3) := by decide +kernel
theorem dX16_run_181 : decode cX16_run 181 = .ok (.aload_n 0, 1) := by decide +kernel
theorem dX16_run_182 : decode cX16_run 182 = .ok (.getfield 171, 3) := by decide +kernel
theorem dX16_run_185 : decode cX16_run 185 = .ok (.ireturn, 1) := by decide +kernel
theorem dX16_run_167 : decode cX16_run 167 = .ok (.aload_n 0, 1) := by decide +kernel
theorem dX16_run_168 : decode cX16_run 168 = .ok (.invokevirtual 211, 3) := by decide +kernel
theorem dX16_isSpace_0 : decode cX16_isSpace 0 = .ok (.aload_n 0, 1) := by decide +kernel
theorem dX16_isSpace_1 : decode cX16_isSpace 1 = .ok (.getfield 183, 3) := by decide +kernel
theorem dX16_isSpace_4 : decode cX16_isSpace 4 = .ok (.ifCond .eq 19, 3) := by decide +kernel
theorem dX16_isSpace_23 : decode cX16_isSpace 23 = .ok (.iconst 0, 1) := by decide +kernel
theorem dX16_isSpace_24 : decode cX16_isSpace 24 = .ok (.ireturn, 1) := by decide +kernel
theorem dX16_isSpace_7 : decode cX16_isSpace 7 = .ok (.iload_n 1, 1) := by decide +kernel
theorem dX16_isSpace_8 : decode cX16_isSpace 8 = .ok (.ifCond .lt 15, 3) := by decide +kernel
theorem dX16_isSpace_11 : decode cX16_isSpace 11 = .ok (.iload_n 1, 1) := by decide +kernel
theorem dX16_isSpace_12 : decode cX16_isSpace 12 = .ok (.aload_n 0, 1) := by decide +kernel
theorem dX16_isSpace_13 : decode cX16_isSpace 13 = .ok (.getfield 171, 3) := by decide +kernel
theorem dX16_isSpace_16 : decode cX16_isSpace 16 = .ok (.if_icmp .ge 7, 3) := by decide +kernel
theorem dX16_isSpace_19 : decode cX16_isSpace 19 = .ok (.iconst 1, 1) := by decide +kernel
theorem dX16_isSpace_20 : decode cX16_isSpace 20 = .ok (.goto 4, 3) := by decide +kernel
theorem dX16_isAny_0 : decode cX16_isAny 0 = .ok (.aload_n 0, 1) := by decide +kernel
theorem dX16_isAny_1 : decode cX16_isAny 1 = .ok (.getfield 183, 3) := by decide +kernel
theorem dX16_isAny_4 : decode cX16_isAny 4 = .ok (.ifCond .eq 20, 3) := by decide +kernel
theorem dX16_isAny_24 : decode cX16_isAny 24 = .ok (.iconst 0, 1) := by decide +kernel
theorem dX16_isAny_25 : decode cX16_isAny 25 = .ok (.ireturn, 1) := by decide +kernel
theorem dX16_isAny_7 : decode cX16_isAny 7 = .ok (.iload_n 1, 1) := by decide +kernel
theorem dX16_isAny_8 : decode cX16_isAny 8 = .ok (.iconst (-1), 1) := by decide +kernel
theorem dX16_isAny_9 : decode cX16_isAny 9 = .ok (.if_icmp .lt 15, 3) := by decide +kernel
theorem dX16_isAny_12 : decode cX16_isAny 12 = .ok (.iload_n 1, 1) := by decide +kernel
theorem dX16_isAny_13 : decode cX16_isAny 13 = .ok (.aload_n 0, 1) := by decide +kernel
theorem dX16_isAny_14 : decode cX16_isAny 14 = .ok (.getfield 171, 3) := by decide +kernel
theorem dX16_isAny_17 : decode cX16_isAny 17 = .ok (.if_icmp .ge 7, 3) := by decide +kernel
theorem dX16_isAny_20 : decode cX16_isAny 20 = .ok (.iconst 1, 1) := by decide +kernel
theorem dX16_isAny_21 : decode cX16_isAny 21 = .ok (.goto 4, 3) := by decide +kernel
theorem dX16_outerSides_0 : decode cX16_outerSides 0 = .ok (.iconst 0, 1) := by decide +kernel
theorem dX16_outerSides_1 : decode cX16_outerSides 1 = .ok (.istore_n 1, 1) := by decide +kernel
theorem dX16_outerSides_2 : decode cX16_outerSides 2 = .ok (.iconst 0, 1) := by decide +kernel
theorem dX16_outerSides_3 : decode cX16_outerSides 3 = .ok (.istore_n 2, 1) := by decide +kernel
theorem dX16_outerSides_4 : decode cX16_outerSides 4 = .ok (.iload_n 2, 1) := by decide +kernel
theorem dX16_outerSides_5 : decode cX16_outerSides 5 = .ok (.iconst 2, 1) := by decide +kernel
theorem dX16_outerSides_6 : decode cX16_outerSides 6 = .ok (.aload_n 0, 1) := by decide +kernel
theorem dX16_outerSides_7 : decode cX16_outerSides 7 = .ok (.getfield 143, 3) := by decide +kernel
theorem dX16_outerSides_10 : decode cX16_outerSides 10 = .ok (.imul, 1) := by decide +kernel
theorem dX16_outerSides_11 : decode cX16_outerSides 11 = .ok (.if_icmp .ge 25, 3) := by decide +kernel
theorem dX16_outerSides_14 : decode cX16_outerSides 14 = .ok (.iload_n 1, 1) := by decide +kernel
theorem dX16_outerSides_15 : decode cX16_outerSides 15 = .ok (.aload_n 0, 1) := by decide +kernel
theorem dX16_outerSides_16 : decode cX16_outerSides 16 = .ok (.iload_n 2, 1) := by decide +kernel
theorem dX16_outerSides_17 : decode cX16_outerSides 17 = .ok (.invokevirtual 153, 3) := by decide +kernel
theorem dX16_outerSides_20 : decode cX16_outerSides 20 = .ok (.ifCond .ge 7, 3) := by decide +kernel
theorem dX16_outerSides_27 : decode cX16_outerSides 27 = .ok (.iconst 0, 1) := by decide +kernel
theorem dX16_outerSides_28 : decode cX16_outerSides 28 = .ok (.iadd, 1) := by decide +kernel
theorem dX16_outerSides_29 : decode cX16_outerSides 29 = .ok (.istore_n 1, 1) := by decide +kernel
theorem dX16_outerSides_30 : decode cX16_outerSides 30 = .ok (.iinc 2 1, 3) := by decide +kernel
theorem dX16_outerSides_33 : decode cX16_outerSides 33 = .ok (.goto (-29), 3) := by decide +kernel
theorem dX16_outerSides_23 : decode cX16_outerSides 23 = .ok (.iconst 1, 1) := by decide +kernel
theorem dX16_outerSides_24 : decode cX16_outerSides 24 = .ok (.goto 4, 3) := by decide +kernel
theorem dX16_outerSides_36 : decode cX16_outerSides 36 = .ok (.iload_n 1, 1) := by decide +kernel
theorem dX16_outerSides_37 : decode cX16_outerSides 37 = .ok (.ireturn, 1) := by decide +kernel
theorem dX16_ringsOf_0 : decode cX16_ringsOf 0 = .ok (.iconst 0, 1) := by decide +kernel
theorem dX16_ringsOf_1 : decode cX16_ringsOf 1 = .ok (.istore_n 2, 1) := by decide +kernel
theorem dX16_ringsOf_2 : decode cX16_ringsOf 2 = .ok (.iconst 0, 1) := by decide +kernel
theorem dX16_ringsOf_3 : decode cX16_ringsOf 3 = .ok (.istore_n 3, 1) := by decide +kernel
theorem dX16_ringsOf_4 : decode cX16_ringsOf 4 = .ok (.iload_n 3, 1) := by decide +kernel
theorem dX16_ringsOf_5 : decode cX16_ringsOf 5 = .ok (.aload_n 0, 1) := by decide +kernel
theorem dX16_ringsOf_6 : decode cX16_ringsOf 6 = .ok (.getfield 165, 3) := by decide +kernel
theorem dX16_ringsOf_9 : decode cX16_ringsOf 9 = .ok (.if_icmp .ge 31, 3) := by decide +kernel
theorem dX16_ringsOf_12 : decode cX16_ringsOf 12 = .ok (.iload_n 2, 1) := by decide +kernel
theorem dX16_ringsOf_13 : decode cX16_ringsOf 13 = .ok (.aload_n 0, 1) := by decide +kernel
theorem dX16_ringsOf_14 : decode cX16_ringsOf 14 = .ok (.aload_n 0, 1) := by decide +kernel
theorem dX16_ringsOf_15 : decode cX16_ringsOf 15 = .ok (.getfield 77, 3) := by decide +kernel
theorem dX16_ringsOf_18 : decode cX16_ringsOf 18 = .ok (.iload_n 3, 1) := by decide +kernel
theorem dX16_ringsOf_19 : decode cX16_ringsOf 19 = .ok (.iaload, 1) := by decide +kernel
theorem dX16_ringsOf_20 : decode cX16_ringsOf 20 = .ok (.invokevirtual 153, 3) := by decide +kernel
theorem dX16_ringsOf_23 : decode cX16_ringsOf 23 = .ok (.iload_n 1, 1) := by decide +kernel
theorem dX16_ringsOf_24 : decode cX16_ringsOf 24 = .ok (.if_icmp .ne 7, 3) := by decide +kernel
theorem dX16_ringsOf_31 : decode cX16_ringsOf 31 = .ok (.iconst 0, 1) := by decide +kernel
theorem dX16_ringsOf_32 : decode cX16_ringsOf 32 = .ok (.iadd, 1) := by decide +kernel
theorem dX16_ringsOf_33 : decode cX16_ringsOf 33 = .ok (.istore_n 2, 1) := by decide +kernel
theorem dX16_ringsOf_34 : decode cX16_ringsOf 34 = .ok (.iinc 3 1, 3) := by decide +kernel
theorem dX16_ringsOf_37 : decode cX16_ringsOf 37 = .ok (.goto (-33), 3) := by decide +kernel
theorem dX16_ringsOf_27 : decode cX16_ringsOf 27 = .ok (.iconst 1, 1) := by decide +kernel
theorem dX16_ringsOf_28 : decode cX16_ringsOf 28 = .ok (.goto 4, 3) := by decide +kernel
theorem dX16_ringsOf_40 : decode cX16_ringsOf 40 = .ok (.iload_n 2, 1) := by decide +kernel
theorem dX16_ringsOf_41 : decode cX16_ringsOf 41 = .ok (.ireturn, 1) := by decide +kernel
theorem dX16_ringOf_0 : decode cX16_ringOf 0 = .ok (.iload_n 2, 1) := by decide +kernel
theorem dX16_ringOf_1 : decode cX16_ringOf 1 = .ok (.istore_n 3, 1) := by decide +kernel
theorem dX16_ringOf_2 : decode cX16_ringOf 2 = .ok (.iconst 0, 1) := by decide +kernel
theorem dX16_ringOf_3 : decode cX16_ringOf 3 = .ok (.istore 4, 2) := by decide +kernel
theorem dX16_ringOf_5 : decode cX16_ringOf 5 = .ok (.iload 4, 2) := by decide +kernel
theorem dX16_ringOf_7 : decode cX16_ringOf 7 = .ok (.aload_n 0, 1) := by decide +kernel
theorem dX16_ringOf_8 : decode cX16_ringOf 8 = .ok (.getfield 165, 3) := by decide +kernel
theorem dX16_ringOf_11 : decode cX16_ringOf 11 = .ok (.if_icmp .ge 46, 3) := by decide +kernel
theorem dX16_ringOf_14 : decode cX16_ringOf 14 = .ok (.aload_n 0, 1) := by decide +kernel
theorem dX16_ringOf_15 : decode cX16_ringOf 15 = .ok (.iload_n 1, 1) := by decide +kernel
theorem dX16_ringOf_16 : decode cX16_ringOf 16 = .ok (.invokevirtual 221, 3) := by decide +kernel
theorem dX16_ringOf_19 : decode cX16_ringOf 19 = .ok (.ifCond .eq 38, 3) := by decide +kernel
theorem dX16_ringOf_22 : decode cX16_ringOf 22 = .ok (.iload_n 2, 1) := by decide +kernel
theorem dX16_ringOf_23 : decode cX16_ringOf 23 = .ok (.ifCond .lt 34, 3) := by decide +kernel
theorem dX16_ringOf_26 : decode cX16_ringOf 26 = .ok (.aload_n 0, 1) := by decide +kernel
theorem dX16_ringOf_27 : decode cX16_ringOf 27 = .ok (.aload_n 0, 1) := by decide +kernel
theorem dX16_ringOf_28 : decode cX16_ringOf 28 = .ok (.getfield 77, 3) := by decide +kernel
theorem dX16_ringOf_31 : decode cX16_ringOf 31 = .ok (.iload 4, 2) := by decide +kernel
theorem dX16_ringOf_33 : decode cX16_ringOf 33 = .ok (.iaload, 1) := by decide +kernel
theorem dX16_ringOf_34 : decode cX16_ringOf 34 = .ok (.invokevirtual 153, 3) := by decide +kernel
theorem dX16_ringOf_37 : decode cX16_ringOf 37 = .ok (.iload_n 1, 1) := by decide +kernel
theorem dX16_ringOf_38 : decode cX16_ringOf 38 = .ok (.if_icmp .ne 13, 3) := by decide +kernel
theorem dX16_ringOf_51 : decode cX16_ringOf 51 = .ok (.iinc 4 1, 3) := by decide +kernel
theorem dX16_ringOf_54 : decode cX16_ringOf 54 = .ok (.goto (-49), 3) := by decide +kernel
theorem dX16_ringOf_41 : decode cX16_ringOf 41 = .ok (.iload_n 3, 1) := by decide +kernel
theorem dX16_ringOf_42 : decode cX16_ringOf 42 = .ok (.ifCond .ne 6, 3) := by decide +kernel
theorem dX16_ringOf_48 : decode cX16_ringOf 48 = .ok (.iinc 3 (-1), 3) := by decide +kernel
theorem dX16_ringOf_45 : decode cX16_ringOf 45 = .ok (.iload 4, 2) := by decide +kernel
theorem dX16_ringOf_47 : decode cX16_ringOf 47 = .ok (.ireturn, 1) := by decide +kernel
theorem dX16_ringOf_57 : decode cX16_ringOf 57 = .ok (.iconst (-1), 1) := by decide +kernel
theorem dX16_ringOf_58 : decode cX16_ringOf 58 = .ok (.ireturn, 1) := by decide +kernel
theorem dX16_sides_0 : decode cX16_sides 0 = .ok (.aload_n 0, 1) := by decide +kernel
theorem dX16_sides_1 : decode cX16_sides 1 = .ok (.iload_n 1, 1) := by decide +kernel
theorem dX16_sides_2 : decode cX16_sides 2 = .ok (.iload_n 2, 1) := by decide +kernel
theorem dX16_sides_3 : decode cX16_sides 3 = .ok (.invokevirtual 224, 3) := by decide +kernel
theorem dX16_sides_6 : decode cX16_sides 6 = .ok (.istore_n 3, 1) := by decide +kernel
theorem dX16_sides_7 : decode cX16_sides 7 = .ok (.iload_n 3, 1) := by decide +kernel
theorem dX16_sides_8 : decode cX16_sides 8 = .ok (.ifCond .ge 7, 3) := by decide +kernel
theorem dX16_sides_15 : decode cX16_sides 15 = .ok (.aload_n 0, 1) := by decide +kernel
theorem dX16_sides_16 : decode cX16_sides 16 = .ok (.getfield 80, 3) := by decide +kernel
theorem dX16_sides_19 : decode cX16_sides 19 = .ok (.iload_n 3, 1) := by decide +kernel
theorem dX16_sides_20 : decode cX16_sides 20 = .ok (.iaload, 1) := by decide +kernel
theorem dX16_sides_21 : decode cX16_sides 21 = .ok (.ireturn, 1) := by decide +kernel
theorem dX16_sides_11 : decode cX16_sides 11 = .ok (.iconst 0, 1) := by decide +kernel
theorem dX16_sides_12 : decode cX16_sides 12 = .ok (.goto 9, 3) := by decide +kernel
theorem dX16_side_0 : decode cX16_side 0 = .ok (.aload_n 0, 1) := by decide +kernel
theorem dX16_side_1 : decode cX16_side 1 = .ok (.getfield 77, 3) := by decide +kernel
theorem dX16_side_4 : decode cX16_side 4 = .ok (.aload_n 0, 1) := by decide +kernel
theorem dX16_side_5 : decode cX16_side 5 = .ok (.iload_n 1, 1) := by decide +kernel
theorem dX16_side_6 : decode cX16_side 6 = .ok (.iload_n 2, 1) := by decide +kernel
theorem dX16_side_7 : decode cX16_side 7 = .ok (.invokevirtual 224, 3) := by decide +kernel
theorem dX16_side_10 : decode cX16_side 10 = .ok (.iaload, 1) := by decide +kernel
theorem dX16_side_11 : decode cX16_side 11 = .ok (.istore 5, 2) := by decide +kernel
theorem dX16_side_13 : decode cX16_side 13 = .ok (.iconst 0, 1) := by decide +kernel
theorem dX16_side_14 : decode cX16_side 14 = .ok (.istore 6, 2) := by decide +kernel
theorem dX16_side_16 : decode cX16_side 16 = .ok (.iload 6, 2) := by decide +kernel
theorem dX16_side_18 : decode cX16_side 18 = .ok (.iload_n 3, 1) := by decide +kernel
theorem dX16_side_19 : decode cX16_side 19 = .ok (.if_icmp .ge 17, 3) := by decide +kernel
theorem dX16_side_22 : decode cX16_side 22 = .ok (.aload_n 0, 1) := by decide +kernel
theorem dX16_side_23 : decode cX16_side 23 = .ok (.iload 5, 2) := by decide +kernel
theorem dX16_side_25 : decode cX16_side 25 = .ok (.invokevirtual 168, 3) := by decide +kernel
theorem dX16_side_28 : decode cX16_side 28 = .ok (.istore 5, 2) := by decide +kernel
theorem dX16_side_30 : decode cX16_side 30 = .ok (.iinc 6 1, 3) := by decide +kernel
theorem dX16_side_33 : decode cX16_side 33 = .ok (.goto (-17), 3) := by decide +kernel
theorem dX16_side_36 : decode cX16_side 36 = .ok (.iload 4, 2) := by decide +kernel
theorem dX16_side_38 : decode cX16_side 38 = .ok (.tableswitch 92 0 4 #[34, 44, 56, 68, 80], 34) := by decide +kernel
theorem dX16_side_130 : decode cX16_side 130 = .ok (.aload_n 0, 1) := by decide +kernel
theorem dX16_side_131 : decode cX16_side 131 = .ok (.iload 5, 2) := by decide +kernel
theorem dX16_side_133 : decode cX16_side 133 = .ok (.invokevirtual 227, 3) := by decide +kernel
theorem dX16_side_136 : decode cX16_side 136 = .ok (.ireturn, 1) := by decide +kernel
theorem dX16_side_72 : decode cX16_side 72 = .ok (.aload_n 0, 1) := by decide +kernel
theorem dX16_side_73 : decode cX16_side 73 = .ok (.getfield 65, 3) := by decide +kernel
theorem dX16_side_76 : decode cX16_side 76 = .ok (.iload 5, 2) := by decide +kernel
theorem dX16_side_78 : decode cX16_side 78 = .ok (.iconst 2, 1) := by decide +kernel
theorem dX16_side_79 : decode cX16_side 79 = .ok (.idiv, 1) := by decide +kernel
theorem dX16_side_80 : decode cX16_side 80 = .ok (.iaload, 1) := by decide +kernel
theorem dX16_side_81 : decode cX16_side 81 = .ok (.ireturn, 1) := by decide +kernel
theorem dX16_side_82 : decode cX16_side 82 = .ok (.aload_n 0, 1) := by decide +kernel
theorem dX16_side_83 : decode cX16_side 83 = .ok (.getfield 59, 3) := by decide +kernel
theorem dX16_side_86 : decode cX16_side 86 = .ok (.aload_n 0, 1) := by decide +kernel
theorem dX16_side_87 : decode cX16_side 87 = .ok (.iload 5, 2) := by decide +kernel
theorem dX16_side_89 : decode cX16_side 89 = .ok (.invokevirtual 156, 3) := by decide +kernel
theorem dX16_side_92 : decode cX16_side 92 = .ok (.iaload, 1) := by decide +kernel
theorem dX16_side_93 : decode cX16_side 93 = .ok (.ireturn, 1) := by decide +kernel
theorem dX16_side_94 : decode cX16_side 94 = .ok (.aload_n 0, 1) := by decide +kernel
theorem dX16_side_95 : decode cX16_side 95 = .ok (.getfield 62, 3) := by decide +kernel
theorem dX16_side_98 : decode cX16_side 98 = .ok (.aload_n 0, 1) := by decide +kernel
theorem dX16_side_99 : decode cX16_side 99 = .ok (.iload 5, 2) := by decide +kernel
theorem dX16_side_101 : decode cX16_side 101 = .ok (.invokevirtual 156, 3) := by decide +kernel
theorem dX16_side_104 : decode cX16_side 104 = .ok (.iaload, 1) := by decide +kernel
theorem dX16_side_105 : decode cX16_side 105 = .ok (.ireturn, 1) := by decide +kernel
theorem dX16_side_106 : decode cX16_side 106 = .ok (.aload_n 0, 1) := by decide +kernel
theorem dX16_side_107 : decode cX16_side 107 = .ok (.getfield 59, 3) := by decide +kernel
theorem dX16_side_110 : decode cX16_side 110 = .ok (.aload_n 0, 1) := by decide +kernel
theorem dX16_side_111 : decode cX16_side 111 = .ok (.iload 5, 2) := by decide +kernel
theorem dX16_side_113 : decode cX16_side 113 = .ok (.invokevirtual 159, 3) := by decide +kernel
theorem dX16_side_116 : decode cX16_side 116 = .ok (.iaload, 1) := by decide +kernel
theorem dX16_side_117 : decode cX16_side 117 = .ok (.ireturn, 1) := by decide +kernel
theorem dX16_side_118 : decode cX16_side 118 = .ok (.aload_n 0, 1) := by decide +kernel
theorem dX16_side_119 : decode cX16_side 119 = .ok (.getfield 62, 3) := by decide +kernel
theorem dX16_side_122 : decode cX16_side 122 = .ok (.aload_n 0, 1) := by decide +kernel
theorem dX16_side_123 : decode cX16_side 123 = .ok (.iload 5, 2) := by decide +kernel
theorem dX16_side_125 : decode cX16_side 125 = .ok (.invokevirtual 159, 3) := by decide +kernel
theorem dX16_side_128 : decode cX16_side 128 = .ok (.iaload, 1) := by decide +kernel
theorem dX16_side_129 : decode cX16_side 129 = .ok (.ireturn, 1) := by decide +kernel
theorem dX16_size_0 : decode cX16_size 0 = .ok (.iconst 0, 1) := by decide +kernel
theorem dX16_size_1 : decode cX16_size 1 = .ok (.istore_n 3, 1) := by decide +kernel
theorem dX16_size_2 : decode cX16_size 2 = .ok (.iconst 1, 1) := by decide +kernel
theorem dX16_size_3 : decode cX16_size 3 = .ok (.istore 4, 2) := by decide +kernel
theorem dX16_size_5 : decode cX16_size 5 = .ok (.iload 4, 2) := by decide +kernel
theorem dX16_size_7 : decode cX16_size 7 = .ok (.aload_n 0, 1) := by decide +kernel
theorem dX16_size_8 : decode cX16_size 8 = .ok (.getfield 115, 3) := by decide +kernel
theorem dX16_size_11 : decode cX16_size 11 = .ok (.if_icmp .ge 86, 3) := by decide +kernel
theorem dX16_size_14 : decode cX16_size 14 = .ok (.iconst 1, 1) := by decide +kernel
theorem dX16_size_15 : decode cX16_size 15 = .ok (.istore 5, 2) := by decide +kernel
theorem dX16_size_17 : decode cX16_size 17 = .ok (.iload 5, 2) := by decide +kernel
theorem dX16_size_19 : decode cX16_size 19 = .ok (.aload_n 0, 1) := by decide +kernel
theorem dX16_size_20 : decode cX16_size 20 = .ok (.getfield 118, 3) := by decide +kernel
theorem dX16_size_23 : decode cX16_size 23 = .ok (.if_icmp .ge 68, 3) := by decide +kernel
theorem dX16_size_26 : decode cX16_size 26 = .ok (.iload_n 3, 1) := by decide +kernel
theorem dX16_size_27 : decode cX16_size 27 = .ok (.aload_n 0, 1) := by decide +kernel
theorem dX16_size_28 : decode cX16_size 28 = .ok (.getfield 41, 3) := by decide +kernel
theorem dX16_size_31 : decode cX16_size 31 = .ok (.bipush 42, 2) := by decide +kernel
theorem dX16_size_33 : decode cX16_size 33 = .ok (.iload 4, 2) := by decide +kernel
theorem dX16_size_35 : decode cX16_size 35 = .ok (.imul, 1) := by decide +kernel
theorem dX16_size_36 : decode cX16_size 36 = .ok (.iload 5, 2) := by decide +kernel
theorem dX16_size_38 : decode cX16_size 38 = .ok (.iadd, 1) := by decide +kernel
theorem dX16_size_39 : decode cX16_size 39 = .ok (.iaload, 1) := by decide +kernel
theorem dX16_size_40 : decode cX16_size 40 = .ok (.iload_n 1, 1) := by decide +kernel
theorem dX16_size_41 : decode cX16_size 41 = .ok (.if_icmp .ne 41, 3) := by decide +kernel
theorem dX16_size_82 : decode cX16_size 82 = .ok (.iconst 0, 1) := by decide +kernel
theorem dX16_size_83 : decode cX16_size 83 = .ok (.iadd, 1) := by decide +kernel
theorem dX16_size_84 : decode cX16_size 84 = .ok (.istore_n 3, 1) := by decide +kernel
theorem dX16_size_85 : decode cX16_size 85 = .ok (.iinc 5 1, 3) := by decide +kernel
theorem dX16_size_88 : decode cX16_size 88 = .ok (.goto (-71), 3) := by decide +kernel
theorem dX16_size_44 : decode cX16_size 44 = .ok (.aload_n 0, 1) := by decide +kernel
theorem dX16_size_45 : decode cX16_size 45 = .ok (.getfield 35, 3) := by decide +kernel
theorem dX16_size_48 : decode cX16_size 48 = .ok (.iload 5, 2) := by decide +kernel
theorem dX16_size_50 : decode cX16_size 50 = .ok (.iaload, 1) := by decide +kernel
theorem dX16_size_51 : decode cX16_size 51 = .ok (.aload_n 0, 1) := by decide +kernel
theorem dX16_size_52 : decode cX16_size 52 = .ok (.getfield 35, 3) := by decide +kernel
theorem dX16_size_55 : decode cX16_size 55 = .ok (.iload 5, 2) := by decide +kernel
theorem dX16_size_57 : decode cX16_size 57 = .ok (.iconst 1, 1) := by decide +kernel
theorem dX16_size_58 : decode cX16_size 58 = .ok (.isub, 1) := by decide +kernel
theorem dX16_size_59 : decode cX16_size 59 = .ok (.iaload, 1) := by decide +kernel
theorem dX16_size_60 : decode cX16_size 60 = .ok (.isub, 1) := by decide +kernel
theorem dX16_size_61 : decode cX16_size 61 = .ok (.aload_n 0, 1) := by decide +kernel
theorem dX16_size_62 : decode cX16_size 62 = .ok (.getfield 38, 3) := by decide +kernel
theorem dX16_size_65 : decode cX16_size 65 = .ok (.iload 4, 2) := by decide +kernel
theorem dX16_size_67 : decode cX16_size 67 = .ok (.iaload, 1) := by decide +kernel
theorem dX16_size_68 : decode cX16_size 68 = .ok (.aload_n 0, 1) := by decide +kernel
theorem dX16_size_69 : decode cX16_size 69 = .ok (.getfield 38, 3) := by decide +kernel
theorem dX16_size_72 : decode cX16_size 72 = .ok (.iload 4, 2) := by decide +kernel
theorem dX16_size_74 : decode cX16_size 74 = .ok (.iconst 1, 1) := by decide +kernel
theorem dX16_size_75 : decode cX16_size 75 = .ok (.isub, 1) := by decide +kernel
theorem dX16_size_76 : decode cX16_size 76 = .ok (.iaload, 1) := by decide +kernel
theorem dX16_size_77 : decode cX16_size 77 = .ok (.isub, 1) := by decide +kernel
theorem dX16_size_78 : decode cX16_size 78 = .ok (.imul, 1) := by decide +kernel
theorem dX16_size_79 : decode cX16_size 79 = .ok (.goto 4, 3) := by decide +kernel
theorem dX16_size_91 : decode cX16_size 91 = .ok (.iinc 4 1, 3) := by decide +kernel
theorem dX16_size_94 : decode cX16_size 94 = .ok (.goto (-89), 3) := by decide +kernel
theorem dX16_size_97 : decode cX16_size 97 = .ok (.iconst 0, 1) := by decide +kernel
theorem dX16_size_98 : decode cX16_size 98 = .ok (.istore 4, 2) := by decide +kernel
theorem dX16_size_100 : decode cX16_size 100 = .ok (.iconst 0, 1) := by decide +kernel
theorem dX16_size_101 : decode cX16_size 101 = .ok (.istore 5, 2) := by decide +kernel
theorem dX16_size_103 : decode cX16_size 103 = .ok (.iload 5, 2) := by decide +kernel
theorem dX16_size_105 : decode cX16_size 105 = .ok (.iconst 2, 1) := by decide +kernel
theorem dX16_size_106 : decode cX16_size 106 = .ok (.aload_n 0, 1) := by decide +kernel
theorem dX16_size_107 : decode cX16_size 107 = .ok (.getfield 143, 3) := by decide +kernel
theorem dX16_size_110 : decode cX16_size 110 = .ok (.imul, 1) := by decide +kernel
theorem dX16_size_111 : decode cX16_size 111 = .ok (.if_icmp .ge 34, 3) := by decide +kernel
theorem dX16_size_114 : decode cX16_size 114 = .ok (.iload 4, 2) := by decide +kernel
theorem dX16_size_116 : decode cX16_size 116 = .ok (.aload_n 0, 1) := by decide +kernel
theorem dX16_size_117 : decode cX16_size 117 = .ok (.iload 5, 2) := by decide +kernel
theorem dX16_size_119 : decode cX16_size 119 = .ok (.invokevirtual 153, 3) := by decide +kernel
theorem dX16_size_122 : decode cX16_size 122 = .ok (.iload_n 1, 1) := by decide +kernel
theorem dX16_size_123 : decode cX16_size 123 = .ok (.if_icmp .ne 12, 3) := by decide +kernel
theorem dX16_size_135 : decode cX16_size 135 = .ok (.iconst 0, 1) := by decide +kernel
theorem dX16_size_136 : decode cX16_size 136 = .ok (.iadd, 1) := by decide +kernel
theorem dX16_size_137 : decode cX16_size 137 = .ok (.istore 4, 2) := by decide +kernel
theorem dX16_size_139 : decode cX16_size 139 = .ok (.iinc 5 1, 3) := by decide +kernel
theorem dX16_size_142 : decode cX16_size 142 = .ok (.goto (-39), 3) := by decide +kernel
theorem dX16_size_126 : decode cX16_size 126 = .ok (.aload_n 0, 1) := by decide +kernel
theorem dX16_size_127 : decode cX16_size 127 = .ok (.iload 5, 2) := by decide +kernel
theorem dX16_size_129 : decode cX16_size 129 = .ok (.invokevirtual 230, 3) := by decide +kernel
theorem dX16_size_132 : decode cX16_size 132 = .ok (.goto 4, 3) := by decide +kernel
theorem dX16_size_145 : decode cX16_size 145 = .ok (.iload_n 2, 1) := by decide +kernel
theorem dX16_size_146 : decode cX16_size 146 = .ok (.ifCond .ne 7, 3) := by decide +kernel
theorem dX16_size_153 : decode cX16_size 153 = .ok (.iload_n 2, 1) := by decide +kernel
theorem dX16_size_154 : decode cX16_size 154 = .ok (.iconst 1, 1) := by decide +kernel
theorem dX16_size_155 : decode cX16_size 155 = .ok (.if_icmp .ne 8, 3) := by decide +kernel
theorem dX16_size_163 : decode cX16_size 163 = .ok (.aload_n 0, 1) := by decide +kernel
theorem dX16_size_164 : decode cX16_size 164 = .ok (.iload_n 1, 1) := by decide +kernel
theorem dX16_size_165 : decode cX16_size 165 = .ok (.invokevirtual 233, 3) := by decide +kernel
theorem dX16_size_168 : decode cX16_size 168 = .ok (.ireturn, 1) := by decide +kernel
theorem dX16_size_158 : decode cX16_size 158 = .ok (.iload 4, 2) := by decide +kernel
theorem dX16_size_160 : decode cX16_size 160 = .ok (.goto 8, 3) := by decide +kernel
theorem dX16_size_149 : decode cX16_size 149 = .ok (.iload_n 3, 1) := by decide +kernel
theorem dX16_size_150 : decode cX16_size 150 = .ok (.goto 18, 3) := by decide +kernel
theorem dX16_at_0 : decode cX16_at 0 = .ok (.iconst 0, 1) := by decide +kernel
theorem dX16_at_1 : decode cX16_at 1 = .ok (.istore_n 3, 1) := by decide +kernel
theorem dX16_at_2 : decode cX16_at 2 = .ok (.iload_n 3, 1) := by decide +kernel
theorem dX16_at_3 : decode cX16_at 3 = .ok (.aload_n 0, 1) := by decide +kernel
theorem dX16_at_4 : decode cX16_at 4 = .ok (.getfield 118, 3) := by decide +kernel
theorem dX16_at_7 : decode cX16_at 7 = .ok (.if_icmp .ge 19, 3) := by decide +kernel
theorem dX16_at_10 : decode cX16_at 10 = .ok (.aload_n 0, 1) := by decide +kernel
theorem dX16_at_11 : decode cX16_at 11 = .ok (.getfield 35, 3) := by decide +kernel
theorem dX16_at_14 : decode cX16_at 14 = .ok (.iload_n 3, 1) := by decide +kernel
theorem dX16_at_15 : decode cX16_at 15 = .ok (.iaload, 1) := by decide +kernel
theorem dX16_at_16 : decode cX16_at 16 = .ok (.iload_n 1, 1) := by decide +kernel
theorem dX16_at_17 : decode cX16_at 17 = .ok (.if_icmp .gt 9, 3) := by decide +kernel
theorem dX16_at_20 : decode cX16_at 20 = .ok (.iinc 3 1, 3) := by decide +kernel
theorem dX16_at_23 : decode cX16_at 23 = .ok (.goto (-21), 3) := by decide +kernel
theorem dX16_at_26 : decode cX16_at 26 = .ok (.iconst 0, 1) := by decide +kernel
theorem dX16_at_27 : decode cX16_at 27 = .ok (.istore 4, 2) := by decide +kernel
theorem dX16_at_29 : decode cX16_at 29 = .ok (.iload 4, 2) := by decide +kernel
theorem dX16_at_31 : decode cX16_at 31 = .ok (.aload_n 0, 1) := by decide +kernel
theorem dX16_at_32 : decode cX16_at 32 = .ok (.getfield 115, 3) := by decide +kernel
theorem dX16_at_35 : decode cX16_at 35 = .ok (.if_icmp .ge 20, 3) := by decide +kernel
theorem dX16_at_38 : decode cX16_at 38 = .ok (.aload_n 0, 1) := by decide +kernel
theorem dX16_at_39 : decode cX16_at 39 = .ok (.getfield 38, 3) := by decide +kernel
theorem dX16_at_42 : decode cX16_at 42 = .ok (.iload 4, 2) := by decide +kernel
theorem dX16_at_44 : decode cX16_at 44 = .ok (.iaload, 1) := by decide +kernel
theorem dX16_at_45 : decode cX16_at 45 = .ok (.iload_n 2, 1) := by decide +kernel
theorem dX16_at_46 : decode cX16_at 46 = .ok (.if_icmp .gt 9, 3) := by decide +kernel
theorem dX16_at_49 : decode cX16_at 49 = .ok (.iinc 4 1, 3) := by decide +kernel
theorem dX16_at_52 : decode cX16_at 52 = .ok (.goto (-23), 3) := by decide +kernel
theorem dX16_at_55 : decode cX16_at 55 = .ok (.aload_n 0, 1) := by decide +kernel
theorem dX16_at_56 : decode cX16_at 56 = .ok (.getfield 41, 3) := by decide +kernel
theorem dX16_at_59 : decode cX16_at 59 = .ok (.bipush 42, 2) := by decide +kernel
theorem dX16_at_61 : decode cX16_at 61 = .ok (.iload 4, 2) := by decide +kernel
theorem dX16_at_63 : decode cX16_at 63 = .ok (.imul, 1) := by decide +kernel
theorem dX16_at_64 : decode cX16_at 64 = .ok (.iload_n 3, 1) := by decide +kernel
theorem dX16_at_65 : decode cX16_at 65 = .ok (.iadd, 1) := by decide +kernel
theorem dX16_at_66 : decode cX16_at 66 = .ok (.iaload, 1) := by decide +kernel
theorem dX16_at_67 : decode cX16_at 67 = .ok (.ireturn, 1) := by decide +kernel
theorem dX16_beside_0 : decode cX16_beside 0 = .ok (.iconst 0, 1) := by decide +kernel
theorem dX16_beside_1 : decode cX16_beside 1 = .ok (.istore_n 3, 1) := by decide +kernel
theorem dX16_beside_2 : decode cX16_beside 2 = .ok (.iconst 0, 1) := by decide +kernel
theorem dX16_beside_3 : decode cX16_beside 3 = .ok (.istore 4, 2) := by decide +kernel
theorem dX16_beside_5 : decode cX16_beside 5 = .ok (.iload 4, 2) := by decide +kernel
theorem dX16_beside_7 : decode cX16_beside 7 = .ok (.iconst 2, 1) := by decide +kernel
theorem dX16_beside_8 : decode cX16_beside 8 = .ok (.aload_n 0, 1) := by decide +kernel
theorem dX16_beside_9 : decode cX16_beside 9 = .ok (.getfield 143, 3) := by decide +kernel
theorem dX16_beside_12 : decode cX16_beside 12 = .ok (.imul, 1) := by decide +kernel
theorem dX16_beside_13 : decode cX16_beside 13 = .ok (.if_icmp .ge 42, 3) := by decide +kernel
theorem dX16_beside_16 : decode cX16_beside 16 = .ok (.iload_n 3, 1) := by decide +kernel
theorem dX16_beside_17 : decode cX16_beside 17 = .ok (.aload_n 0, 1) := by decide +kernel
theorem dX16_beside_18 : decode cX16_beside 18 = .ok (.iload 4, 2) := by decide +kernel
theorem dX16_beside_20 : decode cX16_beside 20 = .ok (.invokevirtual 153, 3) := by decide +kernel
theorem dX16_beside_23 : decode cX16_beside 23 = .ok (.iload_n 1, 1) := by decide +kernel
theorem dX16_beside_24 : decode cX16_beside 24 = .ok (.if_icmp .ne 22, 3) := by decide +kernel
theorem dX16_beside_46 : decode cX16_beside 46 = .ok (.iconst 0, 1) := by decide +kernel
theorem dX16_beside_47 : decode cX16_beside 47 = .ok (.iadd, 1) := by decide +kernel
theorem dX16_beside_48 : decode cX16_beside 48 = .ok (.istore_n 3, 1) := by decide +kernel
theorem dX16_beside_49 : decode cX16_beside 49 = .ok (.iinc 4 1, 3) := by decide +kernel
theorem dX16_beside_52 : decode cX16_beside 52 = .ok (.goto (-47), 3) := by decide +kernel
theorem dX16_beside_27 : decode cX16_beside 27 = .ok (.aload_n 0, 1) := by decide +kernel
theorem dX16_beside_28 : decode cX16_beside 28 = .ok (.iload 4, 2) := by decide +kernel
theorem dX16_beside_30 : decode cX16_beside 30 = .ok (.invokevirtual 227, 3) := by decide +kernel
theorem dX16_beside_33 : decode cX16_beside 33 = .ok (.iload_n 2, 1) := by decide +kernel
theorem dX16_beside_34 : decode cX16_beside 34 = .ok (.if_icmp .ne 12, 3) := by decide +kernel
theorem dX16_beside_37 : decode cX16_beside 37 = .ok (.aload_n 0, 1) := by decide +kernel
theorem dX16_beside_38 : decode cX16_beside 38 = .ok (.iload 4, 2) := by decide +kernel
theorem dX16_beside_40 : decode cX16_beside 40 = .ok (.invokevirtual 230, 3) := by decide +kernel
theorem dX16_beside_43 : decode cX16_beside 43 = .ok (.goto 4, 3) := by decide +kernel
theorem dX16_beside_55 : decode cX16_beside 55 = .ok (.iload_n 3, 1) := by decide +kernel
theorem dX16_beside_56 : decode cX16_beside 56 = .ok (.ireturn, 1) := by decide +kernel
theorem dX16_hasDoor_0 : decode cX16_hasDoor 0 = .ok (.aload_n 0, 1) := by decide +kernel
theorem dX16_hasDoor_1 : decode cX16_hasDoor 1 = .ok (.getfield 65, 3) := by decide +kernel
theorem dX16_hasDoor_4 : decode cX16_hasDoor 4 = .ok (.iload_n 1, 1) := by decide +kernel
theorem dX16_hasDoor_5 : decode cX16_hasDoor 5 = .ok (.iconst 2, 1) := by decide +kernel
theorem dX16_hasDoor_6 : decode cX16_hasDoor 6 = .ok (.idiv, 1) := by decide +kernel
theorem dX16_hasDoor_7 : decode cX16_hasDoor 7 = .ok (.iaload, 1) := by decide +kernel
theorem dX16_hasDoor_8 : decode cX16_hasDoor 8 = .ok (.istore_n 2, 1) := by decide +kernel
theorem dX16_hasDoor_9 : decode cX16_hasDoor 9 = .ok (.aload_n 0, 1) := by decide +kernel
theorem dX16_hasDoor_10 : decode cX16_hasDoor 10 = .ok (.getfield 68, 3) := by decide +kernel
theorem dX16_hasDoor_13 : decode cX16_hasDoor 13 = .ok (.iload_n 1, 1) := by decide +kernel
theorem dX16_hasDoor_14 : decode cX16_hasDoor 14 = .ok (.iconst 2, 1) := by decide +kernel
theorem dX16_hasDoor_15 : decode cX16_hasDoor 15 = .ok (.idiv, 1) := by decide +kernel
theorem dX16_hasDoor_16 : decode cX16_hasDoor 16 = .ok (.iaload, 1) := by decide +kernel
theorem dX16_hasDoor_17 : decode cX16_hasDoor 17 = .ok (.istore_n 3, 1) := by decide +kernel
theorem dX16_hasDoor_18 : decode cX16_hasDoor 18 = .ok (.aload_n 0, 1) := by decide +kernel
theorem dX16_hasDoor_19 : decode cX16_hasDoor 19 = .ok (.getfield 59, 3) := by decide +kernel
theorem dX16_hasDoor_22 : decode cX16_hasDoor 22 = .ok (.iload_n 3, 1) := by decide +kernel
theorem dX16_hasDoor_23 : decode cX16_hasDoor 23 = .ok (.iaload, 1) := by decide +kernel
theorem dX16_hasDoor_24 : decode cX16_hasDoor 24 = .ok (.aload_n 0, 1) := by decide +kernel
theorem dX16_hasDoor_25 : decode cX16_hasDoor 25 = .ok (.getfield 7, 3) := by decide +kernel
theorem dX16_hasDoor_28 : decode cX16_hasDoor 28 = .ok (.iload_n 2, 1) := by decide +kernel
theorem dX16_hasDoor_29 : decode cX16_hasDoor 29 = .ok (.iaload, 1) := by decide +kernel
theorem dX16_hasDoor_30 : decode cX16_hasDoor 30 = .ok (.isub, 1) := by decide +kernel
theorem dX16_hasDoor_31 : decode cX16_hasDoor 31 = .ok (.aload_n 0, 1) := by decide +kernel
theorem dX16_hasDoor_32 : decode cX16_hasDoor 32 = .ok (.getfield 62, 3) := by decide +kernel
theorem dX16_hasDoor_35 : decode cX16_hasDoor 35 = .ok (.iload_n 3, 1) := by decide +kernel
theorem dX16_hasDoor_36 : decode cX16_hasDoor 36 = .ok (.iaload, 1) := by decide +kernel
theorem dX16_hasDoor_37 : decode cX16_hasDoor 37 = .ok (.iadd, 1) := by decide +kernel
theorem dX16_hasDoor_38 : decode cX16_hasDoor 38 = .ok (.aload_n 0, 1) := by decide +kernel
theorem dX16_hasDoor_39 : decode cX16_hasDoor 39 = .ok (.getfield 13, 3) := by decide +kernel
theorem dX16_hasDoor_42 : decode cX16_hasDoor 42 = .ok (.iload_n 2, 1) := by decide +kernel
theorem dX16_hasDoor_43 : decode cX16_hasDoor 43 = .ok (.iaload, 1) := by decide +kernel
theorem dX16_hasDoor_44 : decode cX16_hasDoor 44 = .ok (.isub, 1) := by decide +kernel
theorem dX16_hasDoor_45 : decode cX16_hasDoor 45 = .ok (.istore 4, 2) := by decide +kernel
theorem dX16_hasDoor_47 : decode cX16_hasDoor 47 = .ok (.iconst 0, 1) := by decide +kernel
theorem dX16_hasDoor_48 : decode cX16_hasDoor 48 = .ok (.istore 5, 2) := by decide +kernel
theorem dX16_hasDoor_50 : decode cX16_hasDoor 50 = .ok (.bipush 6, 2) := by decide +kernel
theorem dX16_hasDoor_52 : decode cX16_hasDoor 52 = .ok (.iload_n 2, 1) := by decide +kernel
theorem dX16_hasDoor_53 : decode cX16_hasDoor 53 = .ok (.imul, 1) := by decide +kernel
theorem dX16_hasDoor_54 : decode cX16_hasDoor 54 = .ok (.istore 6, 2) := by decide +kernel
theorem dX16_hasDoor_56 : decode cX16_hasDoor 56 = .ok (.iload 6, 2) := by decide +kernel
theorem dX16_hasDoor_58 : decode cX16_hasDoor 58 = .ok (.bipush 6, 2) := by decide +kernel
theorem dX16_hasDoor_60 : decode cX16_hasDoor 60 = .ok (.iload_n 2, 1) := by decide +kernel
theorem dX16_hasDoor_61 : decode cX16_hasDoor 61 = .ok (.imul, 1) := by decide +kernel
theorem dX16_hasDoor_62 : decode cX16_hasDoor 62 = .ok (.aload_n 0, 1) := by decide +kernel
theorem dX16_hasDoor_63 : decode cX16_hasDoor 63 = .ok (.getfield 23, 3) := by decide +kernel
theorem dX16_hasDoor_66 : decode cX16_hasDoor 66 = .ok (.iload_n 2, 1) := by decide +kernel
theorem dX16_hasDoor_67 : decode cX16_hasDoor 67 = .ok (.iaload, 1) := by decide +kernel
theorem dX16_hasDoor_68 : decode cX16_hasDoor 68 = .ok (.iadd, 1) := by decide +kernel
theorem dX16_hasDoor_69 : decode cX16_hasDoor 69 = .ok (.if_icmp .ge 51, 3) := by decide +kernel
theorem dX16_hasDoor_72 : decode cX16_hasDoor 72 = .ok (.iload 5, 2) := by decide +kernel
theorem dX16_hasDoor_74 : decode cX16_hasDoor 74 = .ok (.ifCond .ne 33, 3) := by decide +kernel
theorem dX16_hasDoor_107 : decode cX16_hasDoor 107 = .ok (.iconst 1, 1) := by decide +kernel
theorem dX16_hasDoor_108 : decode cX16_hasDoor 108 = .ok (.goto 4, 3) := by decide +kernel
theorem dX16_hasDoor_112 : decode cX16_hasDoor 112 = .ok (.istore 5, 2) := by decide +kernel
theorem dX16_hasDoor_114 : decode cX16_hasDoor 114 = .ok (.iinc 6 1, 3) := by decide +kernel
theorem dX16_hasDoor_117 : decode cX16_hasDoor 117 = .ok (.goto (-61), 3) := by decide +kernel
theorem dX16_hasDoor_77 : decode cX16_hasDoor 77 = .ok (.iload 4, 2) := by decide +kernel
theorem dX16_hasDoor_79 : decode cX16_hasDoor 79 = .ok (.iload 4, 2) := by decide +kernel
theorem dX16_hasDoor_81 : decode cX16_hasDoor 81 = .ok (.aload_n 0, 1) := by decide +kernel
theorem dX16_hasDoor_82 : decode cX16_hasDoor 82 = .ok (.iload_n 1, 1) := by decide +kernel
theorem dX16_hasDoor_83 : decode cX16_hasDoor 83 = .ok (.invokevirtual 230, 3) := by decide +kernel
theorem dX16_hasDoor_86 : decode cX16_hasDoor 86 = .ok (.iadd, 1) := by decide +kernel
theorem dX16_hasDoor_87 : decode cX16_hasDoor 87 = .ok (.aload_n 0, 1) := by decide +kernel
theorem dX16_hasDoor_88 : decode cX16_hasDoor 88 = .ok (.getfield 26, 3) := by decide +kernel
theorem dX16_hasDoor_91 : decode cX16_hasDoor 91 = .ok (.iload 6, 2) := by decide +kernel
theorem dX16_hasDoor_93 : decode cX16_hasDoor 93 = .ok (.iaload, 1) := by decide +kernel
theorem dX16_hasDoor_94 : decode cX16_hasDoor 94 = .ok (.aload_n 0, 1) := by decide +kernel
theorem dX16_hasDoor_95 : decode cX16_hasDoor 95 = .ok (.getfield 29, 3) := by decide +kernel
theorem dX16_hasDoor_98 : decode cX16_hasDoor 98 = .ok (.iload 6, 2) := by decide +kernel
theorem dX16_hasDoor_100 : decode cX16_hasDoor 100 = .ok (.iaload, 1) := by decide +kernel
theorem dX16_hasDoor_101 : decode cX16_hasDoor 101 = .ok (.invokestatic 214, 3) := by decide +kernel
theorem dX16_hasDoor_104 : decode cX16_hasDoor 104 = .ok (.ifCond .le 7, 3) := by decide +kernel
theorem dX16_hasDoor_111 : decode cX16_hasDoor 111 = .ok (.iconst 0, 1) := by decide +kernel
theorem dX16_hasDoor_120 : decode cX16_hasDoor 120 = .ok (.iload 5, 2) := by decide +kernel
theorem dX16_hasDoor_122 : decode cX16_hasDoor 122 = .ok (.ireturn, 1) := by decide +kernel
theorem dX16_between_0 : decode cX16_between 0 = .ok (.iload_n 1, 1) := by decide +kernel
theorem dX16_between_1 : decode cX16_between 1 = .ok (.iload_n 2, 1) := by decide +kernel
theorem dX16_between_2 : decode cX16_between 2 = .ok (.if_icmp .ne 14, 3) := by decide +kernel
theorem dX16_between_16 : decode cX16_between 16 = .ok (.aload_n 0, 1) := by decide +kernel
theorem dX16_between_17 : decode cX16_between 17 = .ok (.iload_n 1, 1) := by decide +kernel
theorem dX16_between_18 : decode cX16_between 18 = .ok (.iload_n 2, 1) := by decide +kernel
theorem dX16_between_19 : decode cX16_between 19 = .ok (.invokevirtual 236, 3) := by decide +kernel
theorem dX16_between_22 : decode cX16_between 22 = .ok (.ireturn, 1) := by decide +kernel
theorem dX16_between_5 : decode cX16_between 5 = .ok (.aload_n 0, 1) := by decide +kernel
theorem dX16_between_6 : decode cX16_between 6 = .ok (.iload_n 1, 1) := by decide +kernel
theorem dX16_between_7 : decode cX16_between 7 = .ok (.iload_n 1, 1) := by decide +kernel
theorem dX16_between_8 : decode cX16_between 8 = .ok (.invokevirtual 236, 3) := by decide +kernel
theorem dX16_between_11 : decode cX16_between 11 = .ok (.iconst 2, 1) := by decide +kernel
theorem dX16_between_12 : decode cX16_between 12 = .ok (.idiv, 1) := by decide +kernel
theorem dX16_between_13 : decode cX16_between 13 = .ok (.goto 9, 3) := by decide +kernel
theorem dX16_way_0 : decode cX16_way 0 = .ok (.iconst 0, 1) := by decide +kernel
theorem dX16_way_1 : decode cX16_way 1 = .ok (.istore_n 3, 1) := by decide +kernel
theorem dX16_way_2 : decode cX16_way 2 = .ok (.iload_n 3, 1) := by decide +kernel
theorem dX16_way_3 : decode cX16_way 3 = .ok (.aload_n 0, 1) := by decide +kernel
theorem dX16_way_4 : decode cX16_way 4 = .ok (.getfield 171, 3) := by decide +kernel
theorem dX16_way_7 : decode cX16_way 7 = .ok (.if_icmp .gt 29, 3) := by decide +kernel
theorem dX16_way_10 : decode cX16_way 10 = .ok (.aload_n 0, 1) := by decide +kernel
theorem dX16_way_11 : decode cX16_way 11 = .ok (.getfield 86, 3) := by decide +kernel
theorem dX16_way_14 : decode cX16_way 14 = .ok (.iload_n 3, 1) := by decide +kernel
theorem dX16_way_15 : decode cX16_way 15 = .ok (.iload_n 3, 1) := by decide +kernel
theorem dX16_way_16 : decode cX16_way 16 = .ok (.iload_n 1, 1) := by decide +kernel
theorem dX16_way_17 : decode cX16_way 17 = .ok (.iconst 1, 1) := by decide +kernel
theorem dX16_way_18 : decode cX16_way 18 = .ok (.iadd, 1) := by decide +kernel
theorem dX16_way_19 : decode cX16_way 19 = .ok (.if_icmp .ne 7, 3) := by decide +kernel
theorem dX16_way_26 : decode cX16_way 26 = .ok (.sipush 1000, 3) := by decide +kernel
theorem dX16_way_29 : decode cX16_way 29 = .ok (.iastore, 1) := by decide +kernel
theorem dX16_way_30 : decode cX16_way 30 = .ok (.iinc 3 1, 3) := by decide +kernel
theorem dX16_way_33 : decode cX16_way 33 = .ok (.goto (-31), 3) := by decide +kernel
theorem dX16_way_22 : decode cX16_way 22 = .ok (.iconst 0, 1) := by decide +kernel
theorem dX16_way_23 : decode cX16_way 23 = .ok (.goto 6, 3) := by decide +kernel
theorem dX16_way_36 : decode cX16_way 36 = .ok (.iconst 1, 1) := by decide +kernel
theorem dX16_way_37 : decode cX16_way 37 = .ok (.istore_n 3, 1) := by decide +kernel
theorem dX16_way_38 : decode cX16_way 38 = .ok (.iload_n 3, 1) := by decide +kernel
theorem dX16_way_39 : decode cX16_way 39 = .ok (.ifCond .eq 98, 3) := by decide +kernel
theorem dX16_way_42 : decode cX16_way 42 = .ok (.iconst 0, 1) := by decide +kernel
theorem dX16_way_43 : decode cX16_way 43 = .ok (.istore_n 3, 1) := by decide +kernel
theorem dX16_way_44 : decode cX16_way 44 = .ok (.iconst 0, 1) := by decide +kernel
theorem dX16_way_45 : decode cX16_way 45 = .ok (.istore 4, 2) := by decide +kernel
theorem dX16_way_47 : decode cX16_way 47 = .ok (.iload 4, 2) := by decide +kernel
theorem dX16_way_49 : decode cX16_way 49 = .ok (.iconst 2, 1) := by decide +kernel
theorem dX16_way_50 : decode cX16_way 50 = .ok (.aload_n 0, 1) := by decide +kernel
theorem dX16_way_51 : decode cX16_way 51 = .ok (.getfield 143, 3) := by decide +kernel
theorem dX16_way_54 : decode cX16_way 54 = .ok (.imul, 1) := by decide +kernel
theorem dX16_way_55 : decode cX16_way 55 = .ok (.if_icmp .ge 79, 3) := by decide +kernel
theorem dX16_way_58 : decode cX16_way 58 = .ok (.aload_n 0, 1) := by decide +kernel
theorem dX16_way_59 : decode cX16_way 59 = .ok (.iload 4, 2) := by decide +kernel
theorem dX16_way_61 : decode cX16_way 61 = .ok (.invokevirtual 239, 3) := by decide +kernel
theorem dX16_way_64 : decode cX16_way 64 = .ok (.ifCond .eq 64, 3) := by decide +kernel
theorem dX16_way_128 : decode cX16_way 128 = .ok (.iinc 4 1, 3) := by decide +kernel
theorem dX16_way_131 : decode cX16_way 131 = .ok (.goto (-84), 3) := by decide +kernel
theorem dX16_way_67 : decode cX16_way 67 = .ok (.aload_n 0, 1) := by decide +kernel
theorem dX16_way_68 : decode cX16_way 68 = .ok (.getfield 86, 3) := by decide +kernel
theorem dX16_way_71 : decode cX16_way 71 = .ok (.aload_n 0, 1) := by decide +kernel
theorem dX16_way_72 : decode cX16_way 72 = .ok (.iload 4, 2) := by decide +kernel
theorem dX16_way_74 : decode cX16_way 74 = .ok (.invokevirtual 153, 3) := by decide +kernel
theorem dX16_way_77 : decode cX16_way 77 = .ok (.iconst 1, 1) := by decide +kernel
theorem dX16_way_78 : decode cX16_way 78 = .ok (.iadd, 1) := by decide +kernel
theorem dX16_way_79 : decode cX16_way 79 = .ok (.iaload, 1) := by decide +kernel
theorem dX16_way_80 : decode cX16_way 80 = .ok (.iconst 1, 1) := by decide +kernel
theorem dX16_way_81 : decode cX16_way 81 = .ok (.iadd, 1) := by decide +kernel
theorem dX16_way_82 : decode cX16_way 82 = .ok (.aload_n 0, 1) := by decide +kernel
theorem dX16_way_83 : decode cX16_way 83 = .ok (.getfield 86, 3) := by decide +kernel
theorem dX16_way_86 : decode cX16_way 86 = .ok (.aload_n 0, 1) := by decide +kernel
theorem dX16_way_87 : decode cX16_way 87 = .ok (.iload 4, 2) := by decide +kernel
theorem dX16_way_89 : decode cX16_way 89 = .ok (.invokevirtual 227, 3) := by decide +kernel
theorem dX16_way_92 : decode cX16_way 92 = .ok (.iconst 1, 1) := by decide +kernel
theorem dX16_way_93 : decode cX16_way 93 = .ok (.iadd, 1) := by decide +kernel
theorem dX16_way_94 : decode cX16_way 94 = .ok (.iaload, 1) := by decide +kernel
theorem dX16_way_95 : decode cX16_way 95 = .ok (.if_icmp .ge 33, 3) := by decide +kernel
theorem dX16_way_98 : decode cX16_way 98 = .ok (.aload_n 0, 1) := by decide +kernel
theorem dX16_way_99 : decode cX16_way 99 = .ok (.getfield 86, 3) := by decide +kernel
theorem dX16_way_102 : decode cX16_way 102 = .ok (.aload_n 0, 1) := by decide +kernel
theorem dX16_way_103 : decode cX16_way 103 = .ok (.iload 4, 2) := by decide +kernel
theorem dX16_way_105 : decode cX16_way 105 = .ok (.invokevirtual 227, 3) := by decide +kernel
theorem dX16_way_108 : decode cX16_way 108 = .ok (.iconst 1, 1) := by decide +kernel
theorem dX16_way_109 : decode cX16_way 109 = .ok (.iadd, 1) := by decide +kernel
theorem dX16_way_110 : decode cX16_way 110 = .ok (.aload_n 0, 1) := by decide +kernel
theorem dX16_way_111 : decode cX16_way 111 = .ok (.getfield 86, 3) := by decide +kernel
theorem dX16_way_114 : decode cX16_way 114 = .ok (.aload_n 0, 1) := by decide +kernel
theorem dX16_way_115 : decode cX16_way 115 = .ok (.iload 4, 2) := by decide +kernel
theorem dX16_way_117 : decode cX16_way 117 = .ok (.invokevirtual 153, 3) := by decide +kernel
theorem dX16_way_120 : decode cX16_way 120 = .ok (.iconst 1, 1) := by decide +kernel
theorem dX16_way_121 : decode cX16_way 121 = .ok (.iadd, 1) := by decide +kernel
theorem dX16_way_122 : decode cX16_way 122 = .ok (.iaload, 1) := by decide +kernel
theorem dX16_way_123 : decode cX16_way 123 = .ok (.iconst 1, 1) := by decide +kernel
theorem dX16_way_124 : decode cX16_way 124 = .ok (.iadd, 1) := by decide +kernel
theorem dX16_way_125 : decode cX16_way 125 = .ok (.iastore, 1) := by decide +kernel
theorem dX16_way_126 : decode cX16_way 126 = .ok (.iconst 1, 1) := by decide +kernel
theorem dX16_way_127 : decode cX16_way 127 = .ok (.istore_n 3, 1) := by decide +kernel
theorem dX16_way_134 : decode cX16_way 134 = .ok (.goto (-96), 3) := by decide +kernel
theorem dX16_way_137 : decode cX16_way 137 = .ok (.aload_n 0, 1) := by decide +kernel
theorem dX16_way_138 : decode cX16_way 138 = .ok (.getfield 86, 3) := by decide +kernel
theorem dX16_way_141 : decode cX16_way 141 = .ok (.iload_n 2, 1) := by decide +kernel
theorem dX16_way_142 : decode cX16_way 142 = .ok (.iconst 1, 1) := by decide +kernel
theorem dX16_way_143 : decode cX16_way 143 = .ok (.iadd, 1) := by decide +kernel
theorem dX16_way_144 : decode cX16_way 144 = .ok (.iaload, 1) := by decide +kernel
theorem dX16_way_145 : decode cX16_way 145 = .ok (.sipush 1000, 3) := by decide +kernel
theorem dX16_way_148 : decode cX16_way 148 = .ok (.if_icmp .ne 8, 3) := by decide +kernel
theorem dX16_way_156 : decode cX16_way 156 = .ok (.aload_n 0, 1) := by decide +kernel
theorem dX16_way_157 : decode cX16_way 157 = .ok (.getfield 86, 3) := by decide +kernel
theorem dX16_way_160 : decode cX16_way 160 = .ok (.iload_n 2, 1) := by decide +kernel
theorem dX16_way_161 : decode cX16_way 161 = .ok (.iconst 1, 1) := by decide +kernel
theorem dX16_way_162 : decode cX16_way 162 = .ok (.iadd, 1) := by decide +kernel
theorem dX16_way_163 : decode cX16_way 163 = .ok (.iaload, 1) := by decide +kernel
theorem dX16_way_164 : decode cX16_way 164 = .ok (.ireturn, 1) := by decide +kernel
theorem dX16_way_151 : decode cX16_way 151 = .ok (.bipush (-2), 2) := by decide +kernel
theorem dX16_way_153 : decode cX16_way 153 = .ok (.goto 11, 3) := by decide +kernel
theorem dX16_pieceOf_0 : decode cX16_pieceOf 0 = .ok (.iload_n 2, 1) := by decide +kernel
theorem dX16_pieceOf_1 : decode cX16_pieceOf 1 = .ok (.istore_n 3, 1) := by decide +kernel
theorem dX16_pieceOf_2 : decode cX16_pieceOf 2 = .ok (.iconst 0, 1) := by decide +kernel
theorem dX16_pieceOf_3 : decode cX16_pieceOf 3 = .ok (.istore 4, 2) := by decide +kernel
theorem dX16_pieceOf_5 : decode cX16_pieceOf 5 = .ok (.iload 4, 2) := by decide +kernel
theorem dX16_pieceOf_7 : decode cX16_pieceOf 7 = .ok (.aload_n 0, 1) := by decide +kernel
theorem dX16_pieceOf_8 : decode cX16_pieceOf 8 = .ok (.getfield 143, 3) := by decide +kernel
theorem dX16_pieceOf_11 : decode cX16_pieceOf 11 = .ok (.if_icmp .ge 30, 3) := by decide +kernel
theorem dX16_pieceOf_14 : decode cX16_pieceOf 14 = .ok (.aload_n 0, 1) := by decide +kernel
theorem dX16_pieceOf_15 : decode cX16_pieceOf 15 = .ok (.getfield 65, 3) := by decide +kernel
theorem dX16_pieceOf_18 : decode cX16_pieceOf 18 = .ok (.iload 4, 2) := by decide +kernel
theorem dX16_pieceOf_20 : decode cX16_pieceOf 20 = .ok (.iaload, 1) := by decide +kernel
theorem dX16_pieceOf_21 : decode cX16_pieceOf 21 = .ok (.iload_n 1, 1) := by decide +kernel
theorem dX16_pieceOf_22 : decode cX16_pieceOf 22 = .ok (.if_icmp .ne 13, 3) := by decide +kernel
theorem dX16_pieceOf_35 : decode cX16_pieceOf 35 = .ok (.iinc 4 1, 3) := by decide +kernel
theorem dX16_pieceOf_38 : decode cX16_pieceOf 38 = .ok (.goto (-33), 3) := by decide +kernel
theorem dX16_pieceOf_25 : decode cX16_pieceOf 25 = .ok (.iload_n 3, 1) := by decide +kernel
theorem dX16_pieceOf_26 : decode cX16_pieceOf 26 = .ok (.ifCond .ne 6, 3) := by decide +kernel
theorem dX16_pieceOf_32 : decode cX16_pieceOf 32 = .ok (.iinc 3 (-1), 3) := by decide +kernel
theorem dX16_pieceOf_29 : decode cX16_pieceOf 29 = .ok (.iload 4, 2) := by decide +kernel
theorem dX16_pieceOf_31 : decode cX16_pieceOf 31 = .ok (.ireturn, 1) := by decide +kernel
theorem dX16_pieceOf_41 : decode cX16_pieceOf 41 = .ok (.iconst (-1), 1) := by decide +kernel
theorem dX16_pieceOf_42 : decode cX16_pieceOf 42 = .ok (.ireturn, 1) := by decide +kernel
theorem dX16_low_0 : decode cX16_low 0 = .ok (.aload_n 0, 1) := by decide +kernel
theorem dX16_low_1 : decode cX16_low 1 = .ok (.getfield 65, 3) := by decide +kernel
theorem dX16_low_4 : decode cX16_low 4 = .ok (.iload_n 1, 1) := by decide +kernel
theorem dX16_low_5 : decode cX16_low 5 = .ok (.iaload, 1) := by decide +kernel
theorem dX16_low_6 : decode cX16_low 6 = .ok (.istore_n 2, 1) := by decide +kernel
theorem dX16_low_7 : decode cX16_low 7 = .ok (.aload_n 0, 1) := by decide +kernel
theorem dX16_low_8 : decode cX16_low 8 = .ok (.getfield 59, 3) := by decide +kernel
theorem dX16_low_11 : decode cX16_low 11 = .ok (.aload_n 0, 1) := by decide +kernel
theorem dX16_low_12 : decode cX16_low 12 = .ok (.getfield 68, 3) := by decide +kernel
theorem dX16_low_15 : decode cX16_low 15 = .ok (.iload_n 1, 1) := by decide +kernel
theorem dX16_low_16 : decode cX16_low 16 = .ok (.iaload, 1) := by decide +kernel
theorem dX16_low_17 : decode cX16_low 17 = .ok (.iaload, 1) := by decide +kernel
theorem dX16_low_18 : decode cX16_low 18 = .ok (.aload_n 0, 1) := by decide +kernel
theorem dX16_low_19 : decode cX16_low 19 = .ok (.getfield 7, 3) := by decide +kernel
theorem dX16_low_22 : decode cX16_low 22 = .ok (.iload_n 2, 1) := by decide +kernel
theorem dX16_low_23 : decode cX16_low 23 = .ok (.iaload, 1) := by decide +kernel
theorem dX16_low_24 : decode cX16_low 24 = .ok (.isub, 1) := by decide +kernel
theorem dX16_low_25 : decode cX16_low 25 = .ok (.aload_n 0, 1) := by decide +kernel
theorem dX16_low_26 : decode cX16_low 26 = .ok (.getfield 62, 3) := by decide +kernel
theorem dX16_low_29 : decode cX16_low 29 = .ok (.aload_n 0, 1) := by decide +kernel
theorem dX16_low_30 : decode cX16_low 30 = .ok (.getfield 68, 3) := by decide +kernel
theorem dX16_low_33 : decode cX16_low 33 = .ok (.iload_n 1, 1) := by decide +kernel
theorem dX16_low_34 : decode cX16_low 34 = .ok (.iaload, 1) := by decide +kernel
theorem dX16_low_35 : decode cX16_low 35 = .ok (.iaload, 1) := by decide +kernel
theorem dX16_low_36 : decode cX16_low 36 = .ok (.iadd, 1) := by decide +kernel
theorem dX16_low_37 : decode cX16_low 37 = .ok (.aload_n 0, 1) := by decide +kernel
theorem dX16_low_38 : decode cX16_low 38 = .ok (.getfield 13, 3) := by decide +kernel
theorem dX16_low_41 : decode cX16_low 41 = .ok (.iload_n 2, 1) := by decide +kernel
theorem dX16_low_42 : decode cX16_low 42 = .ok (.iaload, 1) := by decide +kernel
theorem dX16_low_43 : decode cX16_low 43 = .ok (.isub, 1) := by decide +kernel
theorem dX16_low_44 : decode cX16_low 44 = .ok (.ireturn, 1) := by decide +kernel
theorem dX16_partFrom_0 : decode cX16_partFrom 0 = .ok (.bipush 6, 2) := by decide +kernel
theorem dX16_partFrom_2 : decode cX16_partFrom 2 = .ok (.aload_n 0, 1) := by decide +kernel
theorem dX16_partFrom_3 : decode cX16_partFrom 3 = .ok (.getfield 65, 3) := by decide +kernel
theorem dX16_partFrom_6 : decode cX16_partFrom 6 = .ok (.iload_n 1, 1) := by decide +kernel
theorem dX16_partFrom_7 : decode cX16_partFrom 7 = .ok (.iaload, 1) := by decide +kernel
theorem dX16_partFrom_8 : decode cX16_partFrom 8 = .ok (.imul, 1) := by decide +kernel
theorem dX16_partFrom_9 : decode cX16_partFrom 9 = .ok (.iload_n 2, 1) := by decide +kernel
theorem dX16_partFrom_10 : decode cX16_partFrom 10 = .ok (.iadd, 1) := by decide +kernel
theorem dX16_partFrom_11 : decode cX16_partFrom 11 = .ok (.istore_n 3, 1) := by decide +kernel
theorem dX16_partFrom_12 : decode cX16_partFrom 12 = .ok (.aload_n 0, 1) := by decide +kernel
theorem dX16_partFrom_13 : decode cX16_partFrom 13 = .ok (.iload_n 1, 1) := by decide +kernel
theorem dX16_partFrom_14 : decode cX16_partFrom 14 = .ok (.invokevirtual 242, 3) := by decide +kernel
theorem dX16_partFrom_17 : decode cX16_partFrom 17 = .ok (.aload_n 0, 1) := by decide +kernel
theorem dX16_partFrom_18 : decode cX16_partFrom 18 = .ok (.iload_n 1, 1) := by decide +kernel
theorem dX16_partFrom_19 : decode cX16_partFrom 19 = .ok (.invokevirtual 242, 3) := by decide +kernel
theorem dX16_partFrom_22 : decode cX16_partFrom 22 = .ok (.aload_n 0, 1) := by decide +kernel
theorem dX16_partFrom_23 : decode cX16_partFrom 23 = .ok (.iconst 2, 1) := by decide +kernel
theorem dX16_partFrom_24 : decode cX16_partFrom 24 = .ok (.iload_n 1, 1) := by decide +kernel
theorem dX16_partFrom_25 : decode cX16_partFrom 25 = .ok (.imul, 1) := by decide +kernel
theorem dX16_partFrom_26 : decode cX16_partFrom 26 = .ok (.invokevirtual 230, 3) := by decide +kernel
theorem dX16_partFrom_29 : decode cX16_partFrom 29 = .ok (.iadd, 1) := by decide +kernel
theorem dX16_partFrom_30 : decode cX16_partFrom 30 = .ok (.aload_n 0, 1) := by decide +kernel
theorem dX16_partFrom_31 : decode cX16_partFrom 31 = .ok (.getfield 26, 3) := by decide +kernel
theorem dX16_partFrom_34 : decode cX16_partFrom 34 = .ok (.iload_n 3, 1) := by decide +kernel
theorem dX16_partFrom_35 : decode cX16_partFrom 35 = .ok (.iaload, 1) := by decide +kernel
theorem dX16_partFrom_36 : decode cX16_partFrom 36 = .ok (.aload_n 0, 1) := by decide +kernel
theorem dX16_partFrom_37 : decode cX16_partFrom 37 = .ok (.getfield 29, 3) := by decide +kernel
theorem dX16_partFrom_40 : decode cX16_partFrom 40 = .ok (.iload_n 3, 1) := by decide +kernel
theorem dX16_partFrom_41 : decode cX16_partFrom 41 = .ok (.iaload, 1) := by decide +kernel
theorem dX16_partFrom_42 : decode cX16_partFrom 42 = .ok (.invokestatic 214, 3) := by decide +kernel
theorem dX16_partFrom_45 : decode cX16_partFrom 45 = .ok (.ifCond .le 7, 3) := by decide +kernel
theorem dX16_partFrom_52 : decode cX16_partFrom 52 = .ok (.iconst 0, 1) := by decide +kernel
theorem dX16_partFrom_53 : decode cX16_partFrom 53 = .ok (.istore 4, 2) := by decide +kernel
theorem dX16_partFrom_55 : decode cX16_partFrom 55 = .ok (.iload 4, 2) := by decide +kernel
theorem dX16_partFrom_57 : decode cX16_partFrom 57 = .ok (.ifCond .ne 7, 3) := by decide +kernel
theorem dX16_partFrom_64 : decode cX16_partFrom 64 = .ok (.aload_n 0, 1) := by decide +kernel
theorem dX16_partFrom_65 : decode cX16_partFrom 65 = .ok (.iload_n 1, 1) := by decide +kernel
theorem dX16_partFrom_66 : decode cX16_partFrom 66 = .ok (.invokevirtual 242, 3) := by decide +kernel
theorem dX16_partFrom_69 : decode cX16_partFrom 69 = .ok (.aload_n 0, 1) := by decide +kernel
theorem dX16_partFrom_70 : decode cX16_partFrom 70 = .ok (.getfield 26, 3) := by decide +kernel
theorem dX16_partFrom_73 : decode cX16_partFrom 73 = .ok (.iload_n 3, 1) := by decide +kernel
theorem dX16_partFrom_74 : decode cX16_partFrom 74 = .ok (.iaload, 1) := by decide +kernel
theorem dX16_partFrom_75 : decode cX16_partFrom 75 = .ok (.if_icmp .le 11, 3) := by decide +kernel
theorem dX16_partFrom_86 : decode cX16_partFrom 86 = .ok (.aload_n 0, 1) := by decide +kernel
theorem dX16_partFrom_87 : decode cX16_partFrom 87 = .ok (.getfield 26, 3) := by decide +kernel
theorem dX16_partFrom_90 : decode cX16_partFrom 90 = .ok (.iload_n 3, 1) := by decide +kernel
theorem dX16_partFrom_91 : decode cX16_partFrom 91 = .ok (.iaload, 1) := by decide +kernel
theorem dX16_partFrom_92 : decode cX16_partFrom 92 = .ok (.ireturn, 1) := by decide +kernel
theorem dX16_partFrom_78 : decode cX16_partFrom 78 = .ok (.aload_n 0, 1) := by decide +kernel
theorem dX16_partFrom_79 : decode cX16_partFrom 79 = .ok (.iload_n 1, 1) := by decide +kernel
theorem dX16_partFrom_80 : decode cX16_partFrom 80 = .ok (.invokevirtual 242, 3) := by decide +kernel
theorem dX16_partFrom_83 : decode cX16_partFrom 83 = .ok (.goto 9, 3) := by decide +kernel
theorem dX16_partFrom_60 : decode cX16_partFrom 60 = .ok (.iconst (-1), 1) := by decide +kernel
theorem dX16_partFrom_61 : decode cX16_partFrom 61 = .ok (.goto 31, 3) := by decide +kernel
theorem dX16_partFrom_48 : decode cX16_partFrom 48 = .ok (.iconst 1, 1) := by decide +kernel
theorem dX16_partFrom_49 : decode cX16_partFrom 49 = .ok (.goto 4, 3) := by decide +kernel
theorem dX16_roomBeside_0 : decode cX16_roomBeside 0 = .ok (.iload_n 2, 1) := by decide +kernel
theorem dX16_roomBeside_1 : decode cX16_roomBeside 1 = .ok (.ifCond .eq 13, 3) := by decide +kernel
theorem dX16_roomBeside_14 : decode cX16_roomBeside 14 = .ok (.aload_n 0, 1) := by decide +kernel
theorem dX16_roomBeside_15 : decode cX16_roomBeside 15 = .ok (.iconst 2, 1) := by decide +kernel
theorem dX16_roomBeside_16 : decode cX16_roomBeside 16 = .ok (.iload_n 1, 1) := by decide +kernel
theorem dX16_roomBeside_17 : decode cX16_roomBeside 17 = .ok (.imul, 1) := by decide +kernel
theorem dX16_roomBeside_18 : decode cX16_roomBeside 18 = .ok (.invokevirtual 227, 3) := by decide +kernel
theorem dX16_roomBeside_21 : decode cX16_roomBeside 21 = .ok (.ireturn, 1) := by decide +kernel
theorem dX16_roomBeside_4 : decode cX16_roomBeside 4 = .ok (.aload_n 0, 1) := by decide +kernel
theorem dX16_roomBeside_5 : decode cX16_roomBeside 5 = .ok (.iconst 2, 1) := by decide +kernel
theorem dX16_roomBeside_6 : decode cX16_roomBeside 6 = .ok (.iload_n 1, 1) := by decide +kernel
theorem dX16_roomBeside_7 : decode cX16_roomBeside 7 = .ok (.imul, 1) := by decide +kernel
theorem dX16_roomBeside_8 : decode cX16_roomBeside 8 = .ok (.invokevirtual 153, 3) := by decide +kernel
theorem dX16_roomBeside_11 : decode cX16_roomBeside 11 = .ok (.goto 10, 3) := by decide +kernel
theorem dX16_cellAt_0 : decode cX16_cellAt 0 = .ok (.aload_n 0, 1) := by decide +kernel
theorem dX16_cellAt_1 : decode cX16_cellAt 1 = .ok (.getfield 16, 3) := by decide +kernel
theorem dX16_cellAt_4 : decode cX16_cellAt 4 = .ok (.iload_n 1, 1) := by decide +kernel
theorem dX16_cellAt_5 : decode cX16_cellAt 5 = .ok (.baload, 1) := by decide +kernel
theorem dX16_cellAt_6 : decode cX16_cellAt 6 = .ok (.ifCond .eq 36, 3) := by decide +kernel
theorem dX16_cellAt_42 : decode cX16_cellAt 42 = .ok (.iload 4, 2) := by decide +kernel
theorem dX16_cellAt_44 : decode cX16_cellAt 44 = .ok (.ifCond .eq 22, 3) := by decide +kernel
theorem dX16_cellAt_66 : decode cX16_cellAt 66 = .ok (.aload_n 0, 1) := by decide +kernel
theorem dX16_cellAt_67 : decode cX16_cellAt 67 = .ok (.getfield 13, 3) := by decide +kernel
theorem dX16_cellAt_70 : decode cX16_cellAt 70 = .ok (.iload_n 1, 1) := by decide +kernel
theorem dX16_cellAt_71 : decode cX16_cellAt 71 = .ok (.iaload, 1) := by decide +kernel
theorem dX16_cellAt_72 : decode cX16_cellAt 72 = .ok (.iload_n 2, 1) := by decide +kernel
theorem dX16_cellAt_73 : decode cX16_cellAt 73 = .ok (.iadd, 1) := by decide +kernel
theorem dX16_cellAt_74 : decode cX16_cellAt 74 = .ok (.ireturn, 1) := by decide +kernel
theorem dX16_cellAt_47 : decode cX16_cellAt 47 = .ok (.aload_n 0, 1) := by decide +kernel
theorem dX16_cellAt_48 : decode cX16_cellAt 48 = .ok (.getfield 7, 3) := by decide +kernel
theorem dX16_cellAt_51 : decode cX16_cellAt 51 = .ok (.iload_n 1, 1) := by decide +kernel
theorem dX16_cellAt_52 : decode cX16_cellAt 52 = .ok (.iaload, 1) := by decide +kernel
theorem dX16_cellAt_53 : decode cX16_cellAt 53 = .ok (.iload_n 3, 1) := by decide +kernel
theorem dX16_cellAt_54 : decode cX16_cellAt 54 = .ok (.ifCond .eq 7, 3) := by decide +kernel
theorem dX16_cellAt_61 : decode cX16_cellAt 61 = .ok (.iconst 0, 1) := by decide +kernel
theorem dX16_cellAt_62 : decode cX16_cellAt 62 = .ok (.isub, 1) := by decide +kernel
theorem dX16_cellAt_63 : decode cX16_cellAt 63 = .ok (.goto 11, 3) := by decide +kernel
theorem dX16_cellAt_57 : decode cX16_cellAt 57 = .ok (.iconst 1, 1) := by decide +kernel
theorem dX16_cellAt_58 : decode cX16_cellAt 58 = .ok (.goto 4, 3) := by decide +kernel
theorem dX16_cellAt_9 : decode cX16_cellAt 9 = .ok (.iload 4, 2) := by decide +kernel
theorem dX16_cellAt_11 : decode cX16_cellAt 11 = .ok (.ifCond .eq 14, 3) := by decide +kernel
theorem dX16_cellAt_25 : decode cX16_cellAt 25 = .ok (.aload_n 0, 1) := by decide +kernel
theorem dX16_cellAt_26 : decode cX16_cellAt 26 = .ok (.getfield 13, 3) := by decide +kernel
theorem dX16_cellAt_29 : decode cX16_cellAt 29 = .ok (.iload_n 1, 1) := by decide +kernel
theorem dX16_cellAt_30 : decode cX16_cellAt 30 = .ok (.iaload, 1) := by decide +kernel
theorem dX16_cellAt_31 : decode cX16_cellAt 31 = .ok (.iload_n 3, 1) := by decide +kernel
theorem dX16_cellAt_32 : decode cX16_cellAt 32 = .ok (.ifCond .eq 7, 3) := by decide +kernel
theorem dX16_cellAt_39 : decode cX16_cellAt 39 = .ok (.iconst 1, 1) := by decide +kernel
theorem dX16_cellAt_40 : decode cX16_cellAt 40 = .ok (.isub, 1) := by decide +kernel
theorem dX16_cellAt_41 : decode cX16_cellAt 41 = .ok (.ireturn, 1) := by decide +kernel
theorem dX16_cellAt_35 : decode cX16_cellAt 35 = .ok (.iconst 0, 1) := by decide +kernel
theorem dX16_cellAt_36 : decode cX16_cellAt 36 = .ok (.goto 4, 3) := by decide +kernel
theorem dX16_cellAt_14 : decode cX16_cellAt 14 = .ok (.aload_n 0, 1) := by decide +kernel
theorem dX16_cellAt_15 : decode cX16_cellAt 15 = .ok (.getfield 7, 3) := by decide +kernel
theorem dX16_cellAt_18 : decode cX16_cellAt 18 = .ok (.iload_n 1, 1) := by decide +kernel
theorem dX16_cellAt_19 : decode cX16_cellAt 19 = .ok (.iaload, 1) := by decide +kernel
theorem dX16_cellAt_20 : decode cX16_cellAt 20 = .ok (.iload_n 2, 1) := by decide +kernel
theorem dX16_cellAt_21 : decode cX16_cellAt 21 = .ok (.iadd, 1) := by decide +kernel
theorem dX16_cellAt_22 : decode cX16_cellAt 22 = .ok (.goto 19, 3) := by decide +kernel
theorem dX16_lineBetween_0 : decode cX16_lineBetween 0 = .ok (.iconst (-1), 1) := by decide +kernel
theorem dX16_lineBetween_1 : decode cX16_lineBetween 1 = .ok (.istore 4, 2) := by decide +kernel
theorem dX16_lineBetween_3 : decode cX16_lineBetween 3 = .ok (.iconst 0, 1) := by decide +kernel
theorem dX16_lineBetween_4 : decode cX16_lineBetween 4 = .ok (.istore 5, 2) := by decide +kernel
theorem dX16_lineBetween_6 : decode cX16_lineBetween 6 = .ok (.iload 5, 2) := by decide +kernel
theorem dX16_lineBetween_8 : decode cX16_lineBetween 8 = .ok (.aload_n 0, 1) := by decide +kernel
theorem dX16_lineBetween_9 : decode cX16_lineBetween 9 = .ok (.getfield 96, 3) := by decide +kernel
theorem dX16_lineBetween_12 : decode cX16_lineBetween 12 = .ok (.if_icmp .ge 174, 3) := by decide +kernel
theorem dX16_lineBetween_15 : decode cX16_lineBetween 15 = .ok (.iload_n 3, 1) := by decide +kernel
theorem dX16_lineBetween_16 : decode cX16_lineBetween 16 = .ok (.iconst 2, 1) := by decide +kernel
theorem dX16_lineBetween_17 : decode cX16_lineBetween 17 = .ok (.if_icmp .ge 7, 3) := by decide +kernel
theorem dX16_lineBetween_24 : decode cX16_lineBetween 24 = .ok (.iconst 0, 1) := by decide +kernel
theorem dX16_lineBetween_25 : decode cX16_lineBetween 25 = .ok (.istore 6, 2) := by decide +kernel
theorem dX16_lineBetween_27 : decode cX16_lineBetween 27 = .ok (.iload_n 3, 1) := by decide +kernel
theorem dX16_lineBetween_28 : decode cX16_lineBetween 28 = .ok (.ifCond .ne 9, 3) := by decide +kernel
theorem dX16_lineBetween_37 : decode cX16_lineBetween 37 = .ok (.iload_n 3, 1) := by decide +kernel
theorem dX16_lineBetween_38 : decode cX16_lineBetween 38 = .ok (.iconst 1, 1) := by decide +kernel
theorem dX16_lineBetween_39 : decode cX16_lineBetween 39 = .ok (.if_icmp .ne 7, 3) := by decide +kernel
theorem dX16_lineBetween_46 : decode cX16_lineBetween 46 = .ok (.iload_n 3, 1) := by decide +kernel
theorem dX16_lineBetween_47 : decode cX16_lineBetween 47 = .ok (.iconst 2, 1) := by decide +kernel
theorem dX16_lineBetween_48 : decode cX16_lineBetween 48 = .ok (.if_icmp .ne 9, 3) := by decide +kernel
theorem dX16_lineBetween_57 : decode cX16_lineBetween 57 = .ok (.iload_n 2, 1) := by decide +kernel
theorem dX16_lineBetween_58 : decode cX16_lineBetween 58 = .ok (.istore 7, 2) := by decide +kernel
theorem dX16_lineBetween_60 : decode cX16_lineBetween 60 = .ok (.iload 6, 2) := by decide +kernel
theorem dX16_lineBetween_62 : decode cX16_lineBetween 62 = .ok (.ifCond .eq 54, 3) := by decide +kernel
theorem dX16_lineBetween_116 : decode cX16_lineBetween 116 = .ok (.aload_n 0, 1) := by decide +kernel
theorem dX16_lineBetween_117 : decode cX16_lineBetween 117 = .ok (.getfield 16, 3) := by decide +kernel
theorem dX16_lineBetween_120 : decode cX16_lineBetween 120 = .ok (.iload 5, 2) := by decide +kernel
theorem dX16_lineBetween_122 : decode cX16_lineBetween 122 = .ok (.baload, 1) := by decide +kernel
theorem dX16_lineBetween_123 : decode cX16_lineBetween 123 = .ok (.ifCond .eq 40, 3) := by decide +kernel
theorem dX16_lineBetween_163 : decode cX16_lineBetween 163 = .ok (.iconst 0, 1) := by decide +kernel
theorem dX16_lineBetween_164 : decode cX16_lineBetween 164 = .ok (.istore 8, 2) := by decide +kernel
theorem dX16_lineBetween_166 : decode cX16_lineBetween 166 = .ok (.iload 8, 2) := by decide +kernel
theorem dX16_lineBetween_168 : decode cX16_lineBetween 168 = .ok (.ifCond .eq 8, 3) := by decide +kernel
theorem dX16_lineBetween_176 : decode cX16_lineBetween 176 = .ok (.iload 4, 2) := by decide +kernel
theorem dX16_lineBetween_178 : decode cX16_lineBetween 178 = .ok (.istore 4, 2) := by decide +kernel
theorem dX16_lineBetween_180 : decode cX16_lineBetween 180 = .ok (.iinc 5 1, 3) := by decide +kernel
theorem dX16_lineBetween_183 : decode cX16_lineBetween 183 = .ok (.goto (-177), 3) := by decide +kernel
theorem dX16_lineBetween_171 : decode cX16_lineBetween 171 = .ok (.iload 5, 2) := by decide +kernel
theorem dX16_lineBetween_173 : decode cX16_lineBetween 173 = .ok (.goto 5, 3) := by decide +kernel
theorem dX16_lineBetween_126 : decode cX16_lineBetween 126 = .ok (.aload_n 0, 1) := by decide +kernel
theorem dX16_lineBetween_127 : decode cX16_lineBetween 127 = .ok (.getfield 13, 3) := by decide +kernel
theorem dX16_lineBetween_130 : decode cX16_lineBetween 130 = .ok (.iload 5, 2) := by decide +kernel
theorem dX16_lineBetween_132 : decode cX16_lineBetween 132 = .ok (.iaload, 1) := by decide +kernel
theorem dX16_lineBetween_133 : decode cX16_lineBetween 133 = .ok (.iload 7, 2) := by decide +kernel
theorem dX16_lineBetween_135 : decode cX16_lineBetween 135 = .ok (.if_icmp .ne 28, 3) := by decide +kernel
theorem dX16_lineBetween_138 : decode cX16_lineBetween 138 = .ok (.aload_n 0, 1) := by decide +kernel
theorem dX16_lineBetween_139 : decode cX16_lineBetween 139 = .ok (.getfield 7, 3) := by decide +kernel
theorem dX16_lineBetween_142 : decode cX16_lineBetween 142 = .ok (.iload 5, 2) := by decide +kernel
theorem dX16_lineBetween_144 : decode cX16_lineBetween 144 = .ok (.iaload, 1) := by decide +kernel
theorem dX16_lineBetween_145 : decode cX16_lineBetween 145 = .ok (.iload_n 1, 1) := by decide +kernel
theorem dX16_lineBetween_146 : decode cX16_lineBetween 146 = .ok (.if_icmp .gt 17, 3) := by decide +kernel
theorem dX16_lineBetween_149 : decode cX16_lineBetween 149 = .ok (.aload_n 0, 1) := by decide +kernel
theorem dX16_lineBetween_150 : decode cX16_lineBetween 150 = .ok (.iload 5, 2) := by decide +kernel
theorem dX16_lineBetween_152 : decode cX16_lineBetween 152 = .ok (.invokevirtual 89, 3) := by decide +kernel
theorem dX16_lineBetween_155 : decode cX16_lineBetween 155 = .ok (.iload_n 1, 1) := by decide +kernel
theorem dX16_lineBetween_156 : decode cX16_lineBetween 156 = .ok (.if_icmp .le 7, 3) := by decide +kernel
theorem dX16_lineBetween_159 : decode cX16_lineBetween 159 = .ok (.iconst 1, 1) := by decide +kernel
theorem dX16_lineBetween_160 : decode cX16_lineBetween 160 = .ok (.goto 4, 3) := by decide +kernel
theorem dX16_lineBetween_65 : decode cX16_lineBetween 65 = .ok (.aload_n 0, 1) := by decide +kernel
theorem dX16_lineBetween_66 : decode cX16_lineBetween 66 = .ok (.getfield 16, 3) := by decide +kernel
theorem dX16_lineBetween_69 : decode cX16_lineBetween 69 = .ok (.iload 5, 2) := by decide +kernel
theorem dX16_lineBetween_71 : decode cX16_lineBetween 71 = .ok (.baload, 1) := by decide +kernel
theorem dX16_lineBetween_72 : decode cX16_lineBetween 72 = .ok (.ifCond .ne 40, 3) := by decide +kernel
theorem dX16_lineBetween_112 : decode cX16_lineBetween 112 = .ok (.iconst 0, 1) := by decide +kernel
theorem dX16_lineBetween_113 : decode cX16_lineBetween 113 = .ok (.goto 51, 3) := by decide +kernel
theorem dX16_lineBetween_75 : decode cX16_lineBetween 75 = .ok (.aload_n 0, 1) := by decide +kernel
theorem dX16_lineBetween_76 : decode cX16_lineBetween 76 = .ok (.getfield 7, 3) := by decide +kernel
theorem dX16_lineBetween_79 : decode cX16_lineBetween 79 = .ok (.iload 5, 2) := by decide +kernel
theorem dX16_lineBetween_81 : decode cX16_lineBetween 81 = .ok (.iaload, 1) := by decide +kernel
theorem dX16_lineBetween_82 : decode cX16_lineBetween 82 = .ok (.iload 7, 2) := by decide +kernel
theorem dX16_lineBetween_84 : decode cX16_lineBetween 84 = .ok (.if_icmp .ne 28, 3) := by decide +kernel
theorem dX16_lineBetween_87 : decode cX16_lineBetween 87 = .ok (.aload_n 0, 1) := by decide +kernel
theorem dX16_lineBetween_88 : decode cX16_lineBetween 88 = .ok (.getfield 13, 3) := by decide +kernel
theorem dX16_lineBetween_91 : decode cX16_lineBetween 91 = .ok (.iload 5, 2) := by decide +kernel
theorem dX16_lineBetween_93 : decode cX16_lineBetween 93 = .ok (.iaload, 1) := by decide +kernel
theorem dX16_lineBetween_94 : decode cX16_lineBetween 94 = .ok (.iload_n 2, 1) := by decide +kernel
theorem dX16_lineBetween_95 : decode cX16_lineBetween 95 = .ok (.if_icmp .gt 17, 3) := by decide +kernel
theorem dX16_lineBetween_98 : decode cX16_lineBetween 98 = .ok (.aload_n 0, 1) := by decide +kernel
theorem dX16_lineBetween_99 : decode cX16_lineBetween 99 = .ok (.iload 5, 2) := by decide +kernel
theorem dX16_lineBetween_101 : decode cX16_lineBetween 101 = .ok (.invokevirtual 93, 3) := by decide +kernel
theorem dX16_lineBetween_104 : decode cX16_lineBetween 104 = .ok (.iload_n 2, 1) := by decide +kernel
theorem dX16_lineBetween_105 : decode cX16_lineBetween 105 = .ok (.if_icmp .le 7, 3) := by decide +kernel
theorem dX16_lineBetween_108 : decode cX16_lineBetween 108 = .ok (.iconst 1, 1) := by decide +kernel
theorem dX16_lineBetween_109 : decode cX16_lineBetween 109 = .ok (.goto 55, 3) := by decide +kernel
theorem dX16_lineBetween_51 : decode cX16_lineBetween 51 = .ok (.iload_n 2, 1) := by decide +kernel
theorem dX16_lineBetween_52 : decode cX16_lineBetween 52 = .ok (.iconst 1, 1) := by decide +kernel
theorem dX16_lineBetween_53 : decode cX16_lineBetween 53 = .ok (.iadd, 1) := by decide +kernel
theorem dX16_lineBetween_54 : decode cX16_lineBetween 54 = .ok (.goto 4, 3) := by decide +kernel
theorem dX16_lineBetween_42 : decode cX16_lineBetween 42 = .ok (.iload_n 1, 1) := by decide +kernel
theorem dX16_lineBetween_43 : decode cX16_lineBetween 43 = .ok (.goto 15, 3) := by decide +kernel
theorem dX16_lineBetween_31 : decode cX16_lineBetween 31 = .ok (.iload_n 1, 1) := by decide +kernel
theorem dX16_lineBetween_32 : decode cX16_lineBetween 32 = .ok (.iconst 1, 1) := by decide +kernel
theorem dX16_lineBetween_33 : decode cX16_lineBetween 33 = .ok (.iadd, 1) := by decide +kernel
theorem dX16_lineBetween_34 : decode cX16_lineBetween 34 = .ok (.goto 24, 3) := by decide +kernel
theorem dX16_lineBetween_20 : decode cX16_lineBetween 20 = .ok (.iconst 1, 1) := by decide +kernel
theorem dX16_lineBetween_21 : decode cX16_lineBetween 21 = .ok (.goto 4, 3) := by decide +kernel
theorem dX16_lineBetween_186 : decode cX16_lineBetween 186 = .ok (.iload 4, 2) := by decide +kernel
theorem dX16_lineBetween_188 : decode cX16_lineBetween 188 = .ok (.ireturn, 1) := by decide +kernel
theorem dX16_isThere_0 : decode cX16_isThere 0 = .ok (.aload_n 0, 1) := by decide +kernel
theorem dX16_isThere_1 : decode cX16_isThere 1 = .ok (.getfield 16, 3) := by decide +kernel
theorem dX16_isThere_4 : decode cX16_isThere 4 = .ok (.iload_n 1, 1) := by decide +kernel
theorem dX16_isThere_5 : decode cX16_isThere 5 = .ok (.baload, 1) := by decide +kernel
theorem dX16_isThere_6 : decode cX16_isThere 6 = .ok (.ifCond .eq 14, 3) := by decide +kernel
theorem dX16_isThere_20 : decode cX16_isThere 20 = .ok (.iload 4, 2) := by decide +kernel
theorem dX16_isThere_22 : decode cX16_isThere 22 = .ok (.aload_n 0, 1) := by decide +kernel
theorem dX16_isThere_23 : decode cX16_isThere 23 = .ok (.getfield 13, 3) := by decide +kernel
theorem dX16_isThere_26 : decode cX16_isThere 26 = .ok (.iload_n 1, 1) := by decide +kernel
theorem dX16_isThere_27 : decode cX16_isThere 27 = .ok (.iaload, 1) := by decide +kernel
theorem dX16_isThere_28 : decode cX16_isThere 28 = .ok (.isub, 1) := by decide +kernel
theorem dX16_isThere_29 : decode cX16_isThere 29 = .ok (.istore 5, 2) := by decide +kernel
theorem dX16_isThere_31 : decode cX16_isThere 31 = .ok (.aload_n 0, 1) := by decide +kernel
theorem dX16_isThere_32 : decode cX16_isThere 32 = .ok (.getfield 26, 3) := by decide +kernel
theorem dX16_isThere_35 : decode cX16_isThere 35 = .ok (.bipush 6, 2) := by decide +kernel
theorem dX16_isThere_37 : decode cX16_isThere 37 = .ok (.iload_n 1, 1) := by decide +kernel
theorem dX16_isThere_38 : decode cX16_isThere 38 = .ok (.imul, 1) := by decide +kernel
theorem dX16_isThere_39 : decode cX16_isThere 39 = .ok (.iload_n 2, 1) := by decide +kernel
theorem dX16_isThere_40 : decode cX16_isThere 40 = .ok (.iadd, 1) := by decide +kernel
theorem dX16_isThere_41 : decode cX16_isThere 41 = .ok (.iaload, 1) := by decide +kernel
theorem dX16_isThere_42 : decode cX16_isThere 42 = .ok (.iload 5, 2) := by decide +kernel
theorem dX16_isThere_44 : decode cX16_isThere 44 = .ok (.if_icmp .gt 23, 3) := by decide +kernel
theorem dX16_isThere_67 : decode cX16_isThere 67 = .ok (.iconst 0, 1) := by decide +kernel
theorem dX16_isThere_68 : decode cX16_isThere 68 = .ok (.ireturn, 1) := by decide +kernel
theorem dX16_isThere_47 : decode cX16_isThere 47 = .ok (.iload 5, 2) := by decide +kernel
theorem dX16_isThere_49 : decode cX16_isThere 49 = .ok (.aload_n 0, 1) := by decide +kernel
theorem dX16_isThere_50 : decode cX16_isThere 50 = .ok (.getfield 29, 3) := by decide +kernel
theorem dX16_isThere_53 : decode cX16_isThere 53 = .ok (.bipush 6, 2) := by decide +kernel
theorem dX16_isThere_55 : decode cX16_isThere 55 = .ok (.iload_n 1, 1) := by decide +kernel
theorem dX16_isThere_56 : decode cX16_isThere 56 = .ok (.imul, 1) := by decide +kernel
theorem dX16_isThere_57 : decode cX16_isThere 57 = .ok (.iload_n 2, 1) := by decide +kernel
theorem dX16_isThere_58 : decode cX16_isThere 58 = .ok (.iadd, 1) := by decide +kernel
theorem dX16_isThere_59 : decode cX16_isThere 59 = .ok (.iaload, 1) := by decide +kernel
theorem dX16_isThere_60 : decode cX16_isThere 60 = .ok (.if_icmp .ge 7, 3) := by decide +kernel
theorem dX16_isThere_63 : decode cX16_isThere 63 = .ok (.iconst 1, 1) := by decide +kernel
theorem dX16_isThere_64 : decode cX16_isThere 64 = .ok (.goto 4, 3) := by decide +kernel
theorem dX16_isThere_9 : decode cX16_isThere 9 = .ok (.iload_n 3, 1) := by decide +kernel
theorem dX16_isThere_10 : decode cX16_isThere 10 = .ok (.aload_n 0, 1) := by decide +kernel
theorem dX16_isThere_11 : decode cX16_isThere 11 = .ok (.getfield 7, 3) := by decide +kernel
theorem dX16_isThere_14 : decode cX16_isThere 14 = .ok (.iload_n 1, 1) := by decide +kernel
theorem dX16_isThere_15 : decode cX16_isThere 15 = .ok (.iaload, 1) := by decide +kernel
theorem dX16_isThere_16 : decode cX16_isThere 16 = .ok (.isub, 1) := by decide +kernel
theorem dX16_isThere_17 : decode cX16_isThere 17 = .ok (.goto 12, 3) := by decide +kernel
theorem dX17_inputs_0 : decode cX17_inputs 0 = .ok (.iload_n 0, 1) := by decide +kernel
theorem dX17_inputs_1 : decode cX17_inputs 1 = .ok (.iconst 2, 1) := by decide +kernel
theorem dX17_inputs_2 : decode cX17_inputs 2 = .ok (.if_icmp .lt 9, 3) := by decide +kernel
theorem dX17_inputs_11 : decode cX17_inputs 11 = .ok (.iconst 0, 1) := by decide +kernel
theorem dX17_inputs_12 : decode cX17_inputs 12 = .ok (.ireturn, 1) := by decide +kernel
theorem dX17_inputs_5 : decode cX17_inputs 5 = .ok (.iload_n 0, 1) := by decide +kernel
theorem dX17_inputs_6 : decode cX17_inputs 6 = .ok (.bipush 20, 2) := by decide +kernel
theorem dX17_inputs_8 : decode cX17_inputs 8 = .ok (.if_icmp .ne 5, 3) := by decide +kernel
theorem dX17_inputs_13 : decode cX17_inputs 13 = .ok (.iload_n 0, 1) := by decide +kernel
theorem dX17_inputs_14 : decode cX17_inputs 14 = .ok (.bipush 14, 2) := by decide +kernel
theorem dX17_inputs_16 : decode cX17_inputs 16 = .ok (.if_icmp .ne 5, 3) := by decide +kernel
theorem dX17_inputs_21 : decode cX17_inputs 21 = .ok (.iload_n 0, 1) := by decide +kernel
theorem dX17_inputs_22 : decode cX17_inputs 22 = .ok (.bipush 13, 2) := by decide +kernel
theorem dX17_inputs_24 : decode cX17_inputs 24 = .ok (.if_icmp .lt 27, 3) := by decide +kernel
theorem dX17_inputs_51 : decode cX17_inputs 51 = .ok (.iconst 2, 1) := by decide +kernel
theorem dX17_inputs_52 : decode cX17_inputs 52 = .ok (.goto 4, 3) := by decide +kernel
theorem dX17_inputs_56 : decode cX17_inputs 56 = .ok (.ireturn, 1) := by decide +kernel
theorem dX17_inputs_27 : decode cX17_inputs 27 = .ok (.iload_n 0, 1) := by decide +kernel
theorem dX17_inputs_28 : decode cX17_inputs 28 = .ok (.bipush 18, 2) := by decide +kernel
theorem dX17_inputs_30 : decode cX17_inputs 30 = .ok (.if_icmp .eq 21, 3) := by decide +kernel
theorem dX17_inputs_33 : decode cX17_inputs 33 = .ok (.iload_n 0, 1) := by decide +kernel
theorem dX17_inputs_34 : decode cX17_inputs 34 = .ok (.bipush 19, 2) := by decide +kernel
theorem dX17_inputs_36 : decode cX17_inputs 36 = .ok (.if_icmp .eq 15, 3) := by decide +kernel
theorem dX17_inputs_39 : decode cX17_inputs 39 = .ok (.iload_n 0, 1) := by decide +kernel
theorem dX17_inputs_40 : decode cX17_inputs 40 = .ok (.bipush 23, 2) := by decide +kernel
theorem dX17_inputs_42 : decode cX17_inputs 42 = .ok (.if_icmp .eq 9, 3) := by decide +kernel
theorem dX17_inputs_45 : decode cX17_inputs 45 = .ok (.iload_n 0, 1) := by decide +kernel
theorem dX17_inputs_46 : decode cX17_inputs 46 = .ok (.bipush 24, 2) := by decide +kernel
theorem dX17_inputs_48 : decode cX17_inputs 48 = .ok (.if_icmp .ne 7, 3) := by decide +kernel
theorem dX17_inputs_55 : decode cX17_inputs 55 = .ok (.iconst 1, 1) := by decide +kernel
theorem dX17_inputs_19 : decode cX17_inputs 19 = .ok (.iconst 3, 1) := by decide +kernel
theorem dX17_inputs_20 : decode cX17_inputs 20 = .ok (.ireturn, 1) := by decide +kernel
theorem dX17_mayCome_0 : decode cX17_mayCome 0 = .ok (.iconst 1, 1) := by decide +kernel
theorem dX17_mayCome_1 : decode cX17_mayCome 1 = .ok (.istore_n 2, 1) := by decide +kernel
theorem dX17_mayCome_2 : decode cX17_mayCome 2 = .ok (.iconst 0, 1) := by decide +kernel
theorem dX17_mayCome_3 : decode cX17_mayCome 3 = .ok (.istore_n 3, 1) := by decide +kernel
theorem dX17_mayCome_4 : decode cX17_mayCome 4 = .ok (.iload_n 3, 1) := by decide +kernel
theorem dX17_mayCome_5 : decode cX17_mayCome 5 = .ok (.aload_n 0, 1) := by decide +kernel
theorem dX17_mayCome_6 : decode cX17_mayCome 6 = .ok (.getfield 7, 3) := by decide +kernel
theorem dX17_mayCome_9 : decode cX17_mayCome 9 = .ok (.iload_n 1, 1) := by decide +kernel
theorem dX17_mayCome_10 : decode cX17_mayCome 10 = .ok (.iaload, 1) := by decide +kernel
theorem dX17_mayCome_11 : decode cX17_mayCome 11 = .ok (.invokestatic 59, 3) := by decide +kernel
theorem dX17_mayCome_14 : decode cX17_mayCome 14 = .ok (.if_icmp .ge 57, 3) := by decide +kernel
theorem dX17_mayCome_17 : decode cX17_mayCome 17 = .ok (.aload_n 0, 1) := by decide +kernel
theorem dX17_mayCome_18 : decode cX17_mayCome 18 = .ok (.getfield 7, 3) := by decide +kernel
theorem dX17_mayCome_21 : decode cX17_mayCome 21 = .ok (.iload_n 1, 1) := by decide +kernel
theorem dX17_mayCome_22 : decode cX17_mayCome 22 = .ok (.iaload, 1) := by decide +kernel
theorem dX17_mayCome_23 : decode cX17_mayCome 23 = .ok (.bipush 16, 2) := by decide +kernel
theorem dX17_mayCome_25 : decode cX17_mayCome 25 = .ok (.if_icmp .eq 46, 3) := by decide +kernel
theorem dX17_mayCome_28 : decode cX17_mayCome 28 = .ok (.aload_n 0, 1) := by decide +kernel
theorem dX17_mayCome_29 : decode cX17_mayCome 29 = .ok (.getfield 22, 3) := by decide +kernel
theorem dX17_mayCome_32 : decode cX17_mayCome 32 = .ok (.iconst 3, 1) := by decide +kernel
theorem dX17_mayCome_33 : decode cX17_mayCome 33 = .ok (.iload_n 1, 1) := by decide +kernel
theorem dX17_mayCome_34 : decode cX17_mayCome 34 = .ok (.imul, 1) := by decide +kernel
theorem dX17_mayCome_35 : decode cX17_mayCome 35 = .ok (.iload_n 3, 1) := by decide +kernel
theorem dX17_mayCome_36 : decode cX17_mayCome 36 = .ok (.iadd, 1) := by decide +kernel
theorem dX17_mayCome_37 : decode cX17_mayCome 37 = .ok (.iaload, 1) := by decide +kernel
theorem dX17_mayCome_38 : decode cX17_mayCome 38 = .ok (.istore 4, 2) := by decide +kernel
theorem dX17_mayCome_40 : decode cX17_mayCome 40 = .ok (.iload_n 2, 1) := by decide +kernel
theorem dX17_mayCome_41 : decode cX17_mayCome 41 = .ok (.ifCond .eq 22, 3) := by decide +kernel
theorem dX17_mayCome_63 : decode cX17_mayCome 63 = .ok (.iconst 0, 1) := by decide +kernel
theorem dX17_mayCome_64 : decode cX17_mayCome 64 = .ok (.istore_n 2, 1) := by decide +kernel
theorem dX17_mayCome_65 : decode cX17_mayCome 65 = .ok (.iinc 3 1, 3) := by decide +kernel
theorem dX17_mayCome_68 : decode cX17_mayCome 68 = .ok (.goto (-64), 3) := by decide +kernel
theorem dX17_mayCome_44 : decode cX17_mayCome 44 = .ok (.iload 4, 2) := by decide +kernel
theorem dX17_mayCome_46 : decode cX17_mayCome 46 = .ok (.ifCond .lt 13, 3) := by decide +kernel
theorem dX17_mayCome_59 : decode cX17_mayCome 59 = .ok (.iconst 1, 1) := by decide +kernel
theorem dX17_mayCome_60 : decode cX17_mayCome 60 = .ok (.goto 4, 3) := by decide +kernel
theorem dX17_mayCome_49 : decode cX17_mayCome 49 = .ok (.aload_n 0, 1) := by decide +kernel
theorem dX17_mayCome_50 : decode cX17_mayCome 50 = .ok (.getfield 53, 3) := by decide +kernel
theorem dX17_mayCome_53 : decode cX17_mayCome 53 = .ok (.iload 4, 2) := by decide +kernel
theorem dX17_mayCome_55 : decode cX17_mayCome 55 = .ok (.baload, 1) := by decide +kernel
theorem dX17_mayCome_56 : decode cX17_mayCome 56 = .ok (.ifCond .eq 7, 3) := by decide +kernel
theorem dX17_mayCome_71 : decode cX17_mayCome 71 = .ok (.iload_n 2, 1) := by decide +kernel
theorem dX17_mayCome_72 : decode cX17_mayCome 72 = .ok (.ireturn, 1) := by decide +kernel
theorem dX17_sort_0 : decode cX17_sort 0 = .ok (.iconst 0, 1) := by decide +kernel
theorem dX17_sort_1 : decode cX17_sort 1 = .ok (.istore_n 1, 1) := by decide +kernel
theorem dX17_sort_2 : decode cX17_sort 2 = .ok (.iload_n 1, 1) := by decide +kernel
theorem dX17_sort_3 : decode cX17_sort 3 = .ok (.aload_n 0, 1) := by decide +kernel
theorem dX17_sort_4 : decode cX17_sort 4 = .ok (.getfield 63, 3) := by decide +kernel
theorem dX17_sort_7 : decode cX17_sort 7 = .ok (.if_icmp .ge 16, 3) := by decide +kernel
theorem dX17_sort_10 : decode cX17_sort 10 = .ok (.aload_n 0, 1) := by decide +kernel
theorem dX17_sort_11 : decode cX17_sort 11 = .ok (.getfield 53, 3) := by decide +kernel
theorem dX17_sort_14 : decode cX17_sort 14 = .ok (.iload_n 1, 1) := by decide +kernel
theorem dX17_sort_15 : decode cX17_sort 15 = .ok (.iconst 0, 1) := by decide +kernel
theorem dX17_sort_16 : decode cX17_sort 16 = .ok (.bastore, 1) := by decide +kernel
theorem dX17_sort_17 : decode cX17_sort 17 = .ok (.iinc 1 1, 3) := by decide +kernel
theorem dX17_sort_20 : decode cX17_sort 20 = .ok (.goto (-18), 3) := by decide +kernel
theorem dX17_sort_23 : decode cX17_sort 23 = .ok (.iconst 0, 1) := by decide +kernel
theorem dX17_sort_24 : decode cX17_sort 24 = .ok (.istore_n 1, 1) := by decide +kernel
theorem dX17_sort_25 : decode cX17_sort 25 = .ok (.iconst 1, 1) := by decide +kernel
theorem dX17_sort_26 : decode cX17_sort 26 = .ok (.istore_n 2, 1) := by decide +kernel
theorem dX17_sort_27 : decode cX17_sort 27 = .ok (.iload_n 2, 1) := by decide +kernel
theorem dX17_sort_28 : decode cX17_sort 28 = .ok (.ifCond .eq 84, 3) := by decide +kernel
theorem dX17_sort_31 : decode cX17_sort 31 = .ok (.iconst (-1), 1) := by decide +kernel
theorem dX17_sort_32 : decode cX17_sort 32 = .ok (.istore_n 3, 1) := by decide +kernel
theorem dX17_sort_33 : decode cX17_sort 33 = .ok (.aload_n 0, 1) := by decide +kernel
theorem dX17_sort_34 : decode cX17_sort 34 = .ok (.getfield 63, 3) := by decide +kernel
theorem dX17_sort_37 : decode cX17_sort 37 = .ok (.iconst 1, 1) := by decide +kernel
theorem dX17_sort_38 : decode cX17_sort 38 = .ok (.isub, 1) := by decide +kernel
theorem dX17_sort_39 : decode cX17_sort 39 = .ok (.istore 4, 2) := by decide +kernel
theorem dX17_sort_41 : decode cX17_sort 41 = .ok (.iload 4, 2) := by decide +kernel
theorem dX17_sort_43 : decode cX17_sort 43 = .ok (.ifCond .lt 35, 3) := by decide +kernel
theorem dX17_sort_46 : decode cX17_sort 46 = .ok (.aload_n 0, 1) := by decide +kernel
theorem dX17_sort_47 : decode cX17_sort 47 = .ok (.getfield 53, 3) := by decide +kernel
theorem dX17_sort_50 : decode cX17_sort 50 = .ok (.iload 4, 2) := by decide +kernel
theorem dX17_sort_52 : decode cX17_sort 52 = .ok (.baload, 1) := by decide +kernel
theorem dX17_sort_53 : decode cX17_sort 53 = .ok (.ifCond .ne 17, 3) := by decide +kernel
theorem dX17_sort_70 : decode cX17_sort 70 = .ok (.iload_n 3, 1) := by decide +kernel
theorem dX17_sort_71 : decode cX17_sort 71 = .ok (.istore_n 3, 1) := by decide +kernel
theorem dX17_sort_72 : decode cX17_sort 72 = .ok (.iinc 4 (-1), 3) := by decide +kernel
theorem dX17_sort_75 : decode cX17_sort 75 = .ok (.goto (-34), 3) := by decide +kernel
theorem dX17_sort_56 : decode cX17_sort 56 = .ok (.aload_n 0, 1) := by decide +kernel
theorem dX17_sort_57 : decode cX17_sort 57 = .ok (.iload 4, 2) := by decide +kernel
theorem dX17_sort_59 : decode cX17_sort 59 = .ok (.invokevirtual 67, 3) := by decide +kernel
theorem dX17_sort_62 : decode cX17_sort 62 = .ok (.ifCond .eq 8, 3) := by decide +kernel
theorem dX17_sort_65 : decode cX17_sort 65 = .ok (.iload 4, 2) := by decide +kernel
theorem dX17_sort_67 : decode cX17_sort 67 = .ok (.goto 4, 3) := by decide +kernel
theorem dX17_sort_78 : decode cX17_sort 78 = .ok (.iload_n 3, 1) := by decide +kernel
theorem dX17_sort_79 : decode cX17_sort 79 = .ok (.ifCond .lt 7, 3) := by decide +kernel
theorem dX17_sort_86 : decode cX17_sort 86 = .ok (.iconst 0, 1) := by decide +kernel
theorem dX17_sort_87 : decode cX17_sort 87 = .ok (.istore_n 2, 1) := by decide +kernel
theorem dX17_sort_88 : decode cX17_sort 88 = .ok (.iload_n 2, 1) := by decide +kernel
theorem dX17_sort_89 : decode cX17_sort 89 = .ok (.ifCond .eq 20, 3) := by decide +kernel
theorem dX17_sort_109 : decode cX17_sort 109 = .ok (.goto (-82), 3) := by decide +kernel
theorem dX17_sort_92 : decode cX17_sort 92 = .ok (.aload_n 0, 1) := by decide +kernel
theorem dX17_sort_93 : decode cX17_sort 93 = .ok (.getfield 53, 3) := by decide +kernel
theorem dX17_sort_96 : decode cX17_sort 96 = .ok (.iload_n 3, 1) := by decide +kernel
theorem dX17_sort_97 : decode cX17_sort 97 = .ok (.iconst 1, 1) := by decide +kernel
theorem dX17_sort_98 : decode cX17_sort 98 = .ok (.bastore, 1) := by decide +kernel
theorem dX17_sort_99 : decode cX17_sort 99 = .ok (.aload_n 0, 1) := by decide +kernel
theorem dX17_sort_100 : decode cX17_sort 100 = .ok (.getfield 50, 3) := by decide +kernel
theorem dX17_sort_103 : decode cX17_sort 103 = .ok (.iload_n 1, 1) := by decide +kernel
theorem dX17_sort_104 : decode cX17_sort 104 = .ok (.iload_n 3, 1) := by decide +kernel
theorem dX17_sort_105 : decode cX17_sort 105 = .ok (.iastore, 1) := by decide +kernel
theorem dX17_sort_106 : decode cX17_sort 106 = .ok (.iinc 1 1, 3) := by decide +kernel
theorem dX17_sort_82 : decode cX17_sort 82 = .ok (.iconst 1, 1) := by decide +kernel
theorem dX17_sort_83 : decode cX17_sort 83 = .ok (.goto 4, 3) := by decide +kernel
theorem dX17_sort_112 : decode cX17_sort 112 = .ok (.iload_n 1, 1) := by decide +kernel
theorem dX17_sort_113 : decode cX17_sort 113 = .ok (.istore_n 3, 1) := by decide +kernel
theorem dX17_sort_114 : decode cX17_sort 114 = .ok (.iconst 0, 1) := by decide +kernel
theorem dX17_sort_115 : decode cX17_sort 115 = .ok (.istore 4, 2) := by decide +kernel
theorem dX17_sort_117 : decode cX17_sort 117 = .ok (.iload 4, 2) := by decide +kernel
theorem dX17_sort_119 : decode cX17_sort 119 = .ok (.aload_n 0, 1) := by decide +kernel
theorem dX17_sort_120 : decode cX17_sort 120 = .ok (.getfield 63, 3) := by decide +kernel
theorem dX17_sort_123 : decode cX17_sort 123 = .ok (.if_icmp .ge 30, 3) := by decide +kernel
theorem dX17_sort_126 : decode cX17_sort 126 = .ok (.aload_n 0, 1) := by decide +kernel
theorem dX17_sort_127 : decode cX17_sort 127 = .ok (.getfield 53, 3) := by decide +kernel
theorem dX17_sort_130 : decode cX17_sort 130 = .ok (.iload 4, 2) := by decide +kernel
theorem dX17_sort_132 : decode cX17_sort 132 = .ok (.baload, 1) := by decide +kernel
theorem dX17_sort_133 : decode cX17_sort 133 = .ok (.ifCond .ne 14, 3) := by decide +kernel
theorem dX17_sort_147 : decode cX17_sort 147 = .ok (.iinc 4 1, 3) := by decide +kernel
theorem dX17_sort_150 : decode cX17_sort 150 = .ok (.goto (-33), 3) := by decide +kernel
theorem dX17_sort_136 : decode cX17_sort 136 = .ok (.aload_n 0, 1) := by decide +kernel
theorem dX17_sort_137 : decode cX17_sort 137 = .ok (.getfield 50, 3) := by decide +kernel
theorem dX17_sort_140 : decode cX17_sort 140 = .ok (.iload_n 3, 1) := by decide +kernel
theorem dX17_sort_141 : decode cX17_sort 141 = .ok (.iload 4, 2) := by decide +kernel
theorem dX17_sort_143 : decode cX17_sort 143 = .ok (.iastore, 1) := by decide +kernel
theorem dX17_sort_144 : decode cX17_sort 144 = .ok (.iinc 3 1, 3) := by decide +kernel
theorem dX17_sort_153 : decode cX17_sort 153 = .ok (.iload_n 1, 1) := by decide +kernel
theorem dX17_sort_154 : decode cX17_sort 154 = .ok (.ireturn, 1) := by decide +kernel
theorem dX17_place_0 : decode cX17_place 0 = .ok (.aload_n 0, 1) := by decide +kernel
theorem dX17_place_1 : decode cX17_place 1 = .ok (.invokevirtual 71, 3) := by decide +kernel
theorem dX17_place_4 : decode cX17_place 4 = .ok (.istore_n 2, 1) := by decide +kernel
theorem dX17_place_5 : decode cX17_place 5 = .ok (.iconst 0, 1) := by decide +kernel
theorem dX17_place_6 : decode cX17_place 6 = .ok (.istore_n 3, 1) := by decide +kernel
theorem dX17_place_7 : decode cX17_place 7 = .ok (.aload_n 0, 1) := by decide +kernel
theorem dX17_place_8 : decode cX17_place 8 = .ok (.getfield 50, 3) := by decide +kernel
theorem dX17_place_11 : decode cX17_place 11 = .ok (.iload_n 3, 1) := by decide +kernel
theorem dX17_place_12 : decode cX17_place 12 = .ok (.iaload, 1) := by decide +kernel
theorem dX17_place_13 : decode cX17_place 13 = .ok (.iload_n 1, 1) := by decide +kernel
theorem dX17_place_14 : decode cX17_place 14 = .ok (.if_icmp .eq 9, 3) := by decide +kernel
theorem dX17_place_17 : decode cX17_place 17 = .ok (.iinc 3 1, 3) := by decide +kernel
theorem dX17_place_20 : decode cX17_place 20 = .ok (.goto (-13), 3) := by decide +kernel
theorem dX17_place_23 : decode cX17_place 23 = .ok (.iload_n 3, 1) := by decide +kernel
theorem dX17_place_24 : decode cX17_place 24 = .ok (.ireturn, 1) := by decide +kernel
theorem dX17_block_0 : decode cX17_block 0 = .ok (.aload_n 0, 1) := by decide +kernel
theorem dX17_block_1 : decode cX17_block 1 = .ok (.getfield 7, 3) := by decide +kernel
theorem dX17_block_4 : decode cX17_block 4 = .ok (.aload_n 0, 1) := by decide +kernel
theorem dX17_block_5 : decode cX17_block 5 = .ok (.getfield 63, 3) := by decide +kernel
theorem dX17_block_8 : decode cX17_block 8 = .ok (.iload_n 1, 1) := by decide +kernel
theorem dX17_block_9 : decode cX17_block 9 = .ok (.iastore, 1) := by decide +kernel
theorem dX17_block_10 : decode cX17_block 10 = .ok (.iconst 0, 1) := by decide +kernel
theorem dX17_block_11 : decode cX17_block 11 = .ok (.istore_n 2, 1) := by decide +kernel
theorem dX17_block_12 : decode cX17_block 12 = .ok (.iload_n 2, 1) := by decide +kernel
theorem dX17_block_13 : decode cX17_block 13 = .ok (.iconst 3, 1) := by decide +kernel
theorem dX17_block_14 : decode cX17_block 14 = .ok (.if_icmp .ge 23, 3) := by decide +kernel
theorem dX17_block_17 : decode cX17_block 17 = .ok (.aload_n 0, 1) := by decide +kernel
theorem dX17_block_18 : decode cX17_block 18 = .ok (.getfield 22, 3) := by decide +kernel
theorem dX17_block_21 : decode cX17_block 21 = .ok (.iconst 3, 1) := by decide +kernel
theorem dX17_block_22 : decode cX17_block 22 = .ok (.aload_n 0, 1) := by decide +kernel
theorem dX17_block_23 : decode cX17_block 23 = .ok (.getfield 63, 3) := by decide +kernel
theorem dX17_block_26 : decode cX17_block 26 = .ok (.imul, 1) := by decide +kernel
theorem dX17_block_27 : decode cX17_block 27 = .ok (.iload_n 2, 1) := by decide +kernel
theorem dX17_block_28 : decode cX17_block 28 = .ok (.iadd, 1) := by decide +kernel
theorem dX17_block_29 : decode cX17_block 29 = .ok (.iconst (-1), 1) := by decide +kernel
theorem dX17_block_30 : decode cX17_block 30 = .ok (.iastore, 1) := by decide +kernel
theorem dX17_block_31 : decode cX17_block 31 = .ok (.iinc 2 1, 3) := by decide +kernel
theorem dX17_block_34 : decode cX17_block 34 = .ok (.goto (-22), 3) := by decide +kernel
theorem dX17_block_37 : decode cX17_block 37 = .ok (.aload_n 0, 1) := by decide +kernel
theorem dX17_block_38 : decode cX17_block 38 = .ok (.dup, 1) := by decide +kernel
theorem dX17_block_39 : decode cX17_block 39 = .ok (.getfield 63, 3) := by decide +kernel
theorem dX17_block_42 : decode cX17_block 42 = .ok (.iconst 1, 1) := by decide +kernel
theorem dX17_block_43 : decode cX17_block 43 = .ok (.iadd, 1) := by decide +kernel
theorem dX17_block_44 : decode cX17_block 44 = .ok (.putfield 63, 3) := by decide +kernel
theorem dX17_block_47 : decode cX17_block 47 = .ok (.aload_n 0, 1) := by decide +kernel
theorem dX17_block_48 : decode cX17_block 48 = .ok (.getfield 63, 3) := by decide +kernel
theorem dX17_block_51 : decode cX17_block 51 = .ok (.iconst 1, 1) := by decide +kernel
theorem dX17_block_52 : decode cX17_block 52 = .ok (.isub, 1) := by decide +kernel
theorem dX17_block_53 : decode cX17_block 53 = .ok (.ireturn, 1) := by decide +kernel
theorem dX17_in_0 : decode cX17_in 0 = .ok (.aload_n 0, 1) := by decide +kernel
theorem dX17_in_1 : decode cX17_in 1 = .ok (.getfield 28, 3) := by decide +kernel
theorem dX17_in_4 : decode cX17_in 4 = .ok (.aload_n 0, 1) := by decide +kernel
theorem dX17_in_5 : decode cX17_in 5 = .ok (.getfield 22, 3) := by decide +kernel
theorem dX17_in_8 : decode cX17_in 8 = .ok (.iconst 3, 1) := by decide +kernel
theorem dX17_in_9 : decode cX17_in 9 = .ok (.iload_n 1, 1) := by decide +kernel
theorem dX17_in_10 : decode cX17_in 10 = .ok (.imul, 1) := by decide +kernel
theorem dX17_in_11 : decode cX17_in 11 = .ok (.iload_n 2, 1) := by decide +kernel
theorem dX17_in_12 : decode cX17_in 12 = .ok (.iadd, 1) := by decide +kernel
theorem dX17_in_13 : decode cX17_in 13 = .ok (.iaload, 1) := by decide +kernel
theorem dX17_in_14 : decode cX17_in 14 = .ok (.iaload, 1) := by decide +kernel
theorem dX17_in_15 : decode cX17_in 15 = .ok (.ireturn, 1) := by decide +kernel
theorem dX17_failure_0 : decode cX17_failure 0 = .ok (.aload_n 0, 1) := by decide +kernel
theorem dX17_failure_1 : decode cX17_failure 1 = .ok (.getfield 7, 3) := by decide +kernel
theorem dX17_failure_4 : decode cX17_failure 4 = .ok (.iload_n 1, 1) := by decide +kernel
theorem dX17_failure_5 : decode cX17_failure 5 = .ok (.iaload, 1) := by decide +kernel
theorem dX17_failure_6 : decode cX17_failure 6 = .ok (.istore_n 2, 1) := by decide +kernel
theorem dX17_failure_7 : decode cX17_failure 7 = .ok (.iconst 0, 1) := by decide +kernel
theorem dX17_failure_8 : decode cX17_failure 8 = .ok (.istore_n 3, 1) := by decide +kernel
theorem dX17_failure_9 : decode cX17_failure 9 = .ok (.iload_n 3, 1) := by decide +kernel
theorem dX17_failure_10 : decode cX17_failure 10 = .ok (.iload_n 2, 1) := by decide +kernel
theorem dX17_failure_11 : decode cX17_failure 11 = .ok (.invokestatic 59, 3) := by decide +kernel
theorem dX17_failure_14 : decode cX17_failure 14 = .ok (.if_icmp .ge 30, 3) := by decide +kernel
theorem dX17_failure_17 : decode cX17_failure 17 = .ok (.iload_n 2, 1) := by decide +kernel
theorem dX17_failure_18 : decode cX17_failure 18 = .ok (.bipush 16, 2) := by decide +kernel
theorem dX17_failure_20 : decode cX17_failure 20 = .ok (.if_icmp .eq 24, 3) := by decide +kernel
theorem dX17_failure_23 : decode cX17_failure 23 = .ok (.aload_n 0, 1) := by decide +kernel
theorem dX17_failure_24 : decode cX17_failure 24 = .ok (.getfield 22, 3) := by decide +kernel
theorem dX17_failure_27 : decode cX17_failure 27 = .ok (.iconst 3, 1) := by decide +kernel
theorem dX17_failure_28 : decode cX17_failure 28 = .ok (.iload_n 1, 1) := by decide +kernel
theorem dX17_failure_29 : decode cX17_failure 29 = .ok (.imul, 1) := by decide +kernel
theorem dX17_failure_30 : decode cX17_failure 30 = .ok (.iload_n 3, 1) := by decide +kernel
theorem dX17_failure_31 : decode cX17_failure 31 = .ok (.iadd, 1) := by decide +kernel
theorem dX17_failure_32 : decode cX17_failure 32 = .ok (.iaload, 1) := by decide +kernel
theorem dX17_failure_33 : decode cX17_failure 33 = .ok (.ifCond .ge 5, 3) := by decide +kernel
theorem dX17_failure_38 : decode cX17_failure 38 = .ok (.iinc 3 1, 3) := by decide +kernel
theorem dX17_failure_41 : decode cX17_failure 41 = .ok (.goto (-32), 3) := by decide +kernel
theorem dX17_failure_36 : decode cX17_failure 36 = .ok (.iconst 3, 1) := by decide +kernel
theorem dX17_failure_37 : decode cX17_failure 37 = .ok (.ireturn, 1) := by decide +kernel
theorem dX17_failure_44 : decode cX17_failure 44 = .ok (.iload_n 2, 1) := by decide +kernel
theorem dX17_failure_45 : decode cX17_failure 45 = .ok (.iconst 5, 1) := by decide +kernel
theorem dX17_failure_46 : decode cX17_failure 46 = .ok (.if_icmp .eq 9, 3) := by decide +kernel
theorem dX17_failure_55 : decode cX17_failure 55 = .ok (.aload_n 0, 1) := by decide +kernel
theorem dX17_failure_56 : decode cX17_failure 56 = .ok (.iload_n 1, 1) := by decide +kernel
theorem dX17_failure_57 : decode cX17_failure 57 = .ok (.iconst 1, 1) := by decide +kernel
theorem dX17_failure_58 : decode cX17_failure 58 = .ok (.invokevirtual 75, 3) := by decide +kernel
theorem dX17_failure_61 : decode cX17_failure 61 = .ok (.ifCond .ne 5, 3) := by decide +kernel
theorem dX17_failure_66 : decode cX17_failure 66 = .ok (.iload_n 2, 1) := by decide +kernel
theorem dX17_failure_67 : decode cX17_failure 67 = .ok (.ifCond .ne 23, 3) := by decide +kernel
theorem dX17_failure_90 : decode cX17_failure 90 = .ok (.iload_n 2, 1) := by decide +kernel
theorem dX17_failure_91 : decode cX17_failure 91 = .ok (.bipush 15, 2) := by decide +kernel
theorem dX17_failure_93 : decode cX17_failure 93 = .ok (.if_icmp .ne 27, 3) := by decide +kernel
theorem dX17_failure_120 : decode cX17_failure 120 = .ok (.iconst 0, 1) := by decide +kernel
theorem dX17_failure_121 : decode cX17_failure 121 = .ok (.istore_n 3, 1) := by decide +kernel
theorem dX17_failure_122 : decode cX17_failure 122 = .ok (.iload_n 3, 1) := by decide +kernel
theorem dX17_failure_123 : decode cX17_failure 123 = .ok (.ifCond .eq 7, 3) := by decide +kernel
theorem dX17_failure_130 : decode cX17_failure 130 = .ok (.iconst 0, 1) := by decide +kernel
theorem dX17_failure_131 : decode cX17_failure 131 = .ok (.ireturn, 1) := by decide +kernel
theorem dX17_failure_126 : decode cX17_failure 126 = .ok (.iconst 2, 1) := by decide +kernel
theorem dX17_failure_127 : decode cX17_failure 127 = .ok (.goto 4, 3) := by decide +kernel
theorem dX17_failure_96 : decode cX17_failure 96 = .ok (.aload_n 0, 1) := by decide +kernel
theorem dX17_failure_97 : decode cX17_failure 97 = .ok (.iload_n 1, 1) := by decide +kernel
theorem dX17_failure_98 : decode cX17_failure 98 = .ok (.iconst 0, 1) := by decide +kernel
theorem dX17_failure_99 : decode cX17_failure 99 = .ok (.invokevirtual 75, 3) := by decide +kernel
theorem dX17_failure_102 : decode cX17_failure 102 = .ok (.ifCond .lt 14, 3) := by decide +kernel
theorem dX17_failure_116 : decode cX17_failure 116 = .ok (.iconst 1, 1) := by decide +kernel
theorem dX17_failure_117 : decode cX17_failure 117 = .ok (.goto 4, 3) := by decide +kernel
theorem dX17_failure_105 : decode cX17_failure 105 = .ok (.aload_n 0, 1) := by decide +kernel
theorem dX17_failure_106 : decode cX17_failure 106 = .ok (.iload_n 1, 1) := by decide +kernel
theorem dX17_failure_107 : decode cX17_failure 107 = .ok (.iconst 0, 1) := by decide +kernel
theorem dX17_failure_108 : decode cX17_failure 108 = .ok (.invokevirtual 75, 3) := by decide +kernel
theorem dX17_failure_111 : decode cX17_failure 111 = .ok (.bipush 7, 2) := by decide +kernel
theorem dX17_failure_113 : decode cX17_failure 113 = .ok (.if_icmp .le 7, 3) := by decide +kernel
theorem dX17_failure_70 : decode cX17_failure 70 = .ok (.aload_n 0, 1) := by decide +kernel
theorem dX17_failure_71 : decode cX17_failure 71 = .ok (.getfield 13, 3) := by decide +kernel
theorem dX17_failure_74 : decode cX17_failure 74 = .ok (.iload_n 1, 1) := by decide +kernel
theorem dX17_failure_75 : decode cX17_failure 75 = .ok (.iaload, 1) := by decide +kernel
theorem dX17_failure_76 : decode cX17_failure 76 = .ok (.ifCond .lt 40, 3) := by decide +kernel
theorem dX17_failure_79 : decode cX17_failure 79 = .ok (.aload_n 0, 1) := by decide +kernel
theorem dX17_failure_80 : decode cX17_failure 80 = .ok (.getfield 13, 3) := by decide +kernel
theorem dX17_failure_83 : decode cX17_failure 83 = .ok (.iload_n 1, 1) := by decide +kernel
theorem dX17_failure_84 : decode cX17_failure 84 = .ok (.iaload, 1) := by decide +kernel
theorem dX17_failure_85 : decode cX17_failure 85 = .ok (.bipush 9, 2) := by decide +kernel
theorem dX17_failure_87 : decode cX17_failure 87 = .ok (.if_icmp .gt 29, 3) := by decide +kernel
theorem dX17_failure_64 : decode cX17_failure 64 = .ok (.iconst 1, 1) := by decide +kernel
theorem dX17_failure_65 : decode cX17_failure 65 = .ok (.ireturn, 1) := by decide +kernel
theorem dX17_failure_49 : decode cX17_failure 49 = .ok (.iload_n 2, 1) := by decide +kernel
theorem dX17_failure_50 : decode cX17_failure 50 = .ok (.bipush 6, 2) := by decide +kernel
theorem dX17_failure_52 : decode cX17_failure 52 = .ok (.if_icmp .ne 14, 3) := by decide +kernel
theorem zl_X16_189 : zm_F zk_E RX16 189 16 11 := ⟨RX16, TX16, 40, rfl, zk_i16, by decide, zk_b13 90 (by decide +kernel) rfl⟩
theorem zt_16_11 : zm_T zk_E RX16 16 11 .int false := ⟨RX16, TX16, 40, tyX16, rfl, tyX16_ok, nmX16, rfl, rfl, rfl⟩
theorem zl_X16_192 : zm_L zk_E RX16 192 yX16_turn (.code yX16_turn cX16_turn 2 none) 0 ∧ Cond.instanceMethod yX16_turn ∈ zk_E.2.2.1 ∧ Cond.selects yX16_turn.cls yX16_turn yX16_turn ∈ zk_E.2.2.1 := ⟨⟨zk_b17 46 (by decide +kernel) rfl, zk_b1 14 (by decide +kernel) rfl, zk_b17 43 (by decide +kernel) rfl, by decide +kernel, by decide +kernel, by decide +kernel⟩, zk_b17 45 (by decide +kernel) rfl, zk_s11 (q := (yX16_turn, 40)) 13 (by decide +kernel)⟩
theorem zt_16_12 : zm_T zk_E RX16 16 12 .int false := ⟨RX16, TX16, 40, tyX16, rfl, tyX16_ok, nmX16, rfl, rfl, rfl⟩
theorem zt_16_13 : zm_T zk_E RX16 16 13 .int false := ⟨RX16, TX16, 40, tyX16, rfl, tyX16_ok, nmX16, rfl, rfl, rfl⟩
theorem zl_X16_195 : zm_L zk_E RX16 195 yX16_insert (.code yX16_insert cX16_insert 5 (some .int)) 3 ∧ Cond.static yX16_insert ∈ zk_E.2.2.1 := ⟨⟨zk_b17 49 (by decide +kernel) rfl, zk_b1 14 (by decide +kernel) rfl, zk_b17 47 (by decide +kernel) rfl, by decide +kernel, by decide +kernel, by decide +kernel⟩, zk_b17 48 (by decide +kernel) rfl⟩
theorem zl_X16_199 : zm_L zk_E RX16 199 yX16_fill (.code yX16_fill cX16_fill 5 none) 0 ∧ Cond.instanceMethod yX16_fill ∈ zk_E.2.2.1 ∧ Cond.selects yX16_fill.cls yX16_fill yX16_fill ∈ zk_E.2.2.1 := ⟨⟨zk_b17 53 (by decide +kernel) rfl, zk_b1 14 (by decide +kernel) rfl, zk_b17 50 (by decide +kernel) rfl, by decide +kernel, by decide +kernel, by decide +kernel⟩, zk_b17 52 (by decide +kernel) rfl, zk_s11 (q := (yX16_fill, 40)) 14 (by decide +kernel)⟩
theorem zl_X16_202 : zm_L zk_E RX16 202 yX16_findPoints (.code yX16_findPoints cX16_findPoints 4 none) 0 ∧ Cond.instanceMethod yX16_findPoints ∈ zk_E.2.2.1 ∧ Cond.selects yX16_findPoints.cls yX16_findPoints yX16_findPoints ∈ zk_E.2.2.1 := ⟨⟨zk_b17 65 (by decide +kernel) rfl, zk_b1 14 (by decide +kernel) rfl, zk_b17 62 (by decide +kernel) rfl, by decide +kernel, by decide +kernel, by decide +kernel⟩, zk_b17 64 (by decide +kernel) rfl, zk_s12 (q := (yX16_findPoints, 40)) 1 (by decide +kernel)⟩
theorem zl_X16_205 : zm_L zk_E RX16 205 yX16_findRings (.code yX16_findRings cX16_findRings 4 none) 0 ∧ Cond.instanceMethod yX16_findRings ∈ zk_E.2.2.1 ∧ Cond.selects yX16_findRings.cls yX16_findRings yX16_findRings ∈ zk_E.2.2.1 := ⟨⟨zk_b17 81 (by decide +kernel) rfl, zk_b1 14 (by decide +kernel) rfl, zk_b17 78 (by decide +kernel) rfl, by decide +kernel, by decide +kernel, by decide +kernel⟩, zk_b17 80 (by decide +kernel) rfl, zk_s12 (q := (yX16_findRings, 40)) 5 (by decide +kernel)⟩
theorem zl_X16_208 : zm_L zk_E RX16 208 yX16_number (.code yX16_number cX16_number 4 none) 0 ∧ Cond.instanceMethod yX16_number ∈ zk_E.2.2.1 ∧ Cond.selects yX16_number.cls yX16_number yX16_number ∈ zk_E.2.2.1 := ⟨⟨zk_b17 105 (by decide +kernel) rfl, zk_b1 14 (by decide +kernel) rfl, zk_b17 102 (by decide +kernel) rfl, by decide +kernel, by decide +kernel, by decide +kernel⟩, zk_b17 104 (by decide +kernel) rfl, zk_s12 (q := (yX16_number, 40)) 11 (by decide +kernel)⟩
theorem zt_16_9 : zm_T zk_E RX16 16 9 .boolean false := ⟨RX16, TX16, 40, tyX16, rfl, tyX16_ok, nmX16, rfl, rfl, rfl⟩
theorem zl_X16_211 : zm_L zk_E RX16 211 yX16_carry (.code yX16_carry cX16_carry 6 none) 0 ∧ Cond.instanceMethod yX16_carry ∈ zk_E.2.2.1 ∧ Cond.selects yX16_carry.cls yX16_carry yX16_carry ∈ zk_E.2.2.1 := ⟨⟨zk_b17 116 (by decide +kernel) rfl, zk_b1 14 (by decide +kernel) rfl, zk_b17 113 (by decide +kernel) rfl, by decide +kernel, by decide +kernel, by decide +kernel⟩, zk_b17 115 (by decide +kernel) rfl, zk_s12 (q := (yX16_carry, 40)) 13 (by decide +kernel)⟩
theorem zl_X16_221 : zm_L zk_E RX16 221 yX16_isSpace (.code yX16_isSpace cX16_isSpace 2 (some .boolean)) 1 ∧ Cond.instanceMethod yX16_isSpace ∈ zk_E.2.2.1 ∧ Cond.selects yX16_isSpace.cls yX16_isSpace yX16_isSpace ∈ zk_E.2.2.1 := ⟨⟨zk_b17 139 (by decide +kernel) rfl, zk_b1 14 (by decide +kernel) rfl, zk_b17 148 (by decide +kernel) rfl, by decide +kernel, by decide +kernel, by decide +kernel⟩, zk_b17 137 (by decide +kernel) rfl, zk_b17 138 (by decide +kernel) rfl⟩
theorem zl_X16_224 : zm_L zk_E RX16 224 yX16_ringOf (.code yX16_ringOf cX16_ringOf 5 (some .int)) 2 ∧ Cond.instanceMethod yX16_ringOf ∈ zk_E.2.2.1 ∧ Cond.selects yX16_ringOf.cls yX16_ringOf yX16_ringOf ∈ zk_E.2.2.1 := ⟨⟨zk_b17 147 (by decide +kernel) rfl, zk_b1 14 (by decide +kernel) rfl, zk_b17 144 (by decide +kernel) rfl, by decide +kernel, by decide +kernel, by decide +kernel⟩, zk_b17 146 (by decide +kernel) rfl, zk_s12 (q := (yX16_ringOf, 40)) 15 (by decide +kernel)⟩
theorem zl_X16_227 : zm_L zk_E RX16 227 yX16_right (.code yX16_right cX16_right 2 (some .int)) 1 ∧ Cond.instanceMethod yX16_right ∈ zk_E.2.2.1 ∧ Cond.selects yX16_right.cls yX16_right yX16_right ∈ zk_E.2.2.1 := ⟨⟨zk_b17 160 (by decide +kernel) rfl, zk_b1 14 (by decide +kernel) rfl, zk_b17 157 (by decide +kernel) rfl, by decide +kernel, by decide +kernel, by decide +kernel⟩, zk_b17 159 (by decide +kernel) rfl, zk_s13 (q := (yX16_right, 40)) 0 (by decide +kernel)⟩
theorem zl_X16_230 : zm_L zk_E RX16 230 yX16_sideLength (.code yX16_sideLength cX16_sideLength 4 (some .int)) 1 ∧ Cond.instanceMethod yX16_sideLength ∈ zk_E.2.2.1 ∧ Cond.selects yX16_sideLength.cls yX16_sideLength yX16_sideLength ∈ zk_E.2.2.1 := ⟨⟨zk_b17 172 (by decide +kernel) rfl, zk_b1 14 (by decide +kernel) rfl, zk_b17 169 (by decide +kernel) rfl, by decide +kernel, by decide +kernel, by decide +kernel⟩, zk_b17 171 (by decide +kernel) rfl, zk_s13 (q := (yX16_sideLength, 40)) 1 (by decide +kernel)⟩
theorem zl_X16_233 : zm_L zk_E RX16 233 yX16_ringsOf (.code yX16_ringsOf cX16_ringsOf 4 (some .int)) 1 ∧ Cond.instanceMethod yX16_ringsOf ∈ zk_E.2.2.1 ∧ Cond.selects yX16_ringsOf.cls yX16_ringsOf yX16_ringsOf ∈ zk_E.2.2.1 := ⟨⟨zk_b17 176 (by decide +kernel) rfl, zk_b1 14 (by decide +kernel) rfl, zk_b17 173 (by decide +kernel) rfl, by decide +kernel, by decide +kernel, by decide +kernel⟩, zk_b17 175 (by decide +kernel) rfl, zk_s13 (q := (yX16_ringsOf, 40)) 2 (by decide +kernel)⟩
theorem zl_X16_236 : zm_L zk_E RX16 236 yX16_beside (.code yX16_beside cX16_beside 5 (some .int)) 2 ∧ Cond.instanceMethod yX16_beside ∈ zk_E.2.2.1 ∧ Cond.selects yX16_beside.cls yX16_beside yX16_beside ∈ zk_E.2.2.1 := ⟨⟨zk_b17 203 (by decide +kernel) rfl, zk_b1 14 (by decide +kernel) rfl, zk_b17 200 (by decide +kernel) rfl, by decide +kernel, by decide +kernel, by decide +kernel⟩, zk_b17 202 (by decide +kernel) rfl, zk_s13 (q := (yX16_beside, 40)) 3 (by decide +kernel)⟩
theorem zl_X16_239 : zm_L zk_E RX16 239 yX16_hasDoor (.code yX16_hasDoor cX16_hasDoor 7 (some .boolean)) 1 ∧ Cond.instanceMethod yX16_hasDoor ∈ zk_E.2.2.1 ∧ Cond.selects yX16_hasDoor.cls yX16_hasDoor yX16_hasDoor ∈ zk_E.2.2.1 := ⟨⟨zk_b17 215 (by decide +kernel) rfl, zk_b1 14 (by decide +kernel) rfl, zk_b17 212 (by decide +kernel) rfl, by decide +kernel, by decide +kernel, by decide +kernel⟩, zk_b17 214 (by decide +kernel) rfl, zk_s13 (q := (yX16_hasDoor, 40)) 4 (by decide +kernel)⟩
theorem zl_X16_242 : zm_L zk_E RX16 242 yX16_low (.code yX16_low cX16_low 3 (some .int)) 1 ∧ Cond.instanceMethod yX16_low ∈ zk_E.2.2.1 ∧ Cond.selects yX16_low.cls yX16_low yX16_low ∈ zk_E.2.2.1 := ⟨⟨zk_b18 179 (by decide +kernel) rfl, zk_b1 14 (by decide +kernel) rfl, zk_b18 176 (by decide +kernel) rfl, by decide +kernel, by decide +kernel, by decide +kernel⟩, zk_b18 178 (by decide +kernel) rfl, zk_s14 (q := (yX16_low, 40)) 11 (by decide +kernel)⟩
theorem zl_X17_7 : zm_F zk_E RX17 7 17 1 := ⟨RX17, TX17, 19, rfl, zk_i17, by decide, zk_b15 3 (by decide +kernel) rfl⟩
theorem zl_X17_59 : zm_L zk_E RX17 59 yX17_inputs (.code yX17_inputs cX17_inputs 1 (some .int)) 1 ∧ Cond.static yX17_inputs ∈ zk_E.2.2.1 := ⟨⟨zk_b20 129 (by decide +kernel) rfl, zk_b1 17 (by decide +kernel) rfl, zk_b20 127 (by decide +kernel) rfl, by decide +kernel, by decide +kernel, by decide +kernel⟩, zk_b20 128 (by decide +kernel) rfl⟩
theorem zl_X17_22 : zm_F zk_E RX17 22 17 5 := ⟨RX17, TX17, 19, rfl, zk_i17, by decide, zk_b15 11 (by decide +kernel) rfl⟩
theorem zl_X17_53 : zm_F zk_E RX17 53 17 16 := ⟨RX17, TX17, 19, rfl, zk_i17, by decide, zk_b15 32 (by decide +kernel) rfl⟩
theorem zl_X17_63 : zm_F zk_E RX17 63 17 0 := ⟨RX17, TX17, 19, rfl, zk_i17, by decide, zk_b15 1 (by decide +kernel) rfl⟩
theorem zl_X17_67 : zm_L zk_E RX17 67 yX17_mayCome (.code yX17_mayCome cX17_mayCome 5 (some .boolean)) 1 ∧ Cond.instanceMethod yX17_mayCome ∈ zk_E.2.2.1 ∧ Cond.selects yX17_mayCome.cls yX17_mayCome yX17_mayCome ∈ zk_E.2.2.1 := ⟨⟨zk_b20 126 (by decide +kernel) rfl, zk_b1 17 (by decide +kernel) rfl, zk_b20 123 (by decide +kernel) rfl, by decide +kernel, by decide +kernel, by decide +kernel⟩, zk_b20 125 (by decide +kernel) rfl, zk_s17 (q := (yX17_mayCome, 19)) 6 (by decide +kernel)⟩
theorem zl_X17_50 : zm_F zk_E RX17 50 17 15 := ⟨RX17, TX17, 19, rfl, zk_i17, by decide, zk_b15 31 (by decide +kernel) rfl⟩
theorem zl_X17_71 : zm_L zk_E RX17 71 yX17_sort (.code yX17_sort cX17_sort 5 (some .int)) 0 ∧ Cond.instanceMethod yX17_sort ∈ zk_E.2.2.1 ∧ Cond.selects yX17_sort.cls yX17_sort yX17_sort ∈ zk_E.2.2.1 := ⟨⟨zk_b20 122 (by decide +kernel) rfl, zk_b1 17 (by decide +kernel) rfl, zk_b20 138 (by decide +kernel) rfl, by decide +kernel, by decide +kernel, by decide +kernel⟩, zk_b20 120 (by decide +kernel) rfl, zk_b20 121 (by decide +kernel) rfl⟩
theorem zt_17_0 : zm_T zk_E RX17 17 0 .int false := ⟨RX17, TX17, 19, tyX17, rfl, tyX17_ok, nmX17, rfl, rfl, rfl⟩
theorem zl_X17_28 : zm_F zk_E RX17 28 17 7 := ⟨RX17, TX17, 19, rfl, zk_i17, by decide, zk_b15 15 (by decide +kernel) rfl⟩
theorem zl_X17_75 : zm_L zk_E RX17 75 yX17_in (.code yX17_in cX17_in 3 (some .int)) 2 ∧ Cond.instanceMethod yX17_in ∈ zk_E.2.2.1 ∧ Cond.selects yX17_in.cls yX17_in yX17_in ∈ zk_E.2.2.1 := ⟨⟨zk_b21 116 (by decide +kernel) rfl, zk_b1 17 (by decide +kernel) rfl, zk_b21 113 (by decide +kernel) rfl, by decide +kernel, by decide +kernel, by decide +kernel⟩, zk_b21 115 (by decide +kernel) rfl, zk_s18 (q := (yX17_in, 19)) 11 (by decide +kernel)⟩
theorem zl_X17_13 : zm_F zk_E RX17 13 17 2 := ⟨RX17, TX17, 19, rfl, zk_i17, by decide, zk_b15 5 (by decide +kernel) rfl⟩
def zf_X16_run_L26 (N : Nat) : Nat → Nat → Int32 → zm_S → Option ((Int32 × zm_S) ⊕ ((Unit) × zm_S))
  | 0, _, _, _ => none
  | n + 1, a0, i1, S => (zg_i S a0 16 0).bind (fun v8 => if v8 ≤ i1 then some (.inr ((), S)) else (zg_r S a0 16 14).bind (fun b9 => (zg_i S a0 16 12).bind (fun v10 => (zg_r S a0 16 1).bind (fun b11 => (za_x S 0 b11 i1).bind (fun v12 => (zf_X16_insert N b9 v10 v12 S).bind (fun r15 => (zp r15.2 a0 16 12 (.int r15.1)).bind (fun S16 => (zg_r S16 a0 16 14).bind (fun b17 => (zg_i S16 a0 16 12).bind (fun v18 => (zi S16 a0 16).bind (fun _ => (zf_X16_highX N a0 i1 S16).bind (fun r21 => (zf_X16_insert N b17 v18 r21.1 r21.2).bind (fun r24 => (zp r24.2 a0 16 12 (.int r24.1)).bind (fun S25 => (zg_r S25 a0 16 15).bind (fun b26 => (zg_i S25 a0 16 13).bind (fun v27 => (zg_r S25 a0 16 2).bind (fun b28 => (za_x S25 0 b28 i1).bind (fun v29 => (zf_X16_insert N b26 v27 v29 S25).bind (fun r32 => (zp r32.2 a0 16 13 (.int r32.1)).bind (fun S33 => (zg_r S33 a0 16 15).bind (fun b34 => (zg_i S33 a0 16 13).bind (fun v35 => (zi S33 a0 16).bind (fun _ => (zf_X16_highY N a0 i1 S33).bind (fun r38 => (zf_X16_insert N b34 v35 r38.1 r38.2).bind (fun r41 => (zp r41.2 a0 16 13 (.int r41.1)).bind (fun S42 => zf_X16_run_L26 N n a0 (i1 + (1 : Int32)) S42)))))))))))))))))))))))))
set_option maxHeartbeats 4000000 in
set_option maxRecDepth 100000 in
theorem zt_X16_run_L26 {p : Program} {l : Launch} {e : Env} {R : Room} {s : State} {m : MethodId} {args : Array Value} {below : List Frame} {meth : Method} {c : Code} {V : zm_V} {mc ms d rc rs : Nat} (hX : zm_X p R s m args meth c RX16 "run" cX16_run 2 zk_E V mc ms) (hr : meth.sig.returnType = (some .int)) (hR : R.frames = d ∧ R.locals = 64 * d) (hd : 5 ≤ d) {N : Nat} {res : (Int32 × zm_S) ⊕ ((Unit) × zm_S)} {out : (Int32 × zm_S)} (a0 : Nat) (hf : ∀ o, res = .inl o → o = out) (hk : ∀ (S' : zm_S), res = .inr ((), S') → zw p l e R s m args below meth c (vx_MQ below (zm_Qc zk_E V (zo_i out)) (zm_XC zk_E V zo_x) args s mc ms (fun q => V.2.2.2.1 ≤ q)) 2 zk_E V mc ms 122 [(0, .ref a0)] [] S' rc rs) : ∀ (n : Nat) (i1 : Int32) (S : zm_S), zf_X16_run_L26 N n a0 i1 S = some res → zw p l e R s m args below meth c (vx_MQ below (zm_Qc zk_E V (zo_i out)) (zm_XC zk_E V zo_x) args s mc ms (fun q => V.2.2.2.1 ≤ q)) 2 zk_E V mc ms 26 [(0, .ref a0), (1, .int i1)] [] S rc rs := by
  intro n
  induction n with
  | zero => intro i1 S h; cases h
  | succ n ih =>
    intro i1 S h
    rw [zf_X16_run_L26] at h
    refine zw_iload_n hX dX16_run_26 rfl ?_
    refine zw_aload_n hX dX16_run_27 rfl ?_
    obtain ⟨v8, g, h⟩ := zb_some h
    refine zw_geti hX zl_X16_96 dX16_run_28 g ?_
    refine zw_icmp_ge (tgt := 122) hX dX16_run_31 (by decide) (fun c31 => ?_) (fun c31 => ?_)
    · rw [if_pos c31] at h
      refine zw_sub (lv' := [(0, .ref a0)]) (List.forall_mem_cons.mpr ⟨rfl, zs_nil⟩) ?_
      exact hk  _ (Option.some.inj h).symm
    · rw [if_neg c31] at h
      refine zw_aload_n hX dX16_run_34 rfl ?_
      refine zw_aload_n hX dX16_run_35 rfl ?_
      obtain ⟨b9, g, h⟩ := zb_some h
      refine zw_getr hX zl_X16_35 dX16_run_36 g ?_
      refine zw_aload_n hX dX16_run_39 rfl ?_
      obtain ⟨v10, g, h⟩ := zb_some h
      refine zw_geti hX zl_X16_118 dX16_run_40 g ?_
      refine zw_aload_n hX dX16_run_43 rfl ?_
      obtain ⟨b11, g, h⟩ := zb_some h
      refine zw_getr hX zl_X16_7 dX16_run_44 g ?_
      refine zw_iload_n hX dX16_run_47 rfl ?_
      obtain ⟨v12, g, h⟩ := zb_some h
      refine zw_xi hX dX16_run_48 g ?_
      obtain ⟨r15, g, h⟩ := zb_some h
      refine zc_Si (as := [.ref b9, .int v10, .int v12]) hX (zt_X16_insert (d := d - 1) (by omega) g) zl_X16_195 dX16_run_49 ⟨rfl, rfl, Nat.le_of_ble_eq_true rfl⟩ ⟨by omega, by omega⟩ ?_
      obtain ⟨S16, g, h⟩ := zb_some h
      refine zw_putv hX zl_X16_118 zt_16_12 dX16_run_52 rfl rfl g ?_
      refine zw_aload_n hX dX16_run_55 rfl ?_
      refine zw_aload_n hX dX16_run_56 rfl ?_
      obtain ⟨b17, g, h⟩ := zb_some h
      refine zw_getr hX zl_X16_35 dX16_run_57 g ?_
      refine zw_aload_n hX dX16_run_60 rfl ?_
      obtain ⟨v18, g, h⟩ := zb_some h
      refine zw_geti hX zl_X16_118 dX16_run_61 g ?_
      refine zw_aload_n hX dX16_run_64 rfl ?_
      refine zw_iload_n hX dX16_run_65 rfl ?_
      obtain ⟨_, gi, h⟩ := zb_some h
      obtain ⟨r21, g, h⟩ := zb_some h
      refine zc_Vi (as := [.int i1]) hX gi (zt_X16_highX (d := d - 1) (by omega) g) zl_X16_89 rfl dX16_run_66 ⟨rfl, rfl, Nat.le_of_ble_eq_true rfl⟩ ⟨by omega, by omega⟩ ?_
      obtain ⟨r24, g, h⟩ := zb_some h
      refine zc_Si (as := [.ref b17, .int v18, .int r21.1]) hX (zt_X16_insert (d := d - 1) (by omega) g) zl_X16_195 dX16_run_69 ⟨rfl, rfl, Nat.le_of_ble_eq_true rfl⟩ ⟨by omega, by omega⟩ ?_
      obtain ⟨S25, g, h⟩ := zb_some h
      refine zw_putv hX zl_X16_118 zt_16_12 dX16_run_72 rfl rfl g ?_
      refine zw_aload_n hX dX16_run_75 rfl ?_
      refine zw_aload_n hX dX16_run_76 rfl ?_
      obtain ⟨b26, g, h⟩ := zb_some h
      refine zw_getr hX zl_X16_38 dX16_run_77 g ?_
      refine zw_aload_n hX dX16_run_80 rfl ?_
      obtain ⟨v27, g, h⟩ := zb_some h
      refine zw_geti hX zl_X16_115 dX16_run_81 g ?_
      refine zw_aload_n hX dX16_run_84 rfl ?_
      obtain ⟨b28, g, h⟩ := zb_some h
      refine zw_getr hX zl_X16_13 dX16_run_85 g ?_
      refine zw_iload_n hX dX16_run_88 rfl ?_
      obtain ⟨v29, g, h⟩ := zb_some h
      refine zw_xi hX dX16_run_89 g ?_
      obtain ⟨r32, g, h⟩ := zb_some h
      refine zc_Si (as := [.ref b26, .int v27, .int v29]) hX (zt_X16_insert (d := d - 1) (by omega) g) zl_X16_195 dX16_run_90 ⟨rfl, rfl, Nat.le_of_ble_eq_true rfl⟩ ⟨by omega, by omega⟩ ?_
      obtain ⟨S33, g, h⟩ := zb_some h
      refine zw_putv hX zl_X16_115 zt_16_13 dX16_run_93 rfl rfl g ?_
      refine zw_aload_n hX dX16_run_96 rfl ?_
      refine zw_aload_n hX dX16_run_97 rfl ?_
      obtain ⟨b34, g, h⟩ := zb_some h
      refine zw_getr hX zl_X16_38 dX16_run_98 g ?_
      refine zw_aload_n hX dX16_run_101 rfl ?_
      obtain ⟨v35, g, h⟩ := zb_some h
      refine zw_geti hX zl_X16_115 dX16_run_102 g ?_
      refine zw_aload_n hX dX16_run_105 rfl ?_
      refine zw_iload_n hX dX16_run_106 rfl ?_
      obtain ⟨_, gi, h⟩ := zb_some h
      obtain ⟨r38, g, h⟩ := zb_some h
      refine zc_Vi (as := [.int i1]) hX gi (zt_X16_highY (d := d - 1) (by omega) g) zl_X16_93 rfl dX16_run_107 ⟨rfl, rfl, Nat.le_of_ble_eq_true rfl⟩ ⟨by omega, by omega⟩ ?_
      obtain ⟨r41, g, h⟩ := zb_some h
      refine zc_Si (as := [.ref b34, .int v35, .int r38.1]) hX (zt_X16_insert (d := d - 1) (by omega) g) zl_X16_195 dX16_run_110 ⟨rfl, rfl, Nat.le_of_ble_eq_true rfl⟩ ⟨by omega, by omega⟩ ?_
      obtain ⟨S42, g, h⟩ := zb_some h
      refine zw_putv hX zl_X16_115 zt_16_13 dX16_run_113 rfl rfl g ?_
      refine zw_iinc (v := (i1 + (1 : Int32))) hX dX16_run_116 rfl rfl (by decide) ?_
      refine zw_goto (tgt := 26) hX dX16_run_119 (by decide) ?_
      refine zw_sub (lv' := [(0, .ref a0), (1, .int (i1 + (1 : Int32)))]) (List.forall_mem_cons.mpr ⟨rfl, (List.forall_mem_cons.mpr ⟨rfl, zs_nil⟩)⟩) ?_
      exact ih _ _ h
def zf_X16_run_L140 (N : Nat) : Nat → Nat → Int32 → zm_S → Option ((Int32 × zm_S) ⊕ ((Unit) × zm_S))
  | 0, _, _, _ => none
  | n + 1, a0, i1, S => if (400 : Int32) ≤ i1 then some (.inr ((), S)) else (zg_r S a0 16 25).bind (fun b56 => (zs_i S b56 i1 (0 : Int32)).bind (fun S57 => zf_X16_run_L140 N n a0 (i1 + (1 : Int32)) S57))
set_option maxHeartbeats 4000000 in
set_option maxRecDepth 100000 in
theorem zt_X16_run_L140 {p : Program} {l : Launch} {e : Env} {R : Room} {s : State} {m : MethodId} {args : Array Value} {below : List Frame} {meth : Method} {c : Code} {V : zm_V} {mc ms d rc rs : Nat} (hX : zm_X p R s m args meth c RX16 "run" cX16_run 2 zk_E V mc ms) (hr : meth.sig.returnType = (some .int)) (hR : R.frames = d ∧ R.locals = 64 * d) (hd : 5 ≤ d) {N : Nat} {res : (Int32 × zm_S) ⊕ ((Unit) × zm_S)} {out : (Int32 × zm_S)} (a0 : Nat) (hf : ∀ o, res = .inl o → o = out) (hk : ∀ (S' : zm_S), res = .inr ((), S') → zw p l e R s m args below meth c (vx_MQ below (zm_Qc zk_E V (zo_i out)) (zm_XC zk_E V zo_x) args s mc ms (fun q => V.2.2.2.1 ≤ q)) 2 zk_E V mc ms 160 [(0, .ref a0)] [] S' rc rs) : ∀ (n : Nat) (i1 : Int32) (S : zm_S), zf_X16_run_L140 N n a0 i1 S = some res → zw p l e R s m args below meth c (vx_MQ below (zm_Qc zk_E V (zo_i out)) (zm_XC zk_E V zo_x) args s mc ms (fun q => V.2.2.2.1 ≤ q)) 2 zk_E V mc ms 140 [(0, .ref a0), (1, .int i1)] [] S rc rs := by
  intro n
  induction n with
  | zero => intro i1 S h; cases h
  | succ n ih =>
    intro i1 S h
    rw [zf_X16_run_L140] at h
    refine zw_iload_n hX dX16_run_140 rfl ?_
    refine zw_sipush (v := (400 : Int32)) hX dX16_run_141 (by decide) ?_
    refine zw_icmp_ge (tgt := 160) hX dX16_run_144 (by decide) (fun c144 => ?_) (fun c144 => ?_)
    · rw [if_pos c144] at h
      refine zw_sub (lv' := [(0, .ref a0)]) (List.forall_mem_cons.mpr ⟨rfl, zs_nil⟩) ?_
      exact hk  _ (Option.some.inj h).symm
    · rw [if_neg c144] at h
      refine zw_aload_n hX dX16_run_147 rfl ?_
      obtain ⟨b56, g, h⟩ := zb_some h
      refine zw_getr hX zl_X16_53 dX16_run_148 g ?_
      refine zw_iload_n hX dX16_run_151 rfl ?_
      refine zw_iconst (v := (0 : Int32)) hX dX16_run_152 (by decide) ?_
      obtain ⟨S57, g, h⟩ := zb_some h
      refine zw_si hX dX16_run_153 g ?_
      refine zw_iinc (v := (i1 + (1 : Int32))) hX dX16_run_154 rfl rfl (by decide) ?_
      refine zw_goto (tgt := 140) hX dX16_run_157 (by decide) ?_
      refine zw_sub (lv' := [(0, .ref a0), (1, .int (i1 + (1 : Int32)))]) (List.forall_mem_cons.mpr ⟨rfl, (List.forall_mem_cons.mpr ⟨rfl, zs_nil⟩)⟩) ?_
      exact ih _ _ h
def zf_X16_run_J171 (N : Nat) (a0 : Nat) (S : zm_S) : Option (Int32 × zm_S) := (zp S a0 16 9 (.int (1 : Int32))).bind (fun S60 => (zp S60 a0 16 10 (.int (1 : Int32))).bind (fun S61 => (zg_i S61 a0 16 17).bind (fun v62 => some (v62, S61))))
set_option maxHeartbeats 4000000 in
set_option maxRecDepth 100000 in
theorem zt_X16_run_J171 {p : Program} {l : Launch} {e : Env} {R : Room} {s : State} {m : MethodId} {args : Array Value} {below : List Frame} {meth : Method} {c : Code} {V : zm_V} {mc ms d rc rs : Nat} (hX : zm_X p R s m args meth c RX16 "run" cX16_run 2 zk_E V mc ms) (hr : meth.sig.returnType = (some .int)) (hR : R.frames = d ∧ R.locals = 64 * d) (hd : 5 ≤ d) {N : Nat} {a0 : Nat} {out : (Int32 × zm_S)} {S : zm_S} (h : zf_X16_run_J171 N a0 S = some out) : zw p l e R s m args below meth c (vx_MQ below (zm_Qc zk_E V (zo_i out)) (zm_XC zk_E V zo_x) args s mc ms (fun q => V.2.2.2.1 ≤ q)) 2 zk_E V mc ms 171 [(0, .ref a0)] [] S rc rs := by
  unfold zf_X16_run_J171 at h
  refine zw_aload_n hX dX16_run_171 rfl ?_
  refine zw_iconst (v := (1 : Int32)) hX dX16_run_172 (by decide) ?_
  obtain ⟨S60, g, h⟩ := zb_some h
  refine zw_putv hX zl_X16_183 zt_16_9 dX16_run_173 rfl (by decide) g ?_
  refine zw_aload_n hX dX16_run_176 rfl ?_
  refine zw_iconst (v := (1 : Int32)) hX dX16_run_177 (by decide) ?_
  obtain ⟨S61, g, h⟩ := zb_some h
  refine zw_putv hX zl_X16_108 zt_16_10 dX16_run_178 rfl (by decide) g ?_
  refine zw_aload_n hX dX16_run_181 rfl ?_
  obtain ⟨v62, g, h⟩ := zb_some h
  refine zw_geti hX zl_X16_171 dX16_run_182 g ?_
  obtain rfl := Option.some.inj h
  exact zw_iret hX hr dX16_run_185 rfl ⟨rfl, rfl⟩
def zf_X16_run (N : Nat) (a0 : Nat) (S : zm_S) : Option (Int32 × zm_S) := (zg_i S a0 16 11).bind (fun v1 => (zp S a0 16 11 (.int (v1 + (1 : Int32)))).bind (fun S2 => (zi S2 a0 16).bind (fun _ => (zf_X16_turn N a0 S2).bind (fun r5 => (zp r5.2 a0 16 12 (.int (0 : Int32))).bind (fun S6 => (zp S6 a0 16 13 (.int (0 : Int32))).bind (fun S7 => (zf_X16_run_L26 N N a0 (0 : Int32) S7).bind (fun r => match r with | .inl o => some o | .inr (_, S43) => (zi S43 a0 16).bind (fun _ => (zf_X16_fill N a0 S43).bind (fun r46 => (zi r46.2 a0 16).bind (fun _ => (zf_X16_findPoints N a0 r46.2).bind (fun r49 => (zi r49.2 a0 16).bind (fun _ => (zf_X16_findRings N a0 r49.2).bind (fun r52 => (zi r52.2 a0 16).bind (fun _ => (zf_X16_number N a0 r52.2).bind (fun r55 => (zf_X16_run_L140 N N a0 (0 : Int32) r55.2).bind (fun r => match r with | .inl o => some o | .inr (_, S58) => (zg_i S58 a0 16 18).bind (fun v59 => if v59 = 0 then zf_X16_run_J171 N a0 S58 else (zi S58 a0 16).bind (fun _ => (zf_X16_carry N a0 S58).bind (fun r65 => zf_X16_run_J171 N a0 r65.2)))))))))))))))))))
set_option maxHeartbeats 4000000 in
set_option maxRecDepth 100000 in
theorem zt_X16_run {l : Launch} {V : zm_V} {N : Nat} {S : zm_S} {out : (Int32 × zm_S)} {d : Nat} {a0 : Nat} (hd : 5 ≤ d) (h : zf_X16_run N a0 S = some out) : zm_Met l zk_E V yX16_run (.code yX16_run cX16_run 2 (some .int)) d [.ref a0] S 0 0 (zo_i out) zo_x := by
  refine zm_of (by decide +kernel) (Nat.le_of_ble_eq_true rfl) ?_
  intro p e R s m args below meth c hRR hX hr hxt
  have hR : R.frames = d ∧ R.locals = 64 * d := by rw [hRR]; exact ⟨rfl, rfl⟩
  have hX : zm_X p R s m args meth c RX16 "run" cX16_run 2 zk_E V 0 0 := hX
  unfold zf_X16_run at h
  refine zw_sub (lv' := [(0, .ref a0)]) (List.forall_mem_cons.mpr ⟨rfl, zs_nil⟩) ?_
  refine zw_aload_n hX dX16_run_0 rfl ?_
  refine zw_dup hX dX16_run_1 rfl ?_
  obtain ⟨v1, g, h⟩ := zb_some h
  refine zw_geti hX zl_X16_189 dX16_run_2 g ?_
  refine zw_iconst (v := (1 : Int32)) hX dX16_run_5 (by decide) ?_
  refine zw_iadd hX dX16_run_6 ?_
  obtain ⟨S2, g, h⟩ := zb_some h
  refine zw_putv hX zl_X16_189 zt_16_11 dX16_run_7 rfl rfl g ?_
  refine zw_aload_n hX dX16_run_10 rfl ?_
  obtain ⟨_, gi, h⟩ := zb_some h
  obtain ⟨r5, g, h⟩ := zb_some h
  refine zc_Vv (as := []) hX gi (zt_X16_turn (d := d - 1) (by omega) g) zl_X16_192 rfl dX16_run_11 ⟨rfl, rfl, Nat.le_of_ble_eq_true rfl⟩ ⟨by omega, by omega⟩ ?_
  refine zw_aload_n hX dX16_run_14 rfl ?_
  refine zw_iconst (v := (0 : Int32)) hX dX16_run_15 (by decide) ?_
  obtain ⟨S6, g, h⟩ := zb_some h
  refine zw_putv hX zl_X16_118 zt_16_12 dX16_run_16 rfl rfl g ?_
  refine zw_aload_n hX dX16_run_19 rfl ?_
  refine zw_iconst (v := (0 : Int32)) hX dX16_run_20 (by decide) ?_
  obtain ⟨S7, g, h⟩ := zb_some h
  refine zw_putv hX zl_X16_115 zt_16_13 dX16_run_21 rfl rfl g ?_
  refine zw_iconst (v := (0 : Int32)) hX dX16_run_24 (by decide) ?_
  refine zw_istore_n hX dX16_run_25 (by decide) ?_
  obtain ⟨r, g, h⟩ := zb_some h
  refine zw_sub (lv' := [(0, .ref a0), (1, .int (0 : Int32))]) (List.forall_mem_cons.mpr ⟨rfl, (List.forall_mem_cons.mpr ⟨rfl, zs_nil⟩)⟩) ?_
  refine zt_X16_run_L26 hX hr hR hd (res := r) (out := out) a0 ?_ ?_ N _ _ g
  · intro o ho
    subst ho
    exact Option.some.inj h
  · intro  S43 hx
    subst hx
    try dsimp only at h
    refine zw_aload_n hX dX16_run_122 rfl ?_
    obtain ⟨_, gi, h⟩ := zb_some h
    obtain ⟨r46, g, h⟩ := zb_some h
    refine zc_Vv (as := []) hX gi (zt_X16_fill (d := d - 1) (by omega) g) zl_X16_199 rfl dX16_run_123 ⟨rfl, rfl, Nat.le_of_ble_eq_true rfl⟩ ⟨by omega, by omega⟩ ?_
    refine zw_aload_n hX dX16_run_126 rfl ?_
    obtain ⟨_, gi, h⟩ := zb_some h
    obtain ⟨r49, g, h⟩ := zb_some h
    refine zc_Vv (as := []) hX gi (zt_X16_findPoints (d := d - 1) (by omega) g) zl_X16_202 rfl dX16_run_127 ⟨rfl, rfl, Nat.le_of_ble_eq_true rfl⟩ ⟨by omega, by omega⟩ ?_
    refine zw_aload_n hX dX16_run_130 rfl ?_
    obtain ⟨_, gi, h⟩ := zb_some h
    obtain ⟨r52, g, h⟩ := zb_some h
    refine zc_Vv (as := []) hX gi (zt_X16_findRings (d := d - 1) (by omega) g) zl_X16_205 rfl dX16_run_131 ⟨rfl, rfl, Nat.le_of_ble_eq_true rfl⟩ ⟨by omega, by omega⟩ ?_
    refine zw_aload_n hX dX16_run_134 rfl ?_
    obtain ⟨_, gi, h⟩ := zb_some h
    obtain ⟨r55, g, h⟩ := zb_some h
    refine zc_Vv (as := []) hX gi (zt_X16_number (d := d - 1) (by omega) g) zl_X16_208 rfl dX16_run_135 ⟨rfl, rfl, Nat.le_of_ble_eq_true rfl⟩ ⟨by omega, by omega⟩ ?_
    refine zw_iconst (v := (0 : Int32)) hX dX16_run_138 (by decide) ?_
    refine zw_istore_n hX dX16_run_139 (by decide) ?_
    obtain ⟨r, g, h⟩ := zb_some h
    refine zw_sub (lv' := [(0, .ref a0), (1, .int (0 : Int32))]) (List.forall_mem_cons.mpr ⟨rfl, (List.forall_mem_cons.mpr ⟨rfl, zs_nil⟩)⟩) ?_
    refine zt_X16_run_L140 hX hr hR hd (res := r) (out := out) a0 ?_ ?_ N _ _ g
    · intro o ho
      subst ho
      exact Option.some.inj h
    · intro  S58 hx
      subst hx
      try dsimp only at h
      refine zw_aload_n hX dX16_run_160 rfl ?_
      obtain ⟨v59, g, h⟩ := zb_some h
      refine zw_geti hX zl_X16_186 dX16_run_161 g ?_
      refine zw_if_eq (tgt := 171) hX dX16_run_164 (by decide) (fun c164 => ?_) (fun c164 => ?_)
      · rw [if_pos c164] at h
        refine zw_sub (lv' := [(0, .ref a0)]) (List.forall_mem_cons.mpr ⟨rfl, zs_nil⟩) ?_
        exact zt_X16_run_J171 hX hr hR hd h
      · rw [if_neg c164] at h
        refine zw_aload_n hX dX16_run_167 rfl ?_
        obtain ⟨_, gi, h⟩ := zb_some h
        obtain ⟨r65, g, h⟩ := zb_some h
        refine zc_Vv (as := []) hX gi (zt_X16_carry (d := d - 1) (by omega) g) zl_X16_211 rfl dX16_run_168 ⟨rfl, rfl, Nat.le_of_ble_eq_true rfl⟩ ⟨by omega, by omega⟩ ?_
        refine zw_sub (lv' := [(0, .ref a0)]) (List.forall_mem_cons.mpr ⟨rfl, zs_nil⟩) ?_
        exact zt_X16_run_J171 hX hr hR hd h
def zf_X16_isSpace (N : Nat) (a0 : Nat) (i1 : Int32) (S : zm_S) : Option (Int32 × zm_S) := (zg_i S a0 16 9).bind (fun v1 => if v1 = 0 then some ((0 : Int32), S) else if i1 < 0 then some ((0 : Int32), S) else (zg_i S a0 16 17).bind (fun v2 => if v2 ≤ i1 then some ((0 : Int32), S) else some ((1 : Int32), S)))
set_option maxHeartbeats 4000000 in
set_option maxRecDepth 100000 in
theorem zt_X16_isSpace {l : Launch} {V : zm_V} {N : Nat} {S : zm_S} {out : (Int32 × zm_S)} {d : Nat} {a0 : Nat} {i1 : Int32} (hd : 1 ≤ d) (h : zf_X16_isSpace N a0 i1 S = some out) : zm_Met l zk_E V yX16_isSpace (.code yX16_isSpace cX16_isSpace 2 (some .boolean)) d [.ref a0, .int i1] S 0 0 (zo_i out) zo_x := by
  refine zm_of (by decide +kernel) (Nat.le_of_ble_eq_true rfl) ?_
  intro p e R s m args below meth c hRR hX hr hxt
  have hR : R.frames = d ∧ R.locals = 64 * d := by rw [hRR]; exact ⟨rfl, rfl⟩
  have hX : zm_X p R s m args meth c RX16 "isSpace" cX16_isSpace 2 zk_E V 0 0 := hX
  unfold zf_X16_isSpace at h
  refine zw_sub (lv' := [(0, .ref a0), (1, .int i1)]) (List.forall_mem_cons.mpr ⟨rfl, (List.forall_mem_cons.mpr ⟨rfl, zs_nil⟩)⟩) ?_
  refine zw_aload_n hX dX16_isSpace_0 rfl ?_
  obtain ⟨v1, g, h⟩ := zb_some h
  refine zw_geti hX zl_X16_183 dX16_isSpace_1 g ?_
  refine zw_if_eq (tgt := 23) hX dX16_isSpace_4 (by decide) (fun c4 => ?_) (fun c4 => ?_)
  · rw [if_pos c4] at h
    refine zw_iconst (v := (0 : Int32)) hX dX16_isSpace_23 (by decide) ?_
    obtain rfl := Option.some.inj h
    exact zw_iret hX hr dX16_isSpace_24 rfl ⟨rfl, rfl⟩
  · rw [if_neg c4] at h
    refine zw_iload_n hX dX16_isSpace_7 rfl ?_
    refine zw_if_lt (tgt := 23) hX dX16_isSpace_8 (by decide) (fun c8 => ?_) (fun c8 => ?_)
    · rw [if_pos c8] at h
      refine zw_iconst (v := (0 : Int32)) hX dX16_isSpace_23 (by decide) ?_
      obtain rfl := Option.some.inj h
      exact zw_iret hX hr dX16_isSpace_24 rfl ⟨rfl, rfl⟩
    · rw [if_neg c8] at h
      refine zw_iload_n hX dX16_isSpace_11 rfl ?_
      refine zw_aload_n hX dX16_isSpace_12 rfl ?_
      obtain ⟨v2, g, h⟩ := zb_some h
      refine zw_geti hX zl_X16_171 dX16_isSpace_13 g ?_
      refine zw_icmp_ge (tgt := 23) hX dX16_isSpace_16 (by decide) (fun c16 => ?_) (fun c16 => ?_)
      · rw [if_pos c16] at h
        refine zw_iconst (v := (0 : Int32)) hX dX16_isSpace_23 (by decide) ?_
        obtain rfl := Option.some.inj h
        exact zw_iret hX hr dX16_isSpace_24 rfl ⟨rfl, rfl⟩
      · rw [if_neg c16] at h
        refine zw_iconst (v := (1 : Int32)) hX dX16_isSpace_19 (by decide) ?_
        refine zw_goto (tgt := 24) hX dX16_isSpace_20 (by decide) ?_
        obtain rfl := Option.some.inj h
        exact zw_iret hX hr dX16_isSpace_24 rfl ⟨rfl, rfl⟩
def zf_X16_isAny (N : Nat) (a0 : Nat) (i1 : Int32) (S : zm_S) : Option (Int32 × zm_S) := (zg_i S a0 16 9).bind (fun v1 => if v1 = 0 then some ((0 : Int32), S) else if i1 < (-1 : Int32) then some ((0 : Int32), S) else (zg_i S a0 16 17).bind (fun v2 => if v2 ≤ i1 then some ((0 : Int32), S) else some ((1 : Int32), S)))
set_option maxHeartbeats 4000000 in
set_option maxRecDepth 100000 in
theorem zt_X16_isAny {l : Launch} {V : zm_V} {N : Nat} {S : zm_S} {out : (Int32 × zm_S)} {d : Nat} {a0 : Nat} {i1 : Int32} (hd : 1 ≤ d) (h : zf_X16_isAny N a0 i1 S = some out) : zm_Met l zk_E V yX16_isAny (.code yX16_isAny cX16_isAny 2 (some .boolean)) d [.ref a0, .int i1] S 0 0 (zo_i out) zo_x := by
  refine zm_of (by decide +kernel) (Nat.le_of_ble_eq_true rfl) ?_
  intro p e R s m args below meth c hRR hX hr hxt
  have hR : R.frames = d ∧ R.locals = 64 * d := by rw [hRR]; exact ⟨rfl, rfl⟩
  have hX : zm_X p R s m args meth c RX16 "isAny" cX16_isAny 2 zk_E V 0 0 := hX
  unfold zf_X16_isAny at h
  refine zw_sub (lv' := [(0, .ref a0), (1, .int i1)]) (List.forall_mem_cons.mpr ⟨rfl, (List.forall_mem_cons.mpr ⟨rfl, zs_nil⟩)⟩) ?_
  refine zw_aload_n hX dX16_isAny_0 rfl ?_
  obtain ⟨v1, g, h⟩ := zb_some h
  refine zw_geti hX zl_X16_183 dX16_isAny_1 g ?_
  refine zw_if_eq (tgt := 24) hX dX16_isAny_4 (by decide) (fun c4 => ?_) (fun c4 => ?_)
  · rw [if_pos c4] at h
    refine zw_iconst (v := (0 : Int32)) hX dX16_isAny_24 (by decide) ?_
    obtain rfl := Option.some.inj h
    exact zw_iret hX hr dX16_isAny_25 rfl ⟨rfl, rfl⟩
  · rw [if_neg c4] at h
    refine zw_iload_n hX dX16_isAny_7 rfl ?_
    refine zw_iconst (v := (-1 : Int32)) hX dX16_isAny_8 (by decide) ?_
    refine zw_icmp_lt (tgt := 24) hX dX16_isAny_9 (by decide) (fun c9 => ?_) (fun c9 => ?_)
    · rw [if_pos c9] at h
      refine zw_iconst (v := (0 : Int32)) hX dX16_isAny_24 (by decide) ?_
      obtain rfl := Option.some.inj h
      exact zw_iret hX hr dX16_isAny_25 rfl ⟨rfl, rfl⟩
    · rw [if_neg c9] at h
      refine zw_iload_n hX dX16_isAny_12 rfl ?_
      refine zw_aload_n hX dX16_isAny_13 rfl ?_
      obtain ⟨v2, g, h⟩ := zb_some h
      refine zw_geti hX zl_X16_171 dX16_isAny_14 g ?_
      refine zw_icmp_ge (tgt := 24) hX dX16_isAny_17 (by decide) (fun c17 => ?_) (fun c17 => ?_)
      · rw [if_pos c17] at h
        refine zw_iconst (v := (0 : Int32)) hX dX16_isAny_24 (by decide) ?_
        obtain rfl := Option.some.inj h
        exact zw_iret hX hr dX16_isAny_25 rfl ⟨rfl, rfl⟩
      · rw [if_neg c17] at h
        refine zw_iconst (v := (1 : Int32)) hX dX16_isAny_20 (by decide) ?_
        refine zw_goto (tgt := 25) hX dX16_isAny_21 (by decide) ?_
        obtain rfl := Option.some.inj h
        exact zw_iret hX hr dX16_isAny_25 rfl ⟨rfl, rfl⟩
def zf_X16_outerSides_J28 (N : Nat) (k : Nat → Int32 → Int32 → zm_S → Option ((Int32 × zm_S) ⊕ ((Int32) × zm_S))) (a0 : Nat) (i2 : Int32) (t0 : Int32) (t1 : Int32) (S : zm_S) : Option ((Int32 × zm_S) ⊕ ((Int32) × zm_S)) := k a0 (t0 + t1) (i2 + (1 : Int32)) S
set_option maxHeartbeats 4000000 in
set_option maxRecDepth 100000 in
theorem zt_X16_outerSides_J28 {p : Program} {l : Launch} {e : Env} {R : Room} {s : State} {m : MethodId} {args : Array Value} {below : List Frame} {meth : Method} {c : Code} {V : zm_V} {mc ms d rc rs : Nat} (hX : zm_X p R s m args meth c RX16 "outerSides" cX16_outerSides 3 zk_E V mc ms) (hr : meth.sig.returnType = (some .int)) (hR : R.frames = d ∧ R.locals = 64 * d) (hd : 3 ≤ d) {N : Nat} {k : Nat → Int32 → Int32 → zm_S → Option ((Int32 × zm_S) ⊕ ((Int32) × zm_S))} {a0 : Nat} {i2 : Int32} {t0 : Int32} {t1 : Int32} {res : (Int32 × zm_S) ⊕ ((Int32) × zm_S)} {out : (Int32 × zm_S)}   (hf : ∀ o, res = .inl o → o = out) (hk : ∀ (x1 : Int32) (S' : zm_S), res = .inr (x1, S') → zw p l e R s m args below meth c (vx_MQ below (zm_Qc zk_E V (zo_i out)) (zm_XC zk_E V zo_x) args s mc ms (fun q => V.2.2.2.1 ≤ q)) 3 zk_E V mc ms 36 [(1, .int x1)] [] S' rc rs) (hrec : ∀ (i1' : Int32) (i2' : Int32) (S : zm_S), k a0 i1' i2' S = some res → zw p l e R s m args below meth c (vx_MQ below (zm_Qc zk_E V (zo_i out)) (zm_XC zk_E V zo_x) args s mc ms (fun q => V.2.2.2.1 ≤ q)) 3 zk_E V mc ms 4 [(0, .ref a0), (1, .int i1'), (2, .int i2')] [] S rc rs) {S : zm_S} (h : zf_X16_outerSides_J28 N k a0 i2 t0 t1 S = some res) : zw p l e R s m args below meth c (vx_MQ below (zm_Qc zk_E V (zo_i out)) (zm_XC zk_E V zo_x) args s mc ms (fun q => V.2.2.2.1 ≤ q)) 3 zk_E V mc ms 28 [(0, .ref a0), (2, .int i2)] [.int t1, .int t0] S rc rs := by
  unfold zf_X16_outerSides_J28 at h
  refine zw_iadd hX dX16_outerSides_28 ?_
  refine zw_istore_n hX dX16_outerSides_29 (by decide) ?_
  refine zw_iinc (v := (i2 + (1 : Int32))) hX dX16_outerSides_30 rfl rfl (by decide) ?_
  refine zw_goto (tgt := 4) hX dX16_outerSides_33 (by decide) ?_
  refine zw_sub (lv' := [(0, .ref a0), (1, .int (t0 + t1)), (2, .int (i2 + (1 : Int32)))]) (List.forall_mem_cons.mpr ⟨rfl, (List.forall_mem_cons.mpr ⟨rfl, (List.forall_mem_cons.mpr ⟨rfl, zs_nil⟩)⟩)⟩) ?_
  exact hrec _ _ _ h
def zf_X16_outerSides_L4 (N : Nat) : Nat → Nat → Int32 → Int32 → zm_S → Option ((Int32 × zm_S) ⊕ ((Int32) × zm_S))
  | 0, _, _, _, _ => none
  | n + 1, a0, i1, i2, S => (zg_i S a0 16 30).bind (fun v1 => if ((2 : Int32) * v1) ≤ i2 then some (.inr (i1, S)) else (zi S a0 16).bind (fun _ => (zf_X16_left N a0 i2 S).bind (fun r4 => if 0 ≤ r4.1 then zf_X16_outerSides_J28 N (zf_X16_outerSides_L4 N n) a0 i2 i1 (0 : Int32) r4.2 else zf_X16_outerSides_J28 N (zf_X16_outerSides_L4 N n) a0 i2 i1 (1 : Int32) r4.2)))
set_option maxHeartbeats 4000000 in
set_option maxRecDepth 100000 in
theorem zt_X16_outerSides_L4 {p : Program} {l : Launch} {e : Env} {R : Room} {s : State} {m : MethodId} {args : Array Value} {below : List Frame} {meth : Method} {c : Code} {V : zm_V} {mc ms d rc rs : Nat} (hX : zm_X p R s m args meth c RX16 "outerSides" cX16_outerSides 3 zk_E V mc ms) (hr : meth.sig.returnType = (some .int)) (hR : R.frames = d ∧ R.locals = 64 * d) (hd : 3 ≤ d) {N : Nat} {res : (Int32 × zm_S) ⊕ ((Int32) × zm_S)} {out : (Int32 × zm_S)} (a0 : Nat) (hf : ∀ o, res = .inl o → o = out) (hk : ∀ (x1 : Int32) (S' : zm_S), res = .inr (x1, S') → zw p l e R s m args below meth c (vx_MQ below (zm_Qc zk_E V (zo_i out)) (zm_XC zk_E V zo_x) args s mc ms (fun q => V.2.2.2.1 ≤ q)) 3 zk_E V mc ms 36 [(1, .int x1)] [] S' rc rs) : ∀ (n : Nat) (i1 : Int32) (i2 : Int32) (S : zm_S), zf_X16_outerSides_L4 N n a0 i1 i2 S = some res → zw p l e R s m args below meth c (vx_MQ below (zm_Qc zk_E V (zo_i out)) (zm_XC zk_E V zo_x) args s mc ms (fun q => V.2.2.2.1 ≤ q)) 3 zk_E V mc ms 4 [(0, .ref a0), (1, .int i1), (2, .int i2)] [] S rc rs := by
  intro n
  induction n with
  | zero => intro i1 i2 S h; cases h
  | succ n ih =>
    intro i1 i2 S h
    rw [zf_X16_outerSides_L4] at h
    refine zw_iload_n hX dX16_outerSides_4 rfl ?_
    refine zw_iconst (v := (2 : Int32)) hX dX16_outerSides_5 (by decide) ?_
    refine zw_aload_n hX dX16_outerSides_6 rfl ?_
    obtain ⟨v1, g, h⟩ := zb_some h
    refine zw_geti hX zl_X16_143 dX16_outerSides_7 g ?_
    refine zw_imul hX dX16_outerSides_10 ?_
    refine zw_icmp_ge (tgt := 36) hX dX16_outerSides_11 (by decide) (fun c11 => ?_) (fun c11 => ?_)
    · rw [if_pos c11] at h
      refine zw_sub (lv' := [(1, .int i1)]) (List.forall_mem_cons.mpr ⟨rfl, zs_nil⟩) ?_
      exact hk _ _ (Option.some.inj h).symm
    · rw [if_neg c11] at h
      refine zw_iload_n hX dX16_outerSides_14 rfl ?_
      refine zw_aload_n hX dX16_outerSides_15 rfl ?_
      refine zw_iload_n hX dX16_outerSides_16 rfl ?_
      obtain ⟨_, gi, h⟩ := zb_some h
      obtain ⟨r4, g, h⟩ := zb_some h
      refine zc_Vi (as := [.int i2]) hX gi (zt_X16_left (d := d - 1) (by omega) g) zl_X16_153 rfl dX16_outerSides_17 ⟨rfl, rfl, Nat.le_of_ble_eq_true rfl⟩ ⟨by omega, by omega⟩ ?_
      refine zw_if_ge (tgt := 27) hX dX16_outerSides_20 (by decide) (fun c20 => ?_) (fun c20 => ?_)
      · rw [if_pos c20] at h
        refine zw_iconst (v := (0 : Int32)) hX dX16_outerSides_27 (by decide) ?_
        refine zw_sub (lv' := [(0, .ref a0), (2, .int i2)]) (List.forall_mem_cons.mpr ⟨rfl, (List.forall_mem_cons.mpr ⟨rfl, zs_nil⟩)⟩) ?_
        exact zt_X16_outerSides_J28 hX hr hR hd hf hk ih h
      · rw [if_neg c20] at h
        refine zw_iconst (v := (1 : Int32)) hX dX16_outerSides_23 (by decide) ?_
        refine zw_goto (tgt := 28) hX dX16_outerSides_24 (by decide) ?_
        refine zw_sub (lv' := [(0, .ref a0), (2, .int i2)]) (List.forall_mem_cons.mpr ⟨rfl, (List.forall_mem_cons.mpr ⟨rfl, zs_nil⟩)⟩) ?_
        exact zt_X16_outerSides_J28 hX hr hR hd hf hk ih h
def zf_X16_outerSides (N : Nat) (a0 : Nat) (S : zm_S) : Option (Int32 × zm_S) := (zf_X16_outerSides_L4 N N a0 (0 : Int32) (0 : Int32) S).bind (fun r => match r with | .inl o => some o | .inr (v6, S5) => some (v6, S5))
set_option maxHeartbeats 4000000 in
set_option maxRecDepth 100000 in
theorem zt_X16_outerSides {l : Launch} {V : zm_V} {N : Nat} {S : zm_S} {out : (Int32 × zm_S)} {d : Nat} {a0 : Nat} (hd : 3 ≤ d) (h : zf_X16_outerSides N a0 S = some out) : zm_Met l zk_E V yX16_outerSides (.code yX16_outerSides cX16_outerSides 3 (some .int)) d [.ref a0] S 0 0 (zo_i out) zo_x := by
  refine zm_of (by decide +kernel) (Nat.le_of_ble_eq_true rfl) ?_
  intro p e R s m args below meth c hRR hX hr hxt
  have hR : R.frames = d ∧ R.locals = 64 * d := by rw [hRR]; exact ⟨rfl, rfl⟩
  have hX : zm_X p R s m args meth c RX16 "outerSides" cX16_outerSides 3 zk_E V 0 0 := hX
  unfold zf_X16_outerSides at h
  refine zw_sub (lv' := [(0, .ref a0)]) (List.forall_mem_cons.mpr ⟨rfl, zs_nil⟩) ?_
  refine zw_iconst (v := (0 : Int32)) hX dX16_outerSides_0 (by decide) ?_
  refine zw_istore_n hX dX16_outerSides_1 (by decide) ?_
  refine zw_iconst (v := (0 : Int32)) hX dX16_outerSides_2 (by decide) ?_
  refine zw_istore_n hX dX16_outerSides_3 (by decide) ?_
  obtain ⟨r, g, h⟩ := zb_some h
  refine zw_sub (lv' := [(0, .ref a0), (1, .int (0 : Int32)), (2, .int (0 : Int32))]) (List.forall_mem_cons.mpr ⟨rfl, (List.forall_mem_cons.mpr ⟨rfl, (List.forall_mem_cons.mpr ⟨rfl, zs_nil⟩)⟩)⟩) ?_
  refine zt_X16_outerSides_L4 hX hr hR hd (res := r) (out := out) a0 ?_ ?_ N _ _ _ g
  · intro o ho
    subst ho
    exact Option.some.inj h
  · intro v6 S5 hx
    subst hx
    try dsimp only at h
    refine zw_iload_n hX dX16_outerSides_36 rfl ?_
    obtain rfl := Option.some.inj h
    exact zw_iret hX hr dX16_outerSides_37 rfl ⟨rfl, rfl⟩
def zf_X16_ringsOf_J32 (N : Nat) (k : Nat → Int32 → Int32 → Int32 → zm_S → Option ((Int32 × zm_S) ⊕ ((Int32) × zm_S))) (a0 : Nat) (i1 : Int32) (i3 : Int32) (t0 : Int32) (t1 : Int32) (S : zm_S) : Option ((Int32 × zm_S) ⊕ ((Int32) × zm_S)) := k a0 i1 (t0 + t1) (i3 + (1 : Int32)) S
set_option maxHeartbeats 4000000 in
set_option maxRecDepth 100000 in
theorem zt_X16_ringsOf_J32 {p : Program} {l : Launch} {e : Env} {R : Room} {s : State} {m : MethodId} {args : Array Value} {below : List Frame} {meth : Method} {c : Code} {V : zm_V} {mc ms d rc rs : Nat} (hX : zm_X p R s m args meth c RX16 "ringsOf" cX16_ringsOf 4 zk_E V mc ms) (hr : meth.sig.returnType = (some .int)) (hR : R.frames = d ∧ R.locals = 64 * d) (hd : 3 ≤ d) {N : Nat} {k : Nat → Int32 → Int32 → Int32 → zm_S → Option ((Int32 × zm_S) ⊕ ((Int32) × zm_S))} {a0 : Nat} {i1 : Int32} {i3 : Int32} {t0 : Int32} {t1 : Int32} {res : (Int32 × zm_S) ⊕ ((Int32) × zm_S)} {out : (Int32 × zm_S)}   (hf : ∀ o, res = .inl o → o = out) (hk : ∀ (x2 : Int32) (S' : zm_S), res = .inr (x2, S') → zw p l e R s m args below meth c (vx_MQ below (zm_Qc zk_E V (zo_i out)) (zm_XC zk_E V zo_x) args s mc ms (fun q => V.2.2.2.1 ≤ q)) 4 zk_E V mc ms 40 [(2, .int x2)] [] S' rc rs) (hrec : ∀ (i2' : Int32) (i3' : Int32) (S : zm_S), k a0 i1 i2' i3' S = some res → zw p l e R s m args below meth c (vx_MQ below (zm_Qc zk_E V (zo_i out)) (zm_XC zk_E V zo_x) args s mc ms (fun q => V.2.2.2.1 ≤ q)) 4 zk_E V mc ms 4 [(0, .ref a0), (1, .int i1), (2, .int i2'), (3, .int i3')] [] S rc rs) {S : zm_S} (h : zf_X16_ringsOf_J32 N k a0 i1 i3 t0 t1 S = some res) : zw p l e R s m args below meth c (vx_MQ below (zm_Qc zk_E V (zo_i out)) (zm_XC zk_E V zo_x) args s mc ms (fun q => V.2.2.2.1 ≤ q)) 4 zk_E V mc ms 32 [(0, .ref a0), (1, .int i1), (3, .int i3)] [.int t1, .int t0] S rc rs := by
  unfold zf_X16_ringsOf_J32 at h
  refine zw_iadd hX dX16_ringsOf_32 ?_
  refine zw_istore_n hX dX16_ringsOf_33 (by decide) ?_
  refine zw_iinc (v := (i3 + (1 : Int32))) hX dX16_ringsOf_34 rfl rfl (by decide) ?_
  refine zw_goto (tgt := 4) hX dX16_ringsOf_37 (by decide) ?_
  refine zw_sub (lv' := [(0, .ref a0), (1, .int i1), (2, .int (t0 + t1)), (3, .int (i3 + (1 : Int32)))]) (List.forall_mem_cons.mpr ⟨rfl, (List.forall_mem_cons.mpr ⟨rfl, (List.forall_mem_cons.mpr ⟨rfl, (List.forall_mem_cons.mpr ⟨rfl, zs_nil⟩)⟩)⟩)⟩) ?_
  exact hrec _ _ _ h
def zf_X16_ringsOf_L4 (N : Nat) : Nat → Nat → Int32 → Int32 → Int32 → zm_S → Option ((Int32 × zm_S) ⊕ ((Int32) × zm_S))
  | 0, _, _, _, _, _ => none
  | n + 1, a0, i1, i2, i3, S => (zg_i S a0 16 35).bind (fun v1 => if v1 ≤ i3 then some (.inr (i2, S)) else (zg_r S a0 16 36).bind (fun b2 => (za_x S 0 b2 i3).bind (fun v3 => (zi S a0 16).bind (fun _ => (zf_X16_left N a0 v3 S).bind (fun r6 => if r6.1 = i1 then zf_X16_ringsOf_J32 N (zf_X16_ringsOf_L4 N n) a0 i1 i3 i2 (1 : Int32) r6.2 else zf_X16_ringsOf_J32 N (zf_X16_ringsOf_L4 N n) a0 i1 i3 i2 (0 : Int32) r6.2)))))
set_option maxHeartbeats 4000000 in
set_option maxRecDepth 100000 in
theorem zt_X16_ringsOf_L4 {p : Program} {l : Launch} {e : Env} {R : Room} {s : State} {m : MethodId} {args : Array Value} {below : List Frame} {meth : Method} {c : Code} {V : zm_V} {mc ms d rc rs : Nat} (hX : zm_X p R s m args meth c RX16 "ringsOf" cX16_ringsOf 4 zk_E V mc ms) (hr : meth.sig.returnType = (some .int)) (hR : R.frames = d ∧ R.locals = 64 * d) (hd : 3 ≤ d) {N : Nat} {res : (Int32 × zm_S) ⊕ ((Int32) × zm_S)} {out : (Int32 × zm_S)} (a0 : Nat) (i1 : Int32) (hf : ∀ o, res = .inl o → o = out) (hk : ∀ (x2 : Int32) (S' : zm_S), res = .inr (x2, S') → zw p l e R s m args below meth c (vx_MQ below (zm_Qc zk_E V (zo_i out)) (zm_XC zk_E V zo_x) args s mc ms (fun q => V.2.2.2.1 ≤ q)) 4 zk_E V mc ms 40 [(2, .int x2)] [] S' rc rs) : ∀ (n : Nat) (i2 : Int32) (i3 : Int32) (S : zm_S), zf_X16_ringsOf_L4 N n a0 i1 i2 i3 S = some res → zw p l e R s m args below meth c (vx_MQ below (zm_Qc zk_E V (zo_i out)) (zm_XC zk_E V zo_x) args s mc ms (fun q => V.2.2.2.1 ≤ q)) 4 zk_E V mc ms 4 [(0, .ref a0), (1, .int i1), (2, .int i2), (3, .int i3)] [] S rc rs := by
  intro n
  induction n with
  | zero => intro i2 i3 S h; cases h
  | succ n ih =>
    intro i2 i3 S h
    rw [zf_X16_ringsOf_L4] at h
    refine zw_iload_n hX dX16_ringsOf_4 rfl ?_
    refine zw_aload_n hX dX16_ringsOf_5 rfl ?_
    obtain ⟨v1, g, h⟩ := zb_some h
    refine zw_geti hX zl_X16_165 dX16_ringsOf_6 g ?_
    refine zw_icmp_ge (tgt := 40) hX dX16_ringsOf_9 (by decide) (fun c9 => ?_) (fun c9 => ?_)
    · rw [if_pos c9] at h
      refine zw_sub (lv' := [(2, .int i2)]) (List.forall_mem_cons.mpr ⟨rfl, zs_nil⟩) ?_
      exact hk _ _ (Option.some.inj h).symm
    · rw [if_neg c9] at h
      refine zw_iload_n hX dX16_ringsOf_12 rfl ?_
      refine zw_aload_n hX dX16_ringsOf_13 rfl ?_
      refine zw_aload_n hX dX16_ringsOf_14 rfl ?_
      obtain ⟨b2, g, h⟩ := zb_some h
      refine zw_getr hX zl_X16_77 dX16_ringsOf_15 g ?_
      refine zw_iload_n hX dX16_ringsOf_18 rfl ?_
      obtain ⟨v3, g, h⟩ := zb_some h
      refine zw_xi hX dX16_ringsOf_19 g ?_
      obtain ⟨_, gi, h⟩ := zb_some h
      obtain ⟨r6, g, h⟩ := zb_some h
      refine zc_Vi (as := [.int v3]) hX gi (zt_X16_left (d := d - 1) (by omega) g) zl_X16_153 rfl dX16_ringsOf_20 ⟨rfl, rfl, Nat.le_of_ble_eq_true rfl⟩ ⟨by omega, by omega⟩ ?_
      refine zw_iload_n hX dX16_ringsOf_23 rfl ?_
      refine zw_icmp_ne (tgt := 31) hX dX16_ringsOf_24 (by decide) (fun c24 => ?_) (fun c24 => ?_)
      · rw [if_neg c24] at h
        refine zw_iconst (v := (0 : Int32)) hX dX16_ringsOf_31 (by decide) ?_
        refine zw_sub (lv' := [(0, .ref a0), (1, .int i1), (3, .int i3)]) (List.forall_mem_cons.mpr ⟨rfl, (List.forall_mem_cons.mpr ⟨rfl, (List.forall_mem_cons.mpr ⟨rfl, zs_nil⟩)⟩)⟩) ?_
        exact zt_X16_ringsOf_J32 hX hr hR hd hf hk ih h
      · rw [if_pos c24] at h
        refine zw_iconst (v := (1 : Int32)) hX dX16_ringsOf_27 (by decide) ?_
        refine zw_goto (tgt := 32) hX dX16_ringsOf_28 (by decide) ?_
        refine zw_sub (lv' := [(0, .ref a0), (1, .int i1), (3, .int i3)]) (List.forall_mem_cons.mpr ⟨rfl, (List.forall_mem_cons.mpr ⟨rfl, (List.forall_mem_cons.mpr ⟨rfl, zs_nil⟩)⟩)⟩) ?_
        exact zt_X16_ringsOf_J32 hX hr hR hd hf hk ih h
def zf_X16_ringsOf (N : Nat) (a0 : Nat) (i1 : Int32) (S : zm_S) : Option (Int32 × zm_S) := (zf_X16_ringsOf_L4 N N a0 i1 (0 : Int32) (0 : Int32) S).bind (fun r => match r with | .inl o => some o | .inr (v8, S7) => some (v8, S7))
set_option maxHeartbeats 4000000 in
set_option maxRecDepth 100000 in
theorem zt_X16_ringsOf {l : Launch} {V : zm_V} {N : Nat} {S : zm_S} {out : (Int32 × zm_S)} {d : Nat} {a0 : Nat} {i1 : Int32} (hd : 3 ≤ d) (h : zf_X16_ringsOf N a0 i1 S = some out) : zm_Met l zk_E V yX16_ringsOf (.code yX16_ringsOf cX16_ringsOf 4 (some .int)) d [.ref a0, .int i1] S 0 0 (zo_i out) zo_x := by
  refine zm_of (by decide +kernel) (Nat.le_of_ble_eq_true rfl) ?_
  intro p e R s m args below meth c hRR hX hr hxt
  have hR : R.frames = d ∧ R.locals = 64 * d := by rw [hRR]; exact ⟨rfl, rfl⟩
  have hX : zm_X p R s m args meth c RX16 "ringsOf" cX16_ringsOf 4 zk_E V 0 0 := hX
  unfold zf_X16_ringsOf at h
  refine zw_sub (lv' := [(0, .ref a0), (1, .int i1)]) (List.forall_mem_cons.mpr ⟨rfl, (List.forall_mem_cons.mpr ⟨rfl, zs_nil⟩)⟩) ?_
  refine zw_iconst (v := (0 : Int32)) hX dX16_ringsOf_0 (by decide) ?_
  refine zw_istore_n hX dX16_ringsOf_1 (by decide) ?_
  refine zw_iconst (v := (0 : Int32)) hX dX16_ringsOf_2 (by decide) ?_
  refine zw_istore_n hX dX16_ringsOf_3 (by decide) ?_
  obtain ⟨r, g, h⟩ := zb_some h
  refine zw_sub (lv' := [(0, .ref a0), (1, .int i1), (2, .int (0 : Int32)), (3, .int (0 : Int32))]) (List.forall_mem_cons.mpr ⟨rfl, (List.forall_mem_cons.mpr ⟨rfl, (List.forall_mem_cons.mpr ⟨rfl, (List.forall_mem_cons.mpr ⟨rfl, zs_nil⟩)⟩)⟩)⟩) ?_
  refine zt_X16_ringsOf_L4 hX hr hR hd (res := r) (out := out) a0 i1 ?_ ?_ N _ _ _ g
  · intro o ho
    subst ho
    exact Option.some.inj h
  · intro v8 S7 hx
    subst hx
    try dsimp only at h
    refine zw_iload_n hX dX16_ringsOf_40 rfl ?_
    obtain rfl := Option.some.inj h
    exact zw_iret hX hr dX16_ringsOf_41 rfl ⟨rfl, rfl⟩
def zf_X16_ringOf_L5 (N : Nat) : Nat → Nat → Int32 → Int32 → Int32 → Int32 → zm_S → Option ((Int32 × zm_S) ⊕ ((Unit) × zm_S))
  | 0, _, _, _, _, _, _ => none
  | n + 1, a0, i1, i2, i3, i4, S => (zg_i S a0 16 35).bind (fun v1 => if v1 ≤ i4 then some (.inr ((), S)) else (zi S a0 16).bind (fun _ => (zf_X16_isSpace N a0 i1 S).bind (fun r4 => if r4.1 = 0 then some (.inr ((), r4.2)) else if i2 < 0 then some (.inr ((), r4.2)) else (zg_r r4.2 a0 16 36).bind (fun b5 => (za_x r4.2 0 b5 i4).bind (fun v6 => (zi r4.2 a0 16).bind (fun _ => (zf_X16_left N a0 v6 r4.2).bind (fun r9 => if r9.1 = i1 then if i3 = 0 then some (.inl (i4, r9.2)) else zf_X16_ringOf_L5 N n a0 i1 i2 (i3 + (-1 : Int32)) (i4 + (1 : Int32)) r9.2 else zf_X16_ringOf_L5 N n a0 i1 i2 i3 (i4 + (1 : Int32)) r9.2)))))))
set_option maxHeartbeats 4000000 in
set_option maxRecDepth 100000 in
theorem zt_X16_ringOf_L5 {p : Program} {l : Launch} {e : Env} {R : Room} {s : State} {m : MethodId} {args : Array Value} {below : List Frame} {meth : Method} {c : Code} {V : zm_V} {mc ms d rc rs : Nat} (hX : zm_X p R s m args meth c RX16 "ringOf" cX16_ringOf 5 zk_E V mc ms) (hr : meth.sig.returnType = (some .int)) (hR : R.frames = d ∧ R.locals = 64 * d) (hd : 3 ≤ d) {N : Nat} {res : (Int32 × zm_S) ⊕ ((Unit) × zm_S)} {out : (Int32 × zm_S)} (a0 : Nat) (i1 : Int32) (i2 : Int32) (hf : ∀ o, res = .inl o → o = out) (hk : ∀ (S' : zm_S), res = .inr ((), S') → zw p l e R s m args below meth c (vx_MQ below (zm_Qc zk_E V (zo_i out)) (zm_XC zk_E V zo_x) args s mc ms (fun q => V.2.2.2.1 ≤ q)) 5 zk_E V mc ms 57 [] [] S' rc rs) : ∀ (n : Nat) (i3 : Int32) (i4 : Int32) (S : zm_S), zf_X16_ringOf_L5 N n a0 i1 i2 i3 i4 S = some res → zw p l e R s m args below meth c (vx_MQ below (zm_Qc zk_E V (zo_i out)) (zm_XC zk_E V zo_x) args s mc ms (fun q => V.2.2.2.1 ≤ q)) 5 zk_E V mc ms 5 [(0, .ref a0), (1, .int i1), (2, .int i2), (3, .int i3), (4, .int i4)] [] S rc rs := by
  intro n
  induction n with
  | zero => intro i3 i4 S h; cases h
  | succ n ih =>
    intro i3 i4 S h
    rw [zf_X16_ringOf_L5] at h
    refine zw_iload hX dX16_ringOf_5 rfl ?_
    refine zw_aload_n hX dX16_ringOf_7 rfl ?_
    obtain ⟨v1, g, h⟩ := zb_some h
    refine zw_geti hX zl_X16_165 dX16_ringOf_8 g ?_
    refine zw_icmp_ge (tgt := 57) hX dX16_ringOf_11 (by decide) (fun c11 => ?_) (fun c11 => ?_)
    · rw [if_pos c11] at h
      refine zw_sub (lv' := []) zs_nil ?_
      exact hk  _ (Option.some.inj h).symm
    · rw [if_neg c11] at h
      refine zw_aload_n hX dX16_ringOf_14 rfl ?_
      refine zw_iload_n hX dX16_ringOf_15 rfl ?_
      obtain ⟨_, gi, h⟩ := zb_some h
      obtain ⟨r4, g, h⟩ := zb_some h
      refine zc_Vi (as := [.int i1]) hX gi (zt_X16_isSpace (d := d - 1) (by omega) g) zl_X16_221 rfl dX16_ringOf_16 ⟨rfl, rfl, Nat.le_of_ble_eq_true rfl⟩ ⟨by omega, by omega⟩ ?_
      refine zw_if_eq (tgt := 57) hX dX16_ringOf_19 (by decide) (fun c19 => ?_) (fun c19 => ?_)
      · rw [if_pos c19] at h
        refine zw_sub (lv' := []) zs_nil ?_
        exact hk  _ (Option.some.inj h).symm
      · rw [if_neg c19] at h
        refine zw_iload_n hX dX16_ringOf_22 rfl ?_
        refine zw_if_lt (tgt := 57) hX dX16_ringOf_23 (by decide) (fun c23 => ?_) (fun c23 => ?_)
        · rw [if_pos c23] at h
          refine zw_sub (lv' := []) zs_nil ?_
          exact hk  _ (Option.some.inj h).symm
        · rw [if_neg c23] at h
          refine zw_aload_n hX dX16_ringOf_26 rfl ?_
          refine zw_aload_n hX dX16_ringOf_27 rfl ?_
          obtain ⟨b5, g, h⟩ := zb_some h
          refine zw_getr hX zl_X16_77 dX16_ringOf_28 g ?_
          refine zw_iload hX dX16_ringOf_31 rfl ?_
          obtain ⟨v6, g, h⟩ := zb_some h
          refine zw_xi hX dX16_ringOf_33 g ?_
          obtain ⟨_, gi, h⟩ := zb_some h
          obtain ⟨r9, g, h⟩ := zb_some h
          refine zc_Vi (as := [.int v6]) hX gi (zt_X16_left (d := d - 1) (by omega) g) zl_X16_153 rfl dX16_ringOf_34 ⟨rfl, rfl, Nat.le_of_ble_eq_true rfl⟩ ⟨by omega, by omega⟩ ?_
          refine zw_iload_n hX dX16_ringOf_37 rfl ?_
          refine zw_icmp_ne (tgt := 51) hX dX16_ringOf_38 (by decide) (fun c38 => ?_) (fun c38 => ?_)
          · rw [if_neg c38] at h
            refine zw_iinc (v := (i4 + (1 : Int32))) hX dX16_ringOf_51 rfl rfl (by decide) ?_
            refine zw_goto (tgt := 5) hX dX16_ringOf_54 (by decide) ?_
            refine zw_sub (lv' := [(0, .ref a0), (1, .int i1), (2, .int i2), (3, .int i3), (4, .int (i4 + (1 : Int32)))]) (List.forall_mem_cons.mpr ⟨rfl, (List.forall_mem_cons.mpr ⟨rfl, (List.forall_mem_cons.mpr ⟨rfl, (List.forall_mem_cons.mpr ⟨rfl, (List.forall_mem_cons.mpr ⟨rfl, zs_nil⟩)⟩)⟩)⟩)⟩) ?_
            exact ih _ _ _ h
          · rw [if_pos c38] at h
            refine zw_iload_n hX dX16_ringOf_41 rfl ?_
            refine zw_if_ne (tgt := 48) hX dX16_ringOf_42 (by decide) (fun c42 => ?_) (fun c42 => ?_)
            · rw [if_neg c42] at h
              refine zw_iinc (v := (i3 + (-1 : Int32))) hX dX16_ringOf_48 rfl rfl (by decide) ?_
              refine zw_iinc (v := (i4 + (1 : Int32))) hX dX16_ringOf_51 rfl rfl (by decide) ?_
              refine zw_goto (tgt := 5) hX dX16_ringOf_54 (by decide) ?_
              refine zw_sub (lv' := [(0, .ref a0), (1, .int i1), (2, .int i2), (3, .int (i3 + (-1 : Int32))), (4, .int (i4 + (1 : Int32)))]) (List.forall_mem_cons.mpr ⟨rfl, (List.forall_mem_cons.mpr ⟨rfl, (List.forall_mem_cons.mpr ⟨rfl, (List.forall_mem_cons.mpr ⟨rfl, (List.forall_mem_cons.mpr ⟨rfl, zs_nil⟩)⟩)⟩)⟩)⟩) ?_
              exact ih _ _ _ h
            · rw [if_pos c42] at h
              refine zw_iload hX dX16_ringOf_45 rfl ?_
              have hz := hf _ (Option.some.inj h).symm
              subst hz
              exact zw_iret hX hr dX16_ringOf_47 rfl ⟨rfl, rfl⟩
def zf_X16_ringOf (N : Nat) (a0 : Nat) (i1 : Int32) (i2 : Int32) (S : zm_S) : Option (Int32 × zm_S) := (zf_X16_ringOf_L5 N N a0 i1 i2 i2 (0 : Int32) S).bind (fun r => match r with | .inl o => some o | .inr (_, S10) => some ((-1 : Int32), S10))
set_option maxHeartbeats 4000000 in
set_option maxRecDepth 100000 in
theorem zt_X16_ringOf {l : Launch} {V : zm_V} {N : Nat} {S : zm_S} {out : (Int32 × zm_S)} {d : Nat} {a0 : Nat} {i1 : Int32} {i2 : Int32} (hd : 3 ≤ d) (h : zf_X16_ringOf N a0 i1 i2 S = some out) : zm_Met l zk_E V yX16_ringOf (.code yX16_ringOf cX16_ringOf 5 (some .int)) d [.ref a0, .int i1, .int i2] S 0 0 (zo_i out) zo_x := by
  refine zm_of (by decide +kernel) (Nat.le_of_ble_eq_true rfl) ?_
  intro p e R s m args below meth c hRR hX hr hxt
  have hR : R.frames = d ∧ R.locals = 64 * d := by rw [hRR]; exact ⟨rfl, rfl⟩
  have hX : zm_X p R s m args meth c RX16 "ringOf" cX16_ringOf 5 zk_E V 0 0 := hX
  unfold zf_X16_ringOf at h
  refine zw_sub (lv' := [(0, .ref a0), (1, .int i1), (2, .int i2)]) (List.forall_mem_cons.mpr ⟨rfl, (List.forall_mem_cons.mpr ⟨rfl, (List.forall_mem_cons.mpr ⟨rfl, zs_nil⟩)⟩)⟩) ?_
  refine zw_iload_n hX dX16_ringOf_0 rfl ?_
  refine zw_istore_n hX dX16_ringOf_1 (by decide) ?_
  refine zw_iconst (v := (0 : Int32)) hX dX16_ringOf_2 (by decide) ?_
  refine zw_istore hX dX16_ringOf_3 (by decide) ?_
  obtain ⟨r, g, h⟩ := zb_some h
  refine zw_sub (lv' := [(0, .ref a0), (1, .int i1), (2, .int i2), (3, .int i2), (4, .int (0 : Int32))]) (List.forall_mem_cons.mpr ⟨rfl, (List.forall_mem_cons.mpr ⟨rfl, (List.forall_mem_cons.mpr ⟨rfl, (List.forall_mem_cons.mpr ⟨rfl, (List.forall_mem_cons.mpr ⟨rfl, zs_nil⟩)⟩)⟩)⟩)⟩) ?_
  refine zt_X16_ringOf_L5 hX hr hR hd (res := r) (out := out) a0 i1 i2 ?_ ?_ N _ _ _ g
  · intro o ho
    subst ho
    exact Option.some.inj h
  · intro  S10 hx
    subst hx
    try dsimp only at h
    refine zw_iconst (v := (-1 : Int32)) hX dX16_ringOf_57 (by decide) ?_
    obtain rfl := Option.some.inj h
    exact zw_iret hX hr dX16_ringOf_58 rfl ⟨rfl, rfl⟩
def zf_X16_sides (N : Nat) (a0 : Nat) (i1 : Int32) (i2 : Int32) (S : zm_S) : Option (Int32 × zm_S) := (zi S a0 16).bind (fun _ => (zf_X16_ringOf N a0 i1 i2 S).bind (fun r3 => if 0 ≤ r3.1 then (zg_r r3.2 a0 16 37).bind (fun b4 => (za_x r3.2 0 b4 r3.1).bind (fun v5 => some (v5, r3.2))) else some ((0 : Int32), r3.2)))
set_option maxHeartbeats 4000000 in
set_option maxRecDepth 100000 in
theorem zt_X16_sides {l : Launch} {V : zm_V} {N : Nat} {S : zm_S} {out : (Int32 × zm_S)} {d : Nat} {a0 : Nat} {i1 : Int32} {i2 : Int32} (hd : 4 ≤ d) (h : zf_X16_sides N a0 i1 i2 S = some out) : zm_Met l zk_E V yX16_sides (.code yX16_sides cX16_sides 4 (some .int)) d [.ref a0, .int i1, .int i2] S 0 0 (zo_i out) zo_x := by
  refine zm_of (by decide +kernel) (Nat.le_of_ble_eq_true rfl) ?_
  intro p e R s m args below meth c hRR hX hr hxt
  have hR : R.frames = d ∧ R.locals = 64 * d := by rw [hRR]; exact ⟨rfl, rfl⟩
  have hX : zm_X p R s m args meth c RX16 "sides" cX16_sides 4 zk_E V 0 0 := hX
  unfold zf_X16_sides at h
  refine zw_sub (lv' := [(0, .ref a0), (1, .int i1), (2, .int i2)]) (List.forall_mem_cons.mpr ⟨rfl, (List.forall_mem_cons.mpr ⟨rfl, (List.forall_mem_cons.mpr ⟨rfl, zs_nil⟩)⟩)⟩) ?_
  refine zw_aload_n hX dX16_sides_0 rfl ?_
  refine zw_iload_n hX dX16_sides_1 rfl ?_
  refine zw_iload_n hX dX16_sides_2 rfl ?_
  obtain ⟨_, gi, h⟩ := zb_some h
  obtain ⟨r3, g, h⟩ := zb_some h
  refine zc_Vi (as := [.int i1, .int i2]) hX gi (zt_X16_ringOf (d := d - 1) (by omega) g) zl_X16_224 rfl dX16_sides_3 ⟨rfl, rfl, Nat.le_of_ble_eq_true rfl⟩ ⟨by omega, by omega⟩ ?_
  refine zw_istore_n hX dX16_sides_6 (by decide) ?_
  refine zw_iload_n hX dX16_sides_7 rfl ?_
  refine zw_if_ge (tgt := 15) hX dX16_sides_8 (by decide) (fun c8 => ?_) (fun c8 => ?_)
  · rw [if_pos c8] at h
    refine zw_aload_n hX dX16_sides_15 rfl ?_
    obtain ⟨b4, g, h⟩ := zb_some h
    refine zw_getr hX zl_X16_80 dX16_sides_16 g ?_
    refine zw_iload_n hX dX16_sides_19 rfl ?_
    obtain ⟨v5, g, h⟩ := zb_some h
    refine zw_xi hX dX16_sides_20 g ?_
    obtain rfl := Option.some.inj h
    exact zw_iret hX hr dX16_sides_21 rfl ⟨rfl, rfl⟩
  · rw [if_neg c8] at h
    refine zw_iconst (v := (0 : Int32)) hX dX16_sides_11 (by decide) ?_
    refine zw_goto (tgt := 21) hX dX16_sides_12 (by decide) ?_
    obtain rfl := Option.some.inj h
    exact zw_iret hX hr dX16_sides_21 rfl ⟨rfl, rfl⟩
def zf_X16_side_L16 (N : Nat) : Nat → Nat → Int32 → Int32 → Int32 → Int32 → zm_S → Option ((Int32 × zm_S) ⊕ ((Int32) × zm_S))
  | 0, _, _, _, _, _, _ => none
  | n + 1, a0, i3, i4, i5, i6, S => if i3 ≤ i6 then some (.inr (i5, S)) else (zi S a0 16).bind (fun _ => (zf_X16_next N a0 i5 S).bind (fun r8 => zf_X16_side_L16 N n a0 i3 i4 r8.1 (i6 + (1 : Int32)) r8.2))
set_option maxHeartbeats 4000000 in
set_option maxRecDepth 100000 in
theorem zt_X16_side_L16 {p : Program} {l : Launch} {e : Env} {R : Room} {s : State} {m : MethodId} {args : Array Value} {below : List Frame} {meth : Method} {c : Code} {V : zm_V} {mc ms d rc rs : Nat} (hX : zm_X p R s m args meth c RX16 "side" cX16_side 7 zk_E V mc ms) (hr : meth.sig.returnType = (some .int)) (hR : R.frames = d ∧ R.locals = 64 * d) (hd : 4 ≤ d) {N : Nat} {res : (Int32 × zm_S) ⊕ ((Int32) × zm_S)} {out : (Int32 × zm_S)} (a0 : Nat) (i3 : Int32) (i4 : Int32) (hf : ∀ o, res = .inl o → o = out) (hk : ∀ (x5 : Int32) (S' : zm_S), res = .inr (x5, S') → zw p l e R s m args below meth c (vx_MQ below (zm_Qc zk_E V (zo_i out)) (zm_XC zk_E V zo_x) args s mc ms (fun q => V.2.2.2.1 ≤ q)) 7 zk_E V mc ms 36 [(0, .ref a0), (4, .int i4), (5, .int x5)] [] S' rc rs) : ∀ (n : Nat) (i5 : Int32) (i6 : Int32) (S : zm_S), zf_X16_side_L16 N n a0 i3 i4 i5 i6 S = some res → zw p l e R s m args below meth c (vx_MQ below (zm_Qc zk_E V (zo_i out)) (zm_XC zk_E V zo_x) args s mc ms (fun q => V.2.2.2.1 ≤ q)) 7 zk_E V mc ms 16 [(0, .ref a0), (3, .int i3), (4, .int i4), (5, .int i5), (6, .int i6)] [] S rc rs := by
  intro n
  induction n with
  | zero => intro i5 i6 S h; cases h
  | succ n ih =>
    intro i5 i6 S h
    rw [zf_X16_side_L16] at h
    refine zw_iload hX dX16_side_16 rfl ?_
    refine zw_iload_n hX dX16_side_18 rfl ?_
    refine zw_icmp_ge (tgt := 36) hX dX16_side_19 (by decide) (fun c19 => ?_) (fun c19 => ?_)
    · rw [if_pos c19] at h
      refine zw_sub (lv' := [(0, .ref a0), (4, .int i4), (5, .int i5)]) (List.forall_mem_cons.mpr ⟨rfl, (List.forall_mem_cons.mpr ⟨rfl, (List.forall_mem_cons.mpr ⟨rfl, zs_nil⟩)⟩)⟩) ?_
      exact hk _ _ (Option.some.inj h).symm
    · rw [if_neg c19] at h
      refine zw_aload_n hX dX16_side_22 rfl ?_
      refine zw_iload hX dX16_side_23 rfl ?_
      obtain ⟨_, gi, h⟩ := zb_some h
      obtain ⟨r8, g, h⟩ := zb_some h
      refine zc_Vi (as := [.int i5]) hX gi (zt_X16_next (d := d - 1) (by omega) g) zl_X16_168 rfl dX16_side_25 ⟨rfl, rfl, Nat.le_of_ble_eq_true rfl⟩ ⟨by omega, by omega⟩ ?_
      refine zw_istore hX dX16_side_28 (by decide) ?_
      refine zw_iinc (v := (i6 + (1 : Int32))) hX dX16_side_30 rfl rfl (by decide) ?_
      refine zw_goto (tgt := 16) hX dX16_side_33 (by decide) ?_
      refine zw_sub (lv' := [(0, .ref a0), (3, .int i3), (4, .int i4), (5, .int r8.1), (6, .int (i6 + (1 : Int32)))]) (List.forall_mem_cons.mpr ⟨rfl, (List.forall_mem_cons.mpr ⟨rfl, (List.forall_mem_cons.mpr ⟨rfl, (List.forall_mem_cons.mpr ⟨rfl, (List.forall_mem_cons.mpr ⟨rfl, zs_nil⟩)⟩)⟩)⟩)⟩) ?_
      exact ih _ _ _ h
def zf_X16_side (N : Nat) (a0 : Nat) (i1 : Int32) (i2 : Int32) (i3 : Int32) (i4 : Int32) (S : zm_S) : Option (Int32 × zm_S) := (zg_r S a0 16 36).bind (fun b1 => (zi S a0 16).bind (fun _ => (zf_X16_ringOf N a0 i1 i2 S).bind (fun r4 => (za_x r4.2 0 b1 r4.1).bind (fun v5 => (zf_X16_side_L16 N N a0 i3 i4 v5 (0 : Int32) r4.2).bind (fun r => match r with | .inl o => some o | .inr (v10, S9) => if (i4).toInt = 0 then (zg_r S9 a0 16 31).bind (fun b14 => (za_x S9 0 b14 (v10 / (2 : Int32))).bind (fun v15 => some (v15, S9))) else if (i4).toInt = 1 then (zg_r S9 a0 16 28).bind (fun b16 => (zi S9 a0 16).bind (fun _ => (zf_X16_sideFrom N a0 v10 S9).bind (fun r19 => (za_x r19.2 0 b16 r19.1).bind (fun v20 => some (v20, r19.2))))) else if (i4).toInt = 2 then (zg_r S9 a0 16 29).bind (fun b21 => (zi S9 a0 16).bind (fun _ => (zf_X16_sideFrom N a0 v10 S9).bind (fun r24 => (za_x r24.2 0 b21 r24.1).bind (fun v25 => some (v25, r24.2))))) else if (i4).toInt = 3 then (zg_r S9 a0 16 28).bind (fun b26 => (zi S9 a0 16).bind (fun _ => (zf_X16_sideTo N a0 v10 S9).bind (fun r29 => (za_x r29.2 0 b26 r29.1).bind (fun v30 => some (v30, r29.2))))) else if (i4).toInt = 4 then (zg_r S9 a0 16 29).bind (fun b31 => (zi S9 a0 16).bind (fun _ => (zf_X16_sideTo N a0 v10 S9).bind (fun r34 => (za_x r34.2 0 b31 r34.1).bind (fun v35 => some (v35, r34.2))))) else (zi S9 a0 16).bind (fun _ => (zf_X16_right N a0 v10 S9).bind (fun r13 => some (r13.1, r13.2))))))))
set_option maxHeartbeats 4000000 in
set_option maxRecDepth 100000 in
theorem zt_X16_side {l : Launch} {V : zm_V} {N : Nat} {S : zm_S} {out : (Int32 × zm_S)} {d : Nat} {a0 : Nat} {i1 : Int32} {i2 : Int32} {i3 : Int32} {i4 : Int32} (hd : 4 ≤ d) (h : zf_X16_side N a0 i1 i2 i3 i4 S = some out) : zm_Met l zk_E V yX16_side (.code yX16_side cX16_side 7 (some .int)) d [.ref a0, .int i1, .int i2, .int i3, .int i4] S 0 0 (zo_i out) zo_x := by
  refine zm_of (by decide +kernel) (Nat.le_of_ble_eq_true rfl) ?_
  intro p e R s m args below meth c hRR hX hr hxt
  have hR : R.frames = d ∧ R.locals = 64 * d := by rw [hRR]; exact ⟨rfl, rfl⟩
  have hX : zm_X p R s m args meth c RX16 "side" cX16_side 7 zk_E V 0 0 := hX
  unfold zf_X16_side at h
  refine zw_sub (lv' := [(0, .ref a0), (1, .int i1), (2, .int i2), (3, .int i3), (4, .int i4)]) (List.forall_mem_cons.mpr ⟨rfl, (List.forall_mem_cons.mpr ⟨rfl, (List.forall_mem_cons.mpr ⟨rfl, (List.forall_mem_cons.mpr ⟨rfl, (List.forall_mem_cons.mpr ⟨rfl, zs_nil⟩)⟩)⟩)⟩)⟩) ?_
  refine zw_aload_n hX dX16_side_0 rfl ?_
  obtain ⟨b1, g, h⟩ := zb_some h
  refine zw_getr hX zl_X16_77 dX16_side_1 g ?_
  refine zw_aload_n hX dX16_side_4 rfl ?_
  refine zw_iload_n hX dX16_side_5 rfl ?_
  refine zw_iload_n hX dX16_side_6 rfl ?_
  obtain ⟨_, gi, h⟩ := zb_some h
  obtain ⟨r4, g, h⟩ := zb_some h
  refine zc_Vi (as := [.int i1, .int i2]) hX gi (zt_X16_ringOf (d := d - 1) (by omega) g) zl_X16_224 rfl dX16_side_7 ⟨rfl, rfl, Nat.le_of_ble_eq_true rfl⟩ ⟨by omega, by omega⟩ ?_
  obtain ⟨v5, g, h⟩ := zb_some h
  refine zw_xi hX dX16_side_10 g ?_
  refine zw_istore hX dX16_side_11 (by decide) ?_
  refine zw_iconst (v := (0 : Int32)) hX dX16_side_13 (by decide) ?_
  refine zw_istore hX dX16_side_14 (by decide) ?_
  obtain ⟨r, g, h⟩ := zb_some h
  refine zw_sub (lv' := [(0, .ref a0), (3, .int i3), (4, .int i4), (5, .int v5), (6, .int (0 : Int32))]) (List.forall_mem_cons.mpr ⟨rfl, (List.forall_mem_cons.mpr ⟨rfl, (List.forall_mem_cons.mpr ⟨rfl, (List.forall_mem_cons.mpr ⟨rfl, (List.forall_mem_cons.mpr ⟨rfl, zs_nil⟩)⟩)⟩)⟩)⟩) ?_
  refine zt_X16_side_L16 hX hr hR hd (res := r) (out := out) a0 i3 i4 ?_ ?_ N _ _ _ g
  · intro o ho
    subst ho
    exact Option.some.inj h
  · intro v10 S9 hx
    subst hx
    try dsimp only at h
    refine zw_iload hX dX16_side_36 rfl ?_
    by_cases c38_0 : (i4).toInt = 0
    · rw [if_pos c38_0] at h
      refine zw_tableIn (off := 34) (tgt := 72) hX dX16_side_38 (by rw [c38_0]; decide) (by rw [c38_0]; decide) (by rw [c38_0]; decide) (by decide) ?_
      refine zw_aload_n hX dX16_side_72 rfl ?_
      obtain ⟨b14, g, h⟩ := zb_some h
      refine zw_getr hX zl_X16_65 dX16_side_73 g ?_
      refine zw_iload hX dX16_side_76 rfl ?_
      refine zw_iconst (v := (2 : Int32)) hX dX16_side_78 (by decide) ?_
      refine zw_idiv hX dX16_side_79 (by decide) ?_
      obtain ⟨v15, g, h⟩ := zb_some h
      refine zw_xi hX dX16_side_80 g ?_
      obtain rfl := Option.some.inj h
      exact zw_iret hX hr dX16_side_81 rfl ⟨rfl, rfl⟩
    rw [if_neg c38_0] at h
    by_cases c38_1 : (i4).toInt = 1
    · rw [if_pos c38_1] at h
      refine zw_tableIn (off := 44) (tgt := 82) hX dX16_side_38 (by rw [c38_1]; decide) (by rw [c38_1]; decide) (by rw [c38_1]; decide) (by decide) ?_
      refine zw_aload_n hX dX16_side_82 rfl ?_
      obtain ⟨b16, g, h⟩ := zb_some h
      refine zw_getr hX zl_X16_59 dX16_side_83 g ?_
      refine zw_aload_n hX dX16_side_86 rfl ?_
      refine zw_iload hX dX16_side_87 rfl ?_
      obtain ⟨_, gi, h⟩ := zb_some h
      obtain ⟨r19, g, h⟩ := zb_some h
      refine zc_Vi (as := [.int v10]) hX gi (zt_X16_sideFrom (d := d - 1) (by omega) g) zl_X16_156 rfl dX16_side_89 ⟨rfl, rfl, Nat.le_of_ble_eq_true rfl⟩ ⟨by omega, by omega⟩ ?_
      obtain ⟨v20, g, h⟩ := zb_some h
      refine zw_xi hX dX16_side_92 g ?_
      obtain rfl := Option.some.inj h
      exact zw_iret hX hr dX16_side_93 rfl ⟨rfl, rfl⟩
    rw [if_neg c38_1] at h
    by_cases c38_2 : (i4).toInt = 2
    · rw [if_pos c38_2] at h
      refine zw_tableIn (off := 56) (tgt := 94) hX dX16_side_38 (by rw [c38_2]; decide) (by rw [c38_2]; decide) (by rw [c38_2]; decide) (by decide) ?_
      refine zw_aload_n hX dX16_side_94 rfl ?_
      obtain ⟨b21, g, h⟩ := zb_some h
      refine zw_getr hX zl_X16_62 dX16_side_95 g ?_
      refine zw_aload_n hX dX16_side_98 rfl ?_
      refine zw_iload hX dX16_side_99 rfl ?_
      obtain ⟨_, gi, h⟩ := zb_some h
      obtain ⟨r24, g, h⟩ := zb_some h
      refine zc_Vi (as := [.int v10]) hX gi (zt_X16_sideFrom (d := d - 1) (by omega) g) zl_X16_156 rfl dX16_side_101 ⟨rfl, rfl, Nat.le_of_ble_eq_true rfl⟩ ⟨by omega, by omega⟩ ?_
      obtain ⟨v25, g, h⟩ := zb_some h
      refine zw_xi hX dX16_side_104 g ?_
      obtain rfl := Option.some.inj h
      exact zw_iret hX hr dX16_side_105 rfl ⟨rfl, rfl⟩
    rw [if_neg c38_2] at h
    by_cases c38_3 : (i4).toInt = 3
    · rw [if_pos c38_3] at h
      refine zw_tableIn (off := 68) (tgt := 106) hX dX16_side_38 (by rw [c38_3]; decide) (by rw [c38_3]; decide) (by rw [c38_3]; decide) (by decide) ?_
      refine zw_aload_n hX dX16_side_106 rfl ?_
      obtain ⟨b26, g, h⟩ := zb_some h
      refine zw_getr hX zl_X16_59 dX16_side_107 g ?_
      refine zw_aload_n hX dX16_side_110 rfl ?_
      refine zw_iload hX dX16_side_111 rfl ?_
      obtain ⟨_, gi, h⟩ := zb_some h
      obtain ⟨r29, g, h⟩ := zb_some h
      refine zc_Vi (as := [.int v10]) hX gi (zt_X16_sideTo (d := d - 1) (by omega) g) zl_X16_159 rfl dX16_side_113 ⟨rfl, rfl, Nat.le_of_ble_eq_true rfl⟩ ⟨by omega, by omega⟩ ?_
      obtain ⟨v30, g, h⟩ := zb_some h
      refine zw_xi hX dX16_side_116 g ?_
      obtain rfl := Option.some.inj h
      exact zw_iret hX hr dX16_side_117 rfl ⟨rfl, rfl⟩
    rw [if_neg c38_3] at h
    by_cases c38_4 : (i4).toInt = 4
    · rw [if_pos c38_4] at h
      refine zw_tableIn (off := 80) (tgt := 118) hX dX16_side_38 (by rw [c38_4]; decide) (by rw [c38_4]; decide) (by rw [c38_4]; decide) (by decide) ?_
      refine zw_aload_n hX dX16_side_118 rfl ?_
      obtain ⟨b31, g, h⟩ := zb_some h
      refine zw_getr hX zl_X16_62 dX16_side_119 g ?_
      refine zw_aload_n hX dX16_side_122 rfl ?_
      refine zw_iload hX dX16_side_123 rfl ?_
      obtain ⟨_, gi, h⟩ := zb_some h
      obtain ⟨r34, g, h⟩ := zb_some h
      refine zc_Vi (as := [.int v10]) hX gi (zt_X16_sideTo (d := d - 1) (by omega) g) zl_X16_159 rfl dX16_side_125 ⟨rfl, rfl, Nat.le_of_ble_eq_true rfl⟩ ⟨by omega, by omega⟩ ?_
      obtain ⟨v35, g, h⟩ := zb_some h
      refine zw_xi hX dX16_side_128 g ?_
      obtain rfl := Option.some.inj h
      exact zw_iret hX hr dX16_side_129 rfl ⟨rfl, rfl⟩
    rw [if_neg c38_4] at h
    refine zw_tableOut (tgt := 130) hX dX16_side_38 (by omega) (by decide) ?_
    refine zw_aload_n hX dX16_side_130 rfl ?_
    refine zw_iload hX dX16_side_131 rfl ?_
    obtain ⟨_, gi, h⟩ := zb_some h
    obtain ⟨r13, g, h⟩ := zb_some h
    refine zc_Vi (as := [.int v10]) hX gi (zt_X16_right (d := d - 1) (by omega) g) zl_X16_227 rfl dX16_side_133 ⟨rfl, rfl, Nat.le_of_ble_eq_true rfl⟩ ⟨by omega, by omega⟩ ?_
    obtain rfl := Option.some.inj h
    exact zw_iret hX hr dX16_side_136 rfl ⟨rfl, rfl⟩
def zf_X16_size_J83 (N : Nat) (k : Nat → Int32 → Int32 → Int32 → Int32 → Int32 → zm_S → Option ((Int32 × zm_S) ⊕ ((Int32) × zm_S))) (a0 : Nat) (i1 : Int32) (i2 : Int32) (i4 : Int32) (i5 : Int32) (t0 : Int32) (t1 : Int32) (S : zm_S) : Option ((Int32 × zm_S) ⊕ ((Int32) × zm_S)) := k a0 i1 i2 (t0 + t1) i4 (i5 + (1 : Int32)) S
set_option maxHeartbeats 4000000 in
set_option maxRecDepth 100000 in
theorem zt_X16_size_J83 {p : Program} {l : Launch} {e : Env} {R : Room} {s : State} {m : MethodId} {args : Array Value} {below : List Frame} {meth : Method} {c : Code} {V : zm_V} {mc ms d rc rs : Nat} (hX : zm_X p R s m args meth c RX16 "size" cX16_size 6 zk_E V mc ms) (hr : meth.sig.returnType = (some .int)) (hR : R.frames = d ∧ R.locals = 64 * d) (hd : 4 ≤ d) {N : Nat} {k : Nat → Int32 → Int32 → Int32 → Int32 → Int32 → zm_S → Option ((Int32 × zm_S) ⊕ ((Int32) × zm_S))} {a0 : Nat} {i1 : Int32} {i2 : Int32} {i4 : Int32} {i5 : Int32} {t0 : Int32} {t1 : Int32} {res : (Int32 × zm_S) ⊕ ((Int32) × zm_S)} {out : (Int32 × zm_S)}   (hf : ∀ o, res = .inl o → o = out) (hk : ∀ (x3 : Int32) (S' : zm_S), res = .inr (x3, S') → zw p l e R s m args below meth c (vx_MQ below (zm_Qc zk_E V (zo_i out)) (zm_XC zk_E V zo_x) args s mc ms (fun q => V.2.2.2.1 ≤ q)) 6 zk_E V mc ms 91 [(0, .ref a0), (1, .int i1), (2, .int i2), (3, .int x3), (4, .int i4)] [] S' rc rs) (hrec : ∀ (i3' : Int32) (i5' : Int32) (S : zm_S), k a0 i1 i2 i3' i4 i5' S = some res → zw p l e R s m args below meth c (vx_MQ below (zm_Qc zk_E V (zo_i out)) (zm_XC zk_E V zo_x) args s mc ms (fun q => V.2.2.2.1 ≤ q)) 6 zk_E V mc ms 17 [(0, .ref a0), (1, .int i1), (2, .int i2), (3, .int i3'), (4, .int i4), (5, .int i5')] [] S rc rs) {S : zm_S} (h : zf_X16_size_J83 N k a0 i1 i2 i4 i5 t0 t1 S = some res) : zw p l e R s m args below meth c (vx_MQ below (zm_Qc zk_E V (zo_i out)) (zm_XC zk_E V zo_x) args s mc ms (fun q => V.2.2.2.1 ≤ q)) 6 zk_E V mc ms 83 [(0, .ref a0), (1, .int i1), (2, .int i2), (4, .int i4), (5, .int i5)] [.int t1, .int t0] S rc rs := by
  unfold zf_X16_size_J83 at h
  refine zw_iadd hX dX16_size_83 ?_
  refine zw_istore_n hX dX16_size_84 (by decide) ?_
  refine zw_iinc (v := (i5 + (1 : Int32))) hX dX16_size_85 rfl rfl (by decide) ?_
  refine zw_goto (tgt := 17) hX dX16_size_88 (by decide) ?_
  refine zw_sub (lv' := [(0, .ref a0), (1, .int i1), (2, .int i2), (3, .int (t0 + t1)), (4, .int i4), (5, .int (i5 + (1 : Int32)))]) (List.forall_mem_cons.mpr ⟨rfl, (List.forall_mem_cons.mpr ⟨rfl, (List.forall_mem_cons.mpr ⟨rfl, (List.forall_mem_cons.mpr ⟨rfl, (List.forall_mem_cons.mpr ⟨rfl, (List.forall_mem_cons.mpr ⟨rfl, zs_nil⟩)⟩)⟩)⟩)⟩)⟩) ?_
  exact hrec _ _ _ h
def zf_X16_size_L17 (N : Nat) : Nat → Nat → Int32 → Int32 → Int32 → Int32 → Int32 → zm_S → Option ((Int32 × zm_S) ⊕ ((Int32) × zm_S))
  | 0, _, _, _, _, _, _, _ => none
  | n + 1, a0, i1, i2, i3, i4, i5, S => (zg_i S a0 16 12).bind (fun v2 => if v2 ≤ i5 then some (.inr (i3, S)) else (zg_r S a0 16 16).bind (fun b3 => (za_x S 0 b3 (((42 : Int32) * i4) + i5)).bind (fun v4 => if v4 = i1 then (zg_r S a0 16 14).bind (fun b5 => (za_x S 0 b5 i5).bind (fun v6 => (zg_r S a0 16 14).bind (fun b7 => (za_x S 0 b7 (i5 - (1 : Int32))).bind (fun v8 => (zg_r S a0 16 15).bind (fun b9 => (za_x S 0 b9 i4).bind (fun v10 => (zg_r S a0 16 15).bind (fun b11 => (za_x S 0 b11 (i4 - (1 : Int32))).bind (fun v12 => zf_X16_size_J83 N (zf_X16_size_L17 N n) a0 i1 i2 i4 i5 i3 ((v6 - v8) * (v10 - v12)) S)))))))) else zf_X16_size_J83 N (zf_X16_size_L17 N n) a0 i1 i2 i4 i5 i3 (0 : Int32) S)))
set_option maxHeartbeats 4000000 in
set_option maxRecDepth 100000 in
theorem zt_X16_size_L17 {p : Program} {l : Launch} {e : Env} {R : Room} {s : State} {m : MethodId} {args : Array Value} {below : List Frame} {meth : Method} {c : Code} {V : zm_V} {mc ms d rc rs : Nat} (hX : zm_X p R s m args meth c RX16 "size" cX16_size 6 zk_E V mc ms) (hr : meth.sig.returnType = (some .int)) (hR : R.frames = d ∧ R.locals = 64 * d) (hd : 4 ≤ d) {N : Nat} {res : (Int32 × zm_S) ⊕ ((Int32) × zm_S)} {out : (Int32 × zm_S)} (a0 : Nat) (i1 : Int32) (i2 : Int32) (i4 : Int32) (hf : ∀ o, res = .inl o → o = out) (hk : ∀ (x3 : Int32) (S' : zm_S), res = .inr (x3, S') → zw p l e R s m args below meth c (vx_MQ below (zm_Qc zk_E V (zo_i out)) (zm_XC zk_E V zo_x) args s mc ms (fun q => V.2.2.2.1 ≤ q)) 6 zk_E V mc ms 91 [(0, .ref a0), (1, .int i1), (2, .int i2), (3, .int x3), (4, .int i4)] [] S' rc rs) : ∀ (n : Nat) (i3 : Int32) (i5 : Int32) (S : zm_S), zf_X16_size_L17 N n a0 i1 i2 i3 i4 i5 S = some res → zw p l e R s m args below meth c (vx_MQ below (zm_Qc zk_E V (zo_i out)) (zm_XC zk_E V zo_x) args s mc ms (fun q => V.2.2.2.1 ≤ q)) 6 zk_E V mc ms 17 [(0, .ref a0), (1, .int i1), (2, .int i2), (3, .int i3), (4, .int i4), (5, .int i5)] [] S rc rs := by
  intro n
  induction n with
  | zero => intro i3 i5 S h; cases h
  | succ n ih =>
    intro i3 i5 S h
    rw [zf_X16_size_L17] at h
    refine zw_iload hX dX16_size_17 rfl ?_
    refine zw_aload_n hX dX16_size_19 rfl ?_
    obtain ⟨v2, g, h⟩ := zb_some h
    refine zw_geti hX zl_X16_118 dX16_size_20 g ?_
    refine zw_icmp_ge (tgt := 91) hX dX16_size_23 (by decide) (fun c23 => ?_) (fun c23 => ?_)
    · rw [if_pos c23] at h
      refine zw_sub (lv' := [(0, .ref a0), (1, .int i1), (2, .int i2), (3, .int i3), (4, .int i4)]) (List.forall_mem_cons.mpr ⟨rfl, (List.forall_mem_cons.mpr ⟨rfl, (List.forall_mem_cons.mpr ⟨rfl, (List.forall_mem_cons.mpr ⟨rfl, (List.forall_mem_cons.mpr ⟨rfl, zs_nil⟩)⟩)⟩)⟩)⟩) ?_
      exact hk _ _ (Option.some.inj h).symm
    · rw [if_neg c23] at h
      refine zw_iload_n hX dX16_size_26 rfl ?_
      refine zw_aload_n hX dX16_size_27 rfl ?_
      obtain ⟨b3, g, h⟩ := zb_some h
      refine zw_getr hX zl_X16_41 dX16_size_28 g ?_
      refine zw_bipush (v := (42 : Int32)) hX dX16_size_31 (by decide) ?_
      refine zw_iload hX dX16_size_33 rfl ?_
      refine zw_imul hX dX16_size_35 ?_
      refine zw_iload hX dX16_size_36 rfl ?_
      refine zw_iadd hX dX16_size_38 ?_
      obtain ⟨v4, g, h⟩ := zb_some h
      refine zw_xi hX dX16_size_39 g ?_
      refine zw_iload_n hX dX16_size_40 rfl ?_
      refine zw_icmp_ne (tgt := 82) hX dX16_size_41 (by decide) (fun c41 => ?_) (fun c41 => ?_)
      · rw [if_neg c41] at h
        refine zw_iconst (v := (0 : Int32)) hX dX16_size_82 (by decide) ?_
        refine zw_sub (lv' := [(0, .ref a0), (1, .int i1), (2, .int i2), (4, .int i4), (5, .int i5)]) (List.forall_mem_cons.mpr ⟨rfl, (List.forall_mem_cons.mpr ⟨rfl, (List.forall_mem_cons.mpr ⟨rfl, (List.forall_mem_cons.mpr ⟨rfl, (List.forall_mem_cons.mpr ⟨rfl, zs_nil⟩)⟩)⟩)⟩)⟩) ?_
        exact zt_X16_size_J83 hX hr hR hd hf hk ih h
      · rw [if_pos c41] at h
        refine zw_aload_n hX dX16_size_44 rfl ?_
        obtain ⟨b5, g, h⟩ := zb_some h
        refine zw_getr hX zl_X16_35 dX16_size_45 g ?_
        refine zw_iload hX dX16_size_48 rfl ?_
        obtain ⟨v6, g, h⟩ := zb_some h
        refine zw_xi hX dX16_size_50 g ?_
        refine zw_aload_n hX dX16_size_51 rfl ?_
        obtain ⟨b7, g, h⟩ := zb_some h
        refine zw_getr hX zl_X16_35 dX16_size_52 g ?_
        refine zw_iload hX dX16_size_55 rfl ?_
        refine zw_iconst (v := (1 : Int32)) hX dX16_size_57 (by decide) ?_
        refine zw_isub hX dX16_size_58 ?_
        obtain ⟨v8, g, h⟩ := zb_some h
        refine zw_xi hX dX16_size_59 g ?_
        refine zw_isub hX dX16_size_60 ?_
        refine zw_aload_n hX dX16_size_61 rfl ?_
        obtain ⟨b9, g, h⟩ := zb_some h
        refine zw_getr hX zl_X16_38 dX16_size_62 g ?_
        refine zw_iload hX dX16_size_65 rfl ?_
        obtain ⟨v10, g, h⟩ := zb_some h
        refine zw_xi hX dX16_size_67 g ?_
        refine zw_aload_n hX dX16_size_68 rfl ?_
        obtain ⟨b11, g, h⟩ := zb_some h
        refine zw_getr hX zl_X16_38 dX16_size_69 g ?_
        refine zw_iload hX dX16_size_72 rfl ?_
        refine zw_iconst (v := (1 : Int32)) hX dX16_size_74 (by decide) ?_
        refine zw_isub hX dX16_size_75 ?_
        obtain ⟨v12, g, h⟩ := zb_some h
        refine zw_xi hX dX16_size_76 g ?_
        refine zw_isub hX dX16_size_77 ?_
        refine zw_imul hX dX16_size_78 ?_
        refine zw_goto (tgt := 83) hX dX16_size_79 (by decide) ?_
        refine zw_sub (lv' := [(0, .ref a0), (1, .int i1), (2, .int i2), (4, .int i4), (5, .int i5)]) (List.forall_mem_cons.mpr ⟨rfl, (List.forall_mem_cons.mpr ⟨rfl, (List.forall_mem_cons.mpr ⟨rfl, (List.forall_mem_cons.mpr ⟨rfl, (List.forall_mem_cons.mpr ⟨rfl, zs_nil⟩)⟩)⟩)⟩)⟩) ?_
        exact zt_X16_size_J83 hX hr hR hd hf hk ih h
def zf_X16_size_L5 (N : Nat) : Nat → Nat → Int32 → Int32 → Int32 → Int32 → zm_S → Option ((Int32 × zm_S) ⊕ ((Int32) × zm_S))
  | 0, _, _, _, _, _, _ => none
  | n + 1, a0, i1, i2, i3, i4, S => (zg_i S a0 16 13).bind (fun v1 => if v1 ≤ i4 then some (.inr (i3, S)) else (zf_X16_size_L17 N N a0 i1 i2 i3 i4 (1 : Int32) S).bind (fun r => match r with | .inl o => some (.inl o) | .inr (v14, S13) => zf_X16_size_L5 N n a0 i1 i2 v14 (i4 + (1 : Int32)) S13))
set_option maxHeartbeats 4000000 in
set_option maxRecDepth 100000 in
theorem zt_X16_size_L5 {p : Program} {l : Launch} {e : Env} {R : Room} {s : State} {m : MethodId} {args : Array Value} {below : List Frame} {meth : Method} {c : Code} {V : zm_V} {mc ms d rc rs : Nat} (hX : zm_X p R s m args meth c RX16 "size" cX16_size 6 zk_E V mc ms) (hr : meth.sig.returnType = (some .int)) (hR : R.frames = d ∧ R.locals = 64 * d) (hd : 4 ≤ d) {N : Nat} {res : (Int32 × zm_S) ⊕ ((Int32) × zm_S)} {out : (Int32 × zm_S)} (a0 : Nat) (i1 : Int32) (i2 : Int32) (hf : ∀ o, res = .inl o → o = out) (hk : ∀ (x3 : Int32) (S' : zm_S), res = .inr (x3, S') → zw p l e R s m args below meth c (vx_MQ below (zm_Qc zk_E V (zo_i out)) (zm_XC zk_E V zo_x) args s mc ms (fun q => V.2.2.2.1 ≤ q)) 6 zk_E V mc ms 97 [(0, .ref a0), (1, .int i1), (2, .int i2), (3, .int x3)] [] S' rc rs) : ∀ (n : Nat) (i3 : Int32) (i4 : Int32) (S : zm_S), zf_X16_size_L5 N n a0 i1 i2 i3 i4 S = some res → zw p l e R s m args below meth c (vx_MQ below (zm_Qc zk_E V (zo_i out)) (zm_XC zk_E V zo_x) args s mc ms (fun q => V.2.2.2.1 ≤ q)) 6 zk_E V mc ms 5 [(0, .ref a0), (1, .int i1), (2, .int i2), (3, .int i3), (4, .int i4)] [] S rc rs := by
  intro n
  induction n with
  | zero => intro i3 i4 S h; cases h
  | succ n ih =>
    intro i3 i4 S h
    rw [zf_X16_size_L5] at h
    refine zw_iload hX dX16_size_5 rfl ?_
    refine zw_aload_n hX dX16_size_7 rfl ?_
    obtain ⟨v1, g, h⟩ := zb_some h
    refine zw_geti hX zl_X16_115 dX16_size_8 g ?_
    refine zw_icmp_ge (tgt := 97) hX dX16_size_11 (by decide) (fun c11 => ?_) (fun c11 => ?_)
    · rw [if_pos c11] at h
      refine zw_sub (lv' := [(0, .ref a0), (1, .int i1), (2, .int i2), (3, .int i3)]) (List.forall_mem_cons.mpr ⟨rfl, (List.forall_mem_cons.mpr ⟨rfl, (List.forall_mem_cons.mpr ⟨rfl, (List.forall_mem_cons.mpr ⟨rfl, zs_nil⟩)⟩)⟩)⟩) ?_
      exact hk _ _ (Option.some.inj h).symm
    · rw [if_neg c11] at h
      refine zw_iconst (v := (1 : Int32)) hX dX16_size_14 (by decide) ?_
      refine zw_istore hX dX16_size_15 (by decide) ?_
      obtain ⟨r, g, h⟩ := zb_some h
      refine zw_sub (lv' := [(0, .ref a0), (1, .int i1), (2, .int i2), (3, .int i3), (4, .int i4), (5, .int (1 : Int32))]) (List.forall_mem_cons.mpr ⟨rfl, (List.forall_mem_cons.mpr ⟨rfl, (List.forall_mem_cons.mpr ⟨rfl, (List.forall_mem_cons.mpr ⟨rfl, (List.forall_mem_cons.mpr ⟨rfl, (List.forall_mem_cons.mpr ⟨rfl, zs_nil⟩)⟩)⟩)⟩)⟩)⟩) ?_
      refine zt_X16_size_L17 hX hr hR hd (res := r) (out := out) a0 i1 i2 i4 ?_ ?_ N _ _ _ g
      · intro o ho
        subst ho
        exact hf _ (Option.some.inj h).symm
      · intro v14 S13 hx
        subst hx
        try dsimp only at h
        refine zw_iinc (v := (i4 + (1 : Int32))) hX dX16_size_91 rfl rfl (by decide) ?_
        refine zw_goto (tgt := 5) hX dX16_size_94 (by decide) ?_
        refine zw_sub (lv' := [(0, .ref a0), (1, .int i1), (2, .int i2), (3, .int v14), (4, .int (i4 + (1 : Int32)))]) (List.forall_mem_cons.mpr ⟨rfl, (List.forall_mem_cons.mpr ⟨rfl, (List.forall_mem_cons.mpr ⟨rfl, (List.forall_mem_cons.mpr ⟨rfl, (List.forall_mem_cons.mpr ⟨rfl, zs_nil⟩)⟩)⟩)⟩)⟩) ?_
        exact ih _ _ _ h
def zf_X16_size_J136 (N : Nat) (k : Nat → Int32 → Int32 → Int32 → Int32 → Int32 → zm_S → Option ((Int32 × zm_S) ⊕ ((Int32) × zm_S))) (a0 : Nat) (i1 : Int32) (i2 : Int32) (i3 : Int32) (i5 : Int32) (t0 : Int32) (t1 : Int32) (S : zm_S) : Option ((Int32 × zm_S) ⊕ ((Int32) × zm_S)) := k a0 i1 i2 i3 (t0 + t1) (i5 + (1 : Int32)) S
set_option maxHeartbeats 4000000 in
set_option maxRecDepth 100000 in
theorem zt_X16_size_J136 {p : Program} {l : Launch} {e : Env} {R : Room} {s : State} {m : MethodId} {args : Array Value} {below : List Frame} {meth : Method} {c : Code} {V : zm_V} {mc ms d rc rs : Nat} (hX : zm_X p R s m args meth c RX16 "size" cX16_size 6 zk_E V mc ms) (hr : meth.sig.returnType = (some .int)) (hR : R.frames = d ∧ R.locals = 64 * d) (hd : 4 ≤ d) {N : Nat} {k : Nat → Int32 → Int32 → Int32 → Int32 → Int32 → zm_S → Option ((Int32 × zm_S) ⊕ ((Int32) × zm_S))} {a0 : Nat} {i1 : Int32} {i2 : Int32} {i3 : Int32} {i5 : Int32} {t0 : Int32} {t1 : Int32} {res : (Int32 × zm_S) ⊕ ((Int32) × zm_S)} {out : (Int32 × zm_S)}   (hf : ∀ o, res = .inl o → o = out) (hk : ∀ (x4 : Int32) (S' : zm_S), res = .inr (x4, S') → zw p l e R s m args below meth c (vx_MQ below (zm_Qc zk_E V (zo_i out)) (zm_XC zk_E V zo_x) args s mc ms (fun q => V.2.2.2.1 ≤ q)) 6 zk_E V mc ms 145 [(0, .ref a0), (1, .int i1), (2, .int i2), (3, .int i3), (4, .int x4)] [] S' rc rs) (hrec : ∀ (i4' : Int32) (i5' : Int32) (S : zm_S), k a0 i1 i2 i3 i4' i5' S = some res → zw p l e R s m args below meth c (vx_MQ below (zm_Qc zk_E V (zo_i out)) (zm_XC zk_E V zo_x) args s mc ms (fun q => V.2.2.2.1 ≤ q)) 6 zk_E V mc ms 103 [(0, .ref a0), (1, .int i1), (2, .int i2), (3, .int i3), (4, .int i4'), (5, .int i5')] [] S rc rs) {S : zm_S} (h : zf_X16_size_J136 N k a0 i1 i2 i3 i5 t0 t1 S = some res) : zw p l e R s m args below meth c (vx_MQ below (zm_Qc zk_E V (zo_i out)) (zm_XC zk_E V zo_x) args s mc ms (fun q => V.2.2.2.1 ≤ q)) 6 zk_E V mc ms 136 [(0, .ref a0), (1, .int i1), (2, .int i2), (3, .int i3), (5, .int i5)] [.int t1, .int t0] S rc rs := by
  unfold zf_X16_size_J136 at h
  refine zw_iadd hX dX16_size_136 ?_
  refine zw_istore hX dX16_size_137 (by decide) ?_
  refine zw_iinc (v := (i5 + (1 : Int32))) hX dX16_size_139 rfl rfl (by decide) ?_
  refine zw_goto (tgt := 103) hX dX16_size_142 (by decide) ?_
  refine zw_sub (lv' := [(0, .ref a0), (1, .int i1), (2, .int i2), (3, .int i3), (4, .int (t0 + t1)), (5, .int (i5 + (1 : Int32)))]) (List.forall_mem_cons.mpr ⟨rfl, (List.forall_mem_cons.mpr ⟨rfl, (List.forall_mem_cons.mpr ⟨rfl, (List.forall_mem_cons.mpr ⟨rfl, (List.forall_mem_cons.mpr ⟨rfl, (List.forall_mem_cons.mpr ⟨rfl, zs_nil⟩)⟩)⟩)⟩)⟩)⟩) ?_
  exact hrec _ _ _ h
def zf_X16_size_L103 (N : Nat) : Nat → Nat → Int32 → Int32 → Int32 → Int32 → Int32 → zm_S → Option ((Int32 × zm_S) ⊕ ((Int32) × zm_S))
  | 0, _, _, _, _, _, _, _ => none
  | n + 1, a0, i1, i2, i3, i4, i5, S => (zg_i S a0 16 30).bind (fun v17 => if ((2 : Int32) * v17) ≤ i5 then some (.inr (i4, S)) else (zi S a0 16).bind (fun _ => (zf_X16_left N a0 i5 S).bind (fun r20 => if r20.1 = i1 then (zi r20.2 a0 16).bind (fun _ => (zf_X16_sideLength N a0 i5 r20.2).bind (fun r23 => zf_X16_size_J136 N (zf_X16_size_L103 N n) a0 i1 i2 i3 i5 i4 r23.1 r23.2)) else zf_X16_size_J136 N (zf_X16_size_L103 N n) a0 i1 i2 i3 i5 i4 (0 : Int32) r20.2)))
set_option maxHeartbeats 4000000 in
set_option maxRecDepth 100000 in
theorem zt_X16_size_L103 {p : Program} {l : Launch} {e : Env} {R : Room} {s : State} {m : MethodId} {args : Array Value} {below : List Frame} {meth : Method} {c : Code} {V : zm_V} {mc ms d rc rs : Nat} (hX : zm_X p R s m args meth c RX16 "size" cX16_size 6 zk_E V mc ms) (hr : meth.sig.returnType = (some .int)) (hR : R.frames = d ∧ R.locals = 64 * d) (hd : 4 ≤ d) {N : Nat} {res : (Int32 × zm_S) ⊕ ((Int32) × zm_S)} {out : (Int32 × zm_S)} (a0 : Nat) (i1 : Int32) (i2 : Int32) (i3 : Int32) (hf : ∀ o, res = .inl o → o = out) (hk : ∀ (x4 : Int32) (S' : zm_S), res = .inr (x4, S') → zw p l e R s m args below meth c (vx_MQ below (zm_Qc zk_E V (zo_i out)) (zm_XC zk_E V zo_x) args s mc ms (fun q => V.2.2.2.1 ≤ q)) 6 zk_E V mc ms 145 [(0, .ref a0), (1, .int i1), (2, .int i2), (3, .int i3), (4, .int x4)] [] S' rc rs) : ∀ (n : Nat) (i4 : Int32) (i5 : Int32) (S : zm_S), zf_X16_size_L103 N n a0 i1 i2 i3 i4 i5 S = some res → zw p l e R s m args below meth c (vx_MQ below (zm_Qc zk_E V (zo_i out)) (zm_XC zk_E V zo_x) args s mc ms (fun q => V.2.2.2.1 ≤ q)) 6 zk_E V mc ms 103 [(0, .ref a0), (1, .int i1), (2, .int i2), (3, .int i3), (4, .int i4), (5, .int i5)] [] S rc rs := by
  intro n
  induction n with
  | zero => intro i4 i5 S h; cases h
  | succ n ih =>
    intro i4 i5 S h
    rw [zf_X16_size_L103] at h
    refine zw_iload hX dX16_size_103 rfl ?_
    refine zw_iconst (v := (2 : Int32)) hX dX16_size_105 (by decide) ?_
    refine zw_aload_n hX dX16_size_106 rfl ?_
    obtain ⟨v17, g, h⟩ := zb_some h
    refine zw_geti hX zl_X16_143 dX16_size_107 g ?_
    refine zw_imul hX dX16_size_110 ?_
    refine zw_icmp_ge (tgt := 145) hX dX16_size_111 (by decide) (fun c111 => ?_) (fun c111 => ?_)
    · rw [if_pos c111] at h
      refine zw_sub (lv' := [(0, .ref a0), (1, .int i1), (2, .int i2), (3, .int i3), (4, .int i4)]) (List.forall_mem_cons.mpr ⟨rfl, (List.forall_mem_cons.mpr ⟨rfl, (List.forall_mem_cons.mpr ⟨rfl, (List.forall_mem_cons.mpr ⟨rfl, (List.forall_mem_cons.mpr ⟨rfl, zs_nil⟩)⟩)⟩)⟩)⟩) ?_
      exact hk _ _ (Option.some.inj h).symm
    · rw [if_neg c111] at h
      refine zw_iload hX dX16_size_114 rfl ?_
      refine zw_aload_n hX dX16_size_116 rfl ?_
      refine zw_iload hX dX16_size_117 rfl ?_
      obtain ⟨_, gi, h⟩ := zb_some h
      obtain ⟨r20, g, h⟩ := zb_some h
      refine zc_Vi (as := [.int i5]) hX gi (zt_X16_left (d := d - 1) (by omega) g) zl_X16_153 rfl dX16_size_119 ⟨rfl, rfl, Nat.le_of_ble_eq_true rfl⟩ ⟨by omega, by omega⟩ ?_
      refine zw_iload_n hX dX16_size_122 rfl ?_
      refine zw_icmp_ne (tgt := 135) hX dX16_size_123 (by decide) (fun c123 => ?_) (fun c123 => ?_)
      · rw [if_neg c123] at h
        refine zw_iconst (v := (0 : Int32)) hX dX16_size_135 (by decide) ?_
        refine zw_sub (lv' := [(0, .ref a0), (1, .int i1), (2, .int i2), (3, .int i3), (5, .int i5)]) (List.forall_mem_cons.mpr ⟨rfl, (List.forall_mem_cons.mpr ⟨rfl, (List.forall_mem_cons.mpr ⟨rfl, (List.forall_mem_cons.mpr ⟨rfl, (List.forall_mem_cons.mpr ⟨rfl, zs_nil⟩)⟩)⟩)⟩)⟩) ?_
        exact zt_X16_size_J136 hX hr hR hd hf hk ih h
      · rw [if_pos c123] at h
        refine zw_aload_n hX dX16_size_126 rfl ?_
        refine zw_iload hX dX16_size_127 rfl ?_
        obtain ⟨_, gi, h⟩ := zb_some h
        obtain ⟨r23, g, h⟩ := zb_some h
        refine zc_Vi (as := [.int i5]) hX gi (zt_X16_sideLength (d := d - 1) (by omega) g) zl_X16_230 rfl dX16_size_129 ⟨rfl, rfl, Nat.le_of_ble_eq_true rfl⟩ ⟨by omega, by omega⟩ ?_
        refine zw_goto (tgt := 136) hX dX16_size_132 (by decide) ?_
        refine zw_sub (lv' := [(0, .ref a0), (1, .int i1), (2, .int i2), (3, .int i3), (5, .int i5)]) (List.forall_mem_cons.mpr ⟨rfl, (List.forall_mem_cons.mpr ⟨rfl, (List.forall_mem_cons.mpr ⟨rfl, (List.forall_mem_cons.mpr ⟨rfl, (List.forall_mem_cons.mpr ⟨rfl, zs_nil⟩)⟩)⟩)⟩)⟩) ?_
        exact zt_X16_size_J136 hX hr hR hd hf hk ih h
def zf_X16_size (N : Nat) (a0 : Nat) (i1 : Int32) (i2 : Int32) (S : zm_S) : Option (Int32 × zm_S) := (zf_X16_size_L5 N N a0 i1 i2 (0 : Int32) (1 : Int32) S).bind (fun r => match r with | .inl o => some o | .inr (v16, S15) => (zf_X16_size_L103 N N a0 i1 i2 v16 (0 : Int32) (0 : Int32) S15).bind (fun r => match r with | .inl o => some o | .inr (v25, S24) => if i2 = 0 then some (v16, S24) else if i2 = (1 : Int32) then some (v25, S24) else (zi S24 a0 16).bind (fun _ => (zf_X16_ringsOf N a0 i1 S24).bind (fun r28 => some (r28.1, r28.2)))))
set_option maxHeartbeats 4000000 in
set_option maxRecDepth 100000 in
theorem zt_X16_size {l : Launch} {V : zm_V} {N : Nat} {S : zm_S} {out : (Int32 × zm_S)} {d : Nat} {a0 : Nat} {i1 : Int32} {i2 : Int32} (hd : 4 ≤ d) (h : zf_X16_size N a0 i1 i2 S = some out) : zm_Met l zk_E V yX16_size (.code yX16_size cX16_size 6 (some .int)) d [.ref a0, .int i1, .int i2] S 0 0 (zo_i out) zo_x := by
  refine zm_of (by decide +kernel) (Nat.le_of_ble_eq_true rfl) ?_
  intro p e R s m args below meth c hRR hX hr hxt
  have hR : R.frames = d ∧ R.locals = 64 * d := by rw [hRR]; exact ⟨rfl, rfl⟩
  have hX : zm_X p R s m args meth c RX16 "size" cX16_size 6 zk_E V 0 0 := hX
  unfold zf_X16_size at h
  refine zw_sub (lv' := [(0, .ref a0), (1, .int i1), (2, .int i2)]) (List.forall_mem_cons.mpr ⟨rfl, (List.forall_mem_cons.mpr ⟨rfl, (List.forall_mem_cons.mpr ⟨rfl, zs_nil⟩)⟩)⟩) ?_
  refine zw_iconst (v := (0 : Int32)) hX dX16_size_0 (by decide) ?_
  refine zw_istore_n hX dX16_size_1 (by decide) ?_
  refine zw_iconst (v := (1 : Int32)) hX dX16_size_2 (by decide) ?_
  refine zw_istore hX dX16_size_3 (by decide) ?_
  obtain ⟨r, g, h⟩ := zb_some h
  refine zw_sub (lv' := [(0, .ref a0), (1, .int i1), (2, .int i2), (3, .int (0 : Int32)), (4, .int (1 : Int32))]) (List.forall_mem_cons.mpr ⟨rfl, (List.forall_mem_cons.mpr ⟨rfl, (List.forall_mem_cons.mpr ⟨rfl, (List.forall_mem_cons.mpr ⟨rfl, (List.forall_mem_cons.mpr ⟨rfl, zs_nil⟩)⟩)⟩)⟩)⟩) ?_
  refine zt_X16_size_L5 hX hr hR hd (res := r) (out := out) a0 i1 i2 ?_ ?_ N _ _ _ g
  · intro o ho
    subst ho
    exact Option.some.inj h
  · intro v16 S15 hx
    subst hx
    try dsimp only at h
    refine zw_iconst (v := (0 : Int32)) hX dX16_size_97 (by decide) ?_
    refine zw_istore hX dX16_size_98 (by decide) ?_
    refine zw_iconst (v := (0 : Int32)) hX dX16_size_100 (by decide) ?_
    refine zw_istore hX dX16_size_101 (by decide) ?_
    obtain ⟨r, g, h⟩ := zb_some h
    refine zw_sub (lv' := [(0, .ref a0), (1, .int i1), (2, .int i2), (3, .int v16), (4, .int (0 : Int32)), (5, .int (0 : Int32))]) (List.forall_mem_cons.mpr ⟨rfl, (List.forall_mem_cons.mpr ⟨rfl, (List.forall_mem_cons.mpr ⟨rfl, (List.forall_mem_cons.mpr ⟨rfl, (List.forall_mem_cons.mpr ⟨rfl, (List.forall_mem_cons.mpr ⟨rfl, zs_nil⟩)⟩)⟩)⟩)⟩)⟩) ?_
    refine zt_X16_size_L103 hX hr hR hd (res := r) (out := out) a0 i1 i2 v16 ?_ ?_ N _ _ _ g
    · intro o ho
      subst ho
      exact Option.some.inj h
    · intro v25 S24 hx
      subst hx
      try dsimp only at h
      refine zw_iload_n hX dX16_size_145 rfl ?_
      refine zw_if_ne (tgt := 153) hX dX16_size_146 (by decide) (fun c146 => ?_) (fun c146 => ?_)
      · rw [if_neg c146] at h
        refine zw_iload_n hX dX16_size_153 rfl ?_
        refine zw_iconst (v := (1 : Int32)) hX dX16_size_154 (by decide) ?_
        refine zw_icmp_ne (tgt := 163) hX dX16_size_155 (by decide) (fun c155 => ?_) (fun c155 => ?_)
        · rw [if_neg c155] at h
          refine zw_aload_n hX dX16_size_163 rfl ?_
          refine zw_iload_n hX dX16_size_164 rfl ?_
          obtain ⟨_, gi, h⟩ := zb_some h
          obtain ⟨r28, g, h⟩ := zb_some h
          refine zc_Vi (as := [.int i1]) hX gi (zt_X16_ringsOf (d := d - 1) (by omega) g) zl_X16_233 rfl dX16_size_165 ⟨rfl, rfl, Nat.le_of_ble_eq_true rfl⟩ ⟨by omega, by omega⟩ ?_
          obtain rfl := Option.some.inj h
          exact zw_iret hX hr dX16_size_168 rfl ⟨rfl, rfl⟩
        · rw [if_pos c155] at h
          refine zw_iload hX dX16_size_158 rfl ?_
          refine zw_goto (tgt := 168) hX dX16_size_160 (by decide) ?_
          obtain rfl := Option.some.inj h
          exact zw_iret hX hr dX16_size_168 rfl ⟨rfl, rfl⟩
      · rw [if_pos c146] at h
        refine zw_iload_n hX dX16_size_149 rfl ?_
        refine zw_goto (tgt := 168) hX dX16_size_150 (by decide) ?_
        obtain rfl := Option.some.inj h
        exact zw_iret hX hr dX16_size_168 rfl ⟨rfl, rfl⟩
def zf_X16_at_L2 (N : Nat) : Nat → Nat → Int32 → Int32 → Int32 → zm_S → Option ((Int32 × zm_S) ⊕ ((Int32) × zm_S))
  | 0, _, _, _, _, _ => none
  | n + 1, a0, i1, i2, i3, S => (zg_i S a0 16 12).bind (fun v1 => if v1 ≤ i3 then some (.inr (i3, S)) else (zg_r S a0 16 14).bind (fun b2 => (za_x S 0 b2 i3).bind (fun v3 => if i1 < v3 then some (.inr (i3, S)) else zf_X16_at_L2 N n a0 i1 i2 (i3 + (1 : Int32)) S)))
set_option maxHeartbeats 4000000 in
set_option maxRecDepth 100000 in
theorem zt_X16_at_L2 {p : Program} {l : Launch} {e : Env} {R : Room} {s : State} {m : MethodId} {args : Array Value} {below : List Frame} {meth : Method} {c : Code} {V : zm_V} {mc ms d rc rs : Nat} (hX : zm_X p R s m args meth c RX16 "at" cX16_at 5 zk_E V mc ms) (hr : meth.sig.returnType = (some .int)) (hR : R.frames = d ∧ R.locals = 64 * d) (hd : 1 ≤ d) {N : Nat} {res : (Int32 × zm_S) ⊕ ((Int32) × zm_S)} {out : (Int32 × zm_S)} (a0 : Nat) (i1 : Int32) (i2 : Int32) (hf : ∀ o, res = .inl o → o = out) (hk : ∀ (x3 : Int32) (S' : zm_S), res = .inr (x3, S') → zw p l e R s m args below meth c (vx_MQ below (zm_Qc zk_E V (zo_i out)) (zm_XC zk_E V zo_x) args s mc ms (fun q => V.2.2.2.1 ≤ q)) 5 zk_E V mc ms 26 [(0, .ref a0), (2, .int i2), (3, .int x3)] [] S' rc rs) : ∀ (n : Nat) (i3 : Int32) (S : zm_S), zf_X16_at_L2 N n a0 i1 i2 i3 S = some res → zw p l e R s m args below meth c (vx_MQ below (zm_Qc zk_E V (zo_i out)) (zm_XC zk_E V zo_x) args s mc ms (fun q => V.2.2.2.1 ≤ q)) 5 zk_E V mc ms 2 [(0, .ref a0), (1, .int i1), (2, .int i2), (3, .int i3)] [] S rc rs := by
  intro n
  induction n with
  | zero => intro i3 S h; cases h
  | succ n ih =>
    intro i3 S h
    rw [zf_X16_at_L2] at h
    refine zw_iload_n hX dX16_at_2 rfl ?_
    refine zw_aload_n hX dX16_at_3 rfl ?_
    obtain ⟨v1, g, h⟩ := zb_some h
    refine zw_geti hX zl_X16_118 dX16_at_4 g ?_
    refine zw_icmp_ge (tgt := 26) hX dX16_at_7 (by decide) (fun c7 => ?_) (fun c7 => ?_)
    · rw [if_pos c7] at h
      refine zw_sub (lv' := [(0, .ref a0), (2, .int i2), (3, .int i3)]) (List.forall_mem_cons.mpr ⟨rfl, (List.forall_mem_cons.mpr ⟨rfl, (List.forall_mem_cons.mpr ⟨rfl, zs_nil⟩)⟩)⟩) ?_
      exact hk _ _ (Option.some.inj h).symm
    · rw [if_neg c7] at h
      refine zw_aload_n hX dX16_at_10 rfl ?_
      obtain ⟨b2, g, h⟩ := zb_some h
      refine zw_getr hX zl_X16_35 dX16_at_11 g ?_
      refine zw_iload_n hX dX16_at_14 rfl ?_
      obtain ⟨v3, g, h⟩ := zb_some h
      refine zw_xi hX dX16_at_15 g ?_
      refine zw_iload_n hX dX16_at_16 rfl ?_
      refine zw_icmp_gt (tgt := 26) hX dX16_at_17 (by decide) (fun c17 => ?_) (fun c17 => ?_)
      · rw [if_pos c17] at h
        refine zw_sub (lv' := [(0, .ref a0), (2, .int i2), (3, .int i3)]) (List.forall_mem_cons.mpr ⟨rfl, (List.forall_mem_cons.mpr ⟨rfl, (List.forall_mem_cons.mpr ⟨rfl, zs_nil⟩)⟩)⟩) ?_
        exact hk _ _ (Option.some.inj h).symm
      · rw [if_neg c17] at h
        refine zw_iinc (v := (i3 + (1 : Int32))) hX dX16_at_20 rfl rfl (by decide) ?_
        refine zw_goto (tgt := 2) hX dX16_at_23 (by decide) ?_
        refine zw_sub (lv' := [(0, .ref a0), (1, .int i1), (2, .int i2), (3, .int (i3 + (1 : Int32)))]) (List.forall_mem_cons.mpr ⟨rfl, (List.forall_mem_cons.mpr ⟨rfl, (List.forall_mem_cons.mpr ⟨rfl, (List.forall_mem_cons.mpr ⟨rfl, zs_nil⟩)⟩)⟩)⟩) ?_
        exact ih _ _ h
def zf_X16_at_L29 (N : Nat) : Nat → Nat → Int32 → Int32 → Int32 → zm_S → Option ((Int32 × zm_S) ⊕ ((Int32) × zm_S))
  | 0, _, _, _, _, _ => none
  | n + 1, a0, i2, i3, i4, S => (zg_i S a0 16 13).bind (fun v6 => if v6 ≤ i4 then some (.inr (i4, S)) else (zg_r S a0 16 15).bind (fun b7 => (za_x S 0 b7 i4).bind (fun v8 => if i2 < v8 then some (.inr (i4, S)) else zf_X16_at_L29 N n a0 i2 i3 (i4 + (1 : Int32)) S)))
set_option maxHeartbeats 4000000 in
set_option maxRecDepth 100000 in
theorem zt_X16_at_L29 {p : Program} {l : Launch} {e : Env} {R : Room} {s : State} {m : MethodId} {args : Array Value} {below : List Frame} {meth : Method} {c : Code} {V : zm_V} {mc ms d rc rs : Nat} (hX : zm_X p R s m args meth c RX16 "at" cX16_at 5 zk_E V mc ms) (hr : meth.sig.returnType = (some .int)) (hR : R.frames = d ∧ R.locals = 64 * d) (hd : 1 ≤ d) {N : Nat} {res : (Int32 × zm_S) ⊕ ((Int32) × zm_S)} {out : (Int32 × zm_S)} (a0 : Nat) (i2 : Int32) (i3 : Int32) (hf : ∀ o, res = .inl o → o = out) (hk : ∀ (x4 : Int32) (S' : zm_S), res = .inr (x4, S') → zw p l e R s m args below meth c (vx_MQ below (zm_Qc zk_E V (zo_i out)) (zm_XC zk_E V zo_x) args s mc ms (fun q => V.2.2.2.1 ≤ q)) 5 zk_E V mc ms 55 [(0, .ref a0), (3, .int i3), (4, .int x4)] [] S' rc rs) : ∀ (n : Nat) (i4 : Int32) (S : zm_S), zf_X16_at_L29 N n a0 i2 i3 i4 S = some res → zw p l e R s m args below meth c (vx_MQ below (zm_Qc zk_E V (zo_i out)) (zm_XC zk_E V zo_x) args s mc ms (fun q => V.2.2.2.1 ≤ q)) 5 zk_E V mc ms 29 [(0, .ref a0), (2, .int i2), (3, .int i3), (4, .int i4)] [] S rc rs := by
  intro n
  induction n with
  | zero => intro i4 S h; cases h
  | succ n ih =>
    intro i4 S h
    rw [zf_X16_at_L29] at h
    refine zw_iload hX dX16_at_29 rfl ?_
    refine zw_aload_n hX dX16_at_31 rfl ?_
    obtain ⟨v6, g, h⟩ := zb_some h
    refine zw_geti hX zl_X16_115 dX16_at_32 g ?_
    refine zw_icmp_ge (tgt := 55) hX dX16_at_35 (by decide) (fun c35 => ?_) (fun c35 => ?_)
    · rw [if_pos c35] at h
      refine zw_sub (lv' := [(0, .ref a0), (3, .int i3), (4, .int i4)]) (List.forall_mem_cons.mpr ⟨rfl, (List.forall_mem_cons.mpr ⟨rfl, (List.forall_mem_cons.mpr ⟨rfl, zs_nil⟩)⟩)⟩) ?_
      exact hk _ _ (Option.some.inj h).symm
    · rw [if_neg c35] at h
      refine zw_aload_n hX dX16_at_38 rfl ?_
      obtain ⟨b7, g, h⟩ := zb_some h
      refine zw_getr hX zl_X16_38 dX16_at_39 g ?_
      refine zw_iload hX dX16_at_42 rfl ?_
      obtain ⟨v8, g, h⟩ := zb_some h
      refine zw_xi hX dX16_at_44 g ?_
      refine zw_iload_n hX dX16_at_45 rfl ?_
      refine zw_icmp_gt (tgt := 55) hX dX16_at_46 (by decide) (fun c46 => ?_) (fun c46 => ?_)
      · rw [if_pos c46] at h
        refine zw_sub (lv' := [(0, .ref a0), (3, .int i3), (4, .int i4)]) (List.forall_mem_cons.mpr ⟨rfl, (List.forall_mem_cons.mpr ⟨rfl, (List.forall_mem_cons.mpr ⟨rfl, zs_nil⟩)⟩)⟩) ?_
        exact hk _ _ (Option.some.inj h).symm
      · rw [if_neg c46] at h
        refine zw_iinc (v := (i4 + (1 : Int32))) hX dX16_at_49 rfl rfl (by decide) ?_
        refine zw_goto (tgt := 29) hX dX16_at_52 (by decide) ?_
        refine zw_sub (lv' := [(0, .ref a0), (2, .int i2), (3, .int i3), (4, .int (i4 + (1 : Int32)))]) (List.forall_mem_cons.mpr ⟨rfl, (List.forall_mem_cons.mpr ⟨rfl, (List.forall_mem_cons.mpr ⟨rfl, (List.forall_mem_cons.mpr ⟨rfl, zs_nil⟩)⟩)⟩)⟩) ?_
        exact ih _ _ h
def zf_X16_at_J55 (N : Nat) (a0 : Nat) (i3 : Int32) (i4 : Int32) (S : zm_S) : Option (Int32 × zm_S) := (zg_r S a0 16 16).bind (fun b11 => (za_x S 0 b11 (((42 : Int32) * i4) + i3)).bind (fun v12 => some (v12, S)))
set_option maxHeartbeats 4000000 in
set_option maxRecDepth 100000 in
theorem zt_X16_at_J55 {p : Program} {l : Launch} {e : Env} {R : Room} {s : State} {m : MethodId} {args : Array Value} {below : List Frame} {meth : Method} {c : Code} {V : zm_V} {mc ms d rc rs : Nat} (hX : zm_X p R s m args meth c RX16 "at" cX16_at 5 zk_E V mc ms) (hr : meth.sig.returnType = (some .int)) (hR : R.frames = d ∧ R.locals = 64 * d) (hd : 1 ≤ d) {N : Nat} {a0 : Nat} {i3 : Int32} {i4 : Int32} {out : (Int32 × zm_S)} {S : zm_S} (h : zf_X16_at_J55 N a0 i3 i4 S = some out) : zw p l e R s m args below meth c (vx_MQ below (zm_Qc zk_E V (zo_i out)) (zm_XC zk_E V zo_x) args s mc ms (fun q => V.2.2.2.1 ≤ q)) 5 zk_E V mc ms 55 [(0, .ref a0), (3, .int i3), (4, .int i4)] [] S rc rs := by
  unfold zf_X16_at_J55 at h
  refine zw_aload_n hX dX16_at_55 rfl ?_
  obtain ⟨b11, g, h⟩ := zb_some h
  refine zw_getr hX zl_X16_41 dX16_at_56 g ?_
  refine zw_bipush (v := (42 : Int32)) hX dX16_at_59 (by decide) ?_
  refine zw_iload hX dX16_at_61 rfl ?_
  refine zw_imul hX dX16_at_63 ?_
  refine zw_iload_n hX dX16_at_64 rfl ?_
  refine zw_iadd hX dX16_at_65 ?_
  obtain ⟨v12, g, h⟩ := zb_some h
  refine zw_xi hX dX16_at_66 g ?_
  obtain rfl := Option.some.inj h
  exact zw_iret hX hr dX16_at_67 rfl ⟨rfl, rfl⟩
def zf_X16_at_J26 (N : Nat) (a0 : Nat) (i2 : Int32) (i3 : Int32) (S : zm_S) : Option (Int32 × zm_S) := (zf_X16_at_L29 N N a0 i2 i3 (0 : Int32) S).bind (fun r => match r with | .inl o => some o | .inr (v10, S9) => zf_X16_at_J55 N a0 i3 v10 S9)
set_option maxHeartbeats 4000000 in
set_option maxRecDepth 100000 in
theorem zt_X16_at_J26 {p : Program} {l : Launch} {e : Env} {R : Room} {s : State} {m : MethodId} {args : Array Value} {below : List Frame} {meth : Method} {c : Code} {V : zm_V} {mc ms d rc rs : Nat} (hX : zm_X p R s m args meth c RX16 "at" cX16_at 5 zk_E V mc ms) (hr : meth.sig.returnType = (some .int)) (hR : R.frames = d ∧ R.locals = 64 * d) (hd : 1 ≤ d) {N : Nat} {a0 : Nat} {i2 : Int32} {i3 : Int32} {out : (Int32 × zm_S)} {S : zm_S} (h : zf_X16_at_J26 N a0 i2 i3 S = some out) : zw p l e R s m args below meth c (vx_MQ below (zm_Qc zk_E V (zo_i out)) (zm_XC zk_E V zo_x) args s mc ms (fun q => V.2.2.2.1 ≤ q)) 5 zk_E V mc ms 26 [(0, .ref a0), (2, .int i2), (3, .int i3)] [] S rc rs := by
  unfold zf_X16_at_J26 at h
  refine zw_iconst (v := (0 : Int32)) hX dX16_at_26 (by decide) ?_
  refine zw_istore hX dX16_at_27 (by decide) ?_
  obtain ⟨r, g, h⟩ := zb_some h
  refine zw_sub (lv' := [(0, .ref a0), (2, .int i2), (3, .int i3), (4, .int (0 : Int32))]) (List.forall_mem_cons.mpr ⟨rfl, (List.forall_mem_cons.mpr ⟨rfl, (List.forall_mem_cons.mpr ⟨rfl, (List.forall_mem_cons.mpr ⟨rfl, zs_nil⟩)⟩)⟩)⟩) ?_
  refine zt_X16_at_L29 hX hr hR hd (res := r) (out := out) a0 i2 i3 ?_ ?_ N _ _ g
  · intro o ho
    subst ho
    exact Option.some.inj h
  · intro v10 S9 hx
    subst hx
    try dsimp only at h
    refine zw_sub (lv' := [(0, .ref a0), (3, .int i3), (4, .int v10)]) (List.forall_mem_cons.mpr ⟨rfl, (List.forall_mem_cons.mpr ⟨rfl, (List.forall_mem_cons.mpr ⟨rfl, zs_nil⟩)⟩)⟩) ?_
    exact zt_X16_at_J55 hX hr hR hd h
def zf_X16_at (N : Nat) (a0 : Nat) (i1 : Int32) (i2 : Int32) (S : zm_S) : Option (Int32 × zm_S) := (zf_X16_at_L2 N N a0 i1 i2 (0 : Int32) S).bind (fun r => match r with | .inl o => some o | .inr (v5, S4) => zf_X16_at_J26 N a0 i2 v5 S4)
set_option maxHeartbeats 4000000 in
set_option maxRecDepth 100000 in
theorem zt_X16_at {l : Launch} {V : zm_V} {N : Nat} {S : zm_S} {out : (Int32 × zm_S)} {d : Nat} {a0 : Nat} {i1 : Int32} {i2 : Int32} (hd : 1 ≤ d) (h : zf_X16_at N a0 i1 i2 S = some out) : zm_Met l zk_E V yX16_at (.code yX16_at cX16_at 5 (some .int)) d [.ref a0, .int i1, .int i2] S 0 0 (zo_i out) zo_x := by
  refine zm_of (by decide +kernel) (Nat.le_of_ble_eq_true rfl) ?_
  intro p e R s m args below meth c hRR hX hr hxt
  have hR : R.frames = d ∧ R.locals = 64 * d := by rw [hRR]; exact ⟨rfl, rfl⟩
  have hX : zm_X p R s m args meth c RX16 "at" cX16_at 5 zk_E V 0 0 := hX
  unfold zf_X16_at at h
  refine zw_sub (lv' := [(0, .ref a0), (1, .int i1), (2, .int i2)]) (List.forall_mem_cons.mpr ⟨rfl, (List.forall_mem_cons.mpr ⟨rfl, (List.forall_mem_cons.mpr ⟨rfl, zs_nil⟩)⟩)⟩) ?_
  refine zw_iconst (v := (0 : Int32)) hX dX16_at_0 (by decide) ?_
  refine zw_istore_n hX dX16_at_1 (by decide) ?_
  obtain ⟨r, g, h⟩ := zb_some h
  refine zw_sub (lv' := [(0, .ref a0), (1, .int i1), (2, .int i2), (3, .int (0 : Int32))]) (List.forall_mem_cons.mpr ⟨rfl, (List.forall_mem_cons.mpr ⟨rfl, (List.forall_mem_cons.mpr ⟨rfl, (List.forall_mem_cons.mpr ⟨rfl, zs_nil⟩)⟩)⟩)⟩) ?_
  refine zt_X16_at_L2 hX hr hR hd (res := r) (out := out) a0 i1 i2 ?_ ?_ N _ _ g
  · intro o ho
    subst ho
    exact Option.some.inj h
  · intro v5 S4 hx
    subst hx
    try dsimp only at h
    refine zw_sub (lv' := [(0, .ref a0), (2, .int i2), (3, .int v5)]) (List.forall_mem_cons.mpr ⟨rfl, (List.forall_mem_cons.mpr ⟨rfl, (List.forall_mem_cons.mpr ⟨rfl, zs_nil⟩)⟩)⟩) ?_
    exact zt_X16_at_J26 hX hr hR hd h
def zf_X16_beside_J47 (N : Nat) (k : Nat → Int32 → Int32 → Int32 → Int32 → zm_S → Option ((Int32 × zm_S) ⊕ ((Int32) × zm_S))) (a0 : Nat) (i1 : Int32) (i2 : Int32) (i4 : Int32) (t0 : Int32) (t1 : Int32) (S : zm_S) : Option ((Int32 × zm_S) ⊕ ((Int32) × zm_S)) := k a0 i1 i2 (t0 + t1) (i4 + (1 : Int32)) S
set_option maxHeartbeats 4000000 in
set_option maxRecDepth 100000 in
theorem zt_X16_beside_J47 {p : Program} {l : Launch} {e : Env} {R : Room} {s : State} {m : MethodId} {args : Array Value} {below : List Frame} {meth : Method} {c : Code} {V : zm_V} {mc ms d rc rs : Nat} (hX : zm_X p R s m args meth c RX16 "beside" cX16_beside 5 zk_E V mc ms) (hr : meth.sig.returnType = (some .int)) (hR : R.frames = d ∧ R.locals = 64 * d) (hd : 4 ≤ d) {N : Nat} {k : Nat → Int32 → Int32 → Int32 → Int32 → zm_S → Option ((Int32 × zm_S) ⊕ ((Int32) × zm_S))} {a0 : Nat} {i1 : Int32} {i2 : Int32} {i4 : Int32} {t0 : Int32} {t1 : Int32} {res : (Int32 × zm_S) ⊕ ((Int32) × zm_S)} {out : (Int32 × zm_S)}   (hf : ∀ o, res = .inl o → o = out) (hk : ∀ (x3 : Int32) (S' : zm_S), res = .inr (x3, S') → zw p l e R s m args below meth c (vx_MQ below (zm_Qc zk_E V (zo_i out)) (zm_XC zk_E V zo_x) args s mc ms (fun q => V.2.2.2.1 ≤ q)) 5 zk_E V mc ms 55 [(3, .int x3)] [] S' rc rs) (hrec : ∀ (i3' : Int32) (i4' : Int32) (S : zm_S), k a0 i1 i2 i3' i4' S = some res → zw p l e R s m args below meth c (vx_MQ below (zm_Qc zk_E V (zo_i out)) (zm_XC zk_E V zo_x) args s mc ms (fun q => V.2.2.2.1 ≤ q)) 5 zk_E V mc ms 5 [(0, .ref a0), (1, .int i1), (2, .int i2), (3, .int i3'), (4, .int i4')] [] S rc rs) {S : zm_S} (h : zf_X16_beside_J47 N k a0 i1 i2 i4 t0 t1 S = some res) : zw p l e R s m args below meth c (vx_MQ below (zm_Qc zk_E V (zo_i out)) (zm_XC zk_E V zo_x) args s mc ms (fun q => V.2.2.2.1 ≤ q)) 5 zk_E V mc ms 47 [(0, .ref a0), (1, .int i1), (2, .int i2), (4, .int i4)] [.int t1, .int t0] S rc rs := by
  unfold zf_X16_beside_J47 at h
  refine zw_iadd hX dX16_beside_47 ?_
  refine zw_istore_n hX dX16_beside_48 (by decide) ?_
  refine zw_iinc (v := (i4 + (1 : Int32))) hX dX16_beside_49 rfl rfl (by decide) ?_
  refine zw_goto (tgt := 5) hX dX16_beside_52 (by decide) ?_
  refine zw_sub (lv' := [(0, .ref a0), (1, .int i1), (2, .int i2), (3, .int (t0 + t1)), (4, .int (i4 + (1 : Int32)))]) (List.forall_mem_cons.mpr ⟨rfl, (List.forall_mem_cons.mpr ⟨rfl, (List.forall_mem_cons.mpr ⟨rfl, (List.forall_mem_cons.mpr ⟨rfl, (List.forall_mem_cons.mpr ⟨rfl, zs_nil⟩)⟩)⟩)⟩)⟩) ?_
  exact hrec _ _ _ h
def zf_X16_beside_J46 (N : Nat) (k : Nat → Int32 → Int32 → Int32 → Int32 → zm_S → Option ((Int32 × zm_S) ⊕ ((Int32) × zm_S))) (a0 : Nat) (i1 : Int32) (i2 : Int32) (i4 : Int32) (t0 : Int32) (S : zm_S) : Option ((Int32 × zm_S) ⊕ ((Int32) × zm_S)) := zf_X16_beside_J47 N (k) a0 i1 i2 i4 t0 (0 : Int32) S
set_option maxHeartbeats 4000000 in
set_option maxRecDepth 100000 in
theorem zt_X16_beside_J46 {p : Program} {l : Launch} {e : Env} {R : Room} {s : State} {m : MethodId} {args : Array Value} {below : List Frame} {meth : Method} {c : Code} {V : zm_V} {mc ms d rc rs : Nat} (hX : zm_X p R s m args meth c RX16 "beside" cX16_beside 5 zk_E V mc ms) (hr : meth.sig.returnType = (some .int)) (hR : R.frames = d ∧ R.locals = 64 * d) (hd : 4 ≤ d) {N : Nat} {k : Nat → Int32 → Int32 → Int32 → Int32 → zm_S → Option ((Int32 × zm_S) ⊕ ((Int32) × zm_S))} {a0 : Nat} {i1 : Int32} {i2 : Int32} {i4 : Int32} {t0 : Int32} {res : (Int32 × zm_S) ⊕ ((Int32) × zm_S)} {out : (Int32 × zm_S)}   (hf : ∀ o, res = .inl o → o = out) (hk : ∀ (x3 : Int32) (S' : zm_S), res = .inr (x3, S') → zw p l e R s m args below meth c (vx_MQ below (zm_Qc zk_E V (zo_i out)) (zm_XC zk_E V zo_x) args s mc ms (fun q => V.2.2.2.1 ≤ q)) 5 zk_E V mc ms 55 [(3, .int x3)] [] S' rc rs) (hrec : ∀ (i3' : Int32) (i4' : Int32) (S : zm_S), k a0 i1 i2 i3' i4' S = some res → zw p l e R s m args below meth c (vx_MQ below (zm_Qc zk_E V (zo_i out)) (zm_XC zk_E V zo_x) args s mc ms (fun q => V.2.2.2.1 ≤ q)) 5 zk_E V mc ms 5 [(0, .ref a0), (1, .int i1), (2, .int i2), (3, .int i3'), (4, .int i4')] [] S rc rs) {S : zm_S} (h : zf_X16_beside_J46 N k a0 i1 i2 i4 t0 S = some res) : zw p l e R s m args below meth c (vx_MQ below (zm_Qc zk_E V (zo_i out)) (zm_XC zk_E V zo_x) args s mc ms (fun q => V.2.2.2.1 ≤ q)) 5 zk_E V mc ms 46 [(0, .ref a0), (1, .int i1), (2, .int i2), (4, .int i4)] [.int t0] S rc rs := by
  unfold zf_X16_beside_J46 at h
  refine zw_iconst (v := (0 : Int32)) hX dX16_beside_46 (by decide) ?_
  refine zw_sub (lv' := [(0, .ref a0), (1, .int i1), (2, .int i2), (4, .int i4)]) (List.forall_mem_cons.mpr ⟨rfl, (List.forall_mem_cons.mpr ⟨rfl, (List.forall_mem_cons.mpr ⟨rfl, (List.forall_mem_cons.mpr ⟨rfl, zs_nil⟩)⟩)⟩)⟩) ?_
  exact zt_X16_beside_J47 hX hr hR hd hf hk hrec h
def zf_X16_beside_L5 (N : Nat) : Nat → Nat → Int32 → Int32 → Int32 → Int32 → zm_S → Option ((Int32 × zm_S) ⊕ ((Int32) × zm_S))
  | 0, _, _, _, _, _, _ => none
  | n + 1, a0, i1, i2, i3, i4, S => (zg_i S a0 16 30).bind (fun v1 => if ((2 : Int32) * v1) ≤ i4 then some (.inr (i3, S)) else (zi S a0 16).bind (fun _ => (zf_X16_left N a0 i4 S).bind (fun r4 => if r4.1 = i1 then (zi r4.2 a0 16).bind (fun _ => (zf_X16_right N a0 i4 r4.2).bind (fun r7 => if r7.1 = i2 then (zi r7.2 a0 16).bind (fun _ => (zf_X16_sideLength N a0 i4 r7.2).bind (fun r10 => zf_X16_beside_J47 N (zf_X16_beside_L5 N n) a0 i1 i2 i4 i3 r10.1 r10.2)) else zf_X16_beside_J46 N (zf_X16_beside_L5 N n) a0 i1 i2 i4 i3 r7.2)) else zf_X16_beside_J46 N (zf_X16_beside_L5 N n) a0 i1 i2 i4 i3 r4.2)))
set_option maxHeartbeats 4000000 in
set_option maxRecDepth 100000 in
theorem zt_X16_beside_L5 {p : Program} {l : Launch} {e : Env} {R : Room} {s : State} {m : MethodId} {args : Array Value} {below : List Frame} {meth : Method} {c : Code} {V : zm_V} {mc ms d rc rs : Nat} (hX : zm_X p R s m args meth c RX16 "beside" cX16_beside 5 zk_E V mc ms) (hr : meth.sig.returnType = (some .int)) (hR : R.frames = d ∧ R.locals = 64 * d) (hd : 4 ≤ d) {N : Nat} {res : (Int32 × zm_S) ⊕ ((Int32) × zm_S)} {out : (Int32 × zm_S)} (a0 : Nat) (i1 : Int32) (i2 : Int32) (hf : ∀ o, res = .inl o → o = out) (hk : ∀ (x3 : Int32) (S' : zm_S), res = .inr (x3, S') → zw p l e R s m args below meth c (vx_MQ below (zm_Qc zk_E V (zo_i out)) (zm_XC zk_E V zo_x) args s mc ms (fun q => V.2.2.2.1 ≤ q)) 5 zk_E V mc ms 55 [(3, .int x3)] [] S' rc rs) : ∀ (n : Nat) (i3 : Int32) (i4 : Int32) (S : zm_S), zf_X16_beside_L5 N n a0 i1 i2 i3 i4 S = some res → zw p l e R s m args below meth c (vx_MQ below (zm_Qc zk_E V (zo_i out)) (zm_XC zk_E V zo_x) args s mc ms (fun q => V.2.2.2.1 ≤ q)) 5 zk_E V mc ms 5 [(0, .ref a0), (1, .int i1), (2, .int i2), (3, .int i3), (4, .int i4)] [] S rc rs := by
  intro n
  induction n with
  | zero => intro i3 i4 S h; cases h
  | succ n ih =>
    intro i3 i4 S h
    rw [zf_X16_beside_L5] at h
    refine zw_iload hX dX16_beside_5 rfl ?_
    refine zw_iconst (v := (2 : Int32)) hX dX16_beside_7 (by decide) ?_
    refine zw_aload_n hX dX16_beside_8 rfl ?_
    obtain ⟨v1, g, h⟩ := zb_some h
    refine zw_geti hX zl_X16_143 dX16_beside_9 g ?_
    refine zw_imul hX dX16_beside_12 ?_
    refine zw_icmp_ge (tgt := 55) hX dX16_beside_13 (by decide) (fun c13 => ?_) (fun c13 => ?_)
    · rw [if_pos c13] at h
      refine zw_sub (lv' := [(3, .int i3)]) (List.forall_mem_cons.mpr ⟨rfl, zs_nil⟩) ?_
      exact hk _ _ (Option.some.inj h).symm
    · rw [if_neg c13] at h
      refine zw_iload_n hX dX16_beside_16 rfl ?_
      refine zw_aload_n hX dX16_beside_17 rfl ?_
      refine zw_iload hX dX16_beside_18 rfl ?_
      obtain ⟨_, gi, h⟩ := zb_some h
      obtain ⟨r4, g, h⟩ := zb_some h
      refine zc_Vi (as := [.int i4]) hX gi (zt_X16_left (d := d - 1) (by omega) g) zl_X16_153 rfl dX16_beside_20 ⟨rfl, rfl, Nat.le_of_ble_eq_true rfl⟩ ⟨by omega, by omega⟩ ?_
      refine zw_iload_n hX dX16_beside_23 rfl ?_
      refine zw_icmp_ne (tgt := 46) hX dX16_beside_24 (by decide) (fun c24 => ?_) (fun c24 => ?_)
      · rw [if_neg c24] at h
        refine zw_sub (lv' := [(0, .ref a0), (1, .int i1), (2, .int i2), (4, .int i4)]) (List.forall_mem_cons.mpr ⟨rfl, (List.forall_mem_cons.mpr ⟨rfl, (List.forall_mem_cons.mpr ⟨rfl, (List.forall_mem_cons.mpr ⟨rfl, zs_nil⟩)⟩)⟩)⟩) ?_
        exact zt_X16_beside_J46 hX hr hR hd hf hk ih h
      · rw [if_pos c24] at h
        refine zw_aload_n hX dX16_beside_27 rfl ?_
        refine zw_iload hX dX16_beside_28 rfl ?_
        obtain ⟨_, gi, h⟩ := zb_some h
        obtain ⟨r7, g, h⟩ := zb_some h
        refine zc_Vi (as := [.int i4]) hX gi (zt_X16_right (d := d - 1) (by omega) g) zl_X16_227 rfl dX16_beside_30 ⟨rfl, rfl, Nat.le_of_ble_eq_true rfl⟩ ⟨by omega, by omega⟩ ?_
        refine zw_iload_n hX dX16_beside_33 rfl ?_
        refine zw_icmp_ne (tgt := 46) hX dX16_beside_34 (by decide) (fun c34 => ?_) (fun c34 => ?_)
        · rw [if_neg c34] at h
          refine zw_sub (lv' := [(0, .ref a0), (1, .int i1), (2, .int i2), (4, .int i4)]) (List.forall_mem_cons.mpr ⟨rfl, (List.forall_mem_cons.mpr ⟨rfl, (List.forall_mem_cons.mpr ⟨rfl, (List.forall_mem_cons.mpr ⟨rfl, zs_nil⟩)⟩)⟩)⟩) ?_
          exact zt_X16_beside_J46 hX hr hR hd hf hk ih h
        · rw [if_pos c34] at h
          refine zw_aload_n hX dX16_beside_37 rfl ?_
          refine zw_iload hX dX16_beside_38 rfl ?_
          obtain ⟨_, gi, h⟩ := zb_some h
          obtain ⟨r10, g, h⟩ := zb_some h
          refine zc_Vi (as := [.int i4]) hX gi (zt_X16_sideLength (d := d - 1) (by omega) g) zl_X16_230 rfl dX16_beside_40 ⟨rfl, rfl, Nat.le_of_ble_eq_true rfl⟩ ⟨by omega, by omega⟩ ?_
          refine zw_goto (tgt := 47) hX dX16_beside_43 (by decide) ?_
          refine zw_sub (lv' := [(0, .ref a0), (1, .int i1), (2, .int i2), (4, .int i4)]) (List.forall_mem_cons.mpr ⟨rfl, (List.forall_mem_cons.mpr ⟨rfl, (List.forall_mem_cons.mpr ⟨rfl, (List.forall_mem_cons.mpr ⟨rfl, zs_nil⟩)⟩)⟩)⟩) ?_
          exact zt_X16_beside_J47 hX hr hR hd hf hk ih h
def zf_X16_beside (N : Nat) (a0 : Nat) (i1 : Int32) (i2 : Int32) (S : zm_S) : Option (Int32 × zm_S) := (zf_X16_beside_L5 N N a0 i1 i2 (0 : Int32) (0 : Int32) S).bind (fun r => match r with | .inl o => some o | .inr (v12, S11) => some (v12, S11))
set_option maxHeartbeats 4000000 in
set_option maxRecDepth 100000 in
theorem zt_X16_beside {l : Launch} {V : zm_V} {N : Nat} {S : zm_S} {out : (Int32 × zm_S)} {d : Nat} {a0 : Nat} {i1 : Int32} {i2 : Int32} (hd : 4 ≤ d) (h : zf_X16_beside N a0 i1 i2 S = some out) : zm_Met l zk_E V yX16_beside (.code yX16_beside cX16_beside 5 (some .int)) d [.ref a0, .int i1, .int i2] S 0 0 (zo_i out) zo_x := by
  refine zm_of (by decide +kernel) (Nat.le_of_ble_eq_true rfl) ?_
  intro p e R s m args below meth c hRR hX hr hxt
  have hR : R.frames = d ∧ R.locals = 64 * d := by rw [hRR]; exact ⟨rfl, rfl⟩
  have hX : zm_X p R s m args meth c RX16 "beside" cX16_beside 5 zk_E V 0 0 := hX
  unfold zf_X16_beside at h
  refine zw_sub (lv' := [(0, .ref a0), (1, .int i1), (2, .int i2)]) (List.forall_mem_cons.mpr ⟨rfl, (List.forall_mem_cons.mpr ⟨rfl, (List.forall_mem_cons.mpr ⟨rfl, zs_nil⟩)⟩)⟩) ?_
  refine zw_iconst (v := (0 : Int32)) hX dX16_beside_0 (by decide) ?_
  refine zw_istore_n hX dX16_beside_1 (by decide) ?_
  refine zw_iconst (v := (0 : Int32)) hX dX16_beside_2 (by decide) ?_
  refine zw_istore hX dX16_beside_3 (by decide) ?_
  obtain ⟨r, g, h⟩ := zb_some h
  refine zw_sub (lv' := [(0, .ref a0), (1, .int i1), (2, .int i2), (3, .int (0 : Int32)), (4, .int (0 : Int32))]) (List.forall_mem_cons.mpr ⟨rfl, (List.forall_mem_cons.mpr ⟨rfl, (List.forall_mem_cons.mpr ⟨rfl, (List.forall_mem_cons.mpr ⟨rfl, (List.forall_mem_cons.mpr ⟨rfl, zs_nil⟩)⟩)⟩)⟩)⟩) ?_
  refine zt_X16_beside_L5 hX hr hR hd (res := r) (out := out) a0 i1 i2 ?_ ?_ N _ _ _ g
  · intro o ho
    subst ho
    exact Option.some.inj h
  · intro v12 S11 hx
    subst hx
    try dsimp only at h
    refine zw_iload_n hX dX16_beside_55 rfl ?_
    obtain rfl := Option.some.inj h
    exact zw_iret hX hr dX16_beside_56 rfl ⟨rfl, rfl⟩
def zf_X16_hasDoor_J107 (N : Nat) (k : Nat → Int32 → Int32 → Int32 → Int32 → Int32 → zm_S → Option ((Int32 × zm_S) ⊕ ((Int32) × zm_S))) (a0 : Nat) (i1 : Int32) (i2 : Int32) (i4 : Int32) (i6 : Int32) (S : zm_S) : Option ((Int32 × zm_S) ⊕ ((Int32) × zm_S)) := k a0 i1 i2 i4 (1 : Int32) (i6 + (1 : Int32)) S
set_option maxHeartbeats 4000000 in
set_option maxRecDepth 100000 in
theorem zt_X16_hasDoor_J107 {p : Program} {l : Launch} {e : Env} {R : Room} {s : State} {m : MethodId} {args : Array Value} {below : List Frame} {meth : Method} {c : Code} {V : zm_V} {mc ms d rc rs : Nat} (hX : zm_X p R s m args meth c RX16 "hasDoor" cX16_hasDoor 7 zk_E V mc ms) (hr : meth.sig.returnType = (some .boolean)) (hR : R.frames = d ∧ R.locals = 64 * d) (hd : 2 ≤ d) {N : Nat} {k : Nat → Int32 → Int32 → Int32 → Int32 → Int32 → zm_S → Option ((Int32 × zm_S) ⊕ ((Int32) × zm_S))} {a0 : Nat} {i1 : Int32} {i2 : Int32} {i4 : Int32} {i6 : Int32} {res : (Int32 × zm_S) ⊕ ((Int32) × zm_S)} {out : (Int32 × zm_S)}   (hf : ∀ o, res = .inl o → o = out) (hk : ∀ (x5 : Int32) (S' : zm_S), res = .inr (x5, S') → zw p l e R s m args below meth c (vx_MQ below (zm_Qc zk_E V (zo_i out)) (zm_XC zk_E V zo_x) args s mc ms (fun q => V.2.2.2.1 ≤ q)) 7 zk_E V mc ms 120 [(5, .int x5)] [] S' rc rs) (hrec : ∀ (i5' : Int32) (i6' : Int32) (S : zm_S), k a0 i1 i2 i4 i5' i6' S = some res → zw p l e R s m args below meth c (vx_MQ below (zm_Qc zk_E V (zo_i out)) (zm_XC zk_E V zo_x) args s mc ms (fun q => V.2.2.2.1 ≤ q)) 7 zk_E V mc ms 56 [(0, .ref a0), (1, .int i1), (2, .int i2), (4, .int i4), (5, .int i5'), (6, .int i6')] [] S rc rs) {S : zm_S} (h : zf_X16_hasDoor_J107 N k a0 i1 i2 i4 i6 S = some res) : zw p l e R s m args below meth c (vx_MQ below (zm_Qc zk_E V (zo_i out)) (zm_XC zk_E V zo_x) args s mc ms (fun q => V.2.2.2.1 ≤ q)) 7 zk_E V mc ms 107 [(0, .ref a0), (1, .int i1), (2, .int i2), (4, .int i4), (6, .int i6)] [] S rc rs := by
  unfold zf_X16_hasDoor_J107 at h
  refine zw_iconst (v := (1 : Int32)) hX dX16_hasDoor_107 (by decide) ?_
  refine zw_goto (tgt := 112) hX dX16_hasDoor_108 (by decide) ?_
  refine zw_istore hX dX16_hasDoor_112 (by decide) ?_
  refine zw_iinc (v := (i6 + (1 : Int32))) hX dX16_hasDoor_114 rfl rfl (by decide) ?_
  refine zw_goto (tgt := 56) hX dX16_hasDoor_117 (by decide) ?_
  refine zw_sub (lv' := [(0, .ref a0), (1, .int i1), (2, .int i2), (4, .int i4), (5, .int (1 : Int32)), (6, .int (i6 + (1 : Int32)))]) (List.forall_mem_cons.mpr ⟨rfl, (List.forall_mem_cons.mpr ⟨rfl, (List.forall_mem_cons.mpr ⟨rfl, (List.forall_mem_cons.mpr ⟨rfl, (List.forall_mem_cons.mpr ⟨rfl, (List.forall_mem_cons.mpr ⟨rfl, zs_nil⟩)⟩)⟩)⟩)⟩)⟩) ?_
  exact hrec _ _ _ h
def zf_X16_hasDoor_L56 (N : Nat) : Nat → Nat → Int32 → Int32 → Int32 → Int32 → Int32 → zm_S → Option ((Int32 × zm_S) ⊕ ((Int32) × zm_S))
  | 0, _, _, _, _, _, _, _ => none
  | n + 1, a0, i1, i2, i4, i5, i6, S => (zg_r S a0 16 5).bind (fun b13 => (za_x S 0 b13 i2).bind (fun v14 => if (((6 : Int32) * i2) + v14) ≤ i6 then some (.inr (i5, S)) else if i5 = 0 then (zi S a0 16).bind (fun _ => (zf_X16_sideLength N a0 i1 S).bind (fun r17 => (zg_r r17.2 a0 16 6).bind (fun b18 => (za_x r17.2 0 b18 i6).bind (fun v19 => (zg_r r17.2 a0 16 7).bind (fun b20 => (za_x r17.2 0 b20 i6).bind (fun v21 => (zf_X16_shared N i4 (i4 + r17.1) v19 v21 r17.2).bind (fun r24 => if r24.1 ≤ 0 then zf_X16_hasDoor_L56 N n a0 i1 i2 i4 (0 : Int32) (i6 + (1 : Int32)) r24.2 else zf_X16_hasDoor_J107 N (zf_X16_hasDoor_L56 N n) a0 i1 i2 i4 i6 r24.2))))))) else zf_X16_hasDoor_J107 N (zf_X16_hasDoor_L56 N n) a0 i1 i2 i4 i6 S))
set_option maxHeartbeats 4000000 in
set_option maxRecDepth 100000 in
theorem zt_X16_hasDoor_L56 {p : Program} {l : Launch} {e : Env} {R : Room} {s : State} {m : MethodId} {args : Array Value} {below : List Frame} {meth : Method} {c : Code} {V : zm_V} {mc ms d rc rs : Nat} (hX : zm_X p R s m args meth c RX16 "hasDoor" cX16_hasDoor 7 zk_E V mc ms) (hr : meth.sig.returnType = (some .boolean)) (hR : R.frames = d ∧ R.locals = 64 * d) (hd : 2 ≤ d) {N : Nat} {res : (Int32 × zm_S) ⊕ ((Int32) × zm_S)} {out : (Int32 × zm_S)} (a0 : Nat) (i1 : Int32) (i2 : Int32) (i4 : Int32) (hf : ∀ o, res = .inl o → o = out) (hk : ∀ (x5 : Int32) (S' : zm_S), res = .inr (x5, S') → zw p l e R s m args below meth c (vx_MQ below (zm_Qc zk_E V (zo_i out)) (zm_XC zk_E V zo_x) args s mc ms (fun q => V.2.2.2.1 ≤ q)) 7 zk_E V mc ms 120 [(5, .int x5)] [] S' rc rs) : ∀ (n : Nat) (i5 : Int32) (i6 : Int32) (S : zm_S), zf_X16_hasDoor_L56 N n a0 i1 i2 i4 i5 i6 S = some res → zw p l e R s m args below meth c (vx_MQ below (zm_Qc zk_E V (zo_i out)) (zm_XC zk_E V zo_x) args s mc ms (fun q => V.2.2.2.1 ≤ q)) 7 zk_E V mc ms 56 [(0, .ref a0), (1, .int i1), (2, .int i2), (4, .int i4), (5, .int i5), (6, .int i6)] [] S rc rs := by
  intro n
  induction n with
  | zero => intro i5 i6 S h; cases h
  | succ n ih =>
    intro i5 i6 S h
    rw [zf_X16_hasDoor_L56] at h
    refine zw_iload hX dX16_hasDoor_56 rfl ?_
    refine zw_bipush (v := (6 : Int32)) hX dX16_hasDoor_58 (by decide) ?_
    refine zw_iload_n hX dX16_hasDoor_60 rfl ?_
    refine zw_imul hX dX16_hasDoor_61 ?_
    refine zw_aload_n hX dX16_hasDoor_62 rfl ?_
    obtain ⟨b13, g, h⟩ := zb_some h
    refine zw_getr hX zl_X16_23 dX16_hasDoor_63 g ?_
    refine zw_iload_n hX dX16_hasDoor_66 rfl ?_
    obtain ⟨v14, g, h⟩ := zb_some h
    refine zw_xi hX dX16_hasDoor_67 g ?_
    refine zw_iadd hX dX16_hasDoor_68 ?_
    refine zw_icmp_ge (tgt := 120) hX dX16_hasDoor_69 (by decide) (fun c69 => ?_) (fun c69 => ?_)
    · rw [if_pos c69] at h
      refine zw_sub (lv' := [(5, .int i5)]) (List.forall_mem_cons.mpr ⟨rfl, zs_nil⟩) ?_
      exact hk _ _ (Option.some.inj h).symm
    · rw [if_neg c69] at h
      refine zw_iload hX dX16_hasDoor_72 rfl ?_
      refine zw_if_ne (tgt := 107) hX dX16_hasDoor_74 (by decide) (fun c74 => ?_) (fun c74 => ?_)
      · rw [if_neg c74] at h
        refine zw_sub (lv' := [(0, .ref a0), (1, .int i1), (2, .int i2), (4, .int i4), (6, .int i6)]) (List.forall_mem_cons.mpr ⟨rfl, (List.forall_mem_cons.mpr ⟨rfl, (List.forall_mem_cons.mpr ⟨rfl, (List.forall_mem_cons.mpr ⟨rfl, (List.forall_mem_cons.mpr ⟨rfl, zs_nil⟩)⟩)⟩)⟩)⟩) ?_
        exact zt_X16_hasDoor_J107 hX hr hR hd hf hk ih h
      · rw [if_pos c74] at h
        refine zw_iload hX dX16_hasDoor_77 rfl ?_
        refine zw_iload hX dX16_hasDoor_79 rfl ?_
        refine zw_aload_n hX dX16_hasDoor_81 rfl ?_
        refine zw_iload_n hX dX16_hasDoor_82 rfl ?_
        obtain ⟨_, gi, h⟩ := zb_some h
        obtain ⟨r17, g, h⟩ := zb_some h
        refine zc_Vi (as := [.int i1]) hX gi (zt_X16_sideLength (d := d - 1) (by omega) g) zl_X16_230 rfl dX16_hasDoor_83 ⟨rfl, rfl, Nat.le_of_ble_eq_true rfl⟩ ⟨by omega, by omega⟩ ?_
        refine zw_iadd hX dX16_hasDoor_86 ?_
        refine zw_aload_n hX dX16_hasDoor_87 rfl ?_
        obtain ⟨b18, g, h⟩ := zb_some h
        refine zw_getr hX zl_X16_26 dX16_hasDoor_88 g ?_
        refine zw_iload hX dX16_hasDoor_91 rfl ?_
        obtain ⟨v19, g, h⟩ := zb_some h
        refine zw_xi hX dX16_hasDoor_93 g ?_
        refine zw_aload_n hX dX16_hasDoor_94 rfl ?_
        obtain ⟨b20, g, h⟩ := zb_some h
        refine zw_getr hX zl_X16_29 dX16_hasDoor_95 g ?_
        refine zw_iload hX dX16_hasDoor_98 rfl ?_
        obtain ⟨v21, g, h⟩ := zb_some h
        refine zw_xi hX dX16_hasDoor_100 g ?_
        obtain ⟨r24, g, h⟩ := zb_some h
        refine zc_Si (as := [.int i4, .int (i4 + r17.1), .int v19, .int v21]) hX (zt_X16_shared (d := d - 1) (by omega) g) zl_X16_214 dX16_hasDoor_101 ⟨rfl, rfl, Nat.le_of_ble_eq_true rfl⟩ ⟨by omega, by omega⟩ ?_
        refine zw_if_le (tgt := 111) hX dX16_hasDoor_104 (by decide) (fun c104 => ?_) (fun c104 => ?_)
        · rw [if_pos c104] at h
          refine zw_iconst (v := (0 : Int32)) hX dX16_hasDoor_111 (by decide) ?_
          refine zw_istore hX dX16_hasDoor_112 (by decide) ?_
          refine zw_iinc (v := (i6 + (1 : Int32))) hX dX16_hasDoor_114 rfl rfl (by decide) ?_
          refine zw_goto (tgt := 56) hX dX16_hasDoor_117 (by decide) ?_
          refine zw_sub (lv' := [(0, .ref a0), (1, .int i1), (2, .int i2), (4, .int i4), (5, .int (0 : Int32)), (6, .int (i6 + (1 : Int32)))]) (List.forall_mem_cons.mpr ⟨rfl, (List.forall_mem_cons.mpr ⟨rfl, (List.forall_mem_cons.mpr ⟨rfl, (List.forall_mem_cons.mpr ⟨rfl, (List.forall_mem_cons.mpr ⟨rfl, (List.forall_mem_cons.mpr ⟨rfl, zs_nil⟩)⟩)⟩)⟩)⟩)⟩) ?_
          exact ih _ _ _ h
        · rw [if_neg c104] at h
          refine zw_sub (lv' := [(0, .ref a0), (1, .int i1), (2, .int i2), (4, .int i4), (6, .int i6)]) (List.forall_mem_cons.mpr ⟨rfl, (List.forall_mem_cons.mpr ⟨rfl, (List.forall_mem_cons.mpr ⟨rfl, (List.forall_mem_cons.mpr ⟨rfl, (List.forall_mem_cons.mpr ⟨rfl, zs_nil⟩)⟩)⟩)⟩)⟩) ?_
          exact zt_X16_hasDoor_J107 hX hr hR hd hf hk ih h
def zf_X16_hasDoor (N : Nat) (a0 : Nat) (i1 : Int32) (S : zm_S) : Option (Int32 × zm_S) := (zg_r S a0 16 31).bind (fun b1 => (za_x S 0 b1 (i1 / (2 : Int32))).bind (fun v2 => (zg_r S a0 16 32).bind (fun b3 => (za_x S 0 b3 (i1 / (2 : Int32))).bind (fun v4 => (zg_r S a0 16 28).bind (fun b5 => (za_x S 0 b5 v4).bind (fun v6 => (zg_r S a0 16 1).bind (fun b7 => (za_x S 0 b7 v2).bind (fun v8 => (zg_r S a0 16 29).bind (fun b9 => (za_x S 0 b9 v4).bind (fun v10 => (zg_r S a0 16 2).bind (fun b11 => (za_x S 0 b11 v2).bind (fun v12 => (zf_X16_hasDoor_L56 N N a0 i1 v2 (((v6 - v8) + v10) - v12) (0 : Int32) ((6 : Int32) * v2) S).bind (fun r => match r with | .inl o => some o | .inr (v26, S25) => if v26 = 0 ∨ v26 = 1 then some (v26, S25) else none)))))))))))))
set_option maxHeartbeats 4000000 in
set_option maxRecDepth 100000 in
theorem zt_X16_hasDoor {l : Launch} {V : zm_V} {N : Nat} {S : zm_S} {out : (Int32 × zm_S)} {d : Nat} {a0 : Nat} {i1 : Int32} (hd : 2 ≤ d) (h : zf_X16_hasDoor N a0 i1 S = some out) : zm_Met l zk_E V yX16_hasDoor (.code yX16_hasDoor cX16_hasDoor 7 (some .boolean)) d [.ref a0, .int i1] S 0 0 (zo_i out) zo_x := by
  refine zm_of (by decide +kernel) (Nat.le_of_ble_eq_true rfl) ?_
  intro p e R s m args below meth c hRR hX hr hxt
  have hR : R.frames = d ∧ R.locals = 64 * d := by rw [hRR]; exact ⟨rfl, rfl⟩
  have hX : zm_X p R s m args meth c RX16 "hasDoor" cX16_hasDoor 7 zk_E V 0 0 := hX
  unfold zf_X16_hasDoor at h
  refine zw_sub (lv' := [(0, .ref a0), (1, .int i1)]) (List.forall_mem_cons.mpr ⟨rfl, (List.forall_mem_cons.mpr ⟨rfl, zs_nil⟩)⟩) ?_
  refine zw_aload_n hX dX16_hasDoor_0 rfl ?_
  obtain ⟨b1, g, h⟩ := zb_some h
  refine zw_getr hX zl_X16_65 dX16_hasDoor_1 g ?_
  refine zw_iload_n hX dX16_hasDoor_4 rfl ?_
  refine zw_iconst (v := (2 : Int32)) hX dX16_hasDoor_5 (by decide) ?_
  refine zw_idiv hX dX16_hasDoor_6 (by decide) ?_
  obtain ⟨v2, g, h⟩ := zb_some h
  refine zw_xi hX dX16_hasDoor_7 g ?_
  refine zw_istore_n hX dX16_hasDoor_8 (by decide) ?_
  refine zw_aload_n hX dX16_hasDoor_9 rfl ?_
  obtain ⟨b3, g, h⟩ := zb_some h
  refine zw_getr hX zl_X16_68 dX16_hasDoor_10 g ?_
  refine zw_iload_n hX dX16_hasDoor_13 rfl ?_
  refine zw_iconst (v := (2 : Int32)) hX dX16_hasDoor_14 (by decide) ?_
  refine zw_idiv hX dX16_hasDoor_15 (by decide) ?_
  obtain ⟨v4, g, h⟩ := zb_some h
  refine zw_xi hX dX16_hasDoor_16 g ?_
  refine zw_istore_n hX dX16_hasDoor_17 (by decide) ?_
  refine zw_aload_n hX dX16_hasDoor_18 rfl ?_
  obtain ⟨b5, g, h⟩ := zb_some h
  refine zw_getr hX zl_X16_59 dX16_hasDoor_19 g ?_
  refine zw_iload_n hX dX16_hasDoor_22 rfl ?_
  obtain ⟨v6, g, h⟩ := zb_some h
  refine zw_xi hX dX16_hasDoor_23 g ?_
  refine zw_aload_n hX dX16_hasDoor_24 rfl ?_
  obtain ⟨b7, g, h⟩ := zb_some h
  refine zw_getr hX zl_X16_7 dX16_hasDoor_25 g ?_
  refine zw_iload_n hX dX16_hasDoor_28 rfl ?_
  obtain ⟨v8, g, h⟩ := zb_some h
  refine zw_xi hX dX16_hasDoor_29 g ?_
  refine zw_isub hX dX16_hasDoor_30 ?_
  refine zw_aload_n hX dX16_hasDoor_31 rfl ?_
  obtain ⟨b9, g, h⟩ := zb_some h
  refine zw_getr hX zl_X16_62 dX16_hasDoor_32 g ?_
  refine zw_iload_n hX dX16_hasDoor_35 rfl ?_
  obtain ⟨v10, g, h⟩ := zb_some h
  refine zw_xi hX dX16_hasDoor_36 g ?_
  refine zw_iadd hX dX16_hasDoor_37 ?_
  refine zw_aload_n hX dX16_hasDoor_38 rfl ?_
  obtain ⟨b11, g, h⟩ := zb_some h
  refine zw_getr hX zl_X16_13 dX16_hasDoor_39 g ?_
  refine zw_iload_n hX dX16_hasDoor_42 rfl ?_
  obtain ⟨v12, g, h⟩ := zb_some h
  refine zw_xi hX dX16_hasDoor_43 g ?_
  refine zw_isub hX dX16_hasDoor_44 ?_
  refine zw_istore hX dX16_hasDoor_45 (by decide) ?_
  refine zw_iconst (v := (0 : Int32)) hX dX16_hasDoor_47 (by decide) ?_
  refine zw_istore hX dX16_hasDoor_48 (by decide) ?_
  refine zw_bipush (v := (6 : Int32)) hX dX16_hasDoor_50 (by decide) ?_
  refine zw_iload_n hX dX16_hasDoor_52 rfl ?_
  refine zw_imul hX dX16_hasDoor_53 ?_
  refine zw_istore hX dX16_hasDoor_54 (by decide) ?_
  obtain ⟨r, g, h⟩ := zb_some h
  refine zw_sub (lv' := [(0, .ref a0), (1, .int i1), (2, .int v2), (4, .int (((v6 - v8) + v10) - v12)), (5, .int (0 : Int32)), (6, .int ((6 : Int32) * v2))]) (List.forall_mem_cons.mpr ⟨rfl, (List.forall_mem_cons.mpr ⟨rfl, (List.forall_mem_cons.mpr ⟨rfl, (List.forall_mem_cons.mpr ⟨rfl, (List.forall_mem_cons.mpr ⟨rfl, (List.forall_mem_cons.mpr ⟨rfl, zs_nil⟩)⟩)⟩)⟩)⟩)⟩) ?_
  refine zt_X16_hasDoor_L56 hX hr hR hd (res := r) (out := out) a0 i1 v2 (((v6 - v8) + v10) - v12) ?_ ?_ N _ _ _ g
  · intro o ho
    subst ho
    exact Option.some.inj h
  · intro v26 S25 hx
    subst hx
    try dsimp only at h
    refine zw_iload hX dX16_hasDoor_120 rfl ?_
    by_cases cz : v26 = 0 ∨ v26 = 1
    · rw [if_pos cz] at h
      obtain rfl := Option.some.inj h
      exact zw_iret hX hr dX16_hasDoor_122 (zn_z cz) ⟨rfl, rfl⟩
    · rw [if_neg cz] at h
      cases h
def zf_X16_between (N : Nat) (a0 : Nat) (i1 : Int32) (i2 : Int32) (S : zm_S) : Option (Int32 × zm_S) := if i1 = i2 then (zi S a0 16).bind (fun _ => (zf_X16_beside N a0 i1 i1 S).bind (fun r6 => some ((r6.1 / (2 : Int32)), r6.2))) else (zi S a0 16).bind (fun _ => (zf_X16_beside N a0 i1 i2 S).bind (fun r3 => some (r3.1, r3.2)))
set_option maxHeartbeats 4000000 in
set_option maxRecDepth 100000 in
theorem zt_X16_between {l : Launch} {V : zm_V} {N : Nat} {S : zm_S} {out : (Int32 × zm_S)} {d : Nat} {a0 : Nat} {i1 : Int32} {i2 : Int32} (hd : 5 ≤ d) (h : zf_X16_between N a0 i1 i2 S = some out) : zm_Met l zk_E V yX16_between (.code yX16_between cX16_between 3 (some .int)) d [.ref a0, .int i1, .int i2] S 0 0 (zo_i out) zo_x := by
  refine zm_of (by decide +kernel) (Nat.le_of_ble_eq_true rfl) ?_
  intro p e R s m args below meth c hRR hX hr hxt
  have hR : R.frames = d ∧ R.locals = 64 * d := by rw [hRR]; exact ⟨rfl, rfl⟩
  have hX : zm_X p R s m args meth c RX16 "between" cX16_between 3 zk_E V 0 0 := hX
  unfold zf_X16_between at h
  refine zw_sub (lv' := [(0, .ref a0), (1, .int i1), (2, .int i2)]) (List.forall_mem_cons.mpr ⟨rfl, (List.forall_mem_cons.mpr ⟨rfl, (List.forall_mem_cons.mpr ⟨rfl, zs_nil⟩)⟩)⟩) ?_
  refine zw_iload_n hX dX16_between_0 rfl ?_
  refine zw_iload_n hX dX16_between_1 rfl ?_
  refine zw_icmp_ne (tgt := 16) hX dX16_between_2 (by decide) (fun c2 => ?_) (fun c2 => ?_)
  · rw [if_neg c2] at h
    refine zw_aload_n hX dX16_between_16 rfl ?_
    refine zw_iload_n hX dX16_between_17 rfl ?_
    refine zw_iload_n hX dX16_between_18 rfl ?_
    obtain ⟨_, gi, h⟩ := zb_some h
    obtain ⟨r3, g, h⟩ := zb_some h
    refine zc_Vi (as := [.int i1, .int i2]) hX gi (zt_X16_beside (d := d - 1) (by omega) g) zl_X16_236 rfl dX16_between_19 ⟨rfl, rfl, Nat.le_of_ble_eq_true rfl⟩ ⟨by omega, by omega⟩ ?_
    obtain rfl := Option.some.inj h
    exact zw_iret hX hr dX16_between_22 rfl ⟨rfl, rfl⟩
  · rw [if_pos c2] at h
    refine zw_aload_n hX dX16_between_5 rfl ?_
    refine zw_iload_n hX dX16_between_6 rfl ?_
    refine zw_iload_n hX dX16_between_7 rfl ?_
    obtain ⟨_, gi, h⟩ := zb_some h
    obtain ⟨r6, g, h⟩ := zb_some h
    refine zc_Vi (as := [.int i1, .int i1]) hX gi (zt_X16_beside (d := d - 1) (by omega) g) zl_X16_236 rfl dX16_between_8 ⟨rfl, rfl, Nat.le_of_ble_eq_true rfl⟩ ⟨by omega, by omega⟩ ?_
    refine zw_iconst (v := (2 : Int32)) hX dX16_between_11 (by decide) ?_
    refine zw_idiv hX dX16_between_12 (by decide) ?_
    refine zw_goto (tgt := 22) hX dX16_between_13 (by decide) ?_
    obtain rfl := Option.some.inj h
    exact zw_iret hX hr dX16_between_22 rfl ⟨rfl, rfl⟩
def zf_X16_way_L2 (N : Nat) : Nat → Nat → Int32 → Int32 → Int32 → zm_S → Option ((Int32 × zm_S) ⊕ ((Unit) × zm_S))
  | 0, _, _, _, _, _ => none
  | n + 1, a0, i1, i2, i3, S => (zg_i S a0 16 17).bind (fun v1 => if v1 < i3 then some (.inr ((), S)) else (zg_r S a0 16 39).bind (fun b2 => if i3 = (i1 + (1 : Int32)) then (zs_i S b2 i3 (0 : Int32)).bind (fun S4 => zf_X16_way_L2 N n a0 i1 i2 (i3 + (1 : Int32)) S4) else (zs_i S b2 i3 (1000 : Int32)).bind (fun S3 => zf_X16_way_L2 N n a0 i1 i2 (i3 + (1 : Int32)) S3)))
set_option maxHeartbeats 4000000 in
set_option maxRecDepth 100000 in
theorem zt_X16_way_L2 {p : Program} {l : Launch} {e : Env} {R : Room} {s : State} {m : MethodId} {args : Array Value} {below : List Frame} {meth : Method} {c : Code} {V : zm_V} {mc ms d rc rs : Nat} (hX : zm_X p R s m args meth c RX16 "way" cX16_way 5 zk_E V mc ms) (hr : meth.sig.returnType = (some .int)) (hR : R.frames = d ∧ R.locals = 64 * d) (hd : 4 ≤ d) {N : Nat} {res : (Int32 × zm_S) ⊕ ((Unit) × zm_S)} {out : (Int32 × zm_S)} (a0 : Nat) (i1 : Int32) (i2 : Int32) (hf : ∀ o, res = .inl o → o = out) (hk : ∀ (S' : zm_S), res = .inr ((), S') → zw p l e R s m args below meth c (vx_MQ below (zm_Qc zk_E V (zo_i out)) (zm_XC zk_E V zo_x) args s mc ms (fun q => V.2.2.2.1 ≤ q)) 5 zk_E V mc ms 36 [(0, .ref a0), (2, .int i2)] [] S' rc rs) : ∀ (n : Nat) (i3 : Int32) (S : zm_S), zf_X16_way_L2 N n a0 i1 i2 i3 S = some res → zw p l e R s m args below meth c (vx_MQ below (zm_Qc zk_E V (zo_i out)) (zm_XC zk_E V zo_x) args s mc ms (fun q => V.2.2.2.1 ≤ q)) 5 zk_E V mc ms 2 [(0, .ref a0), (1, .int i1), (2, .int i2), (3, .int i3)] [] S rc rs := by
  intro n
  induction n with
  | zero => intro i3 S h; cases h
  | succ n ih =>
    intro i3 S h
    rw [zf_X16_way_L2] at h
    refine zw_iload_n hX dX16_way_2 rfl ?_
    refine zw_aload_n hX dX16_way_3 rfl ?_
    obtain ⟨v1, g, h⟩ := zb_some h
    refine zw_geti hX zl_X16_171 dX16_way_4 g ?_
    refine zw_icmp_gt (tgt := 36) hX dX16_way_7 (by decide) (fun c7 => ?_) (fun c7 => ?_)
    · rw [if_pos c7] at h
      refine zw_sub (lv' := [(0, .ref a0), (2, .int i2)]) (List.forall_mem_cons.mpr ⟨rfl, (List.forall_mem_cons.mpr ⟨rfl, zs_nil⟩)⟩) ?_
      exact hk  _ (Option.some.inj h).symm
    · rw [if_neg c7] at h
      refine zw_aload_n hX dX16_way_10 rfl ?_
      obtain ⟨b2, g, h⟩ := zb_some h
      refine zw_getr hX zl_X16_86 dX16_way_11 g ?_
      refine zw_iload_n hX dX16_way_14 rfl ?_
      refine zw_iload_n hX dX16_way_15 rfl ?_
      refine zw_iload_n hX dX16_way_16 rfl ?_
      refine zw_iconst (v := (1 : Int32)) hX dX16_way_17 (by decide) ?_
      refine zw_iadd hX dX16_way_18 ?_
      refine zw_icmp_ne (tgt := 26) hX dX16_way_19 (by decide) (fun c19 => ?_) (fun c19 => ?_)
      · rw [if_neg c19] at h
        refine zw_sipush (v := (1000 : Int32)) hX dX16_way_26 (by decide) ?_
        obtain ⟨S3, g, h⟩ := zb_some h
        refine zw_si hX dX16_way_29 g ?_
        refine zw_iinc (v := (i3 + (1 : Int32))) hX dX16_way_30 rfl rfl (by decide) ?_
        refine zw_goto (tgt := 2) hX dX16_way_33 (by decide) ?_
        refine zw_sub (lv' := [(0, .ref a0), (1, .int i1), (2, .int i2), (3, .int (i3 + (1 : Int32)))]) (List.forall_mem_cons.mpr ⟨rfl, (List.forall_mem_cons.mpr ⟨rfl, (List.forall_mem_cons.mpr ⟨rfl, (List.forall_mem_cons.mpr ⟨rfl, zs_nil⟩)⟩)⟩)⟩) ?_
        exact ih _ _ h
      · rw [if_pos c19] at h
        refine zw_iconst (v := (0 : Int32)) hX dX16_way_22 (by decide) ?_
        refine zw_goto (tgt := 29) hX dX16_way_23 (by decide) ?_
        obtain ⟨S4, g, h⟩ := zb_some h
        refine zw_si hX dX16_way_29 g ?_
        refine zw_iinc (v := (i3 + (1 : Int32))) hX dX16_way_30 rfl rfl (by decide) ?_
        refine zw_goto (tgt := 2) hX dX16_way_33 (by decide) ?_
        refine zw_sub (lv' := [(0, .ref a0), (1, .int i1), (2, .int i2), (3, .int (i3 + (1 : Int32)))]) (List.forall_mem_cons.mpr ⟨rfl, (List.forall_mem_cons.mpr ⟨rfl, (List.forall_mem_cons.mpr ⟨rfl, (List.forall_mem_cons.mpr ⟨rfl, zs_nil⟩)⟩)⟩)⟩) ?_
        exact ih _ _ h
def zf_X16_way_L47 (N : Nat) : Nat → Nat → Int32 → Int32 → Int32 → zm_S → Option ((Int32 × zm_S) ⊕ ((Int32) × zm_S))
  | 0, _, _, _, _, _ => none
  | n + 1, a0, i2, i3, i4, S => (zg_i S a0 16 30).bind (fun v6 => if ((2 : Int32) * v6) ≤ i4 then some (.inr (i3, S)) else (zi S a0 16).bind (fun _ => (zf_X16_hasDoor N a0 i4 S).bind (fun r9 => if r9.1 = 0 then zf_X16_way_L47 N n a0 i2 i3 (i4 + (1 : Int32)) r9.2 else (zg_r r9.2 a0 16 39).bind (fun b10 => (zi r9.2 a0 16).bind (fun _ => (zf_X16_left N a0 i4 r9.2).bind (fun r13 => (za_x r13.2 0 b10 (r13.1 + (1 : Int32))).bind (fun v14 => (zg_r r13.2 a0 16 39).bind (fun b15 => (zi r13.2 a0 16).bind (fun _ => (zf_X16_right N a0 i4 r13.2).bind (fun r18 => (za_x r18.2 0 b15 (r18.1 + (1 : Int32))).bind (fun v19 => if v19 ≤ (v14 + (1 : Int32)) then zf_X16_way_L47 N n a0 i2 i3 (i4 + (1 : Int32)) r18.2 else (zg_r r18.2 a0 16 39).bind (fun b20 => (zi r18.2 a0 16).bind (fun _ => (zf_X16_right N a0 i4 r18.2).bind (fun r23 => (zg_r r23.2 a0 16 39).bind (fun b24 => (zi r23.2 a0 16).bind (fun _ => (zf_X16_left N a0 i4 r23.2).bind (fun r27 => (za_x r27.2 0 b24 (r27.1 + (1 : Int32))).bind (fun v28 => (zs_i r27.2 b20 (r23.1 + (1 : Int32)) (v28 + (1 : Int32))).bind (fun S29 => zf_X16_way_L47 N n a0 i2 (1 : Int32) (i4 + (1 : Int32)) S29)))))))))))))))))))
set_option maxHeartbeats 4000000 in
set_option maxRecDepth 100000 in
theorem zt_X16_way_L47 {p : Program} {l : Launch} {e : Env} {R : Room} {s : State} {m : MethodId} {args : Array Value} {below : List Frame} {meth : Method} {c : Code} {V : zm_V} {mc ms d rc rs : Nat} (hX : zm_X p R s m args meth c RX16 "way" cX16_way 5 zk_E V mc ms) (hr : meth.sig.returnType = (some .int)) (hR : R.frames = d ∧ R.locals = 64 * d) (hd : 4 ≤ d) {N : Nat} {res : (Int32 × zm_S) ⊕ ((Int32) × zm_S)} {out : (Int32 × zm_S)} (a0 : Nat) (i2 : Int32) (hf : ∀ o, res = .inl o → o = out) (hk : ∀ (x3 : Int32) (S' : zm_S), res = .inr (x3, S') → zw p l e R s m args below meth c (vx_MQ below (zm_Qc zk_E V (zo_i out)) (zm_XC zk_E V zo_x) args s mc ms (fun q => V.2.2.2.1 ≤ q)) 5 zk_E V mc ms 134 [(0, .ref a0), (2, .int i2), (3, .int x3)] [] S' rc rs) : ∀ (n : Nat) (i3 : Int32) (i4 : Int32) (S : zm_S), zf_X16_way_L47 N n a0 i2 i3 i4 S = some res → zw p l e R s m args below meth c (vx_MQ below (zm_Qc zk_E V (zo_i out)) (zm_XC zk_E V zo_x) args s mc ms (fun q => V.2.2.2.1 ≤ q)) 5 zk_E V mc ms 47 [(0, .ref a0), (2, .int i2), (3, .int i3), (4, .int i4)] [] S rc rs := by
  intro n
  induction n with
  | zero => intro i3 i4 S h; cases h
  | succ n ih =>
    intro i3 i4 S h
    rw [zf_X16_way_L47] at h
    refine zw_iload hX dX16_way_47 rfl ?_
    refine zw_iconst (v := (2 : Int32)) hX dX16_way_49 (by decide) ?_
    refine zw_aload_n hX dX16_way_50 rfl ?_
    obtain ⟨v6, g, h⟩ := zb_some h
    refine zw_geti hX zl_X16_143 dX16_way_51 g ?_
    refine zw_imul hX dX16_way_54 ?_
    refine zw_icmp_ge (tgt := 134) hX dX16_way_55 (by decide) (fun c55 => ?_) (fun c55 => ?_)
    · rw [if_pos c55] at h
      refine zw_sub (lv' := [(0, .ref a0), (2, .int i2), (3, .int i3)]) (List.forall_mem_cons.mpr ⟨rfl, (List.forall_mem_cons.mpr ⟨rfl, (List.forall_mem_cons.mpr ⟨rfl, zs_nil⟩)⟩)⟩) ?_
      exact hk _ _ (Option.some.inj h).symm
    · rw [if_neg c55] at h
      refine zw_aload_n hX dX16_way_58 rfl ?_
      refine zw_iload hX dX16_way_59 rfl ?_
      obtain ⟨_, gi, h⟩ := zb_some h
      obtain ⟨r9, g, h⟩ := zb_some h
      refine zc_Vi (as := [.int i4]) hX gi (zt_X16_hasDoor (d := d - 1) (by omega) g) zl_X16_239 rfl dX16_way_61 ⟨rfl, rfl, Nat.le_of_ble_eq_true rfl⟩ ⟨by omega, by omega⟩ ?_
      refine zw_if_eq (tgt := 128) hX dX16_way_64 (by decide) (fun c64 => ?_) (fun c64 => ?_)
      · rw [if_pos c64] at h
        refine zw_iinc (v := (i4 + (1 : Int32))) hX dX16_way_128 rfl rfl (by decide) ?_
        refine zw_goto (tgt := 47) hX dX16_way_131 (by decide) ?_
        refine zw_sub (lv' := [(0, .ref a0), (2, .int i2), (3, .int i3), (4, .int (i4 + (1 : Int32)))]) (List.forall_mem_cons.mpr ⟨rfl, (List.forall_mem_cons.mpr ⟨rfl, (List.forall_mem_cons.mpr ⟨rfl, (List.forall_mem_cons.mpr ⟨rfl, zs_nil⟩)⟩)⟩)⟩) ?_
        exact ih _ _ _ h
      · rw [if_neg c64] at h
        refine zw_aload_n hX dX16_way_67 rfl ?_
        obtain ⟨b10, g, h⟩ := zb_some h
        refine zw_getr hX zl_X16_86 dX16_way_68 g ?_
        refine zw_aload_n hX dX16_way_71 rfl ?_
        refine zw_iload hX dX16_way_72 rfl ?_
        obtain ⟨_, gi, h⟩ := zb_some h
        obtain ⟨r13, g, h⟩ := zb_some h
        refine zc_Vi (as := [.int i4]) hX gi (zt_X16_left (d := d - 1) (by omega) g) zl_X16_153 rfl dX16_way_74 ⟨rfl, rfl, Nat.le_of_ble_eq_true rfl⟩ ⟨by omega, by omega⟩ ?_
        refine zw_iconst (v := (1 : Int32)) hX dX16_way_77 (by decide) ?_
        refine zw_iadd hX dX16_way_78 ?_
        obtain ⟨v14, g, h⟩ := zb_some h
        refine zw_xi hX dX16_way_79 g ?_
        refine zw_iconst (v := (1 : Int32)) hX dX16_way_80 (by decide) ?_
        refine zw_iadd hX dX16_way_81 ?_
        refine zw_aload_n hX dX16_way_82 rfl ?_
        obtain ⟨b15, g, h⟩ := zb_some h
        refine zw_getr hX zl_X16_86 dX16_way_83 g ?_
        refine zw_aload_n hX dX16_way_86 rfl ?_
        refine zw_iload hX dX16_way_87 rfl ?_
        obtain ⟨_, gi, h⟩ := zb_some h
        obtain ⟨r18, g, h⟩ := zb_some h
        refine zc_Vi (as := [.int i4]) hX gi (zt_X16_right (d := d - 1) (by omega) g) zl_X16_227 rfl dX16_way_89 ⟨rfl, rfl, Nat.le_of_ble_eq_true rfl⟩ ⟨by omega, by omega⟩ ?_
        refine zw_iconst (v := (1 : Int32)) hX dX16_way_92 (by decide) ?_
        refine zw_iadd hX dX16_way_93 ?_
        obtain ⟨v19, g, h⟩ := zb_some h
        refine zw_xi hX dX16_way_94 g ?_
        refine zw_icmp_ge (tgt := 128) hX dX16_way_95 (by decide) (fun c95 => ?_) (fun c95 => ?_)
        · rw [if_pos c95] at h
          refine zw_iinc (v := (i4 + (1 : Int32))) hX dX16_way_128 rfl rfl (by decide) ?_
          refine zw_goto (tgt := 47) hX dX16_way_131 (by decide) ?_
          refine zw_sub (lv' := [(0, .ref a0), (2, .int i2), (3, .int i3), (4, .int (i4 + (1 : Int32)))]) (List.forall_mem_cons.mpr ⟨rfl, (List.forall_mem_cons.mpr ⟨rfl, (List.forall_mem_cons.mpr ⟨rfl, (List.forall_mem_cons.mpr ⟨rfl, zs_nil⟩)⟩)⟩)⟩) ?_
          exact ih _ _ _ h
        · rw [if_neg c95] at h
          refine zw_aload_n hX dX16_way_98 rfl ?_
          obtain ⟨b20, g, h⟩ := zb_some h
          refine zw_getr hX zl_X16_86 dX16_way_99 g ?_
          refine zw_aload_n hX dX16_way_102 rfl ?_
          refine zw_iload hX dX16_way_103 rfl ?_
          obtain ⟨_, gi, h⟩ := zb_some h
          obtain ⟨r23, g, h⟩ := zb_some h
          refine zc_Vi (as := [.int i4]) hX gi (zt_X16_right (d := d - 1) (by omega) g) zl_X16_227 rfl dX16_way_105 ⟨rfl, rfl, Nat.le_of_ble_eq_true rfl⟩ ⟨by omega, by omega⟩ ?_
          refine zw_iconst (v := (1 : Int32)) hX dX16_way_108 (by decide) ?_
          refine zw_iadd hX dX16_way_109 ?_
          refine zw_aload_n hX dX16_way_110 rfl ?_
          obtain ⟨b24, g, h⟩ := zb_some h
          refine zw_getr hX zl_X16_86 dX16_way_111 g ?_
          refine zw_aload_n hX dX16_way_114 rfl ?_
          refine zw_iload hX dX16_way_115 rfl ?_
          obtain ⟨_, gi, h⟩ := zb_some h
          obtain ⟨r27, g, h⟩ := zb_some h
          refine zc_Vi (as := [.int i4]) hX gi (zt_X16_left (d := d - 1) (by omega) g) zl_X16_153 rfl dX16_way_117 ⟨rfl, rfl, Nat.le_of_ble_eq_true rfl⟩ ⟨by omega, by omega⟩ ?_
          refine zw_iconst (v := (1 : Int32)) hX dX16_way_120 (by decide) ?_
          refine zw_iadd hX dX16_way_121 ?_
          obtain ⟨v28, g, h⟩ := zb_some h
          refine zw_xi hX dX16_way_122 g ?_
          refine zw_iconst (v := (1 : Int32)) hX dX16_way_123 (by decide) ?_
          refine zw_iadd hX dX16_way_124 ?_
          obtain ⟨S29, g, h⟩ := zb_some h
          refine zw_si hX dX16_way_125 g ?_
          refine zw_iconst (v := (1 : Int32)) hX dX16_way_126 (by decide) ?_
          refine zw_istore_n hX dX16_way_127 (by decide) ?_
          refine zw_iinc (v := (i4 + (1 : Int32))) hX dX16_way_128 rfl rfl (by decide) ?_
          refine zw_goto (tgt := 47) hX dX16_way_131 (by decide) ?_
          refine zw_sub (lv' := [(0, .ref a0), (2, .int i2), (3, .int (1 : Int32)), (4, .int (i4 + (1 : Int32)))]) (List.forall_mem_cons.mpr ⟨rfl, (List.forall_mem_cons.mpr ⟨rfl, (List.forall_mem_cons.mpr ⟨rfl, (List.forall_mem_cons.mpr ⟨rfl, zs_nil⟩)⟩)⟩)⟩) ?_
          exact ih _ _ _ h
def zf_X16_way_L38 (N : Nat) : Nat → Nat → Int32 → Int32 → zm_S → Option ((Int32 × zm_S) ⊕ ((Unit) × zm_S))
  | 0, _, _, _, _ => none
  | n + 1, a0, i2, i3, S => if i3 = 0 then some (.inr ((), S)) else (zf_X16_way_L47 N N a0 i2 (0 : Int32) (0 : Int32) S).bind (fun r => match r with | .inl o => some (.inl o) | .inr (v31, S30) => zf_X16_way_L38 N n a0 i2 v31 S30)
set_option maxHeartbeats 4000000 in
set_option maxRecDepth 100000 in
theorem zt_X16_way_L38 {p : Program} {l : Launch} {e : Env} {R : Room} {s : State} {m : MethodId} {args : Array Value} {below : List Frame} {meth : Method} {c : Code} {V : zm_V} {mc ms d rc rs : Nat} (hX : zm_X p R s m args meth c RX16 "way" cX16_way 5 zk_E V mc ms) (hr : meth.sig.returnType = (some .int)) (hR : R.frames = d ∧ R.locals = 64 * d) (hd : 4 ≤ d) {N : Nat} {res : (Int32 × zm_S) ⊕ ((Unit) × zm_S)} {out : (Int32 × zm_S)} (a0 : Nat) (i2 : Int32) (hf : ∀ o, res = .inl o → o = out) (hk : ∀ (S' : zm_S), res = .inr ((), S') → zw p l e R s m args below meth c (vx_MQ below (zm_Qc zk_E V (zo_i out)) (zm_XC zk_E V zo_x) args s mc ms (fun q => V.2.2.2.1 ≤ q)) 5 zk_E V mc ms 137 [(0, .ref a0), (2, .int i2)] [] S' rc rs) : ∀ (n : Nat) (i3 : Int32) (S : zm_S), zf_X16_way_L38 N n a0 i2 i3 S = some res → zw p l e R s m args below meth c (vx_MQ below (zm_Qc zk_E V (zo_i out)) (zm_XC zk_E V zo_x) args s mc ms (fun q => V.2.2.2.1 ≤ q)) 5 zk_E V mc ms 38 [(0, .ref a0), (2, .int i2), (3, .int i3)] [] S rc rs := by
  intro n
  induction n with
  | zero => intro i3 S h; cases h
  | succ n ih =>
    intro i3 S h
    rw [zf_X16_way_L38] at h
    refine zw_iload_n hX dX16_way_38 rfl ?_
    refine zw_if_eq (tgt := 137) hX dX16_way_39 (by decide) (fun c39 => ?_) (fun c39 => ?_)
    · rw [if_pos c39] at h
      refine zw_sub (lv' := [(0, .ref a0), (2, .int i2)]) (List.forall_mem_cons.mpr ⟨rfl, (List.forall_mem_cons.mpr ⟨rfl, zs_nil⟩)⟩) ?_
      exact hk  _ (Option.some.inj h).symm
    · rw [if_neg c39] at h
      refine zw_iconst (v := (0 : Int32)) hX dX16_way_42 (by decide) ?_
      refine zw_istore_n hX dX16_way_43 (by decide) ?_
      refine zw_iconst (v := (0 : Int32)) hX dX16_way_44 (by decide) ?_
      refine zw_istore hX dX16_way_45 (by decide) ?_
      obtain ⟨r, g, h⟩ := zb_some h
      refine zw_sub (lv' := [(0, .ref a0), (2, .int i2), (3, .int (0 : Int32)), (4, .int (0 : Int32))]) (List.forall_mem_cons.mpr ⟨rfl, (List.forall_mem_cons.mpr ⟨rfl, (List.forall_mem_cons.mpr ⟨rfl, (List.forall_mem_cons.mpr ⟨rfl, zs_nil⟩)⟩)⟩)⟩) ?_
      refine zt_X16_way_L47 hX hr hR hd (res := r) (out := out) a0 i2 ?_ ?_ N _ _ _ g
      · intro o ho
        subst ho
        exact hf _ (Option.some.inj h).symm
      · intro v31 S30 hx
        subst hx
        try dsimp only at h
        refine zw_goto (tgt := 38) hX dX16_way_134 (by decide) ?_
        refine zw_sub (lv' := [(0, .ref a0), (2, .int i2), (3, .int v31)]) (List.forall_mem_cons.mpr ⟨rfl, (List.forall_mem_cons.mpr ⟨rfl, (List.forall_mem_cons.mpr ⟨rfl, zs_nil⟩)⟩)⟩) ?_
        exact ih _ _ h
def zf_X16_way (N : Nat) (a0 : Nat) (i1 : Int32) (i2 : Int32) (S : zm_S) : Option (Int32 × zm_S) := (zf_X16_way_L2 N N a0 i1 i2 (0 : Int32) S).bind (fun r => match r with | .inl o => some o | .inr (_, S5) => (zf_X16_way_L38 N N a0 i2 (1 : Int32) S5).bind (fun r => match r with | .inl o => some o | .inr (_, S32) => (zg_r S32 a0 16 39).bind (fun b33 => (za_x S32 0 b33 (i2 + (1 : Int32))).bind (fun v34 => if v34 = (1000 : Int32) then some ((-2 : Int32), S32) else (zg_r S32 a0 16 39).bind (fun b35 => (za_x S32 0 b35 (i2 + (1 : Int32))).bind (fun v36 => some (v36, S32)))))))
set_option maxHeartbeats 4000000 in
set_option maxRecDepth 100000 in
theorem zt_X16_way {l : Launch} {V : zm_V} {N : Nat} {S : zm_S} {out : (Int32 × zm_S)} {d : Nat} {a0 : Nat} {i1 : Int32} {i2 : Int32} (hd : 4 ≤ d) (h : zf_X16_way N a0 i1 i2 S = some out) : zm_Met l zk_E V yX16_way (.code yX16_way cX16_way 5 (some .int)) d [.ref a0, .int i1, .int i2] S 0 0 (zo_i out) zo_x := by
  refine zm_of (by decide +kernel) (Nat.le_of_ble_eq_true rfl) ?_
  intro p e R s m args below meth c hRR hX hr hxt
  have hR : R.frames = d ∧ R.locals = 64 * d := by rw [hRR]; exact ⟨rfl, rfl⟩
  have hX : zm_X p R s m args meth c RX16 "way" cX16_way 5 zk_E V 0 0 := hX
  unfold zf_X16_way at h
  refine zw_sub (lv' := [(0, .ref a0), (1, .int i1), (2, .int i2)]) (List.forall_mem_cons.mpr ⟨rfl, (List.forall_mem_cons.mpr ⟨rfl, (List.forall_mem_cons.mpr ⟨rfl, zs_nil⟩)⟩)⟩) ?_
  refine zw_iconst (v := (0 : Int32)) hX dX16_way_0 (by decide) ?_
  refine zw_istore_n hX dX16_way_1 (by decide) ?_
  obtain ⟨r, g, h⟩ := zb_some h
  refine zw_sub (lv' := [(0, .ref a0), (1, .int i1), (2, .int i2), (3, .int (0 : Int32))]) (List.forall_mem_cons.mpr ⟨rfl, (List.forall_mem_cons.mpr ⟨rfl, (List.forall_mem_cons.mpr ⟨rfl, (List.forall_mem_cons.mpr ⟨rfl, zs_nil⟩)⟩)⟩)⟩) ?_
  refine zt_X16_way_L2 hX hr hR hd (res := r) (out := out) a0 i1 i2 ?_ ?_ N _ _ g
  · intro o ho
    subst ho
    exact Option.some.inj h
  · intro  S5 hx
    subst hx
    try dsimp only at h
    refine zw_iconst (v := (1 : Int32)) hX dX16_way_36 (by decide) ?_
    refine zw_istore_n hX dX16_way_37 (by decide) ?_
    obtain ⟨r, g, h⟩ := zb_some h
    refine zw_sub (lv' := [(0, .ref a0), (2, .int i2), (3, .int (1 : Int32))]) (List.forall_mem_cons.mpr ⟨rfl, (List.forall_mem_cons.mpr ⟨rfl, (List.forall_mem_cons.mpr ⟨rfl, zs_nil⟩)⟩)⟩) ?_
    refine zt_X16_way_L38 hX hr hR hd (res := r) (out := out) a0 i2 ?_ ?_ N _ _ g
    · intro o ho
      subst ho
      exact Option.some.inj h
    · intro  S32 hx
      subst hx
      try dsimp only at h
      refine zw_aload_n hX dX16_way_137 rfl ?_
      obtain ⟨b33, g, h⟩ := zb_some h
      refine zw_getr hX zl_X16_86 dX16_way_138 g ?_
      refine zw_iload_n hX dX16_way_141 rfl ?_
      refine zw_iconst (v := (1 : Int32)) hX dX16_way_142 (by decide) ?_
      refine zw_iadd hX dX16_way_143 ?_
      obtain ⟨v34, g, h⟩ := zb_some h
      refine zw_xi hX dX16_way_144 g ?_
      refine zw_sipush (v := (1000 : Int32)) hX dX16_way_145 (by decide) ?_
      refine zw_icmp_ne (tgt := 156) hX dX16_way_148 (by decide) (fun c148 => ?_) (fun c148 => ?_)
      · rw [if_neg c148] at h
        refine zw_aload_n hX dX16_way_156 rfl ?_
        obtain ⟨b35, g, h⟩ := zb_some h
        refine zw_getr hX zl_X16_86 dX16_way_157 g ?_
        refine zw_iload_n hX dX16_way_160 rfl ?_
        refine zw_iconst (v := (1 : Int32)) hX dX16_way_161 (by decide) ?_
        refine zw_iadd hX dX16_way_162 ?_
        obtain ⟨v36, g, h⟩ := zb_some h
        refine zw_xi hX dX16_way_163 g ?_
        obtain rfl := Option.some.inj h
        exact zw_iret hX hr dX16_way_164 rfl ⟨rfl, rfl⟩
      · rw [if_pos c148] at h
        refine zw_bipush (v := (-2 : Int32)) hX dX16_way_151 (by decide) ?_
        refine zw_goto (tgt := 164) hX dX16_way_153 (by decide) ?_
        obtain rfl := Option.some.inj h
        exact zw_iret hX hr dX16_way_164 rfl ⟨rfl, rfl⟩
def zf_X16_pieceOf_L5 (N : Nat) : Nat → Nat → Int32 → Int32 → Int32 → zm_S → Option ((Int32 × zm_S) ⊕ ((Unit) × zm_S))
  | 0, _, _, _, _, _ => none
  | n + 1, a0, i1, i3, i4, S => (zg_i S a0 16 30).bind (fun v1 => if v1 ≤ i4 then some (.inr ((), S)) else (zg_r S a0 16 31).bind (fun b2 => (za_x S 0 b2 i4).bind (fun v3 => if v3 = i1 then if i3 = 0 then some (.inl (i4, S)) else zf_X16_pieceOf_L5 N n a0 i1 (i3 + (-1 : Int32)) (i4 + (1 : Int32)) S else zf_X16_pieceOf_L5 N n a0 i1 i3 (i4 + (1 : Int32)) S)))
set_option maxHeartbeats 4000000 in
set_option maxRecDepth 100000 in
theorem zt_X16_pieceOf_L5 {p : Program} {l : Launch} {e : Env} {R : Room} {s : State} {m : MethodId} {args : Array Value} {below : List Frame} {meth : Method} {c : Code} {V : zm_V} {mc ms d rc rs : Nat} (hX : zm_X p R s m args meth c RX16 "pieceOf" cX16_pieceOf 5 zk_E V mc ms) (hr : meth.sig.returnType = (some .int)) (hR : R.frames = d ∧ R.locals = 64 * d) (hd : 1 ≤ d) {N : Nat} {res : (Int32 × zm_S) ⊕ ((Unit) × zm_S)} {out : (Int32 × zm_S)} (a0 : Nat) (i1 : Int32) (hf : ∀ o, res = .inl o → o = out) (hk : ∀ (S' : zm_S), res = .inr ((), S') → zw p l e R s m args below meth c (vx_MQ below (zm_Qc zk_E V (zo_i out)) (zm_XC zk_E V zo_x) args s mc ms (fun q => V.2.2.2.1 ≤ q)) 5 zk_E V mc ms 41 [] [] S' rc rs) : ∀ (n : Nat) (i3 : Int32) (i4 : Int32) (S : zm_S), zf_X16_pieceOf_L5 N n a0 i1 i3 i4 S = some res → zw p l e R s m args below meth c (vx_MQ below (zm_Qc zk_E V (zo_i out)) (zm_XC zk_E V zo_x) args s mc ms (fun q => V.2.2.2.1 ≤ q)) 5 zk_E V mc ms 5 [(0, .ref a0), (1, .int i1), (3, .int i3), (4, .int i4)] [] S rc rs := by
  intro n
  induction n with
  | zero => intro i3 i4 S h; cases h
  | succ n ih =>
    intro i3 i4 S h
    rw [zf_X16_pieceOf_L5] at h
    refine zw_iload hX dX16_pieceOf_5 rfl ?_
    refine zw_aload_n hX dX16_pieceOf_7 rfl ?_
    obtain ⟨v1, g, h⟩ := zb_some h
    refine zw_geti hX zl_X16_143 dX16_pieceOf_8 g ?_
    refine zw_icmp_ge (tgt := 41) hX dX16_pieceOf_11 (by decide) (fun c11 => ?_) (fun c11 => ?_)
    · rw [if_pos c11] at h
      refine zw_sub (lv' := []) zs_nil ?_
      exact hk  _ (Option.some.inj h).symm
    · rw [if_neg c11] at h
      refine zw_aload_n hX dX16_pieceOf_14 rfl ?_
      obtain ⟨b2, g, h⟩ := zb_some h
      refine zw_getr hX zl_X16_65 dX16_pieceOf_15 g ?_
      refine zw_iload hX dX16_pieceOf_18 rfl ?_
      obtain ⟨v3, g, h⟩ := zb_some h
      refine zw_xi hX dX16_pieceOf_20 g ?_
      refine zw_iload_n hX dX16_pieceOf_21 rfl ?_
      refine zw_icmp_ne (tgt := 35) hX dX16_pieceOf_22 (by decide) (fun c22 => ?_) (fun c22 => ?_)
      · rw [if_neg c22] at h
        refine zw_iinc (v := (i4 + (1 : Int32))) hX dX16_pieceOf_35 rfl rfl (by decide) ?_
        refine zw_goto (tgt := 5) hX dX16_pieceOf_38 (by decide) ?_
        refine zw_sub (lv' := [(0, .ref a0), (1, .int i1), (3, .int i3), (4, .int (i4 + (1 : Int32)))]) (List.forall_mem_cons.mpr ⟨rfl, (List.forall_mem_cons.mpr ⟨rfl, (List.forall_mem_cons.mpr ⟨rfl, (List.forall_mem_cons.mpr ⟨rfl, zs_nil⟩)⟩)⟩)⟩) ?_
        exact ih _ _ _ h
      · rw [if_pos c22] at h
        refine zw_iload_n hX dX16_pieceOf_25 rfl ?_
        refine zw_if_ne (tgt := 32) hX dX16_pieceOf_26 (by decide) (fun c26 => ?_) (fun c26 => ?_)
        · rw [if_neg c26] at h
          refine zw_iinc (v := (i3 + (-1 : Int32))) hX dX16_pieceOf_32 rfl rfl (by decide) ?_
          refine zw_iinc (v := (i4 + (1 : Int32))) hX dX16_pieceOf_35 rfl rfl (by decide) ?_
          refine zw_goto (tgt := 5) hX dX16_pieceOf_38 (by decide) ?_
          refine zw_sub (lv' := [(0, .ref a0), (1, .int i1), (3, .int (i3 + (-1 : Int32))), (4, .int (i4 + (1 : Int32)))]) (List.forall_mem_cons.mpr ⟨rfl, (List.forall_mem_cons.mpr ⟨rfl, (List.forall_mem_cons.mpr ⟨rfl, (List.forall_mem_cons.mpr ⟨rfl, zs_nil⟩)⟩)⟩)⟩) ?_
          exact ih _ _ _ h
        · rw [if_pos c26] at h
          refine zw_iload hX dX16_pieceOf_29 rfl ?_
          have hz := hf _ (Option.some.inj h).symm
          subst hz
          exact zw_iret hX hr dX16_pieceOf_31 rfl ⟨rfl, rfl⟩
def zf_X16_pieceOf (N : Nat) (a0 : Nat) (i1 : Int32) (i2 : Int32) (S : zm_S) : Option (Int32 × zm_S) := (zf_X16_pieceOf_L5 N N a0 i1 i2 (0 : Int32) S).bind (fun r => match r with | .inl o => some o | .inr (_, S4) => some ((-1 : Int32), S4))
set_option maxHeartbeats 4000000 in
set_option maxRecDepth 100000 in
theorem zt_X16_pieceOf {l : Launch} {V : zm_V} {N : Nat} {S : zm_S} {out : (Int32 × zm_S)} {d : Nat} {a0 : Nat} {i1 : Int32} {i2 : Int32} (hd : 1 ≤ d) (h : zf_X16_pieceOf N a0 i1 i2 S = some out) : zm_Met l zk_E V yX16_pieceOf (.code yX16_pieceOf cX16_pieceOf 5 (some .int)) d [.ref a0, .int i1, .int i2] S 0 0 (zo_i out) zo_x := by
  refine zm_of (by decide +kernel) (Nat.le_of_ble_eq_true rfl) ?_
  intro p e R s m args below meth c hRR hX hr hxt
  have hR : R.frames = d ∧ R.locals = 64 * d := by rw [hRR]; exact ⟨rfl, rfl⟩
  have hX : zm_X p R s m args meth c RX16 "pieceOf" cX16_pieceOf 5 zk_E V 0 0 := hX
  unfold zf_X16_pieceOf at h
  refine zw_sub (lv' := [(0, .ref a0), (1, .int i1), (2, .int i2)]) (List.forall_mem_cons.mpr ⟨rfl, (List.forall_mem_cons.mpr ⟨rfl, (List.forall_mem_cons.mpr ⟨rfl, zs_nil⟩)⟩)⟩) ?_
  refine zw_iload_n hX dX16_pieceOf_0 rfl ?_
  refine zw_istore_n hX dX16_pieceOf_1 (by decide) ?_
  refine zw_iconst (v := (0 : Int32)) hX dX16_pieceOf_2 (by decide) ?_
  refine zw_istore hX dX16_pieceOf_3 (by decide) ?_
  obtain ⟨r, g, h⟩ := zb_some h
  refine zw_sub (lv' := [(0, .ref a0), (1, .int i1), (3, .int i2), (4, .int (0 : Int32))]) (List.forall_mem_cons.mpr ⟨rfl, (List.forall_mem_cons.mpr ⟨rfl, (List.forall_mem_cons.mpr ⟨rfl, (List.forall_mem_cons.mpr ⟨rfl, zs_nil⟩)⟩)⟩)⟩) ?_
  refine zt_X16_pieceOf_L5 hX hr hR hd (res := r) (out := out) a0 i1 ?_ ?_ N _ _ _ g
  · intro o ho
    subst ho
    exact Option.some.inj h
  · intro  S4 hx
    subst hx
    try dsimp only at h
    refine zw_iconst (v := (-1 : Int32)) hX dX16_pieceOf_41 (by decide) ?_
    obtain rfl := Option.some.inj h
    exact zw_iret hX hr dX16_pieceOf_42 rfl ⟨rfl, rfl⟩
def zf_X16_low (N : Nat) (a0 : Nat) (i1 : Int32) (S : zm_S) : Option (Int32 × zm_S) := (zg_r S a0 16 31).bind (fun b1 => (za_x S 0 b1 i1).bind (fun v2 => (zg_r S a0 16 28).bind (fun b3 => (zg_r S a0 16 32).bind (fun b4 => (za_x S 0 b4 i1).bind (fun v5 => (za_x S 0 b3 v5).bind (fun v6 => (zg_r S a0 16 1).bind (fun b7 => (za_x S 0 b7 v2).bind (fun v8 => (zg_r S a0 16 29).bind (fun b9 => (zg_r S a0 16 32).bind (fun b10 => (za_x S 0 b10 i1).bind (fun v11 => (za_x S 0 b9 v11).bind (fun v12 => (zg_r S a0 16 2).bind (fun b13 => (za_x S 0 b13 v2).bind (fun v14 => some ((((v6 - v8) + v12) - v14), S)))))))))))))))
set_option maxHeartbeats 4000000 in
set_option maxRecDepth 100000 in
theorem zt_X16_low {l : Launch} {V : zm_V} {N : Nat} {S : zm_S} {out : (Int32 × zm_S)} {d : Nat} {a0 : Nat} {i1 : Int32} (hd : 1 ≤ d) (h : zf_X16_low N a0 i1 S = some out) : zm_Met l zk_E V yX16_low (.code yX16_low cX16_low 3 (some .int)) d [.ref a0, .int i1] S 0 0 (zo_i out) zo_x := by
  refine zm_of (by decide +kernel) (Nat.le_of_ble_eq_true rfl) ?_
  intro p e R s m args below meth c hRR hX hr hxt
  have hR : R.frames = d ∧ R.locals = 64 * d := by rw [hRR]; exact ⟨rfl, rfl⟩
  have hX : zm_X p R s m args meth c RX16 "low" cX16_low 3 zk_E V 0 0 := hX
  unfold zf_X16_low at h
  refine zw_sub (lv' := [(0, .ref a0), (1, .int i1)]) (List.forall_mem_cons.mpr ⟨rfl, (List.forall_mem_cons.mpr ⟨rfl, zs_nil⟩)⟩) ?_
  refine zw_aload_n hX dX16_low_0 rfl ?_
  obtain ⟨b1, g, h⟩ := zb_some h
  refine zw_getr hX zl_X16_65 dX16_low_1 g ?_
  refine zw_iload_n hX dX16_low_4 rfl ?_
  obtain ⟨v2, g, h⟩ := zb_some h
  refine zw_xi hX dX16_low_5 g ?_
  refine zw_istore_n hX dX16_low_6 (by decide) ?_
  refine zw_aload_n hX dX16_low_7 rfl ?_
  obtain ⟨b3, g, h⟩ := zb_some h
  refine zw_getr hX zl_X16_59 dX16_low_8 g ?_
  refine zw_aload_n hX dX16_low_11 rfl ?_
  obtain ⟨b4, g, h⟩ := zb_some h
  refine zw_getr hX zl_X16_68 dX16_low_12 g ?_
  refine zw_iload_n hX dX16_low_15 rfl ?_
  obtain ⟨v5, g, h⟩ := zb_some h
  refine zw_xi hX dX16_low_16 g ?_
  obtain ⟨v6, g, h⟩ := zb_some h
  refine zw_xi hX dX16_low_17 g ?_
  refine zw_aload_n hX dX16_low_18 rfl ?_
  obtain ⟨b7, g, h⟩ := zb_some h
  refine zw_getr hX zl_X16_7 dX16_low_19 g ?_
  refine zw_iload_n hX dX16_low_22 rfl ?_
  obtain ⟨v8, g, h⟩ := zb_some h
  refine zw_xi hX dX16_low_23 g ?_
  refine zw_isub hX dX16_low_24 ?_
  refine zw_aload_n hX dX16_low_25 rfl ?_
  obtain ⟨b9, g, h⟩ := zb_some h
  refine zw_getr hX zl_X16_62 dX16_low_26 g ?_
  refine zw_aload_n hX dX16_low_29 rfl ?_
  obtain ⟨b10, g, h⟩ := zb_some h
  refine zw_getr hX zl_X16_68 dX16_low_30 g ?_
  refine zw_iload_n hX dX16_low_33 rfl ?_
  obtain ⟨v11, g, h⟩ := zb_some h
  refine zw_xi hX dX16_low_34 g ?_
  obtain ⟨v12, g, h⟩ := zb_some h
  refine zw_xi hX dX16_low_35 g ?_
  refine zw_iadd hX dX16_low_36 ?_
  refine zw_aload_n hX dX16_low_37 rfl ?_
  obtain ⟨b13, g, h⟩ := zb_some h
  refine zw_getr hX zl_X16_13 dX16_low_38 g ?_
  refine zw_iload_n hX dX16_low_41 rfl ?_
  obtain ⟨v14, g, h⟩ := zb_some h
  refine zw_xi hX dX16_low_42 g ?_
  refine zw_isub hX dX16_low_43 ?_
  obtain rfl := Option.some.inj h
  exact zw_iret hX hr dX16_low_44 rfl ⟨rfl, rfl⟩
def zf_X16_partFrom_J53 (N : Nat) (a0 : Nat) (i1 : Int32) (i3 : Int32) (t0 : Int32) (S : zm_S) : Option (Int32 × zm_S) := if t0 = 0 then some ((-1 : Int32), S) else (zi S a0 16).bind (fun _ => (zf_X16_low N a0 i1 S).bind (fun r21 => (zg_r r21.2 a0 16 6).bind (fun b22 => (za_x r21.2 0 b22 i3).bind (fun v23 => if r21.1 ≤ v23 then (zg_r r21.2 a0 16 6).bind (fun b24 => (za_x r21.2 0 b24 i3).bind (fun v25 => some (v25, r21.2))) else (zi r21.2 a0 16).bind (fun _ => (zf_X16_low N a0 i1 r21.2).bind (fun r28 => some (r28.1, r28.2)))))))
set_option maxHeartbeats 4000000 in
set_option maxRecDepth 100000 in
theorem zt_X16_partFrom_J53 {p : Program} {l : Launch} {e : Env} {R : Room} {s : State} {m : MethodId} {args : Array Value} {below : List Frame} {meth : Method} {c : Code} {V : zm_V} {mc ms d rc rs : Nat} (hX : zm_X p R s m args meth c RX16 "partFrom" cX16_partFrom 5 zk_E V mc ms) (hr : meth.sig.returnType = (some .int)) (hR : R.frames = d ∧ R.locals = 64 * d) (hd : 2 ≤ d) {N : Nat} {a0 : Nat} {i1 : Int32} {i3 : Int32} {t0 : Int32} {out : (Int32 × zm_S)} {S : zm_S} (h : zf_X16_partFrom_J53 N a0 i1 i3 t0 S = some out) : zw p l e R s m args below meth c (vx_MQ below (zm_Qc zk_E V (zo_i out)) (zm_XC zk_E V zo_x) args s mc ms (fun q => V.2.2.2.1 ≤ q)) 5 zk_E V mc ms 53 [(0, .ref a0), (1, .int i1), (3, .int i3)] [.int t0] S rc rs := by
  unfold zf_X16_partFrom_J53 at h
  refine zw_istore hX dX16_partFrom_53 (by decide) ?_
  refine zw_iload hX dX16_partFrom_55 rfl ?_
  refine zw_if_ne (tgt := 64) hX dX16_partFrom_57 (by decide) (fun c57 => ?_) (fun c57 => ?_)
  · rw [if_neg c57] at h
    refine zw_aload_n hX dX16_partFrom_64 rfl ?_
    refine zw_iload_n hX dX16_partFrom_65 rfl ?_
    obtain ⟨_, gi, h⟩ := zb_some h
    obtain ⟨r21, g, h⟩ := zb_some h
    refine zc_Vi (as := [.int i1]) hX gi (zt_X16_low (d := d - 1) (by omega) g) zl_X16_242 rfl dX16_partFrom_66 ⟨rfl, rfl, Nat.le_of_ble_eq_true rfl⟩ ⟨by omega, by omega⟩ ?_
    refine zw_aload_n hX dX16_partFrom_69 rfl ?_
    obtain ⟨b22, g, h⟩ := zb_some h
    refine zw_getr hX zl_X16_26 dX16_partFrom_70 g ?_
    refine zw_iload_n hX dX16_partFrom_73 rfl ?_
    obtain ⟨v23, g, h⟩ := zb_some h
    refine zw_xi hX dX16_partFrom_74 g ?_
    refine zw_icmp_le (tgt := 86) hX dX16_partFrom_75 (by decide) (fun c75 => ?_) (fun c75 => ?_)
    · rw [if_pos c75] at h
      refine zw_aload_n hX dX16_partFrom_86 rfl ?_
      obtain ⟨b24, g, h⟩ := zb_some h
      refine zw_getr hX zl_X16_26 dX16_partFrom_87 g ?_
      refine zw_iload_n hX dX16_partFrom_90 rfl ?_
      obtain ⟨v25, g, h⟩ := zb_some h
      refine zw_xi hX dX16_partFrom_91 g ?_
      obtain rfl := Option.some.inj h
      exact zw_iret hX hr dX16_partFrom_92 rfl ⟨rfl, rfl⟩
    · rw [if_neg c75] at h
      refine zw_aload_n hX dX16_partFrom_78 rfl ?_
      refine zw_iload_n hX dX16_partFrom_79 rfl ?_
      obtain ⟨_, gi, h⟩ := zb_some h
      obtain ⟨r28, g, h⟩ := zb_some h
      refine zc_Vi (as := [.int i1]) hX gi (zt_X16_low (d := d - 1) (by omega) g) zl_X16_242 rfl dX16_partFrom_80 ⟨rfl, rfl, Nat.le_of_ble_eq_true rfl⟩ ⟨by omega, by omega⟩ ?_
      refine zw_goto (tgt := 92) hX dX16_partFrom_83 (by decide) ?_
      obtain rfl := Option.some.inj h
      exact zw_iret hX hr dX16_partFrom_92 rfl ⟨rfl, rfl⟩
  · rw [if_pos c57] at h
    refine zw_iconst (v := (-1 : Int32)) hX dX16_partFrom_60 (by decide) ?_
    refine zw_goto (tgt := 92) hX dX16_partFrom_61 (by decide) ?_
    obtain rfl := Option.some.inj h
    exact zw_iret hX hr dX16_partFrom_92 rfl ⟨rfl, rfl⟩
def zf_X16_partFrom (N : Nat) (a0 : Nat) (i1 : Int32) (i2 : Int32) (S : zm_S) : Option (Int32 × zm_S) := (zg_r S a0 16 31).bind (fun b1 => (za_x S 0 b1 i1).bind (fun v2 => (zi S a0 16).bind (fun _ => (zf_X16_low N a0 i1 S).bind (fun r5 => (zi r5.2 a0 16).bind (fun _ => (zf_X16_low N a0 i1 r5.2).bind (fun r8 => (zi r8.2 a0 16).bind (fun _ => (zf_X16_sideLength N a0 ((2 : Int32) * i1) r8.2).bind (fun r11 => (zg_r r11.2 a0 16 6).bind (fun b12 => (za_x r11.2 0 b12 (((6 : Int32) * v2) + i2)).bind (fun v13 => (zg_r r11.2 a0 16 7).bind (fun b14 => (za_x r11.2 0 b14 (((6 : Int32) * v2) + i2)).bind (fun v15 => (zf_X16_shared N r5.1 (r8.1 + r11.1) v13 v15 r11.2).bind (fun r18 => if r18.1 ≤ 0 then zf_X16_partFrom_J53 N a0 i1 (((6 : Int32) * v2) + i2) (0 : Int32) r18.2 else zf_X16_partFrom_J53 N a0 i1 (((6 : Int32) * v2) + i2) (1 : Int32) r18.2)))))))))))))
set_option maxHeartbeats 4000000 in
set_option maxRecDepth 100000 in
theorem zt_X16_partFrom {l : Launch} {V : zm_V} {N : Nat} {S : zm_S} {out : (Int32 × zm_S)} {d : Nat} {a0 : Nat} {i1 : Int32} {i2 : Int32} (hd : 2 ≤ d) (h : zf_X16_partFrom N a0 i1 i2 S = some out) : zm_Met l zk_E V yX16_partFrom (.code yX16_partFrom cX16_partFrom 5 (some .int)) d [.ref a0, .int i1, .int i2] S 0 0 (zo_i out) zo_x := by
  refine zm_of (by decide +kernel) (Nat.le_of_ble_eq_true rfl) ?_
  intro p e R s m args below meth c hRR hX hr hxt
  have hR : R.frames = d ∧ R.locals = 64 * d := by rw [hRR]; exact ⟨rfl, rfl⟩
  have hX : zm_X p R s m args meth c RX16 "partFrom" cX16_partFrom 5 zk_E V 0 0 := hX
  unfold zf_X16_partFrom at h
  refine zw_sub (lv' := [(0, .ref a0), (1, .int i1), (2, .int i2)]) (List.forall_mem_cons.mpr ⟨rfl, (List.forall_mem_cons.mpr ⟨rfl, (List.forall_mem_cons.mpr ⟨rfl, zs_nil⟩)⟩)⟩) ?_
  refine zw_bipush (v := (6 : Int32)) hX dX16_partFrom_0 (by decide) ?_
  refine zw_aload_n hX dX16_partFrom_2 rfl ?_
  obtain ⟨b1, g, h⟩ := zb_some h
  refine zw_getr hX zl_X16_65 dX16_partFrom_3 g ?_
  refine zw_iload_n hX dX16_partFrom_6 rfl ?_
  obtain ⟨v2, g, h⟩ := zb_some h
  refine zw_xi hX dX16_partFrom_7 g ?_
  refine zw_imul hX dX16_partFrom_8 ?_
  refine zw_iload_n hX dX16_partFrom_9 rfl ?_
  refine zw_iadd hX dX16_partFrom_10 ?_
  refine zw_istore_n hX dX16_partFrom_11 (by decide) ?_
  refine zw_aload_n hX dX16_partFrom_12 rfl ?_
  refine zw_iload_n hX dX16_partFrom_13 rfl ?_
  obtain ⟨_, gi, h⟩ := zb_some h
  obtain ⟨r5, g, h⟩ := zb_some h
  refine zc_Vi (as := [.int i1]) hX gi (zt_X16_low (d := d - 1) (by omega) g) zl_X16_242 rfl dX16_partFrom_14 ⟨rfl, rfl, Nat.le_of_ble_eq_true rfl⟩ ⟨by omega, by omega⟩ ?_
  refine zw_aload_n hX dX16_partFrom_17 rfl ?_
  refine zw_iload_n hX dX16_partFrom_18 rfl ?_
  obtain ⟨_, gi, h⟩ := zb_some h
  obtain ⟨r8, g, h⟩ := zb_some h
  refine zc_Vi (as := [.int i1]) hX gi (zt_X16_low (d := d - 1) (by omega) g) zl_X16_242 rfl dX16_partFrom_19 ⟨rfl, rfl, Nat.le_of_ble_eq_true rfl⟩ ⟨by omega, by omega⟩ ?_
  refine zw_aload_n hX dX16_partFrom_22 rfl ?_
  refine zw_iconst (v := (2 : Int32)) hX dX16_partFrom_23 (by decide) ?_
  refine zw_iload_n hX dX16_partFrom_24 rfl ?_
  refine zw_imul hX dX16_partFrom_25 ?_
  obtain ⟨_, gi, h⟩ := zb_some h
  obtain ⟨r11, g, h⟩ := zb_some h
  refine zc_Vi (as := [.int ((2 : Int32) * i1)]) hX gi (zt_X16_sideLength (d := d - 1) (by omega) g) zl_X16_230 rfl dX16_partFrom_26 ⟨rfl, rfl, Nat.le_of_ble_eq_true rfl⟩ ⟨by omega, by omega⟩ ?_
  refine zw_iadd hX dX16_partFrom_29 ?_
  refine zw_aload_n hX dX16_partFrom_30 rfl ?_
  obtain ⟨b12, g, h⟩ := zb_some h
  refine zw_getr hX zl_X16_26 dX16_partFrom_31 g ?_
  refine zw_iload_n hX dX16_partFrom_34 rfl ?_
  obtain ⟨v13, g, h⟩ := zb_some h
  refine zw_xi hX dX16_partFrom_35 g ?_
  refine zw_aload_n hX dX16_partFrom_36 rfl ?_
  obtain ⟨b14, g, h⟩ := zb_some h
  refine zw_getr hX zl_X16_29 dX16_partFrom_37 g ?_
  refine zw_iload_n hX dX16_partFrom_40 rfl ?_
  obtain ⟨v15, g, h⟩ := zb_some h
  refine zw_xi hX dX16_partFrom_41 g ?_
  obtain ⟨r18, g, h⟩ := zb_some h
  refine zc_Si (as := [.int r5.1, .int (r8.1 + r11.1), .int v13, .int v15]) hX (zt_X16_shared (d := d - 1) (by omega) g) zl_X16_214 dX16_partFrom_42 ⟨rfl, rfl, Nat.le_of_ble_eq_true rfl⟩ ⟨by omega, by omega⟩ ?_
  refine zw_if_le (tgt := 52) hX dX16_partFrom_45 (by decide) (fun c45 => ?_) (fun c45 => ?_)
  · rw [if_pos c45] at h
    refine zw_iconst (v := (0 : Int32)) hX dX16_partFrom_52 (by decide) ?_
    refine zw_sub (lv' := [(0, .ref a0), (1, .int i1), (3, .int (((6 : Int32) * v2) + i2))]) (List.forall_mem_cons.mpr ⟨rfl, (List.forall_mem_cons.mpr ⟨rfl, (List.forall_mem_cons.mpr ⟨rfl, zs_nil⟩)⟩)⟩) ?_
    exact zt_X16_partFrom_J53 hX hr hR hd h
  · rw [if_neg c45] at h
    refine zw_iconst (v := (1 : Int32)) hX dX16_partFrom_48 (by decide) ?_
    refine zw_goto (tgt := 53) hX dX16_partFrom_49 (by decide) ?_
    refine zw_sub (lv' := [(0, .ref a0), (1, .int i1), (3, .int (((6 : Int32) * v2) + i2))]) (List.forall_mem_cons.mpr ⟨rfl, (List.forall_mem_cons.mpr ⟨rfl, (List.forall_mem_cons.mpr ⟨rfl, zs_nil⟩)⟩)⟩) ?_
    exact zt_X16_partFrom_J53 hX hr hR hd h
def zf_X16_roomBeside (N : Nat) (a0 : Nat) (i1 : Int32) (i2 : Int32) (S : zm_S) : Option (Int32 × zm_S) := if i2 = 0 then (zi S a0 16).bind (fun _ => (zf_X16_right N a0 ((2 : Int32) * i1) S).bind (fun r3 => some (r3.1, r3.2))) else (zi S a0 16).bind (fun _ => (zf_X16_left N a0 ((2 : Int32) * i1) S).bind (fun r6 => some (r6.1, r6.2)))
set_option maxHeartbeats 4000000 in
set_option maxRecDepth 100000 in
theorem zt_X16_roomBeside {l : Launch} {V : zm_V} {N : Nat} {S : zm_S} {out : (Int32 × zm_S)} {d : Nat} {a0 : Nat} {i1 : Int32} {i2 : Int32} (hd : 4 ≤ d) (h : zf_X16_roomBeside N a0 i1 i2 S = some out) : zm_Met l zk_E V yX16_roomBeside (.code yX16_roomBeside cX16_roomBeside 3 (some .int)) d [.ref a0, .int i1, .int i2] S 0 0 (zo_i out) zo_x := by
  refine zm_of (by decide +kernel) (Nat.le_of_ble_eq_true rfl) ?_
  intro p e R s m args below meth c hRR hX hr hxt
  have hR : R.frames = d ∧ R.locals = 64 * d := by rw [hRR]; exact ⟨rfl, rfl⟩
  have hX : zm_X p R s m args meth c RX16 "roomBeside" cX16_roomBeside 3 zk_E V 0 0 := hX
  unfold zf_X16_roomBeside at h
  refine zw_sub (lv' := [(0, .ref a0), (1, .int i1), (2, .int i2)]) (List.forall_mem_cons.mpr ⟨rfl, (List.forall_mem_cons.mpr ⟨rfl, (List.forall_mem_cons.mpr ⟨rfl, zs_nil⟩)⟩)⟩) ?_
  refine zw_iload_n hX dX16_roomBeside_0 rfl ?_
  refine zw_if_eq (tgt := 14) hX dX16_roomBeside_1 (by decide) (fun c1 => ?_) (fun c1 => ?_)
  · rw [if_pos c1] at h
    refine zw_aload_n hX dX16_roomBeside_14 rfl ?_
    refine zw_iconst (v := (2 : Int32)) hX dX16_roomBeside_15 (by decide) ?_
    refine zw_iload_n hX dX16_roomBeside_16 rfl ?_
    refine zw_imul hX dX16_roomBeside_17 ?_
    obtain ⟨_, gi, h⟩ := zb_some h
    obtain ⟨r3, g, h⟩ := zb_some h
    refine zc_Vi (as := [.int ((2 : Int32) * i1)]) hX gi (zt_X16_right (d := d - 1) (by omega) g) zl_X16_227 rfl dX16_roomBeside_18 ⟨rfl, rfl, Nat.le_of_ble_eq_true rfl⟩ ⟨by omega, by omega⟩ ?_
    obtain rfl := Option.some.inj h
    exact zw_iret hX hr dX16_roomBeside_21 rfl ⟨rfl, rfl⟩
  · rw [if_neg c1] at h
    refine zw_aload_n hX dX16_roomBeside_4 rfl ?_
    refine zw_iconst (v := (2 : Int32)) hX dX16_roomBeside_5 (by decide) ?_
    refine zw_iload_n hX dX16_roomBeside_6 rfl ?_
    refine zw_imul hX dX16_roomBeside_7 ?_
    obtain ⟨_, gi, h⟩ := zb_some h
    obtain ⟨r6, g, h⟩ := zb_some h
    refine zc_Vi (as := [.int ((2 : Int32) * i1)]) hX gi (zt_X16_left (d := d - 1) (by omega) g) zl_X16_153 rfl dX16_roomBeside_8 ⟨rfl, rfl, Nat.le_of_ble_eq_true rfl⟩ ⟨by omega, by omega⟩ ?_
    refine zw_goto (tgt := 21) hX dX16_roomBeside_11 (by decide) ?_
    obtain rfl := Option.some.inj h
    exact zw_iret hX hr dX16_roomBeside_21 rfl ⟨rfl, rfl⟩
def zf_X16_cellAt (N : Nat) (a0 : Nat) (i1 : Int32) (i2 : Int32) (i3 : Int32) (i4 : Int32) (S : zm_S) : Option (Int32 × zm_S) := (zg_r S a0 16 3).bind (fun b1 => (za_x S 2 b1 i1).bind (fun v2 => if v2 = 0 then if i4 = 0 then (zg_r S a0 16 2).bind (fun b3 => (za_x S 0 b3 i1).bind (fun v4 => some ((v4 + i2), S))) else (zg_r S a0 16 1).bind (fun b5 => (za_x S 0 b5 i1).bind (fun v6 => if i3 = 0 then some ((v6 - (0 : Int32)), S) else some ((v6 - (1 : Int32)), S))) else if i4 = 0 then (zg_r S a0 16 2).bind (fun b7 => (za_x S 0 b7 i1).bind (fun v8 => if i3 = 0 then some ((v8 - (1 : Int32)), S) else some ((v8 - (0 : Int32)), S))) else (zg_r S a0 16 1).bind (fun b9 => (za_x S 0 b9 i1).bind (fun v10 => some ((v10 + i2), S)))))
set_option maxHeartbeats 4000000 in
set_option maxRecDepth 100000 in
theorem zt_X16_cellAt {l : Launch} {V : zm_V} {N : Nat} {S : zm_S} {out : (Int32 × zm_S)} {d : Nat} {a0 : Nat} {i1 : Int32} {i2 : Int32} {i3 : Int32} {i4 : Int32} (hd : 1 ≤ d) (h : zf_X16_cellAt N a0 i1 i2 i3 i4 S = some out) : zm_Met l zk_E V yX16_cellAt (.code yX16_cellAt cX16_cellAt 5 (some .int)) d [.ref a0, .int i1, .int i2, .int i3, .int i4] S 0 0 (zo_i out) zo_x := by
  refine zm_of (by decide +kernel) (Nat.le_of_ble_eq_true rfl) ?_
  intro p e R s m args below meth c hRR hX hr hxt
  have hR : R.frames = d ∧ R.locals = 64 * d := by rw [hRR]; exact ⟨rfl, rfl⟩
  have hX : zm_X p R s m args meth c RX16 "cellAt" cX16_cellAt 5 zk_E V 0 0 := hX
  unfold zf_X16_cellAt at h
  refine zw_sub (lv' := [(0, .ref a0), (1, .int i1), (2, .int i2), (3, .int i3), (4, .int i4)]) (List.forall_mem_cons.mpr ⟨rfl, (List.forall_mem_cons.mpr ⟨rfl, (List.forall_mem_cons.mpr ⟨rfl, (List.forall_mem_cons.mpr ⟨rfl, (List.forall_mem_cons.mpr ⟨rfl, zs_nil⟩)⟩)⟩)⟩)⟩) ?_
  refine zw_aload_n hX dX16_cellAt_0 rfl ?_
  obtain ⟨b1, g, h⟩ := zb_some h
  refine zw_getr hX zl_X16_16 dX16_cellAt_1 g ?_
  refine zw_iload_n hX dX16_cellAt_4 rfl ?_
  obtain ⟨v2, g, h⟩ := zb_some h
  refine zw_xz hX dX16_cellAt_5 g ?_
  refine zw_if_eq (tgt := 42) hX dX16_cellAt_6 (by decide) (fun c6 => ?_) (fun c6 => ?_)
  · rw [if_pos c6] at h
    refine zw_iload hX dX16_cellAt_42 rfl ?_
    refine zw_if_eq (tgt := 66) hX dX16_cellAt_44 (by decide) (fun c44 => ?_) (fun c44 => ?_)
    · rw [if_pos c44] at h
      refine zw_aload_n hX dX16_cellAt_66 rfl ?_
      obtain ⟨b3, g, h⟩ := zb_some h
      refine zw_getr hX zl_X16_13 dX16_cellAt_67 g ?_
      refine zw_iload_n hX dX16_cellAt_70 rfl ?_
      obtain ⟨v4, g, h⟩ := zb_some h
      refine zw_xi hX dX16_cellAt_71 g ?_
      refine zw_iload_n hX dX16_cellAt_72 rfl ?_
      refine zw_iadd hX dX16_cellAt_73 ?_
      obtain rfl := Option.some.inj h
      exact zw_iret hX hr dX16_cellAt_74 rfl ⟨rfl, rfl⟩
    · rw [if_neg c44] at h
      refine zw_aload_n hX dX16_cellAt_47 rfl ?_
      obtain ⟨b5, g, h⟩ := zb_some h
      refine zw_getr hX zl_X16_7 dX16_cellAt_48 g ?_
      refine zw_iload_n hX dX16_cellAt_51 rfl ?_
      obtain ⟨v6, g, h⟩ := zb_some h
      refine zw_xi hX dX16_cellAt_52 g ?_
      refine zw_iload_n hX dX16_cellAt_53 rfl ?_
      refine zw_if_eq (tgt := 61) hX dX16_cellAt_54 (by decide) (fun c54 => ?_) (fun c54 => ?_)
      · rw [if_pos c54] at h
        refine zw_iconst (v := (0 : Int32)) hX dX16_cellAt_61 (by decide) ?_
        refine zw_isub hX dX16_cellAt_62 ?_
        refine zw_goto (tgt := 74) hX dX16_cellAt_63 (by decide) ?_
        obtain rfl := Option.some.inj h
        exact zw_iret hX hr dX16_cellAt_74 rfl ⟨rfl, rfl⟩
      · rw [if_neg c54] at h
        refine zw_iconst (v := (1 : Int32)) hX dX16_cellAt_57 (by decide) ?_
        refine zw_goto (tgt := 62) hX dX16_cellAt_58 (by decide) ?_
        refine zw_isub hX dX16_cellAt_62 ?_
        refine zw_goto (tgt := 74) hX dX16_cellAt_63 (by decide) ?_
        obtain rfl := Option.some.inj h
        exact zw_iret hX hr dX16_cellAt_74 rfl ⟨rfl, rfl⟩
  · rw [if_neg c6] at h
    refine zw_iload hX dX16_cellAt_9 rfl ?_
    refine zw_if_eq (tgt := 25) hX dX16_cellAt_11 (by decide) (fun c11 => ?_) (fun c11 => ?_)
    · rw [if_pos c11] at h
      refine zw_aload_n hX dX16_cellAt_25 rfl ?_
      obtain ⟨b7, g, h⟩ := zb_some h
      refine zw_getr hX zl_X16_13 dX16_cellAt_26 g ?_
      refine zw_iload_n hX dX16_cellAt_29 rfl ?_
      obtain ⟨v8, g, h⟩ := zb_some h
      refine zw_xi hX dX16_cellAt_30 g ?_
      refine zw_iload_n hX dX16_cellAt_31 rfl ?_
      refine zw_if_eq (tgt := 39) hX dX16_cellAt_32 (by decide) (fun c32 => ?_) (fun c32 => ?_)
      · rw [if_pos c32] at h
        refine zw_iconst (v := (1 : Int32)) hX dX16_cellAt_39 (by decide) ?_
        refine zw_isub hX dX16_cellAt_40 ?_
        obtain rfl := Option.some.inj h
        exact zw_iret hX hr dX16_cellAt_41 rfl ⟨rfl, rfl⟩
      · rw [if_neg c32] at h
        refine zw_iconst (v := (0 : Int32)) hX dX16_cellAt_35 (by decide) ?_
        refine zw_goto (tgt := 40) hX dX16_cellAt_36 (by decide) ?_
        refine zw_isub hX dX16_cellAt_40 ?_
        obtain rfl := Option.some.inj h
        exact zw_iret hX hr dX16_cellAt_41 rfl ⟨rfl, rfl⟩
    · rw [if_neg c11] at h
      refine zw_aload_n hX dX16_cellAt_14 rfl ?_
      obtain ⟨b9, g, h⟩ := zb_some h
      refine zw_getr hX zl_X16_7 dX16_cellAt_15 g ?_
      refine zw_iload_n hX dX16_cellAt_18 rfl ?_
      obtain ⟨v10, g, h⟩ := zb_some h
      refine zw_xi hX dX16_cellAt_19 g ?_
      refine zw_iload_n hX dX16_cellAt_20 rfl ?_
      refine zw_iadd hX dX16_cellAt_21 ?_
      refine zw_goto (tgt := 41) hX dX16_cellAt_22 (by decide) ?_
      obtain rfl := Option.some.inj h
      exact zw_iret hX hr dX16_cellAt_41 rfl ⟨rfl, rfl⟩
def zf_X16_lineBetween_J164 (N : Nat) (k : Nat → Int32 → Int32 → Int32 → Int32 → Int32 → zm_S → Option ((Int32 × zm_S) ⊕ ((Int32) × zm_S))) (a0 : Nat) (i1 : Int32) (i2 : Int32) (i3 : Int32) (i4 : Int32) (i5 : Int32) (t0 : Int32) (S : zm_S) : Option ((Int32 × zm_S) ⊕ ((Int32) × zm_S)) := if t0 = 0 then k a0 i1 i2 i3 i4 (i5 + (1 : Int32)) S else k a0 i1 i2 i3 i5 (i5 + (1 : Int32)) S
set_option maxHeartbeats 4000000 in
set_option maxRecDepth 100000 in
theorem zt_X16_lineBetween_J164 {p : Program} {l : Launch} {e : Env} {R : Room} {s : State} {m : MethodId} {args : Array Value} {below : List Frame} {meth : Method} {c : Code} {V : zm_V} {mc ms d rc rs : Nat} (hX : zm_X p R s m args meth c RX16 "lineBetween" cX16_lineBetween 9 zk_E V mc ms) (hr : meth.sig.returnType = (some .int)) (hR : R.frames = d ∧ R.locals = 64 * d) (hd : 2 ≤ d) {N : Nat} {k : Nat → Int32 → Int32 → Int32 → Int32 → Int32 → zm_S → Option ((Int32 × zm_S) ⊕ ((Int32) × zm_S))} {a0 : Nat} {i1 : Int32} {i2 : Int32} {i3 : Int32} {i4 : Int32} {i5 : Int32} {t0 : Int32} {res : (Int32 × zm_S) ⊕ ((Int32) × zm_S)} {out : (Int32 × zm_S)}   (hf : ∀ o, res = .inl o → o = out) (hk : ∀ (x4 : Int32) (S' : zm_S), res = .inr (x4, S') → zw p l e R s m args below meth c (vx_MQ below (zm_Qc zk_E V (zo_i out)) (zm_XC zk_E V zo_x) args s mc ms (fun q => V.2.2.2.1 ≤ q)) 9 zk_E V mc ms 186 [(4, .int x4)] [] S' rc rs) (hrec : ∀ (i4' : Int32) (i5' : Int32) (S : zm_S), k a0 i1 i2 i3 i4' i5' S = some res → zw p l e R s m args below meth c (vx_MQ below (zm_Qc zk_E V (zo_i out)) (zm_XC zk_E V zo_x) args s mc ms (fun q => V.2.2.2.1 ≤ q)) 9 zk_E V mc ms 6 [(0, .ref a0), (1, .int i1), (2, .int i2), (3, .int i3), (4, .int i4'), (5, .int i5')] [] S rc rs) {S : zm_S} (h : zf_X16_lineBetween_J164 N k a0 i1 i2 i3 i4 i5 t0 S = some res) : zw p l e R s m args below meth c (vx_MQ below (zm_Qc zk_E V (zo_i out)) (zm_XC zk_E V zo_x) args s mc ms (fun q => V.2.2.2.1 ≤ q)) 9 zk_E V mc ms 164 [(0, .ref a0), (1, .int i1), (2, .int i2), (3, .int i3), (4, .int i4), (5, .int i5)] [.int t0] S rc rs := by
  unfold zf_X16_lineBetween_J164 at h
  refine zw_istore hX dX16_lineBetween_164 (by decide) ?_
  refine zw_iload hX dX16_lineBetween_166 rfl ?_
  refine zw_if_eq (tgt := 176) hX dX16_lineBetween_168 (by decide) (fun c168 => ?_) (fun c168 => ?_)
  · rw [if_pos c168] at h
    refine zw_iload hX dX16_lineBetween_176 rfl ?_
    refine zw_istore hX dX16_lineBetween_178 (by decide) ?_
    refine zw_iinc (v := (i5 + (1 : Int32))) hX dX16_lineBetween_180 rfl rfl (by decide) ?_
    refine zw_goto (tgt := 6) hX dX16_lineBetween_183 (by decide) ?_
    refine zw_sub (lv' := [(0, .ref a0), (1, .int i1), (2, .int i2), (3, .int i3), (4, .int i4), (5, .int (i5 + (1 : Int32)))]) (List.forall_mem_cons.mpr ⟨rfl, (List.forall_mem_cons.mpr ⟨rfl, (List.forall_mem_cons.mpr ⟨rfl, (List.forall_mem_cons.mpr ⟨rfl, (List.forall_mem_cons.mpr ⟨rfl, (List.forall_mem_cons.mpr ⟨rfl, zs_nil⟩)⟩)⟩)⟩)⟩)⟩) ?_
    exact hrec _ _ _ h
  · rw [if_neg c168] at h
    refine zw_iload hX dX16_lineBetween_171 rfl ?_
    refine zw_goto (tgt := 178) hX dX16_lineBetween_173 (by decide) ?_
    refine zw_istore hX dX16_lineBetween_178 (by decide) ?_
    refine zw_iinc (v := (i5 + (1 : Int32))) hX dX16_lineBetween_180 rfl rfl (by decide) ?_
    refine zw_goto (tgt := 6) hX dX16_lineBetween_183 (by decide) ?_
    refine zw_sub (lv' := [(0, .ref a0), (1, .int i1), (2, .int i2), (3, .int i3), (4, .int i5), (5, .int (i5 + (1 : Int32)))]) (List.forall_mem_cons.mpr ⟨rfl, (List.forall_mem_cons.mpr ⟨rfl, (List.forall_mem_cons.mpr ⟨rfl, (List.forall_mem_cons.mpr ⟨rfl, (List.forall_mem_cons.mpr ⟨rfl, (List.forall_mem_cons.mpr ⟨rfl, zs_nil⟩)⟩)⟩)⟩)⟩)⟩) ?_
    exact hrec _ _ _ h
def zf_X16_lineBetween_J163 (N : Nat) (k : Nat → Int32 → Int32 → Int32 → Int32 → Int32 → zm_S → Option ((Int32 × zm_S) ⊕ ((Int32) × zm_S))) (a0 : Nat) (i1 : Int32) (i2 : Int32) (i3 : Int32) (i4 : Int32) (i5 : Int32) (S : zm_S) : Option ((Int32 × zm_S) ⊕ ((Int32) × zm_S)) := zf_X16_lineBetween_J164 N (k) a0 i1 i2 i3 i4 i5 (0 : Int32) S
set_option maxHeartbeats 4000000 in
set_option maxRecDepth 100000 in
theorem zt_X16_lineBetween_J163 {p : Program} {l : Launch} {e : Env} {R : Room} {s : State} {m : MethodId} {args : Array Value} {below : List Frame} {meth : Method} {c : Code} {V : zm_V} {mc ms d rc rs : Nat} (hX : zm_X p R s m args meth c RX16 "lineBetween" cX16_lineBetween 9 zk_E V mc ms) (hr : meth.sig.returnType = (some .int)) (hR : R.frames = d ∧ R.locals = 64 * d) (hd : 2 ≤ d) {N : Nat} {k : Nat → Int32 → Int32 → Int32 → Int32 → Int32 → zm_S → Option ((Int32 × zm_S) ⊕ ((Int32) × zm_S))} {a0 : Nat} {i1 : Int32} {i2 : Int32} {i3 : Int32} {i4 : Int32} {i5 : Int32} {res : (Int32 × zm_S) ⊕ ((Int32) × zm_S)} {out : (Int32 × zm_S)}   (hf : ∀ o, res = .inl o → o = out) (hk : ∀ (x4 : Int32) (S' : zm_S), res = .inr (x4, S') → zw p l e R s m args below meth c (vx_MQ below (zm_Qc zk_E V (zo_i out)) (zm_XC zk_E V zo_x) args s mc ms (fun q => V.2.2.2.1 ≤ q)) 9 zk_E V mc ms 186 [(4, .int x4)] [] S' rc rs) (hrec : ∀ (i4' : Int32) (i5' : Int32) (S : zm_S), k a0 i1 i2 i3 i4' i5' S = some res → zw p l e R s m args below meth c (vx_MQ below (zm_Qc zk_E V (zo_i out)) (zm_XC zk_E V zo_x) args s mc ms (fun q => V.2.2.2.1 ≤ q)) 9 zk_E V mc ms 6 [(0, .ref a0), (1, .int i1), (2, .int i2), (3, .int i3), (4, .int i4'), (5, .int i5')] [] S rc rs) {S : zm_S} (h : zf_X16_lineBetween_J163 N k a0 i1 i2 i3 i4 i5 S = some res) : zw p l e R s m args below meth c (vx_MQ below (zm_Qc zk_E V (zo_i out)) (zm_XC zk_E V zo_x) args s mc ms (fun q => V.2.2.2.1 ≤ q)) 9 zk_E V mc ms 163 [(0, .ref a0), (1, .int i1), (2, .int i2), (3, .int i3), (4, .int i4), (5, .int i5)] [] S rc rs := by
  unfold zf_X16_lineBetween_J163 at h
  refine zw_iconst (v := (0 : Int32)) hX dX16_lineBetween_163 (by decide) ?_
  refine zw_sub (lv' := [(0, .ref a0), (1, .int i1), (2, .int i2), (3, .int i3), (4, .int i4), (5, .int i5)]) (List.forall_mem_cons.mpr ⟨rfl, (List.forall_mem_cons.mpr ⟨rfl, (List.forall_mem_cons.mpr ⟨rfl, (List.forall_mem_cons.mpr ⟨rfl, (List.forall_mem_cons.mpr ⟨rfl, (List.forall_mem_cons.mpr ⟨rfl, zs_nil⟩)⟩)⟩)⟩)⟩)⟩) ?_
  exact zt_X16_lineBetween_J164 hX hr hR hd hf hk hrec h
def zf_X16_lineBetween_J112 (N : Nat) (k : Nat → Int32 → Int32 → Int32 → Int32 → Int32 → zm_S → Option ((Int32 × zm_S) ⊕ ((Int32) × zm_S))) (a0 : Nat) (i1 : Int32) (i2 : Int32) (i3 : Int32) (i4 : Int32) (i5 : Int32) (S : zm_S) : Option ((Int32 × zm_S) ⊕ ((Int32) × zm_S)) := zf_X16_lineBetween_J164 N (k) a0 i1 i2 i3 i4 i5 (0 : Int32) S
set_option maxHeartbeats 4000000 in
set_option maxRecDepth 100000 in
theorem zt_X16_lineBetween_J112 {p : Program} {l : Launch} {e : Env} {R : Room} {s : State} {m : MethodId} {args : Array Value} {below : List Frame} {meth : Method} {c : Code} {V : zm_V} {mc ms d rc rs : Nat} (hX : zm_X p R s m args meth c RX16 "lineBetween" cX16_lineBetween 9 zk_E V mc ms) (hr : meth.sig.returnType = (some .int)) (hR : R.frames = d ∧ R.locals = 64 * d) (hd : 2 ≤ d) {N : Nat} {k : Nat → Int32 → Int32 → Int32 → Int32 → Int32 → zm_S → Option ((Int32 × zm_S) ⊕ ((Int32) × zm_S))} {a0 : Nat} {i1 : Int32} {i2 : Int32} {i3 : Int32} {i4 : Int32} {i5 : Int32} {res : (Int32 × zm_S) ⊕ ((Int32) × zm_S)} {out : (Int32 × zm_S)}   (hf : ∀ o, res = .inl o → o = out) (hk : ∀ (x4 : Int32) (S' : zm_S), res = .inr (x4, S') → zw p l e R s m args below meth c (vx_MQ below (zm_Qc zk_E V (zo_i out)) (zm_XC zk_E V zo_x) args s mc ms (fun q => V.2.2.2.1 ≤ q)) 9 zk_E V mc ms 186 [(4, .int x4)] [] S' rc rs) (hrec : ∀ (i4' : Int32) (i5' : Int32) (S : zm_S), k a0 i1 i2 i3 i4' i5' S = some res → zw p l e R s m args below meth c (vx_MQ below (zm_Qc zk_E V (zo_i out)) (zm_XC zk_E V zo_x) args s mc ms (fun q => V.2.2.2.1 ≤ q)) 9 zk_E V mc ms 6 [(0, .ref a0), (1, .int i1), (2, .int i2), (3, .int i3), (4, .int i4'), (5, .int i5')] [] S rc rs) {S : zm_S} (h : zf_X16_lineBetween_J112 N k a0 i1 i2 i3 i4 i5 S = some res) : zw p l e R s m args below meth c (vx_MQ below (zm_Qc zk_E V (zo_i out)) (zm_XC zk_E V zo_x) args s mc ms (fun q => V.2.2.2.1 ≤ q)) 9 zk_E V mc ms 112 [(0, .ref a0), (1, .int i1), (2, .int i2), (3, .int i3), (4, .int i4), (5, .int i5)] [] S rc rs := by
  unfold zf_X16_lineBetween_J112 at h
  refine zw_iconst (v := (0 : Int32)) hX dX16_lineBetween_112 (by decide) ?_
  refine zw_goto (tgt := 164) hX dX16_lineBetween_113 (by decide) ?_
  refine zw_sub (lv' := [(0, .ref a0), (1, .int i1), (2, .int i2), (3, .int i3), (4, .int i4), (5, .int i5)]) (List.forall_mem_cons.mpr ⟨rfl, (List.forall_mem_cons.mpr ⟨rfl, (List.forall_mem_cons.mpr ⟨rfl, (List.forall_mem_cons.mpr ⟨rfl, (List.forall_mem_cons.mpr ⟨rfl, (List.forall_mem_cons.mpr ⟨rfl, zs_nil⟩)⟩)⟩)⟩)⟩)⟩) ?_
  exact zt_X16_lineBetween_J164 hX hr hR hd hf hk hrec h
def zf_X16_lineBetween_J58 (N : Nat) (k : Nat → Int32 → Int32 → Int32 → Int32 → Int32 → zm_S → Option ((Int32 × zm_S) ⊕ ((Int32) × zm_S))) (a0 : Nat) (i1 : Int32) (i2 : Int32) (i3 : Int32) (i4 : Int32) (i5 : Int32) (i6 : Int32) (t0 : Int32) (S : zm_S) : Option ((Int32 × zm_S) ⊕ ((Int32) × zm_S)) := if i6 = 0 then (zg_r S a0 16 3).bind (fun b2 => (za_x S 2 b2 i5).bind (fun v3 => if v3 = 0 then zf_X16_lineBetween_J163 N (k) a0 i1 i2 i3 i4 i5 S else (zg_r S a0 16 2).bind (fun b4 => (za_x S 0 b4 i5).bind (fun v5 => if v5 = t0 then (zg_r S a0 16 1).bind (fun b6 => (za_x S 0 b6 i5).bind (fun v7 => if i1 < v7 then zf_X16_lineBetween_J163 N (k) a0 i1 i2 i3 i4 i5 S else (zi S a0 16).bind (fun _ => (zf_X16_highX N a0 i5 S).bind (fun r10 => if r10.1 ≤ i1 then zf_X16_lineBetween_J163 N (k) a0 i1 i2 i3 i4 i5 r10.2 else zf_X16_lineBetween_J164 N (k) a0 i1 i2 i3 i4 i5 (1 : Int32) r10.2)))) else zf_X16_lineBetween_J163 N (k) a0 i1 i2 i3 i4 i5 S)))) else (zg_r S a0 16 3).bind (fun b11 => (za_x S 2 b11 i5).bind (fun v12 => if v12 = 0 then (zg_r S a0 16 1).bind (fun b13 => (za_x S 0 b13 i5).bind (fun v14 => if v14 = t0 then (zg_r S a0 16 2).bind (fun b15 => (za_x S 0 b15 i5).bind (fun v16 => if i2 < v16 then zf_X16_lineBetween_J112 N (k) a0 i1 i2 i3 i4 i5 S else (zi S a0 16).bind (fun _ => (zf_X16_highY N a0 i5 S).bind (fun r19 => if r19.1 ≤ i2 then zf_X16_lineBetween_J112 N (k) a0 i1 i2 i3 i4 i5 r19.2 else zf_X16_lineBetween_J164 N (k) a0 i1 i2 i3 i4 i5 (1 : Int32) r19.2)))) else zf_X16_lineBetween_J112 N (k) a0 i1 i2 i3 i4 i5 S)) else zf_X16_lineBetween_J112 N (k) a0 i1 i2 i3 i4 i5 S))
set_option maxHeartbeats 4000000 in
set_option maxRecDepth 100000 in
theorem zt_X16_lineBetween_J58 {p : Program} {l : Launch} {e : Env} {R : Room} {s : State} {m : MethodId} {args : Array Value} {below : List Frame} {meth : Method} {c : Code} {V : zm_V} {mc ms d rc rs : Nat} (hX : zm_X p R s m args meth c RX16 "lineBetween" cX16_lineBetween 9 zk_E V mc ms) (hr : meth.sig.returnType = (some .int)) (hR : R.frames = d ∧ R.locals = 64 * d) (hd : 2 ≤ d) {N : Nat} {k : Nat → Int32 → Int32 → Int32 → Int32 → Int32 → zm_S → Option ((Int32 × zm_S) ⊕ ((Int32) × zm_S))} {a0 : Nat} {i1 : Int32} {i2 : Int32} {i3 : Int32} {i4 : Int32} {i5 : Int32} {i6 : Int32} {t0 : Int32} {res : (Int32 × zm_S) ⊕ ((Int32) × zm_S)} {out : (Int32 × zm_S)}   (hf : ∀ o, res = .inl o → o = out) (hk : ∀ (x4 : Int32) (S' : zm_S), res = .inr (x4, S') → zw p l e R s m args below meth c (vx_MQ below (zm_Qc zk_E V (zo_i out)) (zm_XC zk_E V zo_x) args s mc ms (fun q => V.2.2.2.1 ≤ q)) 9 zk_E V mc ms 186 [(4, .int x4)] [] S' rc rs) (hrec : ∀ (i4' : Int32) (i5' : Int32) (S : zm_S), k a0 i1 i2 i3 i4' i5' S = some res → zw p l e R s m args below meth c (vx_MQ below (zm_Qc zk_E V (zo_i out)) (zm_XC zk_E V zo_x) args s mc ms (fun q => V.2.2.2.1 ≤ q)) 9 zk_E V mc ms 6 [(0, .ref a0), (1, .int i1), (2, .int i2), (3, .int i3), (4, .int i4'), (5, .int i5')] [] S rc rs) {S : zm_S} (h : zf_X16_lineBetween_J58 N k a0 i1 i2 i3 i4 i5 i6 t0 S = some res) : zw p l e R s m args below meth c (vx_MQ below (zm_Qc zk_E V (zo_i out)) (zm_XC zk_E V zo_x) args s mc ms (fun q => V.2.2.2.1 ≤ q)) 9 zk_E V mc ms 58 [(0, .ref a0), (1, .int i1), (2, .int i2), (3, .int i3), (4, .int i4), (5, .int i5), (6, .int i6)] [.int t0] S rc rs := by
  unfold zf_X16_lineBetween_J58 at h
  refine zw_istore hX dX16_lineBetween_58 (by decide) ?_
  refine zw_iload hX dX16_lineBetween_60 rfl ?_
  refine zw_if_eq (tgt := 116) hX dX16_lineBetween_62 (by decide) (fun c62 => ?_) (fun c62 => ?_)
  · rw [if_pos c62] at h
    refine zw_aload_n hX dX16_lineBetween_116 rfl ?_
    obtain ⟨b2, g, h⟩ := zb_some h
    refine zw_getr hX zl_X16_16 dX16_lineBetween_117 g ?_
    refine zw_iload hX dX16_lineBetween_120 rfl ?_
    obtain ⟨v3, g, h⟩ := zb_some h
    refine zw_xz hX dX16_lineBetween_122 g ?_
    refine zw_if_eq (tgt := 163) hX dX16_lineBetween_123 (by decide) (fun c123 => ?_) (fun c123 => ?_)
    · rw [if_pos c123] at h
      refine zw_sub (lv' := [(0, .ref a0), (1, .int i1), (2, .int i2), (3, .int i3), (4, .int i4), (5, .int i5)]) (List.forall_mem_cons.mpr ⟨rfl, (List.forall_mem_cons.mpr ⟨rfl, (List.forall_mem_cons.mpr ⟨rfl, (List.forall_mem_cons.mpr ⟨rfl, (List.forall_mem_cons.mpr ⟨rfl, (List.forall_mem_cons.mpr ⟨rfl, zs_nil⟩)⟩)⟩)⟩)⟩)⟩) ?_
      exact zt_X16_lineBetween_J163 hX hr hR hd hf hk hrec h
    · rw [if_neg c123] at h
      refine zw_aload_n hX dX16_lineBetween_126 rfl ?_
      obtain ⟨b4, g, h⟩ := zb_some h
      refine zw_getr hX zl_X16_13 dX16_lineBetween_127 g ?_
      refine zw_iload hX dX16_lineBetween_130 rfl ?_
      obtain ⟨v5, g, h⟩ := zb_some h
      refine zw_xi hX dX16_lineBetween_132 g ?_
      refine zw_iload hX dX16_lineBetween_133 rfl ?_
      refine zw_icmp_ne (tgt := 163) hX dX16_lineBetween_135 (by decide) (fun c135 => ?_) (fun c135 => ?_)
      · rw [if_neg c135] at h
        refine zw_sub (lv' := [(0, .ref a0), (1, .int i1), (2, .int i2), (3, .int i3), (4, .int i4), (5, .int i5)]) (List.forall_mem_cons.mpr ⟨rfl, (List.forall_mem_cons.mpr ⟨rfl, (List.forall_mem_cons.mpr ⟨rfl, (List.forall_mem_cons.mpr ⟨rfl, (List.forall_mem_cons.mpr ⟨rfl, (List.forall_mem_cons.mpr ⟨rfl, zs_nil⟩)⟩)⟩)⟩)⟩)⟩) ?_
        exact zt_X16_lineBetween_J163 hX hr hR hd hf hk hrec h
      · rw [if_pos c135] at h
        refine zw_aload_n hX dX16_lineBetween_138 rfl ?_
        obtain ⟨b6, g, h⟩ := zb_some h
        refine zw_getr hX zl_X16_7 dX16_lineBetween_139 g ?_
        refine zw_iload hX dX16_lineBetween_142 rfl ?_
        obtain ⟨v7, g, h⟩ := zb_some h
        refine zw_xi hX dX16_lineBetween_144 g ?_
        refine zw_iload_n hX dX16_lineBetween_145 rfl ?_
        refine zw_icmp_gt (tgt := 163) hX dX16_lineBetween_146 (by decide) (fun c146 => ?_) (fun c146 => ?_)
        · rw [if_pos c146] at h
          refine zw_sub (lv' := [(0, .ref a0), (1, .int i1), (2, .int i2), (3, .int i3), (4, .int i4), (5, .int i5)]) (List.forall_mem_cons.mpr ⟨rfl, (List.forall_mem_cons.mpr ⟨rfl, (List.forall_mem_cons.mpr ⟨rfl, (List.forall_mem_cons.mpr ⟨rfl, (List.forall_mem_cons.mpr ⟨rfl, (List.forall_mem_cons.mpr ⟨rfl, zs_nil⟩)⟩)⟩)⟩)⟩)⟩) ?_
          exact zt_X16_lineBetween_J163 hX hr hR hd hf hk hrec h
        · rw [if_neg c146] at h
          refine zw_aload_n hX dX16_lineBetween_149 rfl ?_
          refine zw_iload hX dX16_lineBetween_150 rfl ?_
          obtain ⟨_, gi, h⟩ := zb_some h
          obtain ⟨r10, g, h⟩ := zb_some h
          refine zc_Vi (as := [.int i5]) hX gi (zt_X16_highX (d := d - 1) (by omega) g) zl_X16_89 rfl dX16_lineBetween_152 ⟨rfl, rfl, Nat.le_of_ble_eq_true rfl⟩ ⟨by omega, by omega⟩ ?_
          refine zw_iload_n hX dX16_lineBetween_155 rfl ?_
          refine zw_icmp_le (tgt := 163) hX dX16_lineBetween_156 (by decide) (fun c156 => ?_) (fun c156 => ?_)
          · rw [if_pos c156] at h
            refine zw_sub (lv' := [(0, .ref a0), (1, .int i1), (2, .int i2), (3, .int i3), (4, .int i4), (5, .int i5)]) (List.forall_mem_cons.mpr ⟨rfl, (List.forall_mem_cons.mpr ⟨rfl, (List.forall_mem_cons.mpr ⟨rfl, (List.forall_mem_cons.mpr ⟨rfl, (List.forall_mem_cons.mpr ⟨rfl, (List.forall_mem_cons.mpr ⟨rfl, zs_nil⟩)⟩)⟩)⟩)⟩)⟩) ?_
            exact zt_X16_lineBetween_J163 hX hr hR hd hf hk hrec h
          · rw [if_neg c156] at h
            refine zw_iconst (v := (1 : Int32)) hX dX16_lineBetween_159 (by decide) ?_
            refine zw_goto (tgt := 164) hX dX16_lineBetween_160 (by decide) ?_
            refine zw_sub (lv' := [(0, .ref a0), (1, .int i1), (2, .int i2), (3, .int i3), (4, .int i4), (5, .int i5)]) (List.forall_mem_cons.mpr ⟨rfl, (List.forall_mem_cons.mpr ⟨rfl, (List.forall_mem_cons.mpr ⟨rfl, (List.forall_mem_cons.mpr ⟨rfl, (List.forall_mem_cons.mpr ⟨rfl, (List.forall_mem_cons.mpr ⟨rfl, zs_nil⟩)⟩)⟩)⟩)⟩)⟩) ?_
            exact zt_X16_lineBetween_J164 hX hr hR hd hf hk hrec h
  · rw [if_neg c62] at h
    refine zw_aload_n hX dX16_lineBetween_65 rfl ?_
    obtain ⟨b11, g, h⟩ := zb_some h
    refine zw_getr hX zl_X16_16 dX16_lineBetween_66 g ?_
    refine zw_iload hX dX16_lineBetween_69 rfl ?_
    obtain ⟨v12, g, h⟩ := zb_some h
    refine zw_xz hX dX16_lineBetween_71 g ?_
    refine zw_if_ne (tgt := 112) hX dX16_lineBetween_72 (by decide) (fun c72 => ?_) (fun c72 => ?_)
    · rw [if_neg c72] at h
      refine zw_sub (lv' := [(0, .ref a0), (1, .int i1), (2, .int i2), (3, .int i3), (4, .int i4), (5, .int i5)]) (List.forall_mem_cons.mpr ⟨rfl, (List.forall_mem_cons.mpr ⟨rfl, (List.forall_mem_cons.mpr ⟨rfl, (List.forall_mem_cons.mpr ⟨rfl, (List.forall_mem_cons.mpr ⟨rfl, (List.forall_mem_cons.mpr ⟨rfl, zs_nil⟩)⟩)⟩)⟩)⟩)⟩) ?_
      exact zt_X16_lineBetween_J112 hX hr hR hd hf hk hrec h
    · rw [if_pos c72] at h
      refine zw_aload_n hX dX16_lineBetween_75 rfl ?_
      obtain ⟨b13, g, h⟩ := zb_some h
      refine zw_getr hX zl_X16_7 dX16_lineBetween_76 g ?_
      refine zw_iload hX dX16_lineBetween_79 rfl ?_
      obtain ⟨v14, g, h⟩ := zb_some h
      refine zw_xi hX dX16_lineBetween_81 g ?_
      refine zw_iload hX dX16_lineBetween_82 rfl ?_
      refine zw_icmp_ne (tgt := 112) hX dX16_lineBetween_84 (by decide) (fun c84 => ?_) (fun c84 => ?_)
      · rw [if_neg c84] at h
        refine zw_sub (lv' := [(0, .ref a0), (1, .int i1), (2, .int i2), (3, .int i3), (4, .int i4), (5, .int i5)]) (List.forall_mem_cons.mpr ⟨rfl, (List.forall_mem_cons.mpr ⟨rfl, (List.forall_mem_cons.mpr ⟨rfl, (List.forall_mem_cons.mpr ⟨rfl, (List.forall_mem_cons.mpr ⟨rfl, (List.forall_mem_cons.mpr ⟨rfl, zs_nil⟩)⟩)⟩)⟩)⟩)⟩) ?_
        exact zt_X16_lineBetween_J112 hX hr hR hd hf hk hrec h
      · rw [if_pos c84] at h
        refine zw_aload_n hX dX16_lineBetween_87 rfl ?_
        obtain ⟨b15, g, h⟩ := zb_some h
        refine zw_getr hX zl_X16_13 dX16_lineBetween_88 g ?_
        refine zw_iload hX dX16_lineBetween_91 rfl ?_
        obtain ⟨v16, g, h⟩ := zb_some h
        refine zw_xi hX dX16_lineBetween_93 g ?_
        refine zw_iload_n hX dX16_lineBetween_94 rfl ?_
        refine zw_icmp_gt (tgt := 112) hX dX16_lineBetween_95 (by decide) (fun c95 => ?_) (fun c95 => ?_)
        · rw [if_pos c95] at h
          refine zw_sub (lv' := [(0, .ref a0), (1, .int i1), (2, .int i2), (3, .int i3), (4, .int i4), (5, .int i5)]) (List.forall_mem_cons.mpr ⟨rfl, (List.forall_mem_cons.mpr ⟨rfl, (List.forall_mem_cons.mpr ⟨rfl, (List.forall_mem_cons.mpr ⟨rfl, (List.forall_mem_cons.mpr ⟨rfl, (List.forall_mem_cons.mpr ⟨rfl, zs_nil⟩)⟩)⟩)⟩)⟩)⟩) ?_
          exact zt_X16_lineBetween_J112 hX hr hR hd hf hk hrec h
        · rw [if_neg c95] at h
          refine zw_aload_n hX dX16_lineBetween_98 rfl ?_
          refine zw_iload hX dX16_lineBetween_99 rfl ?_
          obtain ⟨_, gi, h⟩ := zb_some h
          obtain ⟨r19, g, h⟩ := zb_some h
          refine zc_Vi (as := [.int i5]) hX gi (zt_X16_highY (d := d - 1) (by omega) g) zl_X16_93 rfl dX16_lineBetween_101 ⟨rfl, rfl, Nat.le_of_ble_eq_true rfl⟩ ⟨by omega, by omega⟩ ?_
          refine zw_iload_n hX dX16_lineBetween_104 rfl ?_
          refine zw_icmp_le (tgt := 112) hX dX16_lineBetween_105 (by decide) (fun c105 => ?_) (fun c105 => ?_)
          · rw [if_pos c105] at h
            refine zw_sub (lv' := [(0, .ref a0), (1, .int i1), (2, .int i2), (3, .int i3), (4, .int i4), (5, .int i5)]) (List.forall_mem_cons.mpr ⟨rfl, (List.forall_mem_cons.mpr ⟨rfl, (List.forall_mem_cons.mpr ⟨rfl, (List.forall_mem_cons.mpr ⟨rfl, (List.forall_mem_cons.mpr ⟨rfl, (List.forall_mem_cons.mpr ⟨rfl, zs_nil⟩)⟩)⟩)⟩)⟩)⟩) ?_
            exact zt_X16_lineBetween_J112 hX hr hR hd hf hk hrec h
          · rw [if_neg c105] at h
            refine zw_iconst (v := (1 : Int32)) hX dX16_lineBetween_108 (by decide) ?_
            refine zw_goto (tgt := 164) hX dX16_lineBetween_109 (by decide) ?_
            refine zw_sub (lv' := [(0, .ref a0), (1, .int i1), (2, .int i2), (3, .int i3), (4, .int i4), (5, .int i5)]) (List.forall_mem_cons.mpr ⟨rfl, (List.forall_mem_cons.mpr ⟨rfl, (List.forall_mem_cons.mpr ⟨rfl, (List.forall_mem_cons.mpr ⟨rfl, (List.forall_mem_cons.mpr ⟨rfl, (List.forall_mem_cons.mpr ⟨rfl, zs_nil⟩)⟩)⟩)⟩)⟩)⟩) ?_
            exact zt_X16_lineBetween_J164 hX hr hR hd hf hk hrec h
def zf_X16_lineBetween_J25 (N : Nat) (k : Nat → Int32 → Int32 → Int32 → Int32 → Int32 → zm_S → Option ((Int32 × zm_S) ⊕ ((Int32) × zm_S))) (a0 : Nat) (i1 : Int32) (i2 : Int32) (i3 : Int32) (i4 : Int32) (i5 : Int32) (t0 : Int32) (S : zm_S) : Option ((Int32 × zm_S) ⊕ ((Int32) × zm_S)) := if i3 = 0 then zf_X16_lineBetween_J58 N (k) a0 i1 i2 i3 i4 i5 t0 (i1 + (1 : Int32)) S else if i3 = (1 : Int32) then zf_X16_lineBetween_J58 N (k) a0 i1 i2 i3 i4 i5 t0 i1 S else if i3 = (2 : Int32) then zf_X16_lineBetween_J58 N (k) a0 i1 i2 i3 i4 i5 t0 (i2 + (1 : Int32)) S else zf_X16_lineBetween_J58 N (k) a0 i1 i2 i3 i4 i5 t0 i2 S
set_option maxHeartbeats 4000000 in
set_option maxRecDepth 100000 in
theorem zt_X16_lineBetween_J25 {p : Program} {l : Launch} {e : Env} {R : Room} {s : State} {m : MethodId} {args : Array Value} {below : List Frame} {meth : Method} {c : Code} {V : zm_V} {mc ms d rc rs : Nat} (hX : zm_X p R s m args meth c RX16 "lineBetween" cX16_lineBetween 9 zk_E V mc ms) (hr : meth.sig.returnType = (some .int)) (hR : R.frames = d ∧ R.locals = 64 * d) (hd : 2 ≤ d) {N : Nat} {k : Nat → Int32 → Int32 → Int32 → Int32 → Int32 → zm_S → Option ((Int32 × zm_S) ⊕ ((Int32) × zm_S))} {a0 : Nat} {i1 : Int32} {i2 : Int32} {i3 : Int32} {i4 : Int32} {i5 : Int32} {t0 : Int32} {res : (Int32 × zm_S) ⊕ ((Int32) × zm_S)} {out : (Int32 × zm_S)}   (hf : ∀ o, res = .inl o → o = out) (hk : ∀ (x4 : Int32) (S' : zm_S), res = .inr (x4, S') → zw p l e R s m args below meth c (vx_MQ below (zm_Qc zk_E V (zo_i out)) (zm_XC zk_E V zo_x) args s mc ms (fun q => V.2.2.2.1 ≤ q)) 9 zk_E V mc ms 186 [(4, .int x4)] [] S' rc rs) (hrec : ∀ (i4' : Int32) (i5' : Int32) (S : zm_S), k a0 i1 i2 i3 i4' i5' S = some res → zw p l e R s m args below meth c (vx_MQ below (zm_Qc zk_E V (zo_i out)) (zm_XC zk_E V zo_x) args s mc ms (fun q => V.2.2.2.1 ≤ q)) 9 zk_E V mc ms 6 [(0, .ref a0), (1, .int i1), (2, .int i2), (3, .int i3), (4, .int i4'), (5, .int i5')] [] S rc rs) {S : zm_S} (h : zf_X16_lineBetween_J25 N k a0 i1 i2 i3 i4 i5 t0 S = some res) : zw p l e R s m args below meth c (vx_MQ below (zm_Qc zk_E V (zo_i out)) (zm_XC zk_E V zo_x) args s mc ms (fun q => V.2.2.2.1 ≤ q)) 9 zk_E V mc ms 25 [(0, .ref a0), (1, .int i1), (2, .int i2), (3, .int i3), (4, .int i4), (5, .int i5)] [.int t0] S rc rs := by
  unfold zf_X16_lineBetween_J25 at h
  refine zw_istore hX dX16_lineBetween_25 (by decide) ?_
  refine zw_iload_n hX dX16_lineBetween_27 rfl ?_
  refine zw_if_ne (tgt := 37) hX dX16_lineBetween_28 (by decide) (fun c28 => ?_) (fun c28 => ?_)
  · rw [if_neg c28] at h
    refine zw_iload_n hX dX16_lineBetween_37 rfl ?_
    refine zw_iconst (v := (1 : Int32)) hX dX16_lineBetween_38 (by decide) ?_
    refine zw_icmp_ne (tgt := 46) hX dX16_lineBetween_39 (by decide) (fun c39 => ?_) (fun c39 => ?_)
    · rw [if_neg c39] at h
      refine zw_iload_n hX dX16_lineBetween_46 rfl ?_
      refine zw_iconst (v := (2 : Int32)) hX dX16_lineBetween_47 (by decide) ?_
      refine zw_icmp_ne (tgt := 57) hX dX16_lineBetween_48 (by decide) (fun c48 => ?_) (fun c48 => ?_)
      · rw [if_neg c48] at h
        refine zw_iload_n hX dX16_lineBetween_57 rfl ?_
        refine zw_sub (lv' := [(0, .ref a0), (1, .int i1), (2, .int i2), (3, .int i3), (4, .int i4), (5, .int i5), (6, .int t0)]) (List.forall_mem_cons.mpr ⟨rfl, (List.forall_mem_cons.mpr ⟨rfl, (List.forall_mem_cons.mpr ⟨rfl, (List.forall_mem_cons.mpr ⟨rfl, (List.forall_mem_cons.mpr ⟨rfl, (List.forall_mem_cons.mpr ⟨rfl, (List.forall_mem_cons.mpr ⟨rfl, zs_nil⟩)⟩)⟩)⟩)⟩)⟩)⟩) ?_
        exact zt_X16_lineBetween_J58 hX hr hR hd hf hk hrec h
      · rw [if_pos c48] at h
        refine zw_iload_n hX dX16_lineBetween_51 rfl ?_
        refine zw_iconst (v := (1 : Int32)) hX dX16_lineBetween_52 (by decide) ?_
        refine zw_iadd hX dX16_lineBetween_53 ?_
        refine zw_goto (tgt := 58) hX dX16_lineBetween_54 (by decide) ?_
        refine zw_sub (lv' := [(0, .ref a0), (1, .int i1), (2, .int i2), (3, .int i3), (4, .int i4), (5, .int i5), (6, .int t0)]) (List.forall_mem_cons.mpr ⟨rfl, (List.forall_mem_cons.mpr ⟨rfl, (List.forall_mem_cons.mpr ⟨rfl, (List.forall_mem_cons.mpr ⟨rfl, (List.forall_mem_cons.mpr ⟨rfl, (List.forall_mem_cons.mpr ⟨rfl, (List.forall_mem_cons.mpr ⟨rfl, zs_nil⟩)⟩)⟩)⟩)⟩)⟩)⟩) ?_
        exact zt_X16_lineBetween_J58 hX hr hR hd hf hk hrec h
    · rw [if_pos c39] at h
      refine zw_iload_n hX dX16_lineBetween_42 rfl ?_
      refine zw_goto (tgt := 58) hX dX16_lineBetween_43 (by decide) ?_
      refine zw_sub (lv' := [(0, .ref a0), (1, .int i1), (2, .int i2), (3, .int i3), (4, .int i4), (5, .int i5), (6, .int t0)]) (List.forall_mem_cons.mpr ⟨rfl, (List.forall_mem_cons.mpr ⟨rfl, (List.forall_mem_cons.mpr ⟨rfl, (List.forall_mem_cons.mpr ⟨rfl, (List.forall_mem_cons.mpr ⟨rfl, (List.forall_mem_cons.mpr ⟨rfl, (List.forall_mem_cons.mpr ⟨rfl, zs_nil⟩)⟩)⟩)⟩)⟩)⟩)⟩) ?_
      exact zt_X16_lineBetween_J58 hX hr hR hd hf hk hrec h
  · rw [if_pos c28] at h
    refine zw_iload_n hX dX16_lineBetween_31 rfl ?_
    refine zw_iconst (v := (1 : Int32)) hX dX16_lineBetween_32 (by decide) ?_
    refine zw_iadd hX dX16_lineBetween_33 ?_
    refine zw_goto (tgt := 58) hX dX16_lineBetween_34 (by decide) ?_
    refine zw_sub (lv' := [(0, .ref a0), (1, .int i1), (2, .int i2), (3, .int i3), (4, .int i4), (5, .int i5), (6, .int t0)]) (List.forall_mem_cons.mpr ⟨rfl, (List.forall_mem_cons.mpr ⟨rfl, (List.forall_mem_cons.mpr ⟨rfl, (List.forall_mem_cons.mpr ⟨rfl, (List.forall_mem_cons.mpr ⟨rfl, (List.forall_mem_cons.mpr ⟨rfl, (List.forall_mem_cons.mpr ⟨rfl, zs_nil⟩)⟩)⟩)⟩)⟩)⟩)⟩) ?_
    exact zt_X16_lineBetween_J58 hX hr hR hd hf hk hrec h
def zf_X16_lineBetween_L6 (N : Nat) : Nat → Nat → Int32 → Int32 → Int32 → Int32 → Int32 → zm_S → Option ((Int32 × zm_S) ⊕ ((Int32) × zm_S))
  | 0, _, _, _, _, _, _, _ => none
  | n + 1, a0, i1, i2, i3, i4, i5, S => (zg_i S a0 16 0).bind (fun v1 => if v1 ≤ i5 then some (.inr (i4, S)) else if (2 : Int32) ≤ i3 then zf_X16_lineBetween_J25 N (zf_X16_lineBetween_L6 N n) a0 i1 i2 i3 i4 i5 (0 : Int32) S else zf_X16_lineBetween_J25 N (zf_X16_lineBetween_L6 N n) a0 i1 i2 i3 i4 i5 (1 : Int32) S)
set_option maxHeartbeats 4000000 in
set_option maxRecDepth 100000 in
theorem zt_X16_lineBetween_L6 {p : Program} {l : Launch} {e : Env} {R : Room} {s : State} {m : MethodId} {args : Array Value} {below : List Frame} {meth : Method} {c : Code} {V : zm_V} {mc ms d rc rs : Nat} (hX : zm_X p R s m args meth c RX16 "lineBetween" cX16_lineBetween 9 zk_E V mc ms) (hr : meth.sig.returnType = (some .int)) (hR : R.frames = d ∧ R.locals = 64 * d) (hd : 2 ≤ d) {N : Nat} {res : (Int32 × zm_S) ⊕ ((Int32) × zm_S)} {out : (Int32 × zm_S)} (a0 : Nat) (i1 : Int32) (i2 : Int32) (i3 : Int32) (hf : ∀ o, res = .inl o → o = out) (hk : ∀ (x4 : Int32) (S' : zm_S), res = .inr (x4, S') → zw p l e R s m args below meth c (vx_MQ below (zm_Qc zk_E V (zo_i out)) (zm_XC zk_E V zo_x) args s mc ms (fun q => V.2.2.2.1 ≤ q)) 9 zk_E V mc ms 186 [(4, .int x4)] [] S' rc rs) : ∀ (n : Nat) (i4 : Int32) (i5 : Int32) (S : zm_S), zf_X16_lineBetween_L6 N n a0 i1 i2 i3 i4 i5 S = some res → zw p l e R s m args below meth c (vx_MQ below (zm_Qc zk_E V (zo_i out)) (zm_XC zk_E V zo_x) args s mc ms (fun q => V.2.2.2.1 ≤ q)) 9 zk_E V mc ms 6 [(0, .ref a0), (1, .int i1), (2, .int i2), (3, .int i3), (4, .int i4), (5, .int i5)] [] S rc rs := by
  intro n
  induction n with
  | zero => intro i4 i5 S h; cases h
  | succ n ih =>
    intro i4 i5 S h
    rw [zf_X16_lineBetween_L6] at h
    refine zw_iload hX dX16_lineBetween_6 rfl ?_
    refine zw_aload_n hX dX16_lineBetween_8 rfl ?_
    obtain ⟨v1, g, h⟩ := zb_some h
    refine zw_geti hX zl_X16_96 dX16_lineBetween_9 g ?_
    refine zw_icmp_ge (tgt := 186) hX dX16_lineBetween_12 (by decide) (fun c12 => ?_) (fun c12 => ?_)
    · rw [if_pos c12] at h
      refine zw_sub (lv' := [(4, .int i4)]) (List.forall_mem_cons.mpr ⟨rfl, zs_nil⟩) ?_
      exact hk _ _ (Option.some.inj h).symm
    · rw [if_neg c12] at h
      refine zw_iload_n hX dX16_lineBetween_15 rfl ?_
      refine zw_iconst (v := (2 : Int32)) hX dX16_lineBetween_16 (by decide) ?_
      refine zw_icmp_ge (tgt := 24) hX dX16_lineBetween_17 (by decide) (fun c17 => ?_) (fun c17 => ?_)
      · rw [if_pos c17] at h
        refine zw_iconst (v := (0 : Int32)) hX dX16_lineBetween_24 (by decide) ?_
        refine zw_sub (lv' := [(0, .ref a0), (1, .int i1), (2, .int i2), (3, .int i3), (4, .int i4), (5, .int i5)]) (List.forall_mem_cons.mpr ⟨rfl, (List.forall_mem_cons.mpr ⟨rfl, (List.forall_mem_cons.mpr ⟨rfl, (List.forall_mem_cons.mpr ⟨rfl, (List.forall_mem_cons.mpr ⟨rfl, (List.forall_mem_cons.mpr ⟨rfl, zs_nil⟩)⟩)⟩)⟩)⟩)⟩) ?_
        exact zt_X16_lineBetween_J25 hX hr hR hd hf hk ih h
      · rw [if_neg c17] at h
        refine zw_iconst (v := (1 : Int32)) hX dX16_lineBetween_20 (by decide) ?_
        refine zw_goto (tgt := 25) hX dX16_lineBetween_21 (by decide) ?_
        refine zw_sub (lv' := [(0, .ref a0), (1, .int i1), (2, .int i2), (3, .int i3), (4, .int i4), (5, .int i5)]) (List.forall_mem_cons.mpr ⟨rfl, (List.forall_mem_cons.mpr ⟨rfl, (List.forall_mem_cons.mpr ⟨rfl, (List.forall_mem_cons.mpr ⟨rfl, (List.forall_mem_cons.mpr ⟨rfl, (List.forall_mem_cons.mpr ⟨rfl, zs_nil⟩)⟩)⟩)⟩)⟩)⟩) ?_
        exact zt_X16_lineBetween_J25 hX hr hR hd hf hk ih h
def zf_X16_lineBetween (N : Nat) (a0 : Nat) (i1 : Int32) (i2 : Int32) (i3 : Int32) (S : zm_S) : Option (Int32 × zm_S) := (zf_X16_lineBetween_L6 N N a0 i1 i2 i3 (-1 : Int32) (0 : Int32) S).bind (fun r => match r with | .inl o => some o | .inr (v21, S20) => some (v21, S20))
set_option maxHeartbeats 4000000 in
set_option maxRecDepth 100000 in
theorem zt_X16_lineBetween {l : Launch} {V : zm_V} {N : Nat} {S : zm_S} {out : (Int32 × zm_S)} {d : Nat} {a0 : Nat} {i1 : Int32} {i2 : Int32} {i3 : Int32} (hd : 2 ≤ d) (h : zf_X16_lineBetween N a0 i1 i2 i3 S = some out) : zm_Met l zk_E V yX16_lineBetween (.code yX16_lineBetween cX16_lineBetween 9 (some .int)) d [.ref a0, .int i1, .int i2, .int i3] S 0 0 (zo_i out) zo_x := by
  refine zm_of (by decide +kernel) (Nat.le_of_ble_eq_true rfl) ?_
  intro p e R s m args below meth c hRR hX hr hxt
  have hR : R.frames = d ∧ R.locals = 64 * d := by rw [hRR]; exact ⟨rfl, rfl⟩
  have hX : zm_X p R s m args meth c RX16 "lineBetween" cX16_lineBetween 9 zk_E V 0 0 := hX
  unfold zf_X16_lineBetween at h
  refine zw_sub (lv' := [(0, .ref a0), (1, .int i1), (2, .int i2), (3, .int i3)]) (List.forall_mem_cons.mpr ⟨rfl, (List.forall_mem_cons.mpr ⟨rfl, (List.forall_mem_cons.mpr ⟨rfl, (List.forall_mem_cons.mpr ⟨rfl, zs_nil⟩)⟩)⟩)⟩) ?_
  refine zw_iconst (v := (-1 : Int32)) hX dX16_lineBetween_0 (by decide) ?_
  refine zw_istore hX dX16_lineBetween_1 (by decide) ?_
  refine zw_iconst (v := (0 : Int32)) hX dX16_lineBetween_3 (by decide) ?_
  refine zw_istore hX dX16_lineBetween_4 (by decide) ?_
  obtain ⟨r, g, h⟩ := zb_some h
  refine zw_sub (lv' := [(0, .ref a0), (1, .int i1), (2, .int i2), (3, .int i3), (4, .int (-1 : Int32)), (5, .int (0 : Int32))]) (List.forall_mem_cons.mpr ⟨rfl, (List.forall_mem_cons.mpr ⟨rfl, (List.forall_mem_cons.mpr ⟨rfl, (List.forall_mem_cons.mpr ⟨rfl, (List.forall_mem_cons.mpr ⟨rfl, (List.forall_mem_cons.mpr ⟨rfl, zs_nil⟩)⟩)⟩)⟩)⟩)⟩) ?_
  refine zt_X16_lineBetween_L6 hX hr hR hd (res := r) (out := out) a0 i1 i2 i3 ?_ ?_ N _ _ _ g
  · intro o ho
    subst ho
    exact Option.some.inj h
  · intro v21 S20 hx
    subst hx
    try dsimp only at h
    refine zw_iload hX dX16_lineBetween_186 rfl ?_
    obtain rfl := Option.some.inj h
    exact zw_iret hX hr dX16_lineBetween_188 rfl ⟨rfl, rfl⟩
def zf_X16_isThere_J29 (N : Nat) (a0 : Nat) (i1 : Int32) (i2 : Int32) (t0 : Int32) (S : zm_S) : Option (Int32 × zm_S) := (zg_r S a0 16 6).bind (fun b5 => (za_x S 0 b5 (((6 : Int32) * i1) + i2)).bind (fun v6 => if t0 < v6 then some ((0 : Int32), S) else (zg_r S a0 16 7).bind (fun b7 => (za_x S 0 b7 (((6 : Int32) * i1) + i2)).bind (fun v8 => if v8 ≤ t0 then some ((0 : Int32), S) else some ((1 : Int32), S)))))
set_option maxHeartbeats 4000000 in
set_option maxRecDepth 100000 in
theorem zt_X16_isThere_J29 {p : Program} {l : Launch} {e : Env} {R : Room} {s : State} {m : MethodId} {args : Array Value} {below : List Frame} {meth : Method} {c : Code} {V : zm_V} {mc ms d rc rs : Nat} (hX : zm_X p R s m args meth c RX16 "isThere" cX16_isThere 6 zk_E V mc ms) (hr : meth.sig.returnType = (some .boolean)) (hR : R.frames = d ∧ R.locals = 64 * d) (hd : 1 ≤ d) {N : Nat} {a0 : Nat} {i1 : Int32} {i2 : Int32} {t0 : Int32} {out : (Int32 × zm_S)} {S : zm_S} (h : zf_X16_isThere_J29 N a0 i1 i2 t0 S = some out) : zw p l e R s m args below meth c (vx_MQ below (zm_Qc zk_E V (zo_i out)) (zm_XC zk_E V zo_x) args s mc ms (fun q => V.2.2.2.1 ≤ q)) 6 zk_E V mc ms 29 [(0, .ref a0), (1, .int i1), (2, .int i2)] [.int t0] S rc rs := by
  unfold zf_X16_isThere_J29 at h
  refine zw_istore hX dX16_isThere_29 (by decide) ?_
  refine zw_aload_n hX dX16_isThere_31 rfl ?_
  obtain ⟨b5, g, h⟩ := zb_some h
  refine zw_getr hX zl_X16_26 dX16_isThere_32 g ?_
  refine zw_bipush (v := (6 : Int32)) hX dX16_isThere_35 (by decide) ?_
  refine zw_iload_n hX dX16_isThere_37 rfl ?_
  refine zw_imul hX dX16_isThere_38 ?_
  refine zw_iload_n hX dX16_isThere_39 rfl ?_
  refine zw_iadd hX dX16_isThere_40 ?_
  obtain ⟨v6, g, h⟩ := zb_some h
  refine zw_xi hX dX16_isThere_41 g ?_
  refine zw_iload hX dX16_isThere_42 rfl ?_
  refine zw_icmp_gt (tgt := 67) hX dX16_isThere_44 (by decide) (fun c44 => ?_) (fun c44 => ?_)
  · rw [if_pos c44] at h
    refine zw_iconst (v := (0 : Int32)) hX dX16_isThere_67 (by decide) ?_
    obtain rfl := Option.some.inj h
    exact zw_iret hX hr dX16_isThere_68 rfl ⟨rfl, rfl⟩
  · rw [if_neg c44] at h
    refine zw_iload hX dX16_isThere_47 rfl ?_
    refine zw_aload_n hX dX16_isThere_49 rfl ?_
    obtain ⟨b7, g, h⟩ := zb_some h
    refine zw_getr hX zl_X16_29 dX16_isThere_50 g ?_
    refine zw_bipush (v := (6 : Int32)) hX dX16_isThere_53 (by decide) ?_
    refine zw_iload_n hX dX16_isThere_55 rfl ?_
    refine zw_imul hX dX16_isThere_56 ?_
    refine zw_iload_n hX dX16_isThere_57 rfl ?_
    refine zw_iadd hX dX16_isThere_58 ?_
    obtain ⟨v8, g, h⟩ := zb_some h
    refine zw_xi hX dX16_isThere_59 g ?_
    refine zw_icmp_ge (tgt := 67) hX dX16_isThere_60 (by decide) (fun c60 => ?_) (fun c60 => ?_)
    · rw [if_pos c60] at h
      refine zw_iconst (v := (0 : Int32)) hX dX16_isThere_67 (by decide) ?_
      obtain rfl := Option.some.inj h
      exact zw_iret hX hr dX16_isThere_68 rfl ⟨rfl, rfl⟩
    · rw [if_neg c60] at h
      refine zw_iconst (v := (1 : Int32)) hX dX16_isThere_63 (by decide) ?_
      refine zw_goto (tgt := 68) hX dX16_isThere_64 (by decide) ?_
      obtain rfl := Option.some.inj h
      exact zw_iret hX hr dX16_isThere_68 rfl ⟨rfl, rfl⟩
def zf_X16_isThere (N : Nat) (a0 : Nat) (i1 : Int32) (i2 : Int32) (i3 : Int32) (i4 : Int32) (S : zm_S) : Option (Int32 × zm_S) := (zg_r S a0 16 3).bind (fun b1 => (za_x S 2 b1 i1).bind (fun v2 => if v2 = 0 then (zg_r S a0 16 2).bind (fun b3 => (za_x S 0 b3 i1).bind (fun v4 => zf_X16_isThere_J29 N a0 i1 i2 (i4 - v4) S)) else (zg_r S a0 16 1).bind (fun b9 => (za_x S 0 b9 i1).bind (fun v10 => zf_X16_isThere_J29 N a0 i1 i2 (i3 - v10) S))))
set_option maxHeartbeats 4000000 in
set_option maxRecDepth 100000 in
theorem zt_X16_isThere {l : Launch} {V : zm_V} {N : Nat} {S : zm_S} {out : (Int32 × zm_S)} {d : Nat} {a0 : Nat} {i1 : Int32} {i2 : Int32} {i3 : Int32} {i4 : Int32} (hd : 1 ≤ d) (h : zf_X16_isThere N a0 i1 i2 i3 i4 S = some out) : zm_Met l zk_E V yX16_isThere (.code yX16_isThere cX16_isThere 6 (some .boolean)) d [.ref a0, .int i1, .int i2, .int i3, .int i4] S 0 0 (zo_i out) zo_x := by
  refine zm_of (by decide +kernel) (Nat.le_of_ble_eq_true rfl) ?_
  intro p e R s m args below meth c hRR hX hr hxt
  have hR : R.frames = d ∧ R.locals = 64 * d := by rw [hRR]; exact ⟨rfl, rfl⟩
  have hX : zm_X p R s m args meth c RX16 "isThere" cX16_isThere 6 zk_E V 0 0 := hX
  unfold zf_X16_isThere at h
  refine zw_sub (lv' := [(0, .ref a0), (1, .int i1), (2, .int i2), (3, .int i3), (4, .int i4)]) (List.forall_mem_cons.mpr ⟨rfl, (List.forall_mem_cons.mpr ⟨rfl, (List.forall_mem_cons.mpr ⟨rfl, (List.forall_mem_cons.mpr ⟨rfl, (List.forall_mem_cons.mpr ⟨rfl, zs_nil⟩)⟩)⟩)⟩)⟩) ?_
  refine zw_aload_n hX dX16_isThere_0 rfl ?_
  obtain ⟨b1, g, h⟩ := zb_some h
  refine zw_getr hX zl_X16_16 dX16_isThere_1 g ?_
  refine zw_iload_n hX dX16_isThere_4 rfl ?_
  obtain ⟨v2, g, h⟩ := zb_some h
  refine zw_xz hX dX16_isThere_5 g ?_
  refine zw_if_eq (tgt := 20) hX dX16_isThere_6 (by decide) (fun c6 => ?_) (fun c6 => ?_)
  · rw [if_pos c6] at h
    refine zw_iload hX dX16_isThere_20 rfl ?_
    refine zw_aload_n hX dX16_isThere_22 rfl ?_
    obtain ⟨b3, g, h⟩ := zb_some h
    refine zw_getr hX zl_X16_13 dX16_isThere_23 g ?_
    refine zw_iload_n hX dX16_isThere_26 rfl ?_
    obtain ⟨v4, g, h⟩ := zb_some h
    refine zw_xi hX dX16_isThere_27 g ?_
    refine zw_isub hX dX16_isThere_28 ?_
    refine zw_sub (lv' := [(0, .ref a0), (1, .int i1), (2, .int i2)]) (List.forall_mem_cons.mpr ⟨rfl, (List.forall_mem_cons.mpr ⟨rfl, (List.forall_mem_cons.mpr ⟨rfl, zs_nil⟩)⟩)⟩) ?_
    exact zt_X16_isThere_J29 hX hr hR hd h
  · rw [if_neg c6] at h
    refine zw_iload_n hX dX16_isThere_9 rfl ?_
    refine zw_aload_n hX dX16_isThere_10 rfl ?_
    obtain ⟨b9, g, h⟩ := zb_some h
    refine zw_getr hX zl_X16_7 dX16_isThere_11 g ?_
    refine zw_iload_n hX dX16_isThere_14 rfl ?_
    obtain ⟨v10, g, h⟩ := zb_some h
    refine zw_xi hX dX16_isThere_15 g ?_
    refine zw_isub hX dX16_isThere_16 ?_
    refine zw_goto (tgt := 29) hX dX16_isThere_17 (by decide) ?_
    refine zw_sub (lv' := [(0, .ref a0), (1, .int i1), (2, .int i2)]) (List.forall_mem_cons.mpr ⟨rfl, (List.forall_mem_cons.mpr ⟨rfl, (List.forall_mem_cons.mpr ⟨rfl, zs_nil⟩)⟩)⟩) ?_
    exact zt_X16_isThere_J29 hX hr hR hd h
def zf_X17_inputs (N : Nat) (i0 : Int32) (S : zm_S) : Option (Int32 × zm_S) := if i0 < (2 : Int32) then some ((0 : Int32), S) else if i0 = (20 : Int32) then some ((0 : Int32), S) else if i0 = (14 : Int32) then some ((3 : Int32), S) else if i0 < (13 : Int32) then some ((2 : Int32), S) else if i0 = (18 : Int32) then some ((2 : Int32), S) else if i0 = (19 : Int32) then some ((2 : Int32), S) else if i0 = (23 : Int32) then some ((2 : Int32), S) else if i0 = (24 : Int32) then some ((2 : Int32), S) else some ((1 : Int32), S)
set_option maxHeartbeats 4000000 in
set_option maxRecDepth 100000 in
theorem zt_X17_inputs {l : Launch} {V : zm_V} {N : Nat} {S : zm_S} {out : (Int32 × zm_S)} {d : Nat} {i0 : Int32} (hd : 1 ≤ d) (h : zf_X17_inputs N i0 S = some out) : zm_Met l zk_E V yX17_inputs (.code yX17_inputs cX17_inputs 1 (some .int)) d [.int i0] S 0 0 (zo_i out) zo_x := by
  refine zm_of (by decide +kernel) (Nat.le_of_ble_eq_true rfl) ?_
  intro p e R s m args below meth c hRR hX hr hxt
  have hR : R.frames = d ∧ R.locals = 64 * d := by rw [hRR]; exact ⟨rfl, rfl⟩
  have hX : zm_X p R s m args meth c RX17 "inputs" cX17_inputs 1 zk_E V 0 0 := hX
  unfold zf_X17_inputs at h
  refine zw_sub (lv' := [(0, .int i0)]) (List.forall_mem_cons.mpr ⟨rfl, zs_nil⟩) ?_
  refine zw_iload_n hX dX17_inputs_0 rfl ?_
  refine zw_iconst (v := (2 : Int32)) hX dX17_inputs_1 (by decide) ?_
  refine zw_icmp_lt (tgt := 11) hX dX17_inputs_2 (by decide) (fun c2 => ?_) (fun c2 => ?_)
  · rw [if_pos c2] at h
    refine zw_iconst (v := (0 : Int32)) hX dX17_inputs_11 (by decide) ?_
    obtain rfl := Option.some.inj h
    exact zw_iret hX hr dX17_inputs_12 rfl ⟨rfl, rfl⟩
  · rw [if_neg c2] at h
    refine zw_iload_n hX dX17_inputs_5 rfl ?_
    refine zw_bipush (v := (20 : Int32)) hX dX17_inputs_6 (by decide) ?_
    refine zw_icmp_ne (tgt := 13) hX dX17_inputs_8 (by decide) (fun c8 => ?_) (fun c8 => ?_)
    · rw [if_neg c8] at h
      refine zw_iload_n hX dX17_inputs_13 rfl ?_
      refine zw_bipush (v := (14 : Int32)) hX dX17_inputs_14 (by decide) ?_
      refine zw_icmp_ne (tgt := 21) hX dX17_inputs_16 (by decide) (fun c16 => ?_) (fun c16 => ?_)
      · rw [if_neg c16] at h
        refine zw_iload_n hX dX17_inputs_21 rfl ?_
        refine zw_bipush (v := (13 : Int32)) hX dX17_inputs_22 (by decide) ?_
        refine zw_icmp_lt (tgt := 51) hX dX17_inputs_24 (by decide) (fun c24 => ?_) (fun c24 => ?_)
        · rw [if_pos c24] at h
          refine zw_iconst (v := (2 : Int32)) hX dX17_inputs_51 (by decide) ?_
          refine zw_goto (tgt := 56) hX dX17_inputs_52 (by decide) ?_
          obtain rfl := Option.some.inj h
          exact zw_iret hX hr dX17_inputs_56 rfl ⟨rfl, rfl⟩
        · rw [if_neg c24] at h
          refine zw_iload_n hX dX17_inputs_27 rfl ?_
          refine zw_bipush (v := (18 : Int32)) hX dX17_inputs_28 (by decide) ?_
          refine zw_icmp_eq (tgt := 51) hX dX17_inputs_30 (by decide) (fun c30 => ?_) (fun c30 => ?_)
          · rw [if_pos c30] at h
            refine zw_iconst (v := (2 : Int32)) hX dX17_inputs_51 (by decide) ?_
            refine zw_goto (tgt := 56) hX dX17_inputs_52 (by decide) ?_
            obtain rfl := Option.some.inj h
            exact zw_iret hX hr dX17_inputs_56 rfl ⟨rfl, rfl⟩
          · rw [if_neg c30] at h
            refine zw_iload_n hX dX17_inputs_33 rfl ?_
            refine zw_bipush (v := (19 : Int32)) hX dX17_inputs_34 (by decide) ?_
            refine zw_icmp_eq (tgt := 51) hX dX17_inputs_36 (by decide) (fun c36 => ?_) (fun c36 => ?_)
            · rw [if_pos c36] at h
              refine zw_iconst (v := (2 : Int32)) hX dX17_inputs_51 (by decide) ?_
              refine zw_goto (tgt := 56) hX dX17_inputs_52 (by decide) ?_
              obtain rfl := Option.some.inj h
              exact zw_iret hX hr dX17_inputs_56 rfl ⟨rfl, rfl⟩
            · rw [if_neg c36] at h
              refine zw_iload_n hX dX17_inputs_39 rfl ?_
              refine zw_bipush (v := (23 : Int32)) hX dX17_inputs_40 (by decide) ?_
              refine zw_icmp_eq (tgt := 51) hX dX17_inputs_42 (by decide) (fun c42 => ?_) (fun c42 => ?_)
              · rw [if_pos c42] at h
                refine zw_iconst (v := (2 : Int32)) hX dX17_inputs_51 (by decide) ?_
                refine zw_goto (tgt := 56) hX dX17_inputs_52 (by decide) ?_
                obtain rfl := Option.some.inj h
                exact zw_iret hX hr dX17_inputs_56 rfl ⟨rfl, rfl⟩
              · rw [if_neg c42] at h
                refine zw_iload_n hX dX17_inputs_45 rfl ?_
                refine zw_bipush (v := (24 : Int32)) hX dX17_inputs_46 (by decide) ?_
                refine zw_icmp_ne (tgt := 55) hX dX17_inputs_48 (by decide) (fun c48 => ?_) (fun c48 => ?_)
                · rw [if_neg c48] at h
                  refine zw_iconst (v := (1 : Int32)) hX dX17_inputs_55 (by decide) ?_
                  obtain rfl := Option.some.inj h
                  exact zw_iret hX hr dX17_inputs_56 rfl ⟨rfl, rfl⟩
                · rw [if_pos c48] at h
                  refine zw_iconst (v := (2 : Int32)) hX dX17_inputs_51 (by decide) ?_
                  refine zw_goto (tgt := 56) hX dX17_inputs_52 (by decide) ?_
                  obtain rfl := Option.some.inj h
                  exact zw_iret hX hr dX17_inputs_56 rfl ⟨rfl, rfl⟩
      · rw [if_pos c16] at h
        refine zw_iconst (v := (3 : Int32)) hX dX17_inputs_19 (by decide) ?_
        obtain rfl := Option.some.inj h
        exact zw_iret hX hr dX17_inputs_20 rfl ⟨rfl, rfl⟩
    · rw [if_pos c8] at h
      refine zw_iconst (v := (0 : Int32)) hX dX17_inputs_11 (by decide) ?_
      obtain rfl := Option.some.inj h
      exact zw_iret hX hr dX17_inputs_12 rfl ⟨rfl, rfl⟩
def zf_X17_mayCome_J63 (N : Nat) (k : Nat → Int32 → Int32 → Int32 → zm_S → Option ((Int32 × zm_S) ⊕ ((Int32) × zm_S))) (a0 : Nat) (i1 : Int32) (i3 : Int32) (S : zm_S) : Option ((Int32 × zm_S) ⊕ ((Int32) × zm_S)) := k a0 i1 (0 : Int32) (i3 + (1 : Int32)) S
set_option maxHeartbeats 4000000 in
set_option maxRecDepth 100000 in
theorem zt_X17_mayCome_J63 {p : Program} {l : Launch} {e : Env} {R : Room} {s : State} {m : MethodId} {args : Array Value} {below : List Frame} {meth : Method} {c : Code} {V : zm_V} {mc ms d rc rs : Nat} (hX : zm_X p R s m args meth c RX17 "mayCome" cX17_mayCome 5 zk_E V mc ms) (hr : meth.sig.returnType = (some .boolean)) (hR : R.frames = d ∧ R.locals = 64 * d) (hd : 2 ≤ d) {N : Nat} {k : Nat → Int32 → Int32 → Int32 → zm_S → Option ((Int32 × zm_S) ⊕ ((Int32) × zm_S))} {a0 : Nat} {i1 : Int32} {i3 : Int32} {res : (Int32 × zm_S) ⊕ ((Int32) × zm_S)} {out : (Int32 × zm_S)}   (hf : ∀ o, res = .inl o → o = out) (hk : ∀ (x2 : Int32) (S' : zm_S), res = .inr (x2, S') → zw p l e R s m args below meth c (vx_MQ below (zm_Qc zk_E V (zo_i out)) (zm_XC zk_E V zo_x) args s mc ms (fun q => V.2.2.2.1 ≤ q)) 5 zk_E V mc ms 71 [(2, .int x2)] [] S' rc rs) (hrec : ∀ (i2' : Int32) (i3' : Int32) (S : zm_S), k a0 i1 i2' i3' S = some res → zw p l e R s m args below meth c (vx_MQ below (zm_Qc zk_E V (zo_i out)) (zm_XC zk_E V zo_x) args s mc ms (fun q => V.2.2.2.1 ≤ q)) 5 zk_E V mc ms 4 [(0, .ref a0), (1, .int i1), (2, .int i2'), (3, .int i3')] [] S rc rs) {S : zm_S} (h : zf_X17_mayCome_J63 N k a0 i1 i3 S = some res) : zw p l e R s m args below meth c (vx_MQ below (zm_Qc zk_E V (zo_i out)) (zm_XC zk_E V zo_x) args s mc ms (fun q => V.2.2.2.1 ≤ q)) 5 zk_E V mc ms 63 [(0, .ref a0), (1, .int i1), (3, .int i3)] [] S rc rs := by
  unfold zf_X17_mayCome_J63 at h
  refine zw_iconst (v := (0 : Int32)) hX dX17_mayCome_63 (by decide) ?_
  refine zw_istore_n hX dX17_mayCome_64 (by decide) ?_
  refine zw_iinc (v := (i3 + (1 : Int32))) hX dX17_mayCome_65 rfl rfl (by decide) ?_
  refine zw_goto (tgt := 4) hX dX17_mayCome_68 (by decide) ?_
  refine zw_sub (lv' := [(0, .ref a0), (1, .int i1), (2, .int (0 : Int32)), (3, .int (i3 + (1 : Int32)))]) (List.forall_mem_cons.mpr ⟨rfl, (List.forall_mem_cons.mpr ⟨rfl, (List.forall_mem_cons.mpr ⟨rfl, (List.forall_mem_cons.mpr ⟨rfl, zs_nil⟩)⟩)⟩)⟩) ?_
  exact hrec _ _ _ h
def zf_X17_mayCome_J59 (N : Nat) (k : Nat → Int32 → Int32 → Int32 → zm_S → Option ((Int32 × zm_S) ⊕ ((Int32) × zm_S))) (a0 : Nat) (i1 : Int32) (i3 : Int32) (S : zm_S) : Option ((Int32 × zm_S) ⊕ ((Int32) × zm_S)) := k a0 i1 (1 : Int32) (i3 + (1 : Int32)) S
set_option maxHeartbeats 4000000 in
set_option maxRecDepth 100000 in
theorem zt_X17_mayCome_J59 {p : Program} {l : Launch} {e : Env} {R : Room} {s : State} {m : MethodId} {args : Array Value} {below : List Frame} {meth : Method} {c : Code} {V : zm_V} {mc ms d rc rs : Nat} (hX : zm_X p R s m args meth c RX17 "mayCome" cX17_mayCome 5 zk_E V mc ms) (hr : meth.sig.returnType = (some .boolean)) (hR : R.frames = d ∧ R.locals = 64 * d) (hd : 2 ≤ d) {N : Nat} {k : Nat → Int32 → Int32 → Int32 → zm_S → Option ((Int32 × zm_S) ⊕ ((Int32) × zm_S))} {a0 : Nat} {i1 : Int32} {i3 : Int32} {res : (Int32 × zm_S) ⊕ ((Int32) × zm_S)} {out : (Int32 × zm_S)}   (hf : ∀ o, res = .inl o → o = out) (hk : ∀ (x2 : Int32) (S' : zm_S), res = .inr (x2, S') → zw p l e R s m args below meth c (vx_MQ below (zm_Qc zk_E V (zo_i out)) (zm_XC zk_E V zo_x) args s mc ms (fun q => V.2.2.2.1 ≤ q)) 5 zk_E V mc ms 71 [(2, .int x2)] [] S' rc rs) (hrec : ∀ (i2' : Int32) (i3' : Int32) (S : zm_S), k a0 i1 i2' i3' S = some res → zw p l e R s m args below meth c (vx_MQ below (zm_Qc zk_E V (zo_i out)) (zm_XC zk_E V zo_x) args s mc ms (fun q => V.2.2.2.1 ≤ q)) 5 zk_E V mc ms 4 [(0, .ref a0), (1, .int i1), (2, .int i2'), (3, .int i3')] [] S rc rs) {S : zm_S} (h : zf_X17_mayCome_J59 N k a0 i1 i3 S = some res) : zw p l e R s m args below meth c (vx_MQ below (zm_Qc zk_E V (zo_i out)) (zm_XC zk_E V zo_x) args s mc ms (fun q => V.2.2.2.1 ≤ q)) 5 zk_E V mc ms 59 [(0, .ref a0), (1, .int i1), (3, .int i3)] [] S rc rs := by
  unfold zf_X17_mayCome_J59 at h
  refine zw_iconst (v := (1 : Int32)) hX dX17_mayCome_59 (by decide) ?_
  refine zw_goto (tgt := 64) hX dX17_mayCome_60 (by decide) ?_
  refine zw_istore_n hX dX17_mayCome_64 (by decide) ?_
  refine zw_iinc (v := (i3 + (1 : Int32))) hX dX17_mayCome_65 rfl rfl (by decide) ?_
  refine zw_goto (tgt := 4) hX dX17_mayCome_68 (by decide) ?_
  refine zw_sub (lv' := [(0, .ref a0), (1, .int i1), (2, .int (1 : Int32)), (3, .int (i3 + (1 : Int32)))]) (List.forall_mem_cons.mpr ⟨rfl, (List.forall_mem_cons.mpr ⟨rfl, (List.forall_mem_cons.mpr ⟨rfl, (List.forall_mem_cons.mpr ⟨rfl, zs_nil⟩)⟩)⟩)⟩) ?_
  exact hrec _ _ _ h
def zf_X17_mayCome_L4 (N : Nat) : Nat → Nat → Int32 → Int32 → Int32 → zm_S → Option ((Int32 × zm_S) ⊕ ((Int32) × zm_S))
  | 0, _, _, _, _, _ => none
  | n + 1, a0, i1, i2, i3, S => (zg_r S a0 17 1).bind (fun b1 => (za_x S 0 b1 i1).bind (fun v2 => (zf_X17_inputs N v2 S).bind (fun r5 => if r5.1 ≤ i3 then some (.inr (i2, r5.2)) else (zg_r r5.2 a0 17 1).bind (fun b6 => (za_x r5.2 0 b6 i1).bind (fun v7 => if v7 = (16 : Int32) then some (.inr (i2, r5.2)) else (zg_r r5.2 a0 17 5).bind (fun b8 => (za_x r5.2 0 b8 (((3 : Int32) * i1) + i3)).bind (fun v9 => if i2 = 0 then zf_X17_mayCome_J63 N (zf_X17_mayCome_L4 N n) a0 i1 i3 r5.2 else if v9 < 0 then zf_X17_mayCome_J59 N (zf_X17_mayCome_L4 N n) a0 i1 i3 r5.2 else (zg_r r5.2 a0 17 16).bind (fun b10 => (za_x r5.2 2 b10 v9).bind (fun v11 => if v11 = 0 then zf_X17_mayCome_J63 N (zf_X17_mayCome_L4 N n) a0 i1 i3 r5.2 else zf_X17_mayCome_J59 N (zf_X17_mayCome_L4 N n) a0 i1 i3 r5.2)))))))))
set_option maxHeartbeats 4000000 in
set_option maxRecDepth 100000 in
theorem zt_X17_mayCome_L4 {p : Program} {l : Launch} {e : Env} {R : Room} {s : State} {m : MethodId} {args : Array Value} {below : List Frame} {meth : Method} {c : Code} {V : zm_V} {mc ms d rc rs : Nat} (hX : zm_X p R s m args meth c RX17 "mayCome" cX17_mayCome 5 zk_E V mc ms) (hr : meth.sig.returnType = (some .boolean)) (hR : R.frames = d ∧ R.locals = 64 * d) (hd : 2 ≤ d) {N : Nat} {res : (Int32 × zm_S) ⊕ ((Int32) × zm_S)} {out : (Int32 × zm_S)} (a0 : Nat) (i1 : Int32) (hf : ∀ o, res = .inl o → o = out) (hk : ∀ (x2 : Int32) (S' : zm_S), res = .inr (x2, S') → zw p l e R s m args below meth c (vx_MQ below (zm_Qc zk_E V (zo_i out)) (zm_XC zk_E V zo_x) args s mc ms (fun q => V.2.2.2.1 ≤ q)) 5 zk_E V mc ms 71 [(2, .int x2)] [] S' rc rs) : ∀ (n : Nat) (i2 : Int32) (i3 : Int32) (S : zm_S), zf_X17_mayCome_L4 N n a0 i1 i2 i3 S = some res → zw p l e R s m args below meth c (vx_MQ below (zm_Qc zk_E V (zo_i out)) (zm_XC zk_E V zo_x) args s mc ms (fun q => V.2.2.2.1 ≤ q)) 5 zk_E V mc ms 4 [(0, .ref a0), (1, .int i1), (2, .int i2), (3, .int i3)] [] S rc rs := by
  intro n
  induction n with
  | zero => intro i2 i3 S h; cases h
  | succ n ih =>
    intro i2 i3 S h
    rw [zf_X17_mayCome_L4] at h
    refine zw_iload_n hX dX17_mayCome_4 rfl ?_
    refine zw_aload_n hX dX17_mayCome_5 rfl ?_
    obtain ⟨b1, g, h⟩ := zb_some h
    refine zw_getr hX zl_X17_7 dX17_mayCome_6 g ?_
    refine zw_iload_n hX dX17_mayCome_9 rfl ?_
    obtain ⟨v2, g, h⟩ := zb_some h
    refine zw_xi hX dX17_mayCome_10 g ?_
    obtain ⟨r5, g, h⟩ := zb_some h
    refine zc_Si (as := [.int v2]) hX (zt_X17_inputs (d := d - 1) (by omega) g) zl_X17_59 dX17_mayCome_11 ⟨rfl, rfl, Nat.le_of_ble_eq_true rfl⟩ ⟨by omega, by omega⟩ ?_
    refine zw_icmp_ge (tgt := 71) hX dX17_mayCome_14 (by decide) (fun c14 => ?_) (fun c14 => ?_)
    · rw [if_pos c14] at h
      refine zw_sub (lv' := [(2, .int i2)]) (List.forall_mem_cons.mpr ⟨rfl, zs_nil⟩) ?_
      exact hk _ _ (Option.some.inj h).symm
    · rw [if_neg c14] at h
      refine zw_aload_n hX dX17_mayCome_17 rfl ?_
      obtain ⟨b6, g, h⟩ := zb_some h
      refine zw_getr hX zl_X17_7 dX17_mayCome_18 g ?_
      refine zw_iload_n hX dX17_mayCome_21 rfl ?_
      obtain ⟨v7, g, h⟩ := zb_some h
      refine zw_xi hX dX17_mayCome_22 g ?_
      refine zw_bipush (v := (16 : Int32)) hX dX17_mayCome_23 (by decide) ?_
      refine zw_icmp_eq (tgt := 71) hX dX17_mayCome_25 (by decide) (fun c25 => ?_) (fun c25 => ?_)
      · rw [if_pos c25] at h
        refine zw_sub (lv' := [(2, .int i2)]) (List.forall_mem_cons.mpr ⟨rfl, zs_nil⟩) ?_
        exact hk _ _ (Option.some.inj h).symm
      · rw [if_neg c25] at h
        refine zw_aload_n hX dX17_mayCome_28 rfl ?_
        obtain ⟨b8, g, h⟩ := zb_some h
        refine zw_getr hX zl_X17_22 dX17_mayCome_29 g ?_
        refine zw_iconst (v := (3 : Int32)) hX dX17_mayCome_32 (by decide) ?_
        refine zw_iload_n hX dX17_mayCome_33 rfl ?_
        refine zw_imul hX dX17_mayCome_34 ?_
        refine zw_iload_n hX dX17_mayCome_35 rfl ?_
        refine zw_iadd hX dX17_mayCome_36 ?_
        obtain ⟨v9, g, h⟩ := zb_some h
        refine zw_xi hX dX17_mayCome_37 g ?_
        refine zw_istore hX dX17_mayCome_38 (by decide) ?_
        refine zw_iload_n hX dX17_mayCome_40 rfl ?_
        refine zw_if_eq (tgt := 63) hX dX17_mayCome_41 (by decide) (fun c41 => ?_) (fun c41 => ?_)
        · rw [if_pos c41] at h
          refine zw_sub (lv' := [(0, .ref a0), (1, .int i1), (3, .int i3)]) (List.forall_mem_cons.mpr ⟨rfl, (List.forall_mem_cons.mpr ⟨rfl, (List.forall_mem_cons.mpr ⟨rfl, zs_nil⟩)⟩)⟩) ?_
          exact zt_X17_mayCome_J63 hX hr hR hd hf hk ih h
        · rw [if_neg c41] at h
          refine zw_iload hX dX17_mayCome_44 rfl ?_
          refine zw_if_lt (tgt := 59) hX dX17_mayCome_46 (by decide) (fun c46 => ?_) (fun c46 => ?_)
          · rw [if_pos c46] at h
            refine zw_sub (lv' := [(0, .ref a0), (1, .int i1), (3, .int i3)]) (List.forall_mem_cons.mpr ⟨rfl, (List.forall_mem_cons.mpr ⟨rfl, (List.forall_mem_cons.mpr ⟨rfl, zs_nil⟩)⟩)⟩) ?_
            exact zt_X17_mayCome_J59 hX hr hR hd hf hk ih h
          · rw [if_neg c46] at h
            refine zw_aload_n hX dX17_mayCome_49 rfl ?_
            obtain ⟨b10, g, h⟩ := zb_some h
            refine zw_getr hX zl_X17_53 dX17_mayCome_50 g ?_
            refine zw_iload hX dX17_mayCome_53 rfl ?_
            obtain ⟨v11, g, h⟩ := zb_some h
            refine zw_xz hX dX17_mayCome_55 g ?_
            refine zw_if_eq (tgt := 63) hX dX17_mayCome_56 (by decide) (fun c56 => ?_) (fun c56 => ?_)
            · rw [if_pos c56] at h
              refine zw_sub (lv' := [(0, .ref a0), (1, .int i1), (3, .int i3)]) (List.forall_mem_cons.mpr ⟨rfl, (List.forall_mem_cons.mpr ⟨rfl, (List.forall_mem_cons.mpr ⟨rfl, zs_nil⟩)⟩)⟩) ?_
              exact zt_X17_mayCome_J63 hX hr hR hd hf hk ih h
            · rw [if_neg c56] at h
              refine zw_sub (lv' := [(0, .ref a0), (1, .int i1), (3, .int i3)]) (List.forall_mem_cons.mpr ⟨rfl, (List.forall_mem_cons.mpr ⟨rfl, (List.forall_mem_cons.mpr ⟨rfl, zs_nil⟩)⟩)⟩) ?_
              exact zt_X17_mayCome_J59 hX hr hR hd hf hk ih h
def zf_X17_mayCome (N : Nat) (a0 : Nat) (i1 : Int32) (S : zm_S) : Option (Int32 × zm_S) := (zf_X17_mayCome_L4 N N a0 i1 (1 : Int32) (0 : Int32) S).bind (fun r => match r with | .inl o => some o | .inr (v13, S12) => if v13 = 0 ∨ v13 = 1 then some (v13, S12) else none)
set_option maxHeartbeats 4000000 in
set_option maxRecDepth 100000 in
theorem zt_X17_mayCome {l : Launch} {V : zm_V} {N : Nat} {S : zm_S} {out : (Int32 × zm_S)} {d : Nat} {a0 : Nat} {i1 : Int32} (hd : 2 ≤ d) (h : zf_X17_mayCome N a0 i1 S = some out) : zm_Met l zk_E V yX17_mayCome (.code yX17_mayCome cX17_mayCome 5 (some .boolean)) d [.ref a0, .int i1] S 0 0 (zo_i out) zo_x := by
  refine zm_of (by decide +kernel) (Nat.le_of_ble_eq_true rfl) ?_
  intro p e R s m args below meth c hRR hX hr hxt
  have hR : R.frames = d ∧ R.locals = 64 * d := by rw [hRR]; exact ⟨rfl, rfl⟩
  have hX : zm_X p R s m args meth c RX17 "mayCome" cX17_mayCome 5 zk_E V 0 0 := hX
  unfold zf_X17_mayCome at h
  refine zw_sub (lv' := [(0, .ref a0), (1, .int i1)]) (List.forall_mem_cons.mpr ⟨rfl, (List.forall_mem_cons.mpr ⟨rfl, zs_nil⟩)⟩) ?_
  refine zw_iconst (v := (1 : Int32)) hX dX17_mayCome_0 (by decide) ?_
  refine zw_istore_n hX dX17_mayCome_1 (by decide) ?_
  refine zw_iconst (v := (0 : Int32)) hX dX17_mayCome_2 (by decide) ?_
  refine zw_istore_n hX dX17_mayCome_3 (by decide) ?_
  obtain ⟨r, g, h⟩ := zb_some h
  refine zw_sub (lv' := [(0, .ref a0), (1, .int i1), (2, .int (1 : Int32)), (3, .int (0 : Int32))]) (List.forall_mem_cons.mpr ⟨rfl, (List.forall_mem_cons.mpr ⟨rfl, (List.forall_mem_cons.mpr ⟨rfl, (List.forall_mem_cons.mpr ⟨rfl, zs_nil⟩)⟩)⟩)⟩) ?_
  refine zt_X17_mayCome_L4 hX hr hR hd (res := r) (out := out) a0 i1 ?_ ?_ N _ _ _ g
  · intro o ho
    subst ho
    exact Option.some.inj h
  · intro v13 S12 hx
    subst hx
    try dsimp only at h
    refine zw_iload_n hX dX17_mayCome_71 rfl ?_
    by_cases cz : v13 = 0 ∨ v13 = 1
    · rw [if_pos cz] at h
      obtain rfl := Option.some.inj h
      exact zw_iret hX hr dX17_mayCome_72 (zn_z cz) ⟨rfl, rfl⟩
    · rw [if_neg cz] at h
      cases h
def zf_X17_sort_L2 (N : Nat) : Nat → Nat → Int32 → zm_S → Option ((Int32 × zm_S) ⊕ ((Unit) × zm_S))
  | 0, _, _, _ => none
  | n + 1, a0, i1, S => (zg_i S a0 17 0).bind (fun v1 => if v1 ≤ i1 then some (.inr ((), S)) else (zg_r S a0 17 16).bind (fun b2 => (zs_z S b2 i1 (0 : Int32)).bind (fun S3 => zf_X17_sort_L2 N n a0 (i1 + (1 : Int32)) S3)))
set_option maxHeartbeats 4000000 in
set_option maxRecDepth 100000 in
theorem zt_X17_sort_L2 {p : Program} {l : Launch} {e : Env} {R : Room} {s : State} {m : MethodId} {args : Array Value} {below : List Frame} {meth : Method} {c : Code} {V : zm_V} {mc ms d rc rs : Nat} (hX : zm_X p R s m args meth c RX17 "sort" cX17_sort 5 zk_E V mc ms) (hr : meth.sig.returnType = (some .int)) (hR : R.frames = d ∧ R.locals = 64 * d) (hd : 3 ≤ d) {N : Nat} {res : (Int32 × zm_S) ⊕ ((Unit) × zm_S)} {out : (Int32 × zm_S)} (a0 : Nat) (hf : ∀ o, res = .inl o → o = out) (hk : ∀ (S' : zm_S), res = .inr ((), S') → zw p l e R s m args below meth c (vx_MQ below (zm_Qc zk_E V (zo_i out)) (zm_XC zk_E V zo_x) args s mc ms (fun q => V.2.2.2.1 ≤ q)) 5 zk_E V mc ms 23 [(0, .ref a0)] [] S' rc rs) : ∀ (n : Nat) (i1 : Int32) (S : zm_S), zf_X17_sort_L2 N n a0 i1 S = some res → zw p l e R s m args below meth c (vx_MQ below (zm_Qc zk_E V (zo_i out)) (zm_XC zk_E V zo_x) args s mc ms (fun q => V.2.2.2.1 ≤ q)) 5 zk_E V mc ms 2 [(0, .ref a0), (1, .int i1)] [] S rc rs := by
  intro n
  induction n with
  | zero => intro i1 S h; cases h
  | succ n ih =>
    intro i1 S h
    rw [zf_X17_sort_L2] at h
    refine zw_iload_n hX dX17_sort_2 rfl ?_
    refine zw_aload_n hX dX17_sort_3 rfl ?_
    obtain ⟨v1, g, h⟩ := zb_some h
    refine zw_geti hX zl_X17_63 dX17_sort_4 g ?_
    refine zw_icmp_ge (tgt := 23) hX dX17_sort_7 (by decide) (fun c7 => ?_) (fun c7 => ?_)
    · rw [if_pos c7] at h
      refine zw_sub (lv' := [(0, .ref a0)]) (List.forall_mem_cons.mpr ⟨rfl, zs_nil⟩) ?_
      exact hk  _ (Option.some.inj h).symm
    · rw [if_neg c7] at h
      refine zw_aload_n hX dX17_sort_10 rfl ?_
      obtain ⟨b2, g, h⟩ := zb_some h
      refine zw_getr hX zl_X17_53 dX17_sort_11 g ?_
      refine zw_iload_n hX dX17_sort_14 rfl ?_
      refine zw_iconst (v := (0 : Int32)) hX dX17_sort_15 (by decide) ?_
      obtain ⟨S3, g, h⟩ := zb_some h
      refine zw_sz hX dX17_sort_16 g ?_
      refine zw_iinc (v := (i1 + (1 : Int32))) hX dX17_sort_17 rfl rfl (by decide) ?_
      refine zw_goto (tgt := 2) hX dX17_sort_20 (by decide) ?_
      refine zw_sub (lv' := [(0, .ref a0), (1, .int (i1 + (1 : Int32)))]) (List.forall_mem_cons.mpr ⟨rfl, (List.forall_mem_cons.mpr ⟨rfl, zs_nil⟩)⟩) ?_
      exact ih _ _ h
def zf_X17_sort_J70 (N : Nat) (k : Nat → Int32 → Int32 → Int32 → zm_S → Option ((Int32 × zm_S) ⊕ ((Int32) × zm_S))) (a0 : Nat) (i1 : Int32) (i3 : Int32) (i4 : Int32) (S : zm_S) : Option ((Int32 × zm_S) ⊕ ((Int32) × zm_S)) := k a0 i1 i3 (i4 + (-1 : Int32)) S
set_option maxHeartbeats 4000000 in
set_option maxRecDepth 100000 in
theorem zt_X17_sort_J70 {p : Program} {l : Launch} {e : Env} {R : Room} {s : State} {m : MethodId} {args : Array Value} {below : List Frame} {meth : Method} {c : Code} {V : zm_V} {mc ms d rc rs : Nat} (hX : zm_X p R s m args meth c RX17 "sort" cX17_sort 5 zk_E V mc ms) (hr : meth.sig.returnType = (some .int)) (hR : R.frames = d ∧ R.locals = 64 * d) (hd : 3 ≤ d) {N : Nat} {k : Nat → Int32 → Int32 → Int32 → zm_S → Option ((Int32 × zm_S) ⊕ ((Int32) × zm_S))} {a0 : Nat} {i1 : Int32} {i3 : Int32} {i4 : Int32} {res : (Int32 × zm_S) ⊕ ((Int32) × zm_S)} {out : (Int32 × zm_S)}   (hf : ∀ o, res = .inl o → o = out) (hk : ∀ (x3 : Int32) (S' : zm_S), res = .inr (x3, S') → zw p l e R s m args below meth c (vx_MQ below (zm_Qc zk_E V (zo_i out)) (zm_XC zk_E V zo_x) args s mc ms (fun q => V.2.2.2.1 ≤ q)) 5 zk_E V mc ms 78 [(0, .ref a0), (1, .int i1), (3, .int x3)] [] S' rc rs) (hrec : ∀ (i3' : Int32) (i4' : Int32) (S : zm_S), k a0 i1 i3' i4' S = some res → zw p l e R s m args below meth c (vx_MQ below (zm_Qc zk_E V (zo_i out)) (zm_XC zk_E V zo_x) args s mc ms (fun q => V.2.2.2.1 ≤ q)) 5 zk_E V mc ms 41 [(0, .ref a0), (1, .int i1), (3, .int i3'), (4, .int i4')] [] S rc rs) {S : zm_S} (h : zf_X17_sort_J70 N k a0 i1 i3 i4 S = some res) : zw p l e R s m args below meth c (vx_MQ below (zm_Qc zk_E V (zo_i out)) (zm_XC zk_E V zo_x) args s mc ms (fun q => V.2.2.2.1 ≤ q)) 5 zk_E V mc ms 70 [(0, .ref a0), (1, .int i1), (3, .int i3), (4, .int i4)] [] S rc rs := by
  unfold zf_X17_sort_J70 at h
  refine zw_iload_n hX dX17_sort_70 rfl ?_
  refine zw_istore_n hX dX17_sort_71 (by decide) ?_
  refine zw_iinc (v := (i4 + (-1 : Int32))) hX dX17_sort_72 rfl rfl (by decide) ?_
  refine zw_goto (tgt := 41) hX dX17_sort_75 (by decide) ?_
  refine zw_sub (lv' := [(0, .ref a0), (1, .int i1), (3, .int i3), (4, .int (i4 + (-1 : Int32)))]) (List.forall_mem_cons.mpr ⟨rfl, (List.forall_mem_cons.mpr ⟨rfl, (List.forall_mem_cons.mpr ⟨rfl, (List.forall_mem_cons.mpr ⟨rfl, zs_nil⟩)⟩)⟩)⟩) ?_
  exact hrec _ _ _ h
def zf_X17_sort_L41 (N : Nat) : Nat → Nat → Int32 → Int32 → Int32 → zm_S → Option ((Int32 × zm_S) ⊕ ((Int32) × zm_S))
  | 0, _, _, _, _, _ => none
  | n + 1, a0, i1, i3, i4, S => if i4 < 0 then some (.inr (i3, S)) else (zg_r S a0 17 16).bind (fun b6 => (za_x S 2 b6 i4).bind (fun v7 => if v7 = 0 then (zi S a0 17).bind (fun _ => (zf_X17_mayCome N a0 i4 S).bind (fun r10 => if r10.1 = 0 then zf_X17_sort_J70 N (zf_X17_sort_L41 N n) a0 i1 i3 i4 r10.2 else zf_X17_sort_L41 N n a0 i1 i4 (i4 + (-1 : Int32)) r10.2)) else zf_X17_sort_J70 N (zf_X17_sort_L41 N n) a0 i1 i3 i4 S))
set_option maxHeartbeats 4000000 in
set_option maxRecDepth 100000 in
theorem zt_X17_sort_L41 {p : Program} {l : Launch} {e : Env} {R : Room} {s : State} {m : MethodId} {args : Array Value} {below : List Frame} {meth : Method} {c : Code} {V : zm_V} {mc ms d rc rs : Nat} (hX : zm_X p R s m args meth c RX17 "sort" cX17_sort 5 zk_E V mc ms) (hr : meth.sig.returnType = (some .int)) (hR : R.frames = d ∧ R.locals = 64 * d) (hd : 3 ≤ d) {N : Nat} {res : (Int32 × zm_S) ⊕ ((Int32) × zm_S)} {out : (Int32 × zm_S)} (a0 : Nat) (i1 : Int32) (hf : ∀ o, res = .inl o → o = out) (hk : ∀ (x3 : Int32) (S' : zm_S), res = .inr (x3, S') → zw p l e R s m args below meth c (vx_MQ below (zm_Qc zk_E V (zo_i out)) (zm_XC zk_E V zo_x) args s mc ms (fun q => V.2.2.2.1 ≤ q)) 5 zk_E V mc ms 78 [(0, .ref a0), (1, .int i1), (3, .int x3)] [] S' rc rs) : ∀ (n : Nat) (i3 : Int32) (i4 : Int32) (S : zm_S), zf_X17_sort_L41 N n a0 i1 i3 i4 S = some res → zw p l e R s m args below meth c (vx_MQ below (zm_Qc zk_E V (zo_i out)) (zm_XC zk_E V zo_x) args s mc ms (fun q => V.2.2.2.1 ≤ q)) 5 zk_E V mc ms 41 [(0, .ref a0), (1, .int i1), (3, .int i3), (4, .int i4)] [] S rc rs := by
  intro n
  induction n with
  | zero => intro i3 i4 S h; cases h
  | succ n ih =>
    intro i3 i4 S h
    rw [zf_X17_sort_L41] at h
    refine zw_iload hX dX17_sort_41 rfl ?_
    refine zw_if_lt (tgt := 78) hX dX17_sort_43 (by decide) (fun c43 => ?_) (fun c43 => ?_)
    · rw [if_pos c43] at h
      refine zw_sub (lv' := [(0, .ref a0), (1, .int i1), (3, .int i3)]) (List.forall_mem_cons.mpr ⟨rfl, (List.forall_mem_cons.mpr ⟨rfl, (List.forall_mem_cons.mpr ⟨rfl, zs_nil⟩)⟩)⟩) ?_
      exact hk _ _ (Option.some.inj h).symm
    · rw [if_neg c43] at h
      refine zw_aload_n hX dX17_sort_46 rfl ?_
      obtain ⟨b6, g, h⟩ := zb_some h
      refine zw_getr hX zl_X17_53 dX17_sort_47 g ?_
      refine zw_iload hX dX17_sort_50 rfl ?_
      obtain ⟨v7, g, h⟩ := zb_some h
      refine zw_xz hX dX17_sort_52 g ?_
      refine zw_if_ne (tgt := 70) hX dX17_sort_53 (by decide) (fun c53 => ?_) (fun c53 => ?_)
      · rw [if_neg c53] at h
        refine zw_sub (lv' := [(0, .ref a0), (1, .int i1), (3, .int i3), (4, .int i4)]) (List.forall_mem_cons.mpr ⟨rfl, (List.forall_mem_cons.mpr ⟨rfl, (List.forall_mem_cons.mpr ⟨rfl, (List.forall_mem_cons.mpr ⟨rfl, zs_nil⟩)⟩)⟩)⟩) ?_
        exact zt_X17_sort_J70 hX hr hR hd hf hk ih h
      · rw [if_pos c53] at h
        refine zw_aload_n hX dX17_sort_56 rfl ?_
        refine zw_iload hX dX17_sort_57 rfl ?_
        obtain ⟨_, gi, h⟩ := zb_some h
        obtain ⟨r10, g, h⟩ := zb_some h
        refine zc_Vi (as := [.int i4]) hX gi (zt_X17_mayCome (d := d - 1) (by omega) g) zl_X17_67 rfl dX17_sort_59 ⟨rfl, rfl, Nat.le_of_ble_eq_true rfl⟩ ⟨by omega, by omega⟩ ?_
        refine zw_if_eq (tgt := 70) hX dX17_sort_62 (by decide) (fun c62 => ?_) (fun c62 => ?_)
        · rw [if_pos c62] at h
          refine zw_sub (lv' := [(0, .ref a0), (1, .int i1), (3, .int i3), (4, .int i4)]) (List.forall_mem_cons.mpr ⟨rfl, (List.forall_mem_cons.mpr ⟨rfl, (List.forall_mem_cons.mpr ⟨rfl, (List.forall_mem_cons.mpr ⟨rfl, zs_nil⟩)⟩)⟩)⟩) ?_
          exact zt_X17_sort_J70 hX hr hR hd hf hk ih h
        · rw [if_neg c62] at h
          refine zw_iload hX dX17_sort_65 rfl ?_
          refine zw_goto (tgt := 71) hX dX17_sort_67 (by decide) ?_
          refine zw_istore_n hX dX17_sort_71 (by decide) ?_
          refine zw_iinc (v := (i4 + (-1 : Int32))) hX dX17_sort_72 rfl rfl (by decide) ?_
          refine zw_goto (tgt := 41) hX dX17_sort_75 (by decide) ?_
          refine zw_sub (lv' := [(0, .ref a0), (1, .int i1), (3, .int i4), (4, .int (i4 + (-1 : Int32)))]) (List.forall_mem_cons.mpr ⟨rfl, (List.forall_mem_cons.mpr ⟨rfl, (List.forall_mem_cons.mpr ⟨rfl, (List.forall_mem_cons.mpr ⟨rfl, zs_nil⟩)⟩)⟩)⟩) ?_
          exact ih _ _ _ h
def zf_X17_sort_J87 (N : Nat) (k : Nat → Int32 → Int32 → zm_S → Option ((Int32 × zm_S) ⊕ ((Int32) × zm_S))) (a0 : Nat) (i1 : Int32) (i3 : Int32) (t0 : Int32) (S : zm_S) : Option ((Int32 × zm_S) ⊕ ((Int32) × zm_S)) := if t0 = 0 then k a0 i1 t0 S else (zg_r S a0 17 16).bind (fun b13 => (zs_z S b13 i3 (1 : Int32)).bind (fun S14 => (zg_r S14 a0 17 15).bind (fun b15 => (zs_i S14 b15 i1 i3).bind (fun S16 => k a0 (i1 + (1 : Int32)) t0 S16))))
set_option maxHeartbeats 4000000 in
set_option maxRecDepth 100000 in
theorem zt_X17_sort_J87 {p : Program} {l : Launch} {e : Env} {R : Room} {s : State} {m : MethodId} {args : Array Value} {below : List Frame} {meth : Method} {c : Code} {V : zm_V} {mc ms d rc rs : Nat} (hX : zm_X p R s m args meth c RX17 "sort" cX17_sort 5 zk_E V mc ms) (hr : meth.sig.returnType = (some .int)) (hR : R.frames = d ∧ R.locals = 64 * d) (hd : 3 ≤ d) {N : Nat} {k : Nat → Int32 → Int32 → zm_S → Option ((Int32 × zm_S) ⊕ ((Int32) × zm_S))} {a0 : Nat} {i1 : Int32} {i3 : Int32} {t0 : Int32} {res : (Int32 × zm_S) ⊕ ((Int32) × zm_S)} {out : (Int32 × zm_S)}   (hf : ∀ o, res = .inl o → o = out) (hk : ∀ (x1 : Int32) (S' : zm_S), res = .inr (x1, S') → zw p l e R s m args below meth c (vx_MQ below (zm_Qc zk_E V (zo_i out)) (zm_XC zk_E V zo_x) args s mc ms (fun q => V.2.2.2.1 ≤ q)) 5 zk_E V mc ms 112 [(0, .ref a0), (1, .int x1)] [] S' rc rs) (hrec : ∀ (i1' : Int32) (i2' : Int32) (S : zm_S), k a0 i1' i2' S = some res → zw p l e R s m args below meth c (vx_MQ below (zm_Qc zk_E V (zo_i out)) (zm_XC zk_E V zo_x) args s mc ms (fun q => V.2.2.2.1 ≤ q)) 5 zk_E V mc ms 27 [(0, .ref a0), (1, .int i1'), (2, .int i2')] [] S rc rs) {S : zm_S} (h : zf_X17_sort_J87 N k a0 i1 i3 t0 S = some res) : zw p l e R s m args below meth c (vx_MQ below (zm_Qc zk_E V (zo_i out)) (zm_XC zk_E V zo_x) args s mc ms (fun q => V.2.2.2.1 ≤ q)) 5 zk_E V mc ms 87 [(0, .ref a0), (1, .int i1), (3, .int i3)] [.int t0] S rc rs := by
  unfold zf_X17_sort_J87 at h
  refine zw_istore_n hX dX17_sort_87 (by decide) ?_
  refine zw_iload_n hX dX17_sort_88 rfl ?_
  refine zw_if_eq (tgt := 109) hX dX17_sort_89 (by decide) (fun c89 => ?_) (fun c89 => ?_)
  · rw [if_pos c89] at h
    refine zw_goto (tgt := 27) hX dX17_sort_109 (by decide) ?_
    refine zw_sub (lv' := [(0, .ref a0), (1, .int i1), (2, .int t0)]) (List.forall_mem_cons.mpr ⟨rfl, (List.forall_mem_cons.mpr ⟨rfl, (List.forall_mem_cons.mpr ⟨rfl, zs_nil⟩)⟩)⟩) ?_
    exact hrec _ _ _ h
  · rw [if_neg c89] at h
    refine zw_aload_n hX dX17_sort_92 rfl ?_
    obtain ⟨b13, g, h⟩ := zb_some h
    refine zw_getr hX zl_X17_53 dX17_sort_93 g ?_
    refine zw_iload_n hX dX17_sort_96 rfl ?_
    refine zw_iconst (v := (1 : Int32)) hX dX17_sort_97 (by decide) ?_
    obtain ⟨S14, g, h⟩ := zb_some h
    refine zw_sz hX dX17_sort_98 g ?_
    refine zw_aload_n hX dX17_sort_99 rfl ?_
    obtain ⟨b15, g, h⟩ := zb_some h
    refine zw_getr hX zl_X17_50 dX17_sort_100 g ?_
    refine zw_iload_n hX dX17_sort_103 rfl ?_
    refine zw_iload_n hX dX17_sort_104 rfl ?_
    obtain ⟨S16, g, h⟩ := zb_some h
    refine zw_si hX dX17_sort_105 g ?_
    refine zw_iinc (v := (i1 + (1 : Int32))) hX dX17_sort_106 rfl rfl (by decide) ?_
    refine zw_goto (tgt := 27) hX dX17_sort_109 (by decide) ?_
    refine zw_sub (lv' := [(0, .ref a0), (1, .int (i1 + (1 : Int32))), (2, .int t0)]) (List.forall_mem_cons.mpr ⟨rfl, (List.forall_mem_cons.mpr ⟨rfl, (List.forall_mem_cons.mpr ⟨rfl, zs_nil⟩)⟩)⟩) ?_
    exact hrec _ _ _ h
def zf_X17_sort_L27 (N : Nat) : Nat → Nat → Int32 → Int32 → zm_S → Option ((Int32 × zm_S) ⊕ ((Int32) × zm_S))
  | 0, _, _, _, _ => none
  | n + 1, a0, i1, i2, S => if i2 = 0 then some (.inr (i1, S)) else (zg_i S a0 17 0).bind (fun v5 => (zf_X17_sort_L41 N N a0 i1 (-1 : Int32) (v5 - (1 : Int32)) S).bind (fun r => match r with | .inl o => some (.inl o) | .inr (v12, S11) => if v12 < 0 then zf_X17_sort_J87 N (zf_X17_sort_L27 N n) a0 i1 v12 (0 : Int32) S11 else zf_X17_sort_J87 N (zf_X17_sort_L27 N n) a0 i1 v12 (1 : Int32) S11))
set_option maxHeartbeats 4000000 in
set_option maxRecDepth 100000 in
theorem zt_X17_sort_L27 {p : Program} {l : Launch} {e : Env} {R : Room} {s : State} {m : MethodId} {args : Array Value} {below : List Frame} {meth : Method} {c : Code} {V : zm_V} {mc ms d rc rs : Nat} (hX : zm_X p R s m args meth c RX17 "sort" cX17_sort 5 zk_E V mc ms) (hr : meth.sig.returnType = (some .int)) (hR : R.frames = d ∧ R.locals = 64 * d) (hd : 3 ≤ d) {N : Nat} {res : (Int32 × zm_S) ⊕ ((Int32) × zm_S)} {out : (Int32 × zm_S)} (a0 : Nat) (hf : ∀ o, res = .inl o → o = out) (hk : ∀ (x1 : Int32) (S' : zm_S), res = .inr (x1, S') → zw p l e R s m args below meth c (vx_MQ below (zm_Qc zk_E V (zo_i out)) (zm_XC zk_E V zo_x) args s mc ms (fun q => V.2.2.2.1 ≤ q)) 5 zk_E V mc ms 112 [(0, .ref a0), (1, .int x1)] [] S' rc rs) : ∀ (n : Nat) (i1 : Int32) (i2 : Int32) (S : zm_S), zf_X17_sort_L27 N n a0 i1 i2 S = some res → zw p l e R s m args below meth c (vx_MQ below (zm_Qc zk_E V (zo_i out)) (zm_XC zk_E V zo_x) args s mc ms (fun q => V.2.2.2.1 ≤ q)) 5 zk_E V mc ms 27 [(0, .ref a0), (1, .int i1), (2, .int i2)] [] S rc rs := by
  intro n
  induction n with
  | zero => intro i1 i2 S h; cases h
  | succ n ih =>
    intro i1 i2 S h
    rw [zf_X17_sort_L27] at h
    refine zw_iload_n hX dX17_sort_27 rfl ?_
    refine zw_if_eq (tgt := 112) hX dX17_sort_28 (by decide) (fun c28 => ?_) (fun c28 => ?_)
    · rw [if_pos c28] at h
      refine zw_sub (lv' := [(0, .ref a0), (1, .int i1)]) (List.forall_mem_cons.mpr ⟨rfl, (List.forall_mem_cons.mpr ⟨rfl, zs_nil⟩)⟩) ?_
      exact hk _ _ (Option.some.inj h).symm
    · rw [if_neg c28] at h
      refine zw_iconst (v := (-1 : Int32)) hX dX17_sort_31 (by decide) ?_
      refine zw_istore_n hX dX17_sort_32 (by decide) ?_
      refine zw_aload_n hX dX17_sort_33 rfl ?_
      obtain ⟨v5, g, h⟩ := zb_some h
      refine zw_geti hX zl_X17_63 dX17_sort_34 g ?_
      refine zw_iconst (v := (1 : Int32)) hX dX17_sort_37 (by decide) ?_
      refine zw_isub hX dX17_sort_38 ?_
      refine zw_istore hX dX17_sort_39 (by decide) ?_
      obtain ⟨r, g, h⟩ := zb_some h
      refine zw_sub (lv' := [(0, .ref a0), (1, .int i1), (3, .int (-1 : Int32)), (4, .int (v5 - (1 : Int32)))]) (List.forall_mem_cons.mpr ⟨rfl, (List.forall_mem_cons.mpr ⟨rfl, (List.forall_mem_cons.mpr ⟨rfl, (List.forall_mem_cons.mpr ⟨rfl, zs_nil⟩)⟩)⟩)⟩) ?_
      refine zt_X17_sort_L41 hX hr hR hd (res := r) (out := out) a0 i1 ?_ ?_ N _ _ _ g
      · intro o ho
        subst ho
        exact hf _ (Option.some.inj h).symm
      · intro v12 S11 hx
        subst hx
        try dsimp only at h
        refine zw_iload_n hX dX17_sort_78 rfl ?_
        refine zw_if_lt (tgt := 86) hX dX17_sort_79 (by decide) (fun c79 => ?_) (fun c79 => ?_)
        · rw [if_pos c79] at h
          refine zw_iconst (v := (0 : Int32)) hX dX17_sort_86 (by decide) ?_
          refine zw_sub (lv' := [(0, .ref a0), (1, .int i1), (3, .int v12)]) (List.forall_mem_cons.mpr ⟨rfl, (List.forall_mem_cons.mpr ⟨rfl, (List.forall_mem_cons.mpr ⟨rfl, zs_nil⟩)⟩)⟩) ?_
          exact zt_X17_sort_J87 hX hr hR hd hf hk ih h
        · rw [if_neg c79] at h
          refine zw_iconst (v := (1 : Int32)) hX dX17_sort_82 (by decide) ?_
          refine zw_goto (tgt := 87) hX dX17_sort_83 (by decide) ?_
          refine zw_sub (lv' := [(0, .ref a0), (1, .int i1), (3, .int v12)]) (List.forall_mem_cons.mpr ⟨rfl, (List.forall_mem_cons.mpr ⟨rfl, (List.forall_mem_cons.mpr ⟨rfl, zs_nil⟩)⟩)⟩) ?_
          exact zt_X17_sort_J87 hX hr hR hd hf hk ih h
def zf_X17_sort_L117 (N : Nat) : Nat → Nat → Int32 → Int32 → Int32 → zm_S → Option ((Int32 × zm_S) ⊕ ((Unit) × zm_S))
  | 0, _, _, _, _, _ => none
  | n + 1, a0, i1, i3, i4, S => (zg_i S a0 17 0).bind (fun v19 => if v19 ≤ i4 then some (.inr ((), S)) else (zg_r S a0 17 16).bind (fun b20 => (za_x S 2 b20 i4).bind (fun v21 => if v21 = 0 then (zg_r S a0 17 15).bind (fun b22 => (zs_i S b22 i3 i4).bind (fun S23 => zf_X17_sort_L117 N n a0 i1 (i3 + (1 : Int32)) (i4 + (1 : Int32)) S23)) else zf_X17_sort_L117 N n a0 i1 i3 (i4 + (1 : Int32)) S)))
set_option maxHeartbeats 4000000 in
set_option maxRecDepth 100000 in
theorem zt_X17_sort_L117 {p : Program} {l : Launch} {e : Env} {R : Room} {s : State} {m : MethodId} {args : Array Value} {below : List Frame} {meth : Method} {c : Code} {V : zm_V} {mc ms d rc rs : Nat} (hX : zm_X p R s m args meth c RX17 "sort" cX17_sort 5 zk_E V mc ms) (hr : meth.sig.returnType = (some .int)) (hR : R.frames = d ∧ R.locals = 64 * d) (hd : 3 ≤ d) {N : Nat} {res : (Int32 × zm_S) ⊕ ((Unit) × zm_S)} {out : (Int32 × zm_S)} (a0 : Nat) (i1 : Int32) (hf : ∀ o, res = .inl o → o = out) (hk : ∀ (S' : zm_S), res = .inr ((), S') → zw p l e R s m args below meth c (vx_MQ below (zm_Qc zk_E V (zo_i out)) (zm_XC zk_E V zo_x) args s mc ms (fun q => V.2.2.2.1 ≤ q)) 5 zk_E V mc ms 153 [(1, .int i1)] [] S' rc rs) : ∀ (n : Nat) (i3 : Int32) (i4 : Int32) (S : zm_S), zf_X17_sort_L117 N n a0 i1 i3 i4 S = some res → zw p l e R s m args below meth c (vx_MQ below (zm_Qc zk_E V (zo_i out)) (zm_XC zk_E V zo_x) args s mc ms (fun q => V.2.2.2.1 ≤ q)) 5 zk_E V mc ms 117 [(0, .ref a0), (1, .int i1), (3, .int i3), (4, .int i4)] [] S rc rs := by
  intro n
  induction n with
  | zero => intro i3 i4 S h; cases h
  | succ n ih =>
    intro i3 i4 S h
    rw [zf_X17_sort_L117] at h
    refine zw_iload hX dX17_sort_117 rfl ?_
    refine zw_aload_n hX dX17_sort_119 rfl ?_
    obtain ⟨v19, g, h⟩ := zb_some h
    refine zw_geti hX zl_X17_63 dX17_sort_120 g ?_
    refine zw_icmp_ge (tgt := 153) hX dX17_sort_123 (by decide) (fun c123 => ?_) (fun c123 => ?_)
    · rw [if_pos c123] at h
      refine zw_sub (lv' := [(1, .int i1)]) (List.forall_mem_cons.mpr ⟨rfl, zs_nil⟩) ?_
      exact hk  _ (Option.some.inj h).symm
    · rw [if_neg c123] at h
      refine zw_aload_n hX dX17_sort_126 rfl ?_
      obtain ⟨b20, g, h⟩ := zb_some h
      refine zw_getr hX zl_X17_53 dX17_sort_127 g ?_
      refine zw_iload hX dX17_sort_130 rfl ?_
      obtain ⟨v21, g, h⟩ := zb_some h
      refine zw_xz hX dX17_sort_132 g ?_
      refine zw_if_ne (tgt := 147) hX dX17_sort_133 (by decide) (fun c133 => ?_) (fun c133 => ?_)
      · rw [if_neg c133] at h
        refine zw_iinc (v := (i4 + (1 : Int32))) hX dX17_sort_147 rfl rfl (by decide) ?_
        refine zw_goto (tgt := 117) hX dX17_sort_150 (by decide) ?_
        refine zw_sub (lv' := [(0, .ref a0), (1, .int i1), (3, .int i3), (4, .int (i4 + (1 : Int32)))]) (List.forall_mem_cons.mpr ⟨rfl, (List.forall_mem_cons.mpr ⟨rfl, (List.forall_mem_cons.mpr ⟨rfl, (List.forall_mem_cons.mpr ⟨rfl, zs_nil⟩)⟩)⟩)⟩) ?_
        exact ih _ _ _ h
      · rw [if_pos c133] at h
        refine zw_aload_n hX dX17_sort_136 rfl ?_
        obtain ⟨b22, g, h⟩ := zb_some h
        refine zw_getr hX zl_X17_50 dX17_sort_137 g ?_
        refine zw_iload_n hX dX17_sort_140 rfl ?_
        refine zw_iload hX dX17_sort_141 rfl ?_
        obtain ⟨S23, g, h⟩ := zb_some h
        refine zw_si hX dX17_sort_143 g ?_
        refine zw_iinc (v := (i3 + (1 : Int32))) hX dX17_sort_144 rfl rfl (by decide) ?_
        refine zw_iinc (v := (i4 + (1 : Int32))) hX dX17_sort_147 rfl rfl (by decide) ?_
        refine zw_goto (tgt := 117) hX dX17_sort_150 (by decide) ?_
        refine zw_sub (lv' := [(0, .ref a0), (1, .int i1), (3, .int (i3 + (1 : Int32))), (4, .int (i4 + (1 : Int32)))]) (List.forall_mem_cons.mpr ⟨rfl, (List.forall_mem_cons.mpr ⟨rfl, (List.forall_mem_cons.mpr ⟨rfl, (List.forall_mem_cons.mpr ⟨rfl, zs_nil⟩)⟩)⟩)⟩) ?_
        exact ih _ _ _ h
def zf_X17_sort (N : Nat) (a0 : Nat) (S : zm_S) : Option (Int32 × zm_S) := (zf_X17_sort_L2 N N a0 (0 : Int32) S).bind (fun r => match r with | .inl o => some o | .inr (_, S4) => (zf_X17_sort_L27 N N a0 (0 : Int32) (1 : Int32) S4).bind (fun r => match r with | .inl o => some o | .inr (v18, S17) => (zf_X17_sort_L117 N N a0 v18 v18 (0 : Int32) S17).bind (fun r => match r with | .inl o => some o | .inr (_, S24) => some (v18, S24))))
set_option maxHeartbeats 4000000 in
set_option maxRecDepth 100000 in
theorem zt_X17_sort {l : Launch} {V : zm_V} {N : Nat} {S : zm_S} {out : (Int32 × zm_S)} {d : Nat} {a0 : Nat} (hd : 3 ≤ d) (h : zf_X17_sort N a0 S = some out) : zm_Met l zk_E V yX17_sort (.code yX17_sort cX17_sort 5 (some .int)) d [.ref a0] S 0 0 (zo_i out) zo_x := by
  refine zm_of (by decide +kernel) (Nat.le_of_ble_eq_true rfl) ?_
  intro p e R s m args below meth c hRR hX hr hxt
  have hR : R.frames = d ∧ R.locals = 64 * d := by rw [hRR]; exact ⟨rfl, rfl⟩
  have hX : zm_X p R s m args meth c RX17 "sort" cX17_sort 5 zk_E V 0 0 := hX
  unfold zf_X17_sort at h
  refine zw_sub (lv' := [(0, .ref a0)]) (List.forall_mem_cons.mpr ⟨rfl, zs_nil⟩) ?_
  refine zw_iconst (v := (0 : Int32)) hX dX17_sort_0 (by decide) ?_
  refine zw_istore_n hX dX17_sort_1 (by decide) ?_
  obtain ⟨r, g, h⟩ := zb_some h
  refine zw_sub (lv' := [(0, .ref a0), (1, .int (0 : Int32))]) (List.forall_mem_cons.mpr ⟨rfl, (List.forall_mem_cons.mpr ⟨rfl, zs_nil⟩)⟩) ?_
  refine zt_X17_sort_L2 hX hr hR hd (res := r) (out := out) a0 ?_ ?_ N _ _ g
  · intro o ho
    subst ho
    exact Option.some.inj h
  · intro  S4 hx
    subst hx
    try dsimp only at h
    refine zw_iconst (v := (0 : Int32)) hX dX17_sort_23 (by decide) ?_
    refine zw_istore_n hX dX17_sort_24 (by decide) ?_
    refine zw_iconst (v := (1 : Int32)) hX dX17_sort_25 (by decide) ?_
    refine zw_istore_n hX dX17_sort_26 (by decide) ?_
    obtain ⟨r, g, h⟩ := zb_some h
    refine zw_sub (lv' := [(0, .ref a0), (1, .int (0 : Int32)), (2, .int (1 : Int32))]) (List.forall_mem_cons.mpr ⟨rfl, (List.forall_mem_cons.mpr ⟨rfl, (List.forall_mem_cons.mpr ⟨rfl, zs_nil⟩)⟩)⟩) ?_
    refine zt_X17_sort_L27 hX hr hR hd (res := r) (out := out) a0 ?_ ?_ N _ _ _ g
    · intro o ho
      subst ho
      exact Option.some.inj h
    · intro v18 S17 hx
      subst hx
      try dsimp only at h
      refine zw_iload_n hX dX17_sort_112 rfl ?_
      refine zw_istore_n hX dX17_sort_113 (by decide) ?_
      refine zw_iconst (v := (0 : Int32)) hX dX17_sort_114 (by decide) ?_
      refine zw_istore hX dX17_sort_115 (by decide) ?_
      obtain ⟨r, g, h⟩ := zb_some h
      refine zw_sub (lv' := [(0, .ref a0), (1, .int v18), (3, .int v18), (4, .int (0 : Int32))]) (List.forall_mem_cons.mpr ⟨rfl, (List.forall_mem_cons.mpr ⟨rfl, (List.forall_mem_cons.mpr ⟨rfl, (List.forall_mem_cons.mpr ⟨rfl, zs_nil⟩)⟩)⟩)⟩) ?_
      refine zt_X17_sort_L117 hX hr hR hd (res := r) (out := out) a0 v18 ?_ ?_ N _ _ _ g
      · intro o ho
        subst ho
        exact Option.some.inj h
      · intro  S24 hx
        subst hx
        try dsimp only at h
        refine zw_iload_n hX dX17_sort_153 rfl ?_
        obtain rfl := Option.some.inj h
        exact zw_iret hX hr dX17_sort_154 rfl ⟨rfl, rfl⟩
def zf_X17_place_L7 (N : Nat) : Nat → Nat → Int32 → Int32 → zm_S → Option ((Int32 × zm_S) ⊕ ((Int32) × zm_S))
  | 0, _, _, _, _ => none
  | n + 1, a0, i1, i3, S => (zg_r S a0 17 15).bind (fun b4 => (za_x S 0 b4 i3).bind (fun v5 => if v5 = i1 then some (.inr (i3, S)) else zf_X17_place_L7 N n a0 i1 (i3 + (1 : Int32)) S))
set_option maxHeartbeats 4000000 in
set_option maxRecDepth 100000 in
theorem zt_X17_place_L7 {p : Program} {l : Launch} {e : Env} {R : Room} {s : State} {m : MethodId} {args : Array Value} {below : List Frame} {meth : Method} {c : Code} {V : zm_V} {mc ms d rc rs : Nat} (hX : zm_X p R s m args meth c RX17 "place" cX17_place 4 zk_E V mc ms) (hr : meth.sig.returnType = (some .int)) (hR : R.frames = d ∧ R.locals = 64 * d) (hd : 4 ≤ d) {N : Nat} {res : (Int32 × zm_S) ⊕ ((Int32) × zm_S)} {out : (Int32 × zm_S)} (a0 : Nat) (i1 : Int32) (hf : ∀ o, res = .inl o → o = out) (hk : ∀ (x3 : Int32) (S' : zm_S), res = .inr (x3, S') → zw p l e R s m args below meth c (vx_MQ below (zm_Qc zk_E V (zo_i out)) (zm_XC zk_E V zo_x) args s mc ms (fun q => V.2.2.2.1 ≤ q)) 4 zk_E V mc ms 23 [(3, .int x3)] [] S' rc rs) : ∀ (n : Nat) (i3 : Int32) (S : zm_S), zf_X17_place_L7 N n a0 i1 i3 S = some res → zw p l e R s m args below meth c (vx_MQ below (zm_Qc zk_E V (zo_i out)) (zm_XC zk_E V zo_x) args s mc ms (fun q => V.2.2.2.1 ≤ q)) 4 zk_E V mc ms 7 [(0, .ref a0), (1, .int i1), (3, .int i3)] [] S rc rs := by
  intro n
  induction n with
  | zero => intro i3 S h; cases h
  | succ n ih =>
    intro i3 S h
    rw [zf_X17_place_L7] at h
    refine zw_aload_n hX dX17_place_7 rfl ?_
    obtain ⟨b4, g, h⟩ := zb_some h
    refine zw_getr hX zl_X17_50 dX17_place_8 g ?_
    refine zw_iload_n hX dX17_place_11 rfl ?_
    obtain ⟨v5, g, h⟩ := zb_some h
    refine zw_xi hX dX17_place_12 g ?_
    refine zw_iload_n hX dX17_place_13 rfl ?_
    refine zw_icmp_eq (tgt := 23) hX dX17_place_14 (by decide) (fun c14 => ?_) (fun c14 => ?_)
    · rw [if_pos c14] at h
      refine zw_sub (lv' := [(3, .int i3)]) (List.forall_mem_cons.mpr ⟨rfl, zs_nil⟩) ?_
      exact hk _ _ (Option.some.inj h).symm
    · rw [if_neg c14] at h
      refine zw_iinc (v := (i3 + (1 : Int32))) hX dX17_place_17 rfl rfl (by decide) ?_
      refine zw_goto (tgt := 7) hX dX17_place_20 (by decide) ?_
      refine zw_sub (lv' := [(0, .ref a0), (1, .int i1), (3, .int (i3 + (1 : Int32)))]) (List.forall_mem_cons.mpr ⟨rfl, (List.forall_mem_cons.mpr ⟨rfl, (List.forall_mem_cons.mpr ⟨rfl, zs_nil⟩)⟩)⟩) ?_
      exact ih _ _ h
def zf_X17_place (N : Nat) (a0 : Nat) (i1 : Int32) (S : zm_S) : Option (Int32 × zm_S) := (zi S a0 17).bind (fun _ => (zf_X17_sort N a0 S).bind (fun r3 => (zf_X17_place_L7 N N a0 i1 (0 : Int32) r3.2).bind (fun r => match r with | .inl o => some o | .inr (v7, S6) => some (v7, S6))))
set_option maxHeartbeats 4000000 in
set_option maxRecDepth 100000 in
theorem zt_X17_place {l : Launch} {V : zm_V} {N : Nat} {S : zm_S} {out : (Int32 × zm_S)} {d : Nat} {a0 : Nat} {i1 : Int32} (hd : 4 ≤ d) (h : zf_X17_place N a0 i1 S = some out) : zm_Met l zk_E V yX17_place (.code yX17_place cX17_place 4 (some .int)) d [.ref a0, .int i1] S 0 0 (zo_i out) zo_x := by
  refine zm_of (by decide +kernel) (Nat.le_of_ble_eq_true rfl) ?_
  intro p e R s m args below meth c hRR hX hr hxt
  have hR : R.frames = d ∧ R.locals = 64 * d := by rw [hRR]; exact ⟨rfl, rfl⟩
  have hX : zm_X p R s m args meth c RX17 "place" cX17_place 4 zk_E V 0 0 := hX
  unfold zf_X17_place at h
  refine zw_sub (lv' := [(0, .ref a0), (1, .int i1)]) (List.forall_mem_cons.mpr ⟨rfl, (List.forall_mem_cons.mpr ⟨rfl, zs_nil⟩)⟩) ?_
  refine zw_aload_n hX dX17_place_0 rfl ?_
  obtain ⟨_, gi, h⟩ := zb_some h
  obtain ⟨r3, g, h⟩ := zb_some h
  refine zc_Vi (as := []) hX gi (zt_X17_sort (d := d - 1) (by omega) g) zl_X17_71 rfl dX17_place_1 ⟨rfl, rfl, Nat.le_of_ble_eq_true rfl⟩ ⟨by omega, by omega⟩ ?_
  refine zw_istore_n hX dX17_place_4 (by decide) ?_
  refine zw_iconst (v := (0 : Int32)) hX dX17_place_5 (by decide) ?_
  refine zw_istore_n hX dX17_place_6 (by decide) ?_
  obtain ⟨r, g, h⟩ := zb_some h
  refine zw_sub (lv' := [(0, .ref a0), (1, .int i1), (3, .int (0 : Int32))]) (List.forall_mem_cons.mpr ⟨rfl, (List.forall_mem_cons.mpr ⟨rfl, (List.forall_mem_cons.mpr ⟨rfl, zs_nil⟩)⟩)⟩) ?_
  refine zt_X17_place_L7 hX hr hR hd (res := r) (out := out) a0 i1 ?_ ?_ N _ _ g
  · intro o ho
    subst ho
    exact Option.some.inj h
  · intro v7 S6 hx
    subst hx
    try dsimp only at h
    refine zw_iload_n hX dX17_place_23 rfl ?_
    obtain rfl := Option.some.inj h
    exact zw_iret hX hr dX17_place_24 rfl ⟨rfl, rfl⟩
def zf_X17_block_L12 (N : Nat) : Nat → Nat → Int32 → zm_S → Option ((Int32 × zm_S) ⊕ ((Unit) × zm_S))
  | 0, _, _, _ => none
  | n + 1, a0, i2, S => if (3 : Int32) ≤ i2 then some (.inr ((), S)) else (zg_r S a0 17 5).bind (fun b4 => (zg_i S a0 17 0).bind (fun v5 => (zs_i S b4 (((3 : Int32) * v5) + i2) (-1 : Int32)).bind (fun S6 => zf_X17_block_L12 N n a0 (i2 + (1 : Int32)) S6)))
set_option maxHeartbeats 4000000 in
set_option maxRecDepth 100000 in
theorem zt_X17_block_L12 {p : Program} {l : Launch} {e : Env} {R : Room} {s : State} {m : MethodId} {args : Array Value} {below : List Frame} {meth : Method} {c : Code} {V : zm_V} {mc ms d rc rs : Nat} (hX : zm_X p R s m args meth c RX17 "block" cX17_block 3 zk_E V mc ms) (hr : meth.sig.returnType = (some .int)) (hR : R.frames = d ∧ R.locals = 64 * d) (hd : 1 ≤ d) {N : Nat} {res : (Int32 × zm_S) ⊕ ((Unit) × zm_S)} {out : (Int32 × zm_S)} (a0 : Nat) (hf : ∀ o, res = .inl o → o = out) (hk : ∀ (S' : zm_S), res = .inr ((), S') → zw p l e R s m args below meth c (vx_MQ below (zm_Qc zk_E V (zo_i out)) (zm_XC zk_E V zo_x) args s mc ms (fun q => V.2.2.2.1 ≤ q)) 3 zk_E V mc ms 37 [(0, .ref a0)] [] S' rc rs) : ∀ (n : Nat) (i2 : Int32) (S : zm_S), zf_X17_block_L12 N n a0 i2 S = some res → zw p l e R s m args below meth c (vx_MQ below (zm_Qc zk_E V (zo_i out)) (zm_XC zk_E V zo_x) args s mc ms (fun q => V.2.2.2.1 ≤ q)) 3 zk_E V mc ms 12 [(0, .ref a0), (2, .int i2)] [] S rc rs := by
  intro n
  induction n with
  | zero => intro i2 S h; cases h
  | succ n ih =>
    intro i2 S h
    rw [zf_X17_block_L12] at h
    refine zw_iload_n hX dX17_block_12 rfl ?_
    refine zw_iconst (v := (3 : Int32)) hX dX17_block_13 (by decide) ?_
    refine zw_icmp_ge (tgt := 37) hX dX17_block_14 (by decide) (fun c14 => ?_) (fun c14 => ?_)
    · rw [if_pos c14] at h
      refine zw_sub (lv' := [(0, .ref a0)]) (List.forall_mem_cons.mpr ⟨rfl, zs_nil⟩) ?_
      exact hk  _ (Option.some.inj h).symm
    · rw [if_neg c14] at h
      refine zw_aload_n hX dX17_block_17 rfl ?_
      obtain ⟨b4, g, h⟩ := zb_some h
      refine zw_getr hX zl_X17_22 dX17_block_18 g ?_
      refine zw_iconst (v := (3 : Int32)) hX dX17_block_21 (by decide) ?_
      refine zw_aload_n hX dX17_block_22 rfl ?_
      obtain ⟨v5, g, h⟩ := zb_some h
      refine zw_geti hX zl_X17_63 dX17_block_23 g ?_
      refine zw_imul hX dX17_block_26 ?_
      refine zw_iload_n hX dX17_block_27 rfl ?_
      refine zw_iadd hX dX17_block_28 ?_
      refine zw_iconst (v := (-1 : Int32)) hX dX17_block_29 (by decide) ?_
      obtain ⟨S6, g, h⟩ := zb_some h
      refine zw_si hX dX17_block_30 g ?_
      refine zw_iinc (v := (i2 + (1 : Int32))) hX dX17_block_31 rfl rfl (by decide) ?_
      refine zw_goto (tgt := 12) hX dX17_block_34 (by decide) ?_
      refine zw_sub (lv' := [(0, .ref a0), (2, .int (i2 + (1 : Int32)))]) (List.forall_mem_cons.mpr ⟨rfl, (List.forall_mem_cons.mpr ⟨rfl, zs_nil⟩)⟩) ?_
      exact ih _ _ h
def zf_X17_block (N : Nat) (a0 : Nat) (i1 : Int32) (S : zm_S) : Option (Int32 × zm_S) := (zg_r S a0 17 1).bind (fun b1 => (zg_i S a0 17 0).bind (fun v2 => (zs_i S b1 v2 i1).bind (fun S3 => (zf_X17_block_L12 N N a0 (0 : Int32) S3).bind (fun r => match r with | .inl o => some o | .inr (_, S7) => (zg_i S7 a0 17 0).bind (fun v8 => (zp S7 a0 17 0 (.int (v8 + (1 : Int32)))).bind (fun S9 => (zg_i S9 a0 17 0).bind (fun v10 => some ((v10 - (1 : Int32)), S9))))))))
set_option maxHeartbeats 4000000 in
set_option maxRecDepth 100000 in
theorem zt_X17_block {l : Launch} {V : zm_V} {N : Nat} {S : zm_S} {out : (Int32 × zm_S)} {d : Nat} {a0 : Nat} {i1 : Int32} (hd : 1 ≤ d) (h : zf_X17_block N a0 i1 S = some out) : zm_Met l zk_E V yX17_block (.code yX17_block cX17_block 3 (some .int)) d [.ref a0, .int i1] S 0 0 (zo_i out) zo_x := by
  refine zm_of (by decide +kernel) (Nat.le_of_ble_eq_true rfl) ?_
  intro p e R s m args below meth c hRR hX hr hxt
  have hR : R.frames = d ∧ R.locals = 64 * d := by rw [hRR]; exact ⟨rfl, rfl⟩
  have hX : zm_X p R s m args meth c RX17 "block" cX17_block 3 zk_E V 0 0 := hX
  unfold zf_X17_block at h
  refine zw_sub (lv' := [(0, .ref a0), (1, .int i1)]) (List.forall_mem_cons.mpr ⟨rfl, (List.forall_mem_cons.mpr ⟨rfl, zs_nil⟩)⟩) ?_
  refine zw_aload_n hX dX17_block_0 rfl ?_
  obtain ⟨b1, g, h⟩ := zb_some h
  refine zw_getr hX zl_X17_7 dX17_block_1 g ?_
  refine zw_aload_n hX dX17_block_4 rfl ?_
  obtain ⟨v2, g, h⟩ := zb_some h
  refine zw_geti hX zl_X17_63 dX17_block_5 g ?_
  refine zw_iload_n hX dX17_block_8 rfl ?_
  obtain ⟨S3, g, h⟩ := zb_some h
  refine zw_si hX dX17_block_9 g ?_
  refine zw_iconst (v := (0 : Int32)) hX dX17_block_10 (by decide) ?_
  refine zw_istore_n hX dX17_block_11 (by decide) ?_
  obtain ⟨r, g, h⟩ := zb_some h
  refine zw_sub (lv' := [(0, .ref a0), (2, .int (0 : Int32))]) (List.forall_mem_cons.mpr ⟨rfl, (List.forall_mem_cons.mpr ⟨rfl, zs_nil⟩)⟩) ?_
  refine zt_X17_block_L12 hX hr hR hd (res := r) (out := out) a0 ?_ ?_ N _ _ g
  · intro o ho
    subst ho
    exact Option.some.inj h
  · intro  S7 hx
    subst hx
    try dsimp only at h
    refine zw_aload_n hX dX17_block_37 rfl ?_
    refine zw_dup hX dX17_block_38 rfl ?_
    obtain ⟨v8, g, h⟩ := zb_some h
    refine zw_geti hX zl_X17_63 dX17_block_39 g ?_
    refine zw_iconst (v := (1 : Int32)) hX dX17_block_42 (by decide) ?_
    refine zw_iadd hX dX17_block_43 ?_
    obtain ⟨S9, g, h⟩ := zb_some h
    refine zw_putv hX zl_X17_63 zt_17_0 dX17_block_44 rfl rfl g ?_
    refine zw_aload_n hX dX17_block_47 rfl ?_
    obtain ⟨v10, g, h⟩ := zb_some h
    refine zw_geti hX zl_X17_63 dX17_block_48 g ?_
    refine zw_iconst (v := (1 : Int32)) hX dX17_block_51 (by decide) ?_
    refine zw_isub hX dX17_block_52 ?_
    obtain rfl := Option.some.inj h
    exact zw_iret hX hr dX17_block_53 rfl ⟨rfl, rfl⟩
def zf_X17_in (N : Nat) (a0 : Nat) (i1 : Int32) (i2 : Int32) (S : zm_S) : Option (Int32 × zm_S) := (zg_r S a0 17 7).bind (fun b1 => (zg_r S a0 17 5).bind (fun b2 => (za_x S 0 b2 (((3 : Int32) * i1) + i2)).bind (fun v3 => (za_x S 0 b1 v3).bind (fun v4 => some (v4, S)))))
set_option maxHeartbeats 4000000 in
set_option maxRecDepth 100000 in
theorem zt_X17_in {l : Launch} {V : zm_V} {N : Nat} {S : zm_S} {out : (Int32 × zm_S)} {d : Nat} {a0 : Nat} {i1 : Int32} {i2 : Int32} (hd : 1 ≤ d) (h : zf_X17_in N a0 i1 i2 S = some out) : zm_Met l zk_E V yX17_in (.code yX17_in cX17_in 3 (some .int)) d [.ref a0, .int i1, .int i2] S 0 0 (zo_i out) zo_x := by
  refine zm_of (by decide +kernel) (Nat.le_of_ble_eq_true rfl) ?_
  intro p e R s m args below meth c hRR hX hr hxt
  have hR : R.frames = d ∧ R.locals = 64 * d := by rw [hRR]; exact ⟨rfl, rfl⟩
  have hX : zm_X p R s m args meth c RX17 "in" cX17_in 3 zk_E V 0 0 := hX
  unfold zf_X17_in at h
  refine zw_sub (lv' := [(0, .ref a0), (1, .int i1), (2, .int i2)]) (List.forall_mem_cons.mpr ⟨rfl, (List.forall_mem_cons.mpr ⟨rfl, (List.forall_mem_cons.mpr ⟨rfl, zs_nil⟩)⟩)⟩) ?_
  refine zw_aload_n hX dX17_in_0 rfl ?_
  obtain ⟨b1, g, h⟩ := zb_some h
  refine zw_getr hX zl_X17_28 dX17_in_1 g ?_
  refine zw_aload_n hX dX17_in_4 rfl ?_
  obtain ⟨b2, g, h⟩ := zb_some h
  refine zw_getr hX zl_X17_22 dX17_in_5 g ?_
  refine zw_iconst (v := (3 : Int32)) hX dX17_in_8 (by decide) ?_
  refine zw_iload_n hX dX17_in_9 rfl ?_
  refine zw_imul hX dX17_in_10 ?_
  refine zw_iload_n hX dX17_in_11 rfl ?_
  refine zw_iadd hX dX17_in_12 ?_
  obtain ⟨v3, g, h⟩ := zb_some h
  refine zw_xi hX dX17_in_13 g ?_
  obtain ⟨v4, g, h⟩ := zb_some h
  refine zw_xi hX dX17_in_14 g ?_
  obtain rfl := Option.some.inj h
  exact zw_iret hX hr dX17_in_15 rfl ⟨rfl, rfl⟩
def zf_X17_failure_L9 (N : Nat) : Nat → Nat → Int32 → Int32 → Int32 → zm_S → Option ((Int32 × zm_S) ⊕ ((Unit) × zm_S))
  | 0, _, _, _, _, _ => none
  | n + 1, a0, i1, i2, i3, S => (zf_X17_inputs N i2 S).bind (fun r5 => if r5.1 ≤ i3 then some (.inr ((), r5.2)) else if i2 = (16 : Int32) then some (.inr ((), r5.2)) else (zg_r r5.2 a0 17 5).bind (fun b6 => (za_x r5.2 0 b6 (((3 : Int32) * i1) + i3)).bind (fun v7 => if 0 ≤ v7 then zf_X17_failure_L9 N n a0 i1 i2 (i3 + (1 : Int32)) r5.2 else some (.inl ((3 : Int32), r5.2)))))
set_option maxHeartbeats 4000000 in
set_option maxRecDepth 100000 in
theorem zt_X17_failure_L9 {p : Program} {l : Launch} {e : Env} {R : Room} {s : State} {m : MethodId} {args : Array Value} {below : List Frame} {meth : Method} {c : Code} {V : zm_V} {mc ms d rc rs : Nat} (hX : zm_X p R s m args meth c RX17 "failure" cX17_failure 4 zk_E V mc ms) (hr : meth.sig.returnType = (some .int)) (hR : R.frames = d ∧ R.locals = 64 * d) (hd : 2 ≤ d) {N : Nat} {res : (Int32 × zm_S) ⊕ ((Unit) × zm_S)} {out : (Int32 × zm_S)} (a0 : Nat) (i1 : Int32) (i2 : Int32) (hf : ∀ o, res = .inl o → o = out) (hk : ∀ (S' : zm_S), res = .inr ((), S') → zw p l e R s m args below meth c (vx_MQ below (zm_Qc zk_E V (zo_i out)) (zm_XC zk_E V zo_x) args s mc ms (fun q => V.2.2.2.1 ≤ q)) 4 zk_E V mc ms 44 [(0, .ref a0), (1, .int i1), (2, .int i2)] [] S' rc rs) : ∀ (n : Nat) (i3 : Int32) (S : zm_S), zf_X17_failure_L9 N n a0 i1 i2 i3 S = some res → zw p l e R s m args below meth c (vx_MQ below (zm_Qc zk_E V (zo_i out)) (zm_XC zk_E V zo_x) args s mc ms (fun q => V.2.2.2.1 ≤ q)) 4 zk_E V mc ms 9 [(0, .ref a0), (1, .int i1), (2, .int i2), (3, .int i3)] [] S rc rs := by
  intro n
  induction n with
  | zero => intro i3 S h; cases h
  | succ n ih =>
    intro i3 S h
    rw [zf_X17_failure_L9] at h
    refine zw_iload_n hX dX17_failure_9 rfl ?_
    refine zw_iload_n hX dX17_failure_10 rfl ?_
    obtain ⟨r5, g, h⟩ := zb_some h
    refine zc_Si (as := [.int i2]) hX (zt_X17_inputs (d := d - 1) (by omega) g) zl_X17_59 dX17_failure_11 ⟨rfl, rfl, Nat.le_of_ble_eq_true rfl⟩ ⟨by omega, by omega⟩ ?_
    refine zw_icmp_ge (tgt := 44) hX dX17_failure_14 (by decide) (fun c14 => ?_) (fun c14 => ?_)
    · rw [if_pos c14] at h
      refine zw_sub (lv' := [(0, .ref a0), (1, .int i1), (2, .int i2)]) (List.forall_mem_cons.mpr ⟨rfl, (List.forall_mem_cons.mpr ⟨rfl, (List.forall_mem_cons.mpr ⟨rfl, zs_nil⟩)⟩)⟩) ?_
      exact hk  _ (Option.some.inj h).symm
    · rw [if_neg c14] at h
      refine zw_iload_n hX dX17_failure_17 rfl ?_
      refine zw_bipush (v := (16 : Int32)) hX dX17_failure_18 (by decide) ?_
      refine zw_icmp_eq (tgt := 44) hX dX17_failure_20 (by decide) (fun c20 => ?_) (fun c20 => ?_)
      · rw [if_pos c20] at h
        refine zw_sub (lv' := [(0, .ref a0), (1, .int i1), (2, .int i2)]) (List.forall_mem_cons.mpr ⟨rfl, (List.forall_mem_cons.mpr ⟨rfl, (List.forall_mem_cons.mpr ⟨rfl, zs_nil⟩)⟩)⟩) ?_
        exact hk  _ (Option.some.inj h).symm
      · rw [if_neg c20] at h
        refine zw_aload_n hX dX17_failure_23 rfl ?_
        obtain ⟨b6, g, h⟩ := zb_some h
        refine zw_getr hX zl_X17_22 dX17_failure_24 g ?_
        refine zw_iconst (v := (3 : Int32)) hX dX17_failure_27 (by decide) ?_
        refine zw_iload_n hX dX17_failure_28 rfl ?_
        refine zw_imul hX dX17_failure_29 ?_
        refine zw_iload_n hX dX17_failure_30 rfl ?_
        refine zw_iadd hX dX17_failure_31 ?_
        obtain ⟨v7, g, h⟩ := zb_some h
        refine zw_xi hX dX17_failure_32 g ?_
        refine zw_if_ge (tgt := 38) hX dX17_failure_33 (by decide) (fun c33 => ?_) (fun c33 => ?_)
        · rw [if_pos c33] at h
          refine zw_iinc (v := (i3 + (1 : Int32))) hX dX17_failure_38 rfl rfl (by decide) ?_
          refine zw_goto (tgt := 9) hX dX17_failure_41 (by decide) ?_
          refine zw_sub (lv' := [(0, .ref a0), (1, .int i1), (2, .int i2), (3, .int (i3 + (1 : Int32)))]) (List.forall_mem_cons.mpr ⟨rfl, (List.forall_mem_cons.mpr ⟨rfl, (List.forall_mem_cons.mpr ⟨rfl, (List.forall_mem_cons.mpr ⟨rfl, zs_nil⟩)⟩)⟩)⟩) ?_
          exact ih _ _ h
        · rw [if_neg c33] at h
          refine zw_iconst (v := (3 : Int32)) hX dX17_failure_36 (by decide) ?_
          have hz := hf _ (Option.some.inj h).symm
          subst hz
          exact zw_iret hX hr dX17_failure_37 rfl ⟨rfl, rfl⟩
def zf_X17_failure_J121 (N : Nat) (t0 : Int32) (S : zm_S) : Option (Int32 × zm_S) := if t0 = 0 then some ((0 : Int32), S) else some ((2 : Int32), S)
set_option maxHeartbeats 4000000 in
set_option maxRecDepth 100000 in
theorem zt_X17_failure_J121 {p : Program} {l : Launch} {e : Env} {R : Room} {s : State} {m : MethodId} {args : Array Value} {below : List Frame} {meth : Method} {c : Code} {V : zm_V} {mc ms d rc rs : Nat} (hX : zm_X p R s m args meth c RX17 "failure" cX17_failure 4 zk_E V mc ms) (hr : meth.sig.returnType = (some .int)) (hR : R.frames = d ∧ R.locals = 64 * d) (hd : 2 ≤ d) {N : Nat} {t0 : Int32} {out : (Int32 × zm_S)} {S : zm_S} (h : zf_X17_failure_J121 N t0 S = some out) : zw p l e R s m args below meth c (vx_MQ below (zm_Qc zk_E V (zo_i out)) (zm_XC zk_E V zo_x) args s mc ms (fun q => V.2.2.2.1 ≤ q)) 4 zk_E V mc ms 121 [] [.int t0] S rc rs := by
  unfold zf_X17_failure_J121 at h
  refine zw_istore_n hX dX17_failure_121 (by decide) ?_
  refine zw_iload_n hX dX17_failure_122 rfl ?_
  refine zw_if_eq (tgt := 130) hX dX17_failure_123 (by decide) (fun c123 => ?_) (fun c123 => ?_)
  · rw [if_pos c123] at h
    refine zw_iconst (v := (0 : Int32)) hX dX17_failure_130 (by decide) ?_
    obtain rfl := Option.some.inj h
    exact zw_iret hX hr dX17_failure_131 rfl ⟨rfl, rfl⟩
  · rw [if_neg c123] at h
    refine zw_iconst (v := (2 : Int32)) hX dX17_failure_126 (by decide) ?_
    refine zw_goto (tgt := 131) hX dX17_failure_127 (by decide) ?_
    obtain rfl := Option.some.inj h
    exact zw_iret hX hr dX17_failure_131 rfl ⟨rfl, rfl⟩
def zf_X17_failure_J120 (N : Nat)  (S : zm_S) : Option (Int32 × zm_S) := zf_X17_failure_J121 N (0 : Int32) S
set_option maxHeartbeats 4000000 in
set_option maxRecDepth 100000 in
theorem zt_X17_failure_J120 {p : Program} {l : Launch} {e : Env} {R : Room} {s : State} {m : MethodId} {args : Array Value} {below : List Frame} {meth : Method} {c : Code} {V : zm_V} {mc ms d rc rs : Nat} (hX : zm_X p R s m args meth c RX17 "failure" cX17_failure 4 zk_E V mc ms) (hr : meth.sig.returnType = (some .int)) (hR : R.frames = d ∧ R.locals = 64 * d) (hd : 2 ≤ d) {N : Nat}  {out : (Int32 × zm_S)} {S : zm_S} (h : zf_X17_failure_J120 N  S = some out) : zw p l e R s m args below meth c (vx_MQ below (zm_Qc zk_E V (zo_i out)) (zm_XC zk_E V zo_x) args s mc ms (fun q => V.2.2.2.1 ≤ q)) 4 zk_E V mc ms 120 [] [] S rc rs := by
  unfold zf_X17_failure_J120 at h
  refine zw_iconst (v := (0 : Int32)) hX dX17_failure_120 (by decide) ?_
  refine zw_sub (lv' := []) zs_nil ?_
  exact zt_X17_failure_J121 hX hr hR hd h
def zf_X17_failure_J116 (N : Nat)  (S : zm_S) : Option (Int32 × zm_S) := zf_X17_failure_J121 N (1 : Int32) S
set_option maxHeartbeats 4000000 in
set_option maxRecDepth 100000 in
theorem zt_X17_failure_J116 {p : Program} {l : Launch} {e : Env} {R : Room} {s : State} {m : MethodId} {args : Array Value} {below : List Frame} {meth : Method} {c : Code} {V : zm_V} {mc ms d rc rs : Nat} (hX : zm_X p R s m args meth c RX17 "failure" cX17_failure 4 zk_E V mc ms) (hr : meth.sig.returnType = (some .int)) (hR : R.frames = d ∧ R.locals = 64 * d) (hd : 2 ≤ d) {N : Nat}  {out : (Int32 × zm_S)} {S : zm_S} (h : zf_X17_failure_J116 N  S = some out) : zw p l e R s m args below meth c (vx_MQ below (zm_Qc zk_E V (zo_i out)) (zm_XC zk_E V zo_x) args s mc ms (fun q => V.2.2.2.1 ≤ q)) 4 zk_E V mc ms 116 [] [] S rc rs := by
  unfold zf_X17_failure_J116 at h
  refine zw_iconst (v := (1 : Int32)) hX dX17_failure_116 (by decide) ?_
  refine zw_goto (tgt := 121) hX dX17_failure_117 (by decide) ?_
  refine zw_sub (lv' := []) zs_nil ?_
  exact zt_X17_failure_J121 hX hr hR hd h
def zf_X17_failure_J90 (N : Nat) (a0 : Nat) (i1 : Int32) (i2 : Int32) (S : zm_S) : Option (Int32 × zm_S) := if i2 = (15 : Int32) then (zi S a0 17).bind (fun _ => (zf_X17_in N a0 i1 (0 : Int32) S).bind (fun r14 => if r14.1 < 0 then zf_X17_failure_J116 N  r14.2 else (zi r14.2 a0 17).bind (fun _ => (zf_X17_in N a0 i1 (0 : Int32) r14.2).bind (fun r17 => if r17.1 ≤ (7 : Int32) then zf_X17_failure_J120 N  r17.2 else zf_X17_failure_J116 N  r17.2)))) else zf_X17_failure_J120 N  S
set_option maxHeartbeats 4000000 in
set_option maxRecDepth 100000 in
theorem zt_X17_failure_J90 {p : Program} {l : Launch} {e : Env} {R : Room} {s : State} {m : MethodId} {args : Array Value} {below : List Frame} {meth : Method} {c : Code} {V : zm_V} {mc ms d rc rs : Nat} (hX : zm_X p R s m args meth c RX17 "failure" cX17_failure 4 zk_E V mc ms) (hr : meth.sig.returnType = (some .int)) (hR : R.frames = d ∧ R.locals = 64 * d) (hd : 2 ≤ d) {N : Nat} {a0 : Nat} {i1 : Int32} {i2 : Int32} {out : (Int32 × zm_S)} {S : zm_S} (h : zf_X17_failure_J90 N a0 i1 i2 S = some out) : zw p l e R s m args below meth c (vx_MQ below (zm_Qc zk_E V (zo_i out)) (zm_XC zk_E V zo_x) args s mc ms (fun q => V.2.2.2.1 ≤ q)) 4 zk_E V mc ms 90 [(0, .ref a0), (1, .int i1), (2, .int i2)] [] S rc rs := by
  unfold zf_X17_failure_J90 at h
  refine zw_iload_n hX dX17_failure_90 rfl ?_
  refine zw_bipush (v := (15 : Int32)) hX dX17_failure_91 (by decide) ?_
  refine zw_icmp_ne (tgt := 120) hX dX17_failure_93 (by decide) (fun c93 => ?_) (fun c93 => ?_)
  · rw [if_neg c93] at h
    refine zw_sub (lv' := []) zs_nil ?_
    exact zt_X17_failure_J120 hX hr hR hd h
  · rw [if_pos c93] at h
    refine zw_aload_n hX dX17_failure_96 rfl ?_
    refine zw_iload_n hX dX17_failure_97 rfl ?_
    refine zw_iconst (v := (0 : Int32)) hX dX17_failure_98 (by decide) ?_
    obtain ⟨_, gi, h⟩ := zb_some h
    obtain ⟨r14, g, h⟩ := zb_some h
    refine zc_Vi (as := [.int i1, .int (0 : Int32)]) hX gi (zt_X17_in (d := d - 1) (by omega) g) zl_X17_75 rfl dX17_failure_99 ⟨rfl, rfl, Nat.le_of_ble_eq_true rfl⟩ ⟨by omega, by omega⟩ ?_
    refine zw_if_lt (tgt := 116) hX dX17_failure_102 (by decide) (fun c102 => ?_) (fun c102 => ?_)
    · rw [if_pos c102] at h
      refine zw_sub (lv' := []) zs_nil ?_
      exact zt_X17_failure_J116 hX hr hR hd h
    · rw [if_neg c102] at h
      refine zw_aload_n hX dX17_failure_105 rfl ?_
      refine zw_iload_n hX dX17_failure_106 rfl ?_
      refine zw_iconst (v := (0 : Int32)) hX dX17_failure_107 (by decide) ?_
      obtain ⟨_, gi, h⟩ := zb_some h
      obtain ⟨r17, g, h⟩ := zb_some h
      refine zc_Vi (as := [.int i1, .int (0 : Int32)]) hX gi (zt_X17_in (d := d - 1) (by omega) g) zl_X17_75 rfl dX17_failure_108 ⟨rfl, rfl, Nat.le_of_ble_eq_true rfl⟩ ⟨by omega, by omega⟩ ?_
      refine zw_bipush (v := (7 : Int32)) hX dX17_failure_111 (by decide) ?_
      refine zw_icmp_le (tgt := 120) hX dX17_failure_113 (by decide) (fun c113 => ?_) (fun c113 => ?_)
      · rw [if_pos c113] at h
        refine zw_sub (lv' := []) zs_nil ?_
        exact zt_X17_failure_J120 hX hr hR hd h
      · rw [if_neg c113] at h
        refine zw_sub (lv' := []) zs_nil ?_
        exact zt_X17_failure_J116 hX hr hR hd h
def zf_X17_failure_J66 (N : Nat) (a0 : Nat) (i1 : Int32) (i2 : Int32) (S : zm_S) : Option (Int32 × zm_S) := if i2 = 0 then (zg_r S a0 17 2).bind (fun b18 => (za_x S 0 b18 i1).bind (fun v19 => if v19 < 0 then zf_X17_failure_J116 N  S else (zg_r S a0 17 2).bind (fun b20 => (za_x S 0 b20 i1).bind (fun v21 => if (9 : Int32) < v21 then zf_X17_failure_J116 N  S else zf_X17_failure_J90 N a0 i1 i2 S)))) else zf_X17_failure_J90 N a0 i1 i2 S
set_option maxHeartbeats 4000000 in
set_option maxRecDepth 100000 in
theorem zt_X17_failure_J66 {p : Program} {l : Launch} {e : Env} {R : Room} {s : State} {m : MethodId} {args : Array Value} {below : List Frame} {meth : Method} {c : Code} {V : zm_V} {mc ms d rc rs : Nat} (hX : zm_X p R s m args meth c RX17 "failure" cX17_failure 4 zk_E V mc ms) (hr : meth.sig.returnType = (some .int)) (hR : R.frames = d ∧ R.locals = 64 * d) (hd : 2 ≤ d) {N : Nat} {a0 : Nat} {i1 : Int32} {i2 : Int32} {out : (Int32 × zm_S)} {S : zm_S} (h : zf_X17_failure_J66 N a0 i1 i2 S = some out) : zw p l e R s m args below meth c (vx_MQ below (zm_Qc zk_E V (zo_i out)) (zm_XC zk_E V zo_x) args s mc ms (fun q => V.2.2.2.1 ≤ q)) 4 zk_E V mc ms 66 [(0, .ref a0), (1, .int i1), (2, .int i2)] [] S rc rs := by
  unfold zf_X17_failure_J66 at h
  refine zw_iload_n hX dX17_failure_66 rfl ?_
  refine zw_if_ne (tgt := 90) hX dX17_failure_67 (by decide) (fun c67 => ?_) (fun c67 => ?_)
  · rw [if_neg c67] at h
    refine zw_sub (lv' := [(0, .ref a0), (1, .int i1), (2, .int i2)]) (List.forall_mem_cons.mpr ⟨rfl, (List.forall_mem_cons.mpr ⟨rfl, (List.forall_mem_cons.mpr ⟨rfl, zs_nil⟩)⟩)⟩) ?_
    exact zt_X17_failure_J90 hX hr hR hd h
  · rw [if_pos c67] at h
    refine zw_aload_n hX dX17_failure_70 rfl ?_
    obtain ⟨b18, g, h⟩ := zb_some h
    refine zw_getr hX zl_X17_13 dX17_failure_71 g ?_
    refine zw_iload_n hX dX17_failure_74 rfl ?_
    obtain ⟨v19, g, h⟩ := zb_some h
    refine zw_xi hX dX17_failure_75 g ?_
    refine zw_if_lt (tgt := 116) hX dX17_failure_76 (by decide) (fun c76 => ?_) (fun c76 => ?_)
    · rw [if_pos c76] at h
      refine zw_sub (lv' := []) zs_nil ?_
      exact zt_X17_failure_J116 hX hr hR hd h
    · rw [if_neg c76] at h
      refine zw_aload_n hX dX17_failure_79 rfl ?_
      obtain ⟨b20, g, h⟩ := zb_some h
      refine zw_getr hX zl_X17_13 dX17_failure_80 g ?_
      refine zw_iload_n hX dX17_failure_83 rfl ?_
      obtain ⟨v21, g, h⟩ := zb_some h
      refine zw_xi hX dX17_failure_84 g ?_
      refine zw_bipush (v := (9 : Int32)) hX dX17_failure_85 (by decide) ?_
      refine zw_icmp_gt (tgt := 116) hX dX17_failure_87 (by decide) (fun c87 => ?_) (fun c87 => ?_)
      · rw [if_pos c87] at h
        refine zw_sub (lv' := []) zs_nil ?_
        exact zt_X17_failure_J116 hX hr hR hd h
      · rw [if_neg c87] at h
        refine zw_sub (lv' := [(0, .ref a0), (1, .int i1), (2, .int i2)]) (List.forall_mem_cons.mpr ⟨rfl, (List.forall_mem_cons.mpr ⟨rfl, (List.forall_mem_cons.mpr ⟨rfl, zs_nil⟩)⟩)⟩) ?_
        exact zt_X17_failure_J90 hX hr hR hd h
def zf_X17_failure_J55 (N : Nat) (a0 : Nat) (i1 : Int32) (i2 : Int32) (S : zm_S) : Option (Int32 × zm_S) := (zi S a0 17).bind (fun _ => (zf_X17_in N a0 i1 (1 : Int32) S).bind (fun r11 => if r11.1 = 0 then some ((1 : Int32), r11.2) else zf_X17_failure_J66 N a0 i1 i2 r11.2))
set_option maxHeartbeats 4000000 in
set_option maxRecDepth 100000 in
theorem zt_X17_failure_J55 {p : Program} {l : Launch} {e : Env} {R : Room} {s : State} {m : MethodId} {args : Array Value} {below : List Frame} {meth : Method} {c : Code} {V : zm_V} {mc ms d rc rs : Nat} (hX : zm_X p R s m args meth c RX17 "failure" cX17_failure 4 zk_E V mc ms) (hr : meth.sig.returnType = (some .int)) (hR : R.frames = d ∧ R.locals = 64 * d) (hd : 2 ≤ d) {N : Nat} {a0 : Nat} {i1 : Int32} {i2 : Int32} {out : (Int32 × zm_S)} {S : zm_S} (h : zf_X17_failure_J55 N a0 i1 i2 S = some out) : zw p l e R s m args below meth c (vx_MQ below (zm_Qc zk_E V (zo_i out)) (zm_XC zk_E V zo_x) args s mc ms (fun q => V.2.2.2.1 ≤ q)) 4 zk_E V mc ms 55 [(0, .ref a0), (1, .int i1), (2, .int i2)] [] S rc rs := by
  unfold zf_X17_failure_J55 at h
  refine zw_aload_n hX dX17_failure_55 rfl ?_
  refine zw_iload_n hX dX17_failure_56 rfl ?_
  refine zw_iconst (v := (1 : Int32)) hX dX17_failure_57 (by decide) ?_
  obtain ⟨_, gi, h⟩ := zb_some h
  obtain ⟨r11, g, h⟩ := zb_some h
  refine zc_Vi (as := [.int i1, .int (1 : Int32)]) hX gi (zt_X17_in (d := d - 1) (by omega) g) zl_X17_75 rfl dX17_failure_58 ⟨rfl, rfl, Nat.le_of_ble_eq_true rfl⟩ ⟨by omega, by omega⟩ ?_
  refine zw_if_ne (tgt := 66) hX dX17_failure_61 (by decide) (fun c61 => ?_) (fun c61 => ?_)
  · rw [if_neg c61] at h
    refine zw_sub (lv' := [(0, .ref a0), (1, .int i1), (2, .int i2)]) (List.forall_mem_cons.mpr ⟨rfl, (List.forall_mem_cons.mpr ⟨rfl, (List.forall_mem_cons.mpr ⟨rfl, zs_nil⟩)⟩)⟩) ?_
    exact zt_X17_failure_J66 hX hr hR hd h
  · rw [if_pos c61] at h
    refine zw_iconst (v := (1 : Int32)) hX dX17_failure_64 (by decide) ?_
    obtain rfl := Option.some.inj h
    exact zw_iret hX hr dX17_failure_65 rfl ⟨rfl, rfl⟩
def zf_X17_failure_J44 (N : Nat) (a0 : Nat) (i1 : Int32) (i2 : Int32) (S : zm_S) : Option (Int32 × zm_S) := if i2 = (5 : Int32) then zf_X17_failure_J55 N a0 i1 i2 S else if i2 = (6 : Int32) then zf_X17_failure_J55 N a0 i1 i2 S else zf_X17_failure_J66 N a0 i1 i2 S
set_option maxHeartbeats 4000000 in
set_option maxRecDepth 100000 in
theorem zt_X17_failure_J44 {p : Program} {l : Launch} {e : Env} {R : Room} {s : State} {m : MethodId} {args : Array Value} {below : List Frame} {meth : Method} {c : Code} {V : zm_V} {mc ms d rc rs : Nat} (hX : zm_X p R s m args meth c RX17 "failure" cX17_failure 4 zk_E V mc ms) (hr : meth.sig.returnType = (some .int)) (hR : R.frames = d ∧ R.locals = 64 * d) (hd : 2 ≤ d) {N : Nat} {a0 : Nat} {i1 : Int32} {i2 : Int32} {out : (Int32 × zm_S)} {S : zm_S} (h : zf_X17_failure_J44 N a0 i1 i2 S = some out) : zw p l e R s m args below meth c (vx_MQ below (zm_Qc zk_E V (zo_i out)) (zm_XC zk_E V zo_x) args s mc ms (fun q => V.2.2.2.1 ≤ q)) 4 zk_E V mc ms 44 [(0, .ref a0), (1, .int i1), (2, .int i2)] [] S rc rs := by
  unfold zf_X17_failure_J44 at h
  refine zw_iload_n hX dX17_failure_44 rfl ?_
  refine zw_iconst (v := (5 : Int32)) hX dX17_failure_45 (by decide) ?_
  refine zw_icmp_eq (tgt := 55) hX dX17_failure_46 (by decide) (fun c46 => ?_) (fun c46 => ?_)
  · rw [if_pos c46] at h
    refine zw_sub (lv' := [(0, .ref a0), (1, .int i1), (2, .int i2)]) (List.forall_mem_cons.mpr ⟨rfl, (List.forall_mem_cons.mpr ⟨rfl, (List.forall_mem_cons.mpr ⟨rfl, zs_nil⟩)⟩)⟩) ?_
    exact zt_X17_failure_J55 hX hr hR hd h
  · rw [if_neg c46] at h
    refine zw_iload_n hX dX17_failure_49 rfl ?_
    refine zw_bipush (v := (6 : Int32)) hX dX17_failure_50 (by decide) ?_
    refine zw_icmp_ne (tgt := 66) hX dX17_failure_52 (by decide) (fun c52 => ?_) (fun c52 => ?_)
    · rw [if_neg c52] at h
      refine zw_sub (lv' := [(0, .ref a0), (1, .int i1), (2, .int i2)]) (List.forall_mem_cons.mpr ⟨rfl, (List.forall_mem_cons.mpr ⟨rfl, (List.forall_mem_cons.mpr ⟨rfl, zs_nil⟩)⟩)⟩) ?_
      exact zt_X17_failure_J66 hX hr hR hd h
    · rw [if_pos c52] at h
      refine zw_sub (lv' := [(0, .ref a0), (1, .int i1), (2, .int i2)]) (List.forall_mem_cons.mpr ⟨rfl, (List.forall_mem_cons.mpr ⟨rfl, (List.forall_mem_cons.mpr ⟨rfl, zs_nil⟩)⟩)⟩) ?_
      exact zt_X17_failure_J55 hX hr hR hd h
def zf_X17_failure (N : Nat) (a0 : Nat) (i1 : Int32) (S : zm_S) : Option (Int32 × zm_S) := (zg_r S a0 17 1).bind (fun b1 => (za_x S 0 b1 i1).bind (fun v2 => (zf_X17_failure_L9 N N a0 i1 v2 (0 : Int32) S).bind (fun r => match r with | .inl o => some o | .inr (_, S8) => zf_X17_failure_J44 N a0 i1 v2 S8)))
set_option maxHeartbeats 4000000 in
set_option maxRecDepth 100000 in
theorem zt_X17_failure {l : Launch} {V : zm_V} {N : Nat} {S : zm_S} {out : (Int32 × zm_S)} {d : Nat} {a0 : Nat} {i1 : Int32} (hd : 2 ≤ d) (h : zf_X17_failure N a0 i1 S = some out) : zm_Met l zk_E V yX17_failure (.code yX17_failure cX17_failure 4 (some .int)) d [.ref a0, .int i1] S 0 0 (zo_i out) zo_x := by
  refine zm_of (by decide +kernel) (Nat.le_of_ble_eq_true rfl) ?_
  intro p e R s m args below meth c hRR hX hr hxt
  have hR : R.frames = d ∧ R.locals = 64 * d := by rw [hRR]; exact ⟨rfl, rfl⟩
  have hX : zm_X p R s m args meth c RX17 "failure" cX17_failure 4 zk_E V 0 0 := hX
  unfold zf_X17_failure at h
  refine zw_sub (lv' := [(0, .ref a0), (1, .int i1)]) (List.forall_mem_cons.mpr ⟨rfl, (List.forall_mem_cons.mpr ⟨rfl, zs_nil⟩)⟩) ?_
  refine zw_aload_n hX dX17_failure_0 rfl ?_
  obtain ⟨b1, g, h⟩ := zb_some h
  refine zw_getr hX zl_X17_7 dX17_failure_1 g ?_
  refine zw_iload_n hX dX17_failure_4 rfl ?_
  obtain ⟨v2, g, h⟩ := zb_some h
  refine zw_xi hX dX17_failure_5 g ?_
  refine zw_istore_n hX dX17_failure_6 (by decide) ?_
  refine zw_iconst (v := (0 : Int32)) hX dX17_failure_7 (by decide) ?_
  refine zw_istore_n hX dX17_failure_8 (by decide) ?_
  obtain ⟨r, g, h⟩ := zb_some h
  refine zw_sub (lv' := [(0, .ref a0), (1, .int i1), (2, .int v2), (3, .int (0 : Int32))]) (List.forall_mem_cons.mpr ⟨rfl, (List.forall_mem_cons.mpr ⟨rfl, (List.forall_mem_cons.mpr ⟨rfl, (List.forall_mem_cons.mpr ⟨rfl, zs_nil⟩)⟩)⟩)⟩) ?_
  refine zt_X17_failure_L9 hX hr hR hd (res := r) (out := out) a0 i1 v2 ?_ ?_ N _ _ g
  · intro o ho
    subst ho
    exact Option.some.inj h
  · intro  S8 hx
    subst hx
    try dsimp only at h
    refine zw_sub (lv' := [(0, .ref a0), (1, .int i1), (2, .int v2)]) (List.forall_mem_cons.mpr ⟨rfl, (List.forall_mem_cons.mpr ⟨rfl, (List.forall_mem_cons.mpr ⟨rfl, zs_nil⟩)⟩)⟩) ?_
    exact zt_X17_failure_J44 hX hr hR hd h
