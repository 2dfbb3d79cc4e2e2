/-! ===== functions of methods, by program (wip/whole/tools/gen11.py) ===== -/
theorem dX0_joinAgain_0 : decode cX0_joinAgain 0 = .ok (.aload_n 0, 1) := by decide +kernel
theorem dX0_joinAgain_1 : decode cX0_joinAgain 1 = .ok (.iload_n 1, 1) := by decide +kernel
theorem dX0_joinAgain_2 : decode cX0_joinAgain 2 = .ok (.invokevirtual 120, 3) := by decide +kernel
theorem dX0_joinAgain_5 : decode cX0_joinAgain 5 = .ok (.ifCond .ne 5, 3) := by decide +kernel
theorem dX0_joinAgain_10 : decode cX0_joinAgain 10 = .ok (.aload_n 0, 1) := by decide +kernel
theorem dX0_joinAgain_11 : decode cX0_joinAgain 11 = .ok (.iload_n 1, 1) := by decide +kernel
theorem dX0_joinAgain_12 : decode cX0_joinAgain 12 = .ok (.bipush 11, 2) := by decide +kernel
theorem dX0_joinAgain_14 : decode cX0_joinAgain 14 = .ok (.iconst (-1), 1) := by decide +kernel
theorem dX0_joinAgain_15 : decode cX0_joinAgain 15 = .ok (.invokevirtual 94, 3) := by decide +kernel
theorem dX0_joinAgain_18 : decode cX0_joinAgain 18 = .ok (.aload_n 0, 1) := by decide +kernel
theorem dX0_joinAgain_19 : decode cX0_joinAgain 19 = .ok (.iload_n 1, 1) := by decide +kernel
theorem dX0_joinAgain_20 : decode cX0_joinAgain 20 = .ok (.bipush 12, 2) := by decide +kernel
theorem dX0_joinAgain_22 : decode cX0_joinAgain 22 = .ok (.invokevirtual 117, 3) := by decide +kernel
theorem dX0_joinAgain_25 : decode cX0_joinAgain 25 = .ok (.istore_n 3, 1) := by decide +kernel
theorem dX0_joinAgain_26 : decode cX0_joinAgain 26 = .ok (.aload_n 0, 1) := by decide +kernel
theorem dX0_joinAgain_27 : decode cX0_joinAgain 27 = .ok (.iload_n 1, 1) := by decide +kernel
theorem dX0_joinAgain_28 : decode cX0_joinAgain 28 = .ok (.bipush 12, 2) := by decide +kernel
theorem dX0_joinAgain_30 : decode cX0_joinAgain 30 = .ok (.iconst 0, 1) := by decide +kernel
theorem dX0_joinAgain_31 : decode cX0_joinAgain 31 = .ok (.invokevirtual 94, 3) := by decide +kernel
theorem dX0_joinAgain_34 : decode cX0_joinAgain 34 = .ok (.iconst 0, 1) := by decide +kernel
theorem dX0_joinAgain_35 : decode cX0_joinAgain 35 = .ok (.istore 4, 2) := by decide +kernel
theorem dX0_joinAgain_37 : decode cX0_joinAgain 37 = .ok (.iload 4, 2) := by decide +kernel
theorem dX0_joinAgain_39 : decode cX0_joinAgain 39 = .ok (.iload_n 3, 1) := by decide +kernel
theorem dX0_joinAgain_40 : decode cX0_joinAgain 40 = .ok (.if_icmp .ge 58, 3) := by decide +kernel
theorem dX0_joinAgain_43 : decode cX0_joinAgain 43 = .ok (.iload 4, 2) := by decide +kernel
theorem dX0_joinAgain_45 : decode cX0_joinAgain 45 = .ok (.bipush 20, 2) := by decide +kernel
theorem dX0_joinAgain_47 : decode cX0_joinAgain 47 = .ok (.if_icmp .ge 51, 3) := by decide +kernel
theorem dX0_joinAgain_50 : decode cX0_joinAgain 50 = .ok (.iconst 3, 1) := by decide +kernel
theorem dX0_joinAgain_51 : decode cX0_joinAgain 51 = .ok (.iload_n 1, 1) := by decide +kernel
theorem dX0_joinAgain_52 : decode cX0_joinAgain 52 = .ok (.bipush 20, 2) := by decide +kernel
theorem dX0_joinAgain_54 : decode cX0_joinAgain 54 = .ok (.imul, 1) := by decide +kernel
theorem dX0_joinAgain_55 : decode cX0_joinAgain 55 = .ok (.iload 4, 2) := by decide +kernel
theorem dX0_joinAgain_57 : decode cX0_joinAgain 57 = .ok (.iadd, 1) := by decide +kernel
theorem dX0_joinAgain_58 : decode cX0_joinAgain 58 = .ok (.imul, 1) := by decide +kernel
theorem dX0_joinAgain_59 : decode cX0_joinAgain 59 = .ok (.istore 5, 2) := by decide +kernel
theorem dX0_joinAgain_61 : decode cX0_joinAgain 61 = .ok (.aload_n 0, 1) := by decide +kernel
theorem dX0_joinAgain_62 : decode cX0_joinAgain 62 = .ok (.iload_n 1, 1) := by decide +kernel
theorem dX0_joinAgain_63 : decode cX0_joinAgain 63 = .ok (.aload_n 0, 1) := by decide +kernel
theorem dX0_joinAgain_64 : decode cX0_joinAgain 64 = .ok (.getfield 15, 3) := by decide +kernel
theorem dX0_joinAgain_67 : decode cX0_joinAgain 67 = .ok (.iload 5, 2) := by decide +kernel
theorem dX0_joinAgain_69 : decode cX0_joinAgain 69 = .ok (.iaload, 1) := by decide +kernel
theorem dX0_joinAgain_70 : decode cX0_joinAgain 70 = .ok (.aload_n 0, 1) := by decide +kernel
theorem dX0_joinAgain_71 : decode cX0_joinAgain 71 = .ok (.getfield 15, 3) := by decide +kernel
theorem dX0_joinAgain_74 : decode cX0_joinAgain 74 = .ok (.iload 5, 2) := by decide +kernel
theorem dX0_joinAgain_76 : decode cX0_joinAgain 76 = .ok (.iconst 1, 1) := by decide +kernel
theorem dX0_joinAgain_77 : decode cX0_joinAgain 77 = .ok (.iadd, 1) := by decide +kernel
theorem dX0_joinAgain_78 : decode cX0_joinAgain 78 = .ok (.iaload, 1) := by decide +kernel
theorem dX0_joinAgain_79 : decode cX0_joinAgain 79 = .ok (.aload_n 0, 1) := by decide +kernel
theorem dX0_joinAgain_80 : decode cX0_joinAgain 80 = .ok (.getfield 15, 3) := by decide +kernel
theorem dX0_joinAgain_83 : decode cX0_joinAgain 83 = .ok (.iload 5, 2) := by decide +kernel
theorem dX0_joinAgain_85 : decode cX0_joinAgain 85 = .ok (.iconst 2, 1) := by decide +kernel
theorem dX0_joinAgain_86 : decode cX0_joinAgain 86 = .ok (.iadd, 1) := by decide +kernel
theorem dX0_joinAgain_87 : decode cX0_joinAgain 87 = .ok (.iaload, 1) := by decide +kernel
theorem dX0_joinAgain_88 : decode cX0_joinAgain 88 = .ok (.iload_n 2, 1) := by decide +kernel
theorem dX0_joinAgain_89 : decode cX0_joinAgain 89 = .ok (.invokevirtual 150, 3) := by decide +kernel
theorem dX0_joinAgain_92 : decode cX0_joinAgain 92 = .ok (.iinc 4 1, 3) := by decide +kernel
theorem dX0_joinAgain_95 : decode cX0_joinAgain 95 = .ok (.goto (-58), 3) := by decide +kernel
theorem dX0_joinAgain_98 : decode cX0_joinAgain 98 = .ok (.iload_n 3, 1) := by decide +kernel
theorem dX0_joinAgain_99 : decode cX0_joinAgain 99 = .ok (.ireturn, 1) := by decide +kernel
theorem dX0_joinAgain_8 : decode cX0_joinAgain 8 = .ok (.iconst 0, 1) := by decide +kernel
theorem dX0_joinAgain_9 : decode cX0_joinAgain 9 = .ok (.ireturn, 1) := by decide +kernel
theorem dX0_keptAgainst_0 : decode cX0_keptAgainst 0 = .ok (.aload_n 0, 1) := by decide +kernel
theorem dX0_keptAgainst_1 : decode cX0_keptAgainst 1 = .ok (.getfield 168, 3) := by decide +kernel
theorem dX0_keptAgainst_4 : decode cX0_keptAgainst 4 = .ok (.bipush 100, 2) := by decide +kernel
theorem dX0_keptAgainst_6 : decode cX0_keptAgainst 6 = .ok (.invokestatic 171, 3) := by decide +kernel
theorem dX0_keptAgainst_9 : decode cX0_keptAgainst 9 = .ok (.ireturn, 1) := by decide +kernel
theorem dX0_againstFact_0 : decode cX0_againstFact 0 = .ok (.aload_n 0, 1) := by decide +kernel
theorem dX0_againstFact_1 : decode cX0_againstFact 1 = .ok (.getfield 33, 3) := by decide +kernel
theorem dX0_againstFact_4 : decode cX0_againstFact 4 = .ok (.iconst 4, 1) := by decide +kernel
theorem dX0_againstFact_5 : decode cX0_againstFact 5 = .ok (.iload_n 1, 1) := by decide +kernel
theorem dX0_againstFact_6 : decode cX0_againstFact 6 = .ok (.imul, 1) := by decide +kernel
theorem dX0_againstFact_7 : decode cX0_againstFact 7 = .ok (.iload_n 2, 1) := by decide +kernel
theorem dX0_againstFact_8 : decode cX0_againstFact 8 = .ok (.iadd, 1) := by decide +kernel
theorem dX0_againstFact_9 : decode cX0_againstFact 9 = .ok (.iconst 1, 1) := by decide +kernel
theorem dX0_againstFact_10 : decode cX0_againstFact 10 = .ok (.isub, 1) := by decide +kernel
theorem dX0_againstFact_11 : decode cX0_againstFact 11 = .ok (.iaload, 1) := by decide +kernel
theorem dX0_againstFact_12 : decode cX0_againstFact 12 = .ok (.ireturn, 1) := by decide +kernel
theorem dX0_setMoment_0 : decode cX0_setMoment 0 = .ok (.aload_n 0, 1) := by decide +kernel
theorem dX0_setMoment_1 : decode cX0_setMoment 1 = .ok (.iload_n 1, 1) := by decide +kernel
theorem dX0_setMoment_2 : decode cX0_setMoment 2 = .ok (.putfield 179, 3) := by decide +kernel
theorem dX0_setMoment_5 : decode cX0_setMoment 5 = .ok (.aload_n 0, 1) := by decide +kernel
theorem dX0_setMoment_6 : decode cX0_setMoment 6 = .ok (.iload_n 2, 1) := by decide +kernel
theorem dX0_setMoment_7 : decode cX0_setMoment 7 = .ok (.putfield 182, 3) := by decide +kernel
theorem dX0_setMoment_10 : decode cX0_setMoment 10 = .ok (.return_, 1) := by decide +kernel
theorem dX10_roomOf_0 : decode cX10_roomOf 0 = .ok (.aload_n 0, 1) := by decide +kernel
theorem dX10_roomOf_1 : decode cX10_roomOf 1 = .ok (.getfield 29, 3) := by decide +kernel
theorem dX10_roomOf_4 : decode cX10_roomOf 4 = .ok (.iload_n 1, 1) := by decide +kernel
theorem dX10_roomOf_5 : decode cX10_roomOf 5 = .ok (.aaload, 1) := by decide +kernel
theorem dX10_roomOf_6 : decode cX10_roomOf 6 = .ok (.iconst 0, 1) := by decide +kernel
theorem dX10_roomOf_7 : decode cX10_roomOf 7 = .ok (.iaload, 1) := by decide +kernel
theorem dX10_roomOf_8 : decode cX10_roomOf 8 = .ok (.ireturn, 1) := by decide +kernel
theorem dX0_isElsewhere_0 : decode cX0_isElsewhere 0 = .ok (.aload_n 0, 1) := by decide +kernel
theorem dX0_isElsewhere_1 : decode cX0_isElsewhere 1 = .ok (.iload_n 2, 1) := by decide +kernel
theorem dX0_isElsewhere_2 : decode cX0_isElsewhere 2 = .ok (.iconst 0, 1) := by decide +kernel
theorem dX0_isElsewhere_3 : decode cX0_isElsewhere 3 = .ok (.invokevirtual 117, 3) := by decide +kernel
theorem dX0_isElsewhere_6 : decode cX0_isElsewhere 6 = .ok (.istore 4, 2) := by decide +kernel
theorem dX0_isElsewhere_8 : decode cX0_isElsewhere 8 = .ok (.iload_n 3, 1) := by decide +kernel
theorem dX0_isElsewhere_9 : decode cX0_isElsewhere 9 = .ok (.iload 4, 2) := by decide +kernel
theorem dX0_isElsewhere_11 : decode cX0_isElsewhere 11 = .ok (.if_icmp .ne 12, 3) := by decide +kernel
theorem dX0_isElsewhere_23 : decode cX0_isElsewhere 23 = .ok (.iload 4, 2) := by decide +kernel
theorem dX0_isElsewhere_25 : decode cX0_isElsewhere 25 = .ok (.istore 5, 2) := by decide +kernel
theorem dX0_isElsewhere_27 : decode cX0_isElsewhere 27 = .ok (.aload_n 0, 1) := by decide +kernel
theorem dX0_isElsewhere_28 : decode cX0_isElsewhere 28 = .ok (.getfield 44, 3) := by decide +kernel
theorem dX0_isElsewhere_31 : decode cX0_isElsewhere 31 = .ok (.iload_n 1, 1) := by decide +kernel
theorem dX0_isElsewhere_32 : decode cX0_isElsewhere 32 = .ok (.invokevirtual 207, 3) := by decide +kernel
theorem dX0_isElsewhere_35 : decode cX0_isElsewhere 35 = .ok (.iload 5, 2) := by decide +kernel
theorem dX0_isElsewhere_37 : decode cX0_isElsewhere 37 = .ok (.if_icmp .eq 7, 3) := by decide +kernel
theorem dX0_isElsewhere_44 : decode cX0_isElsewhere 44 = .ok (.iconst 0, 1) := by decide +kernel
theorem dX0_isElsewhere_45 : decode cX0_isElsewhere 45 = .ok (.ireturn, 1) := by decide +kernel
theorem dX0_isElsewhere_40 : decode cX0_isElsewhere 40 = .ok (.iconst 1, 1) := by decide +kernel
theorem dX0_isElsewhere_41 : decode cX0_isElsewhere 41 = .ok (.goto 4, 3) := by decide +kernel
theorem dX0_isElsewhere_14 : decode cX0_isElsewhere 14 = .ok (.aload_n 0, 1) := by decide +kernel
theorem dX0_isElsewhere_15 : decode cX0_isElsewhere 15 = .ok (.iload_n 2, 1) := by decide +kernel
theorem dX0_isElsewhere_16 : decode cX0_isElsewhere 16 = .ok (.iconst 1, 1) := by decide +kernel
theorem dX0_isElsewhere_17 : decode cX0_isElsewhere 17 = .ok (.invokevirtual 117, 3) := by decide +kernel
theorem dX0_isElsewhere_20 : decode cX0_isElsewhere 20 = .ok (.goto 5, 3) := by decide +kernel
theorem dX0_isLocked_0 : decode cX0_isLocked 0 = .ok (.iconst 0, 1) := by decide +kernel
theorem dX0_isLocked_1 : decode cX0_isLocked 1 = .ok (.istore_n 2, 1) := by decide +kernel
theorem dX0_isLocked_2 : decode cX0_isLocked 2 = .ok (.iload_n 2, 1) := by decide +kernel
theorem dX0_isLocked_3 : decode cX0_isLocked 3 = .ok (.aload_n 0, 1) := by decide +kernel
theorem dX0_isLocked_4 : decode cX0_isLocked 4 = .ok (.getfield 56, 3) := by decide +kernel
theorem dX0_isLocked_7 : decode cX0_isLocked 7 = .ok (.if_icmp .ge 30, 3) := by decide +kernel
theorem dX0_isLocked_10 : decode cX0_isLocked 10 = .ok (.aload_n 0, 1) := by decide +kernel
theorem dX0_isLocked_11 : decode cX0_isLocked 11 = .ok (.iload_n 1, 1) := by decide +kernel
theorem dX0_isLocked_12 : decode cX0_isLocked 12 = .ok (.iload_n 2, 1) := by decide +kernel
theorem dX0_isLocked_13 : decode cX0_isLocked 13 = .ok (.invokevirtual 141, 3) := by decide +kernel
theorem dX0_isLocked_16 : decode cX0_isLocked 16 = .ok (.ifCond .eq 15, 3) := by decide +kernel
theorem dX0_isLocked_31 : decode cX0_isLocked 31 = .ok (.iinc 2 1, 3) := by decide +kernel
theorem dX0_isLocked_34 : decode cX0_isLocked 34 = .ok (.goto (-32), 3) := by decide +kernel
theorem dX0_isLocked_19 : decode cX0_isLocked 19 = .ok (.aload_n 0, 1) := by decide +kernel
theorem dX0_isLocked_20 : decode cX0_isLocked 20 = .ok (.iload_n 2, 1) := by decide +kernel
theorem dX0_isLocked_21 : decode cX0_isLocked 21 = .ok (.bipush 8, 2) := by decide +kernel
theorem dX0_isLocked_23 : decode cX0_isLocked 23 = .ok (.invokevirtual 117, 3) := by decide +kernel
theorem dX0_isLocked_26 : decode cX0_isLocked 26 = .ok (.ifCond .eq 5, 3) := by decide +kernel
theorem dX0_isLocked_29 : decode cX0_isLocked 29 = .ok (.iconst 1, 1) := by decide +kernel
theorem dX0_isLocked_30 : decode cX0_isLocked 30 = .ok (.ireturn, 1) := by decide +kernel
theorem dX0_isLocked_37 : decode cX0_isLocked 37 = .ok (.iconst 0, 1) := by decide +kernel
theorem dX0_isLocked_38 : decode cX0_isLocked 38 = .ok (.ireturn, 1) := by decide +kernel
theorem dX0_refusal_0 : decode cX0_refusal 0 = .ok (.aload_n 0, 1) := by decide +kernel
theorem dX0_refusal_1 : decode cX0_refusal 1 = .ok (.getfield 24, 3) := by decide +kernel
theorem dX0_refusal_4 : decode cX0_refusal 4 = .ok (.iload_n 1, 1) := by decide +kernel
theorem dX0_refusal_5 : decode cX0_refusal 5 = .ok (.aaload, 1) := by decide +kernel
theorem dX0_refusal_6 : decode cX0_refusal 6 = .ok (.iconst 0, 1) := by decide +kernel
theorem dX0_refusal_7 : decode cX0_refusal 7 = .ok (.iaload, 1) := by decide +kernel
theorem dX0_refusal_8 : decode cX0_refusal 8 = .ok (.istore 4, 2) := by decide +kernel
theorem dX0_refusal_10 : decode cX0_refusal 10 = .ok (.aload_n 0, 1) := by decide +kernel
theorem dX0_refusal_11 : decode cX0_refusal 11 = .ok (.getfield 44, 3) := by decide +kernel
theorem dX0_refusal_14 : decode cX0_refusal 14 = .ok (.iload 4, 2) := by decide +kernel
theorem dX0_refusal_16 : decode cX0_refusal 16 = .ok (.invokevirtual 154, 3) := by decide +kernel
theorem dX0_refusal_19 : decode cX0_refusal 19 = .ok (.ifCond .eq 6, 3) := by decide +kernel
theorem dX0_refusal_25 : decode cX0_refusal 25 = .ok (.aload_n 0, 1) := by decide +kernel
theorem dX0_refusal_26 : decode cX0_refusal 26 = .ok (.getfield 182, 3) := by decide +kernel
theorem dX0_refusal_29 : decode cX0_refusal 29 = .ok (.ifCond .eq 20, 3) := by decide +kernel
theorem dX0_refusal_49 : decode cX0_refusal 49 = .ok (.aload_n 0, 1) := by decide +kernel
theorem dX0_refusal_50 : decode cX0_refusal 50 = .ok (.iload_n 2, 1) := by decide +kernel
theorem dX0_refusal_51 : decode cX0_refusal 51 = .ok (.invokevirtual 120, 3) := by decide +kernel
theorem dX0_refusal_54 : decode cX0_refusal 54 = .ok (.ifCond .eq 13, 3) := by decide +kernel
theorem dX0_refusal_67 : decode cX0_refusal 67 = .ok (.aload_n 0, 1) := by decide +kernel
theorem dX0_refusal_68 : decode cX0_refusal 68 = .ok (.getfield 126, 3) := by decide +kernel
theorem dX0_refusal_71 : decode cX0_refusal 71 = .ok (.istore 5, 2) := by decide +kernel
theorem dX0_refusal_73 : decode cX0_refusal 73 = .ok (.aload_n 0, 1) := by decide +kernel
theorem dX0_refusal_74 : decode cX0_refusal 74 = .ok (.iload_n 1, 1) := by decide +kernel
theorem dX0_refusal_75 : decode cX0_refusal 75 = .ok (.aload_n 0, 1) := by decide +kernel
theorem dX0_refusal_76 : decode cX0_refusal 76 = .ok (.getfield 179, 3) := by decide +kernel
theorem dX0_refusal_79 : decode cX0_refusal 79 = .ok (.bipush 60, 2) := by decide +kernel
theorem dX0_refusal_81 : decode cX0_refusal 81 = .ok (.idiv, 1) := by decide +kernel
theorem dX0_refusal_82 : decode cX0_refusal 82 = .ok (.iload 5, 2) := by decide +kernel
theorem dX0_refusal_84 : decode cX0_refusal 84 = .ok (.invokevirtual 197, 3) := by decide +kernel
theorem dX0_refusal_87 : decode cX0_refusal 87 = .ok (.istore 6, 2) := by decide +kernel
theorem dX0_refusal_89 : decode cX0_refusal 89 = .ok (.iload 6, 2) := by decide +kernel
theorem dX0_refusal_91 : decode cX0_refusal 91 = .ok (.ifCond .ne 25, 3) := by decide +kernel
theorem dX0_refusal_116 : decode cX0_refusal 116 = .ok (.iload 6, 2) := by decide +kernel
theorem dX0_refusal_118 : decode cX0_refusal 118 = .ok (.ifCond .ne 24, 3) := by decide +kernel
theorem dX0_refusal_142 : decode cX0_refusal 142 = .ok (.iload 6, 2) := by decide +kernel
theorem dX0_refusal_144 : decode cX0_refusal 144 = .ok (.ifCond .ne 15, 3) := by decide +kernel
theorem dX0_refusal_159 : decode cX0_refusal 159 = .ok (.iload 6, 2) := by decide +kernel
theorem dX0_refusal_161 : decode cX0_refusal 161 = .ok (.ireturn, 1) := by decide +kernel
theorem dX0_refusal_147 : decode cX0_refusal 147 = .ok (.aload_n 0, 1) := by decide +kernel
theorem dX0_refusal_148 : decode cX0_refusal 148 = .ok (.iload_n 2, 1) := by decide +kernel
theorem dX0_refusal_149 : decode cX0_refusal 149 = .ok (.invokevirtual 204, 3) := by decide +kernel
theorem dX0_refusal_152 : decode cX0_refusal 152 = .ok (.ifCond .eq 7, 3) := by decide +kernel
theorem dX0_refusal_155 : decode cX0_refusal 155 = .ok (.bipush 6, 2) := by decide +kernel
theorem dX0_refusal_157 : decode cX0_refusal 157 = .ok (.istore 6, 2) := by decide +kernel
theorem dX0_refusal_121 : decode cX0_refusal 121 = .ok (.aload_n 0, 1) := by decide +kernel
theorem dX0_refusal_122 : decode cX0_refusal 122 = .ok (.iload_n 1, 1) := by decide +kernel
theorem dX0_refusal_123 : decode cX0_refusal 123 = .ok (.iload_n 3, 1) := by decide +kernel
theorem dX0_refusal_124 : decode cX0_refusal 124 = .ok (.aload_n 0, 1) := by decide +kernel
theorem dX0_refusal_125 : decode cX0_refusal 125 = .ok (.getfield 179, 3) := by decide +kernel
theorem dX0_refusal_128 : decode cX0_refusal 128 = .ok (.bipush 60, 2) := by decide +kernel
theorem dX0_refusal_130 : decode cX0_refusal 130 = .ok (.idiv, 1) := by decide +kernel
theorem dX0_refusal_131 : decode cX0_refusal 131 = .ok (.iload 5, 2) := by decide +kernel
theorem dX0_refusal_133 : decode cX0_refusal 133 = .ok (.invokevirtual 200, 3) := by decide +kernel
theorem dX0_refusal_136 : decode cX0_refusal 136 = .ok (.ifCond .ne 6, 3) := by decide +kernel
theorem dX0_refusal_139 : decode cX0_refusal 139 = .ok (.iconst 5, 1) := by decide +kernel
theorem dX0_refusal_140 : decode cX0_refusal 140 = .ok (.istore 6, 2) := by decide +kernel
theorem dX0_refusal_94 : decode cX0_refusal 94 = .ok (.aload_n 0, 1) := by decide +kernel
theorem dX0_refusal_95 : decode cX0_refusal 95 = .ok (.iload_n 2, 1) := by decide +kernel
theorem dX0_refusal_96 : decode cX0_refusal 96 = .ok (.invokevirtual 120, 3) := by decide +kernel
theorem dX0_refusal_99 : decode cX0_refusal 99 = .ok (.ifCond .ne 17, 3) := by decide +kernel
theorem dX0_refusal_102 : decode cX0_refusal 102 = .ok (.aload_n 0, 1) := by decide +kernel
theorem dX0_refusal_103 : decode cX0_refusal 103 = .ok (.iload 4, 2) := by decide +kernel
theorem dX0_refusal_105 : decode cX0_refusal 105 = .ok (.iload_n 2, 1) := by decide +kernel
theorem dX0_refusal_106 : decode cX0_refusal 106 = .ok (.iload_n 3, 1) := by decide +kernel
theorem dX0_refusal_107 : decode cX0_refusal 107 = .ok (.invokevirtual 193, 3) := by decide +kernel
theorem dX0_refusal_110 : decode cX0_refusal 110 = .ok (.ifCond .eq 6, 3) := by decide +kernel
theorem dX0_refusal_113 : decode cX0_refusal 113 = .ok (.iconst 4, 1) := by decide +kernel
theorem dX0_refusal_114 : decode cX0_refusal 114 = .ok (.istore 6, 2) := by decide +kernel
theorem dX0_refusal_57 : decode cX0_refusal 57 = .ok (.aload_n 0, 1) := by decide +kernel
theorem dX0_refusal_58 : decode cX0_refusal 58 = .ok (.iload_n 2, 1) := by decide +kernel
theorem dX0_refusal_59 : decode cX0_refusal 59 = .ok (.bipush 11, 2) := by decide +kernel
theorem dX0_refusal_61 : decode cX0_refusal 61 = .ok (.invokevirtual 117, 3) := by decide +kernel
theorem dX0_refusal_64 : decode cX0_refusal 64 = .ok (.goto 7, 3) := by decide +kernel
theorem dX0_refusal_32 : decode cX0_refusal 32 = .ok (.aload_n 0, 1) := by decide +kernel
theorem dX0_refusal_33 : decode cX0_refusal 33 = .ok (.iload 4, 2) := by decide +kernel
theorem dX0_refusal_35 : decode cX0_refusal 35 = .ok (.iload_n 2, 1) := by decide +kernel
theorem dX0_refusal_36 : decode cX0_refusal 36 = .ok (.iload_n 3, 1) := by decide +kernel
theorem dX0_refusal_37 : decode cX0_refusal 37 = .ok (.invokevirtual 193, 3) := by decide +kernel
theorem dX0_refusal_40 : decode cX0_refusal 40 = .ok (.ifCond .eq 7, 3) := by decide +kernel
theorem dX0_refusal_47 : decode cX0_refusal 47 = .ok (.iconst 0, 1) := by decide +kernel
theorem dX0_refusal_48 : decode cX0_refusal 48 = .ok (.ireturn, 1) := by decide +kernel
theorem dX0_refusal_43 : decode cX0_refusal 43 = .ok (.iconst 4, 1) := by decide +kernel
theorem dX0_refusal_44 : decode cX0_refusal 44 = .ok (.goto 4, 3) := by decide +kernel
theorem dX0_refusal_22 : decode cX0_refusal 22 = .ok (.bipush 9, 2) := by decide +kernel
theorem dX0_refusal_24 : decode cX0_refusal 24 = .ok (.ireturn, 1) := by decide +kernel
theorem dX0_letIn_0 : decode cX0_letIn 0 = .ok (.aload_n 0, 1) := by decide +kernel
theorem dX0_letIn_1 : decode cX0_letIn 1 = .ok (.getfield 182, 3) := by decide +kernel
theorem dX0_letIn_4 : decode cX0_letIn 4 = .ok (.ifCond .ne 11, 3) := by decide +kernel
theorem dX0_letIn_15 : decode cX0_letIn 15 = .ok (.aload_n 0, 1) := by decide +kernel
theorem dX0_letIn_16 : decode cX0_letIn 16 = .ok (.aload_n 0, 1) := by decide +kernel
theorem dX0_letIn_17 : decode cX0_letIn 17 = .ok (.getfield 24, 3) := by decide +kernel
theorem dX0_letIn_20 : decode cX0_letIn 20 = .ok (.iload_n 1, 1) := by decide +kernel
theorem dX0_letIn_21 : decode cX0_letIn 21 = .ok (.aaload, 1) := by decide +kernel
theorem dX0_letIn_22 : decode cX0_letIn 22 = .ok (.iconst 0, 1) := by decide +kernel
theorem dX0_letIn_23 : decode cX0_letIn 23 = .ok (.iaload, 1) := by decide +kernel
theorem dX0_letIn_24 : decode cX0_letIn 24 = .ok (.iload_n 2, 1) := by decide +kernel
theorem dX0_letIn_25 : decode cX0_letIn 25 = .ok (.iload_n 3, 1) := by decide +kernel
theorem dX0_letIn_26 : decode cX0_letIn 26 = .ok (.aload_n 0, 1) := by decide +kernel
theorem dX0_letIn_27 : decode cX0_letIn 27 = .ok (.getfield 179, 3) := by decide +kernel
theorem dX0_letIn_30 : decode cX0_letIn 30 = .ok (.invokevirtual 157, 3) := by decide +kernel
theorem dX0_letIn_33 : decode cX0_letIn 33 = .ok (.return_, 1) := by decide +kernel
theorem dX0_letIn_7 : decode cX0_letIn 7 = .ok (.aload_n 0, 1) := by decide +kernel
theorem dX0_letIn_8 : decode cX0_letIn 8 = .ok (.iload_n 2, 1) := by decide +kernel
theorem dX0_letIn_9 : decode cX0_letIn 9 = .ok (.invokevirtual 120, 3) := by decide +kernel
theorem dX0_letIn_12 : decode cX0_letIn 12 = .ok (.ifCond .ne 22, 3) := by decide +kernel
theorem dX0_letIn_34 : decode cX0_letIn 34 = .ok (.aload_n 0, 1) := by decide +kernel
theorem dX0_letIn_35 : decode cX0_letIn 35 = .ok (.iload_n 2, 1) := by decide +kernel
theorem dX0_letIn_36 : decode cX0_letIn 36 = .ok (.bipush 12, 2) := by decide +kernel
theorem dX0_letIn_38 : decode cX0_letIn 38 = .ok (.invokevirtual 117, 3) := by decide +kernel
theorem dX0_letIn_41 : decode cX0_letIn 41 = .ok (.istore 4, 2) := by decide +kernel
theorem dX0_letIn_43 : decode cX0_letIn 43 = .ok (.iload 4, 2) := by decide +kernel
theorem dX0_letIn_45 : decode cX0_letIn 45 = .ok (.bipush 20, 2) := by decide +kernel
theorem dX0_letIn_47 : decode cX0_letIn 47 = .ok (.if_icmp .ge 59, 3) := by decide +kernel
theorem dX0_letIn_106 : decode cX0_letIn 106 = .ok (.return_, 1) := by decide +kernel
theorem dX0_letIn_50 : decode cX0_letIn 50 = .ok (.iconst 3, 1) := by decide +kernel
theorem dX0_letIn_51 : decode cX0_letIn 51 = .ok (.iload_n 2, 1) := by decide +kernel
theorem dX0_letIn_52 : decode cX0_letIn 52 = .ok (.bipush 20, 2) := by decide +kernel
theorem dX0_letIn_54 : decode cX0_letIn 54 = .ok (.imul, 1) := by decide +kernel
theorem dX0_letIn_55 : decode cX0_letIn 55 = .ok (.iload 4, 2) := by decide +kernel
theorem dX0_letIn_57 : decode cX0_letIn 57 = .ok (.iadd, 1) := by decide +kernel
theorem dX0_letIn_58 : decode cX0_letIn 58 = .ok (.imul, 1) := by decide +kernel
theorem dX0_letIn_59 : decode cX0_letIn 59 = .ok (.istore 5, 2) := by decide +kernel
theorem dX0_letIn_61 : decode cX0_letIn 61 = .ok (.aload_n 0, 1) := by decide +kernel
theorem dX0_letIn_62 : decode cX0_letIn 62 = .ok (.getfield 15, 3) := by decide +kernel
theorem dX0_letIn_65 : decode cX0_letIn 65 = .ok (.iload 5, 2) := by decide +kernel
theorem dX0_letIn_67 : decode cX0_letIn 67 = .ok (.iload_n 1, 1) := by decide +kernel
theorem dX0_letIn_68 : decode cX0_letIn 68 = .ok (.iastore, 1) := by decide +kernel
theorem dX0_letIn_69 : decode cX0_letIn 69 = .ok (.aload_n 0, 1) := by decide +kernel
theorem dX0_letIn_70 : decode cX0_letIn 70 = .ok (.getfield 15, 3) := by decide +kernel
theorem dX0_letIn_73 : decode cX0_letIn 73 = .ok (.iload 5, 2) := by decide +kernel
theorem dX0_letIn_75 : decode cX0_letIn 75 = .ok (.iconst 1, 1) := by decide +kernel
theorem dX0_letIn_76 : decode cX0_letIn 76 = .ok (.iadd, 1) := by decide +kernel
theorem dX0_letIn_77 : decode cX0_letIn 77 = .ok (.iload_n 3, 1) := by decide +kernel
theorem dX0_letIn_78 : decode cX0_letIn 78 = .ok (.iastore, 1) := by decide +kernel
theorem dX0_letIn_79 : decode cX0_letIn 79 = .ok (.aload_n 0, 1) := by decide +kernel
theorem dX0_letIn_80 : decode cX0_letIn 80 = .ok (.getfield 15, 3) := by decide +kernel
theorem dX0_letIn_83 : decode cX0_letIn 83 = .ok (.iload 5, 2) := by decide +kernel
theorem dX0_letIn_85 : decode cX0_letIn 85 = .ok (.iconst 2, 1) := by decide +kernel
theorem dX0_letIn_86 : decode cX0_letIn 86 = .ok (.iadd, 1) := by decide +kernel
theorem dX0_letIn_87 : decode cX0_letIn 87 = .ok (.aload_n 0, 1) := by decide +kernel
theorem dX0_letIn_88 : decode cX0_letIn 88 = .ok (.getfield 179, 3) := by decide +kernel
theorem dX0_letIn_91 : decode cX0_letIn 91 = .ok (.bipush 60, 2) := by decide +kernel
theorem dX0_letIn_93 : decode cX0_letIn 93 = .ok (.idiv, 1) := by decide +kernel
theorem dX0_letIn_94 : decode cX0_letIn 94 = .ok (.iastore, 1) := by decide +kernel
theorem dX0_letIn_95 : decode cX0_letIn 95 = .ok (.aload_n 0, 1) := by decide +kernel
theorem dX0_letIn_96 : decode cX0_letIn 96 = .ok (.iload_n 2, 1) := by decide +kernel
theorem dX0_letIn_97 : decode cX0_letIn 97 = .ok (.bipush 12, 2) := by decide +kernel
theorem dX0_letIn_99 : decode cX0_letIn 99 = .ok (.iload 4, 2) := by decide +kernel
theorem dX0_letIn_101 : decode cX0_letIn 101 = .ok (.iconst 1, 1) := by decide +kernel
theorem dX0_letIn_102 : decode cX0_letIn 102 = .ok (.iadd, 1) := by decide +kernel
theorem dX0_letIn_103 : decode cX0_letIn 103 = .ok (.invokevirtual 94, 3) := by decide +kernel
theorem dX0_askOne_0 : decode cX0_askOne 0 = .ok (.aload_n 0, 1) := by decide +kernel
theorem dX0_askOne_1 : decode cX0_askOne 1 = .ok (.iload_n 1, 1) := by decide +kernel
theorem dX0_askOne_2 : decode cX0_askOne 2 = .ok (.iload_n 2, 1) := by decide +kernel
theorem dX0_askOne_3 : decode cX0_askOne 3 = .ok (.iload_n 3, 1) := by decide +kernel
theorem dX0_askOne_4 : decode cX0_askOne 4 = .ok (.invokevirtual 186, 3) := by decide +kernel
theorem dX0_askOne_7 : decode cX0_askOne 7 = .ok (.istore 4, 2) := by decide +kernel
theorem dX0_askOne_9 : decode cX0_askOne 9 = .ok (.iload 4, 2) := by decide +kernel
theorem dX0_askOne_11 : decode cX0_askOne 11 = .ok (.ifCond .ne 24, 3) := by decide +kernel
theorem dX0_askOne_35 : decode cX0_askOne 35 = .ok (.iload 4, 2) := by decide +kernel
theorem dX0_askOne_37 : decode cX0_askOne 37 = .ok (.ifCond .ne 10, 3) := by decide +kernel
theorem dX0_askOne_47 : decode cX0_askOne 47 = .ok (.iload 4, 2) := by decide +kernel
theorem dX0_askOne_49 : decode cX0_askOne 49 = .ok (.ireturn, 1) := by decide +kernel
theorem dX0_askOne_40 : decode cX0_askOne 40 = .ok (.aload_n 0, 1) := by decide +kernel
theorem dX0_askOne_41 : decode cX0_askOne 41 = .ok (.iload_n 1, 1) := by decide +kernel
theorem dX0_askOne_42 : decode cX0_askOne 42 = .ok (.iload_n 2, 1) := by decide +kernel
theorem dX0_askOne_43 : decode cX0_askOne 43 = .ok (.iload_n 3, 1) := by decide +kernel
theorem dX0_askOne_44 : decode cX0_askOne 44 = .ok (.invokevirtual 190, 3) := by decide +kernel
theorem dX0_askOne_14 : decode cX0_askOne 14 = .ok (.aload_n 0, 1) := by decide +kernel
theorem dX0_askOne_15 : decode cX0_askOne 15 = .ok (.getfield 182, 3) := by decide +kernel
theorem dX0_askOne_18 : decode cX0_askOne 18 = .ok (.ifCond .ne 17, 3) := by decide +kernel
theorem dX0_askOne_21 : decode cX0_askOne 21 = .ok (.aload_n 0, 1) := by decide +kernel
theorem dX0_askOne_22 : decode cX0_askOne 22 = .ok (.iload_n 2, 1) := by decide +kernel
theorem dX0_askOne_23 : decode cX0_askOne 23 = .ok (.bipush 10, 2) := by decide +kernel
theorem dX0_askOne_25 : decode cX0_askOne 25 = .ok (.invokevirtual 117, 3) := by decide +kernel
theorem dX0_askOne_28 : decode cX0_askOne 28 = .ok (.ifCond .eq 7, 3) := by decide +kernel
theorem dX0_askOne_31 : decode cX0_askOne 31 = .ok (.bipush 7, 2) := by decide +kernel
theorem dX0_askOne_33 : decode cX0_askOne 33 = .ok (.istore 4, 2) := by decide +kernel
theorem dX0_askTwo_0 : decode cX0_askTwo 0 = .ok (.aload_n 0, 1) := by decide +kernel
theorem dX0_askTwo_1 : decode cX0_askTwo 1 = .ok (.iload_n 1, 1) := by decide +kernel
theorem dX0_askTwo_2 : decode cX0_askTwo 2 = .ok (.iload_n 3, 1) := by decide +kernel
theorem dX0_askTwo_3 : decode cX0_askTwo 3 = .ok (.iload 4, 2) := by decide +kernel
theorem dX0_askTwo_5 : decode cX0_askTwo 5 = .ok (.invokevirtual 186, 3) := by decide +kernel
theorem dX0_askTwo_8 : decode cX0_askTwo 8 = .ok (.istore 5, 2) := by decide +kernel
theorem dX0_askTwo_10 : decode cX0_askTwo 10 = .ok (.iload 5, 2) := by decide +kernel
theorem dX0_askTwo_12 : decode cX0_askTwo 12 = .ok (.ifCond .ne 13, 3) := by decide +kernel
theorem dX0_askTwo_25 : decode cX0_askTwo 25 = .ok (.iload 5, 2) := by decide +kernel
theorem dX0_askTwo_27 : decode cX0_askTwo 27 = .ok (.ifCond .ne 33, 3) := by decide +kernel
theorem dX0_askTwo_60 : decode cX0_askTwo 60 = .ok (.iload 5, 2) := by decide +kernel
theorem dX0_askTwo_62 : decode cX0_askTwo 62 = .ok (.ifCond .ne 19, 3) := by decide +kernel
theorem dX0_askTwo_81 : decode cX0_askTwo 81 = .ok (.iload 5, 2) := by decide +kernel
theorem dX0_askTwo_83 : decode cX0_askTwo 83 = .ok (.ireturn, 1) := by decide +kernel
theorem dX0_askTwo_65 : decode cX0_askTwo 65 = .ok (.aload_n 0, 1) := by decide +kernel
theorem dX0_askTwo_66 : decode cX0_askTwo 66 = .ok (.iload_n 1, 1) := by decide +kernel
theorem dX0_askTwo_67 : decode cX0_askTwo 67 = .ok (.iload_n 3, 1) := by decide +kernel
theorem dX0_askTwo_68 : decode cX0_askTwo 68 = .ok (.iload 4, 2) := by decide +kernel
theorem dX0_askTwo_70 : decode cX0_askTwo 70 = .ok (.invokevirtual 190, 3) := by decide +kernel
theorem dX0_askTwo_73 : decode cX0_askTwo 73 = .ok (.aload_n 0, 1) := by decide +kernel
theorem dX0_askTwo_74 : decode cX0_askTwo 74 = .ok (.iload_n 2, 1) := by decide +kernel
theorem dX0_askTwo_75 : decode cX0_askTwo 75 = .ok (.iload_n 3, 1) := by decide +kernel
theorem dX0_askTwo_76 : decode cX0_askTwo 76 = .ok (.iload 4, 2) := by decide +kernel
theorem dX0_askTwo_78 : decode cX0_askTwo 78 = .ok (.invokevirtual 190, 3) := by decide +kernel
theorem dX0_askTwo_30 : decode cX0_askTwo 30 = .ok (.aload_n 0, 1) := by decide +kernel
theorem dX0_askTwo_31 : decode cX0_askTwo 31 = .ok (.getfield 182, 3) := by decide +kernel
theorem dX0_askTwo_34 : decode cX0_askTwo 34 = .ok (.ifCond .ne 26, 3) := by decide +kernel
theorem dX0_askTwo_37 : decode cX0_askTwo 37 = .ok (.aload_n 0, 1) := by decide +kernel
theorem dX0_askTwo_38 : decode cX0_askTwo 38 = .ok (.getfield 24, 3) := by decide +kernel
theorem dX0_askTwo_41 : decode cX0_askTwo 41 = .ok (.iload_n 1, 1) := by decide +kernel
theorem dX0_askTwo_42 : decode cX0_askTwo 42 = .ok (.aaload, 1) := by decide +kernel
theorem dX0_askTwo_43 : decode cX0_askTwo 43 = .ok (.iconst 0, 1) := by decide +kernel
theorem dX0_askTwo_44 : decode cX0_askTwo 44 = .ok (.iaload, 1) := by decide +kernel
theorem dX0_askTwo_45 : decode cX0_askTwo 45 = .ok (.aload_n 0, 1) := by decide +kernel
theorem dX0_askTwo_46 : decode cX0_askTwo 46 = .ok (.getfield 24, 3) := by decide +kernel
theorem dX0_askTwo_49 : decode cX0_askTwo 49 = .ok (.iload_n 2, 1) := by decide +kernel
theorem dX0_askTwo_50 : decode cX0_askTwo 50 = .ok (.aaload, 1) := by decide +kernel
theorem dX0_askTwo_51 : decode cX0_askTwo 51 = .ok (.iconst 0, 1) := by decide +kernel
theorem dX0_askTwo_52 : decode cX0_askTwo 52 = .ok (.iaload, 1) := by decide +kernel
theorem dX0_askTwo_53 : decode cX0_askTwo 53 = .ok (.if_icmp .ne 7, 3) := by decide +kernel
theorem dX0_askTwo_56 : decode cX0_askTwo 56 = .ok (.bipush 8, 2) := by decide +kernel
theorem dX0_askTwo_58 : decode cX0_askTwo 58 = .ok (.istore 5, 2) := by decide +kernel
theorem dX0_askTwo_15 : decode cX0_askTwo 15 = .ok (.aload_n 0, 1) := by decide +kernel
theorem dX0_askTwo_16 : decode cX0_askTwo 16 = .ok (.iload_n 2, 1) := by decide +kernel
theorem dX0_askTwo_17 : decode cX0_askTwo 17 = .ok (.iload_n 3, 1) := by decide +kernel
theorem dX0_askTwo_18 : decode cX0_askTwo 18 = .ok (.iload 4, 2) := by decide +kernel
theorem dX0_askTwo_20 : decode cX0_askTwo 20 = .ok (.invokevirtual 186, 3) := by decide +kernel
theorem dX0_askTwo_23 : decode cX0_askTwo 23 = .ok (.istore 5, 2) := by decide +kernel
theorem dX1_init_0 : decode cX1_init 0 = .ok (.aload_n 0, 1) := by decide +kernel
theorem dX1_init_1 : decode cX1_init 1 = .ok (.invokespecial 5, 3) := by decide +kernel
theorem dX1_init_4 : decode cX1_init 4 = .ok (.aload_n 0, 1) := by decide +kernel
theorem dX1_init_5 : decode cX1_init 5 = .ok (.bipush 8, 2) := by decide +kernel
theorem dX1_init_7 : decode cX1_init 7 = .ok (.bipush 10, 2) := by decide +kernel
theorem dX1_init_9 : decode cX1_init 9 = .ok (.multianewarray 11 2, 4) := by decide +kernel
theorem dX1_init_13 : decode cX1_init 13 = .ok (.putfield 13, 3) := by decide +kernel
theorem dX1_init_16 : decode cX1_init 16 = .ok (.aload_n 0, 1) := by decide +kernel
theorem dX1_init_17 : decode cX1_init 17 = .ok (.bipush 8, 2) := by decide +kernel
theorem dX1_init_19 : decode cX1_init 19 = .ok (.bipush 42, 2) := by decide +kernel
theorem dX1_init_21 : decode cX1_init 21 = .ok (.multianewarray 11 2, 4) := by decide +kernel
theorem dX1_init_25 : decode cX1_init 25 = .ok (.putfield 16, 3) := by decide +kernel
theorem dX1_init_28 : decode cX1_init 28 = .ok (.aload_n 0, 1) := by decide +kernel
theorem dX1_init_29 : decode cX1_init 29 = .ok (.bipush 8, 2) := by decide +kernel
theorem dX1_init_31 : decode cX1_init 31 = .ok (.bipush 22, 2) := by decide +kernel
theorem dX1_init_33 : decode cX1_init 33 = .ok (.multianewarray 11 2, 4) := by decide +kernel
theorem dX1_init_37 : decode cX1_init 37 = .ok (.putfield 19, 3) := by decide +kernel
theorem dX1_init_40 : decode cX1_init 40 = .ok (.aload_n 0, 1) := by decide +kernel
theorem dX1_init_41 : decode cX1_init 41 = .ok (.sipush 2048, 3) := by decide +kernel
theorem dX1_init_44 : decode cX1_init 44 = .ok (.newarray .boolean, 2) := by decide +kernel
theorem dX1_init_46 : decode cX1_init 46 = .ok (.putfield 22, 3) := by decide +kernel
theorem dX1_init_49 : decode cX1_init 49 = .ok (.aload_n 0, 1) := by decide +kernel
theorem dX1_init_50 : decode cX1_init 50 = .ok (.sipush 1000, 3) := by decide +kernel
theorem dX1_init_53 : decode cX1_init 53 = .ok (.putfield 26, 3) := by decide +kernel
theorem dX1_init_56 : decode cX1_init 56 = .ok (.aload_n 0, 1) := by decide +kernel
theorem dX1_init_57 : decode cX1_init 57 = .ok (.sipush 2001, 3) := by decide +kernel
theorem dX1_init_60 : decode cX1_init 60 = .ok (.newarray .boolean, 2) := by decide +kernel
theorem dX1_init_62 : decode cX1_init 62 = .ok (.putfield 30, 3) := by decide +kernel
theorem dX1_init_65 : decode cX1_init 65 = .ok (.aload_n 0, 1) := by decide +kernel
theorem dX1_init_66 : decode cX1_init 66 = .ok (.iconst (-1), 1) := by decide +kernel
theorem dX1_init_67 : decode cX1_init 67 = .ok (.putfield 33, 3) := by decide +kernel
theorem dX1_init_70 : decode cX1_init 70 = .ok (.aload_n 0, 1) := by decide +kernel
theorem dX1_init_71 : decode cX1_init 71 = .ok (.sipush 600, 3) := by decide +kernel
theorem dX1_init_74 : decode cX1_init 74 = .ok (.newarray .int, 2) := by decide +kernel
theorem dX1_init_76 : decode cX1_init 76 = .ok (.putfield 36, 3) := by decide +kernel
theorem dX1_init_79 : decode cX1_init 79 = .ok (.aload_n 0, 1) := by decide +kernel
theorem dX1_init_80 : decode cX1_init 80 = .ok (.sipush 600, 3) := by decide +kernel
theorem dX1_init_83 : decode cX1_init 83 = .ok (.newarray .int, 2) := by decide +kernel
theorem dX1_init_85 : decode cX1_init 85 = .ok (.putfield 40, 3) := by decide +kernel
theorem dX1_init_88 : decode cX1_init 88 = .ok (.aload_n 0, 1) := by decide +kernel
theorem dX1_init_89 : decode cX1_init 89 = .ok (.sipush (-1000), 3) := by decide +kernel
theorem dX1_init_92 : decode cX1_init 92 = .ok (.putfield 43, 3) := by decide +kernel
theorem dX1_init_95 : decode cX1_init 95 = .ok (.aload_n 0, 1) := by decide +kernel
theorem dX1_init_96 : decode cX1_init 96 = .ok (.iconst (-1), 1) := by decide +kernel
theorem dX1_init_97 : decode cX1_init 97 = .ok (.putfield 46, 3) := by decide +kernel
theorem dX1_init_100 : decode cX1_init 100 = .ok (.aload_n 0, 1) := by decide +kernel
theorem dX1_init_101 : decode cX1_init 101 = .ok (.iconst 5, 1) := by decide +kernel
theorem dX1_init_102 : decode cX1_init 102 = .ok (.newarray .int, 2) := by decide +kernel
theorem dX1_init_104 : decode cX1_init 104 = .ok (.putfield 49, 3) := by decide +kernel
theorem dX1_init_107 : decode cX1_init 107 = .ok (.aload_n 0, 1) := by decide +kernel
theorem dX1_init_108 : decode cX1_init 108 = .ok (.aload_n 1, 1) := by decide +kernel
theorem dX1_init_109 : decode cX1_init 109 = .ok (.putfield 52, 3) := by decide +kernel
theorem dX1_init_112 : decode cX1_init 112 = .ok (.iconst 0, 1) := by decide +kernel
theorem dX1_init_113 : decode cX1_init 113 = .ok (.istore_n 2, 1) := by decide +kernel
theorem dX1_init_114 : decode cX1_init 114 = .ok (.iload_n 2, 1) := by decide +kernel
theorem dX1_init_115 : decode cX1_init 115 = .ok (.bipush 8, 2) := by decide +kernel
theorem dX1_init_117 : decode cX1_init 117 = .ok (.if_icmp .ge 47, 3) := by decide +kernel
theorem dX1_init_120 : decode cX1_init 120 = .ok (.aload_n 0, 1) := by decide +kernel
theorem dX1_init_121 : decode cX1_init 121 = .ok (.getfield 13, 3) := by decide +kernel
theorem dX1_init_124 : decode cX1_init 124 = .ok (.iload_n 2, 1) := by decide +kernel
theorem dX1_init_125 : decode cX1_init 125 = .ok (.aaload, 1) := by decide +kernel
theorem dX1_init_126 : decode cX1_init 126 = .ok (.bipush 6, 2) := by decide +kernel
theorem dX1_init_128 : decode cX1_init 128 = .ok (.iload_n 2, 1) := by decide +kernel
theorem dX1_init_129 : decode cX1_init 129 = .ok (.iastore, 1) := by decide +kernel
theorem dX1_init_130 : decode cX1_init 130 = .ok (.aload_n 0, 1) := by decide +kernel
theorem dX1_init_131 : decode cX1_init 131 = .ok (.getfield 13, 3) := by decide +kernel
theorem dX1_init_134 : decode cX1_init 134 = .ok (.iload_n 2, 1) := by decide +kernel
theorem dX1_init_135 : decode cX1_init 135 = .ok (.aaload, 1) := by decide +kernel
theorem dX1_init_136 : decode cX1_init 136 = .ok (.iconst 1, 1) := by decide +kernel
theorem dX1_init_137 : decode cX1_init 137 = .ok (.iconst (-1), 1) := by decide +kernel
theorem dX1_init_138 : decode cX1_init 138 = .ok (.iastore, 1) := by decide +kernel
theorem dX1_init_139 : decode cX1_init 139 = .ok (.aload_n 0, 1) := by decide +kernel
theorem dX1_init_140 : decode cX1_init 140 = .ok (.getfield 13, 3) := by decide +kernel
theorem dX1_init_143 : decode cX1_init 143 = .ok (.iload_n 2, 1) := by decide +kernel
theorem dX1_init_144 : decode cX1_init 144 = .ok (.aaload, 1) := by decide +kernel
theorem dX1_init_145 : decode cX1_init 145 = .ok (.iconst 2, 1) := by decide +kernel
theorem dX1_init_146 : decode cX1_init 146 = .ok (.iconst (-1), 1) := by decide +kernel
theorem dX1_init_147 : decode cX1_init 147 = .ok (.iastore, 1) := by decide +kernel
theorem dX1_init_148 : decode cX1_init 148 = .ok (.aload_n 0, 1) := by decide +kernel
theorem dX1_init_149 : decode cX1_init 149 = .ok (.getfield 13, 3) := by decide +kernel
theorem dX1_init_152 : decode cX1_init 152 = .ok (.iload_n 2, 1) := by decide +kernel
theorem dX1_init_153 : decode cX1_init 153 = .ok (.aaload, 1) := by decide +kernel
theorem dX1_init_154 : decode cX1_init 154 = .ok (.bipush 9, 2) := by decide +kernel
theorem dX1_init_156 : decode cX1_init 156 = .ok (.iconst (-1), 1) := by decide +kernel
theorem dX1_init_157 : decode cX1_init 157 = .ok (.iastore, 1) := by decide +kernel
theorem dX1_init_158 : decode cX1_init 158 = .ok (.iinc 2 1, 3) := by decide +kernel
theorem dX1_init_161 : decode cX1_init 161 = .ok (.goto (-47), 3) := by decide +kernel
theorem dX1_init_164 : decode cX1_init 164 = .ok (.return_, 1) := by decide +kernel
theorem dX1_setAddress_0 : decode cX1_setAddress 0 = .ok (.aload_n 0, 1) := by decide +kernel
theorem dX1_setAddress_1 : decode cX1_setAddress 1 = .ok (.getfield 13, 3) := by decide +kernel
theorem dX1_setAddress_4 : decode cX1_setAddress 4 = .ok (.iload_n 1, 1) := by decide +kernel
theorem dX1_setAddress_5 : decode cX1_setAddress 5 = .ok (.aaload, 1) := by decide +kernel
theorem dX1_setAddress_6 : decode cX1_setAddress 6 = .ok (.bipush 6, 2) := by decide +kernel
theorem dX1_setAddress_8 : decode cX1_setAddress 8 = .ok (.iaload, 1) := by decide +kernel
theorem dX1_setAddress_9 : decode cX1_setAddress 9 = .ok (.istore_n 3, 1) := by decide +kernel
theorem dX1_setAddress_10 : decode cX1_setAddress 10 = .ok (.aload_n 0, 1) := by decide +kernel
theorem dX1_setAddress_11 : decode cX1_setAddress 11 = .ok (.getfield 13, 3) := by decide +kernel
theorem dX1_setAddress_14 : decode cX1_setAddress 14 = .ok (.iload_n 1, 1) := by decide +kernel
theorem dX1_setAddress_15 : decode cX1_setAddress 15 = .ok (.aaload, 1) := by decide +kernel
theorem dX1_setAddress_16 : decode cX1_setAddress 16 = .ok (.bipush 6, 2) := by decide +kernel
theorem dX1_setAddress_18 : decode cX1_setAddress 18 = .ok (.iload_n 2, 1) := by decide +kernel
theorem dX1_setAddress_19 : decode cX1_setAddress 19 = .ok (.iastore, 1) := by decide +kernel
theorem dX1_setAddress_20 : decode cX1_setAddress 20 = .ok (.iload_n 3, 1) := by decide +kernel
theorem dX1_setAddress_21 : decode cX1_setAddress 21 = .ok (.ireturn, 1) := by decide +kernel
theorem dX1_setListening_0 : decode cX1_setListening 0 = .ok (.aload_n 0, 1) := by decide +kernel
theorem dX1_setListening_1 : decode cX1_setListening 1 = .ok (.getfield 22, 3) := by decide +kernel
theorem dX1_setListening_4 : decode cX1_setListening 4 = .ok (.iload_n 1, 1) := by decide +kernel
theorem dX1_setListening_5 : decode cX1_setListening 5 = .ok (.sipush 256, 3) := by decide +kernel
theorem dX1_setListening_8 : decode cX1_setListening 8 = .ok (.imul, 1) := by decide +kernel
theorem dX1_setListening_9 : decode cX1_setListening 9 = .ok (.iload_n 2, 1) := by decide +kernel
theorem dX1_setListening_10 : decode cX1_setListening 10 = .ok (.iadd, 1) := by decide +kernel
theorem dX1_setListening_11 : decode cX1_setListening 11 = .ok (.baload, 1) := by decide +kernel
theorem dX1_setListening_12 : decode cX1_setListening 12 = .ok (.istore 4, 2) := by decide +kernel
theorem dX1_setListening_14 : decode cX1_setListening 14 = .ok (.aload_n 0, 1) := by decide +kernel
theorem dX1_setListening_15 : decode cX1_setListening 15 = .ok (.getfield 22, 3) := by decide +kernel
theorem dX1_setListening_18 : decode cX1_setListening 18 = .ok (.iload_n 1, 1) := by decide +kernel
theorem dX1_setListening_19 : decode cX1_setListening 19 = .ok (.sipush 256, 3) := by decide +kernel
theorem dX1_setListening_22 : decode cX1_setListening 22 = .ok (.imul, 1) := by decide +kernel
theorem dX1_setListening_23 : decode cX1_setListening 23 = .ok (.iload_n 2, 1) := by decide +kernel
theorem dX1_setListening_24 : decode cX1_setListening 24 = .ok (.iadd, 1) := by decide +kernel
theorem dX1_setListening_25 : decode cX1_setListening 25 = .ok (.iload_n 3, 1) := by decide +kernel
theorem dX1_setListening_26 : decode cX1_setListening 26 = .ok (.bastore, 1) := by decide +kernel
theorem dX1_setListening_27 : decode cX1_setListening 27 = .ok (.iload 4, 2) := by decide +kernel
theorem dX1_setListening_29 : decode cX1_setListening 29 = .ok (.ireturn, 1) := by decide +kernel
theorem dX1_setBusy_0 : decode cX1_setBusy 0 = .ok (.aload_n 0, 1) := by decide +kernel
theorem dX1_setBusy_1 : decode cX1_setBusy 1 = .ok (.getfield 13, 3) := by decide +kernel
theorem dX1_setBusy_4 : decode cX1_setBusy 4 = .ok (.iload_n 1, 1) := by decide +kernel
theorem dX1_setBusy_5 : decode cX1_setBusy 5 = .ok (.aaload, 1) := by decide +kernel
theorem dX1_setBusy_6 : decode cX1_setBusy 6 = .ok (.bipush 7, 2) := by decide +kernel
theorem dX1_setBusy_8 : decode cX1_setBusy 8 = .ok (.iaload, 1) := by decide +kernel
theorem dX1_setBusy_9 : decode cX1_setBusy 9 = .ok (.ifCond .eq 7, 3) := by decide +kernel
theorem dX1_setBusy_16 : decode cX1_setBusy 16 = .ok (.iconst 0, 1) := by decide +kernel
theorem dX1_setBusy_17 : decode cX1_setBusy 17 = .ok (.istore_n 3, 1) := by decide +kernel
theorem dX1_setBusy_18 : decode cX1_setBusy 18 = .ok (.aload_n 0, 1) := by decide +kernel
theorem dX1_setBusy_19 : decode cX1_setBusy 19 = .ok (.getfield 13, 3) := by decide +kernel
theorem dX1_setBusy_22 : decode cX1_setBusy 22 = .ok (.iload_n 1, 1) := by decide +kernel
theorem dX1_setBusy_23 : decode cX1_setBusy 23 = .ok (.aaload, 1) := by decide +kernel
theorem dX1_setBusy_24 : decode cX1_setBusy 24 = .ok (.bipush 7, 2) := by decide +kernel
theorem dX1_setBusy_26 : decode cX1_setBusy 26 = .ok (.iload_n 2, 1) := by decide +kernel
theorem dX1_setBusy_27 : decode cX1_setBusy 27 = .ok (.ifCond .eq 7, 3) := by decide +kernel
theorem dX1_setBusy_34 : decode cX1_setBusy 34 = .ok (.iconst 0, 1) := by decide +kernel
theorem dX1_setBusy_35 : decode cX1_setBusy 35 = .ok (.iastore, 1) := by decide +kernel
theorem dX1_setBusy_36 : decode cX1_setBusy 36 = .ok (.iload_n 3, 1) := by decide +kernel
theorem dX1_setBusy_37 : decode cX1_setBusy 37 = .ok (.ireturn, 1) := by decide +kernel
theorem dX1_setBusy_30 : decode cX1_setBusy 30 = .ok (.iconst 1, 1) := by decide +kernel
theorem dX1_setBusy_31 : decode cX1_setBusy 31 = .ok (.goto 4, 3) := by decide +kernel
theorem dX1_setBusy_12 : decode cX1_setBusy 12 = .ok (.iconst 1, 1) := by decide +kernel
theorem dX1_setBusy_13 : decode cX1_setBusy 13 = .ok (.goto 4, 3) := by decide +kernel
theorem dX1_hasRoomInQueue_0 : decode cX1_hasRoomInQueue 0 = .ok (.aload_n 0, 1) := by decide +kernel
theorem dX1_hasRoomInQueue_1 : decode cX1_hasRoomInQueue 1 = .ok (.getfield 13, 3) := by decide +kernel
theorem dX1_hasRoomInQueue_4 : decode cX1_hasRoomInQueue 4 = .ok (.iload_n 1, 1) := by decide +kernel
theorem dX1_hasRoomInQueue_5 : decode cX1_hasRoomInQueue 5 = .ok (.aaload, 1) := by decide +kernel
theorem dX1_hasRoomInQueue_6 : decode cX1_hasRoomInQueue 6 = .ok (.iconst 0, 1) := by decide +kernel
theorem dX1_hasRoomInQueue_7 : decode cX1_hasRoomInQueue 7 = .ok (.iaload, 1) := by decide +kernel
theorem dX1_hasRoomInQueue_8 : decode cX1_hasRoomInQueue 8 = .ok (.bipush 6, 2) := by decide +kernel
theorem dX1_hasRoomInQueue_10 : decode cX1_hasRoomInQueue 10 = .ok (.if_icmp .ge 7, 3) := by decide +kernel
theorem dX1_hasRoomInQueue_17 : decode cX1_hasRoomInQueue 17 = .ok (.iconst 0, 1) := by decide +kernel
theorem dX1_hasRoomInQueue_18 : decode cX1_hasRoomInQueue 18 = .ok (.ireturn, 1) := by decide +kernel
theorem dX1_hasRoomInQueue_13 : decode cX1_hasRoomInQueue 13 = .ok (.iconst 1, 1) := by decide +kernel
theorem dX1_hasRoomInQueue_14 : decode cX1_hasRoomInQueue 14 = .ok (.goto 4, 3) := by decide +kernel
theorem dX1_enqueue_0 : decode cX1_enqueue 0 = .ok (.aload_n 0, 1) := by decide +kernel
theorem dX1_enqueue_1 : decode cX1_enqueue 1 = .ok (.getfield 13, 3) := by decide +kernel
theorem dX1_enqueue_4 : decode cX1_enqueue 4 = .ok (.iload_n 1, 1) := by decide +kernel
theorem dX1_enqueue_5 : decode cX1_enqueue 5 = .ok (.aaload, 1) := by decide +kernel
theorem dX1_enqueue_6 : decode cX1_enqueue 6 = .ok (.astore 7, 2) := by decide +kernel
theorem dX1_enqueue_8 : decode cX1_enqueue 8 = .ok (.aload_n 0, 1) := by decide +kernel
theorem dX1_enqueue_9 : decode cX1_enqueue 9 = .ok (.iload_n 1, 1) := by decide +kernel
theorem dX1_enqueue_10 : decode cX1_enqueue 10 = .ok (.invokevirtual 56, 3) := by decide +kernel
theorem dX1_enqueue_13 : decode cX1_enqueue 13 = .ok (.ifCond .eq 100, 3) := by decide +kernel
theorem dX1_enqueue_113 : decode cX1_enqueue 113 = .ok (.aload 7, 2) := by decide +kernel
theorem dX1_enqueue_115 : decode cX1_enqueue 115 = .ok (.iconst 0, 1) := by decide +kernel
theorem dX1_enqueue_116 : decode cX1_enqueue 116 = .ok (.iaload, 1) := by decide +kernel
theorem dX1_enqueue_117 : decode cX1_enqueue 117 = .ok (.ireturn, 1) := by decide +kernel
theorem dX1_enqueue_16 : decode cX1_enqueue 16 = .ok (.aload 7, 2) := by decide +kernel
theorem dX1_enqueue_18 : decode cX1_enqueue 18 = .ok (.iconst 0, 1) := by decide +kernel
theorem dX1_enqueue_19 : decode cX1_enqueue 19 = .ok (.iaload, 1) := by decide +kernel
theorem dX1_enqueue_20 : decode cX1_enqueue 20 = .ok (.bipush 7, 2) := by decide +kernel
theorem dX1_enqueue_22 : decode cX1_enqueue 22 = .ok (.imul, 1) := by decide +kernel
theorem dX1_enqueue_23 : decode cX1_enqueue 23 = .ok (.istore 8, 2) := by decide +kernel
theorem dX1_enqueue_25 : decode cX1_enqueue 25 = .ok (.aload_n 0, 1) := by decide +kernel
theorem dX1_enqueue_26 : decode cX1_enqueue 26 = .ok (.getfield 16, 3) := by decide +kernel
theorem dX1_enqueue_29 : decode cX1_enqueue 29 = .ok (.iload_n 1, 1) := by decide +kernel
theorem dX1_enqueue_30 : decode cX1_enqueue 30 = .ok (.aaload, 1) := by decide +kernel
theorem dX1_enqueue_31 : decode cX1_enqueue 31 = .ok (.astore 9, 2) := by decide +kernel
theorem dX1_enqueue_33 : decode cX1_enqueue 33 = .ok (.aload 9, 2) := by decide +kernel
theorem dX1_enqueue_35 : decode cX1_enqueue 35 = .ok (.iload 8, 2) := by decide +kernel
theorem dX1_enqueue_37 : decode cX1_enqueue 37 = .ok (.iconst 0, 1) := by decide +kernel
theorem dX1_enqueue_38 : decode cX1_enqueue 38 = .ok (.iadd, 1) := by decide +kernel
theorem dX1_enqueue_39 : decode cX1_enqueue 39 = .ok (.iload_n 2, 1) := by decide +kernel
theorem dX1_enqueue_40 : decode cX1_enqueue 40 = .ok (.iastore, 1) := by decide +kernel
theorem dX1_enqueue_41 : decode cX1_enqueue 41 = .ok (.aload 9, 2) := by decide +kernel
theorem dX1_enqueue_43 : decode cX1_enqueue 43 = .ok (.iload 8, 2) := by decide +kernel
theorem dX1_enqueue_45 : decode cX1_enqueue 45 = .ok (.iconst 1, 1) := by decide +kernel
theorem dX1_enqueue_46 : decode cX1_enqueue 46 = .ok (.iadd, 1) := by decide +kernel
theorem dX1_enqueue_47 : decode cX1_enqueue 47 = .ok (.aload 7, 2) := by decide +kernel
theorem dX1_enqueue_49 : decode cX1_enqueue 49 = .ok (.bipush 6, 2) := by decide +kernel
theorem dX1_enqueue_51 : decode cX1_enqueue 51 = .ok (.iaload, 1) := by decide +kernel
theorem dX1_enqueue_52 : decode cX1_enqueue 52 = .ok (.iastore, 1) := by decide +kernel
theorem dX1_enqueue_53 : decode cX1_enqueue 53 = .ok (.aload 9, 2) := by decide +kernel
theorem dX1_enqueue_55 : decode cX1_enqueue 55 = .ok (.iload 8, 2) := by decide +kernel
theorem dX1_enqueue_57 : decode cX1_enqueue 57 = .ok (.iconst 2, 1) := by decide +kernel
theorem dX1_enqueue_58 : decode cX1_enqueue 58 = .ok (.iadd, 1) := by decide +kernel
theorem dX1_enqueue_59 : decode cX1_enqueue 59 = .ok (.iload_n 3, 1) := by decide +kernel
theorem dX1_enqueue_60 : decode cX1_enqueue 60 = .ok (.iastore, 1) := by decide +kernel
theorem dX1_enqueue_61 : decode cX1_enqueue 61 = .ok (.aload 9, 2) := by decide +kernel
theorem dX1_enqueue_63 : decode cX1_enqueue 63 = .ok (.iload 8, 2) := by decide +kernel
theorem dX1_enqueue_65 : decode cX1_enqueue 65 = .ok (.iconst 3, 1) := by decide +kernel
theorem dX1_enqueue_66 : decode cX1_enqueue 66 = .ok (.iadd, 1) := by decide +kernel
theorem dX1_enqueue_67 : decode cX1_enqueue 67 = .ok (.iload 4, 2) := by decide +kernel
theorem dX1_enqueue_69 : decode cX1_enqueue 69 = .ok (.ifCond .eq 7, 3) := by decide +kernel
theorem dX1_enqueue_76 : decode cX1_enqueue 76 = .ok (.iconst 0, 1) := by decide +kernel
theorem dX1_enqueue_77 : decode cX1_enqueue 77 = .ok (.iastore, 1) := by decide +kernel
theorem dX1_enqueue_78 : decode cX1_enqueue 78 = .ok (.aload 9, 2) := by decide +kernel
theorem dX1_enqueue_80 : decode cX1_enqueue 80 = .ok (.iload 8, 2) := by decide +kernel
theorem dX1_enqueue_82 : decode cX1_enqueue 82 = .ok (.iconst 4, 1) := by decide +kernel
theorem dX1_enqueue_83 : decode cX1_enqueue 83 = .ok (.iadd, 1) := by decide +kernel
theorem dX1_enqueue_84 : decode cX1_enqueue 84 = .ok (.iload 5, 2) := by decide +kernel
theorem dX1_enqueue_86 : decode cX1_enqueue 86 = .ok (.iastore, 1) := by decide +kernel
theorem dX1_enqueue_87 : decode cX1_enqueue 87 = .ok (.aload 9, 2) := by decide +kernel
theorem dX1_enqueue_89 : decode cX1_enqueue 89 = .ok (.iload 8, 2) := by decide +kernel
theorem dX1_enqueue_91 : decode cX1_enqueue 91 = .ok (.iconst 5, 1) := by decide +kernel
theorem dX1_enqueue_92 : decode cX1_enqueue 92 = .ok (.iadd, 1) := by decide +kernel
theorem dX1_enqueue_93 : decode cX1_enqueue 93 = .ok (.iload 6, 2) := by decide +kernel
theorem dX1_enqueue_95 : decode cX1_enqueue 95 = .ok (.iastore, 1) := by decide +kernel
theorem dX1_enqueue_96 : decode cX1_enqueue 96 = .ok (.aload 9, 2) := by decide +kernel
theorem dX1_enqueue_98 : decode cX1_enqueue 98 = .ok (.iload 8, 2) := by decide +kernel
theorem dX1_enqueue_100 : decode cX1_enqueue 100 = .ok (.bipush 6, 2) := by decide +kernel
theorem dX1_enqueue_102 : decode cX1_enqueue 102 = .ok (.iadd, 1) := by decide +kernel
theorem dX1_enqueue_103 : decode cX1_enqueue 103 = .ok (.iconst 0, 1) := by decide +kernel
theorem dX1_enqueue_104 : decode cX1_enqueue 104 = .ok (.iastore, 1) := by decide +kernel
theorem dX1_enqueue_105 : decode cX1_enqueue 105 = .ok (.aload 7, 2) := by decide +kernel
theorem dX1_enqueue_107 : decode cX1_enqueue 107 = .ok (.iconst 0, 1) := by decide +kernel
theorem dX1_enqueue_108 : decode cX1_enqueue 108 = .ok (.dup2, 1) := by decide +kernel
theorem dX1_enqueue_109 : decode cX1_enqueue 109 = .ok (.iaload, 1) := by decide +kernel
theorem dX1_enqueue_110 : decode cX1_enqueue 110 = .ok (.iconst 1, 1) := by decide +kernel
theorem dX1_enqueue_111 : decode cX1_enqueue 111 = .ok (.iadd, 1) := by decide +kernel
theorem dX1_enqueue_112 : decode cX1_enqueue 112 = .ok (.iastore, 1) := by decide +kernel
theorem dX1_enqueue_72 : decode cX1_enqueue 72 = .ok (.iconst 1, 1) := by decide +kernel
theorem dX1_enqueue_73 : decode cX1_enqueue 73 = .ok (.goto 4, 3) := by decide +kernel
theorem dX1_addDisturbance_0 : decode cX1_addDisturbance 0 = .ok (.aload_n 0, 1) := by decide +kernel
theorem dX1_addDisturbance_1 : decode cX1_addDisturbance 1 = .ok (.getfield 60, 3) := by decide +kernel
theorem dX1_addDisturbance_4 : decode cX1_addDisturbance 4 = .ok (.iload_n 1, 1) := by decide +kernel
theorem dX1_addDisturbance_5 : decode cX1_addDisturbance 5 = .ok (.iadd, 1) := by decide +kernel
theorem dX1_addDisturbance_6 : decode cX1_addDisturbance 6 = .ok (.aload_n 0, 1) := by decide +kernel
theorem dX1_addDisturbance_7 : decode cX1_addDisturbance 7 = .ok (.getfield 30, 3) := by decide +kernel
theorem dX1_addDisturbance_10 : decode cX1_addDisturbance 10 = .ok (.arraylength, 1) := by decide +kernel
theorem dX1_addDisturbance_11 : decode cX1_addDisturbance 11 = .ok (.irem, 1) := by decide +kernel
theorem dX1_addDisturbance_12 : decode cX1_addDisturbance 12 = .ok (.istore_n 2, 1) := by decide +kernel
theorem dX1_addDisturbance_13 : decode cX1_addDisturbance 13 = .ok (.aload_n 0, 1) := by decide +kernel
theorem dX1_addDisturbance_14 : decode cX1_addDisturbance 14 = .ok (.getfield 30, 3) := by decide +kernel
theorem dX1_addDisturbance_17 : decode cX1_addDisturbance 17 = .ok (.iload_n 2, 1) := by decide +kernel
theorem dX1_addDisturbance_18 : decode cX1_addDisturbance 18 = .ok (.baload, 1) := by decide +kernel
theorem dX1_addDisturbance_19 : decode cX1_addDisturbance 19 = .ok (.ifCond .eq 5, 3) := by decide +kernel
theorem dX1_addDisturbance_24 : decode cX1_addDisturbance 24 = .ok (.aload_n 0, 1) := by decide +kernel
theorem dX1_addDisturbance_25 : decode cX1_addDisturbance 25 = .ok (.getfield 30, 3) := by decide +kernel
theorem dX1_addDisturbance_28 : decode cX1_addDisturbance 28 = .ok (.iload_n 2, 1) := by decide +kernel
theorem dX1_addDisturbance_29 : decode cX1_addDisturbance 29 = .ok (.iconst 1, 1) := by decide +kernel
theorem dX1_addDisturbance_30 : decode cX1_addDisturbance 30 = .ok (.bastore, 1) := by decide +kernel
theorem dX1_addDisturbance_31 : decode cX1_addDisturbance 31 = .ok (.aload_n 0, 1) := by decide +kernel
theorem dX1_addDisturbance_32 : decode cX1_addDisturbance 32 = .ok (.dup, 1) := by decide +kernel
theorem dX1_addDisturbance_33 : decode cX1_addDisturbance 33 = .ok (.getfield 63, 3) := by decide +kernel
theorem dX1_addDisturbance_36 : decode cX1_addDisturbance 36 = .ok (.iconst 1, 1) := by decide +kernel
theorem dX1_addDisturbance_37 : decode cX1_addDisturbance 37 = .ok (.iadd, 1) := by decide +kernel
theorem dX1_addDisturbance_38 : decode cX1_addDisturbance 38 = .ok (.putfield 63, 3) := by decide +kernel
theorem dX1_addDisturbance_41 : decode cX1_addDisturbance 41 = .ok (.iconst 1, 1) := by decide +kernel
theorem dX1_addDisturbance_42 : decode cX1_addDisturbance 42 = .ok (.ireturn, 1) := by decide +kernel
theorem dX1_addDisturbance_22 : decode cX1_addDisturbance 22 = .ok (.iconst 0, 1) := by decide +kernel
theorem dX1_addDisturbance_23 : decode cX1_addDisturbance 23 = .ok (.ireturn, 1) := by decide +kernel
theorem dX1_stationFact_0 : decode cX1_stationFact 0 = .ok (.aload_n 0, 1) := by decide +kernel
theorem dX1_stationFact_1 : decode cX1_stationFact 1 = .ok (.getfield 13, 3) := by decide +kernel
theorem dX1_stationFact_4 : decode cX1_stationFact 4 = .ok (.iload_n 1, 1) := by decide +kernel
theorem dX1_stationFact_5 : decode cX1_stationFact 5 = .ok (.aaload, 1) := by decide +kernel
theorem dX1_stationFact_6 : decode cX1_stationFact 6 = .ok (.iload_n 2, 1) := by decide +kernel
theorem dX1_stationFact_7 : decode cX1_stationFact 7 = .ok (.iaload, 1) := by decide +kernel
theorem dX1_stationFact_8 : decode cX1_stationFact 8 = .ok (.istore_n 3, 1) := by decide +kernel
theorem dX1_stationFact_9 : decode cX1_stationFact 9 = .ok (.iload_n 2, 1) := by decide +kernel
theorem dX1_stationFact_10 : decode cX1_stationFact 10 = .ok (.iconst 1, 1) := by decide +kernel
theorem dX1_stationFact_11 : decode cX1_stationFact 11 = .ok (.if_icmp .eq 8, 3) := by decide +kernel
theorem dX1_stationFact_19 : decode cX1_stationFact 19 = .ok (.iload_n 3, 1) := by decide +kernel
theorem dX1_stationFact_20 : decode cX1_stationFact 20 = .ok (.iconst (-1), 1) := by decide +kernel
theorem dX1_stationFact_21 : decode cX1_stationFact 21 = .ok (.if_icmp .ne 7, 3) := by decide +kernel
theorem dX1_stationFact_28 : decode cX1_stationFact 28 = .ok (.iconst 1, 1) := by decide +kernel
theorem dX1_stationFact_29 : decode cX1_stationFact 29 = .ok (.goto 4, 3) := by decide +kernel
theorem dX1_stationFact_33 : decode cX1_stationFact 33 = .ok (.ireturn, 1) := by decide +kernel
theorem dX1_stationFact_24 : decode cX1_stationFact 24 = .ok (.iconst 0, 1) := by decide +kernel
theorem dX1_stationFact_25 : decode cX1_stationFact 25 = .ok (.goto 8, 3) := by decide +kernel
theorem dX1_stationFact_14 : decode cX1_stationFact 14 = .ok (.iload_n 2, 1) := by decide +kernel
theorem dX1_stationFact_15 : decode cX1_stationFact 15 = .ok (.iconst 2, 1) := by decide +kernel
theorem dX1_stationFact_16 : decode cX1_stationFact 16 = .ok (.if_icmp .ne 16, 3) := by decide +kernel
theorem dX1_stationFact_32 : decode cX1_stationFact 32 = .ok (.iload_n 3, 1) := by decide +kernel
theorem dX1_isLatestRight_0 : decode cX1_isLatestRight 0 = .ok (.sipush 255, 3) := by decide +kernel
theorem dX1_isLatestRight_3 : decode cX1_isLatestRight 3 = .ok (.istore_n 1, 1) := by decide +kernel
theorem dX1_isLatestRight_4 : decode cX1_isLatestRight 4 = .ok (.iconst 0, 1) := by decide +kernel
theorem dX1_isLatestRight_5 : decode cX1_isLatestRight 5 = .ok (.istore_n 2, 1) := by decide +kernel
theorem dX1_isLatestRight_6 : decode cX1_isLatestRight 6 = .ok (.iload_n 2, 1) := by decide +kernel
theorem dX1_isLatestRight_7 : decode cX1_isLatestRight 7 = .ok (.aload_n 0, 1) := by decide +kernel
theorem dX1_isLatestRight_8 : decode cX1_isLatestRight 8 = .ok (.getfield 104, 3) := by decide +kernel
theorem dX1_isLatestRight_11 : decode cX1_isLatestRight 11 = .ok (.iconst 1, 1) := by decide +kernel
theorem dX1_isLatestRight_12 : decode cX1_isLatestRight 12 = .ok (.isub, 1) := by decide +kernel
theorem dX1_isLatestRight_13 : decode cX1_isLatestRight 13 = .ok (.if_icmp .ge 18, 3) := by decide +kernel
theorem dX1_isLatestRight_16 : decode cX1_isLatestRight 16 = .ok (.iload_n 1, 1) := by decide +kernel
theorem dX1_isLatestRight_17 : decode cX1_isLatestRight 17 = .ok (.aload_n 0, 1) := by decide +kernel
theorem dX1_isLatestRight_18 : decode cX1_isLatestRight 18 = .ok (.getfield 40, 3) := by decide +kernel
theorem dX1_isLatestRight_21 : decode cX1_isLatestRight 21 = .ok (.iload_n 2, 1) := by decide +kernel
theorem dX1_isLatestRight_22 : decode cX1_isLatestRight 22 = .ok (.iaload, 1) := by decide +kernel
theorem dX1_isLatestRight_23 : decode cX1_isLatestRight 23 = .ok (.ixor, 1) := by decide +kernel
theorem dX1_isLatestRight_24 : decode cX1_isLatestRight 24 = .ok (.istore_n 1, 1) := by decide +kernel
theorem dX1_isLatestRight_25 : decode cX1_isLatestRight 25 = .ok (.iinc 2 1, 3) := by decide +kernel
theorem dX1_isLatestRight_28 : decode cX1_isLatestRight 28 = .ok (.goto (-22), 3) := by decide +kernel
theorem dX1_isLatestRight_31 : decode cX1_isLatestRight 31 = .ok (.aload_n 0, 1) := by decide +kernel
theorem dX1_isLatestRight_32 : decode cX1_isLatestRight 32 = .ok (.getfield 104, 3) := by decide +kernel
theorem dX1_isLatestRight_35 : decode cX1_isLatestRight 35 = .ok (.bipush 8, 2) := by decide +kernel
theorem dX1_isLatestRight_37 : decode cX1_isLatestRight 37 = .ok (.aload_n 0, 1) := by decide +kernel
theorem dX1_isLatestRight_38 : decode cX1_isLatestRight 38 = .ok (.getfield 40, 3) := by decide +kernel
theorem dX1_isLatestRight_41 : decode cX1_isLatestRight 41 = .ok (.iconst 5, 1) := by decide +kernel
theorem dX1_isLatestRight_42 : decode cX1_isLatestRight 42 = .ok (.iaload, 1) := by decide +kernel
theorem dX1_isLatestRight_43 : decode cX1_isLatestRight 43 = .ok (.sipush 128, 3) := by decide +kernel
theorem dX1_isLatestRight_46 : decode cX1_isLatestRight 46 = .ok (.irem, 1) := by decide +kernel
theorem dX1_isLatestRight_47 : decode cX1_isLatestRight 47 = .ok (.iadd, 1) := by decide +kernel
theorem dX1_isLatestRight_48 : decode cX1_isLatestRight 48 = .ok (.if_icmp .ne 22, 3) := by decide +kernel
theorem dX1_isLatestRight_70 : decode cX1_isLatestRight 70 = .ok (.iconst 0, 1) := by decide +kernel
theorem dX1_isLatestRight_71 : decode cX1_isLatestRight 71 = .ok (.ireturn, 1) := by decide +kernel
theorem dX1_isLatestRight_51 : decode cX1_isLatestRight 51 = .ok (.aload_n 0, 1) := by decide +kernel
theorem dX1_isLatestRight_52 : decode cX1_isLatestRight 52 = .ok (.getfield 40, 3) := by decide +kernel
theorem dX1_isLatestRight_55 : decode cX1_isLatestRight 55 = .ok (.aload_n 0, 1) := by decide +kernel
theorem dX1_isLatestRight_56 : decode cX1_isLatestRight 56 = .ok (.getfield 104, 3) := by decide +kernel
theorem dX1_isLatestRight_59 : decode cX1_isLatestRight 59 = .ok (.iconst 1, 1) := by decide +kernel
theorem dX1_isLatestRight_60 : decode cX1_isLatestRight 60 = .ok (.isub, 1) := by decide +kernel
theorem dX1_isLatestRight_61 : decode cX1_isLatestRight 61 = .ok (.iaload, 1) := by decide +kernel
theorem dX1_isLatestRight_62 : decode cX1_isLatestRight 62 = .ok (.iload_n 1, 1) := by decide +kernel
theorem dX1_isLatestRight_63 : decode cX1_isLatestRight 63 = .ok (.if_icmp .ne 7, 3) := by decide +kernel
theorem dX1_isLatestRight_66 : decode cX1_isLatestRight 66 = .ok (.iconst 1, 1) := by decide +kernel
theorem dX1_isLatestRight_67 : decode cX1_isLatestRight 67 = .ok (.goto 4, 3) := by decide +kernel
theorem dX1_latestAim_0 : decode cX1_latestAim 0 = .ok (.aload_n 0, 1) := by decide +kernel
theorem dX1_latestAim_1 : decode cX1_latestAim 1 = .ok (.getfield 40, 3) := by decide +kernel
theorem dX1_latestAim_4 : decode cX1_latestAim 4 = .ok (.iconst 3, 1) := by decide +kernel
theorem dX1_latestAim_5 : decode cX1_latestAim 5 = .ok (.iaload, 1) := by decide +kernel
theorem dX1_latestAim_6 : decode cX1_latestAim 6 = .ok (.sipush 256, 3) := by decide +kernel
theorem dX1_latestAim_9 : decode cX1_latestAim 9 = .ok (.imul, 1) := by decide +kernel
theorem dX1_latestAim_10 : decode cX1_latestAim 10 = .ok (.aload_n 0, 1) := by decide +kernel
theorem dX1_latestAim_11 : decode cX1_latestAim 11 = .ok (.getfield 40, 3) := by decide +kernel
theorem dX1_latestAim_14 : decode cX1_latestAim 14 = .ok (.iconst 4, 1) := by decide +kernel
theorem dX1_latestAim_15 : decode cX1_latestAim 15 = .ok (.iaload, 1) := by decide +kernel
theorem dX1_latestAim_16 : decode cX1_latestAim 16 = .ok (.iadd, 1) := by decide +kernel
theorem dX1_latestAim_17 : decode cX1_latestAim 17 = .ok (.ireturn, 1) := by decide +kernel
theorem dX1_isMeantFor_0 : decode cX1_isMeantFor 0 = .ok (.aload_n 0, 1) := by decide +kernel
theorem dX1_isMeantFor_1 : decode cX1_isMeantFor 1 = .ok (.invokevirtual 101, 3) := by decide +kernel
theorem dX1_isMeantFor_4 : decode cX1_isMeantFor 4 = .ok (.istore_n 2, 1) := by decide +kernel
theorem dX1_isMeantFor_5 : decode cX1_isMeantFor 5 = .ok (.aload_n 0, 1) := by decide +kernel
theorem dX1_isMeantFor_6 : decode cX1_isMeantFor 6 = .ok (.getfield 40, 3) := by decide +kernel
theorem dX1_isMeantFor_9 : decode cX1_isMeantFor 9 = .ok (.iconst 5, 1) := by decide +kernel
theorem dX1_isMeantFor_10 : decode cX1_isMeantFor 10 = .ok (.iaload, 1) := by decide +kernel
theorem dX1_isMeantFor_11 : decode cX1_isMeantFor 11 = .ok (.sipush 128, 3) := by decide +kernel
theorem dX1_isMeantFor_14 : decode cX1_isMeantFor 14 = .ok (.if_icmp .ge 22, 3) := by decide +kernel
theorem dX1_isMeantFor_36 : decode cX1_isMeantFor 36 = .ok (.iload_n 2, 1) := by decide +kernel
theorem dX1_isMeantFor_37 : decode cX1_isMeantFor 37 = .ok (.sipush 256, 3) := by decide +kernel
theorem dX1_isMeantFor_40 : decode cX1_isMeantFor 40 = .ok (.if_icmp .ge 22, 3) := by decide +kernel
theorem dX1_isMeantFor_62 : decode cX1_isMeantFor 62 = .ok (.iconst 0, 1) := by decide +kernel
theorem dX1_isMeantFor_63 : decode cX1_isMeantFor 63 = .ok (.ireturn, 1) := by decide +kernel
theorem dX1_isMeantFor_43 : decode cX1_isMeantFor 43 = .ok (.aload_n 0, 1) := by decide +kernel
theorem dX1_isMeantFor_44 : decode cX1_isMeantFor 44 = .ok (.getfield 22, 3) := by decide +kernel
theorem dX1_isMeantFor_47 : decode cX1_isMeantFor 47 = .ok (.iload_n 1, 1) := by decide +kernel
theorem dX1_isMeantFor_48 : decode cX1_isMeantFor 48 = .ok (.sipush 256, 3) := by decide +kernel
theorem dX1_isMeantFor_51 : decode cX1_isMeantFor 51 = .ok (.imul, 1) := by decide +kernel
theorem dX1_isMeantFor_52 : decode cX1_isMeantFor 52 = .ok (.iload_n 2, 1) := by decide +kernel
theorem dX1_isMeantFor_53 : decode cX1_isMeantFor 53 = .ok (.iadd, 1) := by decide +kernel
theorem dX1_isMeantFor_54 : decode cX1_isMeantFor 54 = .ok (.baload, 1) := by decide +kernel
theorem dX1_isMeantFor_55 : decode cX1_isMeantFor 55 = .ok (.ifCond .eq 7, 3) := by decide +kernel
theorem dX1_isMeantFor_58 : decode cX1_isMeantFor 58 = .ok (.iconst 1, 1) := by decide +kernel
theorem dX1_isMeantFor_59 : decode cX1_isMeantFor 59 = .ok (.goto 4, 3) := by decide +kernel
theorem dX1_isMeantFor_17 : decode cX1_isMeantFor 17 = .ok (.aload_n 0, 1) := by decide +kernel
theorem dX1_isMeantFor_18 : decode cX1_isMeantFor 18 = .ok (.getfield 13, 3) := by decide +kernel
theorem dX1_isMeantFor_21 : decode cX1_isMeantFor 21 = .ok (.iload_n 1, 1) := by decide +kernel
theorem dX1_isMeantFor_22 : decode cX1_isMeantFor 22 = .ok (.aaload, 1) := by decide +kernel
theorem dX1_isMeantFor_23 : decode cX1_isMeantFor 23 = .ok (.bipush 6, 2) := by decide +kernel
theorem dX1_isMeantFor_25 : decode cX1_isMeantFor 25 = .ok (.iaload, 1) := by decide +kernel
theorem dX1_isMeantFor_26 : decode cX1_isMeantFor 26 = .ok (.iload_n 2, 1) := by decide +kernel
theorem dX1_isMeantFor_27 : decode cX1_isMeantFor 27 = .ok (.if_icmp .ne 7, 3) := by decide +kernel
theorem dX1_isMeantFor_34 : decode cX1_isMeantFor 34 = .ok (.iconst 0, 1) := by decide +kernel
theorem dX1_isMeantFor_35 : decode cX1_isMeantFor 35 = .ok (.ireturn, 1) := by decide +kernel
theorem dX1_isMeantFor_30 : decode cX1_isMeantFor 30 = .ok (.iconst 1, 1) := by decide +kernel
theorem dX1_isMeantFor_31 : decode cX1_isMeantFor 31 = .ok (.goto 4, 3) := by decide +kernel
theorem dX1_beginAnswers_0 : decode cX1_beginAnswers 0 = .ok (.aload_n 0, 1) := by decide +kernel
theorem dX1_beginAnswers_1 : decode cX1_beginAnswers 1 = .ok (.invokevirtual 94, 3) := by decide +kernel
theorem dX1_beginAnswers_4 : decode cX1_beginAnswers 4 = .ok (.istore_n 1, 1) := by decide +kernel
theorem dX1_beginAnswers_5 : decode cX1_beginAnswers 5 = .ok (.iconst 0, 1) := by decide +kernel
theorem dX1_beginAnswers_6 : decode cX1_beginAnswers 6 = .ok (.istore_n 2, 1) := by decide +kernel
theorem dX1_beginAnswers_7 : decode cX1_beginAnswers 7 = .ok (.iload_n 2, 1) := by decide +kernel
theorem dX1_beginAnswers_8 : decode cX1_beginAnswers 8 = .ok (.bipush 8, 2) := by decide +kernel
theorem dX1_beginAnswers_10 : decode cX1_beginAnswers 10 = .ok (.if_icmp .ge 76, 3) := by decide +kernel
theorem dX1_beginAnswers_13 : decode cX1_beginAnswers 13 = .ok (.aload_n 0, 1) := by decide +kernel
theorem dX1_beginAnswers_14 : decode cX1_beginAnswers 14 = .ok (.getfield 13, 3) := by decide +kernel
theorem dX1_beginAnswers_17 : decode cX1_beginAnswers 17 = .ok (.iload_n 2, 1) := by decide +kernel
theorem dX1_beginAnswers_18 : decode cX1_beginAnswers 18 = .ok (.aaload, 1) := by decide +kernel
theorem dX1_beginAnswers_19 : decode cX1_beginAnswers 19 = .ok (.astore_n 3, 1) := by decide +kernel
theorem dX1_beginAnswers_20 : decode cX1_beginAnswers 20 = .ok (.aload_n 0, 1) := by decide +kernel
theorem dX1_beginAnswers_21 : decode cX1_beginAnswers 21 = .ok (.iload_n 2, 1) := by decide +kernel
theorem dX1_beginAnswers_22 : decode cX1_beginAnswers 22 = .ok (.invokevirtual 98, 3) := by decide +kernel
theorem dX1_beginAnswers_25 : decode cX1_beginAnswers 25 = .ok (.ifCond .eq 55, 3) := by decide +kernel
theorem dX1_beginAnswers_80 : decode cX1_beginAnswers 80 = .ok (.iinc 2 1, 3) := by decide +kernel
theorem dX1_beginAnswers_83 : decode cX1_beginAnswers 83 = .ok (.goto (-76), 3) := by decide +kernel
theorem dX1_beginAnswers_28 : decode cX1_beginAnswers 28 = .ok (.aload_n 3, 1) := by decide +kernel
theorem dX1_beginAnswers_29 : decode cX1_beginAnswers 29 = .ok (.iconst 1, 1) := by decide +kernel
theorem dX1_beginAnswers_30 : decode cX1_beginAnswers 30 = .ok (.iaload, 1) := by decide +kernel
theorem dX1_beginAnswers_31 : decode cX1_beginAnswers 31 = .ok (.iconst (-1), 1) := by decide +kernel
theorem dX1_beginAnswers_32 : decode cX1_beginAnswers 32 = .ok (.if_icmp .ne 48, 3) := by decide +kernel
theorem dX1_beginAnswers_35 : decode cX1_beginAnswers 35 = .ok (.aload_n 3, 1) := by decide +kernel
theorem dX1_beginAnswers_36 : decode cX1_beginAnswers 36 = .ok (.iconst 2, 1) := by decide +kernel
theorem dX1_beginAnswers_37 : decode cX1_beginAnswers 37 = .ok (.iaload, 1) := by decide +kernel
theorem dX1_beginAnswers_38 : decode cX1_beginAnswers 38 = .ok (.iconst (-1), 1) := by decide +kernel
theorem dX1_beginAnswers_39 : decode cX1_beginAnswers 39 = .ok (.if_icmp .ne 41, 3) := by decide +kernel
theorem dX1_beginAnswers_42 : decode cX1_beginAnswers 42 = .ok (.aload_n 3, 1) := by decide +kernel
theorem dX1_beginAnswers_43 : decode cX1_beginAnswers 43 = .ok (.bipush 7, 2) := by decide +kernel
theorem dX1_beginAnswers_45 : decode cX1_beginAnswers 45 = .ok (.iaload, 1) := by decide +kernel
theorem dX1_beginAnswers_46 : decode cX1_beginAnswers 46 = .ok (.ifCond .eq 9, 3) := by decide +kernel
theorem dX1_beginAnswers_55 : decode cX1_beginAnswers 55 = .ok (.sipush 204, 3) := by decide +kernel
theorem dX1_beginAnswers_58 : decode cX1_beginAnswers 58 = .ok (.istore 4, 2) := by decide +kernel
theorem dX1_beginAnswers_60 : decode cX1_beginAnswers 60 = .ok (.aload_n 3, 1) := by decide +kernel
theorem dX1_beginAnswers_61 : decode cX1_beginAnswers 61 = .ok (.bipush 8, 2) := by decide +kernel
theorem dX1_beginAnswers_63 : decode cX1_beginAnswers 63 = .ok (.iload_n 1, 1) := by decide +kernel
theorem dX1_beginAnswers_64 : decode cX1_beginAnswers 64 = .ok (.ifCond .eq 8, 3) := by decide +kernel
theorem dX1_beginAnswers_72 : decode cX1_beginAnswers 72 = .ok (.bipush 12, 2) := by decide +kernel
theorem dX1_beginAnswers_74 : decode cX1_beginAnswers 74 = .ok (.iastore, 1) := by decide +kernel
theorem dX1_beginAnswers_75 : decode cX1_beginAnswers 75 = .ok (.aload_n 3, 1) := by decide +kernel
theorem dX1_beginAnswers_76 : decode cX1_beginAnswers 76 = .ok (.bipush 9, 2) := by decide +kernel
theorem dX1_beginAnswers_78 : decode cX1_beginAnswers 78 = .ok (.iconst 0, 1) := by decide +kernel
theorem dX1_beginAnswers_79 : decode cX1_beginAnswers 79 = .ok (.iastore, 1) := by decide +kernel
theorem dX1_beginAnswers_67 : decode cX1_beginAnswers 67 = .ok (.iload 4, 2) := by decide +kernel
theorem dX1_beginAnswers_69 : decode cX1_beginAnswers 69 = .ok (.goto 5, 3) := by decide +kernel
theorem dX1_beginAnswers_49 : decode cX1_beginAnswers 49 = .ok (.sipush 192, 3) := by decide +kernel
theorem dX1_beginAnswers_52 : decode cX1_beginAnswers 52 = .ok (.goto 6, 3) := by decide +kernel
theorem dX1_beginAnswers_86 : decode cX1_beginAnswers 86 = .ok (.return_, 1) := by decide +kernel
theorem dX1_spell_0 : decode cX1_spell 0 = .ok (.aload_n 0, 1) := by decide +kernel
theorem dX1_spell_1 : decode cX1_spell 1 = .ok (.iconst 4, 1) := by decide +kernel
theorem dX1_spell_2 : decode cX1_spell 2 = .ok (.iaload, 1) := by decide +kernel
theorem dX1_spell_3 : decode cX1_spell 3 = .ok (.istore_n 2, 1) := by decide +kernel
theorem dX1_spell_4 : decode cX1_spell 4 = .ok (.aload_n 1, 1) := by decide +kernel
theorem dX1_spell_5 : decode cX1_spell 5 = .ok (.iconst 0, 1) := by decide +kernel
theorem dX1_spell_6 : decode cX1_spell 6 = .ok (.sipush 176, 3) := by decide +kernel
theorem dX1_spell_9 : decode cX1_spell 9 = .ok (.iconst 4, 1) := by decide +kernel
theorem dX1_spell_10 : decode cX1_spell 10 = .ok (.aload_n 0, 1) := by decide +kernel
theorem dX1_spell_11 : decode cX1_spell 11 = .ok (.iconst 0, 1) := by decide +kernel
theorem dX1_spell_12 : decode cX1_spell 12 = .ok (.iaload, 1) := by decide +kernel
theorem dX1_spell_13 : decode cX1_spell 13 = .ok (.imul, 1) := by decide +kernel
theorem dX1_spell_14 : decode cX1_spell 14 = .ok (.iadd, 1) := by decide +kernel
theorem dX1_spell_15 : decode cX1_spell 15 = .ok (.aload_n 0, 1) := by decide +kernel
theorem dX1_spell_16 : decode cX1_spell 16 = .ok (.bipush 6, 2) := by decide +kernel
theorem dX1_spell_18 : decode cX1_spell 18 = .ok (.iaload, 1) := by decide +kernel
theorem dX1_spell_19 : decode cX1_spell 19 = .ok (.ifCond .le 8, 3) := by decide +kernel
theorem dX1_spell_27 : decode cX1_spell 27 = .ok (.iconst 0, 1) := by decide +kernel
theorem dX1_spell_28 : decode cX1_spell 28 = .ok (.isub, 1) := by decide +kernel
theorem dX1_spell_29 : decode cX1_spell 29 = .ok (.iastore, 1) := by decide +kernel
theorem dX1_spell_30 : decode cX1_spell 30 = .ok (.aload_n 1, 1) := by decide +kernel
theorem dX1_spell_31 : decode cX1_spell 31 = .ok (.iconst 1, 1) := by decide +kernel
theorem dX1_spell_32 : decode cX1_spell 32 = .ok (.aload_n 0, 1) := by decide +kernel
theorem dX1_spell_33 : decode cX1_spell 33 = .ok (.iconst 1, 1) := by decide +kernel
theorem dX1_spell_34 : decode cX1_spell 34 = .ok (.iaload, 1) := by decide +kernel
theorem dX1_spell_35 : decode cX1_spell 35 = .ok (.sipush 256, 3) := by decide +kernel
theorem dX1_spell_38 : decode cX1_spell 38 = .ok (.idiv, 1) := by decide +kernel
theorem dX1_spell_39 : decode cX1_spell 39 = .ok (.iastore, 1) := by decide +kernel
theorem dX1_spell_40 : decode cX1_spell 40 = .ok (.aload_n 1, 1) := by decide +kernel
theorem dX1_spell_41 : decode cX1_spell 41 = .ok (.iconst 2, 1) := by decide +kernel
theorem dX1_spell_42 : decode cX1_spell 42 = .ok (.aload_n 0, 1) := by decide +kernel
theorem dX1_spell_43 : decode cX1_spell 43 = .ok (.iconst 1, 1) := by decide +kernel
theorem dX1_spell_44 : decode cX1_spell 44 = .ok (.iaload, 1) := by decide +kernel
theorem dX1_spell_45 : decode cX1_spell 45 = .ok (.sipush 256, 3) := by decide +kernel
theorem dX1_spell_48 : decode cX1_spell 48 = .ok (.irem, 1) := by decide +kernel
theorem dX1_spell_49 : decode cX1_spell 49 = .ok (.iastore, 1) := by decide +kernel
theorem dX1_spell_50 : decode cX1_spell 50 = .ok (.aload_n 1, 1) := by decide +kernel
theorem dX1_spell_51 : decode cX1_spell 51 = .ok (.iconst 3, 1) := by decide +kernel
theorem dX1_spell_52 : decode cX1_spell 52 = .ok (.aload_n 0, 1) := by decide +kernel
theorem dX1_spell_53 : decode cX1_spell 53 = .ok (.iconst 2, 1) := by decide +kernel
theorem dX1_spell_54 : decode cX1_spell 54 = .ok (.iaload, 1) := by decide +kernel
theorem dX1_spell_55 : decode cX1_spell 55 = .ok (.sipush 256, 3) := by decide +kernel
theorem dX1_spell_58 : decode cX1_spell 58 = .ok (.idiv, 1) := by decide +kernel
theorem dX1_spell_59 : decode cX1_spell 59 = .ok (.iastore, 1) := by decide +kernel
theorem dX1_spell_60 : decode cX1_spell 60 = .ok (.aload_n 1, 1) := by decide +kernel
theorem dX1_spell_61 : decode cX1_spell 61 = .ok (.iconst 4, 1) := by decide +kernel
theorem dX1_spell_62 : decode cX1_spell 62 = .ok (.aload_n 0, 1) := by decide +kernel
theorem dX1_spell_63 : decode cX1_spell 63 = .ok (.iconst 2, 1) := by decide +kernel
theorem dX1_spell_64 : decode cX1_spell 64 = .ok (.iaload, 1) := by decide +kernel
theorem dX1_spell_65 : decode cX1_spell 65 = .ok (.sipush 256, 3) := by decide +kernel
theorem dX1_spell_68 : decode cX1_spell 68 = .ok (.irem, 1) := by decide +kernel
theorem dX1_spell_69 : decode cX1_spell 69 = .ok (.iastore, 1) := by decide +kernel
theorem dX1_spell_70 : decode cX1_spell 70 = .ok (.aload_n 1, 1) := by decide +kernel
theorem dX1_spell_71 : decode cX1_spell 71 = .ok (.iconst 5, 1) := by decide +kernel
theorem dX1_spell_72 : decode cX1_spell 72 = .ok (.aload_n 0, 1) := by decide +kernel
theorem dX1_spell_73 : decode cX1_spell 73 = .ok (.iconst 3, 1) := by decide +kernel
theorem dX1_spell_74 : decode cX1_spell 74 = .ok (.iaload, 1) := by decide +kernel
theorem dX1_spell_75 : decode cX1_spell 75 = .ok (.ifCond .eq 9, 3) := by decide +kernel
theorem dX1_spell_84 : decode cX1_spell 84 = .ok (.iconst 0, 1) := by decide +kernel
theorem dX1_spell_85 : decode cX1_spell 85 = .ok (.iload_n 2, 1) := by decide +kernel
theorem dX1_spell_86 : decode cX1_spell 86 = .ok (.iadd, 1) := by decide +kernel
theorem dX1_spell_87 : decode cX1_spell 87 = .ok (.iconst 1, 1) := by decide +kernel
theorem dX1_spell_88 : decode cX1_spell 88 = .ok (.isub, 1) := by decide +kernel
theorem dX1_spell_89 : decode cX1_spell 89 = .ok (.iastore, 1) := by decide +kernel
theorem dX1_spell_90 : decode cX1_spell 90 = .ok (.sipush 255, 3) := by decide +kernel
theorem dX1_spell_93 : decode cX1_spell 93 = .ok (.istore_n 3, 1) := by decide +kernel
theorem dX1_spell_94 : decode cX1_spell 94 = .ok (.iconst 0, 1) := by decide +kernel
theorem dX1_spell_95 : decode cX1_spell 95 = .ok (.istore 4, 2) := by decide +kernel
theorem dX1_spell_97 : decode cX1_spell 97 = .ok (.iload 4, 2) := by decide +kernel
theorem dX1_spell_99 : decode cX1_spell 99 = .ok (.bipush 6, 2) := by decide +kernel
theorem dX1_spell_101 : decode cX1_spell 101 = .ok (.iload_n 2, 1) := by decide +kernel
theorem dX1_spell_102 : decode cX1_spell 102 = .ok (.iadd, 1) := by decide +kernel
theorem dX1_spell_103 : decode cX1_spell 103 = .ok (.if_icmp .ge 47, 3) := by decide +kernel
theorem dX1_spell_106 : decode cX1_spell 106 = .ok (.iload 4, 2) := by decide +kernel
theorem dX1_spell_108 : decode cX1_spell 108 = .ok (.bipush 21, 2) := by decide +kernel
theorem dX1_spell_110 : decode cX1_spell 110 = .ok (.if_icmp .ge 40, 3) := by decide +kernel
theorem dX1_spell_113 : decode cX1_spell 113 = .ok (.iload 4, 2) := by decide +kernel
theorem dX1_spell_115 : decode cX1_spell 115 = .ok (.bipush 6, 2) := by decide +kernel
theorem dX1_spell_117 : decode cX1_spell 117 = .ok (.if_icmp .lt 20, 3) := by decide +kernel
theorem dX1_spell_137 : decode cX1_spell 137 = .ok (.iload_n 3, 1) := by decide +kernel
theorem dX1_spell_138 : decode cX1_spell 138 = .ok (.aload_n 1, 1) := by decide +kernel
theorem dX1_spell_139 : decode cX1_spell 139 = .ok (.iload 4, 2) := by decide +kernel
theorem dX1_spell_141 : decode cX1_spell 141 = .ok (.iaload, 1) := by decide +kernel
theorem dX1_spell_142 : decode cX1_spell 142 = .ok (.ixor, 1) := by decide +kernel
theorem dX1_spell_143 : decode cX1_spell 143 = .ok (.istore_n 3, 1) := by decide +kernel
theorem dX1_spell_144 : decode cX1_spell 144 = .ok (.iinc 4 1, 3) := by decide +kernel
theorem dX1_spell_147 : decode cX1_spell 147 = .ok (.goto (-50), 3) := by decide +kernel
theorem dX1_spell_120 : decode cX1_spell 120 = .ok (.aload_n 1, 1) := by decide +kernel
theorem dX1_spell_121 : decode cX1_spell 121 = .ok (.iload 4, 2) := by decide +kernel
theorem dX1_spell_123 : decode cX1_spell 123 = .ok (.aload_n 0, 1) := by decide +kernel
theorem dX1_spell_124 : decode cX1_spell 124 = .ok (.iconst 5, 1) := by decide +kernel
theorem dX1_spell_125 : decode cX1_spell 125 = .ok (.iaload, 1) := by decide +kernel
theorem dX1_spell_126 : decode cX1_spell 126 = .ok (.iload 4, 2) := by decide +kernel
theorem dX1_spell_128 : decode cX1_spell 128 = .ok (.iadd, 1) := by decide +kernel
theorem dX1_spell_129 : decode cX1_spell 129 = .ok (.bipush 6, 2) := by decide +kernel
theorem dX1_spell_131 : decode cX1_spell 131 = .ok (.isub, 1) := by decide +kernel
theorem dX1_spell_132 : decode cX1_spell 132 = .ok (.sipush 256, 3) := by decide +kernel
theorem dX1_spell_135 : decode cX1_spell 135 = .ok (.irem, 1) := by decide +kernel
theorem dX1_spell_136 : decode cX1_spell 136 = .ok (.iastore, 1) := by decide +kernel
theorem dX1_spell_150 : decode cX1_spell 150 = .ok (.aload_n 1, 1) := by decide +kernel
theorem dX1_spell_151 : decode cX1_spell 151 = .ok (.bipush 6, 2) := by decide +kernel
theorem dX1_spell_153 : decode cX1_spell 153 = .ok (.iload_n 2, 1) := by decide +kernel
theorem dX1_spell_154 : decode cX1_spell 154 = .ok (.iadd, 1) := by decide +kernel
theorem dX1_spell_155 : decode cX1_spell 155 = .ok (.iload_n 3, 1) := by decide +kernel
theorem dX1_spell_156 : decode cX1_spell 156 = .ok (.iastore, 1) := by decide +kernel
theorem dX1_spell_157 : decode cX1_spell 157 = .ok (.return_, 1) := by decide +kernel
theorem dX1_spell_78 : decode cX1_spell 78 = .ok (.sipush 128, 3) := by decide +kernel
theorem dX1_spell_81 : decode cX1_spell 81 = .ok (.goto 4, 3) := by decide +kernel
theorem dX1_spell_22 : decode cX1_spell 22 = .ok (.bipush 32, 2) := by decide +kernel
theorem dX1_spell_24 : decode cX1_spell 24 = .ok (.goto 4, 3) := by decide +kernel
theorem dX1_beginSaying_0 : decode cX1_beginSaying 0 = .ok (.aload_n 0, 1) := by decide +kernel
theorem dX1_beginSaying_1 : decode cX1_beginSaying 1 = .ok (.getfield 13, 3) := by decide +kernel
theorem dX1_beginSaying_4 : decode cX1_beginSaying 4 = .ok (.iload_n 1, 1) := by decide +kernel
theorem dX1_beginSaying_5 : decode cX1_beginSaying 5 = .ok (.aaload, 1) := by decide +kernel
theorem dX1_beginSaying_6 : decode cX1_beginSaying 6 = .ok (.astore_n 2, 1) := by decide +kernel
theorem dX1_beginSaying_7 : decode cX1_beginSaying 7 = .ok (.aload_n 2, 1) := by decide +kernel
theorem dX1_beginSaying_8 : decode cX1_beginSaying 8 = .ok (.iconst 1, 1) := by decide +kernel
theorem dX1_beginSaying_9 : decode cX1_beginSaying 9 = .ok (.iaload, 1) := by decide +kernel
theorem dX1_beginSaying_10 : decode cX1_beginSaying 10 = .ok (.iconst (-1), 1) := by decide +kernel
theorem dX1_beginSaying_11 : decode cX1_beginSaying 11 = .ok (.if_icmp .ne 16, 3) := by decide +kernel
theorem dX1_beginSaying_27 : decode cX1_beginSaying 27 = .ok (.return_, 1) := by decide +kernel
theorem dX1_beginSaying_14 : decode cX1_beginSaying 14 = .ok (.aload_n 2, 1) := by decide +kernel
theorem dX1_beginSaying_15 : decode cX1_beginSaying 15 = .ok (.iconst 2, 1) := by decide +kernel
theorem dX1_beginSaying_16 : decode cX1_beginSaying 16 = .ok (.iaload, 1) := by decide +kernel
theorem dX1_beginSaying_17 : decode cX1_beginSaying 17 = .ok (.iconst (-1), 1) := by decide +kernel
theorem dX1_beginSaying_18 : decode cX1_beginSaying 18 = .ok (.if_icmp .ne 9, 3) := by decide +kernel
theorem dX1_beginSaying_21 : decode cX1_beginSaying 21 = .ok (.aload_n 2, 1) := by decide +kernel
theorem dX1_beginSaying_22 : decode cX1_beginSaying 22 = .ok (.iconst 0, 1) := by decide +kernel
theorem dX1_beginSaying_23 : decode cX1_beginSaying 23 = .ok (.iaload, 1) := by decide +kernel
theorem dX1_beginSaying_24 : decode cX1_beginSaying 24 = .ok (.ifCond .ne 4, 3) := by decide +kernel
theorem dX1_beginSaying_28 : decode cX1_beginSaying 28 = .ok (.aload_n 0, 1) := by decide +kernel
theorem dX1_beginSaying_29 : decode cX1_beginSaying 29 = .ok (.getfield 16, 3) := by decide +kernel
theorem dX1_beginSaying_32 : decode cX1_beginSaying 32 = .ok (.iload_n 1, 1) := by decide +kernel
theorem dX1_beginSaying_33 : decode cX1_beginSaying 33 = .ok (.aaload, 1) := by decide +kernel
theorem dX1_beginSaying_34 : decode cX1_beginSaying 34 = .ok (.astore_n 3, 1) := by decide +kernel
theorem dX1_beginSaying_35 : decode cX1_beginSaying 35 = .ok (.aload_n 3, 1) := by decide +kernel
theorem dX1_beginSaying_36 : decode cX1_beginSaying 36 = .ok (.iconst 0, 1) := by decide +kernel
theorem dX1_beginSaying_37 : decode cX1_beginSaying 37 = .ok (.iaload, 1) := by decide +kernel
theorem dX1_beginSaying_38 : decode cX1_beginSaying 38 = .ok (.iconst 2, 1) := by decide +kernel
theorem dX1_beginSaying_39 : decode cX1_beginSaying 39 = .ok (.if_icmp .lt 15, 3) := by decide +kernel
theorem dX1_beginSaying_54 : decode cX1_beginSaying 54 = .ok (.bipush 50, 2) := by decide +kernel
theorem dX1_beginSaying_56 : decode cX1_beginSaying 56 = .ok (.istore 4, 2) := by decide +kernel
theorem dX1_beginSaying_58 : decode cX1_beginSaying 58 = .ok (.aload_n 0, 1) := by decide +kernel
theorem dX1_beginSaying_59 : decode cX1_beginSaying 59 = .ok (.getfield 26, 3) := by decide +kernel
theorem dX1_beginSaying_62 : decode cX1_beginSaying 62 = .ok (.iload 4, 2) := by decide +kernel
theorem dX1_beginSaying_64 : decode cX1_beginSaying 64 = .ok (.if_icmp .lt 17, 3) := by decide +kernel
theorem dX1_beginSaying_81 : decode cX1_beginSaying 81 = .ok (.return_, 1) := by decide +kernel
theorem dX1_beginSaying_67 : decode cX1_beginSaying 67 = .ok (.aload_n 2, 1) := by decide +kernel
theorem dX1_beginSaying_68 : decode cX1_beginSaying 68 = .ok (.iconst 1, 1) := by decide +kernel
theorem dX1_beginSaying_69 : decode cX1_beginSaying 69 = .ok (.iconst 0, 1) := by decide +kernel
theorem dX1_beginSaying_70 : decode cX1_beginSaying 70 = .ok (.iastore, 1) := by decide +kernel
theorem dX1_beginSaying_71 : decode cX1_beginSaying 71 = .ok (.aload_n 3, 1) := by decide +kernel
theorem dX1_beginSaying_72 : decode cX1_beginSaying 72 = .ok (.aload_n 0, 1) := by decide +kernel
theorem dX1_beginSaying_73 : decode cX1_beginSaying 73 = .ok (.getfield 19, 3) := by decide +kernel
theorem dX1_beginSaying_76 : decode cX1_beginSaying 76 = .ok (.iload_n 1, 1) := by decide +kernel
theorem dX1_beginSaying_77 : decode cX1_beginSaying 77 = .ok (.aaload, 1) := by decide +kernel
theorem dX1_beginSaying_78 : decode cX1_beginSaying 78 = .ok (.invokestatic 107, 3) := by decide +kernel
theorem dX1_beginSaying_42 : decode cX1_beginSaying 42 = .ok (.aload_n 3, 1) := by decide +kernel
theorem dX1_beginSaying_43 : decode cX1_beginSaying 43 = .ok (.bipush 6, 2) := by decide +kernel
theorem dX1_beginSaying_45 : decode cX1_beginSaying 45 = .ok (.iaload, 1) := by decide +kernel
theorem dX1_beginSaying_46 : decode cX1_beginSaying 46 = .ok (.ifCond .ne 8, 3) := by decide +kernel
theorem dX1_beginSaying_49 : decode cX1_beginSaying 49 = .ok (.bipush 53, 2) := by decide +kernel
theorem dX1_beginSaying_51 : decode cX1_beginSaying 51 = .ok (.goto 5, 3) := by decide +kernel
theorem dJ6_bitCount_0f7a4_0 : decode cJ6_bitCount_0f7a4 0 = .ok (.iload_n 0, 1) := by decide +kernel
theorem dJ6_bitCount_0f7a4_1 : decode cJ6_bitCount_0f7a4 1 = .ok (.iload_n 0, 1) := by decide +kernel
theorem dJ6_bitCount_0f7a4_2 : decode cJ6_bitCount_0f7a4 2 = .ok (.iconst 1, 1) := by decide +kernel
theorem dJ6_bitCount_0f7a4_3 : decode cJ6_bitCount_0f7a4 3 = .ok (.iushr, 1) := by decide +kernel
theorem dJ6_bitCount_0f7a4_4 : decode cJ6_bitCount_0f7a4 4 = .ok (.ldc_w 265, 3) := by decide +kernel
theorem dJ6_bitCount_0f7a4_7 : decode cJ6_bitCount_0f7a4 7 = .ok (.iand, 1) := by decide +kernel
theorem dJ6_bitCount_0f7a4_8 : decode cJ6_bitCount_0f7a4 8 = .ok (.isub, 1) := by decide +kernel
theorem dJ6_bitCount_0f7a4_9 : decode cJ6_bitCount_0f7a4 9 = .ok (.istore_n 0, 1) := by decide +kernel
theorem dJ6_bitCount_0f7a4_10 : decode cJ6_bitCount_0f7a4 10 = .ok (.iload_n 0, 1) := by decide +kernel
theorem dJ6_bitCount_0f7a4_11 : decode cJ6_bitCount_0f7a4 11 = .ok (.ldc_w 266, 3) := by decide +kernel
theorem dJ6_bitCount_0f7a4_14 : decode cJ6_bitCount_0f7a4 14 = .ok (.iand, 1) := by decide +kernel
theorem dJ6_bitCount_0f7a4_15 : decode cJ6_bitCount_0f7a4 15 = .ok (.iload_n 0, 1) := by decide +kernel
theorem dJ6_bitCount_0f7a4_16 : decode cJ6_bitCount_0f7a4 16 = .ok (.iconst 2, 1) := by decide +kernel
theorem dJ6_bitCount_0f7a4_17 : decode cJ6_bitCount_0f7a4 17 = .ok (.iushr, 1) := by decide +kernel
theorem dJ6_bitCount_0f7a4_18 : decode cJ6_bitCount_0f7a4 18 = .ok (.ldc_w 266, 3) := by decide +kernel
theorem dJ6_bitCount_0f7a4_21 : decode cJ6_bitCount_0f7a4 21 = .ok (.iand, 1) := by decide +kernel
theorem dJ6_bitCount_0f7a4_22 : decode cJ6_bitCount_0f7a4 22 = .ok (.iadd, 1) := by decide +kernel
theorem dJ6_bitCount_0f7a4_23 : decode cJ6_bitCount_0f7a4 23 = .ok (.istore_n 0, 1) := by decide +kernel
theorem dJ6_bitCount_0f7a4_24 : decode cJ6_bitCount_0f7a4 24 = .ok (.iload_n 0, 1) := by decide +kernel
theorem dJ6_bitCount_0f7a4_25 : decode cJ6_bitCount_0f7a4 25 = .ok (.iload_n 0, 1) := by decide +kernel
theorem dJ6_bitCount_0f7a4_26 : decode cJ6_bitCount_0f7a4 26 = .ok (.iconst 4, 1) := by decide +kernel
theorem dJ6_bitCount_0f7a4_27 : decode cJ6_bitCount_0f7a4 27 = .ok (.iushr, 1) := by decide +kernel
theorem dJ6_bitCount_0f7a4_28 : decode cJ6_bitCount_0f7a4 28 = .ok (.iadd, 1) := by decide +kernel
theorem dJ6_bitCount_0f7a4_29 : decode cJ6_bitCount_0f7a4 29 = .ok (.ldc_w 267, 3) := by decide +kernel
theorem dJ6_bitCount_0f7a4_32 : decode cJ6_bitCount_0f7a4 32 = .ok (.iand, 1) := by decide +kernel
theorem dJ6_bitCount_0f7a4_33 : decode cJ6_bitCount_0f7a4 33 = .ok (.istore_n 0, 1) := by decide +kernel
theorem dJ6_bitCount_0f7a4_34 : decode cJ6_bitCount_0f7a4 34 = .ok (.iload_n 0, 1) := by decide +kernel
theorem dJ6_bitCount_0f7a4_35 : decode cJ6_bitCount_0f7a4 35 = .ok (.iload_n 0, 1) := by decide +kernel
theorem dJ6_bitCount_0f7a4_36 : decode cJ6_bitCount_0f7a4 36 = .ok (.bipush 8, 2) := by decide +kernel
theorem dJ6_bitCount_0f7a4_38 : decode cJ6_bitCount_0f7a4 38 = .ok (.iushr, 1) := by decide +kernel
theorem dJ6_bitCount_0f7a4_39 : decode cJ6_bitCount_0f7a4 39 = .ok (.iadd, 1) := by decide +kernel
theorem dJ6_bitCount_0f7a4_40 : decode cJ6_bitCount_0f7a4 40 = .ok (.istore_n 0, 1) := by decide +kernel
theorem dJ6_bitCount_0f7a4_41 : decode cJ6_bitCount_0f7a4 41 = .ok (.iload_n 0, 1) := by decide +kernel
theorem dJ6_bitCount_0f7a4_42 : decode cJ6_bitCount_0f7a4 42 = .ok (.iload_n 0, 1) := by decide +kernel
theorem dJ6_bitCount_0f7a4_43 : decode cJ6_bitCount_0f7a4 43 = .ok (.bipush 16, 2) := by decide +kernel
theorem dJ6_bitCount_0f7a4_45 : decode cJ6_bitCount_0f7a4 45 = .ok (.iushr, 1) := by decide +kernel
theorem dJ6_bitCount_0f7a4_46 : decode cJ6_bitCount_0f7a4 46 = .ok (.iadd, 1) := by decide +kernel
theorem dJ6_bitCount_0f7a4_47 : decode cJ6_bitCount_0f7a4 47 = .ok (.istore_n 0, 1) := by decide +kernel
theorem dJ6_bitCount_0f7a4_48 : decode cJ6_bitCount_0f7a4 48 = .ok (.iload_n 0, 1) := by decide +kernel
theorem dJ6_bitCount_0f7a4_49 : decode cJ6_bitCount_0f7a4 49 = .ok (.bipush 63, 2) := by decide +kernel
theorem dJ6_bitCount_0f7a4_51 : decode cJ6_bitCount_0f7a4 51 = .ok (.iand, 1) := by decide +kernel
theorem dJ6_bitCount_0f7a4_52 : decode cJ6_bitCount_0f7a4 52 = .ok (.ireturn, 1) := by decide +kernel
theorem dX1_characterBit_0 : decode cX1_characterBit 0 = .ok (.iload_n 1, 1) := by decide +kernel
theorem dX1_characterBit_1 : decode cX1_characterBit 1 = .ok (.ifCond .ne 5, 3) := by decide +kernel
theorem dX1_characterBit_6 : decode cX1_characterBit 6 = .ok (.iload_n 1, 1) := by decide +kernel
theorem dX1_characterBit_7 : decode cX1_characterBit 7 = .ok (.bipush 8, 2) := by decide +kernel
theorem dX1_characterBit_9 : decode cX1_characterBit 9 = .ok (.if_icmp .gt 11, 3) := by decide +kernel
theorem dX1_characterBit_20 : decode cX1_characterBit 20 = .ok (.iload_n 1, 1) := by decide +kernel
theorem dX1_characterBit_21 : decode cX1_characterBit 21 = .ok (.bipush 9, 2) := by decide +kernel
theorem dX1_characterBit_23 : decode cX1_characterBit 23 = .ok (.if_icmp .ne 12, 3) := by decide +kernel
theorem dX1_characterBit_35 : decode cX1_characterBit 35 = .ok (.iconst 1, 1) := by decide +kernel
theorem dX1_characterBit_36 : decode cX1_characterBit 36 = .ok (.ireturn, 1) := by decide +kernel
theorem dX1_characterBit_26 : decode cX1_characterBit 26 = .ok (.iload_n 0, 1) := by decide +kernel
theorem dX1_characterBit_27 : decode cX1_characterBit 27 = .ok (.invokestatic 119, 3) := by decide +kernel
theorem dX1_characterBit_30 : decode cX1_characterBit 30 = .ok (.iconst 1, 1) := by decide +kernel
theorem dX1_characterBit_31 : decode cX1_characterBit 31 = .ok (.iand, 1) := by decide +kernel
theorem dX1_characterBit_32 : decode cX1_characterBit 32 = .ok (.goto 4, 3) := by decide +kernel
theorem dX1_characterBit_12 : decode cX1_characterBit 12 = .ok (.iload_n 0, 1) := by decide +kernel
theorem dX1_characterBit_13 : decode cX1_characterBit 13 = .ok (.iload_n 1, 1) := by decide +kernel
theorem dX1_characterBit_14 : decode cX1_characterBit 14 = .ok (.iconst 1, 1) := by decide +kernel
theorem dX1_characterBit_15 : decode cX1_characterBit 15 = .ok (.isub, 1) := by decide +kernel
theorem dX1_characterBit_16 : decode cX1_characterBit 16 = .ok (.ishr, 1) := by decide +kernel
theorem dX1_characterBit_17 : decode cX1_characterBit 17 = .ok (.iconst 1, 1) := by decide +kernel
theorem dX1_characterBit_18 : decode cX1_characterBit 18 = .ok (.iand, 1) := by decide +kernel
theorem dX1_characterBit_19 : decode cX1_characterBit 19 = .ok (.ireturn, 1) := by decide +kernel
theorem dX1_characterBit_4 : decode cX1_characterBit 4 = .ok (.iconst 0, 1) := by decide +kernel
theorem dX1_characterBit_5 : decode cX1_characterBit 5 = .ok (.ireturn, 1) := by decide +kernel
theorem dX1_saidBit_0 : decode cX1_saidBit 0 = .ok (.aload_n 0, 1) := by decide +kernel
theorem dX1_saidBit_1 : decode cX1_saidBit 1 = .ok (.getfield 13, 3) := by decide +kernel
theorem dX1_saidBit_4 : decode cX1_saidBit 4 = .ok (.iload_n 1, 1) := by decide +kernel
theorem dX1_saidBit_5 : decode cX1_saidBit 5 = .ok (.aaload, 1) := by decide +kernel
theorem dX1_saidBit_6 : decode cX1_saidBit 6 = .ok (.iconst 1, 1) := by decide +kernel
theorem dX1_saidBit_7 : decode cX1_saidBit 7 = .ok (.iaload, 1) := by decide +kernel
theorem dX1_saidBit_8 : decode cX1_saidBit 8 = .ok (.istore_n 2, 1) := by decide +kernel
theorem dX1_saidBit_9 : decode cX1_saidBit 9 = .ok (.aload_n 0, 1) := by decide +kernel
theorem dX1_saidBit_10 : decode cX1_saidBit 10 = .ok (.getfield 19, 3) := by decide +kernel
theorem dX1_saidBit_13 : decode cX1_saidBit 13 = .ok (.iload_n 1, 1) := by decide +kernel
theorem dX1_saidBit_14 : decode cX1_saidBit 14 = .ok (.aaload, 1) := by decide +kernel
theorem dX1_saidBit_15 : decode cX1_saidBit 15 = .ok (.iload_n 2, 1) := by decide +kernel
theorem dX1_saidBit_16 : decode cX1_saidBit 16 = .ok (.bipush 13, 2) := by decide +kernel
theorem dX1_saidBit_18 : decode cX1_saidBit 18 = .ok (.idiv, 1) := by decide +kernel
theorem dX1_saidBit_19 : decode cX1_saidBit 19 = .ok (.iaload, 1) := by decide +kernel
theorem dX1_saidBit_20 : decode cX1_saidBit 20 = .ok (.iload_n 2, 1) := by decide +kernel
theorem dX1_saidBit_21 : decode cX1_saidBit 21 = .ok (.bipush 13, 2) := by decide +kernel
theorem dX1_saidBit_23 : decode cX1_saidBit 23 = .ok (.irem, 1) := by decide +kernel
theorem dX1_saidBit_24 : decode cX1_saidBit 24 = .ok (.invokestatic 115, 3) := by decide +kernel
theorem dX1_saidBit_27 : decode cX1_saidBit 27 = .ok (.ireturn, 1) := by decide +kernel
theorem dX1_lineNow_0 : decode cX1_lineNow 0 = .ok (.iconst 1, 1) := by decide +kernel
theorem dX1_lineNow_1 : decode cX1_lineNow 1 = .ok (.istore_n 1, 1) := by decide +kernel
theorem dX1_lineNow_2 : decode cX1_lineNow 2 = .ok (.aload_n 0, 1) := by decide +kernel
theorem dX1_lineNow_3 : decode cX1_lineNow 3 = .ok (.getfield 60, 3) := by decide +kernel
theorem dX1_lineNow_6 : decode cX1_lineNow 6 = .ok (.aload_n 0, 1) := by decide +kernel
theorem dX1_lineNow_7 : decode cX1_lineNow 7 = .ok (.getfield 30, 3) := by decide +kernel
theorem dX1_lineNow_10 : decode cX1_lineNow 10 = .ok (.arraylength, 1) := by decide +kernel
theorem dX1_lineNow_11 : decode cX1_lineNow 11 = .ok (.irem, 1) := by decide +kernel
theorem dX1_lineNow_12 : decode cX1_lineNow 12 = .ok (.istore_n 2, 1) := by decide +kernel
theorem dX1_lineNow_13 : decode cX1_lineNow 13 = .ok (.aload_n 0, 1) := by decide +kernel
theorem dX1_lineNow_14 : decode cX1_lineNow 14 = .ok (.getfield 30, 3) := by decide +kernel
theorem dX1_lineNow_17 : decode cX1_lineNow 17 = .ok (.iload_n 2, 1) := by decide +kernel
theorem dX1_lineNow_18 : decode cX1_lineNow 18 = .ok (.baload, 1) := by decide +kernel
theorem dX1_lineNow_19 : decode cX1_lineNow 19 = .ok (.ifCond .eq 22, 3) := by decide +kernel
theorem dX1_lineNow_41 : decode cX1_lineNow 41 = .ok (.iconst 0, 1) := by decide +kernel
theorem dX1_lineNow_42 : decode cX1_lineNow 42 = .ok (.istore_n 3, 1) := by decide +kernel
theorem dX1_lineNow_43 : decode cX1_lineNow 43 = .ok (.iload_n 3, 1) := by decide +kernel
theorem dX1_lineNow_44 : decode cX1_lineNow 44 = .ok (.bipush 8, 2) := by decide +kernel
theorem dX1_lineNow_46 : decode cX1_lineNow 46 = .ok (.if_icmp .ge 62, 3) := by decide +kernel
theorem dX1_lineNow_49 : decode cX1_lineNow 49 = .ok (.aload_n 0, 1) := by decide +kernel
theorem dX1_lineNow_50 : decode cX1_lineNow 50 = .ok (.getfield 13, 3) := by decide +kernel
theorem dX1_lineNow_53 : decode cX1_lineNow 53 = .ok (.iload_n 3, 1) := by decide +kernel
theorem dX1_lineNow_54 : decode cX1_lineNow 54 = .ok (.aaload, 1) := by decide +kernel
theorem dX1_lineNow_55 : decode cX1_lineNow 55 = .ok (.astore 4, 2) := by decide +kernel
theorem dX1_lineNow_57 : decode cX1_lineNow 57 = .ok (.aload 4, 2) := by decide +kernel
theorem dX1_lineNow_59 : decode cX1_lineNow 59 = .ok (.iconst 1, 1) := by decide +kernel
theorem dX1_lineNow_60 : decode cX1_lineNow 60 = .ok (.iaload, 1) := by decide +kernel
theorem dX1_lineNow_61 : decode cX1_lineNow 61 = .ok (.iconst (-1), 1) := by decide +kernel
theorem dX1_lineNow_62 : decode cX1_lineNow 62 = .ok (.if_icmp .eq 13, 3) := by decide +kernel
theorem dX1_lineNow_75 : decode cX1_lineNow 75 = .ok (.aload 4, 2) := by decide +kernel
theorem dX1_lineNow_77 : decode cX1_lineNow 77 = .ok (.bipush 9, 2) := by decide +kernel
theorem dX1_lineNow_79 : decode cX1_lineNow 79 = .ok (.iaload, 1) := by decide +kernel
theorem dX1_lineNow_80 : decode cX1_lineNow 80 = .ok (.iconst (-1), 1) := by decide +kernel
theorem dX1_lineNow_81 : decode cX1_lineNow 81 = .ok (.if_icmp .eq 21, 3) := by decide +kernel
theorem dX1_lineNow_102 : decode cX1_lineNow 102 = .ok (.iinc 3 1, 3) := by decide +kernel
theorem dX1_lineNow_105 : decode cX1_lineNow 105 = .ok (.goto (-62), 3) := by decide +kernel
theorem dX1_lineNow_84 : decode cX1_lineNow 84 = .ok (.aload 4, 2) := by decide +kernel
theorem dX1_lineNow_86 : decode cX1_lineNow 86 = .ok (.bipush 8, 2) := by decide +kernel
theorem dX1_lineNow_88 : decode cX1_lineNow 88 = .ok (.iaload, 1) := by decide +kernel
theorem dX1_lineNow_89 : decode cX1_lineNow 89 = .ok (.aload 4, 2) := by decide +kernel
theorem dX1_lineNow_91 : decode cX1_lineNow 91 = .ok (.bipush 9, 2) := by decide +kernel
theorem dX1_lineNow_93 : decode cX1_lineNow 93 = .ok (.iaload, 1) := by decide +kernel
theorem dX1_lineNow_94 : decode cX1_lineNow 94 = .ok (.invokestatic 115, 3) := by decide +kernel
theorem dX1_lineNow_97 : decode cX1_lineNow 97 = .ok (.ifCond .ne 5, 3) := by decide +kernel
theorem dX1_lineNow_100 : decode cX1_lineNow 100 = .ok (.iconst 0, 1) := by decide +kernel
theorem dX1_lineNow_101 : decode cX1_lineNow 101 = .ok (.istore_n 1, 1) := by decide +kernel
theorem dX1_lineNow_65 : decode cX1_lineNow 65 = .ok (.aload_n 0, 1) := by decide +kernel
theorem dX1_lineNow_66 : decode cX1_lineNow 66 = .ok (.iload_n 3, 1) := by decide +kernel
theorem dX1_lineNow_67 : decode cX1_lineNow 67 = .ok (.invokevirtual 111, 3) := by decide +kernel
theorem dX1_lineNow_70 : decode cX1_lineNow 70 = .ok (.ifCond .ne 5, 3) := by decide +kernel
theorem dX1_lineNow_73 : decode cX1_lineNow 73 = .ok (.iconst 0, 1) := by decide +kernel
theorem dX1_lineNow_74 : decode cX1_lineNow 74 = .ok (.istore_n 1, 1) := by decide +kernel
theorem dX1_lineNow_108 : decode cX1_lineNow 108 = .ok (.iload_n 1, 1) := by decide +kernel
theorem dX1_lineNow_109 : decode cX1_lineNow 109 = .ok (.ireturn, 1) := by decide +kernel
theorem dX1_lineNow_22 : decode cX1_lineNow 22 = .ok (.aload_n 0, 1) := by decide +kernel
theorem dX1_lineNow_23 : decode cX1_lineNow 23 = .ok (.getfield 30, 3) := by decide +kernel
theorem dX1_lineNow_26 : decode cX1_lineNow 26 = .ok (.iload_n 2, 1) := by decide +kernel
theorem dX1_lineNow_27 : decode cX1_lineNow 27 = .ok (.iconst 0, 1) := by decide +kernel
theorem dX1_lineNow_28 : decode cX1_lineNow 28 = .ok (.bastore, 1) := by decide +kernel
theorem dX1_lineNow_29 : decode cX1_lineNow 29 = .ok (.aload_n 0, 1) := by decide +kernel
theorem dX1_lineNow_30 : decode cX1_lineNow 30 = .ok (.dup, 1) := by decide +kernel
theorem dX1_lineNow_31 : decode cX1_lineNow 31 = .ok (.getfield 63, 3) := by decide +kernel
theorem dX1_lineNow_34 : decode cX1_lineNow 34 = .ok (.iconst 1, 1) := by decide +kernel
theorem dX1_lineNow_35 : decode cX1_lineNow 35 = .ok (.isub, 1) := by decide +kernel
theorem dX1_lineNow_36 : decode cX1_lineNow 36 = .ok (.putfield 63, 3) := by decide +kernel
theorem dX1_lineNow_39 : decode cX1_lineNow 39 = .ok (.iconst 0, 1) := by decide +kernel
theorem dX1_lineNow_40 : decode cX1_lineNow 40 = .ok (.istore_n 1, 1) := by decide +kernel
theorem dX1_goOnSaying_0 : decode cX1_goOnSaying 0 = .ok (.aload_n 0, 1) := by decide +kernel
theorem dX1_goOnSaying_1 : decode cX1_goOnSaying 1 = .ok (.getfield 13, 3) := by decide +kernel
theorem dX1_goOnSaying_4 : decode cX1_goOnSaying 4 = .ok (.iload_n 1, 1) := by decide +kernel
theorem dX1_goOnSaying_5 : decode cX1_goOnSaying 5 = .ok (.aaload, 1) := by decide +kernel
theorem dX1_goOnSaying_6 : decode cX1_goOnSaying 6 = .ok (.astore_n 3, 1) := by decide +kernel
theorem dX1_goOnSaying_7 : decode cX1_goOnSaying 7 = .ok (.aload_n 3, 1) := by decide +kernel
theorem dX1_goOnSaying_8 : decode cX1_goOnSaying 8 = .ok (.iconst 1, 1) := by decide +kernel
theorem dX1_goOnSaying_9 : decode cX1_goOnSaying 9 = .ok (.iaload, 1) := by decide +kernel
theorem dX1_goOnSaying_10 : decode cX1_goOnSaying 10 = .ok (.iconst (-1), 1) := by decide +kernel
theorem dX1_goOnSaying_11 : decode cX1_goOnSaying 11 = .ok (.if_icmp .ne 4, 3) := by decide +kernel
theorem dX1_goOnSaying_15 : decode cX1_goOnSaying 15 = .ok (.iload_n 2, 1) := by decide +kernel
theorem dX1_goOnSaying_16 : decode cX1_goOnSaying 16 = .ok (.ifCond .ne 24, 3) := by decide +kernel
theorem dX1_goOnSaying_40 : decode cX1_goOnSaying 40 = .ok (.aload_n 3, 1) := by decide +kernel
theorem dX1_goOnSaying_41 : decode cX1_goOnSaying 41 = .ok (.iconst 1, 1) := by decide +kernel
theorem dX1_goOnSaying_42 : decode cX1_goOnSaying 42 = .ok (.dup2, 1) := by decide +kernel
theorem dX1_goOnSaying_43 : decode cX1_goOnSaying 43 = .ok (.iaload, 1) := by decide +kernel
theorem dX1_goOnSaying_44 : decode cX1_goOnSaying 44 = .ok (.iconst 1, 1) := by decide +kernel
theorem dX1_goOnSaying_45 : decode cX1_goOnSaying 45 = .ok (.iadd, 1) := by decide +kernel
theorem dX1_goOnSaying_46 : decode cX1_goOnSaying 46 = .ok (.iastore, 1) := by decide +kernel
theorem dX1_goOnSaying_47 : decode cX1_goOnSaying 47 = .ok (.bipush 7, 2) := by decide +kernel
theorem dX1_goOnSaying_49 : decode cX1_goOnSaying 49 = .ok (.aload_n 0, 1) := by decide +kernel
theorem dX1_goOnSaying_50 : decode cX1_goOnSaying 50 = .ok (.getfield 16, 3) := by decide +kernel
theorem dX1_goOnSaying_53 : decode cX1_goOnSaying 53 = .ok (.iload_n 1, 1) := by decide +kernel
theorem dX1_goOnSaying_54 : decode cX1_goOnSaying 54 = .ok (.aaload, 1) := by decide +kernel
theorem dX1_goOnSaying_55 : decode cX1_goOnSaying 55 = .ok (.iconst 4, 1) := by decide +kernel
theorem dX1_goOnSaying_56 : decode cX1_goOnSaying 56 = .ok (.iaload, 1) := by decide +kernel
theorem dX1_goOnSaying_57 : decode cX1_goOnSaying 57 = .ok (.iadd, 1) := by decide +kernel
theorem dX1_goOnSaying_58 : decode cX1_goOnSaying 58 = .ok (.bipush 13, 2) := by decide +kernel
theorem dX1_goOnSaying_60 : decode cX1_goOnSaying 60 = .ok (.imul, 1) := by decide +kernel
theorem dX1_goOnSaying_61 : decode cX1_goOnSaying 61 = .ok (.iconst 2, 1) := by decide +kernel
theorem dX1_goOnSaying_62 : decode cX1_goOnSaying 62 = .ok (.isub, 1) := by decide +kernel
theorem dX1_goOnSaying_63 : decode cX1_goOnSaying 63 = .ok (.istore 4, 2) := by decide +kernel
theorem dX1_goOnSaying_65 : decode cX1_goOnSaying 65 = .ok (.aload_n 3, 1) := by decide +kernel
theorem dX1_goOnSaying_66 : decode cX1_goOnSaying 66 = .ok (.iconst 1, 1) := by decide +kernel
theorem dX1_goOnSaying_67 : decode cX1_goOnSaying 67 = .ok (.iaload, 1) := by decide +kernel
theorem dX1_goOnSaying_68 : decode cX1_goOnSaying 68 = .ok (.iload 4, 2) := by decide +kernel
theorem dX1_goOnSaying_70 : decode cX1_goOnSaying 70 = .ok (.if_icmp .lt 30, 3) := by decide +kernel
theorem dX1_goOnSaying_100 : decode cX1_goOnSaying 100 = .ok (.return_, 1) := by decide +kernel
theorem dX1_goOnSaying_73 : decode cX1_goOnSaying 73 = .ok (.aload_n 3, 1) := by decide +kernel
theorem dX1_goOnSaying_74 : decode cX1_goOnSaying 74 = .ok (.iconst 1, 1) := by decide +kernel
theorem dX1_goOnSaying_75 : decode cX1_goOnSaying 75 = .ok (.iconst (-1), 1) := by decide +kernel
theorem dX1_goOnSaying_76 : decode cX1_goOnSaying 76 = .ok (.iastore, 1) := by decide +kernel
theorem dX1_goOnSaying_77 : decode cX1_goOnSaying 77 = .ok (.aload_n 3, 1) := by decide +kernel
theorem dX1_goOnSaying_78 : decode cX1_goOnSaying 78 = .ok (.iconst 2, 1) := by decide +kernel
theorem dX1_goOnSaying_79 : decode cX1_goOnSaying 79 = .ok (.aload_n 0, 1) := by decide +kernel
theorem dX1_goOnSaying_80 : decode cX1_goOnSaying 80 = .ok (.getfield 60, 3) := by decide +kernel
theorem dX1_goOnSaying_83 : decode cX1_goOnSaying 83 = .ok (.bipush 28, 2) := by decide +kernel
theorem dX1_goOnSaying_85 : decode cX1_goOnSaying 85 = .ok (.iadd, 1) := by decide +kernel
theorem dX1_goOnSaying_86 : decode cX1_goOnSaying 86 = .ok (.iastore, 1) := by decide +kernel
theorem dX1_goOnSaying_87 : decode cX1_goOnSaying 87 = .ok (.aload_n 0, 1) := by decide +kernel
theorem dX1_goOnSaying_88 : decode cX1_goOnSaying 88 = .ok (.getfield 16, 3) := by decide +kernel
theorem dX1_goOnSaying_91 : decode cX1_goOnSaying 91 = .ok (.iload_n 1, 1) := by decide +kernel
theorem dX1_goOnSaying_92 : decode cX1_goOnSaying 92 = .ok (.aaload, 1) := by decide +kernel
theorem dX1_goOnSaying_93 : decode cX1_goOnSaying 93 = .ok (.bipush 6, 2) := by decide +kernel
theorem dX1_goOnSaying_95 : decode cX1_goOnSaying 95 = .ok (.dup2, 1) := by decide +kernel
theorem dX1_goOnSaying_96 : decode cX1_goOnSaying 96 = .ok (.iaload, 1) := by decide +kernel
theorem dX1_goOnSaying_97 : decode cX1_goOnSaying 97 = .ok (.iconst 1, 1) := by decide +kernel
theorem dX1_goOnSaying_98 : decode cX1_goOnSaying 98 = .ok (.iadd, 1) := by decide +kernel
theorem dX1_goOnSaying_99 : decode cX1_goOnSaying 99 = .ok (.iastore, 1) := by decide +kernel
theorem dX1_goOnSaying_19 : decode cX1_goOnSaying 19 = .ok (.aload_n 0, 1) := by decide +kernel
theorem dX1_goOnSaying_20 : decode cX1_goOnSaying 20 = .ok (.iload_n 1, 1) := by decide +kernel
theorem dX1_goOnSaying_21 : decode cX1_goOnSaying 21 = .ok (.invokevirtual 111, 3) := by decide +kernel
theorem dX1_goOnSaying_24 : decode cX1_goOnSaying 24 = .ok (.iconst 1, 1) := by decide +kernel
theorem dX1_goOnSaying_25 : decode cX1_goOnSaying 25 = .ok (.if_icmp .ne 15, 3) := by decide +kernel
theorem dX1_goOnSaying_28 : decode cX1_goOnSaying 28 = .ok (.aload_n 3, 1) := by decide +kernel
theorem dX1_goOnSaying_29 : decode cX1_goOnSaying 29 = .ok (.iconst 1, 1) := by decide +kernel
theorem dX1_goOnSaying_30 : decode cX1_goOnSaying 30 = .ok (.iconst (-1), 1) := by decide +kernel
theorem dX1_goOnSaying_31 : decode cX1_goOnSaying 31 = .ok (.iastore, 1) := by decide +kernel
theorem dX1_goOnSaying_32 : decode cX1_goOnSaying 32 = .ok (.aload_n 3, 1) := by decide +kernel
theorem dX1_goOnSaying_33 : decode cX1_goOnSaying 33 = .ok (.iconst 5, 1) := by decide +kernel
theorem dX1_goOnSaying_34 : decode cX1_goOnSaying 34 = .ok (.dup2, 1) := by decide +kernel
theorem dX1_goOnSaying_35 : decode cX1_goOnSaying 35 = .ok (.iaload, 1) := by decide +kernel
theorem dX1_goOnSaying_36 : decode cX1_goOnSaying 36 = .ok (.iconst 1, 1) := by decide +kernel
theorem dX1_goOnSaying_37 : decode cX1_goOnSaying 37 = .ok (.iadd, 1) := by decide +kernel
theorem dX1_goOnSaying_38 : decode cX1_goOnSaying 38 = .ok (.iastore, 1) := by decide +kernel
theorem dX1_goOnSaying_39 : decode cX1_goOnSaying 39 = .ok (.return_, 1) := by decide +kernel
theorem dX1_goOnSaying_14 : decode cX1_goOnSaying 14 = .ok (.return_, 1) := by decide +kernel
theorem dX1_goOnAnswering_0 : decode cX1_goOnAnswering 0 = .ok (.aload_n 0, 1) := by decide +kernel
theorem dX1_goOnAnswering_1 : decode cX1_goOnAnswering 1 = .ok (.getfield 13, 3) := by decide +kernel
theorem dX1_goOnAnswering_4 : decode cX1_goOnAnswering 4 = .ok (.iload_n 1, 1) := by decide +kernel
theorem dX1_goOnAnswering_5 : decode cX1_goOnAnswering 5 = .ok (.aaload, 1) := by decide +kernel
theorem dX1_goOnAnswering_6 : decode cX1_goOnAnswering 6 = .ok (.astore_n 2, 1) := by decide +kernel
theorem dX1_goOnAnswering_7 : decode cX1_goOnAnswering 7 = .ok (.aload_n 2, 1) := by decide +kernel
theorem dX1_goOnAnswering_8 : decode cX1_goOnAnswering 8 = .ok (.bipush 9, 2) := by decide +kernel
theorem dX1_goOnAnswering_10 : decode cX1_goOnAnswering 10 = .ok (.iaload, 1) := by decide +kernel
theorem dX1_goOnAnswering_11 : decode cX1_goOnAnswering 11 = .ok (.iconst (-1), 1) := by decide +kernel
theorem dX1_goOnAnswering_12 : decode cX1_goOnAnswering 12 = .ok (.if_icmp .eq 28, 3) := by decide +kernel
theorem dX1_goOnAnswering_40 : decode cX1_goOnAnswering 40 = .ok (.return_, 1) := by decide +kernel
theorem dX1_goOnAnswering_15 : decode cX1_goOnAnswering 15 = .ok (.aload_n 2, 1) := by decide +kernel
theorem dX1_goOnAnswering_16 : decode cX1_goOnAnswering 16 = .ok (.bipush 9, 2) := by decide +kernel
theorem dX1_goOnAnswering_18 : decode cX1_goOnAnswering 18 = .ok (.aload_n 2, 1) := by decide +kernel
theorem dX1_goOnAnswering_19 : decode cX1_goOnAnswering 19 = .ok (.bipush 9, 2) := by decide +kernel
theorem dX1_goOnAnswering_21 : decode cX1_goOnAnswering 21 = .ok (.iaload, 1) := by decide +kernel
theorem dX1_goOnAnswering_22 : decode cX1_goOnAnswering 22 = .ok (.iconst 1, 1) := by decide +kernel
theorem dX1_goOnAnswering_23 : decode cX1_goOnAnswering 23 = .ok (.iadd, 1) := by decide +kernel
theorem dX1_goOnAnswering_24 : decode cX1_goOnAnswering 24 = .ok (.bipush 11, 2) := by decide +kernel
theorem dX1_goOnAnswering_26 : decode cX1_goOnAnswering 26 = .ok (.if_icmp .ge 12, 3) := by decide +kernel
theorem dX1_goOnAnswering_38 : decode cX1_goOnAnswering 38 = .ok (.iconst (-1), 1) := by decide +kernel
theorem dX1_goOnAnswering_39 : decode cX1_goOnAnswering 39 = .ok (.iastore, 1) := by decide +kernel
theorem dX1_goOnAnswering_29 : decode cX1_goOnAnswering 29 = .ok (.aload_n 2, 1) := by decide +kernel
theorem dX1_goOnAnswering_30 : decode cX1_goOnAnswering 30 = .ok (.bipush 9, 2) := by decide +kernel
theorem dX1_goOnAnswering_32 : decode cX1_goOnAnswering 32 = .ok (.iaload, 1) := by decide +kernel
theorem dX1_goOnAnswering_33 : decode cX1_goOnAnswering 33 = .ok (.iconst 1, 1) := by decide +kernel
theorem dX1_goOnAnswering_34 : decode cX1_goOnAnswering 34 = .ok (.iadd, 1) := by decide +kernel
theorem dX1_goOnAnswering_35 : decode cX1_goOnAnswering 35 = .ok (.goto 4, 3) := by decide +kernel
theorem zl_X0_150 : zm_L zk_E RX0 150 yX0_takeRow (.code yX0_takeRow cX0_takeRow 8 none) 5 ∧ Cond.instanceMethod yX0_takeRow ∈ zk_E.2.2.1 ∧ Cond.selects yX0_takeRow.cls yX0_takeRow yX0_takeRow ∈ zk_E.2.2.1 := ⟨⟨zk_b8 185 (by decide +kernel) rfl, zk_b1 7 (by decide +kernel) rfl, zk_b8 182 (by decide +kernel) rfl, by decide +kernel, by decide +kernel, by decide +kernel⟩, zk_b8 184 (by decide +kernel) rfl, zk_s5 (q := (yX0_takeRow, 19)) 4 (by decide +kernel)⟩
theorem zl_X0_171 : Cond.methodLink RX0 171 Lib.Math.min.name ∈ zk_E.2.2.1 ∧ Cond.static Lib.Math.min.name ∈ zk_E.2.2.1 ∧ Cond.initialized "java/lang/Math" ∈ zk_E.2.2.1 ∧ Cond.code Lib.Math.min.name Lib.Math.min.code 2 (some .int) ∈ zk_E.2.2.1 := ⟨zk_b9 86 (by decide +kernel) rfl, zk_b4 214 (by decide +kernel) rfl, zk_b1 25 (by decide +kernel) rfl, zk_b4 215 (by decide +kernel) rfl⟩
theorem zl_X0_179 : zm_F zk_E RX0 179 0 17 := ⟨RX0, TX0, 19, rfl, zk_i0, by decide, zk_b2 85 (by decide +kernel) rfl⟩
theorem zt_0_17 : zm_T zk_E RX0 0 17 .int false := ⟨RX0, TX0, 19, tyX0, rfl, tyX0_ok, nmX0, rfl, rfl, rfl⟩
theorem zl_X0_182 : zm_F zk_E RX0 182 0 18 := ⟨RX0, TX0, 19, rfl, zk_i0, by decide, zk_b2 86 (by decide +kernel) rfl⟩
theorem zt_0_18 : zm_T zk_E RX0 0 18 .boolean false := ⟨RX0, TX0, 19, tyX0, rfl, tyX0_ok, nmX0, rfl, rfl, rfl⟩
theorem zl_X0_207 : zm_L zk_E RX0 207 yX10_roomOf (.code yX10_roomOf cX10_roomOf 2 (some .int)) 1 ∧ Cond.instanceMethod yX10_roomOf ∈ zk_E.2.2.1 ∧ Cond.selects yX10_roomOf.cls yX10_roomOf yX10_roomOf ∈ zk_E.2.2.1 := ⟨⟨zk_b9 31 (by decide +kernel) rfl, zk_b1 6 (by decide +kernel) rfl, zk_b9 28 (by decide +kernel) rfl, by decide +kernel, by decide +kernel, by decide +kernel⟩, zk_b9 29 (by decide +kernel) rfl, zk_b9 30 (by decide +kernel) rfl⟩
theorem zl_X0_204 : zm_L zk_E RX0 204 yX0_isLocked (.code yX0_isLocked cX0_isLocked 3 (some .boolean)) 1 ∧ Cond.instanceMethod yX0_isLocked ∈ zk_E.2.2.1 ∧ Cond.selects yX0_isLocked.cls yX0_isLocked yX0_isLocked ∈ zk_E.2.2.1 := ⟨⟨zk_b9 35 (by decide +kernel) rfl, zk_b1 7 (by decide +kernel) rfl, zk_b9 32 (by decide +kernel) rfl, by decide +kernel, by decide +kernel, by decide +kernel⟩, zk_b9 34 (by decide +kernel) rfl, zk_s5 (q := (yX0_isLocked, 19)) 14 (by decide +kernel)⟩
theorem zl_X0_193 : zm_L zk_E RX0 193 yX0_isElsewhere (.code yX0_isElsewhere cX0_isElsewhere 6 (some .boolean)) 3 ∧ Cond.instanceMethod yX0_isElsewhere ∈ zk_E.2.2.1 ∧ Cond.selects yX0_isElsewhere.cls yX0_isElsewhere yX0_isElsewhere ∈ zk_E.2.2.1 := ⟨⟨zk_b9 27 (by decide +kernel) rfl, zk_b1 7 (by decide +kernel) rfl, zk_b9 24 (by decide +kernel) rfl, by decide +kernel, by decide +kernel, by decide +kernel⟩, zk_b9 26 (by decide +kernel) rfl, zk_s5 (q := (yX0_isElsewhere, 19)) 13 (by decide +kernel)⟩
theorem zl_X0_186 : zm_L zk_E RX0 186 yX0_refusal (.code yX0_refusal cX0_refusal 7 (some .int)) 3 ∧ Cond.instanceMethod yX0_refusal ∈ zk_E.2.2.1 ∧ Cond.selects yX0_refusal.cls yX0_refusal yX0_refusal ∈ zk_E.2.2.1 := ⟨⟨zk_b9 23 (by decide +kernel) rfl, zk_b1 7 (by decide +kernel) rfl, zk_b9 20 (by decide +kernel) rfl, by decide +kernel, by decide +kernel, by decide +kernel⟩, zk_b9 22 (by decide +kernel) rfl, zk_s5 (q := (yX0_refusal, 19)) 12 (by decide +kernel)⟩
theorem zl_X0_190 : zm_L zk_E RX0 190 yX0_letIn (.code yX0_letIn cX0_letIn 6 none) 3 ∧ Cond.instanceMethod yX0_letIn ∈ zk_E.2.2.1 ∧ Cond.selects yX0_letIn.cls yX0_letIn yX0_letIn ∈ zk_E.2.2.1 := ⟨⟨zk_b9 39 (by decide +kernel) rfl, zk_b1 7 (by decide +kernel) rfl, zk_b9 36 (by decide +kernel) rfl, by decide +kernel, by decide +kernel, by decide +kernel⟩, zk_b9 38 (by decide +kernel) rfl, zk_s5 (q := (yX0_letIn, 19)) 15 (by decide +kernel)⟩
theorem zl_X1_5 : Cond.methodLink RX1 5 Lib.objectInit ∈ zk_E.2.2.1 ∧ Cond.instanceMethod Lib.objectInit ∈ zk_E.2.2.1 ∧ Cond.code Lib.objectInit ⟨#[0xb1]⟩ 1 none ∈ zk_E.2.2.1 := ⟨zk_b3 27 (by decide +kernel) rfl, zk_b1 43 (by decide +kernel) rfl, zk_b1 44 (by decide +kernel) rfl⟩
theorem zl_X1_11 : Cond.classLink RX1 11 "[[I" ∈ zk_E.2.2.1 := zk_b3 28 (by decide +kernel) rfl
theorem zl_X1_13 : zm_F zk_E RX1 13 1 1 := ⟨RX1, TX1, 20, rfl, zk_i1, by decide, zk_b3 30 (by decide +kernel) rfl⟩
theorem zt_1_1 : zm_T zk_E RX1 1 1 (.array (.array .int)) true := ⟨RX1, TX1, 20, tyX1, rfl, tyX1_ok, nmX1, rfl, rfl, rfl⟩
theorem zl_X1_16 : zm_F zk_E RX1 16 1 2 := ⟨RX1, TX1, 20, rfl, zk_i1, by decide, zk_b3 31 (by decide +kernel) rfl⟩
theorem zt_1_2 : zm_T zk_E RX1 1 2 (.array (.array .int)) true := ⟨RX1, TX1, 20, tyX1, rfl, tyX1_ok, nmX1, rfl, rfl, rfl⟩
theorem zl_X1_19 : zm_F zk_E RX1 19 1 3 := ⟨RX1, TX1, 20, rfl, zk_i1, by decide, zk_b3 32 (by decide +kernel) rfl⟩
theorem zt_1_3 : zm_T zk_E RX1 1 3 (.array (.array .int)) true := ⟨RX1, TX1, 20, tyX1, rfl, tyX1_ok, nmX1, rfl, rfl, rfl⟩
theorem zk_ab : Cond.arrayClass .boolean ∈ zk_E.2.2.1 := zk_b1 148 (by decide +kernel) rfl
theorem zl_X1_22 : zm_F zk_E RX1 22 1 4 := ⟨RX1, TX1, 20, rfl, zk_i1, by decide, zk_b3 33 (by decide +kernel) rfl⟩
theorem zt_1_4 : zm_T zk_E RX1 1 4 (.array .boolean) true := ⟨RX1, TX1, 20, tyX1, rfl, tyX1_ok, nmX1, rfl, rfl, rfl⟩
theorem zl_X1_26 : zm_F zk_E RX1 26 1 6 := ⟨RX1, TX1, 20, rfl, zk_i1, by decide, zk_b3 35 (by decide +kernel) rfl⟩
theorem zt_1_6 : zm_T zk_E RX1 1 6 .int false := ⟨RX1, TX1, 20, tyX1, rfl, tyX1_ok, nmX1, rfl, rfl, rfl⟩
theorem zl_X1_30 : zm_F zk_E RX1 30 1 7 := ⟨RX1, TX1, 20, rfl, zk_i1, by decide, zk_b3 36 (by decide +kernel) rfl⟩
theorem zt_1_7 : zm_T zk_E RX1 1 7 (.array .boolean) true := ⟨RX1, TX1, 20, tyX1, rfl, tyX1_ok, nmX1, rfl, rfl, rfl⟩
theorem zl_X1_33 : zm_F zk_E RX1 33 1 9 := ⟨RX1, TX1, 20, rfl, zk_i1, by decide, zk_b3 39 (by decide +kernel) rfl⟩
theorem zt_1_9 : zm_T zk_E RX1 1 9 .int false := ⟨RX1, TX1, 20, tyX1, rfl, tyX1_ok, nmX1, rfl, rfl, rfl⟩
theorem zl_X1_36 : zm_F zk_E RX1 36 1 12 := ⟨RX1, TX1, 20, rfl, zk_i1, by decide, zk_b3 42 (by decide +kernel) rfl⟩
theorem zt_1_12 : zm_T zk_E RX1 1 12 (.array .int) true := ⟨RX1, TX1, 20, tyX1, rfl, tyX1_ok, nmX1, rfl, rfl, rfl⟩
theorem zl_X1_40 : zm_F zk_E RX1 40 1 14 := ⟨RX1, TX1, 20, rfl, zk_i1, by decide, zk_b3 44 (by decide +kernel) rfl⟩
theorem zt_1_14 : zm_T zk_E RX1 1 14 (.array .int) true := ⟨RX1, TX1, 20, tyX1, rfl, tyX1_ok, nmX1, rfl, rfl, rfl⟩
theorem zl_X1_43 : zm_F zk_E RX1 43 1 16 := ⟨RX1, TX1, 20, rfl, zk_i1, by decide, zk_b3 48 (by decide +kernel) rfl⟩
theorem zt_1_16 : zm_T zk_E RX1 1 16 .int false := ⟨RX1, TX1, 20, tyX1, rfl, tyX1_ok, nmX1, rfl, rfl, rfl⟩
theorem zl_X1_46 : zm_F zk_E RX1 46 1 18 := ⟨RX1, TX1, 20, rfl, zk_i1, by decide, zk_b3 50 (by decide +kernel) rfl⟩
theorem zt_1_18 : zm_T zk_E RX1 1 18 .int false := ⟨RX1, TX1, 20, tyX1, rfl, tyX1_ok, nmX1, rfl, rfl, rfl⟩
theorem zl_X1_49 : zm_F zk_E RX1 49 1 19 := ⟨RX1, TX1, 20, rfl, zk_i1, by decide, zk_b3 52 (by decide +kernel) rfl⟩
theorem zt_1_19 : zm_T zk_E RX1 1 19 (.array .int) true := ⟨RX1, TX1, 20, tyX1, rfl, tyX1_ok, nmX1, rfl, rfl, rfl⟩
theorem zl_X1_52 : zm_F zk_E RX1 52 1 0 := ⟨RX1, TX1, 20, rfl, zk_i1, by decide, zk_b3 29 (by decide +kernel) rfl⟩
theorem zt_1_0 : zm_T zk_E RX1 1 0 (.object "TowerHouse$Program") true := ⟨RX1, TX1, 20, tyX1, rfl, tyX1_ok, nmX1, rfl, rfl, rfl⟩
theorem zl_X1_56 : zm_L zk_E RX1 56 yX1_hasRoomInQueue (.code yX1_hasRoomInQueue cX1_hasRoomInQueue 2 (some .boolean)) 1 ∧ Cond.instanceMethod yX1_hasRoomInQueue ∈ zk_E.2.2.1 ∧ Cond.selects yX1_hasRoomInQueue.cls yX1_hasRoomInQueue yX1_hasRoomInQueue ∈ zk_E.2.2.1 := ⟨⟨zk_b10 87 (by decide +kernel) rfl, zk_b1 10 (by decide +kernel) rfl, zk_b10 92 (by decide +kernel) rfl, by decide +kernel, by decide +kernel, by decide +kernel⟩, zk_b10 85 (by decide +kernel) rfl, zk_b10 86 (by decide +kernel) rfl⟩
theorem zl_X1_60 : zm_F zk_E RX1 60 1 5 := ⟨RX1, TX1, 20, rfl, zk_i1, by decide, zk_b3 34 (by decide +kernel) rfl⟩
theorem zl_X1_63 : zm_F zk_E RX1 63 1 8 := ⟨RX1, TX1, 20, rfl, zk_i1, by decide, zk_b3 37 (by decide +kernel) rfl⟩
theorem zt_1_8 : zm_T zk_E RX1 1 8 .int false := ⟨RX1, TX1, 20, tyX1, rfl, tyX1_ok, nmX1, rfl, rfl, rfl⟩
theorem zl_X1_104 : zm_F zk_E RX1 104 1 15 := ⟨RX1, TX1, 20, rfl, zk_i1, by decide, zk_b3 46 (by decide +kernel) rfl⟩
theorem zl_X1_101 : zm_L zk_E RX1 101 yX1_latestAim (.code yX1_latestAim cX1_latestAim 1 (some .int)) 0 ∧ Cond.instanceMethod yX1_latestAim ∈ zk_E.2.2.1 ∧ Cond.selects yX1_latestAim.cls yX1_latestAim yX1_latestAim ∈ zk_E.2.2.1 := ⟨⟨zk_b12 190 (by decide +kernel) rfl, zk_b1 10 (by decide +kernel) rfl, zk_b12 187 (by decide +kernel) rfl, by decide +kernel, by decide +kernel, by decide +kernel⟩, zk_b12 189 (by decide +kernel) rfl, zk_s10 (q := (yX1_latestAim, 20)) 2 (by decide +kernel)⟩
theorem zl_X1_94 : zm_L zk_E RX1 94 yX1_isLatestRight (.code yX1_isLatestRight cX1_isLatestRight 3 (some .boolean)) 0 ∧ Cond.instanceMethod yX1_isLatestRight ∈ zk_E.2.2.1 ∧ Cond.selects yX1_isLatestRight.cls yX1_isLatestRight yX1_isLatestRight ∈ zk_E.2.2.1 := ⟨⟨zk_b12 182 (by decide +kernel) rfl, zk_b1 10 (by decide +kernel) rfl, zk_b12 179 (by decide +kernel) rfl, by decide +kernel, by decide +kernel, by decide +kernel⟩, zk_b12 181 (by decide +kernel) rfl, zk_s10 (q := (yX1_isLatestRight, 20)) 0 (by decide +kernel)⟩
theorem zl_X1_98 : zm_L zk_E RX1 98 yX1_isMeantFor (.code yX1_isMeantFor cX1_isMeantFor 3 (some .boolean)) 1 ∧ Cond.instanceMethod yX1_isMeantFor ∈ zk_E.2.2.1 ∧ Cond.selects yX1_isMeantFor.cls yX1_isMeantFor yX1_isMeantFor ∈ zk_E.2.2.1 := ⟨⟨zk_b12 186 (by decide +kernel) rfl, zk_b1 10 (by decide +kernel) rfl, zk_b12 183 (by decide +kernel) rfl, by decide +kernel, by decide +kernel, by decide +kernel⟩, zk_b12 185 (by decide +kernel) rfl, zk_s10 (q := (yX1_isMeantFor, 20)) 1 (by decide +kernel)⟩
theorem zl_X1_107 : zm_L zk_E RX1 107 yX1_spell (.code yX1_spell cX1_spell 5 none) 2 ∧ Cond.static yX1_spell ∈ zk_E.2.2.1 := ⟨⟨zk_b12 197 (by decide +kernel) rfl, zk_b1 10 (by decide +kernel) rfl, zk_b12 195 (by decide +kernel) rfl, by decide +kernel, by decide +kernel, by decide +kernel⟩, zk_b12 196 (by decide +kernel) rfl⟩
theorem zl_J6_265 : Cond.constant RJ6 265 (1431655765 : Int32) ∈ zk_E.2.2.1 := zk_b12 14 (by decide +kernel) rfl
theorem zl_J6_266 : Cond.constant RJ6 266 (858993459 : Int32) ∈ zk_E.2.2.1 := zk_b12 15 (by decide +kernel) rfl
theorem zl_J6_267 : Cond.constant RJ6 267 (252645135 : Int32) ∈ zk_E.2.2.1 := zk_b12 16 (by decide +kernel) rfl
theorem zl_X1_119 : zm_L zk_E RX1 119 yJ6_bitCount_0f7a4 (.code yJ6_bitCount_0f7a4 cJ6_bitCount_0f7a4 1 (some .int)) 1 ∧ Cond.static yJ6_bitCount_0f7a4 ∈ zk_E.2.2.1 := ⟨⟨zk_b12 13 (by decide +kernel) rfl, zk_b1 36 (by decide +kernel) rfl, zk_b12 209 (by decide +kernel) rfl, by decide +kernel, by decide +kernel, by decide +kernel⟩, zk_b12 12 (by decide +kernel) rfl⟩
theorem zl_X1_115 : zm_L zk_E RX1 115 yX1_characterBit (.code yX1_characterBit cX1_characterBit 2 (some .int)) 2 ∧ Cond.static yX1_characterBit ∈ zk_E.2.2.1 := ⟨⟨zk_b12 208 (by decide +kernel) rfl, zk_b1 10 (by decide +kernel) rfl, zk_b12 206 (by decide +kernel) rfl, by decide +kernel, by decide +kernel, by decide +kernel⟩, zk_b12 207 (by decide +kernel) rfl⟩
theorem zl_X1_111 : zm_L zk_E RX1 111 yX1_saidBit (.code yX1_saidBit cX1_saidBit 3 (some .int)) 1 ∧ Cond.instanceMethod yX1_saidBit ∈ zk_E.2.2.1 ∧ Cond.selects yX1_saidBit.cls yX1_saidBit yX1_saidBit ∈ zk_E.2.2.1 := ⟨⟨zk_b12 205 (by decide +kernel) rfl, zk_b1 10 (by decide +kernel) rfl, zk_b12 202 (by decide +kernel) rfl, by decide +kernel, by decide +kernel, by decide +kernel⟩, zk_b12 204 (by decide +kernel) rfl, zk_s10 (q := (yX1_saidBit, 20)) 5 (by decide +kernel)⟩
set_option maxHeartbeats 4000000 in
set_option maxRecDepth 100000 in
theorem zt_X0_joinAgain_L37 {p : Program} {l : Launch} {e : Env} {R : Room} {s : State} {m : MethodId} {args : Array Value} {below : List Frame} {meth : Method} {c : Code} {V : zm_V} {mc ms d rc rs : Nat} (hX : zm_X p R s m args meth c RX0 "joinAgain" cX0_joinAgain 6 zk_E V mc ms) (hr : meth.sig.returnType = (some .int)) (hR : R.frames = d ∧ R.locals = 64 * d) (hd : 6 ≤ d) {N : Nat} {res : (Int32 × zm_S) ⊕ ((Unit) × zm_S)} {out : (Int32 × zm_S)} (a0 : Nat) (i1 : Int32) (i2 : Int32) (i3 : Int32) (hf : ∀ o, res = .inl o → o = out) (hk : ∀ (S' : zm_S), res = .inr ((), S') → zw p l e R s m args below meth c (vx_MQ below (zm_Qc zk_E V (zo_i out)) (zm_XC zk_E V zo_x) args s mc ms (fun q => V.2.2.2.1 ≤ q)) 6 zk_E V mc ms 98 [(3, .int i3)] [] S' rc rs) : ∀ (n : Nat) (i4 : Int32) (S : zm_S), zf_X0_joinAgain_L37 N n a0 i1 i2 i3 i4 S = some res → zw p l e R s m args below meth c (vx_MQ below (zm_Qc zk_E V (zo_i out)) (zm_XC zk_E V zo_x) args s mc ms (fun q => V.2.2.2.1 ≤ q)) 6 zk_E V mc ms 37 [(0, .ref a0), (1, .int i1), (2, .int i2), (3, .int i3), (4, .int i4)] [] S rc rs := by
  intro n
  induction n with
  | zero => intro i4 S h; cases h
  | succ n ih =>
    intro i4 S h
    rw [zf_X0_joinAgain_L37] at h
    refine zw_iload hX dX0_joinAgain_37 rfl ?_
    refine zw_iload_n hX dX0_joinAgain_39 rfl ?_
    refine zw_icmp_ge (tgt := 98) hX dX0_joinAgain_40 (by decide) (fun c40 => ?_) (fun c40 => ?_)
    · rw [if_pos c40] at h
      refine zw_sub (lv' := [(3, .int i3)]) (List.forall_mem_cons.mpr ⟨rfl, zs_nil⟩) ?_
      exact hk  _ (Option.some.inj h).symm
    · rw [if_neg c40] at h
      refine zw_iload hX dX0_joinAgain_43 rfl ?_
      refine zw_bipush (v := (20 : Int32)) hX dX0_joinAgain_45 (by decide) ?_
      refine zw_icmp_ge (tgt := 98) hX dX0_joinAgain_47 (by decide) (fun c47 => ?_) (fun c47 => ?_)
      · rw [if_pos c47] at h
        refine zw_sub (lv' := [(3, .int i3)]) (List.forall_mem_cons.mpr ⟨rfl, zs_nil⟩) ?_
        exact hk  _ (Option.some.inj h).symm
      · rw [if_neg c47] at h
        refine zw_iconst (v := (3 : Int32)) hX dX0_joinAgain_50 (by decide) ?_
        refine zw_iload_n hX dX0_joinAgain_51 rfl ?_
        refine zw_bipush (v := (20 : Int32)) hX dX0_joinAgain_52 (by decide) ?_
        refine zw_imul hX dX0_joinAgain_54 ?_
        refine zw_iload hX dX0_joinAgain_55 rfl ?_
        refine zw_iadd hX dX0_joinAgain_57 ?_
        refine zw_imul hX dX0_joinAgain_58 ?_
        refine zw_istore hX dX0_joinAgain_59 (by decide) ?_
        refine zw_aload_n hX dX0_joinAgain_61 rfl ?_
        refine zw_iload_n hX dX0_joinAgain_62 rfl ?_
        refine zw_aload_n hX dX0_joinAgain_63 rfl ?_
        obtain ⟨b9, g, h⟩ := zb_some h
        refine zw_getr hX zl_X0_15 dX0_joinAgain_64 g ?_
        refine zw_iload hX dX0_joinAgain_67 rfl ?_
        obtain ⟨v10, g, h⟩ := zb_some h
        refine zw_xi hX dX0_joinAgain_69 g ?_
        refine zw_aload_n hX dX0_joinAgain_70 rfl ?_
        obtain ⟨b11, g, h⟩ := zb_some h
        refine zw_getr hX zl_X0_15 dX0_joinAgain_71 g ?_
        refine zw_iload hX dX0_joinAgain_74 rfl ?_
        refine zw_iconst (v := (1 : Int32)) hX dX0_joinAgain_76 (by decide) ?_
        refine zw_iadd hX dX0_joinAgain_77 ?_
        obtain ⟨v12, g, h⟩ := zb_some h
        refine zw_xi hX dX0_joinAgain_78 g ?_
        refine zw_aload_n hX dX0_joinAgain_79 rfl ?_
        obtain ⟨b13, g, h⟩ := zb_some h
        refine zw_getr hX zl_X0_15 dX0_joinAgain_80 g ?_
        refine zw_iload hX dX0_joinAgain_83 rfl ?_
        refine zw_iconst (v := (2 : Int32)) hX dX0_joinAgain_85 (by decide) ?_
        refine zw_iadd hX dX0_joinAgain_86 ?_
        obtain ⟨v14, g, h⟩ := zb_some h
        refine zw_xi hX dX0_joinAgain_87 g ?_
        refine zw_iload_n hX dX0_joinAgain_88 rfl ?_
        obtain ⟨_, gi, h⟩ := zb_some h
        obtain ⟨r16, g, h⟩ := zb_some h
        refine zc_Vv (as := [.int i1, .int v10, .int v12, .int v14, .int i2]) hX gi (zt_X0_takeRow (d := d - 1) (by omega) g) zl_X0_150 rfl dX0_joinAgain_89 ⟨rfl, rfl, Nat.le_of_ble_eq_true rfl⟩ ⟨by omega, by omega⟩ ?_
        refine zw_iinc (v := (i4 + (1 : Int32))) hX dX0_joinAgain_92 rfl rfl (by decide) ?_
        refine zw_goto (tgt := 37) hX dX0_joinAgain_95 (by decide) ?_
        refine zw_sub (lv' := [(0, .ref a0), (1, .int i1), (2, .int i2), (3, .int i3), (4, .int (i4 + (1 : Int32)))]) (List.forall_mem_cons.mpr ⟨rfl, (List.forall_mem_cons.mpr ⟨rfl, (List.forall_mem_cons.mpr ⟨rfl, (List.forall_mem_cons.mpr ⟨rfl, (List.forall_mem_cons.mpr ⟨rfl, zs_nil⟩)⟩)⟩)⟩)⟩) ?_
        exact ih _ _ h
set_option maxHeartbeats 4000000 in
set_option maxRecDepth 100000 in
theorem zt_X0_joinAgain {l : Launch} {V : zm_V} {N : Nat} {S : zm_S} {out : (Int32 × zm_S)} {d : Nat} {a0 : Nat} {i1 : Int32} {i2 : Int32} (hd : 6 ≤ d) (h : zf_X0_joinAgain N a0 i1 i2 S = some out) : zm_Met l zk_E V yX0_joinAgain (.code yX0_joinAgain cX0_joinAgain 6 (some .int)) d [.ref a0, .int i1, .int i2] S 0 0 (zo_i out) zo_x := by
  refine zm_of (by decide +kernel) (Nat.le_of_ble_eq_true rfl) ?_
  intro p e R s m args below meth c hRR hX hr hxt
  have hR : R.frames = d ∧ R.locals = 64 * d := by rw [hRR]; exact ⟨rfl, rfl⟩
  have hX : zm_X p R s m args meth c RX0 "joinAgain" cX0_joinAgain 6 zk_E V 0 0 := hX
  unfold zf_X0_joinAgain at h
  refine zw_sub (lv' := [(0, .ref a0), (1, .int i1), (2, .int i2)]) (List.forall_mem_cons.mpr ⟨rfl, (List.forall_mem_cons.mpr ⟨rfl, (List.forall_mem_cons.mpr ⟨rfl, zs_nil⟩)⟩)⟩) ?_
  refine zw_aload_n hX dX0_joinAgain_0 rfl ?_
  refine zw_iload_n hX dX0_joinAgain_1 rfl ?_
  obtain ⟨_, gi, h⟩ := zb_some h
  obtain ⟨r2, g, h⟩ := zb_some h
  refine zc_Vi (as := [.int i1]) hX gi (zt_X0_isOff (d := d - 1) (by omega) g) zl_X0_120 rfl dX0_joinAgain_2 ⟨rfl, rfl, Nat.le_of_ble_eq_true rfl⟩ ⟨by omega, by omega⟩ ?_
  refine zw_if_ne (tgt := 10) hX dX0_joinAgain_5 (by decide) (fun c5 => ?_) (fun c5 => ?_)
  · rw [if_neg c5] at h
    refine zw_aload_n hX dX0_joinAgain_10 rfl ?_
    refine zw_iload_n hX dX0_joinAgain_11 rfl ?_
    refine zw_bipush (v := (11 : Int32)) hX dX0_joinAgain_12 (by decide) ?_
    refine zw_iconst (v := (-1 : Int32)) hX dX0_joinAgain_14 (by decide) ?_
    obtain ⟨_, gi, h⟩ := zb_some h
    obtain ⟨r4, g, h⟩ := zb_some h
    refine zc_Vv (as := [.int i1, .int (11 : Int32), .int (-1 : Int32)]) hX gi (zt_X0_setFact (d := d - 1) (by omega) g) zl_X0_94 rfl dX0_joinAgain_15 ⟨rfl, rfl, Nat.le_of_ble_eq_true rfl⟩ ⟨by omega, by omega⟩ ?_
    refine zw_aload_n hX dX0_joinAgain_18 rfl ?_
    refine zw_iload_n hX dX0_joinAgain_19 rfl ?_
    refine zw_bipush (v := (12 : Int32)) hX dX0_joinAgain_20 (by decide) ?_
    obtain ⟨_, gi, h⟩ := zb_some h
    obtain ⟨r6, g, h⟩ := zb_some h
    refine zc_Vi (as := [.int i1, .int (12 : Int32)]) hX gi (zt_X0_factOf (d := d - 1) (by omega) g) zl_X0_117 rfl dX0_joinAgain_22 ⟨rfl, rfl, Nat.le_of_ble_eq_true rfl⟩ ⟨by omega, by omega⟩ ?_
    refine zw_istore_n hX dX0_joinAgain_25 (by decide) ?_
    refine zw_aload_n hX dX0_joinAgain_26 rfl ?_
    refine zw_iload_n hX dX0_joinAgain_27 rfl ?_
    refine zw_bipush (v := (12 : Int32)) hX dX0_joinAgain_28 (by decide) ?_
    refine zw_iconst (v := (0 : Int32)) hX dX0_joinAgain_30 (by decide) ?_
    obtain ⟨_, gi, h⟩ := zb_some h
    obtain ⟨r8, g, h⟩ := zb_some h
    refine zc_Vv (as := [.int i1, .int (12 : Int32), .int (0 : Int32)]) hX gi (zt_X0_setFact (d := d - 1) (by omega) g) zl_X0_94 rfl dX0_joinAgain_31 ⟨rfl, rfl, Nat.le_of_ble_eq_true rfl⟩ ⟨by omega, by omega⟩ ?_
    refine zw_iconst (v := (0 : Int32)) hX dX0_joinAgain_34 (by decide) ?_
    refine zw_istore hX dX0_joinAgain_35 (by decide) ?_
    obtain ⟨r, g, h⟩ := zb_some h
    refine zw_sub (lv' := [(0, .ref a0), (1, .int i1), (2, .int i2), (3, .int r6.1), (4, .int (0 : Int32))]) (List.forall_mem_cons.mpr ⟨rfl, (List.forall_mem_cons.mpr ⟨rfl, (List.forall_mem_cons.mpr ⟨rfl, (List.forall_mem_cons.mpr ⟨rfl, (List.forall_mem_cons.mpr ⟨rfl, zs_nil⟩)⟩)⟩)⟩)⟩) ?_
    refine zt_X0_joinAgain_L37 hX hr hR hd (res := r) (out := out) a0 i1 i2 r6.1 ?_ ?_ N _ _ g
    · intro o ho
      subst ho
      exact Option.some.inj h
    · intro  S17 hx
      subst hx
      try dsimp only at h
      refine zw_iload_n hX dX0_joinAgain_98 rfl ?_
      obtain rfl := Option.some.inj h
      exact zw_iret hX hr dX0_joinAgain_99 rfl ⟨rfl, rfl⟩
  · rw [if_pos c5] at h
    refine zw_iconst (v := (0 : Int32)) hX dX0_joinAgain_8 (by decide) ?_
    obtain rfl := Option.some.inj h
    exact zw_iret hX hr dX0_joinAgain_9 rfl ⟨rfl, rfl⟩
set_option maxHeartbeats 4000000 in
set_option maxRecDepth 100000 in
theorem zt_X0_keptAgainst {l : Launch} {V : zm_V} {N : Nat} {S : zm_S} {out : (Int32 × zm_S)} {d : Nat} {a0 : Nat} (hd : 2 ≤ d) (h : zf_X0_keptAgainst N a0 S = some out) : zm_Met l zk_E V yX0_keptAgainst (.code yX0_keptAgainst cX0_keptAgainst 1 (some .int)) d [.ref a0] S 0 0 (zo_i out) zo_x := by
  refine zm_of (by decide +kernel) (Nat.le_of_ble_eq_true rfl) ?_
  intro p e R s m args below meth c hRR hX hr hxt
  have hR : R.frames = d ∧ R.locals = 64 * d := by rw [hRR]; exact ⟨rfl, rfl⟩
  have hX : zm_X p R s m args meth c RX0 "keptAgainst" cX0_keptAgainst 1 zk_E V 0 0 := hX
  unfold zf_X0_keptAgainst at h
  refine zw_sub (lv' := [(0, .ref a0)]) (List.forall_mem_cons.mpr ⟨rfl, zs_nil⟩) ?_
  refine zw_aload_n hX dX0_keptAgainst_0 rfl ?_
  obtain ⟨v1, g, h⟩ := zb_some h
  refine zw_geti hX zl_X0_168 dX0_keptAgainst_1 g ?_
  refine zw_bipush (v := (100 : Int32)) hX dX0_keptAgainst_4 (by decide) ?_
  refine zw_mmin hX zl_X0_171 dX0_keptAgainst_6 (Nat.le_of_ble_eq_true rfl) ⟨by omega, by omega⟩ ?_
  obtain rfl := Option.some.inj h
  exact zw_iret hX hr dX0_keptAgainst_9 rfl ⟨rfl, rfl⟩
set_option maxHeartbeats 4000000 in
set_option maxRecDepth 100000 in
theorem zt_X0_againstFact {l : Launch} {V : zm_V} {N : Nat} {S : zm_S} {out : (Int32 × zm_S)} {d : Nat} {a0 : Nat} {i1 : Int32} {i2 : Int32} (hd : 1 ≤ d) (h : zf_X0_againstFact N a0 i1 i2 S = some out) : zm_Met l zk_E V yX0_againstFact (.code yX0_againstFact cX0_againstFact 3 (some .int)) d [.ref a0, .int i1, .int i2] S 0 0 (zo_i out) zo_x := by
  refine zm_of (by decide +kernel) (Nat.le_of_ble_eq_true rfl) ?_
  intro p e R s m args below meth c hRR hX hr hxt
  have hR : R.frames = d ∧ R.locals = 64 * d := by rw [hRR]; exact ⟨rfl, rfl⟩
  have hX : zm_X p R s m args meth c RX0 "againstFact" cX0_againstFact 3 zk_E V 0 0 := hX
  unfold zf_X0_againstFact at h
  refine zw_sub (lv' := [(0, .ref a0), (1, .int i1), (2, .int i2)]) (List.forall_mem_cons.mpr ⟨rfl, (List.forall_mem_cons.mpr ⟨rfl, (List.forall_mem_cons.mpr ⟨rfl, zs_nil⟩)⟩)⟩) ?_
  refine zw_aload_n hX dX0_againstFact_0 rfl ?_
  obtain ⟨b1, g, h⟩ := zb_some h
  refine zw_getr hX zl_X0_33 dX0_againstFact_1 g ?_
  refine zw_iconst (v := (4 : Int32)) hX dX0_againstFact_4 (by decide) ?_
  refine zw_iload_n hX dX0_againstFact_5 rfl ?_
  refine zw_imul hX dX0_againstFact_6 ?_
  refine zw_iload_n hX dX0_againstFact_7 rfl ?_
  refine zw_iadd hX dX0_againstFact_8 ?_
  refine zw_iconst (v := (1 : Int32)) hX dX0_againstFact_9 (by decide) ?_
  refine zw_isub hX dX0_againstFact_10 ?_
  obtain ⟨v2, g, h⟩ := zb_some h
  refine zw_xi hX dX0_againstFact_11 g ?_
  obtain rfl := Option.some.inj h
  exact zw_iret hX hr dX0_againstFact_12 rfl ⟨rfl, rfl⟩
set_option maxHeartbeats 4000000 in
set_option maxRecDepth 100000 in
theorem zt_X0_setMoment {l : Launch} {V : zm_V} {N : Nat} {S : zm_S} {out : (Unit × zm_S)} {d : Nat} {a0 : Nat} {i1 : Int32} {i2 : Int32} (hd : 1 ≤ d) (h : zf_X0_setMoment N a0 i1 i2 S = some out) : zm_Met l zk_E V yX0_setMoment (.code yX0_setMoment cX0_setMoment 3 none) d [.ref a0, .int i1, .int i2] S 0 0 (zo_v out) zo_x := by
  refine zm_of (by decide +kernel) (Nat.le_of_ble_eq_true rfl) ?_
  intro p e R s m args below meth c hRR hX hr hxt
  have hR : R.frames = d ∧ R.locals = 64 * d := by rw [hRR]; exact ⟨rfl, rfl⟩
  have hX : zm_X p R s m args meth c RX0 "setMoment" cX0_setMoment 3 zk_E V 0 0 := hX
  unfold zf_X0_setMoment at h
  refine zw_sub (lv' := [(0, .ref a0), (1, .int i1), (2, .int i2)]) (List.forall_mem_cons.mpr ⟨rfl, (List.forall_mem_cons.mpr ⟨rfl, (List.forall_mem_cons.mpr ⟨rfl, zs_nil⟩)⟩)⟩) ?_
  refine zw_aload_n hX dX0_setMoment_0 rfl ?_
  refine zw_iload_n hX dX0_setMoment_1 rfl ?_
  obtain ⟨S1, g, h⟩ := zb_some h
  refine zw_putv hX zl_X0_179 zt_0_17 dX0_setMoment_2 rfl rfl g ?_
  refine zw_aload_n hX dX0_setMoment_5 rfl ?_
  refine zw_iload_n hX dX0_setMoment_6 rfl ?_
  obtain ⟨S2, g, h⟩ := zb_some h
  obtain ⟨gz, g⟩ := zp_z_spec g
  refine zw_putv hX zl_X0_182 zt_0_18 dX0_setMoment_7 (zn_z gz) (zf_z gz) g ?_
  obtain rfl := Option.some.inj h
  exact zw_vret hX hr dX0_setMoment_10 ⟨rfl, rfl⟩
set_option maxHeartbeats 4000000 in
set_option maxRecDepth 100000 in
theorem zt_X10_roomOf {l : Launch} {V : zm_V} {N : Nat} {S : zm_S} {out : (Int32 × zm_S)} {d : Nat} {a0 : Nat} {i1 : Int32} (hd : 1 ≤ d) (h : zf_X10_roomOf N a0 i1 S = some out) : zm_Met l zk_E V yX10_roomOf (.code yX10_roomOf cX10_roomOf 2 (some .int)) d [.ref a0, .int i1] S 0 0 (zo_i out) zo_x := by
  refine zm_of (by decide +kernel) (Nat.le_of_ble_eq_true rfl) ?_
  intro p e R s m args below meth c hRR hX hr hxt
  have hR : R.frames = d ∧ R.locals = 64 * d := by rw [hRR]; exact ⟨rfl, rfl⟩
  have hX : zm_X p R s m args meth c RX10 "roomOf" cX10_roomOf 2 zk_E V 0 0 := hX
  unfold zf_X10_roomOf at h
  refine zw_sub (lv' := [(0, .ref a0), (1, .int i1)]) (List.forall_mem_cons.mpr ⟨rfl, (List.forall_mem_cons.mpr ⟨rfl, zs_nil⟩)⟩) ?_
  refine zw_aload_n hX dX10_roomOf_0 rfl ?_
  obtain ⟨b1, g, h⟩ := zb_some h
  refine zw_getr hX zl_X10_29 dX10_roomOf_1 g ?_
  refine zw_iload_n hX dX10_roomOf_4 rfl ?_
  obtain ⟨b2, g, h⟩ := zb_some h
  refine zw_xr hX dX10_roomOf_5 g ?_
  refine zw_iconst (v := (0 : Int32)) hX dX10_roomOf_6 (by decide) ?_
  obtain ⟨v3, g, h⟩ := zb_some h
  refine zw_xi hX dX10_roomOf_7 g ?_
  obtain rfl := Option.some.inj h
  exact zw_iret hX hr dX10_roomOf_8 rfl ⟨rfl, rfl⟩
set_option maxHeartbeats 4000000 in
set_option maxRecDepth 100000 in
theorem zt_X0_isElsewhere_J25 {p : Program} {l : Launch} {e : Env} {R : Room} {s : State} {m : MethodId} {args : Array Value} {below : List Frame} {meth : Method} {c : Code} {V : zm_V} {mc ms d rc rs : Nat} (hX : zm_X p R s m args meth c RX0 "isElsewhere" cX0_isElsewhere 6 zk_E V mc ms) (hr : meth.sig.returnType = (some .boolean)) (hR : R.frames = d ∧ R.locals = 64 * d) (hd : 2 ≤ d) {N : Nat} {a0 : Nat} {i1 : Int32} {t0 : Int32} {out : (Int32 × zm_S)} {S : zm_S} (h : zf_X0_isElsewhere_J25 N a0 i1 t0 S = some out) : zw p l e R s m args below meth c (vx_MQ below (zm_Qc zk_E V (zo_i out)) (zm_XC zk_E V zo_x) args s mc ms (fun q => V.2.2.2.1 ≤ q)) 6 zk_E V mc ms 25 [(0, .ref a0), (1, .int i1)] [.int t0] S rc rs := by
  unfold zf_X0_isElsewhere_J25 at h
  refine zw_istore hX dX0_isElsewhere_25 (by decide) ?_
  refine zw_aload_n hX dX0_isElsewhere_27 rfl ?_
  obtain ⟨b3, g, h⟩ := zb_some h
  refine zw_getr hX zl_X0_44 dX0_isElsewhere_28 g ?_
  refine zw_iload_n hX dX0_isElsewhere_31 rfl ?_
  obtain ⟨_, gi, h⟩ := zb_some h
  obtain ⟨r5, g, h⟩ := zb_some h
  refine zc_Vi (as := [.int i1]) hX gi (zt_X10_roomOf (d := d - 1) (by omega) g) zl_X0_207 rfl dX0_isElsewhere_32 ⟨rfl, rfl, Nat.le_of_ble_eq_true rfl⟩ ⟨by omega, by omega⟩ ?_
  refine zw_iload hX dX0_isElsewhere_35 rfl ?_
  refine zw_icmp_eq (tgt := 44) hX dX0_isElsewhere_37 (by decide) (fun c37 => ?_) (fun c37 => ?_)
  · rw [if_pos c37] at h
    refine zw_iconst (v := (0 : Int32)) hX dX0_isElsewhere_44 (by decide) ?_
    obtain rfl := Option.some.inj h
    exact zw_iret hX hr dX0_isElsewhere_45 rfl ⟨rfl, rfl⟩
  · rw [if_neg c37] at h
    refine zw_iconst (v := (1 : Int32)) hX dX0_isElsewhere_40 (by decide) ?_
    refine zw_goto (tgt := 45) hX dX0_isElsewhere_41 (by decide) ?_
    obtain rfl := Option.some.inj h
    exact zw_iret hX hr dX0_isElsewhere_45 rfl ⟨rfl, rfl⟩
set_option maxHeartbeats 4000000 in
set_option maxRecDepth 100000 in
theorem zt_X0_isElsewhere {l : Launch} {V : zm_V} {N : Nat} {S : zm_S} {out : (Int32 × zm_S)} {d : Nat} {a0 : Nat} {i1 : Int32} {i2 : Int32} {i3 : Int32} (hd : 2 ≤ d) (h : zf_X0_isElsewhere N a0 i1 i2 i3 S = some out) : zm_Met l zk_E V yX0_isElsewhere (.code yX0_isElsewhere cX0_isElsewhere 6 (some .boolean)) d [.ref a0, .int i1, .int i2, .int i3] S 0 0 (zo_i out) zo_x := by
  refine zm_of (by decide +kernel) (Nat.le_of_ble_eq_true rfl) ?_
  intro p e R s m args below meth c hRR hX hr hxt
  have hR : R.frames = d ∧ R.locals = 64 * d := by rw [hRR]; exact ⟨rfl, rfl⟩
  have hX : zm_X p R s m args meth c RX0 "isElsewhere" cX0_isElsewhere 6 zk_E V 0 0 := hX
  unfold zf_X0_isElsewhere at h
  refine zw_sub (lv' := [(0, .ref a0), (1, .int i1), (2, .int i2), (3, .int i3)]) (List.forall_mem_cons.mpr ⟨rfl, (List.forall_mem_cons.mpr ⟨rfl, (List.forall_mem_cons.mpr ⟨rfl, (List.forall_mem_cons.mpr ⟨rfl, zs_nil⟩)⟩)⟩)⟩) ?_
  refine zw_aload_n hX dX0_isElsewhere_0 rfl ?_
  refine zw_iload_n hX dX0_isElsewhere_1 rfl ?_
  refine zw_iconst (v := (0 : Int32)) hX dX0_isElsewhere_2 (by decide) ?_
  obtain ⟨_, gi, h⟩ := zb_some h
  obtain ⟨r2, g, h⟩ := zb_some h
  refine zc_Vi (as := [.int i2, .int (0 : Int32)]) hX gi (zt_X0_factOf (d := d - 1) (by omega) g) zl_X0_117 rfl dX0_isElsewhere_3 ⟨rfl, rfl, Nat.le_of_ble_eq_true rfl⟩ ⟨by omega, by omega⟩ ?_
  refine zw_istore hX dX0_isElsewhere_6 (by decide) ?_
  refine zw_iload_n hX dX0_isElsewhere_8 rfl ?_
  refine zw_iload hX dX0_isElsewhere_9 rfl ?_
  refine zw_icmp_ne (tgt := 23) hX dX0_isElsewhere_11 (by decide) (fun c11 => ?_) (fun c11 => ?_)
  · rw [if_neg c11] at h
    refine zw_iload hX dX0_isElsewhere_23 rfl ?_
    refine zw_sub (lv' := [(0, .ref a0), (1, .int i1)]) (List.forall_mem_cons.mpr ⟨rfl, (List.forall_mem_cons.mpr ⟨rfl, zs_nil⟩)⟩) ?_
    exact zt_X0_isElsewhere_J25 hX hr hR hd h
  · rw [if_pos c11] at h
    refine zw_aload_n hX dX0_isElsewhere_14 rfl ?_
    refine zw_iload_n hX dX0_isElsewhere_15 rfl ?_
    refine zw_iconst (v := (1 : Int32)) hX dX0_isElsewhere_16 (by decide) ?_
    obtain ⟨_, gi, h⟩ := zb_some h
    obtain ⟨r7, g, h⟩ := zb_some h
    refine zc_Vi (as := [.int i2, .int (1 : Int32)]) hX gi (zt_X0_factOf (d := d - 1) (by omega) g) zl_X0_117 rfl dX0_isElsewhere_17 ⟨rfl, rfl, Nat.le_of_ble_eq_true rfl⟩ ⟨by omega, by omega⟩ ?_
    refine zw_goto (tgt := 25) hX dX0_isElsewhere_20 (by decide) ?_
    refine zw_sub (lv' := [(0, .ref a0), (1, .int i1)]) (List.forall_mem_cons.mpr ⟨rfl, (List.forall_mem_cons.mpr ⟨rfl, zs_nil⟩)⟩) ?_
    exact zt_X0_isElsewhere_J25 hX hr hR hd h
set_option maxHeartbeats 4000000 in
set_option maxRecDepth 100000 in
theorem zt_X0_isLocked_L2 {p : Program} {l : Launch} {e : Env} {R : Room} {s : State} {m : MethodId} {args : Array Value} {below : List Frame} {meth : Method} {c : Code} {V : zm_V} {mc ms d rc rs : Nat} (hX : zm_X p R s m args meth c RX0 "isLocked" cX0_isLocked 3 zk_E V mc ms) (hr : meth.sig.returnType = (some .boolean)) (hR : R.frames = d ∧ R.locals = 64 * d) (hd : 2 ≤ d) {N : Nat} {res : (Int32 × zm_S) ⊕ ((Unit) × zm_S)} {out : (Int32 × zm_S)} (a0 : Nat) (i1 : Int32) (hf : ∀ o, res = .inl o → o = out) (hk : ∀ (S' : zm_S), res = .inr ((), S') → zw p l e R s m args below meth c (vx_MQ below (zm_Qc zk_E V (zo_i out)) (zm_XC zk_E V zo_x) args s mc ms (fun q => V.2.2.2.1 ≤ q)) 3 zk_E V mc ms 37 [] [] S' rc rs) : ∀ (n : Nat) (i2 : Int32) (S : zm_S), zf_X0_isLocked_L2 N n a0 i1 i2 S = some res → zw p l e R s m args below meth c (vx_MQ below (zm_Qc zk_E V (zo_i out)) (zm_XC zk_E V zo_x) args s mc ms (fun q => V.2.2.2.1 ≤ q)) 3 zk_E V mc ms 2 [(0, .ref a0), (1, .int i1), (2, .int i2)] [] S rc rs := by
  intro n
  induction n with
  | zero => intro i2 S h; cases h
  | succ n ih =>
    intro i2 S h
    rw [zf_X0_isLocked_L2] at h
    refine zw_iload_n hX dX0_isLocked_2 rfl ?_
    refine zw_aload_n hX dX0_isLocked_3 rfl ?_
    obtain ⟨v1, g, h⟩ := zb_some h
    refine zw_geti hX zl_X0_56 dX0_isLocked_4 g ?_
    refine zw_icmp_ge (tgt := 37) hX dX0_isLocked_7 (by decide) (fun c7 => ?_) (fun c7 => ?_)
    · rw [if_pos c7] at h
      refine zw_sub (lv' := []) zs_nil ?_
      exact hk  _ (Option.some.inj h).symm
    · rw [if_neg c7] at h
      refine zw_aload_n hX dX0_isLocked_10 rfl ?_
      refine zw_iload_n hX dX0_isLocked_11 rfl ?_
      refine zw_iload_n hX dX0_isLocked_12 rfl ?_
      obtain ⟨_, gi, h⟩ := zb_some h
      obtain ⟨r3, g, h⟩ := zb_some h
      refine zc_Vi (as := [.int i1, .int i2]) hX gi (zt_X0_isAirlock (d := d - 1) (by omega) g) zl_X0_141 rfl dX0_isLocked_13 ⟨rfl, rfl, Nat.le_of_ble_eq_true rfl⟩ ⟨by omega, by omega⟩ ?_
      refine zw_if_eq (tgt := 31) hX dX0_isLocked_16 (by decide) (fun c16 => ?_) (fun c16 => ?_)
      · rw [if_pos c16] at h
        refine zw_iinc (v := (i2 + (1 : Int32))) hX dX0_isLocked_31 rfl rfl (by decide) ?_
        refine zw_goto (tgt := 2) hX dX0_isLocked_34 (by decide) ?_
        refine zw_sub (lv' := [(0, .ref a0), (1, .int i1), (2, .int (i2 + (1 : Int32)))]) (List.forall_mem_cons.mpr ⟨rfl, (List.forall_mem_cons.mpr ⟨rfl, (List.forall_mem_cons.mpr ⟨rfl, zs_nil⟩)⟩)⟩) ?_
        exact ih _ _ h
      · rw [if_neg c16] at h
        refine zw_aload_n hX dX0_isLocked_19 rfl ?_
        refine zw_iload_n hX dX0_isLocked_20 rfl ?_
        refine zw_bipush (v := (8 : Int32)) hX dX0_isLocked_21 (by decide) ?_
        obtain ⟨_, gi, h⟩ := zb_some h
        obtain ⟨r5, g, h⟩ := zb_some h
        refine zc_Vi (as := [.int i2, .int (8 : Int32)]) hX gi (zt_X0_factOf (d := d - 1) (by omega) g) zl_X0_117 rfl dX0_isLocked_23 ⟨rfl, rfl, Nat.le_of_ble_eq_true rfl⟩ ⟨by omega, by omega⟩ ?_
        refine zw_if_eq (tgt := 31) hX dX0_isLocked_26 (by decide) (fun c26 => ?_) (fun c26 => ?_)
        · rw [if_pos c26] at h
          refine zw_iinc (v := (i2 + (1 : Int32))) hX dX0_isLocked_31 rfl rfl (by decide) ?_
          refine zw_goto (tgt := 2) hX dX0_isLocked_34 (by decide) ?_
          refine zw_sub (lv' := [(0, .ref a0), (1, .int i1), (2, .int (i2 + (1 : Int32)))]) (List.forall_mem_cons.mpr ⟨rfl, (List.forall_mem_cons.mpr ⟨rfl, (List.forall_mem_cons.mpr ⟨rfl, zs_nil⟩)⟩)⟩) ?_
          exact ih _ _ h
        · rw [if_neg c26] at h
          refine zw_iconst (v := (1 : Int32)) hX dX0_isLocked_29 (by decide) ?_
          have hz := hf _ (Option.some.inj h).symm
          subst hz
          exact zw_iret hX hr dX0_isLocked_30 rfl ⟨rfl, rfl⟩
set_option maxHeartbeats 4000000 in
set_option maxRecDepth 100000 in
theorem zt_X0_isLocked {l : Launch} {V : zm_V} {N : Nat} {S : zm_S} {out : (Int32 × zm_S)} {d : Nat} {a0 : Nat} {i1 : Int32} (hd : 2 ≤ d) (h : zf_X0_isLocked N a0 i1 S = some out) : zm_Met l zk_E V yX0_isLocked (.code yX0_isLocked cX0_isLocked 3 (some .boolean)) d [.ref a0, .int i1] S 0 0 (zo_i out) zo_x := by
  refine zm_of (by decide +kernel) (Nat.le_of_ble_eq_true rfl) ?_
  intro p e R s m args below meth c hRR hX hr hxt
  have hR : R.frames = d ∧ R.locals = 64 * d := by rw [hRR]; exact ⟨rfl, rfl⟩
  have hX : zm_X p R s m args meth c RX0 "isLocked" cX0_isLocked 3 zk_E V 0 0 := hX
  unfold zf_X0_isLocked at h
  refine zw_sub (lv' := [(0, .ref a0), (1, .int i1)]) (List.forall_mem_cons.mpr ⟨rfl, (List.forall_mem_cons.mpr ⟨rfl, zs_nil⟩)⟩) ?_
  refine zw_iconst (v := (0 : Int32)) hX dX0_isLocked_0 (by decide) ?_
  refine zw_istore_n hX dX0_isLocked_1 (by decide) ?_
  obtain ⟨r, g, h⟩ := zb_some h
  refine zw_sub (lv' := [(0, .ref a0), (1, .int i1), (2, .int (0 : Int32))]) (List.forall_mem_cons.mpr ⟨rfl, (List.forall_mem_cons.mpr ⟨rfl, (List.forall_mem_cons.mpr ⟨rfl, zs_nil⟩)⟩)⟩) ?_
  refine zt_X0_isLocked_L2 hX hr hR hd (res := r) (out := out) a0 i1 ?_ ?_ N _ _ g
  · intro o ho
    subst ho
    exact Option.some.inj h
  · intro  S6 hx
    subst hx
    try dsimp only at h
    refine zw_iconst (v := (0 : Int32)) hX dX0_isLocked_37 (by decide) ?_
    obtain rfl := Option.some.inj h
    exact zw_iret hX hr dX0_isLocked_38 rfl ⟨rfl, rfl⟩
set_option maxHeartbeats 4000000 in
set_option maxRecDepth 100000 in
theorem zt_X0_refusal_J142 {p : Program} {l : Launch} {e : Env} {R : Room} {s : State} {m : MethodId} {args : Array Value} {below : List Frame} {meth : Method} {c : Code} {V : zm_V} {mc ms d rc rs : Nat} (hX : zm_X p R s m args meth c RX0 "refusal" cX0_refusal 7 zk_E V mc ms) (hr : meth.sig.returnType = (some .int)) (hR : R.frames = d ∧ R.locals = 64 * d) (hd : 4 ≤ d) {N : Nat} {a0 : Nat} {i2 : Int32} {i6 : Int32} {out : (Int32 × zm_S)} {S : zm_S} (h : zf_X0_refusal_J142 N a0 i2 i6 S = some out) : zw p l e R s m args below meth c (vx_MQ below (zm_Qc zk_E V (zo_i out)) (zm_XC zk_E V zo_x) args s mc ms (fun q => V.2.2.2.1 ≤ q)) 7 zk_E V mc ms 142 [(0, .ref a0), (2, .int i2), (6, .int i6)] [] S rc rs := by
  unfold zf_X0_refusal_J142 at h
  refine zw_iload hX dX0_refusal_142 rfl ?_
  refine zw_if_ne (tgt := 159) hX dX0_refusal_144 (by decide) (fun c144 => ?_) (fun c144 => ?_)
  · rw [if_neg c144] at h
    refine zw_iload hX dX0_refusal_159 rfl ?_
    obtain rfl := Option.some.inj h
    exact zw_iret hX hr dX0_refusal_161 rfl ⟨rfl, rfl⟩
  · rw [if_pos c144] at h
    refine zw_aload_n hX dX0_refusal_147 rfl ?_
    refine zw_iload_n hX dX0_refusal_148 rfl ?_
    obtain ⟨_, gi, h⟩ := zb_some h
    obtain ⟨r15, g, h⟩ := zb_some h
    refine zc_Vi (as := [.int i2]) hX gi (zt_X0_isLocked (d := d - 1) (by omega) g) zl_X0_204 rfl dX0_refusal_149 ⟨rfl, rfl, Nat.le_of_ble_eq_true rfl⟩ ⟨by omega, by omega⟩ ?_
    refine zw_if_eq (tgt := 159) hX dX0_refusal_152 (by decide) (fun c152 => ?_) (fun c152 => ?_)
    · rw [if_pos c152] at h
      refine zw_iload hX dX0_refusal_159 rfl ?_
      obtain rfl := Option.some.inj h
      exact zw_iret hX hr dX0_refusal_161 rfl ⟨rfl, rfl⟩
    · rw [if_neg c152] at h
      refine zw_bipush (v := (6 : Int32)) hX dX0_refusal_155 (by decide) ?_
      refine zw_istore hX dX0_refusal_157 (by decide) ?_
      refine zw_iload hX dX0_refusal_159 rfl ?_
      obtain rfl := Option.some.inj h
      exact zw_iret hX hr dX0_refusal_161 rfl ⟨rfl, rfl⟩
set_option maxHeartbeats 4000000 in
set_option maxRecDepth 100000 in
theorem zt_X0_refusal_J116 {p : Program} {l : Launch} {e : Env} {R : Room} {s : State} {m : MethodId} {args : Array Value} {below : List Frame} {meth : Method} {c : Code} {V : zm_V} {mc ms d rc rs : Nat} (hX : zm_X p R s m args meth c RX0 "refusal" cX0_refusal 7 zk_E V mc ms) (hr : meth.sig.returnType = (some .int)) (hR : R.frames = d ∧ R.locals = 64 * d) (hd : 4 ≤ d) {N : Nat} {a0 : Nat} {i1 : Int32} {i2 : Int32} {i3 : Int32} {i5 : Int32} {i6 : Int32} {out : (Int32 × zm_S)} {S : zm_S} (h : zf_X0_refusal_J116 N a0 i1 i2 i3 i5 i6 S = some out) : zw p l e R s m args below meth c (vx_MQ below (zm_Qc zk_E V (zo_i out)) (zm_XC zk_E V zo_x) args s mc ms (fun q => V.2.2.2.1 ≤ q)) 7 zk_E V mc ms 116 [(0, .ref a0), (1, .int i1), (2, .int i2), (3, .int i3), (5, .int i5), (6, .int i6)] [] S rc rs := by
  unfold zf_X0_refusal_J116 at h
  refine zw_iload hX dX0_refusal_116 rfl ?_
  refine zw_if_ne (tgt := 142) hX dX0_refusal_118 (by decide) (fun c118 => ?_) (fun c118 => ?_)
  · rw [if_neg c118] at h
    refine zw_sub (lv' := [(0, .ref a0), (2, .int i2), (6, .int i6)]) (List.forall_mem_cons.mpr ⟨rfl, (List.forall_mem_cons.mpr ⟨rfl, (List.forall_mem_cons.mpr ⟨rfl, zs_nil⟩)⟩)⟩) ?_
    exact zt_X0_refusal_J142 hX hr hR hd h
  · rw [if_pos c118] at h
    refine zw_aload_n hX dX0_refusal_121 rfl ?_
    refine zw_iload_n hX dX0_refusal_122 rfl ?_
    refine zw_iload_n hX dX0_refusal_123 rfl ?_
    refine zw_aload_n hX dX0_refusal_124 rfl ?_
    obtain ⟨v16, g, h⟩ := zb_some h
    refine zw_geti hX zl_X0_179 dX0_refusal_125 g ?_
    refine zw_bipush (v := (60 : Int32)) hX dX0_refusal_128 (by decide) ?_
    refine zw_idiv hX dX0_refusal_130 (by decide) ?_
    refine zw_iload hX dX0_refusal_131 rfl ?_
    obtain ⟨_, gi, h⟩ := zb_some h
    obtain ⟨r18, g, h⟩ := zb_some h
    refine zc_Vi (as := [.int i1, .int i3, .int (v16 / (60 : Int32)), .int i5]) hX gi (zt_X0_hasRight (d := d - 1) (by omega) g) zl_X0_200 rfl dX0_refusal_133 ⟨rfl, rfl, Nat.le_of_ble_eq_true rfl⟩ ⟨by omega, by omega⟩ ?_
    refine zw_if_ne (tgt := 142) hX dX0_refusal_136 (by decide) (fun c136 => ?_) (fun c136 => ?_)
    · rw [if_neg c136] at h
      refine zw_sub (lv' := [(0, .ref a0), (2, .int i2), (6, .int i6)]) (List.forall_mem_cons.mpr ⟨rfl, (List.forall_mem_cons.mpr ⟨rfl, (List.forall_mem_cons.mpr ⟨rfl, zs_nil⟩)⟩)⟩) ?_
      exact zt_X0_refusal_J142 hX hr hR hd h
    · rw [if_pos c136] at h
      refine zw_iconst (v := (5 : Int32)) hX dX0_refusal_139 (by decide) ?_
      refine zw_istore hX dX0_refusal_140 (by decide) ?_
      refine zw_sub (lv' := [(0, .ref a0), (2, .int i2), (6, .int (5 : Int32))]) (List.forall_mem_cons.mpr ⟨rfl, (List.forall_mem_cons.mpr ⟨rfl, (List.forall_mem_cons.mpr ⟨rfl, zs_nil⟩)⟩)⟩) ?_
      exact zt_X0_refusal_J142 hX hr hR hd h
set_option maxHeartbeats 4000000 in
set_option maxRecDepth 100000 in
theorem zt_X0_refusal_J71 {p : Program} {l : Launch} {e : Env} {R : Room} {s : State} {m : MethodId} {args : Array Value} {below : List Frame} {meth : Method} {c : Code} {V : zm_V} {mc ms d rc rs : Nat} (hX : zm_X p R s m args meth c RX0 "refusal" cX0_refusal 7 zk_E V mc ms) (hr : meth.sig.returnType = (some .int)) (hR : R.frames = d ∧ R.locals = 64 * d) (hd : 4 ≤ d) {N : Nat} {a0 : Nat} {i1 : Int32} {i2 : Int32} {i3 : Int32} {i4 : Int32} {t0 : Int32} {out : (Int32 × zm_S)} {S : zm_S} (h : zf_X0_refusal_J71 N a0 i1 i2 i3 i4 t0 S = some out) : zw p l e R s m args below meth c (vx_MQ below (zm_Qc zk_E V (zo_i out)) (zm_XC zk_E V zo_x) args s mc ms (fun q => V.2.2.2.1 ≤ q)) 7 zk_E V mc ms 71 [(0, .ref a0), (1, .int i1), (2, .int i2), (3, .int i3), (4, .int i4)] [.int t0] S rc rs := by
  unfold zf_X0_refusal_J71 at h
  refine zw_istore hX dX0_refusal_71 (by decide) ?_
  refine zw_aload_n hX dX0_refusal_73 rfl ?_
  refine zw_iload_n hX dX0_refusal_74 rfl ?_
  refine zw_aload_n hX dX0_refusal_75 rfl ?_
  obtain ⟨v11, g, h⟩ := zb_some h
  refine zw_geti hX zl_X0_179 dX0_refusal_76 g ?_
  refine zw_bipush (v := (60 : Int32)) hX dX0_refusal_79 (by decide) ?_
  refine zw_idiv hX dX0_refusal_81 (by decide) ?_
  refine zw_iload hX dX0_refusal_82 rfl ?_
  obtain ⟨_, gi, h⟩ := zb_some h
  obtain ⟨r13, g, h⟩ := zb_some h
  refine zc_Vi (as := [.int i1, .int (v11 / (60 : Int32)), .int t0]) hX gi (zt_X0_cardRefusal (d := d - 1) (by omega) g) zl_X0_197 rfl dX0_refusal_84 ⟨rfl, rfl, Nat.le_of_ble_eq_true rfl⟩ ⟨by omega, by omega⟩ ?_
  refine zw_istore hX dX0_refusal_87 (by decide) ?_
  refine zw_iload hX dX0_refusal_89 rfl ?_
  refine zw_if_ne (tgt := 116) hX dX0_refusal_91 (by decide) (fun c91 => ?_) (fun c91 => ?_)
  · rw [if_neg c91] at h
    refine zw_sub (lv' := [(0, .ref a0), (1, .int i1), (2, .int i2), (3, .int i3), (5, .int t0), (6, .int r13.1)]) (List.forall_mem_cons.mpr ⟨rfl, (List.forall_mem_cons.mpr ⟨rfl, (List.forall_mem_cons.mpr ⟨rfl, (List.forall_mem_cons.mpr ⟨rfl, (List.forall_mem_cons.mpr ⟨rfl, (List.forall_mem_cons.mpr ⟨rfl, zs_nil⟩)⟩)⟩)⟩)⟩)⟩) ?_
    exact zt_X0_refusal_J116 hX hr hR hd h
  · rw [if_pos c91] at h
    refine zw_aload_n hX dX0_refusal_94 rfl ?_
    refine zw_iload_n hX dX0_refusal_95 rfl ?_
    obtain ⟨_, gi, h⟩ := zb_some h
    obtain ⟨r20, g, h⟩ := zb_some h
    refine zc_Vi (as := [.int i2]) hX gi (zt_X0_isOff (d := d - 1) (by omega) g) zl_X0_120 rfl dX0_refusal_96 ⟨rfl, rfl, Nat.le_of_ble_eq_true rfl⟩ ⟨by omega, by omega⟩ ?_
    refine zw_if_ne (tgt := 116) hX dX0_refusal_99 (by decide) (fun c99 => ?_) (fun c99 => ?_)
    · rw [if_neg c99] at h
      refine zw_sub (lv' := [(0, .ref a0), (1, .int i1), (2, .int i2), (3, .int i3), (5, .int t0), (6, .int r13.1)]) (List.forall_mem_cons.mpr ⟨rfl, (List.forall_mem_cons.mpr ⟨rfl, (List.forall_mem_cons.mpr ⟨rfl, (List.forall_mem_cons.mpr ⟨rfl, (List.forall_mem_cons.mpr ⟨rfl, (List.forall_mem_cons.mpr ⟨rfl, zs_nil⟩)⟩)⟩)⟩)⟩)⟩) ?_
      exact zt_X0_refusal_J116 hX hr hR hd h
    · rw [if_pos c99] at h
      refine zw_aload_n hX dX0_refusal_102 rfl ?_
      refine zw_iload hX dX0_refusal_103 rfl ?_
      refine zw_iload_n hX dX0_refusal_105 rfl ?_
      refine zw_iload_n hX dX0_refusal_106 rfl ?_
      obtain ⟨_, gi, h⟩ := zb_some h
      obtain ⟨r22, g, h⟩ := zb_some h
      refine zc_Vi (as := [.int i4, .int i2, .int i3]) hX gi (zt_X0_isElsewhere (d := d - 1) (by omega) g) zl_X0_193 rfl dX0_refusal_107 ⟨rfl, rfl, Nat.le_of_ble_eq_true rfl⟩ ⟨by omega, by omega⟩ ?_
      refine zw_if_eq (tgt := 116) hX dX0_refusal_110 (by decide) (fun c110 => ?_) (fun c110 => ?_)
      · rw [if_pos c110] at h
        refine zw_sub (lv' := [(0, .ref a0), (1, .int i1), (2, .int i2), (3, .int i3), (5, .int t0), (6, .int r13.1)]) (List.forall_mem_cons.mpr ⟨rfl, (List.forall_mem_cons.mpr ⟨rfl, (List.forall_mem_cons.mpr ⟨rfl, (List.forall_mem_cons.mpr ⟨rfl, (List.forall_mem_cons.mpr ⟨rfl, (List.forall_mem_cons.mpr ⟨rfl, zs_nil⟩)⟩)⟩)⟩)⟩)⟩) ?_
        exact zt_X0_refusal_J116 hX hr hR hd h
      · rw [if_neg c110] at h
        refine zw_iconst (v := (4 : Int32)) hX dX0_refusal_113 (by decide) ?_
        refine zw_istore hX dX0_refusal_114 (by decide) ?_
        refine zw_sub (lv' := [(0, .ref a0), (1, .int i1), (2, .int i2), (3, .int i3), (5, .int t0), (6, .int (4 : Int32))]) (List.forall_mem_cons.mpr ⟨rfl, (List.forall_mem_cons.mpr ⟨rfl, (List.forall_mem_cons.mpr ⟨rfl, (List.forall_mem_cons.mpr ⟨rfl, (List.forall_mem_cons.mpr ⟨rfl, (List.forall_mem_cons.mpr ⟨rfl, zs_nil⟩)⟩)⟩)⟩)⟩)⟩) ?_
        exact zt_X0_refusal_J116 hX hr hR hd h
set_option maxHeartbeats 4000000 in
set_option maxRecDepth 100000 in
theorem zt_X0_refusal {l : Launch} {V : zm_V} {N : Nat} {S : zm_S} {out : (Int32 × zm_S)} {d : Nat} {a0 : Nat} {i1 : Int32} {i2 : Int32} {i3 : Int32} (hd : 4 ≤ d) (h : zf_X0_refusal N a0 i1 i2 i3 S = some out) : zm_Met l zk_E V yX0_refusal (.code yX0_refusal cX0_refusal 7 (some .int)) d [.ref a0, .int i1, .int i2, .int i3] S 0 0 (zo_i out) zo_x := by
  refine zm_of (by decide +kernel) (Nat.le_of_ble_eq_true rfl) ?_
  intro p e R s m args below meth c hRR hX hr hxt
  have hR : R.frames = d ∧ R.locals = 64 * d := by rw [hRR]; exact ⟨rfl, rfl⟩
  have hX : zm_X p R s m args meth c RX0 "refusal" cX0_refusal 7 zk_E V 0 0 := hX
  unfold zf_X0_refusal at h
  refine zw_sub (lv' := [(0, .ref a0), (1, .int i1), (2, .int i2), (3, .int i3)]) (List.forall_mem_cons.mpr ⟨rfl, (List.forall_mem_cons.mpr ⟨rfl, (List.forall_mem_cons.mpr ⟨rfl, (List.forall_mem_cons.mpr ⟨rfl, zs_nil⟩)⟩)⟩)⟩) ?_
  refine zw_aload_n hX dX0_refusal_0 rfl ?_
  obtain ⟨b1, g, h⟩ := zb_some h
  refine zw_getr hX zl_X0_24 dX0_refusal_1 g ?_
  refine zw_iload_n hX dX0_refusal_4 rfl ?_
  obtain ⟨b2, g, h⟩ := zb_some h
  refine zw_xr hX dX0_refusal_5 g ?_
  refine zw_iconst (v := (0 : Int32)) hX dX0_refusal_6 (by decide) ?_
  obtain ⟨v3, g, h⟩ := zb_some h
  refine zw_xi hX dX0_refusal_7 g ?_
  refine zw_istore hX dX0_refusal_8 (by decide) ?_
  refine zw_aload_n hX dX0_refusal_10 rfl ?_
  obtain ⟨b4, g, h⟩ := zb_some h
  refine zw_getr hX zl_X0_44 dX0_refusal_11 g ?_
  refine zw_iload hX dX0_refusal_14 rfl ?_
  obtain ⟨_, gi, h⟩ := zb_some h
  obtain ⟨r6, g, h⟩ := zb_some h
  refine zc_Vi (as := [.int v3]) hX gi (zt_X10_isCaught (d := d - 1) (by omega) g) zl_X0_154 rfl dX0_refusal_16 ⟨rfl, rfl, Nat.le_of_ble_eq_true rfl⟩ ⟨by omega, by omega⟩ ?_
  refine zw_if_eq (tgt := 25) hX dX0_refusal_19 (by decide) (fun c19 => ?_) (fun c19 => ?_)
  · rw [if_pos c19] at h
    refine zw_aload_n hX dX0_refusal_25 rfl ?_
    obtain ⟨v7, g, h⟩ := zb_some h
    refine zw_geti hX zl_X0_182 dX0_refusal_26 g ?_
    refine zw_if_eq (tgt := 49) hX dX0_refusal_29 (by decide) (fun c29 => ?_) (fun c29 => ?_)
    · rw [if_pos c29] at h
      refine zw_aload_n hX dX0_refusal_49 rfl ?_
      refine zw_iload_n hX dX0_refusal_50 rfl ?_
      obtain ⟨_, gi, h⟩ := zb_some h
      obtain ⟨r9, g, h⟩ := zb_some h
      refine zc_Vi (as := [.int i2]) hX gi (zt_X0_isOff (d := d - 1) (by omega) g) zl_X0_120 rfl dX0_refusal_51 ⟨rfl, rfl, Nat.le_of_ble_eq_true rfl⟩ ⟨by omega, by omega⟩ ?_
      refine zw_if_eq (tgt := 67) hX dX0_refusal_54 (by decide) (fun c54 => ?_) (fun c54 => ?_)
      · rw [if_pos c54] at h
        refine zw_aload_n hX dX0_refusal_67 rfl ?_
        obtain ⟨v10, g, h⟩ := zb_some h
        refine zw_geti hX zl_X0_126 dX0_refusal_68 g ?_
        refine zw_sub (lv' := [(0, .ref a0), (1, .int i1), (2, .int i2), (3, .int i3), (4, .int v3)]) (List.forall_mem_cons.mpr ⟨rfl, (List.forall_mem_cons.mpr ⟨rfl, (List.forall_mem_cons.mpr ⟨rfl, (List.forall_mem_cons.mpr ⟨rfl, (List.forall_mem_cons.mpr ⟨rfl, zs_nil⟩)⟩)⟩)⟩)⟩) ?_
        exact zt_X0_refusal_J71 hX hr hR hd h
      · rw [if_neg c54] at h
        refine zw_aload_n hX dX0_refusal_57 rfl ?_
        refine zw_iload_n hX dX0_refusal_58 rfl ?_
        refine zw_bipush (v := (11 : Int32)) hX dX0_refusal_59 (by decide) ?_
        obtain ⟨_, gi, h⟩ := zb_some h
        obtain ⟨r24, g, h⟩ := zb_some h
        refine zc_Vi (as := [.int i2, .int (11 : Int32)]) hX gi (zt_X0_factOf (d := d - 1) (by omega) g) zl_X0_117 rfl dX0_refusal_61 ⟨rfl, rfl, Nat.le_of_ble_eq_true rfl⟩ ⟨by omega, by omega⟩ ?_
        refine zw_goto (tgt := 71) hX dX0_refusal_64 (by decide) ?_
        refine zw_sub (lv' := [(0, .ref a0), (1, .int i1), (2, .int i2), (3, .int i3), (4, .int v3)]) (List.forall_mem_cons.mpr ⟨rfl, (List.forall_mem_cons.mpr ⟨rfl, (List.forall_mem_cons.mpr ⟨rfl, (List.forall_mem_cons.mpr ⟨rfl, (List.forall_mem_cons.mpr ⟨rfl, zs_nil⟩)⟩)⟩)⟩)⟩) ?_
        exact zt_X0_refusal_J71 hX hr hR hd h
    · rw [if_neg c29] at h
      refine zw_aload_n hX dX0_refusal_32 rfl ?_
      refine zw_iload hX dX0_refusal_33 rfl ?_
      refine zw_iload_n hX dX0_refusal_35 rfl ?_
      refine zw_iload_n hX dX0_refusal_36 rfl ?_
      obtain ⟨_, gi, h⟩ := zb_some h
      obtain ⟨r26, g, h⟩ := zb_some h
      refine zc_Vi (as := [.int v3, .int i2, .int i3]) hX gi (zt_X0_isElsewhere (d := d - 1) (by omega) g) zl_X0_193 rfl dX0_refusal_37 ⟨rfl, rfl, Nat.le_of_ble_eq_true rfl⟩ ⟨by omega, by omega⟩ ?_
      refine zw_if_eq (tgt := 47) hX dX0_refusal_40 (by decide) (fun c40 => ?_) (fun c40 => ?_)
      · rw [if_pos c40] at h
        refine zw_iconst (v := (0 : Int32)) hX dX0_refusal_47 (by decide) ?_
        obtain rfl := Option.some.inj h
        exact zw_iret hX hr dX0_refusal_48 rfl ⟨rfl, rfl⟩
      · rw [if_neg c40] at h
        refine zw_iconst (v := (4 : Int32)) hX dX0_refusal_43 (by decide) ?_
        refine zw_goto (tgt := 48) hX dX0_refusal_44 (by decide) ?_
        obtain rfl := Option.some.inj h
        exact zw_iret hX hr dX0_refusal_48 rfl ⟨rfl, rfl⟩
  · rw [if_neg c19] at h
    refine zw_bipush (v := (9 : Int32)) hX dX0_refusal_22 (by decide) ?_
    obtain rfl := Option.some.inj h
    exact zw_iret hX hr dX0_refusal_24 rfl ⟨rfl, rfl⟩
set_option maxHeartbeats 4000000 in
set_option maxRecDepth 100000 in
theorem zt_X0_letIn_J15 {p : Program} {l : Launch} {e : Env} {R : Room} {s : State} {m : MethodId} {args : Array Value} {below : List Frame} {meth : Method} {c : Code} {V : zm_V} {mc ms d rc rs : Nat} (hX : zm_X p R s m args meth c RX0 "letIn" cX0_letIn 6 zk_E V mc ms) (hr : meth.sig.returnType = none) (hR : R.frames = d ∧ R.locals = 64 * d) (hd : 4 ≤ d) {N : Nat} {a0 : Nat} {i1 : Int32} {i2 : Int32} {i3 : Int32} {out : (Unit × zm_S)} {S : zm_S} (h : zf_X0_letIn_J15 N a0 i1 i2 i3 S = some out) : zw p l e R s m args below meth c (vx_MQ below (zm_Qc zk_E V (zo_v out)) (zm_XC zk_E V zo_x) args s mc ms (fun q => V.2.2.2.1 ≤ q)) 6 zk_E V mc ms 15 [(0, .ref a0), (1, .int i1), (2, .int i2), (3, .int i3)] [] S rc rs := by
  unfold zf_X0_letIn_J15 at h
  refine zw_aload_n hX dX0_letIn_15 rfl ?_
  refine zw_aload_n hX dX0_letIn_16 rfl ?_
  obtain ⟨b2, g, h⟩ := zb_some h
  refine zw_getr hX zl_X0_24 dX0_letIn_17 g ?_
  refine zw_iload_n hX dX0_letIn_20 rfl ?_
  obtain ⟨b3, g, h⟩ := zb_some h
  refine zw_xr hX dX0_letIn_21 g ?_
  refine zw_iconst (v := (0 : Int32)) hX dX0_letIn_22 (by decide) ?_
  obtain ⟨v4, g, h⟩ := zb_some h
  refine zw_xi hX dX0_letIn_23 g ?_
  refine zw_iload_n hX dX0_letIn_24 rfl ?_
  refine zw_iload_n hX dX0_letIn_25 rfl ?_
  refine zw_aload_n hX dX0_letIn_26 rfl ?_
  obtain ⟨v5, g, h⟩ := zb_some h
  refine zw_geti hX zl_X0_179 dX0_letIn_27 g ?_
  obtain ⟨_, gi, h⟩ := zb_some h
  obtain ⟨r7, g, h⟩ := zb_some h
  refine zc_Vv (as := [.int v4, .int i2, .int i3, .int v5]) hX gi (zt_X0_comeIn (d := d - 1) (by omega) g) zl_X0_157 rfl dX0_letIn_30 ⟨rfl, rfl, Nat.le_of_ble_eq_true rfl⟩ ⟨by omega, by omega⟩ ?_
  obtain rfl := Option.some.inj h
  exact zw_vret hX hr dX0_letIn_33 ⟨rfl, rfl⟩
set_option maxHeartbeats 4000000 in
set_option maxRecDepth 100000 in
theorem zt_X0_letIn {l : Launch} {V : zm_V} {N : Nat} {S : zm_S} {out : (Unit × zm_S)} {d : Nat} {a0 : Nat} {i1 : Int32} {i2 : Int32} {i3 : Int32} (hd : 4 ≤ d) (h : zf_X0_letIn N a0 i1 i2 i3 S = some out) : zm_Met l zk_E V yX0_letIn (.code yX0_letIn cX0_letIn 6 none) d [.ref a0, .int i1, .int i2, .int i3] S 0 0 (zo_v out) zo_x := by
  refine zm_of (by decide +kernel) (Nat.le_of_ble_eq_true rfl) ?_
  intro p e R s m args below meth c hRR hX hr hxt
  have hR : R.frames = d ∧ R.locals = 64 * d := by rw [hRR]; exact ⟨rfl, rfl⟩
  have hX : zm_X p R s m args meth c RX0 "letIn" cX0_letIn 6 zk_E V 0 0 := hX
  unfold zf_X0_letIn at h
  refine zw_sub (lv' := [(0, .ref a0), (1, .int i1), (2, .int i2), (3, .int i3)]) (List.forall_mem_cons.mpr ⟨rfl, (List.forall_mem_cons.mpr ⟨rfl, (List.forall_mem_cons.mpr ⟨rfl, (List.forall_mem_cons.mpr ⟨rfl, zs_nil⟩)⟩)⟩)⟩) ?_
  refine zw_aload_n hX dX0_letIn_0 rfl ?_
  obtain ⟨v1, g, h⟩ := zb_some h
  refine zw_geti hX zl_X0_182 dX0_letIn_1 g ?_
  refine zw_if_ne (tgt := 15) hX dX0_letIn_4 (by decide) (fun c4 => ?_) (fun c4 => ?_)
  · rw [if_neg c4] at h
    refine zw_sub (lv' := [(0, .ref a0), (1, .int i1), (2, .int i2), (3, .int i3)]) (List.forall_mem_cons.mpr ⟨rfl, (List.forall_mem_cons.mpr ⟨rfl, (List.forall_mem_cons.mpr ⟨rfl, (List.forall_mem_cons.mpr ⟨rfl, zs_nil⟩)⟩)⟩)⟩) ?_
    exact zt_X0_letIn_J15 hX hr hR hd h
  · rw [if_pos c4] at h
    refine zw_aload_n hX dX0_letIn_7 rfl ?_
    refine zw_iload_n hX dX0_letIn_8 rfl ?_
    obtain ⟨_, gi, h⟩ := zb_some h
    obtain ⟨r9, g, h⟩ := zb_some h
    refine zc_Vi (as := [.int i2]) hX gi (zt_X0_isOff (d := d - 1) (by omega) g) zl_X0_120 rfl dX0_letIn_9 ⟨rfl, rfl, Nat.le_of_ble_eq_true rfl⟩ ⟨by omega, by omega⟩ ?_
    refine zw_if_ne (tgt := 34) hX dX0_letIn_12 (by decide) (fun c12 => ?_) (fun c12 => ?_)
    · rw [if_neg c12] at h
      refine zw_aload_n hX dX0_letIn_34 rfl ?_
      refine zw_iload_n hX dX0_letIn_35 rfl ?_
      refine zw_bipush (v := (12 : Int32)) hX dX0_letIn_36 (by decide) ?_
      obtain ⟨_, gi, h⟩ := zb_some h
      obtain ⟨r11, g, h⟩ := zb_some h
      refine zc_Vi (as := [.int i2, .int (12 : Int32)]) hX gi (zt_X0_factOf (d := d - 1) (by omega) g) zl_X0_117 rfl dX0_letIn_38 ⟨rfl, rfl, Nat.le_of_ble_eq_true rfl⟩ ⟨by omega, by omega⟩ ?_
      refine zw_istore hX dX0_letIn_41 (by decide) ?_
      refine zw_iload hX dX0_letIn_43 rfl ?_
      refine zw_bipush (v := (20 : Int32)) hX dX0_letIn_45 (by decide) ?_
      refine zw_icmp_ge (tgt := 106) hX dX0_letIn_47 (by decide) (fun c47 => ?_) (fun c47 => ?_)
      · rw [if_pos c47] at h
        obtain rfl := Option.some.inj h
        exact zw_vret hX hr dX0_letIn_106 ⟨rfl, rfl⟩
      · rw [if_neg c47] at h
        refine zw_iconst (v := (3 : Int32)) hX dX0_letIn_50 (by decide) ?_
        refine zw_iload_n hX dX0_letIn_51 rfl ?_
        refine zw_bipush (v := (20 : Int32)) hX dX0_letIn_52 (by decide) ?_
        refine zw_imul hX dX0_letIn_54 ?_
        refine zw_iload hX dX0_letIn_55 rfl ?_
        refine zw_iadd hX dX0_letIn_57 ?_
        refine zw_imul hX dX0_letIn_58 ?_
        refine zw_istore hX dX0_letIn_59 (by decide) ?_
        refine zw_aload_n hX dX0_letIn_61 rfl ?_
        obtain ⟨b12, g, h⟩ := zb_some h
        refine zw_getr hX zl_X0_15 dX0_letIn_62 g ?_
        refine zw_iload hX dX0_letIn_65 rfl ?_
        refine zw_iload_n hX dX0_letIn_67 rfl ?_
        obtain ⟨S13, g, h⟩ := zb_some h
        refine zw_si hX dX0_letIn_68 g ?_
        refine zw_aload_n hX dX0_letIn_69 rfl ?_
        obtain ⟨b14, g, h⟩ := zb_some h
        refine zw_getr hX zl_X0_15 dX0_letIn_70 g ?_
        refine zw_iload hX dX0_letIn_73 rfl ?_
        refine zw_iconst (v := (1 : Int32)) hX dX0_letIn_75 (by decide) ?_
        refine zw_iadd hX dX0_letIn_76 ?_
        refine zw_iload_n hX dX0_letIn_77 rfl ?_
        obtain ⟨S15, g, h⟩ := zb_some h
        refine zw_si hX dX0_letIn_78 g ?_
        refine zw_aload_n hX dX0_letIn_79 rfl ?_
        obtain ⟨b16, g, h⟩ := zb_some h
        refine zw_getr hX zl_X0_15 dX0_letIn_80 g ?_
        refine zw_iload hX dX0_letIn_83 rfl ?_
        refine zw_iconst (v := (2 : Int32)) hX dX0_letIn_85 (by decide) ?_
        refine zw_iadd hX dX0_letIn_86 ?_
        refine zw_aload_n hX dX0_letIn_87 rfl ?_
        obtain ⟨v17, g, h⟩ := zb_some h
        refine zw_geti hX zl_X0_179 dX0_letIn_88 g ?_
        refine zw_bipush (v := (60 : Int32)) hX dX0_letIn_91 (by decide) ?_
        refine zw_idiv hX dX0_letIn_93 (by decide) ?_
        obtain ⟨S18, g, h⟩ := zb_some h
        refine zw_si hX dX0_letIn_94 g ?_
        refine zw_aload_n hX dX0_letIn_95 rfl ?_
        refine zw_iload_n hX dX0_letIn_96 rfl ?_
        refine zw_bipush (v := (12 : Int32)) hX dX0_letIn_97 (by decide) ?_
        refine zw_iload hX dX0_letIn_99 rfl ?_
        refine zw_iconst (v := (1 : Int32)) hX dX0_letIn_101 (by decide) ?_
        refine zw_iadd hX dX0_letIn_102 ?_
        obtain ⟨_, gi, h⟩ := zb_some h
        obtain ⟨r20, g, h⟩ := zb_some h
        refine zc_Vv (as := [.int i2, .int (12 : Int32), .int (r11.1 + (1 : Int32))]) hX gi (zt_X0_setFact (d := d - 1) (by omega) g) zl_X0_94 rfl dX0_letIn_103 ⟨rfl, rfl, Nat.le_of_ble_eq_true rfl⟩ ⟨by omega, by omega⟩ ?_
        obtain rfl := Option.some.inj h
        exact zw_vret hX hr dX0_letIn_106 ⟨rfl, rfl⟩
    · rw [if_pos c12] at h
      refine zw_sub (lv' := [(0, .ref a0), (1, .int i1), (2, .int i2), (3, .int i3)]) (List.forall_mem_cons.mpr ⟨rfl, (List.forall_mem_cons.mpr ⟨rfl, (List.forall_mem_cons.mpr ⟨rfl, (List.forall_mem_cons.mpr ⟨rfl, zs_nil⟩)⟩)⟩)⟩) ?_
      exact zt_X0_letIn_J15 hX hr hR hd h
set_option maxHeartbeats 4000000 in
set_option maxRecDepth 100000 in
theorem zt_X0_askOne_J35 {p : Program} {l : Launch} {e : Env} {R : Room} {s : State} {m : MethodId} {args : Array Value} {below : List Frame} {meth : Method} {c : Code} {V : zm_V} {mc ms d rc rs : Nat} (hX : zm_X p R s m args meth c RX0 "askOne" cX0_askOne 5 zk_E V mc ms) (hr : meth.sig.returnType = (some .int)) (hR : R.frames = d ∧ R.locals = 64 * d) (hd : 5 ≤ d) {N : Nat} {a0 : Nat} {i1 : Int32} {i2 : Int32} {i3 : Int32} {i4 : Int32} {out : (Int32 × zm_S)} {S : zm_S} (h : zf_X0_askOne_J35 N a0 i1 i2 i3 i4 S = some out) : zw p l e R s m args below meth c (vx_MQ below (zm_Qc zk_E V (zo_i out)) (zm_XC zk_E V zo_x) args s mc ms (fun q => V.2.2.2.1 ≤ q)) 5 zk_E V mc ms 35 [(0, .ref a0), (1, .int i1), (2, .int i2), (3, .int i3), (4, .int i4)] [] S rc rs := by
  unfold zf_X0_askOne_J35 at h
  refine zw_iload hX dX0_askOne_35 rfl ?_
  refine zw_if_ne (tgt := 47) hX dX0_askOne_37 (by decide) (fun c37 => ?_) (fun c37 => ?_)
  · rw [if_neg c37] at h
    refine zw_iload hX dX0_askOne_47 rfl ?_
    obtain rfl := Option.some.inj h
    exact zw_iret hX hr dX0_askOne_49 rfl ⟨rfl, rfl⟩
  · rw [if_pos c37] at h
    refine zw_aload_n hX dX0_askOne_40 rfl ?_
    refine zw_iload_n hX dX0_askOne_41 rfl ?_
    refine zw_iload_n hX dX0_askOne_42 rfl ?_
    refine zw_iload_n hX dX0_askOne_43 rfl ?_
    obtain ⟨_, gi, h⟩ := zb_some h
    obtain ⟨r4, g, h⟩ := zb_some h
    refine zc_Vv (as := [.int i1, .int i2, .int i3]) hX gi (zt_X0_letIn (d := d - 1) (by omega) g) zl_X0_190 rfl dX0_askOne_44 ⟨rfl, rfl, Nat.le_of_ble_eq_true rfl⟩ ⟨by omega, by omega⟩ ?_
    refine zw_iload hX dX0_askOne_47 rfl ?_
    obtain rfl := Option.some.inj h
    exact zw_iret hX hr dX0_askOne_49 rfl ⟨rfl, rfl⟩
set_option maxHeartbeats 4000000 in
set_option maxRecDepth 100000 in
theorem zt_X0_askOne {l : Launch} {V : zm_V} {N : Nat} {S : zm_S} {out : (Int32 × zm_S)} {d : Nat} {a0 : Nat} {i1 : Int32} {i2 : Int32} {i3 : Int32} (hd : 5 ≤ d) (h : zf_X0_askOne N a0 i1 i2 i3 S = some out) : zm_Met l zk_E V yX0_askOne (.code yX0_askOne cX0_askOne 5 (some .int)) d [.ref a0, .int i1, .int i2, .int i3] S 0 0 (zo_i out) zo_x := by
  refine zm_of (by decide +kernel) (Nat.le_of_ble_eq_true rfl) ?_
  intro p e R s m args below meth c hRR hX hr hxt
  have hR : R.frames = d ∧ R.locals = 64 * d := by rw [hRR]; exact ⟨rfl, rfl⟩
  have hX : zm_X p R s m args meth c RX0 "askOne" cX0_askOne 5 zk_E V 0 0 := hX
  unfold zf_X0_askOne at h
  refine zw_sub (lv' := [(0, .ref a0), (1, .int i1), (2, .int i2), (3, .int i3)]) (List.forall_mem_cons.mpr ⟨rfl, (List.forall_mem_cons.mpr ⟨rfl, (List.forall_mem_cons.mpr ⟨rfl, (List.forall_mem_cons.mpr ⟨rfl, zs_nil⟩)⟩)⟩)⟩) ?_
  refine zw_aload_n hX dX0_askOne_0 rfl ?_
  refine zw_iload_n hX dX0_askOne_1 rfl ?_
  refine zw_iload_n hX dX0_askOne_2 rfl ?_
  refine zw_iload_n hX dX0_askOne_3 rfl ?_
  obtain ⟨_, gi, h⟩ := zb_some h
  obtain ⟨r2, g, h⟩ := zb_some h
  refine zc_Vi (as := [.int i1, .int i2, .int i3]) hX gi (zt_X0_refusal (d := d - 1) (by omega) g) zl_X0_186 rfl dX0_askOne_4 ⟨rfl, rfl, Nat.le_of_ble_eq_true rfl⟩ ⟨by omega, by omega⟩ ?_
  refine zw_istore hX dX0_askOne_7 (by decide) ?_
  refine zw_iload hX dX0_askOne_9 rfl ?_
  refine zw_if_ne (tgt := 35) hX dX0_askOne_11 (by decide) (fun c11 => ?_) (fun c11 => ?_)
  · rw [if_neg c11] at h
    refine zw_sub (lv' := [(0, .ref a0), (1, .int i1), (2, .int i2), (3, .int i3), (4, .int r2.1)]) (List.forall_mem_cons.mpr ⟨rfl, (List.forall_mem_cons.mpr ⟨rfl, (List.forall_mem_cons.mpr ⟨rfl, (List.forall_mem_cons.mpr ⟨rfl, (List.forall_mem_cons.mpr ⟨rfl, zs_nil⟩)⟩)⟩)⟩)⟩) ?_
    exact zt_X0_askOne_J35 hX hr hR hd h
  · rw [if_pos c11] at h
    refine zw_aload_n hX dX0_askOne_14 rfl ?_
    obtain ⟨v5, g, h⟩ := zb_some h
    refine zw_geti hX zl_X0_182 dX0_askOne_15 g ?_
    refine zw_if_ne (tgt := 35) hX dX0_askOne_18 (by decide) (fun c18 => ?_) (fun c18 => ?_)
    · rw [if_neg c18] at h
      refine zw_sub (lv' := [(0, .ref a0), (1, .int i1), (2, .int i2), (3, .int i3), (4, .int r2.1)]) (List.forall_mem_cons.mpr ⟨rfl, (List.forall_mem_cons.mpr ⟨rfl, (List.forall_mem_cons.mpr ⟨rfl, (List.forall_mem_cons.mpr ⟨rfl, (List.forall_mem_cons.mpr ⟨rfl, zs_nil⟩)⟩)⟩)⟩)⟩) ?_
      exact zt_X0_askOne_J35 hX hr hR hd h
    · rw [if_pos c18] at h
      refine zw_aload_n hX dX0_askOne_21 rfl ?_
      refine zw_iload_n hX dX0_askOne_22 rfl ?_
      refine zw_bipush (v := (10 : Int32)) hX dX0_askOne_23 (by decide) ?_
      obtain ⟨_, gi, h⟩ := zb_some h
      obtain ⟨r7, g, h⟩ := zb_some h
      refine zc_Vi (as := [.int i2, .int (10 : Int32)]) hX gi (zt_X0_factOf (d := d - 1) (by omega) g) zl_X0_117 rfl dX0_askOne_25 ⟨rfl, rfl, Nat.le_of_ble_eq_true rfl⟩ ⟨by omega, by omega⟩ ?_
      refine zw_if_eq (tgt := 35) hX dX0_askOne_28 (by decide) (fun c28 => ?_) (fun c28 => ?_)
      · rw [if_pos c28] at h
        refine zw_sub (lv' := [(0, .ref a0), (1, .int i1), (2, .int i2), (3, .int i3), (4, .int r2.1)]) (List.forall_mem_cons.mpr ⟨rfl, (List.forall_mem_cons.mpr ⟨rfl, (List.forall_mem_cons.mpr ⟨rfl, (List.forall_mem_cons.mpr ⟨rfl, (List.forall_mem_cons.mpr ⟨rfl, zs_nil⟩)⟩)⟩)⟩)⟩) ?_
        exact zt_X0_askOne_J35 hX hr hR hd h
      · rw [if_neg c28] at h
        refine zw_bipush (v := (7 : Int32)) hX dX0_askOne_31 (by decide) ?_
        refine zw_istore hX dX0_askOne_33 (by decide) ?_
        refine zw_sub (lv' := [(0, .ref a0), (1, .int i1), (2, .int i2), (3, .int i3), (4, .int (7 : Int32))]) (List.forall_mem_cons.mpr ⟨rfl, (List.forall_mem_cons.mpr ⟨rfl, (List.forall_mem_cons.mpr ⟨rfl, (List.forall_mem_cons.mpr ⟨rfl, (List.forall_mem_cons.mpr ⟨rfl, zs_nil⟩)⟩)⟩)⟩)⟩) ?_
        exact zt_X0_askOne_J35 hX hr hR hd h
set_option maxHeartbeats 4000000 in
set_option maxRecDepth 100000 in
theorem zt_X0_askTwo_J60 {p : Program} {l : Launch} {e : Env} {R : Room} {s : State} {m : MethodId} {args : Array Value} {below : List Frame} {meth : Method} {c : Code} {V : zm_V} {mc ms d rc rs : Nat} (hX : zm_X p R s m args meth c RX0 "askTwo" cX0_askTwo 6 zk_E V mc ms) (hr : meth.sig.returnType = (some .int)) (hR : R.frames = d ∧ R.locals = 64 * d) (hd : 5 ≤ d) {N : Nat} {a0 : Nat} {i1 : Int32} {i2 : Int32} {i3 : Int32} {i4 : Int32} {i5 : Int32} {out : (Int32 × zm_S)} {S : zm_S} (h : zf_X0_askTwo_J60 N a0 i1 i2 i3 i4 i5 S = some out) : zw p l e R s m args below meth c (vx_MQ below (zm_Qc zk_E V (zo_i out)) (zm_XC zk_E V zo_x) args s mc ms (fun q => V.2.2.2.1 ≤ q)) 6 zk_E V mc ms 60 [(0, .ref a0), (1, .int i1), (2, .int i2), (3, .int i3), (4, .int i4), (5, .int i5)] [] S rc rs := by
  unfold zf_X0_askTwo_J60 at h
  refine zw_iload hX dX0_askTwo_60 rfl ?_
  refine zw_if_ne (tgt := 81) hX dX0_askTwo_62 (by decide) (fun c62 => ?_) (fun c62 => ?_)
  · rw [if_neg c62] at h
    refine zw_iload hX dX0_askTwo_81 rfl ?_
    obtain rfl := Option.some.inj h
    exact zw_iret hX hr dX0_askTwo_83 rfl ⟨rfl, rfl⟩
  · rw [if_pos c62] at h
    refine zw_aload_n hX dX0_askTwo_65 rfl ?_
    refine zw_iload_n hX dX0_askTwo_66 rfl ?_
    refine zw_iload_n hX dX0_askTwo_67 rfl ?_
    refine zw_iload hX dX0_askTwo_68 rfl ?_
    obtain ⟨_, gi, h⟩ := zb_some h
    obtain ⟨r4, g, h⟩ := zb_some h
    refine zc_Vv (as := [.int i1, .int i3, .int i4]) hX gi (zt_X0_letIn (d := d - 1) (by omega) g) zl_X0_190 rfl dX0_askTwo_70 ⟨rfl, rfl, Nat.le_of_ble_eq_true rfl⟩ ⟨by omega, by omega⟩ ?_
    refine zw_aload_n hX dX0_askTwo_73 rfl ?_
    refine zw_iload_n hX dX0_askTwo_74 rfl ?_
    refine zw_iload_n hX dX0_askTwo_75 rfl ?_
    refine zw_iload hX dX0_askTwo_76 rfl ?_
    obtain ⟨_, gi, h⟩ := zb_some h
    obtain ⟨r6, g, h⟩ := zb_some h
    refine zc_Vv (as := [.int i2, .int i3, .int i4]) hX gi (zt_X0_letIn (d := d - 1) (by omega) g) zl_X0_190 rfl dX0_askTwo_78 ⟨rfl, rfl, Nat.le_of_ble_eq_true rfl⟩ ⟨by omega, by omega⟩ ?_
    refine zw_iload hX dX0_askTwo_81 rfl ?_
    obtain rfl := Option.some.inj h
    exact zw_iret hX hr dX0_askTwo_83 rfl ⟨rfl, rfl⟩
set_option maxHeartbeats 4000000 in
set_option maxRecDepth 100000 in
theorem zt_X0_askTwo_J25 {p : Program} {l : Launch} {e : Env} {R : Room} {s : State} {m : MethodId} {args : Array Value} {below : List Frame} {meth : Method} {c : Code} {V : zm_V} {mc ms d rc rs : Nat} (hX : zm_X p R s m args meth c RX0 "askTwo" cX0_askTwo 6 zk_E V mc ms) (hr : meth.sig.returnType = (some .int)) (hR : R.frames = d ∧ R.locals = 64 * d) (hd : 5 ≤ d) {N : Nat} {a0 : Nat} {i1 : Int32} {i2 : Int32} {i3 : Int32} {i4 : Int32} {i5 : Int32} {out : (Int32 × zm_S)} {S : zm_S} (h : zf_X0_askTwo_J25 N a0 i1 i2 i3 i4 i5 S = some out) : zw p l e R s m args below meth c (vx_MQ below (zm_Qc zk_E V (zo_i out)) (zm_XC zk_E V zo_x) args s mc ms (fun q => V.2.2.2.1 ≤ q)) 6 zk_E V mc ms 25 [(0, .ref a0), (1, .int i1), (2, .int i2), (3, .int i3), (4, .int i4), (5, .int i5)] [] S rc rs := by
  unfold zf_X0_askTwo_J25 at h
  refine zw_iload hX dX0_askTwo_25 rfl ?_
  refine zw_if_ne (tgt := 60) hX dX0_askTwo_27 (by decide) (fun c27 => ?_) (fun c27 => ?_)
  · rw [if_neg c27] at h
    refine zw_sub (lv' := [(0, .ref a0), (1, .int i1), (2, .int i2), (3, .int i3), (4, .int i4), (5, .int i5)]) (List.forall_mem_cons.mpr ⟨rfl, (List.forall_mem_cons.mpr ⟨rfl, (List.forall_mem_cons.mpr ⟨rfl, (List.forall_mem_cons.mpr ⟨rfl, (List.forall_mem_cons.mpr ⟨rfl, (List.forall_mem_cons.mpr ⟨rfl, zs_nil⟩)⟩)⟩)⟩)⟩)⟩) ?_
    exact zt_X0_askTwo_J60 hX hr hR hd h
  · rw [if_pos c27] at h
    refine zw_aload_n hX dX0_askTwo_30 rfl ?_
    obtain ⟨v7, g, h⟩ := zb_some h
    refine zw_geti hX zl_X0_182 dX0_askTwo_31 g ?_
    refine zw_if_ne (tgt := 60) hX dX0_askTwo_34 (by decide) (fun c34 => ?_) (fun c34 => ?_)
    · rw [if_neg c34] at h
      refine zw_sub (lv' := [(0, .ref a0), (1, .int i1), (2, .int i2), (3, .int i3), (4, .int i4), (5, .int i5)]) (List.forall_mem_cons.mpr ⟨rfl, (List.forall_mem_cons.mpr ⟨rfl, (List.forall_mem_cons.mpr ⟨rfl, (List.forall_mem_cons.mpr ⟨rfl, (List.forall_mem_cons.mpr ⟨rfl, (List.forall_mem_cons.mpr ⟨rfl, zs_nil⟩)⟩)⟩)⟩)⟩)⟩) ?_
      exact zt_X0_askTwo_J60 hX hr hR hd h
    · rw [if_pos c34] at h
      refine zw_aload_n hX dX0_askTwo_37 rfl ?_
      obtain ⟨b8, g, h⟩ := zb_some h
      refine zw_getr hX zl_X0_24 dX0_askTwo_38 g ?_
      refine zw_iload_n hX dX0_askTwo_41 rfl ?_
      obtain ⟨b9, g, h⟩ := zb_some h
      refine zw_xr hX dX0_askTwo_42 g ?_
      refine zw_iconst (v := (0 : Int32)) hX dX0_askTwo_43 (by decide) ?_
      obtain ⟨v10, g, h⟩ := zb_some h
      refine zw_xi hX dX0_askTwo_44 g ?_
      refine zw_aload_n hX dX0_askTwo_45 rfl ?_
      obtain ⟨b11, g, h⟩ := zb_some h
      refine zw_getr hX zl_X0_24 dX0_askTwo_46 g ?_
      refine zw_iload_n hX dX0_askTwo_49 rfl ?_
      obtain ⟨b12, g, h⟩ := zb_some h
      refine zw_xr hX dX0_askTwo_50 g ?_
      refine zw_iconst (v := (0 : Int32)) hX dX0_askTwo_51 (by decide) ?_
      obtain ⟨v13, g, h⟩ := zb_some h
      refine zw_xi hX dX0_askTwo_52 g ?_
      refine zw_icmp_ne (tgt := 60) hX dX0_askTwo_53 (by decide) (fun c53 => ?_) (fun c53 => ?_)
      · rw [if_neg c53] at h
        refine zw_sub (lv' := [(0, .ref a0), (1, .int i1), (2, .int i2), (3, .int i3), (4, .int i4), (5, .int i5)]) (List.forall_mem_cons.mpr ⟨rfl, (List.forall_mem_cons.mpr ⟨rfl, (List.forall_mem_cons.mpr ⟨rfl, (List.forall_mem_cons.mpr ⟨rfl, (List.forall_mem_cons.mpr ⟨rfl, (List.forall_mem_cons.mpr ⟨rfl, zs_nil⟩)⟩)⟩)⟩)⟩)⟩) ?_
        exact zt_X0_askTwo_J60 hX hr hR hd h
      · rw [if_pos c53] at h
        refine zw_bipush (v := (8 : Int32)) hX dX0_askTwo_56 (by decide) ?_
        refine zw_istore hX dX0_askTwo_58 (by decide) ?_
        refine zw_sub (lv' := [(0, .ref a0), (1, .int i1), (2, .int i2), (3, .int i3), (4, .int i4), (5, .int (8 : Int32))]) (List.forall_mem_cons.mpr ⟨rfl, (List.forall_mem_cons.mpr ⟨rfl, (List.forall_mem_cons.mpr ⟨rfl, (List.forall_mem_cons.mpr ⟨rfl, (List.forall_mem_cons.mpr ⟨rfl, (List.forall_mem_cons.mpr ⟨rfl, zs_nil⟩)⟩)⟩)⟩)⟩)⟩) ?_
        exact zt_X0_askTwo_J60 hX hr hR hd h
set_option maxHeartbeats 4000000 in
set_option maxRecDepth 100000 in
theorem zt_X0_askTwo {l : Launch} {V : zm_V} {N : Nat} {S : zm_S} {out : (Int32 × zm_S)} {d : Nat} {a0 : Nat} {i1 : Int32} {i2 : Int32} {i3 : Int32} {i4 : Int32} (hd : 5 ≤ d) (h : zf_X0_askTwo N a0 i1 i2 i3 i4 S = some out) : zm_Met l zk_E V yX0_askTwo (.code yX0_askTwo cX0_askTwo 6 (some .int)) d [.ref a0, .int i1, .int i2, .int i3, .int i4] S 0 0 (zo_i out) zo_x := by
  refine zm_of (by decide +kernel) (Nat.le_of_ble_eq_true rfl) ?_
  intro p e R s m args below meth c hRR hX hr hxt
  have hR : R.frames = d ∧ R.locals = 64 * d := by rw [hRR]; exact ⟨rfl, rfl⟩
  have hX : zm_X p R s m args meth c RX0 "askTwo" cX0_askTwo 6 zk_E V 0 0 := hX
  unfold zf_X0_askTwo at h
  refine zw_sub (lv' := [(0, .ref a0), (1, .int i1), (2, .int i2), (3, .int i3), (4, .int i4)]) (List.forall_mem_cons.mpr ⟨rfl, (List.forall_mem_cons.mpr ⟨rfl, (List.forall_mem_cons.mpr ⟨rfl, (List.forall_mem_cons.mpr ⟨rfl, (List.forall_mem_cons.mpr ⟨rfl, zs_nil⟩)⟩)⟩)⟩)⟩) ?_
  refine zw_aload_n hX dX0_askTwo_0 rfl ?_
  refine zw_iload_n hX dX0_askTwo_1 rfl ?_
  refine zw_iload_n hX dX0_askTwo_2 rfl ?_
  refine zw_iload hX dX0_askTwo_3 rfl ?_
  obtain ⟨_, gi, h⟩ := zb_some h
  obtain ⟨r2, g, h⟩ := zb_some h
  refine zc_Vi (as := [.int i1, .int i3, .int i4]) hX gi (zt_X0_refusal (d := d - 1) (by omega) g) zl_X0_186 rfl dX0_askTwo_5 ⟨rfl, rfl, Nat.le_of_ble_eq_true rfl⟩ ⟨by omega, by omega⟩ ?_
  refine zw_istore hX dX0_askTwo_8 (by decide) ?_
  refine zw_iload hX dX0_askTwo_10 rfl ?_
  refine zw_if_ne (tgt := 25) hX dX0_askTwo_12 (by decide) (fun c12 => ?_) (fun c12 => ?_)
  · rw [if_neg c12] at h
    refine zw_sub (lv' := [(0, .ref a0), (1, .int i1), (2, .int i2), (3, .int i3), (4, .int i4), (5, .int r2.1)]) (List.forall_mem_cons.mpr ⟨rfl, (List.forall_mem_cons.mpr ⟨rfl, (List.forall_mem_cons.mpr ⟨rfl, (List.forall_mem_cons.mpr ⟨rfl, (List.forall_mem_cons.mpr ⟨rfl, (List.forall_mem_cons.mpr ⟨rfl, zs_nil⟩)⟩)⟩)⟩)⟩)⟩) ?_
    exact zt_X0_askTwo_J25 hX hr hR hd h
  · rw [if_pos c12] at h
    refine zw_aload_n hX dX0_askTwo_15 rfl ?_
    refine zw_iload_n hX dX0_askTwo_16 rfl ?_
    refine zw_iload_n hX dX0_askTwo_17 rfl ?_
    refine zw_iload hX dX0_askTwo_18 rfl ?_
    obtain ⟨_, gi, h⟩ := zb_some h
    obtain ⟨r15, g, h⟩ := zb_some h
    refine zc_Vi (as := [.int i2, .int i3, .int i4]) hX gi (zt_X0_refusal (d := d - 1) (by omega) g) zl_X0_186 rfl dX0_askTwo_20 ⟨rfl, rfl, Nat.le_of_ble_eq_true rfl⟩ ⟨by omega, by omega⟩ ?_
    refine zw_istore hX dX0_askTwo_23 (by decide) ?_
    refine zw_sub (lv' := [(0, .ref a0), (1, .int i1), (2, .int i2), (3, .int i3), (4, .int i4), (5, .int r15.1)]) (List.forall_mem_cons.mpr ⟨rfl, (List.forall_mem_cons.mpr ⟨rfl, (List.forall_mem_cons.mpr ⟨rfl, (List.forall_mem_cons.mpr ⟨rfl, (List.forall_mem_cons.mpr ⟨rfl, (List.forall_mem_cons.mpr ⟨rfl, zs_nil⟩)⟩)⟩)⟩)⟩)⟩) ?_
    exact zt_X0_askTwo_J25 hX hr hR hd h
set_option maxHeartbeats 4000000 in
set_option maxRecDepth 100000 in
theorem zt_X1_init_L114 {p : Program} {l : Launch} {e : Env} {R : Room} {s : State} {m : MethodId} {args : Array Value} {below : List Frame} {meth : Method} {c : Code} {V : zm_V} {mc ms d rc rs : Nat} (hX : zm_X p R s m args meth c RX1 "<init>" cX1_init 3 zk_E V mc ms) (hr : meth.sig.returnType = none) (hR : R.frames = d ∧ R.locals = 64 * d) (hd : 2 ≤ d) {N : Nat} {res : (Unit × zm_S) ⊕ ((Unit) × zm_S)} {out : (Unit × zm_S)} (a0 : Nat) (hf : ∀ o, res = .inl o → o = out) (hk : ∀ (S' : zm_S), res = .inr ((), S') → zw p l e R s m args below meth c (vx_MQ below (zm_Qc zk_E V (zo_v out)) (zm_XC zk_E V zo_x) args s mc ms (fun q => V.2.2.2.1 ≤ q)) 3 zk_E V mc ms 164 [] [] S' rc rs) : ∀ (n : Nat) (i2 : Int32) (S : zm_S), zf_X1_init_L114 N n a0 i2 S = some res → zw p l e R s m args below meth c (vx_MQ below (zm_Qc zk_E V (zo_v out)) (zm_XC zk_E V zo_x) args s mc ms (fun q => V.2.2.2.1 ≤ q)) 3 zk_E V mc ms 114 [(0, .ref a0), (2, .int i2)] [] S rc rs := by
  intro n
  induction n with
  | zero => intro i2 S h; cases h
  | succ n ih =>
    intro i2 S h
    rw [zf_X1_init_L114] at h
    refine zw_iload_n hX dX1_init_114 rfl ?_
    refine zw_bipush (v := (8 : Int32)) hX dX1_init_115 (by decide) ?_
    refine zw_icmp_ge (tgt := 164) hX dX1_init_117 (by decide) (fun c117 => ?_) (fun c117 => ?_)
    · rw [if_pos c117] at h
      refine zw_sub (lv' := []) zs_nil ?_
      exact hk  _ (Option.some.inj h).symm
    · rw [if_neg c117] at h
      refine zw_aload_n hX dX1_init_120 rfl ?_
      obtain ⟨b22, g, h⟩ := zb_some h
      refine zw_getr hX zl_X1_13 dX1_init_121 g ?_
      refine zw_iload_n hX dX1_init_124 rfl ?_
      obtain ⟨b23, g, h⟩ := zb_some h
      refine zw_xr hX dX1_init_125 g ?_
      refine zw_bipush (v := (6 : Int32)) hX dX1_init_126 (by decide) ?_
      refine zw_iload_n hX dX1_init_128 rfl ?_
      obtain ⟨S24, g, h⟩ := zb_some h
      refine zw_si hX dX1_init_129 g ?_
      refine zw_aload_n hX dX1_init_130 rfl ?_
      obtain ⟨b25, g, h⟩ := zb_some h
      refine zw_getr hX zl_X1_13 dX1_init_131 g ?_
      refine zw_iload_n hX dX1_init_134 rfl ?_
      obtain ⟨b26, g, h⟩ := zb_some h
      refine zw_xr hX dX1_init_135 g ?_
      refine zw_iconst (v := (1 : Int32)) hX dX1_init_136 (by decide) ?_
      refine zw_iconst (v := (-1 : Int32)) hX dX1_init_137 (by decide) ?_
      obtain ⟨S27, g, h⟩ := zb_some h
      refine zw_si hX dX1_init_138 g ?_
      refine zw_aload_n hX dX1_init_139 rfl ?_
      obtain ⟨b28, g, h⟩ := zb_some h
      refine zw_getr hX zl_X1_13 dX1_init_140 g ?_
      refine zw_iload_n hX dX1_init_143 rfl ?_
      obtain ⟨b29, g, h⟩ := zb_some h
      refine zw_xr hX dX1_init_144 g ?_
      refine zw_iconst (v := (2 : Int32)) hX dX1_init_145 (by decide) ?_
      refine zw_iconst (v := (-1 : Int32)) hX dX1_init_146 (by decide) ?_
      obtain ⟨S30, g, h⟩ := zb_some h
      refine zw_si hX dX1_init_147 g ?_
      refine zw_aload_n hX dX1_init_148 rfl ?_
      obtain ⟨b31, g, h⟩ := zb_some h
      refine zw_getr hX zl_X1_13 dX1_init_149 g ?_
      refine zw_iload_n hX dX1_init_152 rfl ?_
      obtain ⟨b32, g, h⟩ := zb_some h
      refine zw_xr hX dX1_init_153 g ?_
      refine zw_bipush (v := (9 : Int32)) hX dX1_init_154 (by decide) ?_
      refine zw_iconst (v := (-1 : Int32)) hX dX1_init_156 (by decide) ?_
      obtain ⟨S33, g, h⟩ := zb_some h
      refine zw_si hX dX1_init_157 g ?_
      refine zw_iinc (v := (i2 + (1 : Int32))) hX dX1_init_158 rfl rfl (by decide) ?_
      refine zw_goto (tgt := 114) hX dX1_init_161 (by decide) ?_
      refine zw_sub (lv' := [(0, .ref a0), (2, .int (i2 + (1 : Int32)))]) (List.forall_mem_cons.mpr ⟨rfl, (List.forall_mem_cons.mpr ⟨rfl, zs_nil⟩)⟩) ?_
      exact ih _ _ h
set_option maxHeartbeats 4000000 in
set_option maxRecDepth 100000 in
theorem zt_X1_init {l : Launch} {V : zm_V} {N : Nat} {S : zm_S} {out : (Unit × zm_S)} {d : Nat} {a0 : Nat} {a1 : Nat} (hd : 2 ≤ d) (h : zf_X1_init N a0 a1 S = some out) : zm_Met l zk_E V yX1_init (.code yX1_init cX1_init 3 none) d [.ref a0, .ref a1] S 32 5870 (zo_v out) zo_x := by
  refine zm_of (by decide +kernel) (Nat.le_of_ble_eq_true rfl) ?_
  intro p e R s m args below meth c hRR hX hr hxt
  have hR : R.frames = d ∧ R.locals = 64 * d := by rw [hRR]; exact ⟨rfl, rfl⟩
  have hX : zm_X p R s m args meth c RX1 "<init>" cX1_init 3 zk_E V 32 5870 := hX
  unfold zf_X1_init at h
  refine zw_sub (lv' := [(0, .ref a0), (1, .ref a1)]) (List.forall_mem_cons.mpr ⟨rfl, (List.forall_mem_cons.mpr ⟨rfl, zs_nil⟩)⟩) ?_
  refine zw_aload_n hX dX1_init_0 rfl ?_
  refine zw_objInit hX zl_X1_5.1 zl_X1_5.2.1 zl_X1_5.2.2 dX1_init_1 (by omega) (by show 0 + 12 ≤ R.locals; omega) ?_
  refine zw_aload_n hX dX1_init_4 rfl ?_
  refine zw_bipush (v := (8 : Int32)) hX dX1_init_5 (by decide) ?_
  refine zw_bipush (v := (10 : Int32)) hX dX1_init_7 (by decide) ?_
  obtain ⟨S1, g, h⟩ := zb_some h
  refine zw_mnao (N := 8) (K := 10) (t1 := 4) (t2 := 0) (ty := .int) hX rfl rfl zl_X1_11 (by decide +kernel) (Or.inl rfl) zk_ai dX1_init_9 (fun _ _ => rfl) (by decide) (by decide) rfl rfl (Nat.le_of_ble_eq_true rfl) (Nat.le_of_ble_eq_true rfl) (Nat.le_of_ble_eq_true rfl) rfl rfl (fun _ h => by cases h) (by omega) (by omega) g ?_
  obtain ⟨S2, g, h⟩ := zb_some h
  refine zw_putvF hX zl_X1_13 zt_1_1 dX1_init_13 rfl rfl g ?_
  refine zw_aload_n hX dX1_init_16 rfl ?_
  refine zw_bipush (v := (8 : Int32)) hX dX1_init_17 (by decide) ?_
  refine zw_bipush (v := (42 : Int32)) hX dX1_init_19 (by decide) ?_
  obtain ⟨S3, g, h⟩ := zb_some h
  refine zw_mnao (N := 8) (K := 42) (t1 := 4) (t2 := 0) (ty := .int) hX rfl rfl zl_X1_11 (by decide +kernel) (Or.inl rfl) zk_ai dX1_init_21 (fun _ _ => rfl) (by decide) (by decide) rfl rfl (Nat.le_of_ble_eq_true rfl) (Nat.le_of_ble_eq_true rfl) (Nat.le_of_ble_eq_true rfl) rfl rfl (fun _ h => by cases h) (by omega) (by omega) g ?_
  obtain ⟨S4, g, h⟩ := zb_some h
  refine zw_putvF hX zl_X1_16 zt_1_2 dX1_init_25 rfl rfl g ?_
  refine zw_aload_n hX dX1_init_28 rfl ?_
  refine zw_bipush (v := (8 : Int32)) hX dX1_init_29 (by decide) ?_
  refine zw_bipush (v := (22 : Int32)) hX dX1_init_31 (by decide) ?_
  obtain ⟨S5, g, h⟩ := zb_some h
  refine zw_mnao (N := 8) (K := 22) (t1 := 4) (t2 := 0) (ty := .int) hX rfl rfl zl_X1_11 (by decide +kernel) (Or.inl rfl) zk_ai dX1_init_33 (fun _ _ => rfl) (by decide) (by decide) rfl rfl (Nat.le_of_ble_eq_true rfl) (Nat.le_of_ble_eq_true rfl) (Nat.le_of_ble_eq_true rfl) rfl rfl (fun _ h => by cases h) (by omega) (by omega) g ?_
  obtain ⟨S6, g, h⟩ := zb_some h
  refine zw_putvF hX zl_X1_19 zt_1_3 dX1_init_37 rfl rfl g ?_
  refine zw_aload_n hX dX1_init_40 rfl ?_
  refine zw_sipush (v := (2048 : Int32)) hX dX1_init_41 (by decide) ?_
  obtain ⟨S7, g, h⟩ := zb_some h
  refine zw_nb (b := 2048) hX zk_ab dX1_init_44 (by omega) (by omega) (by decide) g ?_
  obtain ⟨S8, g, h⟩ := zb_some h
  refine zw_putvF hX zl_X1_22 zt_1_4 dX1_init_46 rfl rfl g ?_
  refine zw_aload_n hX dX1_init_49 rfl ?_
  refine zw_sipush (v := (1000 : Int32)) hX dX1_init_50 (by decide) ?_
  obtain ⟨S9, g, h⟩ := zb_some h
  refine zw_putv hX zl_X1_26 zt_1_6 dX1_init_53 rfl rfl g ?_
  refine zw_aload_n hX dX1_init_56 rfl ?_
  refine zw_sipush (v := (2001 : Int32)) hX dX1_init_57 (by decide) ?_
  obtain ⟨S10, g, h⟩ := zb_some h
  refine zw_nb (b := 2001) hX zk_ab dX1_init_60 (by omega) (by omega) (by decide) g ?_
  obtain ⟨S11, g, h⟩ := zb_some h
  refine zw_putvF hX zl_X1_30 zt_1_7 dX1_init_62 rfl rfl g ?_
  refine zw_aload_n hX dX1_init_65 rfl ?_
  refine zw_iconst (v := (-1 : Int32)) hX dX1_init_66 (by decide) ?_
  obtain ⟨S12, g, h⟩ := zb_some h
  refine zw_putv hX zl_X1_33 zt_1_9 dX1_init_67 rfl rfl g ?_
  refine zw_aload_n hX dX1_init_70 rfl ?_
  refine zw_sipush (v := (600 : Int32)) hX dX1_init_71 (by decide) ?_
  obtain ⟨S13, g, h⟩ := zb_some h
  refine zw_ni (b := 600) hX zk_ai dX1_init_74 (by omega) (by omega) (by decide) g ?_
  obtain ⟨S14, g, h⟩ := zb_some h
  refine zw_putvF hX zl_X1_36 zt_1_12 dX1_init_76 rfl rfl g ?_
  refine zw_aload_n hX dX1_init_79 rfl ?_
  refine zw_sipush (v := (600 : Int32)) hX dX1_init_80 (by decide) ?_
  obtain ⟨S15, g, h⟩ := zb_some h
  refine zw_ni (b := 600) hX zk_ai dX1_init_83 (by omega) (by omega) (by decide) g ?_
  obtain ⟨S16, g, h⟩ := zb_some h
  refine zw_putvF hX zl_X1_40 zt_1_14 dX1_init_85 rfl rfl g ?_
  refine zw_aload_n hX dX1_init_88 rfl ?_
  refine zw_sipush (v := (-1000 : Int32)) hX dX1_init_89 (by decide) ?_
  obtain ⟨S17, g, h⟩ := zb_some h
  refine zw_putv hX zl_X1_43 zt_1_16 dX1_init_92 rfl rfl g ?_
  refine zw_aload_n hX dX1_init_95 rfl ?_
  refine zw_iconst (v := (-1 : Int32)) hX dX1_init_96 (by decide) ?_
  obtain ⟨S18, g, h⟩ := zb_some h
  refine zw_putv hX zl_X1_46 zt_1_18 dX1_init_97 rfl rfl g ?_
  refine zw_aload_n hX dX1_init_100 rfl ?_
  refine zw_iconst (v := (5 : Int32)) hX dX1_init_101 (by decide) ?_
  obtain ⟨S19, g, h⟩ := zb_some h
  refine zw_ni (b := 5) hX zk_ai dX1_init_102 (by omega) (by omega) (by decide) g ?_
  obtain ⟨S20, g, h⟩ := zb_some h
  refine zw_putvF hX zl_X1_49 zt_1_19 dX1_init_104 rfl rfl g ?_
  refine zw_aload_n hX dX1_init_107 rfl ?_
  refine zw_aload_n hX dX1_init_108 rfl ?_
  obtain ⟨S21, g, h⟩ := zb_some h
  refine zw_putvF hX zl_X1_52 zt_1_0 dX1_init_109 rfl rfl g ?_
  refine zw_iconst (v := (0 : Int32)) hX dX1_init_112 (by decide) ?_
  refine zw_istore_n hX dX1_init_113 (by decide) ?_
  obtain ⟨r, g, h⟩ := zb_some h
  refine zw_sub (lv' := [(0, .ref a0), (2, .int (0 : Int32))]) (List.forall_mem_cons.mpr ⟨rfl, (List.forall_mem_cons.mpr ⟨rfl, zs_nil⟩)⟩) ?_
  refine zt_X1_init_L114 hX hr hR hd (res := r) (out := out) a0 ?_ ?_ N _ _ g
  · intro o ho
    subst ho
    exact Option.some.inj h
  · intro  S34 hx
    subst hx
    try dsimp only at h
    obtain rfl := Option.some.inj h
    exact zw_vret hX hr dX1_init_164 ⟨rfl, rfl⟩
set_option maxHeartbeats 4000000 in
set_option maxRecDepth 100000 in
theorem zt_X1_setAddress {l : Launch} {V : zm_V} {N : Nat} {S : zm_S} {out : (Int32 × zm_S)} {d : Nat} {a0 : Nat} {i1 : Int32} {i2 : Int32} (hd : 1 ≤ d) (h : zf_X1_setAddress N a0 i1 i2 S = some out) : zm_Met l zk_E V yX1_setAddress (.code yX1_setAddress cX1_setAddress 4 (some .int)) d [.ref a0, .int i1, .int i2] S 0 0 (zo_i out) zo_x := by
  refine zm_of (by decide +kernel) (Nat.le_of_ble_eq_true rfl) ?_
  intro p e R s m args below meth c hRR hX hr hxt
  have hR : R.frames = d ∧ R.locals = 64 * d := by rw [hRR]; exact ⟨rfl, rfl⟩
  have hX : zm_X p R s m args meth c RX1 "setAddress" cX1_setAddress 4 zk_E V 0 0 := hX
  unfold zf_X1_setAddress at h
  refine zw_sub (lv' := [(0, .ref a0), (1, .int i1), (2, .int i2)]) (List.forall_mem_cons.mpr ⟨rfl, (List.forall_mem_cons.mpr ⟨rfl, (List.forall_mem_cons.mpr ⟨rfl, zs_nil⟩)⟩)⟩) ?_
  refine zw_aload_n hX dX1_setAddress_0 rfl ?_
  obtain ⟨b1, g, h⟩ := zb_some h
  refine zw_getr hX zl_X1_13 dX1_setAddress_1 g ?_
  refine zw_iload_n hX dX1_setAddress_4 rfl ?_
  obtain ⟨b2, g, h⟩ := zb_some h
  refine zw_xr hX dX1_setAddress_5 g ?_
  refine zw_bipush (v := (6 : Int32)) hX dX1_setAddress_6 (by decide) ?_
  obtain ⟨v3, g, h⟩ := zb_some h
  refine zw_xi hX dX1_setAddress_8 g ?_
  refine zw_istore_n hX dX1_setAddress_9 (by decide) ?_
  refine zw_aload_n hX dX1_setAddress_10 rfl ?_
  obtain ⟨b4, g, h⟩ := zb_some h
  refine zw_getr hX zl_X1_13 dX1_setAddress_11 g ?_
  refine zw_iload_n hX dX1_setAddress_14 rfl ?_
  obtain ⟨b5, g, h⟩ := zb_some h
  refine zw_xr hX dX1_setAddress_15 g ?_
  refine zw_bipush (v := (6 : Int32)) hX dX1_setAddress_16 (by decide) ?_
  refine zw_iload_n hX dX1_setAddress_18 rfl ?_
  obtain ⟨S6, g, h⟩ := zb_some h
  refine zw_si hX dX1_setAddress_19 g ?_
  refine zw_iload_n hX dX1_setAddress_20 rfl ?_
  obtain rfl := Option.some.inj h
  exact zw_iret hX hr dX1_setAddress_21 rfl ⟨rfl, rfl⟩
set_option maxHeartbeats 4000000 in
set_option maxRecDepth 100000 in
theorem zt_X1_setListening {l : Launch} {V : zm_V} {N : Nat} {S : zm_S} {out : (Int32 × zm_S)} {d : Nat} {a0 : Nat} {i1 : Int32} {i2 : Int32} {i3 : Int32} (hd : 1 ≤ d) (h : zf_X1_setListening N a0 i1 i2 i3 S = some out) : zm_Met l zk_E V yX1_setListening (.code yX1_setListening cX1_setListening 5 (some .boolean)) d [.ref a0, .int i1, .int i2, .int i3] S 0 0 (zo_i out) zo_x := by
  refine zm_of (by decide +kernel) (Nat.le_of_ble_eq_true rfl) ?_
  intro p e R s m args below meth c hRR hX hr hxt
  have hR : R.frames = d ∧ R.locals = 64 * d := by rw [hRR]; exact ⟨rfl, rfl⟩
  have hX : zm_X p R s m args meth c RX1 "setListening" cX1_setListening 5 zk_E V 0 0 := hX
  unfold zf_X1_setListening at h
  refine zw_sub (lv' := [(0, .ref a0), (1, .int i1), (2, .int i2), (3, .int i3)]) (List.forall_mem_cons.mpr ⟨rfl, (List.forall_mem_cons.mpr ⟨rfl, (List.forall_mem_cons.mpr ⟨rfl, (List.forall_mem_cons.mpr ⟨rfl, zs_nil⟩)⟩)⟩)⟩) ?_
  refine zw_aload_n hX dX1_setListening_0 rfl ?_
  obtain ⟨b1, g, h⟩ := zb_some h
  refine zw_getr hX zl_X1_22 dX1_setListening_1 g ?_
  refine zw_iload_n hX dX1_setListening_4 rfl ?_
  refine zw_sipush (v := (256 : Int32)) hX dX1_setListening_5 (by decide) ?_
  refine zw_imul hX dX1_setListening_8 ?_
  refine zw_iload_n hX dX1_setListening_9 rfl ?_
  refine zw_iadd hX dX1_setListening_10 ?_
  obtain ⟨v2, g, h⟩ := zb_some h
  refine zw_xz hX dX1_setListening_11 g ?_
  refine zw_istore hX dX1_setListening_12 (by decide) ?_
  refine zw_aload_n hX dX1_setListening_14 rfl ?_
  obtain ⟨b3, g, h⟩ := zb_some h
  refine zw_getr hX zl_X1_22 dX1_setListening_15 g ?_
  refine zw_iload_n hX dX1_setListening_18 rfl ?_
  refine zw_sipush (v := (256 : Int32)) hX dX1_setListening_19 (by decide) ?_
  refine zw_imul hX dX1_setListening_22 ?_
  refine zw_iload_n hX dX1_setListening_23 rfl ?_
  refine zw_iadd hX dX1_setListening_24 ?_
  refine zw_iload_n hX dX1_setListening_25 rfl ?_
  obtain ⟨S4, g, h⟩ := zb_some h
  refine zw_sz hX dX1_setListening_26 g ?_
  refine zw_iload hX dX1_setListening_27 rfl ?_
  by_cases cz : v2 = 0 ∨ v2 = 1
  · rw [if_pos cz] at h
    obtain rfl := Option.some.inj h
    exact zw_iret hX hr dX1_setListening_29 (zn_z cz) ⟨rfl, rfl⟩
  · rw [if_neg cz] at h
    cases h
set_option maxHeartbeats 4000000 in
set_option maxRecDepth 100000 in
theorem zt_X1_setBusy_J17 {p : Program} {l : Launch} {e : Env} {R : Room} {s : State} {m : MethodId} {args : Array Value} {below : List Frame} {meth : Method} {c : Code} {V : zm_V} {mc ms d rc rs : Nat} (hX : zm_X p R s m args meth c RX1 "setBusy" cX1_setBusy 4 zk_E V mc ms) (hr : meth.sig.returnType = (some .boolean)) (hR : R.frames = d ∧ R.locals = 64 * d) (hd : 1 ≤ d) {N : Nat} {a0 : Nat} {i1 : Int32} {i2 : Int32} {t0 : Int32} {out : (Int32 × zm_S)} {S : zm_S} (h : zf_X1_setBusy_J17 N a0 i1 i2 t0 S = some out) : zw p l e R s m args below meth c (vx_MQ below (zm_Qc zk_E V (zo_i out)) (zm_XC zk_E V zo_x) args s mc ms (fun q => V.2.2.2.1 ≤ q)) 4 zk_E V mc ms 17 [(0, .ref a0), (1, .int i1), (2, .int i2)] [.int t0] S rc rs := by
  unfold zf_X1_setBusy_J17 at h
  refine zw_istore_n hX dX1_setBusy_17 (by decide) ?_
  refine zw_aload_n hX dX1_setBusy_18 rfl ?_
  obtain ⟨b4, g, h⟩ := zb_some h
  refine zw_getr hX zl_X1_13 dX1_setBusy_19 g ?_
  refine zw_iload_n hX dX1_setBusy_22 rfl ?_
  obtain ⟨b5, g, h⟩ := zb_some h
  refine zw_xr hX dX1_setBusy_23 g ?_
  refine zw_bipush (v := (7 : Int32)) hX dX1_setBusy_24 (by decide) ?_
  refine zw_iload_n hX dX1_setBusy_26 rfl ?_
  refine zw_if_eq (tgt := 34) hX dX1_setBusy_27 (by decide) (fun c27 => ?_) (fun c27 => ?_)
  · rw [if_pos c27] at h
    refine zw_iconst (v := (0 : Int32)) hX dX1_setBusy_34 (by decide) ?_
    obtain ⟨S6, g, h⟩ := zb_some h
    refine zw_si hX dX1_setBusy_35 g ?_
    refine zw_iload_n hX dX1_setBusy_36 rfl ?_
    by_cases cz : t0 = 0 ∨ t0 = 1
    · rw [if_pos cz] at h
      obtain rfl := Option.some.inj h
      exact zw_iret hX hr dX1_setBusy_37 (zn_z cz) ⟨rfl, rfl⟩
    · rw [if_neg cz] at h
      cases h
  · rw [if_neg c27] at h
    refine zw_iconst (v := (1 : Int32)) hX dX1_setBusy_30 (by decide) ?_
    refine zw_goto (tgt := 35) hX dX1_setBusy_31 (by decide) ?_
    obtain ⟨S7, g, h⟩ := zb_some h
    refine zw_si hX dX1_setBusy_35 g ?_
    refine zw_iload_n hX dX1_setBusy_36 rfl ?_
    by_cases cz : t0 = 0 ∨ t0 = 1
    · rw [if_pos cz] at h
      obtain rfl := Option.some.inj h
      exact zw_iret hX hr dX1_setBusy_37 (zn_z cz) ⟨rfl, rfl⟩
    · rw [if_neg cz] at h
      cases h
set_option maxHeartbeats 4000000 in
set_option maxRecDepth 100000 in
theorem zt_X1_setBusy {l : Launch} {V : zm_V} {N : Nat} {S : zm_S} {out : (Int32 × zm_S)} {d : Nat} {a0 : Nat} {i1 : Int32} {i2 : Int32} (hd : 1 ≤ d) (h : zf_X1_setBusy N a0 i1 i2 S = some out) : zm_Met l zk_E V yX1_setBusy (.code yX1_setBusy cX1_setBusy 4 (some .boolean)) d [.ref a0, .int i1, .int i2] S 0 0 (zo_i out) zo_x := by
  refine zm_of (by decide +kernel) (Nat.le_of_ble_eq_true rfl) ?_
  intro p e R s m args below meth c hRR hX hr hxt
  have hR : R.frames = d ∧ R.locals = 64 * d := by rw [hRR]; exact ⟨rfl, rfl⟩
  have hX : zm_X p R s m args meth c RX1 "setBusy" cX1_setBusy 4 zk_E V 0 0 := hX
  unfold zf_X1_setBusy at h
  refine zw_sub (lv' := [(0, .ref a0), (1, .int i1), (2, .int i2)]) (List.forall_mem_cons.mpr ⟨rfl, (List.forall_mem_cons.mpr ⟨rfl, (List.forall_mem_cons.mpr ⟨rfl, zs_nil⟩)⟩)⟩) ?_
  refine zw_aload_n hX dX1_setBusy_0 rfl ?_
  obtain ⟨b1, g, h⟩ := zb_some h
  refine zw_getr hX zl_X1_13 dX1_setBusy_1 g ?_
  refine zw_iload_n hX dX1_setBusy_4 rfl ?_
  obtain ⟨b2, g, h⟩ := zb_some h
  refine zw_xr hX dX1_setBusy_5 g ?_
  refine zw_bipush (v := (7 : Int32)) hX dX1_setBusy_6 (by decide) ?_
  obtain ⟨v3, g, h⟩ := zb_some h
  refine zw_xi hX dX1_setBusy_8 g ?_
  refine zw_if_eq (tgt := 16) hX dX1_setBusy_9 (by decide) (fun c9 => ?_) (fun c9 => ?_)
  · rw [if_pos c9] at h
    refine zw_iconst (v := (0 : Int32)) hX dX1_setBusy_16 (by decide) ?_
    refine zw_sub (lv' := [(0, .ref a0), (1, .int i1), (2, .int i2)]) (List.forall_mem_cons.mpr ⟨rfl, (List.forall_mem_cons.mpr ⟨rfl, (List.forall_mem_cons.mpr ⟨rfl, zs_nil⟩)⟩)⟩) ?_
    exact zt_X1_setBusy_J17 hX hr hR hd h
  · rw [if_neg c9] at h
    refine zw_iconst (v := (1 : Int32)) hX dX1_setBusy_12 (by decide) ?_
    refine zw_goto (tgt := 17) hX dX1_setBusy_13 (by decide) ?_
    refine zw_sub (lv' := [(0, .ref a0), (1, .int i1), (2, .int i2)]) (List.forall_mem_cons.mpr ⟨rfl, (List.forall_mem_cons.mpr ⟨rfl, (List.forall_mem_cons.mpr ⟨rfl, zs_nil⟩)⟩)⟩) ?_
    exact zt_X1_setBusy_J17 hX hr hR hd h
set_option maxHeartbeats 4000000 in
set_option maxRecDepth 100000 in
theorem zt_X1_hasRoomInQueue {l : Launch} {V : zm_V} {N : Nat} {S : zm_S} {out : (Int32 × zm_S)} {d : Nat} {a0 : Nat} {i1 : Int32} (hd : 1 ≤ d) (h : zf_X1_hasRoomInQueue N a0 i1 S = some out) : zm_Met l zk_E V yX1_hasRoomInQueue (.code yX1_hasRoomInQueue cX1_hasRoomInQueue 2 (some .boolean)) d [.ref a0, .int i1] S 0 0 (zo_i out) zo_x := by
  refine zm_of (by decide +kernel) (Nat.le_of_ble_eq_true rfl) ?_
  intro p e R s m args below meth c hRR hX hr hxt
  have hR : R.frames = d ∧ R.locals = 64 * d := by rw [hRR]; exact ⟨rfl, rfl⟩
  have hX : zm_X p R s m args meth c RX1 "hasRoomInQueue" cX1_hasRoomInQueue 2 zk_E V 0 0 := hX
  unfold zf_X1_hasRoomInQueue at h
  refine zw_sub (lv' := [(0, .ref a0), (1, .int i1)]) (List.forall_mem_cons.mpr ⟨rfl, (List.forall_mem_cons.mpr ⟨rfl, zs_nil⟩)⟩) ?_
  refine zw_aload_n hX dX1_hasRoomInQueue_0 rfl ?_
  obtain ⟨b1, g, h⟩ := zb_some h
  refine zw_getr hX zl_X1_13 dX1_hasRoomInQueue_1 g ?_
  refine zw_iload_n hX dX1_hasRoomInQueue_4 rfl ?_
  obtain ⟨b2, g, h⟩ := zb_some h
  refine zw_xr hX dX1_hasRoomInQueue_5 g ?_
  refine zw_iconst (v := (0 : Int32)) hX dX1_hasRoomInQueue_6 (by decide) ?_
  obtain ⟨v3, g, h⟩ := zb_some h
  refine zw_xi hX dX1_hasRoomInQueue_7 g ?_
  refine zw_bipush (v := (6 : Int32)) hX dX1_hasRoomInQueue_8 (by decide) ?_
  refine zw_icmp_ge (tgt := 17) hX dX1_hasRoomInQueue_10 (by decide) (fun c10 => ?_) (fun c10 => ?_)
  · rw [if_pos c10] at h
    refine zw_iconst (v := (0 : Int32)) hX dX1_hasRoomInQueue_17 (by decide) ?_
    obtain rfl := Option.some.inj h
    exact zw_iret hX hr dX1_hasRoomInQueue_18 rfl ⟨rfl, rfl⟩
  · rw [if_neg c10] at h
    refine zw_iconst (v := (1 : Int32)) hX dX1_hasRoomInQueue_13 (by decide) ?_
    refine zw_goto (tgt := 18) hX dX1_hasRoomInQueue_14 (by decide) ?_
    obtain rfl := Option.some.inj h
    exact zw_iret hX hr dX1_hasRoomInQueue_18 rfl ⟨rfl, rfl⟩
set_option maxHeartbeats 4000000 in
set_option maxRecDepth 100000 in
theorem zt_X1_enqueue_J113 {p : Program} {l : Launch} {e : Env} {R : Room} {s : State} {m : MethodId} {args : Array Value} {below : List Frame} {meth : Method} {c : Code} {V : zm_V} {mc ms d rc rs : Nat} (hX : zm_X p R s m args meth c RX1 "enqueue" cX1_enqueue 10 zk_E V mc ms) (hr : meth.sig.returnType = (some .int)) (hR : R.frames = d ∧ R.locals = 64 * d) (hd : 2 ≤ d) {N : Nat} {a7 : Nat} {out : (Int32 × zm_S)} {S : zm_S} (h : zf_X1_enqueue_J113 N a7 S = some out) : zw p l e R s m args below meth c (vx_MQ below (zm_Qc zk_E V (zo_i out)) (zm_XC zk_E V zo_x) args s mc ms (fun q => V.2.2.2.1 ≤ q)) 10 zk_E V mc ms 113 [(7, .ref a7)] [] S rc rs := by
  unfold zf_X1_enqueue_J113 at h
  refine zw_aload hX dX1_enqueue_113 rfl ?_
  refine zw_iconst (v := (0 : Int32)) hX dX1_enqueue_115 (by decide) ?_
  obtain ⟨v5, g, h⟩ := zb_some h
  refine zw_xi hX dX1_enqueue_116 g ?_
  obtain rfl := Option.some.inj h
  exact zw_iret hX hr dX1_enqueue_117 rfl ⟨rfl, rfl⟩
set_option maxHeartbeats 4000000 in
set_option maxRecDepth 100000 in
theorem zt_X1_enqueue_J77 {p : Program} {l : Launch} {e : Env} {R : Room} {s : State} {m : MethodId} {args : Array Value} {below : List Frame} {meth : Method} {c : Code} {V : zm_V} {mc ms d rc rs : Nat} (hX : zm_X p R s m args meth c RX1 "enqueue" cX1_enqueue 10 zk_E V mc ms) (hr : meth.sig.returnType = (some .int)) (hR : R.frames = d ∧ R.locals = 64 * d) (hd : 2 ≤ d) {N : Nat} {i5 : Int32} {i6 : Int32} {a7 : Nat} {i8 : Int32} {a9 : Nat} {t0 : Nat} {t1 : Int32} {t2 : Int32} {out : (Int32 × zm_S)} {S : zm_S} (h : zf_X1_enqueue_J77 N i5 i6 a7 i8 a9 t0 t1 t2 S = some out) : zw p l e R s m args below meth c (vx_MQ below (zm_Qc zk_E V (zo_i out)) (zm_XC zk_E V zo_x) args s mc ms (fun q => V.2.2.2.1 ≤ q)) 10 zk_E V mc ms 77 [(5, .int i5), (6, .int i6), (7, .ref a7), (8, .int i8), (9, .ref a9)] [.int t2, .int t1, .ref t0] S rc rs := by
  unfold zf_X1_enqueue_J77 at h
  obtain ⟨S13, g, h⟩ := zb_some h
  refine zw_si hX dX1_enqueue_77 g ?_
  refine zw_aload hX dX1_enqueue_78 rfl ?_
  refine zw_iload hX dX1_enqueue_80 rfl ?_
  refine zw_iconst (v := (4 : Int32)) hX dX1_enqueue_82 (by decide) ?_
  refine zw_iadd hX dX1_enqueue_83 ?_
  refine zw_iload hX dX1_enqueue_84 rfl ?_
  obtain ⟨S14, g, h⟩ := zb_some h
  refine zw_si hX dX1_enqueue_86 g ?_
  refine zw_aload hX dX1_enqueue_87 rfl ?_
  refine zw_iload hX dX1_enqueue_89 rfl ?_
  refine zw_iconst (v := (5 : Int32)) hX dX1_enqueue_91 (by decide) ?_
  refine zw_iadd hX dX1_enqueue_92 ?_
  refine zw_iload hX dX1_enqueue_93 rfl ?_
  obtain ⟨S15, g, h⟩ := zb_some h
  refine zw_si hX dX1_enqueue_95 g ?_
  refine zw_aload hX dX1_enqueue_96 rfl ?_
  refine zw_iload hX dX1_enqueue_98 rfl ?_
  refine zw_bipush (v := (6 : Int32)) hX dX1_enqueue_100 (by decide) ?_
  refine zw_iadd hX dX1_enqueue_102 ?_
  refine zw_iconst (v := (0 : Int32)) hX dX1_enqueue_103 (by decide) ?_
  obtain ⟨S16, g, h⟩ := zb_some h
  refine zw_si hX dX1_enqueue_104 g ?_
  refine zw_aload hX dX1_enqueue_105 rfl ?_
  refine zw_iconst (v := (0 : Int32)) hX dX1_enqueue_107 (by decide) ?_
  refine zw_dup2 hX dX1_enqueue_108 rfl rfl ?_
  obtain ⟨v17, g, h⟩ := zb_some h
  refine zw_xi hX dX1_enqueue_109 g ?_
  refine zw_iconst (v := (1 : Int32)) hX dX1_enqueue_110 (by decide) ?_
  refine zw_iadd hX dX1_enqueue_111 ?_
  obtain ⟨S18, g, h⟩ := zb_some h
  refine zw_si hX dX1_enqueue_112 g ?_
  refine zw_sub (lv' := [(7, .ref a7)]) (List.forall_mem_cons.mpr ⟨rfl, zs_nil⟩) ?_
  exact zt_X1_enqueue_J113 hX hr hR hd h
set_option maxHeartbeats 4000000 in
set_option maxRecDepth 100000 in
theorem zt_X1_enqueue {l : Launch} {V : zm_V} {N : Nat} {S : zm_S} {out : (Int32 × zm_S)} {d : Nat} {a0 : Nat} {i1 : Int32} {i2 : Int32} {i3 : Int32} {i4 : Int32} {i5 : Int32} {i6 : Int32} (hd : 2 ≤ d) (h : zf_X1_enqueue N a0 i1 i2 i3 i4 i5 i6 S = some out) : zm_Met l zk_E V yX1_enqueue (.code yX1_enqueue cX1_enqueue 10 (some .int)) d [.ref a0, .int i1, .int i2, .int i3, .int i4, .int i5, .int i6] S 0 0 (zo_i out) zo_x := by
  refine zm_of (by decide +kernel) (Nat.le_of_ble_eq_true rfl) ?_
  intro p e R s m args below meth c hRR hX hr hxt
  have hR : R.frames = d ∧ R.locals = 64 * d := by rw [hRR]; exact ⟨rfl, rfl⟩
  have hX : zm_X p R s m args meth c RX1 "enqueue" cX1_enqueue 10 zk_E V 0 0 := hX
  unfold zf_X1_enqueue at h
  refine zw_sub (lv' := [(0, .ref a0), (1, .int i1), (2, .int i2), (3, .int i3), (4, .int i4), (5, .int i5), (6, .int i6)]) (List.forall_mem_cons.mpr ⟨rfl, (List.forall_mem_cons.mpr ⟨rfl, (List.forall_mem_cons.mpr ⟨rfl, (List.forall_mem_cons.mpr ⟨rfl, (List.forall_mem_cons.mpr ⟨rfl, (List.forall_mem_cons.mpr ⟨rfl, (List.forall_mem_cons.mpr ⟨rfl, zs_nil⟩)⟩)⟩)⟩)⟩)⟩)⟩) ?_
  refine zw_aload_n hX dX1_enqueue_0 rfl ?_
  obtain ⟨b1, g, h⟩ := zb_some h
  refine zw_getr hX zl_X1_13 dX1_enqueue_1 g ?_
  refine zw_iload_n hX dX1_enqueue_4 rfl ?_
  obtain ⟨b2, g, h⟩ := zb_some h
  refine zw_xr hX dX1_enqueue_5 g ?_
  refine zw_astore hX dX1_enqueue_6 (by decide) ?_
  refine zw_aload_n hX dX1_enqueue_8 rfl ?_
  refine zw_iload_n hX dX1_enqueue_9 rfl ?_
  obtain ⟨_, gi, h⟩ := zb_some h
  obtain ⟨r4, g, h⟩ := zb_some h
  refine zc_Vi (as := [.int i1]) hX gi (zt_X1_hasRoomInQueue (d := d - 1) (by omega) g) zl_X1_56 rfl dX1_enqueue_10 ⟨rfl, rfl, Nat.le_of_ble_eq_true rfl⟩ ⟨by omega, by omega⟩ ?_
  refine zw_if_eq (tgt := 113) hX dX1_enqueue_13 (by decide) (fun c13 => ?_) (fun c13 => ?_)
  · rw [if_pos c13] at h
    refine zw_sub (lv' := [(7, .ref b2)]) (List.forall_mem_cons.mpr ⟨rfl, zs_nil⟩) ?_
    exact zt_X1_enqueue_J113 hX hr hR hd h
  · rw [if_neg c13] at h
    refine zw_aload hX dX1_enqueue_16 rfl ?_
    refine zw_iconst (v := (0 : Int32)) hX dX1_enqueue_18 (by decide) ?_
    obtain ⟨v6, g, h⟩ := zb_some h
    refine zw_xi hX dX1_enqueue_19 g ?_
    refine zw_bipush (v := (7 : Int32)) hX dX1_enqueue_20 (by decide) ?_
    refine zw_imul hX dX1_enqueue_22 ?_
    refine zw_istore hX dX1_enqueue_23 (by decide) ?_
    refine zw_aload_n hX dX1_enqueue_25 rfl ?_
    obtain ⟨b7, g, h⟩ := zb_some h
    refine zw_getr hX zl_X1_16 dX1_enqueue_26 g ?_
    refine zw_iload_n hX dX1_enqueue_29 rfl ?_
    obtain ⟨b8, g, h⟩ := zb_some h
    refine zw_xr hX dX1_enqueue_30 g ?_
    refine zw_astore hX dX1_enqueue_31 (by decide) ?_
    refine zw_aload hX dX1_enqueue_33 rfl ?_
    refine zw_iload hX dX1_enqueue_35 rfl ?_
    refine zw_iconst (v := (0 : Int32)) hX dX1_enqueue_37 (by decide) ?_
    refine zw_iadd hX dX1_enqueue_38 ?_
    refine zw_iload_n hX dX1_enqueue_39 rfl ?_
    obtain ⟨S9, g, h⟩ := zb_some h
    refine zw_si hX dX1_enqueue_40 g ?_
    refine zw_aload hX dX1_enqueue_41 rfl ?_
    refine zw_iload hX dX1_enqueue_43 rfl ?_
    refine zw_iconst (v := (1 : Int32)) hX dX1_enqueue_45 (by decide) ?_
    refine zw_iadd hX dX1_enqueue_46 ?_
    refine zw_aload hX dX1_enqueue_47 rfl ?_
    refine zw_bipush (v := (6 : Int32)) hX dX1_enqueue_49 (by decide) ?_
    obtain ⟨v10, g, h⟩ := zb_some h
    refine zw_xi hX dX1_enqueue_51 g ?_
    obtain ⟨S11, g, h⟩ := zb_some h
    refine zw_si hX dX1_enqueue_52 g ?_
    refine zw_aload hX dX1_enqueue_53 rfl ?_
    refine zw_iload hX dX1_enqueue_55 rfl ?_
    refine zw_iconst (v := (2 : Int32)) hX dX1_enqueue_57 (by decide) ?_
    refine zw_iadd hX dX1_enqueue_58 ?_
    refine zw_iload_n hX dX1_enqueue_59 rfl ?_
    obtain ⟨S12, g, h⟩ := zb_some h
    refine zw_si hX dX1_enqueue_60 g ?_
    refine zw_aload hX dX1_enqueue_61 rfl ?_
    refine zw_iload hX dX1_enqueue_63 rfl ?_
    refine zw_iconst (v := (3 : Int32)) hX dX1_enqueue_65 (by decide) ?_
    refine zw_iadd hX dX1_enqueue_66 ?_
    refine zw_iload hX dX1_enqueue_67 rfl ?_
    refine zw_if_eq (tgt := 76) hX dX1_enqueue_69 (by decide) (fun c69 => ?_) (fun c69 => ?_)
    · rw [if_pos c69] at h
      refine zw_iconst (v := (0 : Int32)) hX dX1_enqueue_76 (by decide) ?_
      refine zw_sub (lv' := [(5, .int i5), (6, .int i6), (7, .ref b2), (8, .int (v6 * (7 : Int32))), (9, .ref b8)]) (List.forall_mem_cons.mpr ⟨rfl, (List.forall_mem_cons.mpr ⟨rfl, (List.forall_mem_cons.mpr ⟨rfl, (List.forall_mem_cons.mpr ⟨rfl, (List.forall_mem_cons.mpr ⟨rfl, zs_nil⟩)⟩)⟩)⟩)⟩) ?_
      exact zt_X1_enqueue_J77 hX hr hR hd h
    · rw [if_neg c69] at h
      refine zw_iconst (v := (1 : Int32)) hX dX1_enqueue_72 (by decide) ?_
      refine zw_goto (tgt := 77) hX dX1_enqueue_73 (by decide) ?_
      refine zw_sub (lv' := [(5, .int i5), (6, .int i6), (7, .ref b2), (8, .int (v6 * (7 : Int32))), (9, .ref b8)]) (List.forall_mem_cons.mpr ⟨rfl, (List.forall_mem_cons.mpr ⟨rfl, (List.forall_mem_cons.mpr ⟨rfl, (List.forall_mem_cons.mpr ⟨rfl, (List.forall_mem_cons.mpr ⟨rfl, zs_nil⟩)⟩)⟩)⟩)⟩) ?_
      exact zt_X1_enqueue_J77 hX hr hR hd h
set_option maxHeartbeats 4000000 in
set_option maxRecDepth 100000 in
theorem zt_X1_addDisturbance {l : Launch} {V : zm_V} {N : Nat} {S : zm_S} {out : (Int32 × zm_S)} {d : Nat} {a0 : Nat} {i1 : Int32} (hd : 1 ≤ d) (h : zf_X1_addDisturbance N a0 i1 S = some out) : zm_Met l zk_E V yX1_addDisturbance (.code yX1_addDisturbance cX1_addDisturbance 3 (some .boolean)) d [.ref a0, .int i1] S 0 0 (zo_i out) zo_x := by
  refine zm_of (by decide +kernel) (Nat.le_of_ble_eq_true rfl) ?_
  intro p e R s m args below meth c hRR hX hr hxt
  have hR : R.frames = d ∧ R.locals = 64 * d := by rw [hRR]; exact ⟨rfl, rfl⟩
  have hX : zm_X p R s m args meth c RX1 "addDisturbance" cX1_addDisturbance 3 zk_E V 0 0 := hX
  unfold zf_X1_addDisturbance at h
  refine zw_sub (lv' := [(0, .ref a0), (1, .int i1)]) (List.forall_mem_cons.mpr ⟨rfl, (List.forall_mem_cons.mpr ⟨rfl, zs_nil⟩)⟩) ?_
  refine zw_aload_n hX dX1_addDisturbance_0 rfl ?_
  obtain ⟨v1, g, h⟩ := zb_some h
  refine zw_geti hX zl_X1_60 dX1_addDisturbance_1 g ?_
  refine zw_iload_n hX dX1_addDisturbance_4 rfl ?_
  refine zw_iadd hX dX1_addDisturbance_5 ?_
  refine zw_aload_n hX dX1_addDisturbance_6 rfl ?_
  obtain ⟨b2, g, h⟩ := zb_some h
  refine zw_getr hX zl_X1_30 dX1_addDisturbance_7 g ?_
  obtain ⟨v3, g, h⟩ := zb_some h
  refine zw_len hX dX1_addDisturbance_10 g ?_
  by_cases c0 : v3 = 0
  · rw [if_pos c0] at h
    cases h
  rw [if_neg c0] at h
  refine zw_irem hX dX1_addDisturbance_11 c0 ?_
  refine zw_istore_n hX dX1_addDisturbance_12 (by decide) ?_
  refine zw_aload_n hX dX1_addDisturbance_13 rfl ?_
  obtain ⟨b4, g, h⟩ := zb_some h
  refine zw_getr hX zl_X1_30 dX1_addDisturbance_14 g ?_
  refine zw_iload_n hX dX1_addDisturbance_17 rfl ?_
  obtain ⟨v5, g, h⟩ := zb_some h
  refine zw_xz hX dX1_addDisturbance_18 g ?_
  refine zw_if_eq (tgt := 24) hX dX1_addDisturbance_19 (by decide) (fun c19 => ?_) (fun c19 => ?_)
  · rw [if_pos c19] at h
    refine zw_aload_n hX dX1_addDisturbance_24 rfl ?_
    obtain ⟨b6, g, h⟩ := zb_some h
    refine zw_getr hX zl_X1_30 dX1_addDisturbance_25 g ?_
    refine zw_iload_n hX dX1_addDisturbance_28 rfl ?_
    refine zw_iconst (v := (1 : Int32)) hX dX1_addDisturbance_29 (by decide) ?_
    obtain ⟨S7, g, h⟩ := zb_some h
    refine zw_sz hX dX1_addDisturbance_30 g ?_
    refine zw_aload_n hX dX1_addDisturbance_31 rfl ?_
    refine zw_dup hX dX1_addDisturbance_32 rfl ?_
    obtain ⟨v8, g, h⟩ := zb_some h
    refine zw_geti hX zl_X1_63 dX1_addDisturbance_33 g ?_
    refine zw_iconst (v := (1 : Int32)) hX dX1_addDisturbance_36 (by decide) ?_
    refine zw_iadd hX dX1_addDisturbance_37 ?_
    obtain ⟨S9, g, h⟩ := zb_some h
    refine zw_putv hX zl_X1_63 zt_1_8 dX1_addDisturbance_38 rfl rfl g ?_
    refine zw_iconst (v := (1 : Int32)) hX dX1_addDisturbance_41 (by decide) ?_
    obtain rfl := Option.some.inj h
    exact zw_iret hX hr dX1_addDisturbance_42 rfl ⟨rfl, rfl⟩
  · rw [if_neg c19] at h
    refine zw_iconst (v := (0 : Int32)) hX dX1_addDisturbance_22 (by decide) ?_
    obtain rfl := Option.some.inj h
    exact zw_iret hX hr dX1_addDisturbance_23 rfl ⟨rfl, rfl⟩
set_option maxHeartbeats 4000000 in
set_option maxRecDepth 100000 in
theorem zt_X1_stationFact_J19 {p : Program} {l : Launch} {e : Env} {R : Room} {s : State} {m : MethodId} {args : Array Value} {below : List Frame} {meth : Method} {c : Code} {V : zm_V} {mc ms d rc rs : Nat} (hX : zm_X p R s m args meth c RX1 "stationFact" cX1_stationFact 4 zk_E V mc ms) (hr : meth.sig.returnType = (some .int)) (hR : R.frames = d ∧ R.locals = 64 * d) (hd : 1 ≤ d) {N : Nat} {i3 : Int32} {out : (Int32 × zm_S)} {S : zm_S} (h : zf_X1_stationFact_J19 N i3 S = some out) : zw p l e R s m args below meth c (vx_MQ below (zm_Qc zk_E V (zo_i out)) (zm_XC zk_E V zo_x) args s mc ms (fun q => V.2.2.2.1 ≤ q)) 4 zk_E V mc ms 19 [(3, .int i3)] [] S rc rs := by
  unfold zf_X1_stationFact_J19 at h
  refine zw_iload_n hX dX1_stationFact_19 rfl ?_
  refine zw_iconst (v := (-1 : Int32)) hX dX1_stationFact_20 (by decide) ?_
  refine zw_icmp_ne (tgt := 28) hX dX1_stationFact_21 (by decide) (fun c21 => ?_) (fun c21 => ?_)
  · rw [if_neg c21] at h
    refine zw_iconst (v := (1 : Int32)) hX dX1_stationFact_28 (by decide) ?_
    refine zw_goto (tgt := 33) hX dX1_stationFact_29 (by decide) ?_
    obtain rfl := Option.some.inj h
    exact zw_iret hX hr dX1_stationFact_33 rfl ⟨rfl, rfl⟩
  · rw [if_pos c21] at h
    refine zw_iconst (v := (0 : Int32)) hX dX1_stationFact_24 (by decide) ?_
    refine zw_goto (tgt := 33) hX dX1_stationFact_25 (by decide) ?_
    obtain rfl := Option.some.inj h
    exact zw_iret hX hr dX1_stationFact_33 rfl ⟨rfl, rfl⟩
set_option maxHeartbeats 4000000 in
set_option maxRecDepth 100000 in
theorem zt_X1_stationFact {l : Launch} {V : zm_V} {N : Nat} {S : zm_S} {out : (Int32 × zm_S)} {d : Nat} {a0 : Nat} {i1 : Int32} {i2 : Int32} (hd : 1 ≤ d) (h : zf_X1_stationFact N a0 i1 i2 S = some out) : zm_Met l zk_E V yX1_stationFact (.code yX1_stationFact cX1_stationFact 4 (some .int)) d [.ref a0, .int i1, .int i2] S 0 0 (zo_i out) zo_x := by
  refine zm_of (by decide +kernel) (Nat.le_of_ble_eq_true rfl) ?_
  intro p e R s m args below meth c hRR hX hr hxt
  have hR : R.frames = d ∧ R.locals = 64 * d := by rw [hRR]; exact ⟨rfl, rfl⟩
  have hX : zm_X p R s m args meth c RX1 "stationFact" cX1_stationFact 4 zk_E V 0 0 := hX
  unfold zf_X1_stationFact at h
  refine zw_sub (lv' := [(0, .ref a0), (1, .int i1), (2, .int i2)]) (List.forall_mem_cons.mpr ⟨rfl, (List.forall_mem_cons.mpr ⟨rfl, (List.forall_mem_cons.mpr ⟨rfl, zs_nil⟩)⟩)⟩) ?_
  refine zw_aload_n hX dX1_stationFact_0 rfl ?_
  obtain ⟨b1, g, h⟩ := zb_some h
  refine zw_getr hX zl_X1_13 dX1_stationFact_1 g ?_
  refine zw_iload_n hX dX1_stationFact_4 rfl ?_
  obtain ⟨b2, g, h⟩ := zb_some h
  refine zw_xr hX dX1_stationFact_5 g ?_
  refine zw_iload_n hX dX1_stationFact_6 rfl ?_
  obtain ⟨v3, g, h⟩ := zb_some h
  refine zw_xi hX dX1_stationFact_7 g ?_
  refine zw_istore_n hX dX1_stationFact_8 (by decide) ?_
  refine zw_iload_n hX dX1_stationFact_9 rfl ?_
  refine zw_iconst (v := (1 : Int32)) hX dX1_stationFact_10 (by decide) ?_
  refine zw_icmp_eq (tgt := 19) hX dX1_stationFact_11 (by decide) (fun c11 => ?_) (fun c11 => ?_)
  · rw [if_pos c11] at h
    refine zw_sub (lv' := [(3, .int v3)]) (List.forall_mem_cons.mpr ⟨rfl, zs_nil⟩) ?_
    exact zt_X1_stationFact_J19 hX hr hR hd h
  · rw [if_neg c11] at h
    refine zw_iload_n hX dX1_stationFact_14 rfl ?_
    refine zw_iconst (v := (2 : Int32)) hX dX1_stationFact_15 (by decide) ?_
    refine zw_icmp_ne (tgt := 32) hX dX1_stationFact_16 (by decide) (fun c16 => ?_) (fun c16 => ?_)
    · rw [if_neg c16] at h
      refine zw_iload_n hX dX1_stationFact_32 rfl ?_
      obtain rfl := Option.some.inj h
      exact zw_iret hX hr dX1_stationFact_33 rfl ⟨rfl, rfl⟩
    · rw [if_pos c16] at h
      refine zw_sub (lv' := [(3, .int v3)]) (List.forall_mem_cons.mpr ⟨rfl, zs_nil⟩) ?_
      exact zt_X1_stationFact_J19 hX hr hR hd h
set_option maxHeartbeats 4000000 in
set_option maxRecDepth 100000 in
theorem zt_X1_isLatestRight_L6 {p : Program} {l : Launch} {e : Env} {R : Room} {s : State} {m : MethodId} {args : Array Value} {below : List Frame} {meth : Method} {c : Code} {V : zm_V} {mc ms d rc rs : Nat} (hX : zm_X p R s m args meth c RX1 "isLatestRight" cX1_isLatestRight 3 zk_E V mc ms) (hr : meth.sig.returnType = (some .boolean)) (hR : R.frames = d ∧ R.locals = 64 * d) (hd : 1 ≤ d) {N : Nat} {res : (Int32 × zm_S) ⊕ ((Int32) × zm_S)} {out : (Int32 × zm_S)} (a0 : Nat) (hf : ∀ o, res = .inl o → o = out) (hk : ∀ (x1 : Int32) (S' : zm_S), res = .inr (x1, S') → zw p l e R s m args below meth c (vx_MQ below (zm_Qc zk_E V (zo_i out)) (zm_XC zk_E V zo_x) args s mc ms (fun q => V.2.2.2.1 ≤ q)) 3 zk_E V mc ms 31 [(0, .ref a0), (1, .int x1)] [] S' rc rs) : ∀ (n : Nat) (i1 : Int32) (i2 : Int32) (S : zm_S), zf_X1_isLatestRight_L6 N n a0 i1 i2 S = some res → zw p l e R s m args below meth c (vx_MQ below (zm_Qc zk_E V (zo_i out)) (zm_XC zk_E V zo_x) args s mc ms (fun q => V.2.2.2.1 ≤ q)) 3 zk_E V mc ms 6 [(0, .ref a0), (1, .int i1), (2, .int i2)] [] S rc rs := by
  intro n
  induction n with
  | zero => intro i1 i2 S h; cases h
  | succ n ih =>
    intro i1 i2 S h
    rw [zf_X1_isLatestRight_L6] at h
    refine zw_iload_n hX dX1_isLatestRight_6 rfl ?_
    refine zw_aload_n hX dX1_isLatestRight_7 rfl ?_
    obtain ⟨v1, g, h⟩ := zb_some h
    refine zw_geti hX zl_X1_104 dX1_isLatestRight_8 g ?_
    refine zw_iconst (v := (1 : Int32)) hX dX1_isLatestRight_11 (by decide) ?_
    refine zw_isub hX dX1_isLatestRight_12 ?_
    refine zw_icmp_ge (tgt := 31) hX dX1_isLatestRight_13 (by decide) (fun c13 => ?_) (fun c13 => ?_)
    · rw [if_pos c13] at h
      refine zw_sub (lv' := [(0, .ref a0), (1, .int i1)]) (List.forall_mem_cons.mpr ⟨rfl, (List.forall_mem_cons.mpr ⟨rfl, zs_nil⟩)⟩) ?_
      exact hk _ _ (Option.some.inj h).symm
    · rw [if_neg c13] at h
      refine zw_iload_n hX dX1_isLatestRight_16 rfl ?_
      refine zw_aload_n hX dX1_isLatestRight_17 rfl ?_
      obtain ⟨b2, g, h⟩ := zb_some h
      refine zw_getr hX zl_X1_40 dX1_isLatestRight_18 g ?_
      refine zw_iload_n hX dX1_isLatestRight_21 rfl ?_
      obtain ⟨v3, g, h⟩ := zb_some h
      refine zw_xi hX dX1_isLatestRight_22 g ?_
      refine zw_ixor hX dX1_isLatestRight_23 ?_
      refine zw_istore_n hX dX1_isLatestRight_24 (by decide) ?_
      refine zw_iinc (v := (i2 + (1 : Int32))) hX dX1_isLatestRight_25 rfl rfl (by decide) ?_
      refine zw_goto (tgt := 6) hX dX1_isLatestRight_28 (by decide) ?_
      refine zw_sub (lv' := [(0, .ref a0), (1, .int (i1 ^^^ v3)), (2, .int (i2 + (1 : Int32)))]) (List.forall_mem_cons.mpr ⟨rfl, (List.forall_mem_cons.mpr ⟨rfl, (List.forall_mem_cons.mpr ⟨rfl, zs_nil⟩)⟩)⟩) ?_
      exact ih _ _ _ h
set_option maxHeartbeats 4000000 in
set_option maxRecDepth 100000 in
theorem zt_X1_isLatestRight {l : Launch} {V : zm_V} {N : Nat} {S : zm_S} {out : (Int32 × zm_S)} {d : Nat} {a0 : Nat} (hd : 1 ≤ d) (h : zf_X1_isLatestRight N a0 S = some out) : zm_Met l zk_E V yX1_isLatestRight (.code yX1_isLatestRight cX1_isLatestRight 3 (some .boolean)) d [.ref a0] S 0 0 (zo_i out) zo_x := by
  refine zm_of (by decide +kernel) (Nat.le_of_ble_eq_true rfl) ?_
  intro p e R s m args below meth c hRR hX hr hxt
  have hR : R.frames = d ∧ R.locals = 64 * d := by rw [hRR]; exact ⟨rfl, rfl⟩
  have hX : zm_X p R s m args meth c RX1 "isLatestRight" cX1_isLatestRight 3 zk_E V 0 0 := hX
  unfold zf_X1_isLatestRight at h
  refine zw_sub (lv' := [(0, .ref a0)]) (List.forall_mem_cons.mpr ⟨rfl, zs_nil⟩) ?_
  refine zw_sipush (v := (255 : Int32)) hX dX1_isLatestRight_0 (by decide) ?_
  refine zw_istore_n hX dX1_isLatestRight_3 (by decide) ?_
  refine zw_iconst (v := (0 : Int32)) hX dX1_isLatestRight_4 (by decide) ?_
  refine zw_istore_n hX dX1_isLatestRight_5 (by decide) ?_
  obtain ⟨r, g, h⟩ := zb_some h
  refine zw_sub (lv' := [(0, .ref a0), (1, .int (255 : Int32)), (2, .int (0 : Int32))]) (List.forall_mem_cons.mpr ⟨rfl, (List.forall_mem_cons.mpr ⟨rfl, (List.forall_mem_cons.mpr ⟨rfl, zs_nil⟩)⟩)⟩) ?_
  refine zt_X1_isLatestRight_L6 hX hr hR hd (res := r) (out := out) a0 ?_ ?_ N _ _ _ g
  · intro o ho
    subst ho
    exact Option.some.inj h
  · intro v5 S4 hx
    subst hx
    try dsimp only at h
    refine zw_aload_n hX dX1_isLatestRight_31 rfl ?_
    obtain ⟨v6, g, h⟩ := zb_some h
    refine zw_geti hX zl_X1_104 dX1_isLatestRight_32 g ?_
    refine zw_bipush (v := (8 : Int32)) hX dX1_isLatestRight_35 (by decide) ?_
    refine zw_aload_n hX dX1_isLatestRight_37 rfl ?_
    obtain ⟨b7, g, h⟩ := zb_some h
    refine zw_getr hX zl_X1_40 dX1_isLatestRight_38 g ?_
    refine zw_iconst (v := (5 : Int32)) hX dX1_isLatestRight_41 (by decide) ?_
    obtain ⟨v8, g, h⟩ := zb_some h
    refine zw_xi hX dX1_isLatestRight_42 g ?_
    refine zw_sipush (v := (128 : Int32)) hX dX1_isLatestRight_43 (by decide) ?_
    refine zw_irem hX dX1_isLatestRight_46 (by decide) ?_
    refine zw_iadd hX dX1_isLatestRight_47 ?_
    refine zw_icmp_ne (tgt := 70) hX dX1_isLatestRight_48 (by decide) (fun c48 => ?_) (fun c48 => ?_)
    · rw [if_neg c48] at h
      refine zw_iconst (v := (0 : Int32)) hX dX1_isLatestRight_70 (by decide) ?_
      obtain rfl := Option.some.inj h
      exact zw_iret hX hr dX1_isLatestRight_71 rfl ⟨rfl, rfl⟩
    · rw [if_pos c48] at h
      refine zw_aload_n hX dX1_isLatestRight_51 rfl ?_
      obtain ⟨b9, g, h⟩ := zb_some h
      refine zw_getr hX zl_X1_40 dX1_isLatestRight_52 g ?_
      refine zw_aload_n hX dX1_isLatestRight_55 rfl ?_
      obtain ⟨v10, g, h⟩ := zb_some h
      refine zw_geti hX zl_X1_104 dX1_isLatestRight_56 g ?_
      refine zw_iconst (v := (1 : Int32)) hX dX1_isLatestRight_59 (by decide) ?_
      refine zw_isub hX dX1_isLatestRight_60 ?_
      obtain ⟨v11, g, h⟩ := zb_some h
      refine zw_xi hX dX1_isLatestRight_61 g ?_
      refine zw_iload_n hX dX1_isLatestRight_62 rfl ?_
      refine zw_icmp_ne (tgt := 70) hX dX1_isLatestRight_63 (by decide) (fun c63 => ?_) (fun c63 => ?_)
      · rw [if_neg c63] at h
        refine zw_iconst (v := (0 : Int32)) hX dX1_isLatestRight_70 (by decide) ?_
        obtain rfl := Option.some.inj h
        exact zw_iret hX hr dX1_isLatestRight_71 rfl ⟨rfl, rfl⟩
      · rw [if_pos c63] at h
        refine zw_iconst (v := (1 : Int32)) hX dX1_isLatestRight_66 (by decide) ?_
        refine zw_goto (tgt := 71) hX dX1_isLatestRight_67 (by decide) ?_
        obtain rfl := Option.some.inj h
        exact zw_iret hX hr dX1_isLatestRight_71 rfl ⟨rfl, rfl⟩
set_option maxHeartbeats 4000000 in
set_option maxRecDepth 100000 in
theorem zt_X1_latestAim {l : Launch} {V : zm_V} {N : Nat} {S : zm_S} {out : (Int32 × zm_S)} {d : Nat} {a0 : Nat} (hd : 1 ≤ d) (h : zf_X1_latestAim N a0 S = some out) : zm_Met l zk_E V yX1_latestAim (.code yX1_latestAim cX1_latestAim 1 (some .int)) d [.ref a0] S 0 0 (zo_i out) zo_x := by
  refine zm_of (by decide +kernel) (Nat.le_of_ble_eq_true rfl) ?_
  intro p e R s m args below meth c hRR hX hr hxt
  have hR : R.frames = d ∧ R.locals = 64 * d := by rw [hRR]; exact ⟨rfl, rfl⟩
  have hX : zm_X p R s m args meth c RX1 "latestAim" cX1_latestAim 1 zk_E V 0 0 := hX
  unfold zf_X1_latestAim at h
  refine zw_sub (lv' := [(0, .ref a0)]) (List.forall_mem_cons.mpr ⟨rfl, zs_nil⟩) ?_
  refine zw_aload_n hX dX1_latestAim_0 rfl ?_
  obtain ⟨b1, g, h⟩ := zb_some h
  refine zw_getr hX zl_X1_40 dX1_latestAim_1 g ?_
  refine zw_iconst (v := (3 : Int32)) hX dX1_latestAim_4 (by decide) ?_
  obtain ⟨v2, g, h⟩ := zb_some h
  refine zw_xi hX dX1_latestAim_5 g ?_
  refine zw_sipush (v := (256 : Int32)) hX dX1_latestAim_6 (by decide) ?_
  refine zw_imul hX dX1_latestAim_9 ?_
  refine zw_aload_n hX dX1_latestAim_10 rfl ?_
  obtain ⟨b3, g, h⟩ := zb_some h
  refine zw_getr hX zl_X1_40 dX1_latestAim_11 g ?_
  refine zw_iconst (v := (4 : Int32)) hX dX1_latestAim_14 (by decide) ?_
  obtain ⟨v4, g, h⟩ := zb_some h
  refine zw_xi hX dX1_latestAim_15 g ?_
  refine zw_iadd hX dX1_latestAim_16 ?_
  obtain rfl := Option.some.inj h
  exact zw_iret hX hr dX1_latestAim_17 rfl ⟨rfl, rfl⟩
set_option maxHeartbeats 4000000 in
set_option maxRecDepth 100000 in
theorem zt_X1_isMeantFor {l : Launch} {V : zm_V} {N : Nat} {S : zm_S} {out : (Int32 × zm_S)} {d : Nat} {a0 : Nat} {i1 : Int32} (hd : 2 ≤ d) (h : zf_X1_isMeantFor N a0 i1 S = some out) : zm_Met l zk_E V yX1_isMeantFor (.code yX1_isMeantFor cX1_isMeantFor 3 (some .boolean)) d [.ref a0, .int i1] S 0 0 (zo_i out) zo_x := by
  refine zm_of (by decide +kernel) (Nat.le_of_ble_eq_true rfl) ?_
  intro p e R s m args below meth c hRR hX hr hxt
  have hR : R.frames = d ∧ R.locals = 64 * d := by rw [hRR]; exact ⟨rfl, rfl⟩
  have hX : zm_X p R s m args meth c RX1 "isMeantFor" cX1_isMeantFor 3 zk_E V 0 0 := hX
  unfold zf_X1_isMeantFor at h
  refine zw_sub (lv' := [(0, .ref a0), (1, .int i1)]) (List.forall_mem_cons.mpr ⟨rfl, (List.forall_mem_cons.mpr ⟨rfl, zs_nil⟩)⟩) ?_
  refine zw_aload_n hX dX1_isMeantFor_0 rfl ?_
  obtain ⟨_, gi, h⟩ := zb_some h
  obtain ⟨r2, g, h⟩ := zb_some h
  refine zc_Vi (as := []) hX gi (zt_X1_latestAim (d := d - 1) (by omega) g) zl_X1_101 rfl dX1_isMeantFor_1 ⟨rfl, rfl, Nat.le_of_ble_eq_true rfl⟩ ⟨by omega, by omega⟩ ?_
  refine zw_istore_n hX dX1_isMeantFor_4 (by decide) ?_
  refine zw_aload_n hX dX1_isMeantFor_5 rfl ?_
  obtain ⟨b3, g, h⟩ := zb_some h
  refine zw_getr hX zl_X1_40 dX1_isMeantFor_6 g ?_
  refine zw_iconst (v := (5 : Int32)) hX dX1_isMeantFor_9 (by decide) ?_
  obtain ⟨v4, g, h⟩ := zb_some h
  refine zw_xi hX dX1_isMeantFor_10 g ?_
  refine zw_sipush (v := (128 : Int32)) hX dX1_isMeantFor_11 (by decide) ?_
  refine zw_icmp_ge (tgt := 36) hX dX1_isMeantFor_14 (by decide) (fun c14 => ?_) (fun c14 => ?_)
  · rw [if_pos c14] at h
    refine zw_iload_n hX dX1_isMeantFor_36 rfl ?_
    refine zw_sipush (v := (256 : Int32)) hX dX1_isMeantFor_37 (by decide) ?_
    refine zw_icmp_ge (tgt := 62) hX dX1_isMeantFor_40 (by decide) (fun c40 => ?_) (fun c40 => ?_)
    · rw [if_pos c40] at h
      refine zw_iconst (v := (0 : Int32)) hX dX1_isMeantFor_62 (by decide) ?_
      obtain rfl := Option.some.inj h
      exact zw_iret hX hr dX1_isMeantFor_63 rfl ⟨rfl, rfl⟩
    · rw [if_neg c40] at h
      refine zw_aload_n hX dX1_isMeantFor_43 rfl ?_
      obtain ⟨b5, g, h⟩ := zb_some h
      refine zw_getr hX zl_X1_22 dX1_isMeantFor_44 g ?_
      refine zw_iload_n hX dX1_isMeantFor_47 rfl ?_
      refine zw_sipush (v := (256 : Int32)) hX dX1_isMeantFor_48 (by decide) ?_
      refine zw_imul hX dX1_isMeantFor_51 ?_
      refine zw_iload_n hX dX1_isMeantFor_52 rfl ?_
      refine zw_iadd hX dX1_isMeantFor_53 ?_
      obtain ⟨v6, g, h⟩ := zb_some h
      refine zw_xz hX dX1_isMeantFor_54 g ?_
      refine zw_if_eq (tgt := 62) hX dX1_isMeantFor_55 (by decide) (fun c55 => ?_) (fun c55 => ?_)
      · rw [if_pos c55] at h
        refine zw_iconst (v := (0 : Int32)) hX dX1_isMeantFor_62 (by decide) ?_
        obtain rfl := Option.some.inj h
        exact zw_iret hX hr dX1_isMeantFor_63 rfl ⟨rfl, rfl⟩
      · rw [if_neg c55] at h
        refine zw_iconst (v := (1 : Int32)) hX dX1_isMeantFor_58 (by decide) ?_
        refine zw_goto (tgt := 63) hX dX1_isMeantFor_59 (by decide) ?_
        obtain rfl := Option.some.inj h
        exact zw_iret hX hr dX1_isMeantFor_63 rfl ⟨rfl, rfl⟩
  · rw [if_neg c14] at h
    refine zw_aload_n hX dX1_isMeantFor_17 rfl ?_
    obtain ⟨b7, g, h⟩ := zb_some h
    refine zw_getr hX zl_X1_13 dX1_isMeantFor_18 g ?_
    refine zw_iload_n hX dX1_isMeantFor_21 rfl ?_
    obtain ⟨b8, g, h⟩ := zb_some h
    refine zw_xr hX dX1_isMeantFor_22 g ?_
    refine zw_bipush (v := (6 : Int32)) hX dX1_isMeantFor_23 (by decide) ?_
    obtain ⟨v9, g, h⟩ := zb_some h
    refine zw_xi hX dX1_isMeantFor_25 g ?_
    refine zw_iload_n hX dX1_isMeantFor_26 rfl ?_
    refine zw_icmp_ne (tgt := 34) hX dX1_isMeantFor_27 (by decide) (fun c27 => ?_) (fun c27 => ?_)
    · rw [if_neg c27] at h
      refine zw_iconst (v := (0 : Int32)) hX dX1_isMeantFor_34 (by decide) ?_
      obtain rfl := Option.some.inj h
      exact zw_iret hX hr dX1_isMeantFor_35 rfl ⟨rfl, rfl⟩
    · rw [if_pos c27] at h
      refine zw_iconst (v := (1 : Int32)) hX dX1_isMeantFor_30 (by decide) ?_
      refine zw_goto (tgt := 35) hX dX1_isMeantFor_31 (by decide) ?_
      obtain rfl := Option.some.inj h
      exact zw_iret hX hr dX1_isMeantFor_35 rfl ⟨rfl, rfl⟩
set_option maxHeartbeats 4000000 in
set_option maxRecDepth 100000 in
theorem zt_X1_beginAnswers_J74 {p : Program} {l : Launch} {e : Env} {R : Room} {s : State} {m : MethodId} {args : Array Value} {below : List Frame} {meth : Method} {c : Code} {V : zm_V} {mc ms d rc rs : Nat} (hX : zm_X p R s m args meth c RX1 "beginAnswers" cX1_beginAnswers 5 zk_E V mc ms) (hr : meth.sig.returnType = none) (hR : R.frames = d ∧ R.locals = 64 * d) (hd : 3 ≤ d) {N : Nat} {k : Nat → Int32 → Int32 → zm_S → Option ((Unit × zm_S) ⊕ ((Unit) × zm_S))} {a0 : Nat} {i1 : Int32} {i2 : Int32} {a3 : Nat} {t0 : Nat} {t1 : Int32} {t2 : Int32} {res : (Unit × zm_S) ⊕ ((Unit) × zm_S)} {out : (Unit × zm_S)}   (hf : ∀ o, res = .inl o → o = out) (hk : ∀ (S' : zm_S), res = .inr ((), S') → zw p l e R s m args below meth c (vx_MQ below (zm_Qc zk_E V (zo_v out)) (zm_XC zk_E V zo_x) args s mc ms (fun q => V.2.2.2.1 ≤ q)) 5 zk_E V mc ms 86 [] [] S' rc rs) (hrec : ∀ (i2' : Int32) (S : zm_S), k a0 i1 i2' S = some res → zw p l e R s m args below meth c (vx_MQ below (zm_Qc zk_E V (zo_v out)) (zm_XC zk_E V zo_x) args s mc ms (fun q => V.2.2.2.1 ≤ q)) 5 zk_E V mc ms 7 [(0, .ref a0), (1, .int i1), (2, .int i2')] [] S rc rs) {S : zm_S} (h : zf_X1_beginAnswers_J74 N k a0 i1 i2 a3 t0 t1 t2 S = some res) : zw p l e R s m args below meth c (vx_MQ below (zm_Qc zk_E V (zo_v out)) (zm_XC zk_E V zo_x) args s mc ms (fun q => V.2.2.2.1 ≤ q)) 5 zk_E V mc ms 74 [(0, .ref a0), (1, .int i1), (2, .int i2), (3, .ref a3)] [.int t2, .int t1, .ref t0] S rc rs := by
  unfold zf_X1_beginAnswers_J74 at h
  obtain ⟨S10, g, h⟩ := zb_some h
  refine zw_si hX dX1_beginAnswers_74 g ?_
  refine zw_aload_n hX dX1_beginAnswers_75 rfl ?_
  refine zw_bipush (v := (9 : Int32)) hX dX1_beginAnswers_76 (by decide) ?_
  refine zw_iconst (v := (0 : Int32)) hX dX1_beginAnswers_78 (by decide) ?_
  obtain ⟨S11, g, h⟩ := zb_some h
  refine zw_si hX dX1_beginAnswers_79 g ?_
  refine zw_iinc (v := (i2 + (1 : Int32))) hX dX1_beginAnswers_80 rfl rfl (by decide) ?_
  refine zw_goto (tgt := 7) hX dX1_beginAnswers_83 (by decide) ?_
  refine zw_sub (lv' := [(0, .ref a0), (1, .int i1), (2, .int (i2 + (1 : Int32)))]) (List.forall_mem_cons.mpr ⟨rfl, (List.forall_mem_cons.mpr ⟨rfl, (List.forall_mem_cons.mpr ⟨rfl, zs_nil⟩)⟩)⟩) ?_
  exact hrec _ _ h
set_option maxHeartbeats 4000000 in
set_option maxRecDepth 100000 in
theorem zt_X1_beginAnswers_J58 {p : Program} {l : Launch} {e : Env} {R : Room} {s : State} {m : MethodId} {args : Array Value} {below : List Frame} {meth : Method} {c : Code} {V : zm_V} {mc ms d rc rs : Nat} (hX : zm_X p R s m args meth c RX1 "beginAnswers" cX1_beginAnswers 5 zk_E V mc ms) (hr : meth.sig.returnType = none) (hR : R.frames = d ∧ R.locals = 64 * d) (hd : 3 ≤ d) {N : Nat} {k : Nat → Int32 → Int32 → zm_S → Option ((Unit × zm_S) ⊕ ((Unit) × zm_S))} {a0 : Nat} {i1 : Int32} {i2 : Int32} {a3 : Nat} {t0 : Int32} {res : (Unit × zm_S) ⊕ ((Unit) × zm_S)} {out : (Unit × zm_S)}   (hf : ∀ o, res = .inl o → o = out) (hk : ∀ (S' : zm_S), res = .inr ((), S') → zw p l e R s m args below meth c (vx_MQ below (zm_Qc zk_E V (zo_v out)) (zm_XC zk_E V zo_x) args s mc ms (fun q => V.2.2.2.1 ≤ q)) 5 zk_E V mc ms 86 [] [] S' rc rs) (hrec : ∀ (i2' : Int32) (S : zm_S), k a0 i1 i2' S = some res → zw p l e R s m args below meth c (vx_MQ below (zm_Qc zk_E V (zo_v out)) (zm_XC zk_E V zo_x) args s mc ms (fun q => V.2.2.2.1 ≤ q)) 5 zk_E V mc ms 7 [(0, .ref a0), (1, .int i1), (2, .int i2')] [] S rc rs) {S : zm_S} (h : zf_X1_beginAnswers_J58 N k a0 i1 i2 a3 t0 S = some res) : zw p l e R s m args below meth c (vx_MQ below (zm_Qc zk_E V (zo_v out)) (zm_XC zk_E V zo_x) args s mc ms (fun q => V.2.2.2.1 ≤ q)) 5 zk_E V mc ms 58 [(0, .ref a0), (1, .int i1), (2, .int i2), (3, .ref a3)] [.int t0] S rc rs := by
  unfold zf_X1_beginAnswers_J58 at h
  refine zw_istore hX dX1_beginAnswers_58 (by decide) ?_
  refine zw_aload_n hX dX1_beginAnswers_60 rfl ?_
  refine zw_bipush (v := (8 : Int32)) hX dX1_beginAnswers_61 (by decide) ?_
  refine zw_iload_n hX dX1_beginAnswers_63 rfl ?_
  refine zw_if_eq (tgt := 72) hX dX1_beginAnswers_64 (by decide) (fun c64 => ?_) (fun c64 => ?_)
  · rw [if_pos c64] at h
    refine zw_bipush (v := (12 : Int32)) hX dX1_beginAnswers_72 (by decide) ?_
    refine zw_sub (lv' := [(0, .ref a0), (1, .int i1), (2, .int i2), (3, .ref a3)]) (List.forall_mem_cons.mpr ⟨rfl, (List.forall_mem_cons.mpr ⟨rfl, (List.forall_mem_cons.mpr ⟨rfl, (List.forall_mem_cons.mpr ⟨rfl, zs_nil⟩)⟩)⟩)⟩) ?_
    exact zt_X1_beginAnswers_J74 hX hr hR hd hf hk hrec h
  · rw [if_neg c64] at h
    refine zw_iload hX dX1_beginAnswers_67 rfl ?_
    refine zw_goto (tgt := 74) hX dX1_beginAnswers_69 (by decide) ?_
    refine zw_sub (lv' := [(0, .ref a0), (1, .int i1), (2, .int i2), (3, .ref a3)]) (List.forall_mem_cons.mpr ⟨rfl, (List.forall_mem_cons.mpr ⟨rfl, (List.forall_mem_cons.mpr ⟨rfl, (List.forall_mem_cons.mpr ⟨rfl, zs_nil⟩)⟩)⟩)⟩) ?_
    exact zt_X1_beginAnswers_J74 hX hr hR hd hf hk hrec h
set_option maxHeartbeats 4000000 in
set_option maxRecDepth 100000 in
theorem zt_X1_beginAnswers_L7 {p : Program} {l : Launch} {e : Env} {R : Room} {s : State} {m : MethodId} {args : Array Value} {below : List Frame} {meth : Method} {c : Code} {V : zm_V} {mc ms d rc rs : Nat} (hX : zm_X p R s m args meth c RX1 "beginAnswers" cX1_beginAnswers 5 zk_E V mc ms) (hr : meth.sig.returnType = none) (hR : R.frames = d ∧ R.locals = 64 * d) (hd : 3 ≤ d) {N : Nat} {res : (Unit × zm_S) ⊕ ((Unit) × zm_S)} {out : (Unit × zm_S)} (a0 : Nat) (i1 : Int32) (hf : ∀ o, res = .inl o → o = out) (hk : ∀ (S' : zm_S), res = .inr ((), S') → zw p l e R s m args below meth c (vx_MQ below (zm_Qc zk_E V (zo_v out)) (zm_XC zk_E V zo_x) args s mc ms (fun q => V.2.2.2.1 ≤ q)) 5 zk_E V mc ms 86 [] [] S' rc rs) : ∀ (n : Nat) (i2 : Int32) (S : zm_S), zf_X1_beginAnswers_L7 N n a0 i1 i2 S = some res → zw p l e R s m args below meth c (vx_MQ below (zm_Qc zk_E V (zo_v out)) (zm_XC zk_E V zo_x) args s mc ms (fun q => V.2.2.2.1 ≤ q)) 5 zk_E V mc ms 7 [(0, .ref a0), (1, .int i1), (2, .int i2)] [] S rc rs := by
  intro n
  induction n with
  | zero => intro i2 S h; cases h
  | succ n ih =>
    intro i2 S h
    rw [zf_X1_beginAnswers_L7] at h
    refine zw_iload_n hX dX1_beginAnswers_7 rfl ?_
    refine zw_bipush (v := (8 : Int32)) hX dX1_beginAnswers_8 (by decide) ?_
    refine zw_icmp_ge (tgt := 86) hX dX1_beginAnswers_10 (by decide) (fun c10 => ?_) (fun c10 => ?_)
    · rw [if_pos c10] at h
      refine zw_sub (lv' := []) zs_nil ?_
      exact hk  _ (Option.some.inj h).symm
    · rw [if_neg c10] at h
      refine zw_aload_n hX dX1_beginAnswers_13 rfl ?_
      obtain ⟨b3, g, h⟩ := zb_some h
      refine zw_getr hX zl_X1_13 dX1_beginAnswers_14 g ?_
      refine zw_iload_n hX dX1_beginAnswers_17 rfl ?_
      obtain ⟨b4, g, h⟩ := zb_some h
      refine zw_xr hX dX1_beginAnswers_18 g ?_
      refine zw_astore_n hX dX1_beginAnswers_19 (by decide) ?_
      refine zw_aload_n hX dX1_beginAnswers_20 rfl ?_
      refine zw_iload_n hX dX1_beginAnswers_21 rfl ?_
      obtain ⟨_, gi, h⟩ := zb_some h
      obtain ⟨r6, g, h⟩ := zb_some h
      refine zc_Vi (as := [.int i2]) hX gi (zt_X1_isMeantFor (d := d - 1) (by omega) g) zl_X1_98 rfl dX1_beginAnswers_22 ⟨rfl, rfl, Nat.le_of_ble_eq_true rfl⟩ ⟨by omega, by omega⟩ ?_
      refine zw_if_eq (tgt := 80) hX dX1_beginAnswers_25 (by decide) (fun c25 => ?_) (fun c25 => ?_)
      · rw [if_pos c25] at h
        refine zw_iinc (v := (i2 + (1 : Int32))) hX dX1_beginAnswers_80 rfl rfl (by decide) ?_
        refine zw_goto (tgt := 7) hX dX1_beginAnswers_83 (by decide) ?_
        refine zw_sub (lv' := [(0, .ref a0), (1, .int i1), (2, .int (i2 + (1 : Int32)))]) (List.forall_mem_cons.mpr ⟨rfl, (List.forall_mem_cons.mpr ⟨rfl, (List.forall_mem_cons.mpr ⟨rfl, zs_nil⟩)⟩)⟩) ?_
        exact ih _ _ h
      · rw [if_neg c25] at h
        refine zw_aload_n hX dX1_beginAnswers_28 rfl ?_
        refine zw_iconst (v := (1 : Int32)) hX dX1_beginAnswers_29 (by decide) ?_
        obtain ⟨v7, g, h⟩ := zb_some h
        refine zw_xi hX dX1_beginAnswers_30 g ?_
        refine zw_iconst (v := (-1 : Int32)) hX dX1_beginAnswers_31 (by decide) ?_
        refine zw_icmp_ne (tgt := 80) hX dX1_beginAnswers_32 (by decide) (fun c32 => ?_) (fun c32 => ?_)
        · rw [if_neg c32] at h
          refine zw_iinc (v := (i2 + (1 : Int32))) hX dX1_beginAnswers_80 rfl rfl (by decide) ?_
          refine zw_goto (tgt := 7) hX dX1_beginAnswers_83 (by decide) ?_
          refine zw_sub (lv' := [(0, .ref a0), (1, .int i1), (2, .int (i2 + (1 : Int32)))]) (List.forall_mem_cons.mpr ⟨rfl, (List.forall_mem_cons.mpr ⟨rfl, (List.forall_mem_cons.mpr ⟨rfl, zs_nil⟩)⟩)⟩) ?_
          exact ih _ _ h
        · rw [if_pos c32] at h
          refine zw_aload_n hX dX1_beginAnswers_35 rfl ?_
          refine zw_iconst (v := (2 : Int32)) hX dX1_beginAnswers_36 (by decide) ?_
          obtain ⟨v8, g, h⟩ := zb_some h
          refine zw_xi hX dX1_beginAnswers_37 g ?_
          refine zw_iconst (v := (-1 : Int32)) hX dX1_beginAnswers_38 (by decide) ?_
          refine zw_icmp_ne (tgt := 80) hX dX1_beginAnswers_39 (by decide) (fun c39 => ?_) (fun c39 => ?_)
          · rw [if_neg c39] at h
            refine zw_iinc (v := (i2 + (1 : Int32))) hX dX1_beginAnswers_80 rfl rfl (by decide) ?_
            refine zw_goto (tgt := 7) hX dX1_beginAnswers_83 (by decide) ?_
            refine zw_sub (lv' := [(0, .ref a0), (1, .int i1), (2, .int (i2 + (1 : Int32)))]) (List.forall_mem_cons.mpr ⟨rfl, (List.forall_mem_cons.mpr ⟨rfl, (List.forall_mem_cons.mpr ⟨rfl, zs_nil⟩)⟩)⟩) ?_
            exact ih _ _ h
          · rw [if_pos c39] at h
            refine zw_aload_n hX dX1_beginAnswers_42 rfl ?_
            refine zw_bipush (v := (7 : Int32)) hX dX1_beginAnswers_43 (by decide) ?_
            obtain ⟨v9, g, h⟩ := zb_some h
            refine zw_xi hX dX1_beginAnswers_45 g ?_
            refine zw_if_eq (tgt := 55) hX dX1_beginAnswers_46 (by decide) (fun c46 => ?_) (fun c46 => ?_)
            · rw [if_pos c46] at h
              refine zw_sipush (v := (204 : Int32)) hX dX1_beginAnswers_55 (by decide) ?_
              refine zw_sub (lv' := [(0, .ref a0), (1, .int i1), (2, .int i2), (3, .ref b4)]) (List.forall_mem_cons.mpr ⟨rfl, (List.forall_mem_cons.mpr ⟨rfl, (List.forall_mem_cons.mpr ⟨rfl, (List.forall_mem_cons.mpr ⟨rfl, zs_nil⟩)⟩)⟩)⟩) ?_
              exact zt_X1_beginAnswers_J58 hX hr hR hd hf hk ih h
            · rw [if_neg c46] at h
              refine zw_sipush (v := (192 : Int32)) hX dX1_beginAnswers_49 (by decide) ?_
              refine zw_goto (tgt := 58) hX dX1_beginAnswers_52 (by decide) ?_
              refine zw_sub (lv' := [(0, .ref a0), (1, .int i1), (2, .int i2), (3, .ref b4)]) (List.forall_mem_cons.mpr ⟨rfl, (List.forall_mem_cons.mpr ⟨rfl, (List.forall_mem_cons.mpr ⟨rfl, (List.forall_mem_cons.mpr ⟨rfl, zs_nil⟩)⟩)⟩)⟩) ?_
              exact zt_X1_beginAnswers_J58 hX hr hR hd hf hk ih h
set_option maxHeartbeats 4000000 in
set_option maxRecDepth 100000 in
theorem zt_X1_beginAnswers {l : Launch} {V : zm_V} {N : Nat} {S : zm_S} {out : (Unit × zm_S)} {d : Nat} {a0 : Nat} (hd : 3 ≤ d) (h : zf_X1_beginAnswers N a0 S = some out) : zm_Met l zk_E V yX1_beginAnswers (.code yX1_beginAnswers cX1_beginAnswers 5 none) d [.ref a0] S 0 0 (zo_v out) zo_x := by
  refine zm_of (by decide +kernel) (Nat.le_of_ble_eq_true rfl) ?_
  intro p e R s m args below meth c hRR hX hr hxt
  have hR : R.frames = d ∧ R.locals = 64 * d := by rw [hRR]; exact ⟨rfl, rfl⟩
  have hX : zm_X p R s m args meth c RX1 "beginAnswers" cX1_beginAnswers 5 zk_E V 0 0 := hX
  unfold zf_X1_beginAnswers at h
  refine zw_sub (lv' := [(0, .ref a0)]) (List.forall_mem_cons.mpr ⟨rfl, zs_nil⟩) ?_
  refine zw_aload_n hX dX1_beginAnswers_0 rfl ?_
  obtain ⟨_, gi, h⟩ := zb_some h
  obtain ⟨r2, g, h⟩ := zb_some h
  refine zc_Vi (as := []) hX gi (zt_X1_isLatestRight (d := d - 1) (by omega) g) zl_X1_94 rfl dX1_beginAnswers_1 ⟨rfl, rfl, Nat.le_of_ble_eq_true rfl⟩ ⟨by omega, by omega⟩ ?_
  refine zw_istore_n hX dX1_beginAnswers_4 (by decide) ?_
  refine zw_iconst (v := (0 : Int32)) hX dX1_beginAnswers_5 (by decide) ?_
  refine zw_istore_n hX dX1_beginAnswers_6 (by decide) ?_
  obtain ⟨r, g, h⟩ := zb_some h
  refine zw_sub (lv' := [(0, .ref a0), (1, .int r2.1), (2, .int (0 : Int32))]) (List.forall_mem_cons.mpr ⟨rfl, (List.forall_mem_cons.mpr ⟨rfl, (List.forall_mem_cons.mpr ⟨rfl, zs_nil⟩)⟩)⟩) ?_
  refine zt_X1_beginAnswers_L7 hX hr hR hd (res := r) (out := out) a0 r2.1 ?_ ?_ N _ _ g
  · intro o ho
    subst ho
    exact Option.some.inj h
  · intro  S12 hx
    subst hx
    try dsimp only at h
    obtain rfl := Option.some.inj h
    exact zw_vret hX hr dX1_beginAnswers_86 ⟨rfl, rfl⟩
set_option maxHeartbeats 4000000 in
set_option maxRecDepth 100000 in
theorem zt_X1_spell_J137 {p : Program} {l : Launch} {e : Env} {R : Room} {s : State} {m : MethodId} {args : Array Value} {below : List Frame} {meth : Method} {c : Code} {V : zm_V} {mc ms d rc rs : Nat} (hX : zm_X p R s m args meth c RX1 "spell" cX1_spell 5 zk_E V mc ms) (hr : meth.sig.returnType = none) (hR : R.frames = d ∧ R.locals = 64 * d) (hd : 1 ≤ d) {N : Nat} {k : Nat → Nat → Int32 → Int32 → Int32 → zm_S → Option ((Unit × zm_S) ⊕ ((Int32) × zm_S))} {a0 : Nat} {a1 : Nat} {i2 : Int32} {i3 : Int32} {i4 : Int32} {res : (Unit × zm_S) ⊕ ((Int32) × zm_S)} {out : (Unit × zm_S)}   (hf : ∀ o, res = .inl o → o = out) (hk : ∀ (x3 : Int32) (S' : zm_S), res = .inr (x3, S') → zw p l e R s m args below meth c (vx_MQ below (zm_Qc zk_E V (zo_v out)) (zm_XC zk_E V zo_x) args s mc ms (fun q => V.2.2.2.1 ≤ q)) 5 zk_E V mc ms 150 [(1, .ref a1), (2, .int i2), (3, .int x3)] [] S' rc rs) (hrec : ∀ (i3' : Int32) (i4' : Int32) (S : zm_S), k a0 a1 i2 i3' i4' S = some res → zw p l e R s m args below meth c (vx_MQ below (zm_Qc zk_E V (zo_v out)) (zm_XC zk_E V zo_x) args s mc ms (fun q => V.2.2.2.1 ≤ q)) 5 zk_E V mc ms 97 [(0, .ref a0), (1, .ref a1), (2, .int i2), (3, .int i3'), (4, .int i4')] [] S rc rs) {S : zm_S} (h : zf_X1_spell_J137 N k a0 a1 i2 i3 i4 S = some res) : zw p l e R s m args below meth c (vx_MQ below (zm_Qc zk_E V (zo_v out)) (zm_XC zk_E V zo_x) args s mc ms (fun q => V.2.2.2.1 ≤ q)) 5 zk_E V mc ms 137 [(0, .ref a0), (1, .ref a1), (2, .int i2), (3, .int i3), (4, .int i4)] [] S rc rs := by
  unfold zf_X1_spell_J137 at h
  refine zw_iload_n hX dX1_spell_137 rfl ?_
  refine zw_aload_n hX dX1_spell_138 rfl ?_
  refine zw_iload hX dX1_spell_139 rfl ?_
  obtain ⟨v15, g, h⟩ := zb_some h
  refine zw_xi hX dX1_spell_141 g ?_
  refine zw_ixor hX dX1_spell_142 ?_
  refine zw_istore_n hX dX1_spell_143 (by decide) ?_
  refine zw_iinc (v := (i4 + (1 : Int32))) hX dX1_spell_144 rfl rfl (by decide) ?_
  refine zw_goto (tgt := 97) hX dX1_spell_147 (by decide) ?_
  refine zw_sub (lv' := [(0, .ref a0), (1, .ref a1), (2, .int i2), (3, .int (i3 ^^^ v15)), (4, .int (i4 + (1 : Int32)))]) (List.forall_mem_cons.mpr ⟨rfl, (List.forall_mem_cons.mpr ⟨rfl, (List.forall_mem_cons.mpr ⟨rfl, (List.forall_mem_cons.mpr ⟨rfl, (List.forall_mem_cons.mpr ⟨rfl, zs_nil⟩)⟩)⟩)⟩)⟩) ?_
  exact hrec _ _ _ h
set_option maxHeartbeats 4000000 in
set_option maxRecDepth 100000 in
theorem zt_X1_spell_L97 {p : Program} {l : Launch} {e : Env} {R : Room} {s : State} {m : MethodId} {args : Array Value} {below : List Frame} {meth : Method} {c : Code} {V : zm_V} {mc ms d rc rs : Nat} (hX : zm_X p R s m args meth c RX1 "spell" cX1_spell 5 zk_E V mc ms) (hr : meth.sig.returnType = none) (hR : R.frames = d ∧ R.locals = 64 * d) (hd : 1 ≤ d) {N : Nat} {res : (Unit × zm_S) ⊕ ((Int32) × zm_S)} {out : (Unit × zm_S)} (a0 : Nat) (a1 : Nat) (i2 : Int32) (hf : ∀ o, res = .inl o → o = out) (hk : ∀ (x3 : Int32) (S' : zm_S), res = .inr (x3, S') → zw p l e R s m args below meth c (vx_MQ below (zm_Qc zk_E V (zo_v out)) (zm_XC zk_E V zo_x) args s mc ms (fun q => V.2.2.2.1 ≤ q)) 5 zk_E V mc ms 150 [(1, .ref a1), (2, .int i2), (3, .int x3)] [] S' rc rs) : ∀ (n : Nat) (i3 : Int32) (i4 : Int32) (S : zm_S), zf_X1_spell_L97 N n a0 a1 i2 i3 i4 S = some res → zw p l e R s m args below meth c (vx_MQ below (zm_Qc zk_E V (zo_v out)) (zm_XC zk_E V zo_x) args s mc ms (fun q => V.2.2.2.1 ≤ q)) 5 zk_E V mc ms 97 [(0, .ref a0), (1, .ref a1), (2, .int i2), (3, .int i3), (4, .int i4)] [] S rc rs := by
  intro n
  induction n with
  | zero => intro i3 i4 S h; cases h
  | succ n ih =>
    intro i3 i4 S h
    rw [zf_X1_spell_L97] at h
    refine zw_iload hX dX1_spell_97 rfl ?_
    refine zw_bipush (v := (6 : Int32)) hX dX1_spell_99 (by decide) ?_
    refine zw_iload_n hX dX1_spell_101 rfl ?_
    refine zw_iadd hX dX1_spell_102 ?_
    refine zw_icmp_ge (tgt := 150) hX dX1_spell_103 (by decide) (fun c103 => ?_) (fun c103 => ?_)
    · rw [if_pos c103] at h
      refine zw_sub (lv' := [(1, .ref a1), (2, .int i2), (3, .int i3)]) (List.forall_mem_cons.mpr ⟨rfl, (List.forall_mem_cons.mpr ⟨rfl, (List.forall_mem_cons.mpr ⟨rfl, zs_nil⟩)⟩)⟩) ?_
      exact hk _ _ (Option.some.inj h).symm
    · rw [if_neg c103] at h
      refine zw_iload hX dX1_spell_106 rfl ?_
      refine zw_bipush (v := (21 : Int32)) hX dX1_spell_108 (by decide) ?_
      refine zw_icmp_ge (tgt := 150) hX dX1_spell_110 (by decide) (fun c110 => ?_) (fun c110 => ?_)
      · rw [if_pos c110] at h
        refine zw_sub (lv' := [(1, .ref a1), (2, .int i2), (3, .int i3)]) (List.forall_mem_cons.mpr ⟨rfl, (List.forall_mem_cons.mpr ⟨rfl, (List.forall_mem_cons.mpr ⟨rfl, zs_nil⟩)⟩)⟩) ?_
        exact hk _ _ (Option.some.inj h).symm
      · rw [if_neg c110] at h
        refine zw_iload hX dX1_spell_113 rfl ?_
        refine zw_bipush (v := (6 : Int32)) hX dX1_spell_115 (by decide) ?_
        refine zw_icmp_lt (tgt := 137) hX dX1_spell_117 (by decide) (fun c117 => ?_) (fun c117 => ?_)
        · rw [if_pos c117] at h
          refine zw_sub (lv' := [(0, .ref a0), (1, .ref a1), (2, .int i2), (3, .int i3), (4, .int i4)]) (List.forall_mem_cons.mpr ⟨rfl, (List.forall_mem_cons.mpr ⟨rfl, (List.forall_mem_cons.mpr ⟨rfl, (List.forall_mem_cons.mpr ⟨rfl, (List.forall_mem_cons.mpr ⟨rfl, zs_nil⟩)⟩)⟩)⟩)⟩) ?_
          exact zt_X1_spell_J137 hX hr hR hd hf hk ih h
        · rw [if_neg c117] at h
          refine zw_aload_n hX dX1_spell_120 rfl ?_
          refine zw_iload hX dX1_spell_121 rfl ?_
          refine zw_aload_n hX dX1_spell_123 rfl ?_
          refine zw_iconst (v := (5 : Int32)) hX dX1_spell_124 (by decide) ?_
          obtain ⟨v16, g, h⟩ := zb_some h
          refine zw_xi hX dX1_spell_125 g ?_
          refine zw_iload hX dX1_spell_126 rfl ?_
          refine zw_iadd hX dX1_spell_128 ?_
          refine zw_bipush (v := (6 : Int32)) hX dX1_spell_129 (by decide) ?_
          refine zw_isub hX dX1_spell_131 ?_
          refine zw_sipush (v := (256 : Int32)) hX dX1_spell_132 (by decide) ?_
          refine zw_irem hX dX1_spell_135 (by decide) ?_
          obtain ⟨S17, g, h⟩ := zb_some h
          refine zw_si hX dX1_spell_136 g ?_
          refine zw_sub (lv' := [(0, .ref a0), (1, .ref a1), (2, .int i2), (3, .int i3), (4, .int i4)]) (List.forall_mem_cons.mpr ⟨rfl, (List.forall_mem_cons.mpr ⟨rfl, (List.forall_mem_cons.mpr ⟨rfl, (List.forall_mem_cons.mpr ⟨rfl, (List.forall_mem_cons.mpr ⟨rfl, zs_nil⟩)⟩)⟩)⟩)⟩) ?_
          exact zt_X1_spell_J137 hX hr hR hd hf hk ih h
set_option maxHeartbeats 4000000 in
set_option maxRecDepth 100000 in
theorem zt_X1_spell_J150 {p : Program} {l : Launch} {e : Env} {R : Room} {s : State} {m : MethodId} {args : Array Value} {below : List Frame} {meth : Method} {c : Code} {V : zm_V} {mc ms d rc rs : Nat} (hX : zm_X p R s m args meth c RX1 "spell" cX1_spell 5 zk_E V mc ms) (hr : meth.sig.returnType = none) (hR : R.frames = d ∧ R.locals = 64 * d) (hd : 1 ≤ d) {N : Nat} {a1 : Nat} {i2 : Int32} {i3 : Int32} {out : (Unit × zm_S)} {S : zm_S} (h : zf_X1_spell_J150 N a1 i2 i3 S = some out) : zw p l e R s m args below meth c (vx_MQ below (zm_Qc zk_E V (zo_v out)) (zm_XC zk_E V zo_x) args s mc ms (fun q => V.2.2.2.1 ≤ q)) 5 zk_E V mc ms 150 [(1, .ref a1), (2, .int i2), (3, .int i3)] [] S rc rs := by
  unfold zf_X1_spell_J150 at h
  refine zw_aload_n hX dX1_spell_150 rfl ?_
  refine zw_bipush (v := (6 : Int32)) hX dX1_spell_151 (by decide) ?_
  refine zw_iload_n hX dX1_spell_153 rfl ?_
  refine zw_iadd hX dX1_spell_154 ?_
  refine zw_iload_n hX dX1_spell_155 rfl ?_
  obtain ⟨S20, g, h⟩ := zb_some h
  refine zw_si hX dX1_spell_156 g ?_
  obtain rfl := Option.some.inj h
  exact zw_vret hX hr dX1_spell_157 ⟨rfl, rfl⟩
set_option maxHeartbeats 4000000 in
set_option maxRecDepth 100000 in
theorem zt_X1_spell_J85 {p : Program} {l : Launch} {e : Env} {R : Room} {s : State} {m : MethodId} {args : Array Value} {below : List Frame} {meth : Method} {c : Code} {V : zm_V} {mc ms d rc rs : Nat} (hX : zm_X p R s m args meth c RX1 "spell" cX1_spell 5 zk_E V mc ms) (hr : meth.sig.returnType = none) (hR : R.frames = d ∧ R.locals = 64 * d) (hd : 1 ≤ d) {N : Nat} {a0 : Nat} {a1 : Nat} {i2 : Int32} {t0 : Nat} {t1 : Int32} {t2 : Int32} {out : (Unit × zm_S)} {S : zm_S} (h : zf_X1_spell_J85 N a0 a1 i2 t0 t1 t2 S = some out) : zw p l e R s m args below meth c (vx_MQ below (zm_Qc zk_E V (zo_v out)) (zm_XC zk_E V zo_x) args s mc ms (fun q => V.2.2.2.1 ≤ q)) 5 zk_E V mc ms 85 [(0, .ref a0), (1, .ref a1), (2, .int i2)] [.int t2, .int t1, .ref t0] S rc rs := by
  unfold zf_X1_spell_J85 at h
  refine zw_iload_n hX dX1_spell_85 rfl ?_
  refine zw_iadd hX dX1_spell_86 ?_
  refine zw_iconst (v := (1 : Int32)) hX dX1_spell_87 (by decide) ?_
  refine zw_isub hX dX1_spell_88 ?_
  obtain ⟨S14, g, h⟩ := zb_some h
  refine zw_si hX dX1_spell_89 g ?_
  refine zw_sipush (v := (255 : Int32)) hX dX1_spell_90 (by decide) ?_
  refine zw_istore_n hX dX1_spell_93 (by decide) ?_
  refine zw_iconst (v := (0 : Int32)) hX dX1_spell_94 (by decide) ?_
  refine zw_istore hX dX1_spell_95 (by decide) ?_
  obtain ⟨r, g, h⟩ := zb_some h
  refine zw_sub (lv' := [(0, .ref a0), (1, .ref a1), (2, .int i2), (3, .int (255 : Int32)), (4, .int (0 : Int32))]) (List.forall_mem_cons.mpr ⟨rfl, (List.forall_mem_cons.mpr ⟨rfl, (List.forall_mem_cons.mpr ⟨rfl, (List.forall_mem_cons.mpr ⟨rfl, (List.forall_mem_cons.mpr ⟨rfl, zs_nil⟩)⟩)⟩)⟩)⟩) ?_
  refine zt_X1_spell_L97 hX hr hR hd (res := r) (out := out) a0 a1 i2 ?_ ?_ N _ _ _ g
  · intro o ho
    subst ho
    exact Option.some.inj h
  · intro v19 S18 hx
    subst hx
    try dsimp only at h
    refine zw_sub (lv' := [(1, .ref a1), (2, .int i2), (3, .int v19)]) (List.forall_mem_cons.mpr ⟨rfl, (List.forall_mem_cons.mpr ⟨rfl, (List.forall_mem_cons.mpr ⟨rfl, zs_nil⟩)⟩)⟩) ?_
    exact zt_X1_spell_J150 hX hr hR hd h
set_option maxHeartbeats 4000000 in
set_option maxRecDepth 100000 in
theorem zt_X1_spell_J28 {p : Program} {l : Launch} {e : Env} {R : Room} {s : State} {m : MethodId} {args : Array Value} {below : List Frame} {meth : Method} {c : Code} {V : zm_V} {mc ms d rc rs : Nat} (hX : zm_X p R s m args meth c RX1 "spell" cX1_spell 5 zk_E V mc ms) (hr : meth.sig.returnType = none) (hR : R.frames = d ∧ R.locals = 64 * d) (hd : 1 ≤ d) {N : Nat} {a0 : Nat} {a1 : Nat} {i2 : Int32} {t0 : Nat} {t1 : Int32} {t2 : Int32} {t3 : Int32} {out : (Unit × zm_S)} {S : zm_S} (h : zf_X1_spell_J28 N a0 a1 i2 t0 t1 t2 t3 S = some out) : zw p l e R s m args below meth c (vx_MQ below (zm_Qc zk_E V (zo_v out)) (zm_XC zk_E V zo_x) args s mc ms (fun q => V.2.2.2.1 ≤ q)) 5 zk_E V mc ms 28 [(0, .ref a0), (1, .ref a1), (2, .int i2)] [.int t3, .int t2, .int t1, .ref t0] S rc rs := by
  unfold zf_X1_spell_J28 at h
  refine zw_isub hX dX1_spell_28 ?_
  obtain ⟨S4, g, h⟩ := zb_some h
  refine zw_si hX dX1_spell_29 g ?_
  refine zw_aload_n hX dX1_spell_30 rfl ?_
  refine zw_iconst (v := (1 : Int32)) hX dX1_spell_31 (by decide) ?_
  refine zw_aload_n hX dX1_spell_32 rfl ?_
  refine zw_iconst (v := (1 : Int32)) hX dX1_spell_33 (by decide) ?_
  obtain ⟨v5, g, h⟩ := zb_some h
  refine zw_xi hX dX1_spell_34 g ?_
  refine zw_sipush (v := (256 : Int32)) hX dX1_spell_35 (by decide) ?_
  refine zw_idiv hX dX1_spell_38 (by decide) ?_
  obtain ⟨S6, g, h⟩ := zb_some h
  refine zw_si hX dX1_spell_39 g ?_
  refine zw_aload_n hX dX1_spell_40 rfl ?_
  refine zw_iconst (v := (2 : Int32)) hX dX1_spell_41 (by decide) ?_
  refine zw_aload_n hX dX1_spell_42 rfl ?_
  refine zw_iconst (v := (1 : Int32)) hX dX1_spell_43 (by decide) ?_
  obtain ⟨v7, g, h⟩ := zb_some h
  refine zw_xi hX dX1_spell_44 g ?_
  refine zw_sipush (v := (256 : Int32)) hX dX1_spell_45 (by decide) ?_
  refine zw_irem hX dX1_spell_48 (by decide) ?_
  obtain ⟨S8, g, h⟩ := zb_some h
  refine zw_si hX dX1_spell_49 g ?_
  refine zw_aload_n hX dX1_spell_50 rfl ?_
  refine zw_iconst (v := (3 : Int32)) hX dX1_spell_51 (by decide) ?_
  refine zw_aload_n hX dX1_spell_52 rfl ?_
  refine zw_iconst (v := (2 : Int32)) hX dX1_spell_53 (by decide) ?_
  obtain ⟨v9, g, h⟩ := zb_some h
  refine zw_xi hX dX1_spell_54 g ?_
  refine zw_sipush (v := (256 : Int32)) hX dX1_spell_55 (by decide) ?_
  refine zw_idiv hX dX1_spell_58 (by decide) ?_
  obtain ⟨S10, g, h⟩ := zb_some h
  refine zw_si hX dX1_spell_59 g ?_
  refine zw_aload_n hX dX1_spell_60 rfl ?_
  refine zw_iconst (v := (4 : Int32)) hX dX1_spell_61 (by decide) ?_
  refine zw_aload_n hX dX1_spell_62 rfl ?_
  refine zw_iconst (v := (2 : Int32)) hX dX1_spell_63 (by decide) ?_
  obtain ⟨v11, g, h⟩ := zb_some h
  refine zw_xi hX dX1_spell_64 g ?_
  refine zw_sipush (v := (256 : Int32)) hX dX1_spell_65 (by decide) ?_
  refine zw_irem hX dX1_spell_68 (by decide) ?_
  obtain ⟨S12, g, h⟩ := zb_some h
  refine zw_si hX dX1_spell_69 g ?_
  refine zw_aload_n hX dX1_spell_70 rfl ?_
  refine zw_iconst (v := (5 : Int32)) hX dX1_spell_71 (by decide) ?_
  refine zw_aload_n hX dX1_spell_72 rfl ?_
  refine zw_iconst (v := (3 : Int32)) hX dX1_spell_73 (by decide) ?_
  obtain ⟨v13, g, h⟩ := zb_some h
  refine zw_xi hX dX1_spell_74 g ?_
  refine zw_if_eq (tgt := 84) hX dX1_spell_75 (by decide) (fun c75 => ?_) (fun c75 => ?_)
  · rw [if_pos c75] at h
    refine zw_iconst (v := (0 : Int32)) hX dX1_spell_84 (by decide) ?_
    refine zw_sub (lv' := [(0, .ref a0), (1, .ref a1), (2, .int i2)]) (List.forall_mem_cons.mpr ⟨rfl, (List.forall_mem_cons.mpr ⟨rfl, (List.forall_mem_cons.mpr ⟨rfl, zs_nil⟩)⟩)⟩) ?_
    exact zt_X1_spell_J85 hX hr hR hd h
  · rw [if_neg c75] at h
    refine zw_sipush (v := (128 : Int32)) hX dX1_spell_78 (by decide) ?_
    refine zw_goto (tgt := 85) hX dX1_spell_81 (by decide) ?_
    refine zw_sub (lv' := [(0, .ref a0), (1, .ref a1), (2, .int i2)]) (List.forall_mem_cons.mpr ⟨rfl, (List.forall_mem_cons.mpr ⟨rfl, (List.forall_mem_cons.mpr ⟨rfl, zs_nil⟩)⟩)⟩) ?_
    exact zt_X1_spell_J85 hX hr hR hd h
set_option maxHeartbeats 4000000 in
set_option maxRecDepth 100000 in
theorem zt_X1_spell {l : Launch} {V : zm_V} {N : Nat} {S : zm_S} {out : (Unit × zm_S)} {d : Nat} {a0 : Nat} {a1 : Nat} (hd : 1 ≤ d) (h : zf_X1_spell N a0 a1 S = some out) : zm_Met l zk_E V yX1_spell (.code yX1_spell cX1_spell 5 none) d [.ref a0, .ref a1] S 0 0 (zo_v out) zo_x := by
  refine zm_of (by decide +kernel) (Nat.le_of_ble_eq_true rfl) ?_
  intro p e R s m args below meth c hRR hX hr hxt
  have hR : R.frames = d ∧ R.locals = 64 * d := by rw [hRR]; exact ⟨rfl, rfl⟩
  have hX : zm_X p R s m args meth c RX1 "spell" cX1_spell 5 zk_E V 0 0 := hX
  unfold zf_X1_spell at h
  refine zw_sub (lv' := [(0, .ref a0), (1, .ref a1)]) (List.forall_mem_cons.mpr ⟨rfl, (List.forall_mem_cons.mpr ⟨rfl, zs_nil⟩)⟩) ?_
  refine zw_aload_n hX dX1_spell_0 rfl ?_
  refine zw_iconst (v := (4 : Int32)) hX dX1_spell_1 (by decide) ?_
  obtain ⟨v1, g, h⟩ := zb_some h
  refine zw_xi hX dX1_spell_2 g ?_
  refine zw_istore_n hX dX1_spell_3 (by decide) ?_
  refine zw_aload_n hX dX1_spell_4 rfl ?_
  refine zw_iconst (v := (0 : Int32)) hX dX1_spell_5 (by decide) ?_
  refine zw_sipush (v := (176 : Int32)) hX dX1_spell_6 (by decide) ?_
  refine zw_iconst (v := (4 : Int32)) hX dX1_spell_9 (by decide) ?_
  refine zw_aload_n hX dX1_spell_10 rfl ?_
  refine zw_iconst (v := (0 : Int32)) hX dX1_spell_11 (by decide) ?_
  obtain ⟨v2, g, h⟩ := zb_some h
  refine zw_xi hX dX1_spell_12 g ?_
  refine zw_imul hX dX1_spell_13 ?_
  refine zw_iadd hX dX1_spell_14 ?_
  refine zw_aload_n hX dX1_spell_15 rfl ?_
  refine zw_bipush (v := (6 : Int32)) hX dX1_spell_16 (by decide) ?_
  obtain ⟨v3, g, h⟩ := zb_some h
  refine zw_xi hX dX1_spell_18 g ?_
  refine zw_if_le (tgt := 27) hX dX1_spell_19 (by decide) (fun c19 => ?_) (fun c19 => ?_)
  · rw [if_pos c19] at h
    refine zw_iconst (v := (0 : Int32)) hX dX1_spell_27 (by decide) ?_
    refine zw_sub (lv' := [(0, .ref a0), (1, .ref a1), (2, .int v1)]) (List.forall_mem_cons.mpr ⟨rfl, (List.forall_mem_cons.mpr ⟨rfl, (List.forall_mem_cons.mpr ⟨rfl, zs_nil⟩)⟩)⟩) ?_
    exact zt_X1_spell_J28 hX hr hR hd h
  · rw [if_neg c19] at h
    refine zw_bipush (v := (32 : Int32)) hX dX1_spell_22 (by decide) ?_
    refine zw_goto (tgt := 28) hX dX1_spell_24 (by decide) ?_
    refine zw_sub (lv' := [(0, .ref a0), (1, .ref a1), (2, .int v1)]) (List.forall_mem_cons.mpr ⟨rfl, (List.forall_mem_cons.mpr ⟨rfl, (List.forall_mem_cons.mpr ⟨rfl, zs_nil⟩)⟩)⟩) ?_
    exact zt_X1_spell_J28 hX hr hR hd h
set_option maxHeartbeats 4000000 in
set_option maxRecDepth 100000 in
theorem zt_X1_beginSaying_J56 {p : Program} {l : Launch} {e : Env} {R : Room} {s : State} {m : MethodId} {args : Array Value} {below : List Frame} {meth : Method} {c : Code} {V : zm_V} {mc ms d rc rs : Nat} (hX : zm_X p R s m args meth c RX1 "beginSaying" cX1_beginSaying 5 zk_E V mc ms) (hr : meth.sig.returnType = none) (hR : R.frames = d ∧ R.locals = 64 * d) (hd : 2 ≤ d) {N : Nat} {a0 : Nat} {i1 : Int32} {a2 : Nat} {a3 : Nat} {t0 : Int32} {out : (Unit × zm_S)} {S : zm_S} (h : zf_X1_beginSaying_J56 N a0 i1 a2 a3 t0 S = some out) : zw p l e R s m args below meth c (vx_MQ below (zm_Qc zk_E V (zo_v out)) (zm_XC zk_E V zo_x) args s mc ms (fun q => V.2.2.2.1 ≤ q)) 5 zk_E V mc ms 56 [(0, .ref a0), (1, .int i1), (2, .ref a2), (3, .ref a3)] [.int t0] S rc rs := by
  unfold zf_X1_beginSaying_J56 at h
  refine zw_istore hX dX1_beginSaying_56 (by decide) ?_
  refine zw_aload_n hX dX1_beginSaying_58 rfl ?_
  obtain ⟨v9, g, h⟩ := zb_some h
  refine zw_geti hX zl_X1_26 dX1_beginSaying_59 g ?_
  refine zw_iload hX dX1_beginSaying_62 rfl ?_
  refine zw_icmp_lt (tgt := 81) hX dX1_beginSaying_64 (by decide) (fun c64 => ?_) (fun c64 => ?_)
  · rw [if_pos c64] at h
    obtain rfl := Option.some.inj h
    exact zw_vret hX hr dX1_beginSaying_81 ⟨rfl, rfl⟩
  · rw [if_neg c64] at h
    refine zw_aload_n hX dX1_beginSaying_67 rfl ?_
    refine zw_iconst (v := (1 : Int32)) hX dX1_beginSaying_68 (by decide) ?_
    refine zw_iconst (v := (0 : Int32)) hX dX1_beginSaying_69 (by decide) ?_
    obtain ⟨S10, g, h⟩ := zb_some h
    refine zw_si hX dX1_beginSaying_70 g ?_
    refine zw_aload_n hX dX1_beginSaying_71 rfl ?_
    refine zw_aload_n hX dX1_beginSaying_72 rfl ?_
    obtain ⟨b11, g, h⟩ := zb_some h
    refine zw_getr hX zl_X1_19 dX1_beginSaying_73 g ?_
    refine zw_iload_n hX dX1_beginSaying_76 rfl ?_
    obtain ⟨b12, g, h⟩ := zb_some h
    refine zw_xr hX dX1_beginSaying_77 g ?_
    obtain ⟨r14, g, h⟩ := zb_some h
    refine zc_Sv (as := [.ref a3, .ref b12]) hX (zt_X1_spell (d := d - 1) (by omega) g) zl_X1_107 dX1_beginSaying_78 ⟨rfl, rfl, Nat.le_of_ble_eq_true rfl⟩ ⟨by omega, by omega⟩ ?_
    obtain rfl := Option.some.inj h
    exact zw_vret hX hr dX1_beginSaying_81 ⟨rfl, rfl⟩
set_option maxHeartbeats 4000000 in
set_option maxRecDepth 100000 in
theorem zt_X1_beginSaying_J54 {p : Program} {l : Launch} {e : Env} {R : Room} {s : State} {m : MethodId} {args : Array Value} {below : List Frame} {meth : Method} {c : Code} {V : zm_V} {mc ms d rc rs : Nat} (hX : zm_X p R s m args meth c RX1 "beginSaying" cX1_beginSaying 5 zk_E V mc ms) (hr : meth.sig.returnType = none) (hR : R.frames = d ∧ R.locals = 64 * d) (hd : 2 ≤ d) {N : Nat} {a0 : Nat} {i1 : Int32} {a2 : Nat} {a3 : Nat} {out : (Unit × zm_S)} {S : zm_S} (h : zf_X1_beginSaying_J54 N a0 i1 a2 a3 S = some out) : zw p l e R s m args below meth c (vx_MQ below (zm_Qc zk_E V (zo_v out)) (zm_XC zk_E V zo_x) args s mc ms (fun q => V.2.2.2.1 ≤ q)) 5 zk_E V mc ms 54 [(0, .ref a0), (1, .int i1), (2, .ref a2), (3, .ref a3)] [] S rc rs := by
  unfold zf_X1_beginSaying_J54 at h
  refine zw_bipush (v := (50 : Int32)) hX dX1_beginSaying_54 (by decide) ?_
  refine zw_sub (lv' := [(0, .ref a0), (1, .int i1), (2, .ref a2), (3, .ref a3)]) (List.forall_mem_cons.mpr ⟨rfl, (List.forall_mem_cons.mpr ⟨rfl, (List.forall_mem_cons.mpr ⟨rfl, (List.forall_mem_cons.mpr ⟨rfl, zs_nil⟩)⟩)⟩)⟩) ?_
  exact zt_X1_beginSaying_J56 hX hr hR hd h
set_option maxHeartbeats 4000000 in
set_option maxRecDepth 100000 in
theorem zt_X1_beginSaying {l : Launch} {V : zm_V} {N : Nat} {S : zm_S} {out : (Unit × zm_S)} {d : Nat} {a0 : Nat} {i1 : Int32} (hd : 2 ≤ d) (h : zf_X1_beginSaying N a0 i1 S = some out) : zm_Met l zk_E V yX1_beginSaying (.code yX1_beginSaying cX1_beginSaying 5 none) d [.ref a0, .int i1] S 0 0 (zo_v out) zo_x := by
  refine zm_of (by decide +kernel) (Nat.le_of_ble_eq_true rfl) ?_
  intro p e R s m args below meth c hRR hX hr hxt
  have hR : R.frames = d ∧ R.locals = 64 * d := by rw [hRR]; exact ⟨rfl, rfl⟩
  have hX : zm_X p R s m args meth c RX1 "beginSaying" cX1_beginSaying 5 zk_E V 0 0 := hX
  unfold zf_X1_beginSaying at h
  refine zw_sub (lv' := [(0, .ref a0), (1, .int i1)]) (List.forall_mem_cons.mpr ⟨rfl, (List.forall_mem_cons.mpr ⟨rfl, zs_nil⟩)⟩) ?_
  refine zw_aload_n hX dX1_beginSaying_0 rfl ?_
  obtain ⟨b1, g, h⟩ := zb_some h
  refine zw_getr hX zl_X1_13 dX1_beginSaying_1 g ?_
  refine zw_iload_n hX dX1_beginSaying_4 rfl ?_
  obtain ⟨b2, g, h⟩ := zb_some h
  refine zw_xr hX dX1_beginSaying_5 g ?_
  refine zw_astore_n hX dX1_beginSaying_6 (by decide) ?_
  refine zw_aload_n hX dX1_beginSaying_7 rfl ?_
  refine zw_iconst (v := (1 : Int32)) hX dX1_beginSaying_8 (by decide) ?_
  obtain ⟨v3, g, h⟩ := zb_some h
  refine zw_xi hX dX1_beginSaying_9 g ?_
  refine zw_iconst (v := (-1 : Int32)) hX dX1_beginSaying_10 (by decide) ?_
  refine zw_icmp_ne (tgt := 27) hX dX1_beginSaying_11 (by decide) (fun c11 => ?_) (fun c11 => ?_)
  · rw [if_neg c11] at h
    obtain rfl := Option.some.inj h
    exact zw_vret hX hr dX1_beginSaying_27 ⟨rfl, rfl⟩
  · rw [if_pos c11] at h
    refine zw_aload_n hX dX1_beginSaying_14 rfl ?_
    refine zw_iconst (v := (2 : Int32)) hX dX1_beginSaying_15 (by decide) ?_
    obtain ⟨v4, g, h⟩ := zb_some h
    refine zw_xi hX dX1_beginSaying_16 g ?_
    refine zw_iconst (v := (-1 : Int32)) hX dX1_beginSaying_17 (by decide) ?_
    refine zw_icmp_ne (tgt := 27) hX dX1_beginSaying_18 (by decide) (fun c18 => ?_) (fun c18 => ?_)
    · rw [if_neg c18] at h
      obtain rfl := Option.some.inj h
      exact zw_vret hX hr dX1_beginSaying_27 ⟨rfl, rfl⟩
    · rw [if_pos c18] at h
      refine zw_aload_n hX dX1_beginSaying_21 rfl ?_
      refine zw_iconst (v := (0 : Int32)) hX dX1_beginSaying_22 (by decide) ?_
      obtain ⟨v5, g, h⟩ := zb_some h
      refine zw_xi hX dX1_beginSaying_23 g ?_
      refine zw_if_ne (tgt := 28) hX dX1_beginSaying_24 (by decide) (fun c24 => ?_) (fun c24 => ?_)
      · rw [if_neg c24] at h
        refine zw_aload_n hX dX1_beginSaying_28 rfl ?_
        obtain ⟨b6, g, h⟩ := zb_some h
        refine zw_getr hX zl_X1_16 dX1_beginSaying_29 g ?_
        refine zw_iload_n hX dX1_beginSaying_32 rfl ?_
        obtain ⟨b7, g, h⟩ := zb_some h
        refine zw_xr hX dX1_beginSaying_33 g ?_
        refine zw_astore_n hX dX1_beginSaying_34 (by decide) ?_
        refine zw_aload_n hX dX1_beginSaying_35 rfl ?_
        refine zw_iconst (v := (0 : Int32)) hX dX1_beginSaying_36 (by decide) ?_
        obtain ⟨v8, g, h⟩ := zb_some h
        refine zw_xi hX dX1_beginSaying_37 g ?_
        refine zw_iconst (v := (2 : Int32)) hX dX1_beginSaying_38 (by decide) ?_
        refine zw_icmp_lt (tgt := 54) hX dX1_beginSaying_39 (by decide) (fun c39 => ?_) (fun c39 => ?_)
        · rw [if_pos c39] at h
          refine zw_sub (lv' := [(0, .ref a0), (1, .int i1), (2, .ref b2), (3, .ref b7)]) (List.forall_mem_cons.mpr ⟨rfl, (List.forall_mem_cons.mpr ⟨rfl, (List.forall_mem_cons.mpr ⟨rfl, (List.forall_mem_cons.mpr ⟨rfl, zs_nil⟩)⟩)⟩)⟩) ?_
          exact zt_X1_beginSaying_J54 hX hr hR hd h
        · rw [if_neg c39] at h
          refine zw_aload_n hX dX1_beginSaying_42 rfl ?_
          refine zw_bipush (v := (6 : Int32)) hX dX1_beginSaying_43 (by decide) ?_
          obtain ⟨v15, g, h⟩ := zb_some h
          refine zw_xi hX dX1_beginSaying_45 g ?_
          refine zw_if_ne (tgt := 54) hX dX1_beginSaying_46 (by decide) (fun c46 => ?_) (fun c46 => ?_)
          · rw [if_neg c46] at h
            refine zw_sub (lv' := [(0, .ref a0), (1, .int i1), (2, .ref b2), (3, .ref b7)]) (List.forall_mem_cons.mpr ⟨rfl, (List.forall_mem_cons.mpr ⟨rfl, (List.forall_mem_cons.mpr ⟨rfl, (List.forall_mem_cons.mpr ⟨rfl, zs_nil⟩)⟩)⟩)⟩) ?_
            exact zt_X1_beginSaying_J54 hX hr hR hd h
          · rw [if_pos c46] at h
            refine zw_bipush (v := (53 : Int32)) hX dX1_beginSaying_49 (by decide) ?_
            refine zw_goto (tgt := 56) hX dX1_beginSaying_51 (by decide) ?_
            refine zw_sub (lv' := [(0, .ref a0), (1, .int i1), (2, .ref b2), (3, .ref b7)]) (List.forall_mem_cons.mpr ⟨rfl, (List.forall_mem_cons.mpr ⟨rfl, (List.forall_mem_cons.mpr ⟨rfl, (List.forall_mem_cons.mpr ⟨rfl, zs_nil⟩)⟩)⟩)⟩) ?_
            exact zt_X1_beginSaying_J56 hX hr hR hd h
      · rw [if_pos c24] at h
        obtain rfl := Option.some.inj h
        exact zw_vret hX hr dX1_beginSaying_27 ⟨rfl, rfl⟩
set_option maxHeartbeats 4000000 in
set_option maxRecDepth 100000 in
theorem zt_J6_bitCount_0f7a4 {l : Launch} {V : zm_V} {N : Nat} {S : zm_S} {out : (Int32 × zm_S)} {d : Nat} {i0 : Int32} (hd : 1 ≤ d) (h : zf_J6_bitCount_0f7a4 N i0 S = some out) : zm_Met l zk_E V yJ6_bitCount_0f7a4 (.code yJ6_bitCount_0f7a4 cJ6_bitCount_0f7a4 1 (some .int)) d [.int i0] S 0 0 (zo_i out) zo_x := by
  refine zm_of (by decide +kernel) (Nat.le_of_ble_eq_true rfl) ?_
  intro p e R s m args below meth c hRR hX hr hxt
  have hR : R.frames = d ∧ R.locals = 64 * d := by rw [hRR]; exact ⟨rfl, rfl⟩
  have hX : zm_X p R s m args meth c RJ6 "bitCount" cJ6_bitCount_0f7a4 1 zk_E V 0 0 := hX
  unfold zf_J6_bitCount_0f7a4 at h
  refine zw_sub (lv' := [(0, .int i0)]) (List.forall_mem_cons.mpr ⟨rfl, zs_nil⟩) ?_
  refine zw_iload_n hX dJ6_bitCount_0f7a4_0 rfl ?_
  refine zw_iload_n hX dJ6_bitCount_0f7a4_1 rfl ?_
  refine zw_iconst (v := (1 : Int32)) hX dJ6_bitCount_0f7a4_2 (by decide) ?_
  refine zw_iushr hX dJ6_bitCount_0f7a4_3 ?_
  refine zw_ldcw (v := (1431655765 : Int32)) hX dJ6_bitCount_0f7a4_4 zl_J6_265 ?_
  refine zw_iand hX dJ6_bitCount_0f7a4_7 ?_
  refine zw_isub hX dJ6_bitCount_0f7a4_8 ?_
  refine zw_istore_n hX dJ6_bitCount_0f7a4_9 (by decide) ?_
  refine zw_iload_n hX dJ6_bitCount_0f7a4_10 rfl ?_
  refine zw_ldcw (v := (858993459 : Int32)) hX dJ6_bitCount_0f7a4_11 zl_J6_266 ?_
  refine zw_iand hX dJ6_bitCount_0f7a4_14 ?_
  refine zw_iload_n hX dJ6_bitCount_0f7a4_15 rfl ?_
  refine zw_iconst (v := (2 : Int32)) hX dJ6_bitCount_0f7a4_16 (by decide) ?_
  refine zw_iushr hX dJ6_bitCount_0f7a4_17 ?_
  refine zw_ldcw (v := (858993459 : Int32)) hX dJ6_bitCount_0f7a4_18 zl_J6_266 ?_
  refine zw_iand hX dJ6_bitCount_0f7a4_21 ?_
  refine zw_iadd hX dJ6_bitCount_0f7a4_22 ?_
  refine zw_istore_n hX dJ6_bitCount_0f7a4_23 (by decide) ?_
  refine zw_iload_n hX dJ6_bitCount_0f7a4_24 rfl ?_
  refine zw_iload_n hX dJ6_bitCount_0f7a4_25 rfl ?_
  refine zw_iconst (v := (4 : Int32)) hX dJ6_bitCount_0f7a4_26 (by decide) ?_
  refine zw_iushr hX dJ6_bitCount_0f7a4_27 ?_
  refine zw_iadd hX dJ6_bitCount_0f7a4_28 ?_
  refine zw_ldcw (v := (252645135 : Int32)) hX dJ6_bitCount_0f7a4_29 zl_J6_267 ?_
  refine zw_iand hX dJ6_bitCount_0f7a4_32 ?_
  refine zw_istore_n hX dJ6_bitCount_0f7a4_33 (by decide) ?_
  refine zw_iload_n hX dJ6_bitCount_0f7a4_34 rfl ?_
  refine zw_iload_n hX dJ6_bitCount_0f7a4_35 rfl ?_
  refine zw_bipush (v := (8 : Int32)) hX dJ6_bitCount_0f7a4_36 (by decide) ?_
  refine zw_iushr hX dJ6_bitCount_0f7a4_38 ?_
  refine zw_iadd hX dJ6_bitCount_0f7a4_39 ?_
  refine zw_istore_n hX dJ6_bitCount_0f7a4_40 (by decide) ?_
  refine zw_iload_n hX dJ6_bitCount_0f7a4_41 rfl ?_
  refine zw_iload_n hX dJ6_bitCount_0f7a4_42 rfl ?_
  refine zw_bipush (v := (16 : Int32)) hX dJ6_bitCount_0f7a4_43 (by decide) ?_
  refine zw_iushr hX dJ6_bitCount_0f7a4_45 ?_
  refine zw_iadd hX dJ6_bitCount_0f7a4_46 ?_
  refine zw_istore_n hX dJ6_bitCount_0f7a4_47 (by decide) ?_
  refine zw_iload_n hX dJ6_bitCount_0f7a4_48 rfl ?_
  refine zw_bipush (v := (63 : Int32)) hX dJ6_bitCount_0f7a4_49 (by decide) ?_
  refine zw_iand hX dJ6_bitCount_0f7a4_51 ?_
  obtain rfl := Option.some.inj h
  exact zw_iret hX hr dJ6_bitCount_0f7a4_52 rfl ⟨rfl, rfl⟩
set_option maxHeartbeats 4000000 in
set_option maxRecDepth 100000 in
theorem zt_X1_characterBit {l : Launch} {V : zm_V} {N : Nat} {S : zm_S} {out : (Int32 × zm_S)} {d : Nat} {i0 : Int32} {i1 : Int32} (hd : 2 ≤ d) (h : zf_X1_characterBit N i0 i1 S = some out) : zm_Met l zk_E V yX1_characterBit (.code yX1_characterBit cX1_characterBit 2 (some .int)) d [.int i0, .int i1] S 0 0 (zo_i out) zo_x := by
  refine zm_of (by decide +kernel) (Nat.le_of_ble_eq_true rfl) ?_
  intro p e R s m args below meth c hRR hX hr hxt
  have hR : R.frames = d ∧ R.locals = 64 * d := by rw [hRR]; exact ⟨rfl, rfl⟩
  have hX : zm_X p R s m args meth c RX1 "characterBit" cX1_characterBit 2 zk_E V 0 0 := hX
  unfold zf_X1_characterBit at h
  refine zw_sub (lv' := [(0, .int i0), (1, .int i1)]) (List.forall_mem_cons.mpr ⟨rfl, (List.forall_mem_cons.mpr ⟨rfl, zs_nil⟩)⟩) ?_
  refine zw_iload_n hX dX1_characterBit_0 rfl ?_
  refine zw_if_ne (tgt := 6) hX dX1_characterBit_1 (by decide) (fun c1 => ?_) (fun c1 => ?_)
  · rw [if_neg c1] at h
    refine zw_iload_n hX dX1_characterBit_6 rfl ?_
    refine zw_bipush (v := (8 : Int32)) hX dX1_characterBit_7 (by decide) ?_
    refine zw_icmp_gt (tgt := 20) hX dX1_characterBit_9 (by decide) (fun c9 => ?_) (fun c9 => ?_)
    · rw [if_pos c9] at h
      refine zw_iload_n hX dX1_characterBit_20 rfl ?_
      refine zw_bipush (v := (9 : Int32)) hX dX1_characterBit_21 (by decide) ?_
      refine zw_icmp_ne (tgt := 35) hX dX1_characterBit_23 (by decide) (fun c23 => ?_) (fun c23 => ?_)
      · rw [if_neg c23] at h
        refine zw_iconst (v := (1 : Int32)) hX dX1_characterBit_35 (by decide) ?_
        obtain rfl := Option.some.inj h
        exact zw_iret hX hr dX1_characterBit_36 rfl ⟨rfl, rfl⟩
      · rw [if_pos c23] at h
        refine zw_iload_n hX dX1_characterBit_26 rfl ?_
        obtain ⟨r2, g, h⟩ := zb_some h
        refine zc_Si (as := [.int i0]) hX (zt_J6_bitCount_0f7a4 (d := d - 1) (by omega) g) zl_X1_119 dX1_characterBit_27 ⟨rfl, rfl, Nat.le_of_ble_eq_true rfl⟩ ⟨by omega, by omega⟩ ?_
        refine zw_iconst (v := (1 : Int32)) hX dX1_characterBit_30 (by decide) ?_
        refine zw_iand hX dX1_characterBit_31 ?_
        refine zw_goto (tgt := 36) hX dX1_characterBit_32 (by decide) ?_
        obtain rfl := Option.some.inj h
        exact zw_iret hX hr dX1_characterBit_36 rfl ⟨rfl, rfl⟩
    · rw [if_neg c9] at h
      refine zw_iload_n hX dX1_characterBit_12 rfl ?_
      refine zw_iload_n hX dX1_characterBit_13 rfl ?_
      refine zw_iconst (v := (1 : Int32)) hX dX1_characterBit_14 (by decide) ?_
      refine zw_isub hX dX1_characterBit_15 ?_
      refine zw_ishr hX dX1_characterBit_16 ?_
      refine zw_iconst (v := (1 : Int32)) hX dX1_characterBit_17 (by decide) ?_
      refine zw_iand hX dX1_characterBit_18 ?_
      obtain rfl := Option.some.inj h
      exact zw_iret hX hr dX1_characterBit_19 rfl ⟨rfl, rfl⟩
  · rw [if_pos c1] at h
    refine zw_iconst (v := (0 : Int32)) hX dX1_characterBit_4 (by decide) ?_
    obtain rfl := Option.some.inj h
    exact zw_iret hX hr dX1_characterBit_5 rfl ⟨rfl, rfl⟩
set_option maxHeartbeats 4000000 in
set_option maxRecDepth 100000 in
theorem zt_X1_saidBit {l : Launch} {V : zm_V} {N : Nat} {S : zm_S} {out : (Int32 × zm_S)} {d : Nat} {a0 : Nat} {i1 : Int32} (hd : 3 ≤ d) (h : zf_X1_saidBit N a0 i1 S = some out) : zm_Met l zk_E V yX1_saidBit (.code yX1_saidBit cX1_saidBit 3 (some .int)) d [.ref a0, .int i1] S 0 0 (zo_i out) zo_x := by
  refine zm_of (by decide +kernel) (Nat.le_of_ble_eq_true rfl) ?_
  intro p e R s m args below meth c hRR hX hr hxt
  have hR : R.frames = d ∧ R.locals = 64 * d := by rw [hRR]; exact ⟨rfl, rfl⟩
  have hX : zm_X p R s m args meth c RX1 "saidBit" cX1_saidBit 3 zk_E V 0 0 := hX
  unfold zf_X1_saidBit at h
  refine zw_sub (lv' := [(0, .ref a0), (1, .int i1)]) (List.forall_mem_cons.mpr ⟨rfl, (List.forall_mem_cons.mpr ⟨rfl, zs_nil⟩)⟩) ?_
  refine zw_aload_n hX dX1_saidBit_0 rfl ?_
  obtain ⟨b1, g, h⟩ := zb_some h
  refine zw_getr hX zl_X1_13 dX1_saidBit_1 g ?_
  refine zw_iload_n hX dX1_saidBit_4 rfl ?_
  obtain ⟨b2, g, h⟩ := zb_some h
  refine zw_xr hX dX1_saidBit_5 g ?_
  refine zw_iconst (v := (1 : Int32)) hX dX1_saidBit_6 (by decide) ?_
  obtain ⟨v3, g, h⟩ := zb_some h
  refine zw_xi hX dX1_saidBit_7 g ?_
  refine zw_istore_n hX dX1_saidBit_8 (by decide) ?_
  refine zw_aload_n hX dX1_saidBit_9 rfl ?_
  obtain ⟨b4, g, h⟩ := zb_some h
  refine zw_getr hX zl_X1_19 dX1_saidBit_10 g ?_
  refine zw_iload_n hX dX1_saidBit_13 rfl ?_
  obtain ⟨b5, g, h⟩ := zb_some h
  refine zw_xr hX dX1_saidBit_14 g ?_
  refine zw_iload_n hX dX1_saidBit_15 rfl ?_
  refine zw_bipush (v := (13 : Int32)) hX dX1_saidBit_16 (by decide) ?_
  refine zw_idiv hX dX1_saidBit_18 (by decide) ?_
  obtain ⟨v6, g, h⟩ := zb_some h
  refine zw_xi hX dX1_saidBit_19 g ?_
  refine zw_iload_n hX dX1_saidBit_20 rfl ?_
  refine zw_bipush (v := (13 : Int32)) hX dX1_saidBit_21 (by decide) ?_
  refine zw_irem hX dX1_saidBit_23 (by decide) ?_
  obtain ⟨r8, g, h⟩ := zb_some h
  refine zc_Si (as := [.int v6, .int (v3 - v3 / (13 : Int32) * (13 : Int32))]) hX (zt_X1_characterBit (d := d - 1) (by omega) g) zl_X1_115 dX1_saidBit_24 ⟨rfl, rfl, Nat.le_of_ble_eq_true rfl⟩ ⟨by omega, by omega⟩ ?_
  obtain rfl := Option.some.inj h
  exact zw_iret hX hr dX1_saidBit_27 rfl ⟨rfl, rfl⟩
set_option maxHeartbeats 4000000 in
set_option maxRecDepth 100000 in
theorem zt_X1_lineNow_J75 {p : Program} {l : Launch} {e : Env} {R : Room} {s : State} {m : MethodId} {args : Array Value} {below : List Frame} {meth : Method} {c : Code} {V : zm_V} {mc ms d rc rs : Nat} (hX : zm_X p R s m args meth c RX1 "lineNow" cX1_lineNow 5 zk_E V mc ms) (hr : meth.sig.returnType = (some .int)) (hR : R.frames = d ∧ R.locals = 64 * d) (hd : 4 ≤ d) {N : Nat} {k : Nat → Int32 → Int32 → zm_S → Option ((Int32 × zm_S) ⊕ ((Int32) × zm_S))} {a0 : Nat} {i1 : Int32} {i3 : Int32} {a4 : Nat} {res : (Int32 × zm_S) ⊕ ((Int32) × zm_S)} {out : (Int32 × zm_S)}   (hf : ∀ o, res = .inl o → o = out) (hk : ∀ (x1 : Int32) (S' : zm_S), res = .inr (x1, S') → zw p l e R s m args below meth c (vx_MQ below (zm_Qc zk_E V (zo_i out)) (zm_XC zk_E V zo_x) args s mc ms (fun q => V.2.2.2.1 ≤ q)) 5 zk_E V mc ms 108 [(1, .int x1)] [] S' rc rs) (hrec : ∀ (i1' : Int32) (i3' : Int32) (S : zm_S), k a0 i1' i3' S = some res → zw p l e R s m args below meth c (vx_MQ below (zm_Qc zk_E V (zo_i out)) (zm_XC zk_E V zo_x) args s mc ms (fun q => V.2.2.2.1 ≤ q)) 5 zk_E V mc ms 43 [(0, .ref a0), (1, .int i1'), (3, .int i3')] [] S rc rs) {S : zm_S} (h : zf_X1_lineNow_J75 N k a0 i1 i3 a4 S = some res) : zw p l e R s m args below meth c (vx_MQ below (zm_Qc zk_E V (zo_i out)) (zm_XC zk_E V zo_x) args s mc ms (fun q => V.2.2.2.1 ≤ q)) 5 zk_E V mc ms 75 [(0, .ref a0), (1, .int i1), (3, .int i3), (4, .ref a4)] [] S rc rs := by
  unfold zf_X1_lineNow_J75 at h
  refine zw_aload hX dX1_lineNow_75 rfl ?_
  refine zw_bipush (v := (9 : Int32)) hX dX1_lineNow_77 (by decide) ?_
  obtain ⟨v9, g, h⟩ := zb_some h
  refine zw_xi hX dX1_lineNow_79 g ?_
  refine zw_iconst (v := (-1 : Int32)) hX dX1_lineNow_80 (by decide) ?_
  refine zw_icmp_eq (tgt := 102) hX dX1_lineNow_81 (by decide) (fun c81 => ?_) (fun c81 => ?_)
  · rw [if_pos c81] at h
    refine zw_iinc (v := (i3 + (1 : Int32))) hX dX1_lineNow_102 rfl rfl (by decide) ?_
    refine zw_goto (tgt := 43) hX dX1_lineNow_105 (by decide) ?_
    refine zw_sub (lv' := [(0, .ref a0), (1, .int i1), (3, .int (i3 + (1 : Int32)))]) (List.forall_mem_cons.mpr ⟨rfl, (List.forall_mem_cons.mpr ⟨rfl, (List.forall_mem_cons.mpr ⟨rfl, zs_nil⟩)⟩)⟩) ?_
    exact hrec _ _ _ h
  · rw [if_neg c81] at h
    refine zw_aload hX dX1_lineNow_84 rfl ?_
    refine zw_bipush (v := (8 : Int32)) hX dX1_lineNow_86 (by decide) ?_
    obtain ⟨v10, g, h⟩ := zb_some h
    refine zw_xi hX dX1_lineNow_88 g ?_
    refine zw_aload hX dX1_lineNow_89 rfl ?_
    refine zw_bipush (v := (9 : Int32)) hX dX1_lineNow_91 (by decide) ?_
    obtain ⟨v11, g, h⟩ := zb_some h
    refine zw_xi hX dX1_lineNow_93 g ?_
    obtain ⟨r13, g, h⟩ := zb_some h
    refine zc_Si (as := [.int v10, .int v11]) hX (zt_X1_characterBit (d := d - 1) (by omega) g) zl_X1_115 dX1_lineNow_94 ⟨rfl, rfl, Nat.le_of_ble_eq_true rfl⟩ ⟨by omega, by omega⟩ ?_
    refine zw_if_ne (tgt := 102) hX dX1_lineNow_97 (by decide) (fun c97 => ?_) (fun c97 => ?_)
    · rw [if_neg c97] at h
      refine zw_iinc (v := (i3 + (1 : Int32))) hX dX1_lineNow_102 rfl rfl (by decide) ?_
      refine zw_goto (tgt := 43) hX dX1_lineNow_105 (by decide) ?_
      refine zw_sub (lv' := [(0, .ref a0), (1, .int i1), (3, .int (i3 + (1 : Int32)))]) (List.forall_mem_cons.mpr ⟨rfl, (List.forall_mem_cons.mpr ⟨rfl, (List.forall_mem_cons.mpr ⟨rfl, zs_nil⟩)⟩)⟩) ?_
      exact hrec _ _ _ h
    · rw [if_pos c97] at h
      refine zw_iconst (v := (0 : Int32)) hX dX1_lineNow_100 (by decide) ?_
      refine zw_istore_n hX dX1_lineNow_101 (by decide) ?_
      refine zw_iinc (v := (i3 + (1 : Int32))) hX dX1_lineNow_102 rfl rfl (by decide) ?_
      refine zw_goto (tgt := 43) hX dX1_lineNow_105 (by decide) ?_
      refine zw_sub (lv' := [(0, .ref a0), (1, .int (0 : Int32)), (3, .int (i3 + (1 : Int32)))]) (List.forall_mem_cons.mpr ⟨rfl, (List.forall_mem_cons.mpr ⟨rfl, (List.forall_mem_cons.mpr ⟨rfl, zs_nil⟩)⟩)⟩) ?_
      exact hrec _ _ _ h
set_option maxHeartbeats 4000000 in
set_option maxRecDepth 100000 in
theorem zt_X1_lineNow_L43 {p : Program} {l : Launch} {e : Env} {R : Room} {s : State} {m : MethodId} {args : Array Value} {below : List Frame} {meth : Method} {c : Code} {V : zm_V} {mc ms d rc rs : Nat} (hX : zm_X p R s m args meth c RX1 "lineNow" cX1_lineNow 5 zk_E V mc ms) (hr : meth.sig.returnType = (some .int)) (hR : R.frames = d ∧ R.locals = 64 * d) (hd : 4 ≤ d) {N : Nat} {res : (Int32 × zm_S) ⊕ ((Int32) × zm_S)} {out : (Int32 × zm_S)} (a0 : Nat) (hf : ∀ o, res = .inl o → o = out) (hk : ∀ (x1 : Int32) (S' : zm_S), res = .inr (x1, S') → zw p l e R s m args below meth c (vx_MQ below (zm_Qc zk_E V (zo_i out)) (zm_XC zk_E V zo_x) args s mc ms (fun q => V.2.2.2.1 ≤ q)) 5 zk_E V mc ms 108 [(1, .int x1)] [] S' rc rs) : ∀ (n : Nat) (i1 : Int32) (i3 : Int32) (S : zm_S), zf_X1_lineNow_L43 N n a0 i1 i3 S = some res → zw p l e R s m args below meth c (vx_MQ below (zm_Qc zk_E V (zo_i out)) (zm_XC zk_E V zo_x) args s mc ms (fun q => V.2.2.2.1 ≤ q)) 5 zk_E V mc ms 43 [(0, .ref a0), (1, .int i1), (3, .int i3)] [] S rc rs := by
  intro n
  induction n with
  | zero => intro i1 i3 S h; cases h
  | succ n ih =>
    intro i1 i3 S h
    rw [zf_X1_lineNow_L43] at h
    refine zw_iload_n hX dX1_lineNow_43 rfl ?_
    refine zw_bipush (v := (8 : Int32)) hX dX1_lineNow_44 (by decide) ?_
    refine zw_icmp_ge (tgt := 108) hX dX1_lineNow_46 (by decide) (fun c46 => ?_) (fun c46 => ?_)
    · rw [if_pos c46] at h
      refine zw_sub (lv' := [(1, .int i1)]) (List.forall_mem_cons.mpr ⟨rfl, zs_nil⟩) ?_
      exact hk _ _ (Option.some.inj h).symm
    · rw [if_neg c46] at h
      refine zw_aload_n hX dX1_lineNow_49 rfl ?_
      obtain ⟨b6, g, h⟩ := zb_some h
      refine zw_getr hX zl_X1_13 dX1_lineNow_50 g ?_
      refine zw_iload_n hX dX1_lineNow_53 rfl ?_
      obtain ⟨b7, g, h⟩ := zb_some h
      refine zw_xr hX dX1_lineNow_54 g ?_
      refine zw_astore hX dX1_lineNow_55 (by decide) ?_
      refine zw_aload hX dX1_lineNow_57 rfl ?_
      refine zw_iconst (v := (1 : Int32)) hX dX1_lineNow_59 (by decide) ?_
      obtain ⟨v8, g, h⟩ := zb_some h
      refine zw_xi hX dX1_lineNow_60 g ?_
      refine zw_iconst (v := (-1 : Int32)) hX dX1_lineNow_61 (by decide) ?_
      refine zw_icmp_eq (tgt := 75) hX dX1_lineNow_62 (by decide) (fun c62 => ?_) (fun c62 => ?_)
      · rw [if_pos c62] at h
        refine zw_sub (lv' := [(0, .ref a0), (1, .int i1), (3, .int i3), (4, .ref b7)]) (List.forall_mem_cons.mpr ⟨rfl, (List.forall_mem_cons.mpr ⟨rfl, (List.forall_mem_cons.mpr ⟨rfl, (List.forall_mem_cons.mpr ⟨rfl, zs_nil⟩)⟩)⟩)⟩) ?_
        exact zt_X1_lineNow_J75 hX hr hR hd hf hk ih h
      · rw [if_neg c62] at h
        refine zw_aload_n hX dX1_lineNow_65 rfl ?_
        refine zw_iload_n hX dX1_lineNow_66 rfl ?_
        obtain ⟨_, gi, h⟩ := zb_some h
        obtain ⟨r15, g, h⟩ := zb_some h
        refine zc_Vi (as := [.int i3]) hX gi (zt_X1_saidBit (d := d - 1) (by omega) g) zl_X1_111 rfl dX1_lineNow_67 ⟨rfl, rfl, Nat.le_of_ble_eq_true rfl⟩ ⟨by omega, by omega⟩ ?_
        refine zw_if_ne (tgt := 75) hX dX1_lineNow_70 (by decide) (fun c70 => ?_) (fun c70 => ?_)
        · rw [if_neg c70] at h
          refine zw_sub (lv' := [(0, .ref a0), (1, .int i1), (3, .int i3), (4, .ref b7)]) (List.forall_mem_cons.mpr ⟨rfl, (List.forall_mem_cons.mpr ⟨rfl, (List.forall_mem_cons.mpr ⟨rfl, (List.forall_mem_cons.mpr ⟨rfl, zs_nil⟩)⟩)⟩)⟩) ?_
          exact zt_X1_lineNow_J75 hX hr hR hd hf hk ih h
        · rw [if_pos c70] at h
          refine zw_iconst (v := (0 : Int32)) hX dX1_lineNow_73 (by decide) ?_
          refine zw_istore_n hX dX1_lineNow_74 (by decide) ?_
          refine zw_sub (lv' := [(0, .ref a0), (1, .int (0 : Int32)), (3, .int i3), (4, .ref b7)]) (List.forall_mem_cons.mpr ⟨rfl, (List.forall_mem_cons.mpr ⟨rfl, (List.forall_mem_cons.mpr ⟨rfl, (List.forall_mem_cons.mpr ⟨rfl, zs_nil⟩)⟩)⟩)⟩) ?_
          exact zt_X1_lineNow_J75 hX hr hR hd hf hk ih h
set_option maxHeartbeats 4000000 in
set_option maxRecDepth 100000 in
theorem zt_X1_lineNow_J41 {p : Program} {l : Launch} {e : Env} {R : Room} {s : State} {m : MethodId} {args : Array Value} {below : List Frame} {meth : Method} {c : Code} {V : zm_V} {mc ms d rc rs : Nat} (hX : zm_X p R s m args meth c RX1 "lineNow" cX1_lineNow 5 zk_E V mc ms) (hr : meth.sig.returnType = (some .int)) (hR : R.frames = d ∧ R.locals = 64 * d) (hd : 4 ≤ d) {N : Nat} {a0 : Nat} {i1 : Int32} {out : (Int32 × zm_S)} {S : zm_S} (h : zf_X1_lineNow_J41 N a0 i1 S = some out) : zw p l e R s m args below meth c (vx_MQ below (zm_Qc zk_E V (zo_i out)) (zm_XC zk_E V zo_x) args s mc ms (fun q => V.2.2.2.1 ≤ q)) 5 zk_E V mc ms 41 [(0, .ref a0), (1, .int i1)] [] S rc rs := by
  unfold zf_X1_lineNow_J41 at h
  refine zw_iconst (v := (0 : Int32)) hX dX1_lineNow_41 (by decide) ?_
  refine zw_istore_n hX dX1_lineNow_42 (by decide) ?_
  obtain ⟨r, g, h⟩ := zb_some h
  refine zw_sub (lv' := [(0, .ref a0), (1, .int i1), (3, .int (0 : Int32))]) (List.forall_mem_cons.mpr ⟨rfl, (List.forall_mem_cons.mpr ⟨rfl, (List.forall_mem_cons.mpr ⟨rfl, zs_nil⟩)⟩)⟩) ?_
  refine zt_X1_lineNow_L43 hX hr hR hd (res := r) (out := out) a0 ?_ ?_ N _ _ _ g
  · intro o ho
    subst ho
    exact Option.some.inj h
  · intro v17 S16 hx
    subst hx
    try dsimp only at h
    refine zw_iload_n hX dX1_lineNow_108 rfl ?_
    obtain rfl := Option.some.inj h
    exact zw_iret hX hr dX1_lineNow_109 rfl ⟨rfl, rfl⟩
set_option maxHeartbeats 4000000 in
set_option maxRecDepth 100000 in
theorem zt_X1_lineNow {l : Launch} {V : zm_V} {N : Nat} {S : zm_S} {out : (Int32 × zm_S)} {d : Nat} {a0 : Nat} (hd : 4 ≤ d) (h : zf_X1_lineNow N a0 S = some out) : zm_Met l zk_E V yX1_lineNow (.code yX1_lineNow cX1_lineNow 5 (some .int)) d [.ref a0] S 0 0 (zo_i out) zo_x := by
  refine zm_of (by decide +kernel) (Nat.le_of_ble_eq_true rfl) ?_
  intro p e R s m args below meth c hRR hX hr hxt
  have hR : R.frames = d ∧ R.locals = 64 * d := by rw [hRR]; exact ⟨rfl, rfl⟩
  have hX : zm_X p R s m args meth c RX1 "lineNow" cX1_lineNow 5 zk_E V 0 0 := hX
  unfold zf_X1_lineNow at h
  refine zw_sub (lv' := [(0, .ref a0)]) (List.forall_mem_cons.mpr ⟨rfl, zs_nil⟩) ?_
  refine zw_iconst (v := (1 : Int32)) hX dX1_lineNow_0 (by decide) ?_
  refine zw_istore_n hX dX1_lineNow_1 (by decide) ?_
  refine zw_aload_n hX dX1_lineNow_2 rfl ?_
  obtain ⟨v1, g, h⟩ := zb_some h
  refine zw_geti hX zl_X1_60 dX1_lineNow_3 g ?_
  refine zw_aload_n hX dX1_lineNow_6 rfl ?_
  obtain ⟨b2, g, h⟩ := zb_some h
  refine zw_getr hX zl_X1_30 dX1_lineNow_7 g ?_
  obtain ⟨v3, g, h⟩ := zb_some h
  refine zw_len hX dX1_lineNow_10 g ?_
  by_cases c0 : v3 = 0
  · rw [if_pos c0] at h
    cases h
  rw [if_neg c0] at h
  refine zw_irem hX dX1_lineNow_11 c0 ?_
  refine zw_istore_n hX dX1_lineNow_12 (by decide) ?_
  refine zw_aload_n hX dX1_lineNow_13 rfl ?_
  obtain ⟨b4, g, h⟩ := zb_some h
  refine zw_getr hX zl_X1_30 dX1_lineNow_14 g ?_
  refine zw_iload_n hX dX1_lineNow_17 rfl ?_
  obtain ⟨v5, g, h⟩ := zb_some h
  refine zw_xz hX dX1_lineNow_18 g ?_
  refine zw_if_eq (tgt := 41) hX dX1_lineNow_19 (by decide) (fun c19 => ?_) (fun c19 => ?_)
  · rw [if_pos c19] at h
    refine zw_sub (lv' := [(0, .ref a0), (1, .int (1 : Int32))]) (List.forall_mem_cons.mpr ⟨rfl, (List.forall_mem_cons.mpr ⟨rfl, zs_nil⟩)⟩) ?_
    exact zt_X1_lineNow_J41 hX hr hR hd h
  · rw [if_neg c19] at h
    refine zw_aload_n hX dX1_lineNow_22 rfl ?_
    obtain ⟨b18, g, h⟩ := zb_some h
    refine zw_getr hX zl_X1_30 dX1_lineNow_23 g ?_
    refine zw_iload_n hX dX1_lineNow_26 rfl ?_
    refine zw_iconst (v := (0 : Int32)) hX dX1_lineNow_27 (by decide) ?_
    obtain ⟨S19, g, h⟩ := zb_some h
    refine zw_sz hX dX1_lineNow_28 g ?_
    refine zw_aload_n hX dX1_lineNow_29 rfl ?_
    refine zw_dup hX dX1_lineNow_30 rfl ?_
    obtain ⟨v20, g, h⟩ := zb_some h
    refine zw_geti hX zl_X1_63 dX1_lineNow_31 g ?_
    refine zw_iconst (v := (1 : Int32)) hX dX1_lineNow_34 (by decide) ?_
    refine zw_isub hX dX1_lineNow_35 ?_
    obtain ⟨S21, g, h⟩ := zb_some h
    refine zw_putv hX zl_X1_63 zt_1_8 dX1_lineNow_36 rfl rfl g ?_
    refine zw_iconst (v := (0 : Int32)) hX dX1_lineNow_39 (by decide) ?_
    refine zw_istore_n hX dX1_lineNow_40 (by decide) ?_
    refine zw_sub (lv' := [(0, .ref a0), (1, .int (0 : Int32))]) (List.forall_mem_cons.mpr ⟨rfl, (List.forall_mem_cons.mpr ⟨rfl, zs_nil⟩)⟩) ?_
    exact zt_X1_lineNow_J41 hX hr hR hd h
set_option maxHeartbeats 4000000 in
set_option maxRecDepth 100000 in
theorem zt_X1_goOnSaying_J40 {p : Program} {l : Launch} {e : Env} {R : Room} {s : State} {m : MethodId} {args : Array Value} {below : List Frame} {meth : Method} {c : Code} {V : zm_V} {mc ms d rc rs : Nat} (hX : zm_X p R s m args meth c RX1 "goOnSaying" cX1_goOnSaying 5 zk_E V mc ms) (hr : meth.sig.returnType = none) (hR : R.frames = d ∧ R.locals = 64 * d) (hd : 4 ≤ d) {N : Nat} {a0 : Nat} {i1 : Int32} {a3 : Nat} {out : (Unit × zm_S)} {S : zm_S} (h : zf_X1_goOnSaying_J40 N a0 i1 a3 S = some out) : zw p l e R s m args below meth c (vx_MQ below (zm_Qc zk_E V (zo_v out)) (zm_XC zk_E V zo_x) args s mc ms (fun q => V.2.2.2.1 ≤ q)) 5 zk_E V mc ms 40 [(0, .ref a0), (1, .int i1), (3, .ref a3)] [] S rc rs := by
  unfold zf_X1_goOnSaying_J40 at h
  refine zw_aload_n hX dX1_goOnSaying_40 rfl ?_
  refine zw_iconst (v := (1 : Int32)) hX dX1_goOnSaying_41 (by decide) ?_
  refine zw_dup2 hX dX1_goOnSaying_42 rfl rfl ?_
  obtain ⟨v4, g, h⟩ := zb_some h
  refine zw_xi hX dX1_goOnSaying_43 g ?_
  refine zw_iconst (v := (1 : Int32)) hX dX1_goOnSaying_44 (by decide) ?_
  refine zw_iadd hX dX1_goOnSaying_45 ?_
  obtain ⟨S5, g, h⟩ := zb_some h
  refine zw_si hX dX1_goOnSaying_46 g ?_
  refine zw_bipush (v := (7 : Int32)) hX dX1_goOnSaying_47 (by decide) ?_
  refine zw_aload_n hX dX1_goOnSaying_49 rfl ?_
  obtain ⟨b6, g, h⟩ := zb_some h
  refine zw_getr hX zl_X1_16 dX1_goOnSaying_50 g ?_
  refine zw_iload_n hX dX1_goOnSaying_53 rfl ?_
  obtain ⟨b7, g, h⟩ := zb_some h
  refine zw_xr hX dX1_goOnSaying_54 g ?_
  refine zw_iconst (v := (4 : Int32)) hX dX1_goOnSaying_55 (by decide) ?_
  obtain ⟨v8, g, h⟩ := zb_some h
  refine zw_xi hX dX1_goOnSaying_56 g ?_
  refine zw_iadd hX dX1_goOnSaying_57 ?_
  refine zw_bipush (v := (13 : Int32)) hX dX1_goOnSaying_58 (by decide) ?_
  refine zw_imul hX dX1_goOnSaying_60 ?_
  refine zw_iconst (v := (2 : Int32)) hX dX1_goOnSaying_61 (by decide) ?_
  refine zw_isub hX dX1_goOnSaying_62 ?_
  refine zw_istore hX dX1_goOnSaying_63 (by decide) ?_
  refine zw_aload_n hX dX1_goOnSaying_65 rfl ?_
  refine zw_iconst (v := (1 : Int32)) hX dX1_goOnSaying_66 (by decide) ?_
  obtain ⟨v9, g, h⟩ := zb_some h
  refine zw_xi hX dX1_goOnSaying_67 g ?_
  refine zw_iload hX dX1_goOnSaying_68 rfl ?_
  refine zw_icmp_lt (tgt := 100) hX dX1_goOnSaying_70 (by decide) (fun c70 => ?_) (fun c70 => ?_)
  · rw [if_pos c70] at h
    obtain rfl := Option.some.inj h
    exact zw_vret hX hr dX1_goOnSaying_100 ⟨rfl, rfl⟩
  · rw [if_neg c70] at h
    refine zw_aload_n hX dX1_goOnSaying_73 rfl ?_
    refine zw_iconst (v := (1 : Int32)) hX dX1_goOnSaying_74 (by decide) ?_
    refine zw_iconst (v := (-1 : Int32)) hX dX1_goOnSaying_75 (by decide) ?_
    obtain ⟨S10, g, h⟩ := zb_some h
    refine zw_si hX dX1_goOnSaying_76 g ?_
    refine zw_aload_n hX dX1_goOnSaying_77 rfl ?_
    refine zw_iconst (v := (2 : Int32)) hX dX1_goOnSaying_78 (by decide) ?_
    refine zw_aload_n hX dX1_goOnSaying_79 rfl ?_
    obtain ⟨v11, g, h⟩ := zb_some h
    refine zw_geti hX zl_X1_60 dX1_goOnSaying_80 g ?_
    refine zw_bipush (v := (28 : Int32)) hX dX1_goOnSaying_83 (by decide) ?_
    refine zw_iadd hX dX1_goOnSaying_85 ?_
    obtain ⟨S12, g, h⟩ := zb_some h
    refine zw_si hX dX1_goOnSaying_86 g ?_
    refine zw_aload_n hX dX1_goOnSaying_87 rfl ?_
    obtain ⟨b13, g, h⟩ := zb_some h
    refine zw_getr hX zl_X1_16 dX1_goOnSaying_88 g ?_
    refine zw_iload_n hX dX1_goOnSaying_91 rfl ?_
    obtain ⟨b14, g, h⟩ := zb_some h
    refine zw_xr hX dX1_goOnSaying_92 g ?_
    refine zw_bipush (v := (6 : Int32)) hX dX1_goOnSaying_93 (by decide) ?_
    refine zw_dup2 hX dX1_goOnSaying_95 rfl rfl ?_
    obtain ⟨v15, g, h⟩ := zb_some h
    refine zw_xi hX dX1_goOnSaying_96 g ?_
    refine zw_iconst (v := (1 : Int32)) hX dX1_goOnSaying_97 (by decide) ?_
    refine zw_iadd hX dX1_goOnSaying_98 ?_
    obtain ⟨S16, g, h⟩ := zb_some h
    refine zw_si hX dX1_goOnSaying_99 g ?_
    obtain rfl := Option.some.inj h
    exact zw_vret hX hr dX1_goOnSaying_100 ⟨rfl, rfl⟩
set_option maxHeartbeats 4000000 in
set_option maxRecDepth 100000 in
theorem zt_X1_goOnSaying {l : Launch} {V : zm_V} {N : Nat} {S : zm_S} {out : (Unit × zm_S)} {d : Nat} {a0 : Nat} {i1 : Int32} {i2 : Int32} (hd : 4 ≤ d) (h : zf_X1_goOnSaying N a0 i1 i2 S = some out) : zm_Met l zk_E V yX1_goOnSaying (.code yX1_goOnSaying cX1_goOnSaying 5 none) d [.ref a0, .int i1, .int i2] S 0 0 (zo_v out) zo_x := by
  refine zm_of (by decide +kernel) (Nat.le_of_ble_eq_true rfl) ?_
  intro p e R s m args below meth c hRR hX hr hxt
  have hR : R.frames = d ∧ R.locals = 64 * d := by rw [hRR]; exact ⟨rfl, rfl⟩
  have hX : zm_X p R s m args meth c RX1 "goOnSaying" cX1_goOnSaying 5 zk_E V 0 0 := hX
  unfold zf_X1_goOnSaying at h
  refine zw_sub (lv' := [(0, .ref a0), (1, .int i1), (2, .int i2)]) (List.forall_mem_cons.mpr ⟨rfl, (List.forall_mem_cons.mpr ⟨rfl, (List.forall_mem_cons.mpr ⟨rfl, zs_nil⟩)⟩)⟩) ?_
  refine zw_aload_n hX dX1_goOnSaying_0 rfl ?_
  obtain ⟨b1, g, h⟩ := zb_some h
  refine zw_getr hX zl_X1_13 dX1_goOnSaying_1 g ?_
  refine zw_iload_n hX dX1_goOnSaying_4 rfl ?_
  obtain ⟨b2, g, h⟩ := zb_some h
  refine zw_xr hX dX1_goOnSaying_5 g ?_
  refine zw_astore_n hX dX1_goOnSaying_6 (by decide) ?_
  refine zw_aload_n hX dX1_goOnSaying_7 rfl ?_
  refine zw_iconst (v := (1 : Int32)) hX dX1_goOnSaying_8 (by decide) ?_
  obtain ⟨v3, g, h⟩ := zb_some h
  refine zw_xi hX dX1_goOnSaying_9 g ?_
  refine zw_iconst (v := (-1 : Int32)) hX dX1_goOnSaying_10 (by decide) ?_
  refine zw_icmp_ne (tgt := 15) hX dX1_goOnSaying_11 (by decide) (fun c11 => ?_) (fun c11 => ?_)
  · rw [if_neg c11] at h
    refine zw_iload_n hX dX1_goOnSaying_15 rfl ?_
    refine zw_if_ne (tgt := 40) hX dX1_goOnSaying_16 (by decide) (fun c16 => ?_) (fun c16 => ?_)
    · rw [if_neg c16] at h
      refine zw_sub (lv' := [(0, .ref a0), (1, .int i1), (3, .ref b2)]) (List.forall_mem_cons.mpr ⟨rfl, (List.forall_mem_cons.mpr ⟨rfl, (List.forall_mem_cons.mpr ⟨rfl, zs_nil⟩)⟩)⟩) ?_
      exact zt_X1_goOnSaying_J40 hX hr hR hd h
    · rw [if_pos c16] at h
      refine zw_aload_n hX dX1_goOnSaying_19 rfl ?_
      refine zw_iload_n hX dX1_goOnSaying_20 rfl ?_
      obtain ⟨_, gi, h⟩ := zb_some h
      obtain ⟨r18, g, h⟩ := zb_some h
      refine zc_Vi (as := [.int i1]) hX gi (zt_X1_saidBit (d := d - 1) (by omega) g) zl_X1_111 rfl dX1_goOnSaying_21 ⟨rfl, rfl, Nat.le_of_ble_eq_true rfl⟩ ⟨by omega, by omega⟩ ?_
      refine zw_iconst (v := (1 : Int32)) hX dX1_goOnSaying_24 (by decide) ?_
      refine zw_icmp_ne (tgt := 40) hX dX1_goOnSaying_25 (by decide) (fun c25 => ?_) (fun c25 => ?_)
      · rw [if_neg c25] at h
        refine zw_sub (lv' := [(0, .ref a0), (1, .int i1), (3, .ref b2)]) (List.forall_mem_cons.mpr ⟨rfl, (List.forall_mem_cons.mpr ⟨rfl, (List.forall_mem_cons.mpr ⟨rfl, zs_nil⟩)⟩)⟩) ?_
        exact zt_X1_goOnSaying_J40 hX hr hR hd h
      · rw [if_pos c25] at h
        refine zw_aload_n hX dX1_goOnSaying_28 rfl ?_
        refine zw_iconst (v := (1 : Int32)) hX dX1_goOnSaying_29 (by decide) ?_
        refine zw_iconst (v := (-1 : Int32)) hX dX1_goOnSaying_30 (by decide) ?_
        obtain ⟨S19, g, h⟩ := zb_some h
        refine zw_si hX dX1_goOnSaying_31 g ?_
        refine zw_aload_n hX dX1_goOnSaying_32 rfl ?_
        refine zw_iconst (v := (5 : Int32)) hX dX1_goOnSaying_33 (by decide) ?_
        refine zw_dup2 hX dX1_goOnSaying_34 rfl rfl ?_
        obtain ⟨v20, g, h⟩ := zb_some h
        refine zw_xi hX dX1_goOnSaying_35 g ?_
        refine zw_iconst (v := (1 : Int32)) hX dX1_goOnSaying_36 (by decide) ?_
        refine zw_iadd hX dX1_goOnSaying_37 ?_
        obtain ⟨S21, g, h⟩ := zb_some h
        refine zw_si hX dX1_goOnSaying_38 g ?_
        obtain rfl := Option.some.inj h
        exact zw_vret hX hr dX1_goOnSaying_39 ⟨rfl, rfl⟩
  · rw [if_pos c11] at h
    obtain rfl := Option.some.inj h
    exact zw_vret hX hr dX1_goOnSaying_14 ⟨rfl, rfl⟩
set_option maxHeartbeats 4000000 in
set_option maxRecDepth 100000 in
theorem zt_X1_goOnAnswering {l : Launch} {V : zm_V} {N : Nat} {S : zm_S} {out : (Unit × zm_S)} {d : Nat} {a0 : Nat} {i1 : Int32} (hd : 1 ≤ d) (h : zf_X1_goOnAnswering N a0 i1 S = some out) : zm_Met l zk_E V yX1_goOnAnswering (.code yX1_goOnAnswering cX1_goOnAnswering 3 none) d [.ref a0, .int i1] S 0 0 (zo_v out) zo_x := by
  refine zm_of (by decide +kernel) (Nat.le_of_ble_eq_true rfl) ?_
  intro p e R s m args below meth c hRR hX hr hxt
  have hR : R.frames = d ∧ R.locals = 64 * d := by rw [hRR]; exact ⟨rfl, rfl⟩
  have hX : zm_X p R s m args meth c RX1 "goOnAnswering" cX1_goOnAnswering 3 zk_E V 0 0 := hX
  unfold zf_X1_goOnAnswering at h
  refine zw_sub (lv' := [(0, .ref a0), (1, .int i1)]) (List.forall_mem_cons.mpr ⟨rfl, (List.forall_mem_cons.mpr ⟨rfl, zs_nil⟩)⟩) ?_
  refine zw_aload_n hX dX1_goOnAnswering_0 rfl ?_
  obtain ⟨b1, g, h⟩ := zb_some h
  refine zw_getr hX zl_X1_13 dX1_goOnAnswering_1 g ?_
  refine zw_iload_n hX dX1_goOnAnswering_4 rfl ?_
  obtain ⟨b2, g, h⟩ := zb_some h
  refine zw_xr hX dX1_goOnAnswering_5 g ?_
  refine zw_astore_n hX dX1_goOnAnswering_6 (by decide) ?_
  refine zw_aload_n hX dX1_goOnAnswering_7 rfl ?_
  refine zw_bipush (v := (9 : Int32)) hX dX1_goOnAnswering_8 (by decide) ?_
  obtain ⟨v3, g, h⟩ := zb_some h
  refine zw_xi hX dX1_goOnAnswering_10 g ?_
  refine zw_iconst (v := (-1 : Int32)) hX dX1_goOnAnswering_11 (by decide) ?_
  refine zw_icmp_eq (tgt := 40) hX dX1_goOnAnswering_12 (by decide) (fun c12 => ?_) (fun c12 => ?_)
  · rw [if_pos c12] at h
    obtain rfl := Option.some.inj h
    exact zw_vret hX hr dX1_goOnAnswering_40 ⟨rfl, rfl⟩
  · rw [if_neg c12] at h
    refine zw_aload_n hX dX1_goOnAnswering_15 rfl ?_
    refine zw_bipush (v := (9 : Int32)) hX dX1_goOnAnswering_16 (by decide) ?_
    refine zw_aload_n hX dX1_goOnAnswering_18 rfl ?_
    refine zw_bipush (v := (9 : Int32)) hX dX1_goOnAnswering_19 (by decide) ?_
    obtain ⟨v4, g, h⟩ := zb_some h
    refine zw_xi hX dX1_goOnAnswering_21 g ?_
    refine zw_iconst (v := (1 : Int32)) hX dX1_goOnAnswering_22 (by decide) ?_
    refine zw_iadd hX dX1_goOnAnswering_23 ?_
    refine zw_bipush (v := (11 : Int32)) hX dX1_goOnAnswering_24 (by decide) ?_
    refine zw_icmp_ge (tgt := 38) hX dX1_goOnAnswering_26 (by decide) (fun c26 => ?_) (fun c26 => ?_)
    · rw [if_pos c26] at h
      refine zw_iconst (v := (-1 : Int32)) hX dX1_goOnAnswering_38 (by decide) ?_
      obtain ⟨S5, g, h⟩ := zb_some h
      refine zw_si hX dX1_goOnAnswering_39 g ?_
      obtain rfl := Option.some.inj h
      exact zw_vret hX hr dX1_goOnAnswering_40 ⟨rfl, rfl⟩
    · rw [if_neg c26] at h
      refine zw_aload_n hX dX1_goOnAnswering_29 rfl ?_
      refine zw_bipush (v := (9 : Int32)) hX dX1_goOnAnswering_30 (by decide) ?_
      obtain ⟨v6, g, h⟩ := zb_some h
      refine zw_xi hX dX1_goOnAnswering_32 g ?_
      refine zw_iconst (v := (1 : Int32)) hX dX1_goOnAnswering_33 (by decide) ?_
      refine zw_iadd hX dX1_goOnAnswering_34 ?_
      refine zw_goto (tgt := 39) hX dX1_goOnAnswering_35 (by decide) ?_
      obtain ⟨S7, g, h⟩ := zb_some h
      refine zw_si hX dX1_goOnAnswering_39 g ?_
      obtain rfl := Option.some.inj h
      exact zw_vret hX hr dX1_goOnAnswering_40 ⟨rfl, rfl⟩

