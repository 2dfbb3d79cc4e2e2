/-! ===== functions of methods, by program (wip/whole/tools/gen11.py) ===== -/
theorem dX7_takeOutCommon_0 : decode cX7_takeOutCommon 0 = .ok (.aload_n 0, 1) := by decide +kernel
theorem dX7_takeOutCommon_1 : decode cX7_takeOutCommon 1 = .ok (.getfield 89, 3) := by decide +kernel
theorem dX7_takeOutCommon_4 : decode cX7_takeOutCommon 4 = .ok (.ifCond .eq 4, 3) := by decide +kernel
theorem dX7_takeOutCommon_8 : decode cX7_takeOutCommon 8 = .ok (.aload_n 0, 1) := by decide +kernel
theorem dX7_takeOutCommon_9 : decode cX7_takeOutCommon 9 = .ok (.getfield 111, 3) := by decide +kernel
theorem dX7_takeOutCommon_12 : decode cX7_takeOutCommon 12 = .ok (.aload_n 0, 1) := by decide +kernel
theorem dX7_takeOutCommon_13 : decode cX7_takeOutCommon 13 = .ok (.getfield 114, 3) := by decide +kernel
theorem dX7_takeOutCommon_16 : decode cX7_takeOutCommon 16 = .ok (.invokestatic 154, 3) := by decide +kernel
theorem dX7_takeOutCommon_19 : decode cX7_takeOutCommon 19 = .ok (.lstore_n 1, 1) := by decide +kernel
theorem dX7_takeOutCommon_20 : decode cX7_takeOutCommon 20 = .ok (.lload_n 1, 1) := by decide +kernel
theorem dX7_takeOutCommon_21 : decode cX7_takeOutCommon 21 = .ok (.ldc2_w 148, 3) := by decide +kernel
theorem dX7_takeOutCommon_24 : decode cX7_takeOutCommon 24 = .ok (.lcmp, 1) := by decide +kernel
theorem dX7_takeOutCommon_25 : decode cX7_takeOutCommon 25 = .ok (.ifCond .ge 25, 3) := by decide +kernel
theorem dX7_takeOutCommon_50 : decode cX7_takeOutCommon 50 = .ok (.aload_n 0, 1) := by decide +kernel
theorem dX7_takeOutCommon_51 : decode cX7_takeOutCommon 51 = .ok (.getfield 114, 3) := by decide +kernel
theorem dX7_takeOutCommon_54 : decode cX7_takeOutCommon 54 = .ok (.lconst 0, 1) := by decide +kernel
theorem dX7_takeOutCommon_55 : decode cX7_takeOutCommon 55 = .ok (.lcmp, 1) := by decide +kernel
theorem dX7_takeOutCommon_56 : decode cX7_takeOutCommon 56 = .ok (.ifCond .ge 49, 3) := by decide +kernel
theorem dX7_takeOutCommon_105 : decode cX7_takeOutCommon 105 = .ok (.return_, 1) := by decide +kernel
theorem dX7_takeOutCommon_59 : decode cX7_takeOutCommon 59 = .ok (.aload_n 0, 1) := by decide +kernel
theorem dX7_takeOutCommon_60 : decode cX7_takeOutCommon 60 = .ok (.getfield 111, 3) := by decide +kernel
theorem dX7_takeOutCommon_63 : decode cX7_takeOutCommon 63 = .ok (.ldc2_w 152, 3) := by decide +kernel
theorem dX7_takeOutCommon_66 : decode cX7_takeOutCommon 66 = .ok (.lcmp, 1) := by decide +kernel
theorem dX7_takeOutCommon_67 : decode cX7_takeOutCommon 67 = .ok (.ifCond .eq 14, 3) := by decide +kernel
theorem dX7_takeOutCommon_81 : decode cX7_takeOutCommon 81 = .ok (.aload_n 0, 1) := by decide +kernel
theorem dX7_takeOutCommon_82 : decode cX7_takeOutCommon 82 = .ok (.iconst 2, 1) := by decide +kernel
theorem dX7_takeOutCommon_83 : decode cX7_takeOutCommon 83 = .ok (.putfield 89, 3) := by decide +kernel
theorem dX7_takeOutCommon_86 : decode cX7_takeOutCommon 86 = .ok (.return_, 1) := by decide +kernel
theorem dX7_takeOutCommon_70 : decode cX7_takeOutCommon 70 = .ok (.aload_n 0, 1) := by decide +kernel
theorem dX7_takeOutCommon_71 : decode cX7_takeOutCommon 71 = .ok (.getfield 114, 3) := by decide +kernel
theorem dX7_takeOutCommon_74 : decode cX7_takeOutCommon 74 = .ok (.ldc2_w 152, 3) := by decide +kernel
theorem dX7_takeOutCommon_77 : decode cX7_takeOutCommon 77 = .ok (.lcmp, 1) := by decide +kernel
theorem dX7_takeOutCommon_78 : decode cX7_takeOutCommon 78 = .ok (.ifCond .ne 9, 3) := by decide +kernel
theorem dX7_takeOutCommon_87 : decode cX7_takeOutCommon 87 = .ok (.aload_n 0, 1) := by decide +kernel
theorem dX7_takeOutCommon_88 : decode cX7_takeOutCommon 88 = .ok (.aload_n 0, 1) := by decide +kernel
theorem dX7_takeOutCommon_89 : decode cX7_takeOutCommon 89 = .ok (.getfield 111, 3) := by decide +kernel
theorem dX7_takeOutCommon_92 : decode cX7_takeOutCommon 92 = .ok (.lneg, 1) := by decide +kernel
theorem dX7_takeOutCommon_93 : decode cX7_takeOutCommon 93 = .ok (.putfield 111, 3) := by decide +kernel
theorem dX7_takeOutCommon_96 : decode cX7_takeOutCommon 96 = .ok (.aload_n 0, 1) := by decide +kernel
theorem dX7_takeOutCommon_97 : decode cX7_takeOutCommon 97 = .ok (.aload_n 0, 1) := by decide +kernel
theorem dX7_takeOutCommon_98 : decode cX7_takeOutCommon 98 = .ok (.getfield 114, 3) := by decide +kernel
theorem dX7_takeOutCommon_101 : decode cX7_takeOutCommon 101 = .ok (.lneg, 1) := by decide +kernel
theorem dX7_takeOutCommon_102 : decode cX7_takeOutCommon 102 = .ok (.putfield 114, 3) := by decide +kernel
theorem dX7_takeOutCommon_28 : decode cX7_takeOutCommon 28 = .ok (.aload_n 0, 1) := by decide +kernel
theorem dX7_takeOutCommon_29 : decode cX7_takeOutCommon 29 = .ok (.aload_n 0, 1) := by decide +kernel
theorem dX7_takeOutCommon_30 : decode cX7_takeOutCommon 30 = .ok (.getfield 111, 3) := by decide +kernel
theorem dX7_takeOutCommon_33 : decode cX7_takeOutCommon 33 = .ok (.lload_n 1, 1) := by decide +kernel
theorem dX7_takeOutCommon_34 : decode cX7_takeOutCommon 34 = .ok (.ldiv, 1) := by decide +kernel
theorem dX7_takeOutCommon_35 : decode cX7_takeOutCommon 35 = .ok (.lneg, 1) := by decide +kernel
theorem dX7_takeOutCommon_36 : decode cX7_takeOutCommon 36 = .ok (.putfield 111, 3) := by decide +kernel
theorem dX7_takeOutCommon_39 : decode cX7_takeOutCommon 39 = .ok (.aload_n 0, 1) := by decide +kernel
theorem dX7_takeOutCommon_40 : decode cX7_takeOutCommon 40 = .ok (.aload_n 0, 1) := by decide +kernel
theorem dX7_takeOutCommon_41 : decode cX7_takeOutCommon 41 = .ok (.getfield 114, 3) := by decide +kernel
theorem dX7_takeOutCommon_44 : decode cX7_takeOutCommon 44 = .ok (.lload_n 1, 1) := by decide +kernel
theorem dX7_takeOutCommon_45 : decode cX7_takeOutCommon 45 = .ok (.ldiv, 1) := by decide +kernel
theorem dX7_takeOutCommon_46 : decode cX7_takeOutCommon 46 = .ok (.lneg, 1) := by decide +kernel
theorem dX7_takeOutCommon_47 : decode cX7_takeOutCommon 47 = .ok (.putfield 114, 3) := by decide +kernel
theorem dX7_takeOutCommon_7 : decode cX7_takeOutCommon 7 = .ok (.return_, 1) := by decide +kernel
theorem dX7_reckonTerm_0 : decode cX7_reckonTerm 0 = .ok (.aload_n 0, 1) := by decide +kernel
theorem dX7_reckonTerm_1 : decode cX7_reckonTerm 1 = .ok (.iload_n 1, 1) := by decide +kernel
theorem dX7_reckonTerm_2 : decode cX7_reckonTerm 2 = .ok (.invokevirtual 139, 3) := by decide +kernel
theorem dX7_reckonTerm_5 : decode cX7_reckonTerm 5 = .ok (.iconst 0, 1) := by decide +kernel
theorem dX7_reckonTerm_6 : decode cX7_reckonTerm 6 = .ok (.istore_n 2, 1) := by decide +kernel
theorem dX7_reckonTerm_7 : decode cX7_reckonTerm 7 = .ok (.iload_n 2, 1) := by decide +kernel
theorem dX7_reckonTerm_8 : decode cX7_reckonTerm 8 = .ok (.bipush 120, 2) := by decide +kernel
theorem dX7_reckonTerm_10 : decode cX7_reckonTerm 10 = .ok (.if_icmp .ge 62, 3) := by decide +kernel
theorem dX7_reckonTerm_13 : decode cX7_reckonTerm 13 = .ok (.aload_n 0, 1) := by decide +kernel
theorem dX7_reckonTerm_14 : decode cX7_reckonTerm 14 = .ok (.getfield 89, 3) := by decide +kernel
theorem dX7_reckonTerm_17 : decode cX7_reckonTerm 17 = .ok (.ifCond .ne 55, 3) := by decide +kernel
theorem dX7_reckonTerm_20 : decode cX7_reckonTerm 20 = .ok (.aload_n 0, 1) := by decide +kernel
theorem dX7_reckonTerm_21 : decode cX7_reckonTerm 21 = .ok (.bipush 42, 2) := by decide +kernel
theorem dX7_reckonTerm_23 : decode cX7_reckonTerm 23 = .ok (.bipush 47, 2) := by decide +kernel
theorem dX7_reckonTerm_25 : decode cX7_reckonTerm 25 = .ok (.invokevirtual 135, 3) := by decide +kernel
theorem dX7_reckonTerm_28 : decode cX7_reckonTerm 28 = .ok (.ifCond .eq 44, 3) := by decide +kernel
theorem dX7_reckonTerm_31 : decode cX7_reckonTerm 31 = .ok (.aload_n 0, 1) := by decide +kernel
theorem dX7_reckonTerm_32 : decode cX7_reckonTerm 32 = .ok (.getfield 111, 3) := by decide +kernel
theorem dX7_reckonTerm_35 : decode cX7_reckonTerm 35 = .ok (.lstore_n 3, 1) := by decide +kernel
theorem dX7_reckonTerm_36 : decode cX7_reckonTerm 36 = .ok (.aload_n 0, 1) := by decide +kernel
theorem dX7_reckonTerm_37 : decode cX7_reckonTerm 37 = .ok (.getfield 114, 3) := by decide +kernel
theorem dX7_reckonTerm_40 : decode cX7_reckonTerm 40 = .ok (.lstore 5, 2) := by decide +kernel
theorem dX7_reckonTerm_42 : decode cX7_reckonTerm 42 = .ok (.aload_n 0, 1) := by decide +kernel
theorem dX7_reckonTerm_43 : decode cX7_reckonTerm 43 = .ok (.invokevirtual 103, 3) := by decide +kernel
theorem dX7_reckonTerm_46 : decode cX7_reckonTerm 46 = .ok (.istore 7, 2) := by decide +kernel
theorem dX7_reckonTerm_48 : decode cX7_reckonTerm 48 = .ok (.aload_n 0, 1) := by decide +kernel
theorem dX7_reckonTerm_49 : decode cX7_reckonTerm 49 = .ok (.iload_n 1, 1) := by decide +kernel
theorem dX7_reckonTerm_50 : decode cX7_reckonTerm 50 = .ok (.invokevirtual 139, 3) := by decide +kernel
theorem dX7_reckonTerm_53 : decode cX7_reckonTerm 53 = .ok (.aload_n 0, 1) := by decide +kernel
theorem dX7_reckonTerm_54 : decode cX7_reckonTerm 54 = .ok (.iload 7, 2) := by decide +kernel
theorem dX7_reckonTerm_56 : decode cX7_reckonTerm 56 = .ok (.lload_n 3, 1) := by decide +kernel
theorem dX7_reckonTerm_57 : decode cX7_reckonTerm 57 = .ok (.lload 5, 2) := by decide +kernel
theorem dX7_reckonTerm_59 : decode cX7_reckonTerm 59 = .ok (.invokevirtual 128, 3) := by decide +kernel
theorem dX7_reckonTerm_62 : decode cX7_reckonTerm 62 = .ok (.aload_n 0, 1) := by decide +kernel
theorem dX7_reckonTerm_63 : decode cX7_reckonTerm 63 = .ok (.invokevirtual 132, 3) := by decide +kernel
theorem dX7_reckonTerm_66 : decode cX7_reckonTerm 66 = .ok (.iinc 2 1, 3) := by decide +kernel
theorem dX7_reckonTerm_69 : decode cX7_reckonTerm 69 = .ok (.goto (-62), 3) := by decide +kernel
theorem dX7_reckonTerm_72 : decode cX7_reckonTerm 72 = .ok (.return_, 1) := by decide +kernel
theorem dX7_reckonSide_0 : decode cX7_reckonSide 0 = .ok (.aload_n 0, 1) := by decide +kernel
theorem dX7_reckonSide_1 : decode cX7_reckonSide 1 = .ok (.getfield 11, 3) := by decide +kernel
theorem dX7_reckonSide_4 : decode cX7_reckonSide 4 = .ok (.aload_n 0, 1) := by decide +kernel
theorem dX7_reckonSide_5 : decode cX7_reckonSide 5 = .ok (.getfield 96, 3) := by decide +kernel
theorem dX7_reckonSide_8 : decode cX7_reckonSide 8 = .ok (.iaload, 1) := by decide +kernel
theorem dX7_reckonSide_9 : decode cX7_reckonSide 9 = .ok (.bipush 45, 2) := by decide +kernel
theorem dX7_reckonSide_11 : decode cX7_reckonSide 11 = .ok (.if_icmp .ne 7, 3) := by decide +kernel
theorem dX7_reckonSide_18 : decode cX7_reckonSide 18 = .ok (.iconst 0, 1) := by decide +kernel
theorem dX7_reckonSide_19 : decode cX7_reckonSide 19 = .ok (.istore_n 2, 1) := by decide +kernel
theorem dX7_reckonSide_20 : decode cX7_reckonSide 20 = .ok (.iload_n 2, 1) := by decide +kernel
theorem dX7_reckonSide_21 : decode cX7_reckonSide 21 = .ok (.ifCond .eq 8, 3) := by decide +kernel
theorem dX7_reckonSide_29 : decode cX7_reckonSide 29 = .ok (.aload_n 0, 1) := by decide +kernel
theorem dX7_reckonSide_30 : decode cX7_reckonSide 30 = .ok (.iload_n 1, 1) := by decide +kernel
theorem dX7_reckonSide_31 : decode cX7_reckonSide 31 = .ok (.invokevirtual 125, 3) := by decide +kernel
theorem dX7_reckonSide_34 : decode cX7_reckonSide 34 = .ok (.iload_n 2, 1) := by decide +kernel
theorem dX7_reckonSide_35 : decode cX7_reckonSide 35 = .ok (.ifCond .eq 15, 3) := by decide +kernel
theorem dX7_reckonSide_50 : decode cX7_reckonSide 50 = .ok (.iconst 0, 1) := by decide +kernel
theorem dX7_reckonSide_51 : decode cX7_reckonSide 51 = .ok (.istore_n 3, 1) := by decide +kernel
theorem dX7_reckonSide_52 : decode cX7_reckonSide 52 = .ok (.iload_n 3, 1) := by decide +kernel
theorem dX7_reckonSide_53 : decode cX7_reckonSide 53 = .ok (.bipush 120, 2) := by decide +kernel
theorem dX7_reckonSide_55 : decode cX7_reckonSide 55 = .ok (.if_icmp .ge 64, 3) := by decide +kernel
theorem dX7_reckonSide_58 : decode cX7_reckonSide 58 = .ok (.aload_n 0, 1) := by decide +kernel
theorem dX7_reckonSide_59 : decode cX7_reckonSide 59 = .ok (.getfield 89, 3) := by decide +kernel
theorem dX7_reckonSide_62 : decode cX7_reckonSide 62 = .ok (.ifCond .ne 57, 3) := by decide +kernel
theorem dX7_reckonSide_65 : decode cX7_reckonSide 65 = .ok (.aload_n 0, 1) := by decide +kernel
theorem dX7_reckonSide_66 : decode cX7_reckonSide 66 = .ok (.bipush 43, 2) := by decide +kernel
theorem dX7_reckonSide_68 : decode cX7_reckonSide 68 = .ok (.bipush 45, 2) := by decide +kernel
theorem dX7_reckonSide_70 : decode cX7_reckonSide 70 = .ok (.invokevirtual 135, 3) := by decide +kernel
theorem dX7_reckonSide_73 : decode cX7_reckonSide 73 = .ok (.ifCond .eq 46, 3) := by decide +kernel
theorem dX7_reckonSide_76 : decode cX7_reckonSide 76 = .ok (.aload_n 0, 1) := by decide +kernel
theorem dX7_reckonSide_77 : decode cX7_reckonSide 77 = .ok (.getfield 111, 3) := by decide +kernel
theorem dX7_reckonSide_80 : decode cX7_reckonSide 80 = .ok (.lstore 4, 2) := by decide +kernel
theorem dX7_reckonSide_82 : decode cX7_reckonSide 82 = .ok (.aload_n 0, 1) := by decide +kernel
theorem dX7_reckonSide_83 : decode cX7_reckonSide 83 = .ok (.getfield 114, 3) := by decide +kernel
theorem dX7_reckonSide_86 : decode cX7_reckonSide 86 = .ok (.lstore 6, 2) := by decide +kernel
theorem dX7_reckonSide_88 : decode cX7_reckonSide 88 = .ok (.aload_n 0, 1) := by decide +kernel
theorem dX7_reckonSide_89 : decode cX7_reckonSide 89 = .ok (.invokevirtual 103, 3) := by decide +kernel
theorem dX7_reckonSide_92 : decode cX7_reckonSide 92 = .ok (.istore 8, 2) := by decide +kernel
theorem dX7_reckonSide_94 : decode cX7_reckonSide 94 = .ok (.aload_n 0, 1) := by decide +kernel
theorem dX7_reckonSide_95 : decode cX7_reckonSide 95 = .ok (.iload_n 1, 1) := by decide +kernel
theorem dX7_reckonSide_96 : decode cX7_reckonSide 96 = .ok (.invokevirtual 125, 3) := by decide +kernel
theorem dX7_reckonSide_99 : decode cX7_reckonSide 99 = .ok (.aload_n 0, 1) := by decide +kernel
theorem dX7_reckonSide_100 : decode cX7_reckonSide 100 = .ok (.iload 8, 2) := by decide +kernel
theorem dX7_reckonSide_102 : decode cX7_reckonSide 102 = .ok (.lload 4, 2) := by decide +kernel
theorem dX7_reckonSide_104 : decode cX7_reckonSide 104 = .ok (.lload 6, 2) := by decide +kernel
theorem dX7_reckonSide_106 : decode cX7_reckonSide 106 = .ok (.invokevirtual 128, 3) := by decide +kernel
theorem dX7_reckonSide_109 : decode cX7_reckonSide 109 = .ok (.aload_n 0, 1) := by decide +kernel
theorem dX7_reckonSide_110 : decode cX7_reckonSide 110 = .ok (.invokevirtual 132, 3) := by decide +kernel
theorem dX7_reckonSide_113 : decode cX7_reckonSide 113 = .ok (.iinc 3 1, 3) := by decide +kernel
theorem dX7_reckonSide_116 : decode cX7_reckonSide 116 = .ok (.goto (-64), 3) := by decide +kernel
theorem dX7_reckonSide_119 : decode cX7_reckonSide 119 = .ok (.return_, 1) := by decide +kernel
theorem dX7_reckonSide_38 : decode cX7_reckonSide 38 = .ok (.aload_n 0, 1) := by decide +kernel
theorem dX7_reckonSide_39 : decode cX7_reckonSide 39 = .ok (.bipush 45, 2) := by decide +kernel
theorem dX7_reckonSide_41 : decode cX7_reckonSide 41 = .ok (.lconst 0, 1) := by decide +kernel
theorem dX7_reckonSide_42 : decode cX7_reckonSide 42 = .ok (.lconst 1, 1) := by decide +kernel
theorem dX7_reckonSide_43 : decode cX7_reckonSide 43 = .ok (.invokevirtual 128, 3) := by decide +kernel
theorem dX7_reckonSide_46 : decode cX7_reckonSide 46 = .ok (.aload_n 0, 1) := by decide +kernel
theorem dX7_reckonSide_47 : decode cX7_reckonSide 47 = .ok (.invokevirtual 132, 3) := by decide +kernel
theorem dX7_reckonSide_24 : decode cX7_reckonSide 24 = .ok (.aload_n 0, 1) := by decide +kernel
theorem dX7_reckonSide_25 : decode cX7_reckonSide 25 = .ok (.invokevirtual 103, 3) := by decide +kernel
theorem dX7_reckonSide_28 : decode cX7_reckonSide 28 = .ok (.pop, 1) := by decide +kernel
theorem dX7_reckonSide_14 : decode cX7_reckonSide 14 = .ok (.iconst 1, 1) := by decide +kernel
theorem dX7_reckonSide_15 : decode cX7_reckonSide 15 = .ok (.goto 4, 3) := by decide +kernel
theorem dX7_compareWith_0 : decode cX7_compareWith 0 = .ok (.aload_n 0, 1) := by decide +kernel
theorem dX7_compareWith_1 : decode cX7_compareWith 1 = .ok (.lload_n 2, 1) := by decide +kernel
theorem dX7_compareWith_2 : decode cX7_compareWith 2 = .ok (.aload_n 0, 1) := by decide +kernel
theorem dX7_compareWith_3 : decode cX7_compareWith 3 = .ok (.getfield 114, 3) := by decide +kernel
theorem dX7_compareWith_6 : decode cX7_compareWith 6 = .ok (.invokevirtual 121, 3) := by decide +kernel
theorem dX7_compareWith_9 : decode cX7_compareWith 9 = .ok (.lstore 6, 2) := by decide +kernel
theorem dX7_compareWith_11 : decode cX7_compareWith 11 = .ok (.aload_n 0, 1) := by decide +kernel
theorem dX7_compareWith_12 : decode cX7_compareWith 12 = .ok (.aload_n 0, 1) := by decide +kernel
theorem dX7_compareWith_13 : decode cX7_compareWith 13 = .ok (.getfield 111, 3) := by decide +kernel
theorem dX7_compareWith_16 : decode cX7_compareWith 16 = .ok (.lload 4, 2) := by decide +kernel
theorem dX7_compareWith_18 : decode cX7_compareWith 18 = .ok (.invokevirtual 121, 3) := by decide +kernel
theorem dX7_compareWith_21 : decode cX7_compareWith 21 = .ok (.lstore 8, 2) := by decide +kernel
theorem dX7_compareWith_23 : decode cX7_compareWith 23 = .ok (.aload_n 0, 1) := by decide +kernel
theorem dX7_compareWith_24 : decode cX7_compareWith 24 = .ok (.getfield 89, 3) := by decide +kernel
theorem dX7_compareWith_27 : decode cX7_compareWith 27 = .ok (.ifCond .eq 5, 3) := by decide +kernel
theorem dX7_compareWith_32 : decode cX7_compareWith 32 = .ok (.iload_n 1, 1) := by decide +kernel
theorem dX7_compareWith_33 : decode cX7_compareWith 33 = .ok (.lookupswitch 99 #[(60, 43), (61, 71), (103, 85), (108, 57)], 43) := by decide +kernel
theorem dX7_compareWith_132 : decode cX7_compareWith 132 = .ok (.lload 6, 2) := by decide +kernel
theorem dX7_compareWith_134 : decode cX7_compareWith 134 = .ok (.lload 8, 2) := by decide +kernel
theorem dX7_compareWith_136 : decode cX7_compareWith 136 = .ok (.lcmp, 1) := by decide +kernel
theorem dX7_compareWith_137 : decode cX7_compareWith 137 = .ok (.ifCond .le 7, 3) := by decide +kernel
theorem dX7_compareWith_144 : decode cX7_compareWith 144 = .ok (.iconst 0, 1) := by decide +kernel
theorem dX7_compareWith_145 : decode cX7_compareWith 145 = .ok (.ireturn, 1) := by decide +kernel
theorem dX7_compareWith_140 : decode cX7_compareWith 140 = .ok (.iconst 1, 1) := by decide +kernel
theorem dX7_compareWith_141 : decode cX7_compareWith 141 = .ok (.goto 4, 3) := by decide +kernel
theorem dX7_compareWith_76 : decode cX7_compareWith 76 = .ok (.lload 6, 2) := by decide +kernel
theorem dX7_compareWith_78 : decode cX7_compareWith 78 = .ok (.lload 8, 2) := by decide +kernel
theorem dX7_compareWith_80 : decode cX7_compareWith 80 = .ok (.lcmp, 1) := by decide +kernel
theorem dX7_compareWith_81 : decode cX7_compareWith 81 = .ok (.ifCond .ge 7, 3) := by decide +kernel
theorem dX7_compareWith_88 : decode cX7_compareWith 88 = .ok (.iconst 0, 1) := by decide +kernel
theorem dX7_compareWith_89 : decode cX7_compareWith 89 = .ok (.ireturn, 1) := by decide +kernel
theorem dX7_compareWith_84 : decode cX7_compareWith 84 = .ok (.iconst 1, 1) := by decide +kernel
theorem dX7_compareWith_85 : decode cX7_compareWith 85 = .ok (.goto 4, 3) := by decide +kernel
theorem dX7_compareWith_104 : decode cX7_compareWith 104 = .ok (.lload 6, 2) := by decide +kernel
theorem dX7_compareWith_106 : decode cX7_compareWith 106 = .ok (.lload 8, 2) := by decide +kernel
theorem dX7_compareWith_108 : decode cX7_compareWith 108 = .ok (.lcmp, 1) := by decide +kernel
theorem dX7_compareWith_109 : decode cX7_compareWith 109 = .ok (.ifCond .ne 7, 3) := by decide +kernel
theorem dX7_compareWith_116 : decode cX7_compareWith 116 = .ok (.iconst 0, 1) := by decide +kernel
theorem dX7_compareWith_117 : decode cX7_compareWith 117 = .ok (.ireturn, 1) := by decide +kernel
theorem dX7_compareWith_112 : decode cX7_compareWith 112 = .ok (.iconst 1, 1) := by decide +kernel
theorem dX7_compareWith_113 : decode cX7_compareWith 113 = .ok (.goto 4, 3) := by decide +kernel
theorem dX7_compareWith_118 : decode cX7_compareWith 118 = .ok (.lload 6, 2) := by decide +kernel
theorem dX7_compareWith_120 : decode cX7_compareWith 120 = .ok (.lload 8, 2) := by decide +kernel
theorem dX7_compareWith_122 : decode cX7_compareWith 122 = .ok (.lcmp, 1) := by decide +kernel
theorem dX7_compareWith_123 : decode cX7_compareWith 123 = .ok (.ifCond .lt 7, 3) := by decide +kernel
theorem dX7_compareWith_130 : decode cX7_compareWith 130 = .ok (.iconst 0, 1) := by decide +kernel
theorem dX7_compareWith_131 : decode cX7_compareWith 131 = .ok (.ireturn, 1) := by decide +kernel
theorem dX7_compareWith_126 : decode cX7_compareWith 126 = .ok (.iconst 1, 1) := by decide +kernel
theorem dX7_compareWith_127 : decode cX7_compareWith 127 = .ok (.goto 4, 3) := by decide +kernel
theorem dX7_compareWith_90 : decode cX7_compareWith 90 = .ok (.lload 6, 2) := by decide +kernel
theorem dX7_compareWith_92 : decode cX7_compareWith 92 = .ok (.lload 8, 2) := by decide +kernel
theorem dX7_compareWith_94 : decode cX7_compareWith 94 = .ok (.lcmp, 1) := by decide +kernel
theorem dX7_compareWith_95 : decode cX7_compareWith 95 = .ok (.ifCond .gt 7, 3) := by decide +kernel
theorem dX7_compareWith_102 : decode cX7_compareWith 102 = .ok (.iconst 0, 1) := by decide +kernel
theorem dX7_compareWith_103 : decode cX7_compareWith 103 = .ok (.ireturn, 1) := by decide +kernel
theorem dX7_compareWith_98 : decode cX7_compareWith 98 = .ok (.iconst 1, 1) := by decide +kernel
theorem dX7_compareWith_99 : decode cX7_compareWith 99 = .ok (.goto 4, 3) := by decide +kernel
theorem dX7_compareWith_30 : decode cX7_compareWith 30 = .ok (.iconst 0, 1) := by decide +kernel
theorem dX7_compareWith_31 : decode cX7_compareWith 31 = .ok (.ireturn, 1) := by decide +kernel
theorem dX7_reckonClause_0 : decode cX7_reckonClause 0 = .ok (.aload_n 0, 1) := by decide +kernel
theorem dX7_reckonClause_1 : decode cX7_reckonClause 1 = .ok (.iconst 0, 1) := by decide +kernel
theorem dX7_reckonClause_2 : decode cX7_reckonClause 2 = .ok (.invokevirtual 107, 3) := by decide +kernel
theorem dX7_reckonClause_5 : decode cX7_reckonClause 5 = .ok (.aload_n 0, 1) := by decide +kernel
theorem dX7_reckonClause_6 : decode cX7_reckonClause 6 = .ok (.getfield 89, 3) := by decide +kernel
theorem dX7_reckonClause_9 : decode cX7_reckonClause 9 = .ok (.ifCond .eq 5, 3) := by decide +kernel
theorem dX7_reckonClause_14 : decode cX7_reckonClause 14 = .ok (.aload_n 1, 1) := by decide +kernel
theorem dX7_reckonClause_15 : decode cX7_reckonClause 15 = .ok (.iconst 1, 1) := by decide +kernel
theorem dX7_reckonClause_16 : decode cX7_reckonClause 16 = .ok (.aload_n 0, 1) := by decide +kernel
theorem dX7_reckonClause_17 : decode cX7_reckonClause 17 = .ok (.getfield 111, 3) := by decide +kernel
theorem dX7_reckonClause_20 : decode cX7_reckonClause 20 = .ok (.lastore, 1) := by decide +kernel
theorem dX7_reckonClause_21 : decode cX7_reckonClause 21 = .ok (.aload_n 1, 1) := by decide +kernel
theorem dX7_reckonClause_22 : decode cX7_reckonClause 22 = .ok (.iconst 2, 1) := by decide +kernel
theorem dX7_reckonClause_23 : decode cX7_reckonClause 23 = .ok (.aload_n 0, 1) := by decide +kernel
theorem dX7_reckonClause_24 : decode cX7_reckonClause 24 = .ok (.getfield 114, 3) := by decide +kernel
theorem dX7_reckonClause_27 : decode cX7_reckonClause 27 = .ok (.lastore, 1) := by decide +kernel
theorem dX7_reckonClause_28 : decode cX7_reckonClause 28 = .ok (.aload_n 0, 1) := by decide +kernel
theorem dX7_reckonClause_29 : decode cX7_reckonClause 29 = .ok (.invokevirtual 103, 3) := by decide +kernel
theorem dX7_reckonClause_32 : decode cX7_reckonClause 32 = .ok (.istore_n 2, 1) := by decide +kernel
theorem dX7_reckonClause_33 : decode cX7_reckonClause 33 = .ok (.aload_n 0, 1) := by decide +kernel
theorem dX7_reckonClause_34 : decode cX7_reckonClause 34 = .ok (.iconst 0, 1) := by decide +kernel
theorem dX7_reckonClause_35 : decode cX7_reckonClause 35 = .ok (.invokevirtual 107, 3) := by decide +kernel
theorem dX7_reckonClause_38 : decode cX7_reckonClause 38 = .ok (.aload_n 0, 1) := by decide +kernel
theorem dX7_reckonClause_39 : decode cX7_reckonClause 39 = .ok (.getfield 89, 3) := by decide +kernel
theorem dX7_reckonClause_42 : decode cX7_reckonClause 42 = .ok (.ifCond .eq 5, 3) := by decide +kernel
theorem dX7_reckonClause_47 : decode cX7_reckonClause 47 = .ok (.aload_n 1, 1) := by decide +kernel
theorem dX7_reckonClause_48 : decode cX7_reckonClause 48 = .ok (.iconst 3, 1) := by decide +kernel
theorem dX7_reckonClause_49 : decode cX7_reckonClause 49 = .ok (.aload_n 0, 1) := by decide +kernel
theorem dX7_reckonClause_50 : decode cX7_reckonClause 50 = .ok (.getfield 111, 3) := by decide +kernel
theorem dX7_reckonClause_53 : decode cX7_reckonClause 53 = .ok (.lastore, 1) := by decide +kernel
theorem dX7_reckonClause_54 : decode cX7_reckonClause 54 = .ok (.aload_n 1, 1) := by decide +kernel
theorem dX7_reckonClause_55 : decode cX7_reckonClause 55 = .ok (.iconst 4, 1) := by decide +kernel
theorem dX7_reckonClause_56 : decode cX7_reckonClause 56 = .ok (.aload_n 0, 1) := by decide +kernel
theorem dX7_reckonClause_57 : decode cX7_reckonClause 57 = .ok (.getfield 114, 3) := by decide +kernel
theorem dX7_reckonClause_60 : decode cX7_reckonClause 60 = .ok (.lastore, 1) := by decide +kernel
theorem dX7_reckonClause_61 : decode cX7_reckonClause 61 = .ok (.aload_n 0, 1) := by decide +kernel
theorem dX7_reckonClause_62 : decode cX7_reckonClause 62 = .ok (.iload_n 2, 1) := by decide +kernel
theorem dX7_reckonClause_63 : decode cX7_reckonClause 63 = .ok (.aload_n 1, 1) := by decide +kernel
theorem dX7_reckonClause_64 : decode cX7_reckonClause 64 = .ok (.iconst 1, 1) := by decide +kernel
theorem dX7_reckonClause_65 : decode cX7_reckonClause 65 = .ok (.laload, 1) := by decide +kernel
theorem dX7_reckonClause_66 : decode cX7_reckonClause 66 = .ok (.aload_n 1, 1) := by decide +kernel
theorem dX7_reckonClause_67 : decode cX7_reckonClause 67 = .ok (.iconst 2, 1) := by decide +kernel
theorem dX7_reckonClause_68 : decode cX7_reckonClause 68 = .ok (.laload, 1) := by decide +kernel
theorem dX7_reckonClause_69 : decode cX7_reckonClause 69 = .ok (.invokevirtual 117, 3) := by decide +kernel
theorem dX7_reckonClause_72 : decode cX7_reckonClause 72 = .ok (.ireturn, 1) := by decide +kernel
theorem dX7_reckonClause_45 : decode cX7_reckonClause 45 = .ok (.iconst 0, 1) := by decide +kernel
theorem dX7_reckonClause_46 : decode cX7_reckonClause 46 = .ok (.ireturn, 1) := by decide +kernel
theorem dX7_reckonClause_12 : decode cX7_reckonClause 12 = .ok (.iconst 0, 1) := by decide +kernel
theorem dX7_reckonClause_13 : decode cX7_reckonClause 13 = .ok (.ireturn, 1) := by decide +kernel
theorem dX7_askRule_0 : decode cX7_askRule 0 = .ok (.aload_n 0, 1) := by decide +kernel
theorem dX7_askRule_1 : decode cX7_askRule 1 = .ok (.getfield 29, 3) := by decide +kernel
theorem dX7_askRule_4 : decode cX7_askRule 4 = .ok (.iload_n 1, 1) := by decide +kernel
theorem dX7_askRule_5 : decode cX7_askRule 5 = .ok (.aaload, 1) := by decide +kernel
theorem dX7_askRule_6 : decode cX7_askRule 6 = .ok (.astore_n 3, 1) := by decide +kernel
theorem dX7_askRule_7 : decode cX7_askRule 7 = .ok (.aload_n 3, 1) := by decide +kernel
theorem dX7_askRule_8 : decode cX7_askRule 8 = .ok (.lconst 0, 1) := by decide +kernel
theorem dX7_askRule_9 : decode cX7_askRule 9 = .ok (.invokestatic 81, 3) := by decide +kernel
theorem dX7_askRule_12 : decode cX7_askRule 12 = .ok (.iload_n 2, 1) := by decide +kernel
theorem dX7_askRule_13 : decode cX7_askRule 13 = .ok (.aload_n 0, 1) := by decide +kernel
theorem dX7_askRule_14 : decode cX7_askRule 14 = .ok (.getfield 24, 3) := by decide +kernel
theorem dX7_askRule_17 : decode cX7_askRule 17 = .ok (.iload_n 1, 1) := by decide +kernel
theorem dX7_askRule_18 : decode cX7_askRule 18 = .ok (.iaload, 1) := by decide +kernel
theorem dX7_askRule_19 : decode cX7_askRule 19 = .ok (.if_icmp .ge 10, 3) := by decide +kernel
theorem dX7_askRule_29 : decode cX7_askRule 29 = .ok (.aload_n 0, 1) := by decide +kernel
theorem dX7_askRule_30 : decode cX7_askRule 30 = .ok (.iconst 0, 1) := by decide +kernel
theorem dX7_askRule_31 : decode cX7_askRule 31 = .ok (.putfield 89, 3) := by decide +kernel
theorem dX7_askRule_34 : decode cX7_askRule 34 = .ok (.aload_n 0, 1) := by decide +kernel
theorem dX7_askRule_35 : decode cX7_askRule 35 = .ok (.lconst 0, 1) := by decide +kernel
theorem dX7_askRule_36 : decode cX7_askRule 36 = .ok (.putfield 92, 3) := by decide +kernel
theorem dX7_askRule_39 : decode cX7_askRule 39 = .ok (.aload_n 0, 1) := by decide +kernel
theorem dX7_askRule_40 : decode cX7_askRule 40 = .ok (.aload_n 0, 1) := by decide +kernel
theorem dX7_askRule_41 : decode cX7_askRule 41 = .ok (.getfield 21, 3) := by decide +kernel
theorem dX7_askRule_44 : decode cX7_askRule 44 = .ok (.iload_n 1, 1) := by decide +kernel
theorem dX7_askRule_45 : decode cX7_askRule 45 = .ok (.iaload, 1) := by decide +kernel
theorem dX7_askRule_46 : decode cX7_askRule 46 = .ok (.putfield 96, 3) := by decide +kernel
theorem dX7_askRule_49 : decode cX7_askRule 49 = .ok (.aload_n 0, 1) := by decide +kernel
theorem dX7_askRule_50 : decode cX7_askRule 50 = .ok (.aload_n 3, 1) := by decide +kernel
theorem dX7_askRule_51 : decode cX7_askRule 51 = .ok (.invokevirtual 99, 3) := by decide +kernel
theorem dX7_askRule_54 : decode cX7_askRule 54 = .ok (.istore 4, 2) := by decide +kernel
theorem dX7_askRule_56 : decode cX7_askRule 56 = .ok (.iload 4, 2) := by decide +kernel
theorem dX7_askRule_58 : decode cX7_askRule 58 = .ok (.ifCond .eq 7, 3) := by decide +kernel
theorem dX7_askRule_65 : decode cX7_askRule 65 = .ok (.iconst 1, 1) := by decide +kernel
theorem dX7_askRule_66 : decode cX7_askRule 66 = .ok (.istore 5, 2) := by decide +kernel
theorem dX7_askRule_68 : decode cX7_askRule 68 = .ok (.iload 4, 2) := by decide +kernel
theorem dX7_askRule_70 : decode cX7_askRule 70 = .ok (.ifCond .ne 75, 3) := by decide +kernel
theorem dX7_askRule_145 : decode cX7_askRule 145 = .ok (.aload_n 3, 1) := by decide +kernel
theorem dX7_askRule_146 : decode cX7_askRule 146 = .ok (.iconst 0, 1) := by decide +kernel
theorem dX7_askRule_147 : decode cX7_askRule 147 = .ok (.aload_n 0, 1) := by decide +kernel
theorem dX7_askRule_148 : decode cX7_askRule 148 = .ok (.getfield 89, 3) := by decide +kernel
theorem dX7_askRule_151 : decode cX7_askRule 151 = .ok (.ifCond .eq 9, 3) := by decide +kernel
theorem dX7_askRule_160 : decode cX7_askRule 160 = .ok (.iload 5, 2) := by decide +kernel
theorem dX7_askRule_162 : decode cX7_askRule 162 = .ok (.i2l, 1) := by decide +kernel
theorem dX7_askRule_163 : decode cX7_askRule 163 = .ok (.lastore, 1) := by decide +kernel
theorem dX7_askRule_164 : decode cX7_askRule 164 = .ok (.aload_n 3, 1) := by decide +kernel
theorem dX7_askRule_165 : decode cX7_askRule 165 = .ok (.iconst 5, 1) := by decide +kernel
theorem dX7_askRule_166 : decode cX7_askRule 166 = .ok (.aload_n 0, 1) := by decide +kernel
theorem dX7_askRule_167 : decode cX7_askRule 167 = .ok (.getfield 89, 3) := by decide +kernel
theorem dX7_askRule_170 : decode cX7_askRule 170 = .ok (.i2l, 1) := by decide +kernel
theorem dX7_askRule_171 : decode cX7_askRule 171 = .ok (.lastore, 1) := by decide +kernel
theorem dX7_askRule_172 : decode cX7_askRule 172 = .ok (.aload_n 3, 1) := by decide +kernel
theorem dX7_askRule_173 : decode cX7_askRule 173 = .ok (.bipush 6, 2) := by decide +kernel
theorem dX7_askRule_175 : decode cX7_askRule 175 = .ok (.aload_n 0, 1) := by decide +kernel
theorem dX7_askRule_176 : decode cX7_askRule 176 = .ok (.getfield 92, 3) := by decide +kernel
theorem dX7_askRule_179 : decode cX7_askRule 179 = .ok (.lastore, 1) := by decide +kernel
theorem dX7_askRule_180 : decode cX7_askRule 180 = .ok (.return_, 1) := by decide +kernel
theorem dX7_askRule_154 : decode cX7_askRule 154 = .ok (.ldc2_w 79, 3) := by decide +kernel
theorem dX7_askRule_157 : decode cX7_askRule 157 = .ok (.goto 6, 3) := by decide +kernel
theorem dX7_askRule_73 : decode cX7_askRule 73 = .ok (.iconst 1, 1) := by decide +kernel
theorem dX7_askRule_74 : decode cX7_askRule 74 = .ok (.istore 4, 2) := by decide +kernel
theorem dX7_askRule_76 : decode cX7_askRule 76 = .ok (.iconst 0, 1) := by decide +kernel
theorem dX7_askRule_77 : decode cX7_askRule 77 = .ok (.istore 6, 2) := by decide +kernel
theorem dX7_askRule_79 : decode cX7_askRule 79 = .ok (.iload 6, 2) := by decide +kernel
theorem dX7_askRule_81 : decode cX7_askRule 81 = .ok (.bipush 120, 2) := by decide +kernel
theorem dX7_askRule_83 : decode cX7_askRule 83 = .ok (.if_icmp .ge 62, 3) := by decide +kernel
theorem dX7_askRule_86 : decode cX7_askRule 86 = .ok (.aload_n 0, 1) := by decide +kernel
theorem dX7_askRule_87 : decode cX7_askRule 87 = .ok (.getfield 89, 3) := by decide +kernel
theorem dX7_askRule_90 : decode cX7_askRule 90 = .ok (.ifCond .ne 55, 3) := by decide +kernel
theorem dX7_askRule_93 : decode cX7_askRule 93 = .ok (.iload 4, 2) := by decide +kernel
theorem dX7_askRule_95 : decode cX7_askRule 95 = .ok (.ifCond .eq 50, 3) := by decide +kernel
theorem dX7_askRule_98 : decode cX7_askRule 98 = .ok (.aload_n 0, 1) := by decide +kernel
theorem dX7_askRule_99 : decode cX7_askRule 99 = .ok (.getfield 11, 3) := by decide +kernel
theorem dX7_askRule_102 : decode cX7_askRule 102 = .ok (.aload_n 0, 1) := by decide +kernel
theorem dX7_askRule_103 : decode cX7_askRule 103 = .ok (.getfield 96, 3) := by decide +kernel
theorem dX7_askRule_106 : decode cX7_askRule 106 = .ok (.iaload, 1) := by decide +kernel
theorem dX7_askRule_107 : decode cX7_askRule 107 = .ok (.bipush 33, 2) := by decide +kernel
theorem dX7_askRule_109 : decode cX7_askRule 109 = .ok (.if_icmp .ne 36, 3) := by decide +kernel
theorem dX7_askRule_112 : decode cX7_askRule 112 = .ok (.aload_n 0, 1) := by decide +kernel
theorem dX7_askRule_113 : decode cX7_askRule 113 = .ok (.invokevirtual 103, 3) := by decide +kernel
theorem dX7_askRule_116 : decode cX7_askRule 116 = .ok (.pop, 1) := by decide +kernel
theorem dX7_askRule_117 : decode cX7_askRule 117 = .ok (.aload_n 0, 1) := by decide +kernel
theorem dX7_askRule_118 : decode cX7_askRule 118 = .ok (.aload_n 0, 1) := by decide +kernel
theorem dX7_askRule_119 : decode cX7_askRule 119 = .ok (.getfield 32, 3) := by decide +kernel
theorem dX7_askRule_122 : decode cX7_askRule 122 = .ok (.invokevirtual 99, 3) := by decide +kernel
theorem dX7_askRule_125 : decode cX7_askRule 125 = .ok (.istore 4, 2) := by decide +kernel
theorem dX7_askRule_127 : decode cX7_askRule 127 = .ok (.iload 4, 2) := by decide +kernel
theorem dX7_askRule_129 : decode cX7_askRule 129 = .ok (.ifCond .eq 7, 3) := by decide +kernel
theorem dX7_askRule_136 : decode cX7_askRule 136 = .ok (.iconst 1, 1) := by decide +kernel
theorem dX7_askRule_137 : decode cX7_askRule 137 = .ok (.istore 5, 2) := by decide +kernel
theorem dX7_askRule_139 : decode cX7_askRule 139 = .ok (.iinc 6 1, 3) := by decide +kernel
theorem dX7_askRule_142 : decode cX7_askRule 142 = .ok (.goto (-63), 3) := by decide +kernel
theorem dX7_askRule_132 : decode cX7_askRule 132 = .ok (.iconst 2, 1) := by decide +kernel
theorem dX7_askRule_133 : decode cX7_askRule 133 = .ok (.goto 4, 3) := by decide +kernel
theorem dX7_askRule_61 : decode cX7_askRule 61 = .ok (.iconst 0, 1) := by decide +kernel
theorem dX7_askRule_62 : decode cX7_askRule 62 = .ok (.goto 4, 3) := by decide +kernel
theorem dX7_askRule_22 : decode cX7_askRule 22 = .ok (.aload_n 3, 1) := by decide +kernel
theorem dX7_askRule_23 : decode cX7_askRule 23 = .ok (.iconst 0, 1) := by decide +kernel
theorem dX7_askRule_24 : decode cX7_askRule 24 = .ok (.ldc2_w 87, 3) := by decide +kernel
theorem dX7_askRule_27 : decode cX7_askRule 27 = .ok (.lastore, 1) := by decide +kernel
theorem dX7_askRule_28 : decode cX7_askRule 28 = .ok (.return_, 1) := by decide +kernel
theorem dX7_askAll_0 : decode cX7_askAll 0 = .ok (.iconst 0, 1) := by decide +kernel
theorem dX7_askAll_1 : decode cX7_askAll 1 = .ok (.istore_n 2, 1) := by decide +kernel
theorem dX7_askAll_2 : decode cX7_askAll 2 = .ok (.iload_n 2, 1) := by decide +kernel
theorem dX7_askAll_3 : decode cX7_askAll 3 = .ok (.aload_n 0, 1) := by decide +kernel
theorem dX7_askAll_4 : decode cX7_askAll 4 = .ok (.getfield 55, 3) := by decide +kernel
theorem dX7_askAll_7 : decode cX7_askAll 7 = .ok (.if_icmp .ge 15, 3) := by decide +kernel
theorem dX7_askAll_10 : decode cX7_askAll 10 = .ok (.aload_n 0, 1) := by decide +kernel
theorem dX7_askAll_11 : decode cX7_askAll 11 = .ok (.iload_n 2, 1) := by decide +kernel
theorem dX7_askAll_12 : decode cX7_askAll 12 = .ok (.iload_n 1, 1) := by decide +kernel
theorem dX7_askAll_13 : decode cX7_askAll 13 = .ok (.invokevirtual 75, 3) := by decide +kernel
theorem dX7_askAll_16 : decode cX7_askAll 16 = .ok (.iinc 2 1, 3) := by decide +kernel
theorem dX7_askAll_19 : decode cX7_askAll 19 = .ok (.goto (-17), 3) := by decide +kernel
theorem dX7_askAll_22 : decode cX7_askAll 22 = .ok (.aload_n 0, 1) := by decide +kernel
theorem dX7_askAll_23 : decode cX7_askAll 23 = .ok (.iconst 1, 1) := by decide +kernel
theorem dX7_askAll_24 : decode cX7_askAll 24 = .ok (.putfield 56, 3) := by decide +kernel
theorem dX7_askAll_27 : decode cX7_askAll 27 = .ok (.return_, 1) := by decide +kernel
theorem dX7_countBroken_0 : decode cX7_countBroken 0 = .ok (.iconst 0, 1) := by decide +kernel
theorem dX7_countBroken_1 : decode cX7_countBroken 1 = .ok (.istore_n 1, 1) := by decide +kernel
theorem dX7_countBroken_2 : decode cX7_countBroken 2 = .ok (.iconst 0, 1) := by decide +kernel
theorem dX7_countBroken_3 : decode cX7_countBroken 3 = .ok (.istore_n 2, 1) := by decide +kernel
theorem dX7_countBroken_4 : decode cX7_countBroken 4 = .ok (.iload_n 2, 1) := by decide +kernel
theorem dX7_countBroken_5 : decode cX7_countBroken 5 = .ok (.aload_n 0, 1) := by decide +kernel
theorem dX7_countBroken_6 : decode cX7_countBroken 6 = .ok (.getfield 55, 3) := by decide +kernel
theorem dX7_countBroken_9 : decode cX7_countBroken 9 = .ok (.if_icmp .ge 30, 3) := by decide +kernel
theorem dX7_countBroken_12 : decode cX7_countBroken 12 = .ok (.iload_n 1, 1) := by decide +kernel
theorem dX7_countBroken_13 : decode cX7_countBroken 13 = .ok (.aload_n 0, 1) := by decide +kernel
theorem dX7_countBroken_14 : decode cX7_countBroken 14 = .ok (.getfield 29, 3) := by decide +kernel
theorem dX7_countBroken_17 : decode cX7_countBroken 17 = .ok (.iload_n 2, 1) := by decide +kernel
theorem dX7_countBroken_18 : decode cX7_countBroken 18 = .ok (.aaload, 1) := by decide +kernel
theorem dX7_countBroken_19 : decode cX7_countBroken 19 = .ok (.iconst 0, 1) := by decide +kernel
theorem dX7_countBroken_20 : decode cX7_countBroken 20 = .ok (.laload, 1) := by decide +kernel
theorem dX7_countBroken_21 : decode cX7_countBroken 21 = .ok (.lconst 1, 1) := by decide +kernel
theorem dX7_countBroken_22 : decode cX7_countBroken 22 = .ok (.lcmp, 1) := by decide +kernel
theorem dX7_countBroken_23 : decode cX7_countBroken 23 = .ok (.ifCond .ne 7, 3) := by decide +kernel
theorem dX7_countBroken_30 : decode cX7_countBroken 30 = .ok (.iconst 0, 1) := by decide +kernel
theorem dX7_countBroken_31 : decode cX7_countBroken 31 = .ok (.iadd, 1) := by decide +kernel
theorem dX7_countBroken_32 : decode cX7_countBroken 32 = .ok (.istore_n 1, 1) := by decide +kernel
theorem dX7_countBroken_33 : decode cX7_countBroken 33 = .ok (.iinc 2 1, 3) := by decide +kernel
theorem dX7_countBroken_36 : decode cX7_countBroken 36 = .ok (.goto (-32), 3) := by decide +kernel
theorem dX7_countBroken_26 : decode cX7_countBroken 26 = .ok (.iconst 1, 1) := by decide +kernel
theorem dX7_countBroken_27 : decode cX7_countBroken 27 = .ok (.goto 4, 3) := by decide +kernel
theorem dX7_countBroken_39 : decode cX7_countBroken 39 = .ok (.iload_n 1, 1) := by decide +kernel
theorem dX7_countBroken_40 : decode cX7_countBroken 40 = .ok (.ireturn, 1) := by decide +kernel
theorem dX7_firstRefusing_0 : decode cX7_firstRefusing 0 = .ok (.iconst 0, 1) := by decide +kernel
theorem dX7_firstRefusing_1 : decode cX7_firstRefusing 1 = .ok (.istore_n 1, 1) := by decide +kernel
theorem dX7_firstRefusing_2 : decode cX7_firstRefusing 2 = .ok (.iload_n 1, 1) := by decide +kernel
theorem dX7_firstRefusing_3 : decode cX7_firstRefusing 3 = .ok (.aload_n 0, 1) := by decide +kernel
theorem dX7_firstRefusing_4 : decode cX7_firstRefusing 4 = .ok (.getfield 55, 3) := by decide +kernel
theorem dX7_firstRefusing_7 : decode cX7_firstRefusing 7 = .ok (.if_icmp .ge 39, 3) := by decide +kernel
theorem dX7_firstRefusing_10 : decode cX7_firstRefusing 10 = .ok (.aload_n 0, 1) := by decide +kernel
theorem dX7_firstRefusing_11 : decode cX7_firstRefusing 11 = .ok (.getfield 29, 3) := by decide +kernel
theorem dX7_firstRefusing_14 : decode cX7_firstRefusing 14 = .ok (.iload_n 1, 1) := by decide +kernel
theorem dX7_firstRefusing_15 : decode cX7_firstRefusing 15 = .ok (.aaload, 1) := by decide +kernel
theorem dX7_firstRefusing_16 : decode cX7_firstRefusing 16 = .ok (.iconst 0, 1) := by decide +kernel
theorem dX7_firstRefusing_17 : decode cX7_firstRefusing 17 = .ok (.laload, 1) := by decide +kernel
theorem dX7_firstRefusing_18 : decode cX7_firstRefusing 18 = .ok (.lconst 1, 1) := by decide +kernel
theorem dX7_firstRefusing_19 : decode cX7_firstRefusing 19 = .ok (.lcmp, 1) := by decide +kernel
theorem dX7_firstRefusing_20 : decode cX7_firstRefusing 20 = .ok (.ifCond .eq 18, 3) := by decide +kernel
theorem dX7_firstRefusing_38 : decode cX7_firstRefusing 38 = .ok (.iload_n 1, 1) := by decide +kernel
theorem dX7_firstRefusing_39 : decode cX7_firstRefusing 39 = .ok (.ireturn, 1) := by decide +kernel
theorem dX7_firstRefusing_23 : decode cX7_firstRefusing 23 = .ok (.aload_n 0, 1) := by decide +kernel
theorem dX7_firstRefusing_24 : decode cX7_firstRefusing 24 = .ok (.getfield 29, 3) := by decide +kernel
theorem dX7_firstRefusing_27 : decode cX7_firstRefusing 27 = .ok (.iload_n 1, 1) := by decide +kernel
theorem dX7_firstRefusing_28 : decode cX7_firstRefusing 28 = .ok (.aaload, 1) := by decide +kernel
theorem dX7_firstRefusing_29 : decode cX7_firstRefusing 29 = .ok (.iconst 0, 1) := by decide +kernel
theorem dX7_firstRefusing_30 : decode cX7_firstRefusing 30 = .ok (.laload, 1) := by decide +kernel
theorem dX7_firstRefusing_31 : decode cX7_firstRefusing 31 = .ok (.ldc2_w 79, 3) := by decide +kernel
theorem dX7_firstRefusing_34 : decode cX7_firstRefusing 34 = .ok (.lcmp, 1) := by decide +kernel
theorem dX7_firstRefusing_35 : decode cX7_firstRefusing 35 = .ok (.ifCond .ne 5, 3) := by decide +kernel
theorem dX7_firstRefusing_40 : decode cX7_firstRefusing 40 = .ok (.iinc 1 1, 3) := by decide +kernel
theorem dX7_firstRefusing_43 : decode cX7_firstRefusing 43 = .ok (.goto (-41), 3) := by decide +kernel
theorem dX7_firstRefusing_46 : decode cX7_firstRefusing 46 = .ok (.iconst (-1), 1) := by decide +kernel
theorem dX7_firstRefusing_47 : decode cX7_firstRefusing 47 = .ok (.ireturn, 1) := by decide +kernel
theorem dX7_answerOf_0 : decode cX7_answerOf 0 = .ok (.aload_n 0, 1) := by decide +kernel
theorem dX7_answerOf_1 : decode cX7_answerOf 1 = .ok (.getfield 29, 3) := by decide +kernel
theorem dX7_answerOf_4 : decode cX7_answerOf 4 = .ok (.iload_n 1, 1) := by decide +kernel
theorem dX7_answerOf_5 : decode cX7_answerOf 5 = .ok (.aaload, 1) := by decide +kernel
theorem dX7_answerOf_6 : decode cX7_answerOf 6 = .ok (.iload_n 2, 1) := by decide +kernel
theorem dX7_answerOf_7 : decode cX7_answerOf 7 = .ok (.laload, 1) := by decide +kernel
theorem dX7_answerOf_8 : decode cX7_answerOf 8 = .ok (.lreturn, 1) := by decide +kernel
theorem dX8_init_0 : decode cX8_init 0 = .ok (.aload_n 0, 1) := by decide +kernel
theorem dX8_init_1 : decode cX8_init 1 = .ok (.invokespecial 3, 3) := by decide +kernel
theorem dX8_init_4 : decode cX8_init 4 = .ok (.aload_n 0, 1) := by decide +kernel
theorem dX8_init_5 : decode cX8_init 5 = .ok (.bipush 20, 2) := by decide +kernel
theorem dX8_init_7 : decode cX8_init 7 = .ok (.iconst 4, 1) := by decide +kernel
theorem dX8_init_8 : decode cX8_init 8 = .ok (.multianewarray 11 2, 4) := by decide +kernel
theorem dX8_init_12 : decode cX8_init 12 = .ok (.putfield 13, 3) := by decide +kernel
theorem dX8_init_15 : decode cX8_init 15 = .ok (.aload_n 0, 1) := by decide +kernel
theorem dX8_init_16 : decode cX8_init 16 = .ok (.bipush 20, 2) := by decide +kernel
theorem dX8_init_18 : decode cX8_init 18 = .ok (.newarray .int, 2) := by decide +kernel
theorem dX8_init_20 : decode cX8_init 20 = .ok (.putfield 16, 3) := by decide +kernel
theorem dX8_init_23 : decode cX8_init 23 = .ok (.aload_n 0, 1) := by decide +kernel
theorem dX8_init_24 : decode cX8_init 24 = .ok (.bipush 20, 2) := by decide +kernel
theorem dX8_init_26 : decode cX8_init 26 = .ok (.bipush 18, 2) := by decide +kernel
theorem dX8_init_28 : decode cX8_init 28 = .ok (.multianewarray 11 2, 4) := by decide +kernel
theorem dX8_init_32 : decode cX8_init 32 = .ok (.putfield 20, 3) := by decide +kernel
theorem dX8_init_35 : decode cX8_init 35 = .ok (.return_, 1) := by decide +kernel
theorem dX8_liesAlong_0 : decode cX8_liesAlong 0 = .ok (.iconst 0, 1) := by decide +kernel
theorem dX8_liesAlong_1 : decode cX8_liesAlong 1 = .ok (.istore 6, 2) := by decide +kernel
theorem dX8_liesAlong_3 : decode cX8_liesAlong 3 = .ok (.iload 6, 2) := by decide +kernel
theorem dX8_liesAlong_5 : decode cX8_liesAlong 5 = .ok (.aload_n 0, 1) := by decide +kernel
theorem dX8_liesAlong_6 : decode cX8_liesAlong 6 = .ok (.getfield 32, 3) := by decide +kernel
theorem dX8_liesAlong_9 : decode cX8_liesAlong 9 = .ok (.if_icmp .ge 148, 3) := by decide +kernel
theorem dX8_liesAlong_12 : decode cX8_liesAlong 12 = .ok (.aload_n 0, 1) := by decide +kernel
theorem dX8_liesAlong_13 : decode cX8_liesAlong 13 = .ok (.getfield 13, 3) := by decide +kernel
theorem dX8_liesAlong_16 : decode cX8_liesAlong 16 = .ok (.iload 6, 2) := by decide +kernel
theorem dX8_liesAlong_18 : decode cX8_liesAlong 18 = .ok (.aaload, 1) := by decide +kernel
theorem dX8_liesAlong_19 : decode cX8_liesAlong 19 = .ok (.astore 7, 2) := by decide +kernel
theorem dX8_liesAlong_21 : decode cX8_liesAlong 21 = .ok (.iload_n 3, 1) := by decide +kernel
theorem dX8_liesAlong_22 : decode cX8_liesAlong 22 = .ok (.iload 5, 2) := by decide +kernel
theorem dX8_liesAlong_24 : decode cX8_liesAlong 24 = .ok (.if_icmp .ne 26, 3) := by decide +kernel
theorem dX8_liesAlong_50 : decode cX8_liesAlong 50 = .ok (.iconst 0, 1) := by decide +kernel
theorem dX8_liesAlong_51 : decode cX8_liesAlong 51 = .ok (.istore 8, 2) := by decide +kernel
theorem dX8_liesAlong_53 : decode cX8_liesAlong 53 = .ok (.iload_n 2, 1) := by decide +kernel
theorem dX8_liesAlong_54 : decode cX8_liesAlong 54 = .ok (.iload 4, 2) := by decide +kernel
theorem dX8_liesAlong_56 : decode cX8_liesAlong 56 = .ok (.if_icmp .ne 26, 3) := by decide +kernel
theorem dX8_liesAlong_82 : decode cX8_liesAlong 82 = .ok (.iconst 0, 1) := by decide +kernel
theorem dX8_liesAlong_83 : decode cX8_liesAlong 83 = .ok (.istore 9, 2) := by decide +kernel
theorem dX8_liesAlong_85 : decode cX8_liesAlong 85 = .ok (.iload 6, 2) := by decide +kernel
theorem dX8_liesAlong_87 : decode cX8_liesAlong 87 = .ok (.iload_n 1, 1) := by decide +kernel
theorem dX8_liesAlong_88 : decode cX8_liesAlong 88 = .ok (.if_icmp .eq 30, 3) := by decide +kernel
theorem dX8_liesAlong_118 : decode cX8_liesAlong 118 = .ok (.iload 6, 2) := by decide +kernel
theorem dX8_liesAlong_120 : decode cX8_liesAlong 120 = .ok (.iload_n 1, 1) := by decide +kernel
theorem dX8_liesAlong_121 : decode cX8_liesAlong 121 = .ok (.if_icmp .eq 30, 3) := by decide +kernel
theorem dX8_liesAlong_151 : decode cX8_liesAlong 151 = .ok (.iinc 6 1, 3) := by decide +kernel
theorem dX8_liesAlong_154 : decode cX8_liesAlong 154 = .ok (.goto (-151), 3) := by decide +kernel
theorem dX8_liesAlong_124 : decode cX8_liesAlong 124 = .ok (.iload 9, 2) := by decide +kernel
theorem dX8_liesAlong_126 : decode cX8_liesAlong 126 = .ok (.ifCond .eq 25, 3) := by decide +kernel
theorem dX8_liesAlong_129 : decode cX8_liesAlong 129 = .ok (.iload_n 3, 1) := by decide +kernel
theorem dX8_liesAlong_130 : decode cX8_liesAlong 130 = .ok (.aload 7, 2) := by decide +kernel
theorem dX8_liesAlong_132 : decode cX8_liesAlong 132 = .ok (.iconst 1, 1) := by decide +kernel
theorem dX8_liesAlong_133 : decode cX8_liesAlong 133 = .ok (.iaload, 1) := by decide +kernel
theorem dX8_liesAlong_134 : decode cX8_liesAlong 134 = .ok (.invokestatic 29, 3) := by decide +kernel
theorem dX8_liesAlong_137 : decode cX8_liesAlong 137 = .ok (.iload 5, 2) := by decide +kernel
theorem dX8_liesAlong_139 : decode cX8_liesAlong 139 = .ok (.aload 7, 2) := by decide +kernel
theorem dX8_liesAlong_141 : decode cX8_liesAlong 141 = .ok (.iconst 3, 1) := by decide +kernel
theorem dX8_liesAlong_142 : decode cX8_liesAlong 142 = .ok (.iaload, 1) := by decide +kernel
theorem dX8_liesAlong_143 : decode cX8_liesAlong 143 = .ok (.invokestatic 23, 3) := by decide +kernel
theorem dX8_liesAlong_146 : decode cX8_liesAlong 146 = .ok (.if_icmp .ge 5, 3) := by decide +kernel
theorem dX8_liesAlong_149 : decode cX8_liesAlong 149 = .ok (.iconst 1, 1) := by decide +kernel
theorem dX8_liesAlong_150 : decode cX8_liesAlong 150 = .ok (.ireturn, 1) := by decide +kernel
theorem dX8_liesAlong_91 : decode cX8_liesAlong 91 = .ok (.iload 8, 2) := by decide +kernel
theorem dX8_liesAlong_93 : decode cX8_liesAlong 93 = .ok (.ifCond .eq 25, 3) := by decide +kernel
theorem dX8_liesAlong_96 : decode cX8_liesAlong 96 = .ok (.iload_n 2, 1) := by decide +kernel
theorem dX8_liesAlong_97 : decode cX8_liesAlong 97 = .ok (.aload 7, 2) := by decide +kernel
theorem dX8_liesAlong_99 : decode cX8_liesAlong 99 = .ok (.iconst 0, 1) := by decide +kernel
theorem dX8_liesAlong_100 : decode cX8_liesAlong 100 = .ok (.iaload, 1) := by decide +kernel
theorem dX8_liesAlong_101 : decode cX8_liesAlong 101 = .ok (.invokestatic 29, 3) := by decide +kernel
theorem dX8_liesAlong_104 : decode cX8_liesAlong 104 = .ok (.iload 4, 2) := by decide +kernel
theorem dX8_liesAlong_106 : decode cX8_liesAlong 106 = .ok (.aload 7, 2) := by decide +kernel
theorem dX8_liesAlong_108 : decode cX8_liesAlong 108 = .ok (.iconst 2, 1) := by decide +kernel
theorem dX8_liesAlong_109 : decode cX8_liesAlong 109 = .ok (.iaload, 1) := by decide +kernel
theorem dX8_liesAlong_110 : decode cX8_liesAlong 110 = .ok (.invokestatic 23, 3) := by decide +kernel
theorem dX8_liesAlong_113 : decode cX8_liesAlong 113 = .ok (.if_icmp .ge 5, 3) := by decide +kernel
theorem dX8_liesAlong_116 : decode cX8_liesAlong 116 = .ok (.iconst 1, 1) := by decide +kernel
theorem dX8_liesAlong_117 : decode cX8_liesAlong 117 = .ok (.ireturn, 1) := by decide +kernel
theorem dX8_liesAlong_59 : decode cX8_liesAlong 59 = .ok (.aload 7, 2) := by decide +kernel
theorem dX8_liesAlong_61 : decode cX8_liesAlong 61 = .ok (.iconst 0, 1) := by decide +kernel
theorem dX8_liesAlong_62 : decode cX8_liesAlong 62 = .ok (.iaload, 1) := by decide +kernel
theorem dX8_liesAlong_63 : decode cX8_liesAlong 63 = .ok (.aload 7, 2) := by decide +kernel
theorem dX8_liesAlong_65 : decode cX8_liesAlong 65 = .ok (.iconst 2, 1) := by decide +kernel
theorem dX8_liesAlong_66 : decode cX8_liesAlong 66 = .ok (.iaload, 1) := by decide +kernel
theorem dX8_liesAlong_67 : decode cX8_liesAlong 67 = .ok (.if_icmp .ne 15, 3) := by decide +kernel
theorem dX8_liesAlong_70 : decode cX8_liesAlong 70 = .ok (.iload_n 2, 1) := by decide +kernel
theorem dX8_liesAlong_71 : decode cX8_liesAlong 71 = .ok (.aload 7, 2) := by decide +kernel
theorem dX8_liesAlong_73 : decode cX8_liesAlong 73 = .ok (.iconst 0, 1) := by decide +kernel
theorem dX8_liesAlong_74 : decode cX8_liesAlong 74 = .ok (.iaload, 1) := by decide +kernel
theorem dX8_liesAlong_75 : decode cX8_liesAlong 75 = .ok (.if_icmp .ne 7, 3) := by decide +kernel
theorem dX8_liesAlong_78 : decode cX8_liesAlong 78 = .ok (.iconst 1, 1) := by decide +kernel
theorem dX8_liesAlong_79 : decode cX8_liesAlong 79 = .ok (.goto 4, 3) := by decide +kernel
theorem dX8_liesAlong_27 : decode cX8_liesAlong 27 = .ok (.aload 7, 2) := by decide +kernel
theorem dX8_liesAlong_29 : decode cX8_liesAlong 29 = .ok (.iconst 1, 1) := by decide +kernel
theorem dX8_liesAlong_30 : decode cX8_liesAlong 30 = .ok (.iaload, 1) := by decide +kernel
theorem dX8_liesAlong_31 : decode cX8_liesAlong 31 = .ok (.aload 7, 2) := by decide +kernel
theorem dX8_liesAlong_33 : decode cX8_liesAlong 33 = .ok (.iconst 3, 1) := by decide +kernel
theorem dX8_liesAlong_34 : decode cX8_liesAlong 34 = .ok (.iaload, 1) := by decide +kernel
theorem dX8_liesAlong_35 : decode cX8_liesAlong 35 = .ok (.if_icmp .ne 15, 3) := by decide +kernel
theorem dX8_liesAlong_38 : decode cX8_liesAlong 38 = .ok (.iload_n 3, 1) := by decide +kernel
theorem dX8_liesAlong_39 : decode cX8_liesAlong 39 = .ok (.aload 7, 2) := by decide +kernel
theorem dX8_liesAlong_41 : decode cX8_liesAlong 41 = .ok (.iconst 1, 1) := by decide +kernel
theorem dX8_liesAlong_42 : decode cX8_liesAlong 42 = .ok (.iaload, 1) := by decide +kernel
theorem dX8_liesAlong_43 : decode cX8_liesAlong 43 = .ok (.if_icmp .ne 7, 3) := by decide +kernel
theorem dX8_liesAlong_46 : decode cX8_liesAlong 46 = .ok (.iconst 1, 1) := by decide +kernel
theorem dX8_liesAlong_47 : decode cX8_liesAlong 47 = .ok (.goto 4, 3) := by decide +kernel
theorem dX8_liesAlong_157 : decode cX8_liesAlong 157 = .ok (.iconst 0, 1) := by decide +kernel
theorem dX8_liesAlong_158 : decode cX8_liesAlong 158 = .ok (.ireturn, 1) := by decide +kernel
theorem dX8_setEnds_0 : decode cX8_setEnds 0 = .ok (.aload_n 0, 1) := by decide +kernel
theorem dX8_setEnds_1 : decode cX8_setEnds 1 = .ok (.getfield 13, 3) := by decide +kernel
theorem dX8_setEnds_4 : decode cX8_setEnds 4 = .ok (.iload_n 1, 1) := by decide +kernel
theorem dX8_setEnds_5 : decode cX8_setEnds 5 = .ok (.aaload, 1) := by decide +kernel
theorem dX8_setEnds_6 : decode cX8_setEnds 6 = .ok (.astore 6, 2) := by decide +kernel
theorem dX8_setEnds_8 : decode cX8_setEnds 8 = .ok (.aload 6, 2) := by decide +kernel
theorem dX8_setEnds_10 : decode cX8_setEnds 10 = .ok (.iconst 0, 1) := by decide +kernel
theorem dX8_setEnds_11 : decode cX8_setEnds 11 = .ok (.iload_n 2, 1) := by decide +kernel
theorem dX8_setEnds_12 : decode cX8_setEnds 12 = .ok (.iastore, 1) := by decide +kernel
theorem dX8_setEnds_13 : decode cX8_setEnds 13 = .ok (.aload 6, 2) := by decide +kernel
theorem dX8_setEnds_15 : decode cX8_setEnds 15 = .ok (.iconst 1, 1) := by decide +kernel
theorem dX8_setEnds_16 : decode cX8_setEnds 16 = .ok (.iload_n 3, 1) := by decide +kernel
theorem dX8_setEnds_17 : decode cX8_setEnds 17 = .ok (.iastore, 1) := by decide +kernel
theorem dX8_setEnds_18 : decode cX8_setEnds 18 = .ok (.aload 6, 2) := by decide +kernel
theorem dX8_setEnds_20 : decode cX8_setEnds 20 = .ok (.iconst 2, 1) := by decide +kernel
theorem dX8_setEnds_21 : decode cX8_setEnds 21 = .ok (.iload 4, 2) := by decide +kernel
theorem dX8_setEnds_23 : decode cX8_setEnds 23 = .ok (.iastore, 1) := by decide +kernel
theorem dX8_setEnds_24 : decode cX8_setEnds 24 = .ok (.aload 6, 2) := by decide +kernel
theorem dX8_setEnds_26 : decode cX8_setEnds 26 = .ok (.iconst 3, 1) := by decide +kernel
theorem dX8_setEnds_27 : decode cX8_setEnds 27 = .ok (.iload 5, 2) := by decide +kernel
theorem dX8_setEnds_29 : decode cX8_setEnds 29 = .ok (.iastore, 1) := by decide +kernel
theorem dX8_setEnds_30 : decode cX8_setEnds 30 = .ok (.return_, 1) := by decide +kernel
theorem dX8_addLine_0 : decode cX8_addLine 0 = .ok (.iload_n 1, 1) := by decide +kernel
theorem dX8_addLine_1 : decode cX8_addLine 1 = .ok (.iload_n 3, 1) := by decide +kernel
theorem dX8_addLine_2 : decode cX8_addLine 2 = .ok (.invokestatic 23, 3) := by decide +kernel
theorem dX8_addLine_5 : decode cX8_addLine 5 = .ok (.istore 5, 2) := by decide +kernel
theorem dX8_addLine_7 : decode cX8_addLine 7 = .ok (.iload_n 2, 1) := by decide +kernel
theorem dX8_addLine_8 : decode cX8_addLine 8 = .ok (.iload 4, 2) := by decide +kernel
theorem dX8_addLine_10 : decode cX8_addLine 10 = .ok (.invokestatic 23, 3) := by decide +kernel
theorem dX8_addLine_13 : decode cX8_addLine 13 = .ok (.istore 6, 2) := by decide +kernel
theorem dX8_addLine_15 : decode cX8_addLine 15 = .ok (.iload_n 1, 1) := by decide +kernel
theorem dX8_addLine_16 : decode cX8_addLine 16 = .ok (.iload_n 3, 1) := by decide +kernel
theorem dX8_addLine_17 : decode cX8_addLine 17 = .ok (.invokestatic 29, 3) := by decide +kernel
theorem dX8_addLine_20 : decode cX8_addLine 20 = .ok (.istore 7, 2) := by decide +kernel
theorem dX8_addLine_22 : decode cX8_addLine 22 = .ok (.iload_n 2, 1) := by decide +kernel
theorem dX8_addLine_23 : decode cX8_addLine 23 = .ok (.iload 4, 2) := by decide +kernel
theorem dX8_addLine_25 : decode cX8_addLine 25 = .ok (.invokestatic 29, 3) := by decide +kernel
theorem dX8_addLine_28 : decode cX8_addLine 28 = .ok (.istore 8, 2) := by decide +kernel
theorem dX8_addLine_30 : decode cX8_addLine 30 = .ok (.aload_n 0, 1) := by decide +kernel
theorem dX8_addLine_31 : decode cX8_addLine 31 = .ok (.getfield 32, 3) := by decide +kernel
theorem dX8_addLine_34 : decode cX8_addLine 34 = .ok (.bipush 20, 2) := by decide +kernel
theorem dX8_addLine_36 : decode cX8_addLine 36 = .ok (.if_icmp .ge 19, 3) := by decide +kernel
theorem dX8_addLine_55 : decode cX8_addLine 55 = .ok (.iconst (-1), 1) := by decide +kernel
theorem dX8_addLine_56 : decode cX8_addLine 56 = .ok (.ireturn, 1) := by decide +kernel
theorem dX8_addLine_39 : decode cX8_addLine 39 = .ok (.aload_n 0, 1) := by decide +kernel
theorem dX8_addLine_40 : decode cX8_addLine 40 = .ok (.iconst (-1), 1) := by decide +kernel
theorem dX8_addLine_41 : decode cX8_addLine 41 = .ok (.iload 5, 2) := by decide +kernel
theorem dX8_addLine_43 : decode cX8_addLine 43 = .ok (.iload 6, 2) := by decide +kernel
theorem dX8_addLine_45 : decode cX8_addLine 45 = .ok (.iload 7, 2) := by decide +kernel
theorem dX8_addLine_47 : decode cX8_addLine 47 = .ok (.iload 8, 2) := by decide +kernel
theorem dX8_addLine_49 : decode cX8_addLine 49 = .ok (.invokevirtual 36, 3) := by decide +kernel
theorem dX8_addLine_52 : decode cX8_addLine 52 = .ok (.ifCond .eq 5, 3) := by decide +kernel
theorem dX8_addLine_57 : decode cX8_addLine 57 = .ok (.aload_n 0, 1) := by decide +kernel
theorem dX8_addLine_58 : decode cX8_addLine 58 = .ok (.aload_n 0, 1) := by decide +kernel
theorem dX8_addLine_59 : decode cX8_addLine 59 = .ok (.getfield 32, 3) := by decide +kernel
theorem dX8_addLine_62 : decode cX8_addLine 62 = .ok (.iload 5, 2) := by decide +kernel
theorem dX8_addLine_64 : decode cX8_addLine 64 = .ok (.iload 6, 2) := by decide +kernel
theorem dX8_addLine_66 : decode cX8_addLine 66 = .ok (.iload 7, 2) := by decide +kernel
theorem dX8_addLine_68 : decode cX8_addLine 68 = .ok (.iload 8, 2) := by decide +kernel
theorem dX8_addLine_70 : decode cX8_addLine 70 = .ok (.invokevirtual 40, 3) := by decide +kernel
theorem dX8_addLine_73 : decode cX8_addLine 73 = .ok (.aload_n 0, 1) := by decide +kernel
theorem dX8_addLine_74 : decode cX8_addLine 74 = .ok (.dup, 1) := by decide +kernel
theorem dX8_addLine_75 : decode cX8_addLine 75 = .ok (.getfield 32, 3) := by decide +kernel
theorem dX8_addLine_78 : decode cX8_addLine 78 = .ok (.iconst 1, 1) := by decide +kernel
theorem dX8_addLine_79 : decode cX8_addLine 79 = .ok (.iadd, 1) := by decide +kernel
theorem dX8_addLine_80 : decode cX8_addLine 80 = .ok (.putfield 32, 3) := by decide +kernel
theorem dX8_addLine_83 : decode cX8_addLine 83 = .ok (.aload_n 0, 1) := by decide +kernel
theorem dX8_addLine_84 : decode cX8_addLine 84 = .ok (.getfield 32, 3) := by decide +kernel
theorem dX8_addLine_87 : decode cX8_addLine 87 = .ok (.iconst 1, 1) := by decide +kernel
theorem dX8_addLine_88 : decode cX8_addLine 88 = .ok (.isub, 1) := by decide +kernel
theorem dX8_addLine_89 : decode cX8_addLine 89 = .ok (.ireturn, 1) := by decide +kernel
theorem dX8_moveLine_0 : decode cX8_moveLine 0 = .ok (.aload_n 0, 1) := by decide +kernel
theorem dX8_moveLine_1 : decode cX8_moveLine 1 = .ok (.getfield 13, 3) := by decide +kernel
theorem dX8_moveLine_4 : decode cX8_moveLine 4 = .ok (.iload_n 1, 1) := by decide +kernel
theorem dX8_moveLine_5 : decode cX8_moveLine 5 = .ok (.aaload, 1) := by decide +kernel
theorem dX8_moveLine_6 : decode cX8_moveLine 6 = .ok (.astore 4, 2) := by decide +kernel
theorem dX8_moveLine_8 : decode cX8_moveLine 8 = .ok (.aload_n 0, 1) := by decide +kernel
theorem dX8_moveLine_9 : decode cX8_moveLine 9 = .ok (.iload_n 1, 1) := by decide +kernel
theorem dX8_moveLine_10 : decode cX8_moveLine 10 = .ok (.aload 4, 2) := by decide +kernel
theorem dX8_moveLine_12 : decode cX8_moveLine 12 = .ok (.iconst 0, 1) := by decide +kernel
theorem dX8_moveLine_13 : decode cX8_moveLine 13 = .ok (.iaload, 1) := by decide +kernel
theorem dX8_moveLine_14 : decode cX8_moveLine 14 = .ok (.iload_n 2, 1) := by decide +kernel
theorem dX8_moveLine_15 : decode cX8_moveLine 15 = .ok (.iadd, 1) := by decide +kernel
theorem dX8_moveLine_16 : decode cX8_moveLine 16 = .ok (.aload 4, 2) := by decide +kernel
theorem dX8_moveLine_18 : decode cX8_moveLine 18 = .ok (.iconst 1, 1) := by decide +kernel
theorem dX8_moveLine_19 : decode cX8_moveLine 19 = .ok (.iaload, 1) := by decide +kernel
theorem dX8_moveLine_20 : decode cX8_moveLine 20 = .ok (.iload_n 3, 1) := by decide +kernel
theorem dX8_moveLine_21 : decode cX8_moveLine 21 = .ok (.iadd, 1) := by decide +kernel
theorem dX8_moveLine_22 : decode cX8_moveLine 22 = .ok (.aload 4, 2) := by decide +kernel
theorem dX8_moveLine_24 : decode cX8_moveLine 24 = .ok (.iconst 2, 1) := by decide +kernel
theorem dX8_moveLine_25 : decode cX8_moveLine 25 = .ok (.iaload, 1) := by decide +kernel
theorem dX8_moveLine_26 : decode cX8_moveLine 26 = .ok (.iload_n 2, 1) := by decide +kernel
theorem dX8_moveLine_27 : decode cX8_moveLine 27 = .ok (.iadd, 1) := by decide +kernel
theorem dX8_moveLine_28 : decode cX8_moveLine 28 = .ok (.aload 4, 2) := by decide +kernel
theorem dX8_moveLine_30 : decode cX8_moveLine 30 = .ok (.iconst 3, 1) := by decide +kernel
theorem dX8_moveLine_31 : decode cX8_moveLine 31 = .ok (.iaload, 1) := by decide +kernel
theorem dX8_moveLine_32 : decode cX8_moveLine 32 = .ok (.iload_n 3, 1) := by decide +kernel
theorem dX8_moveLine_33 : decode cX8_moveLine 33 = .ok (.iadd, 1) := by decide +kernel
theorem dX8_moveLine_34 : decode cX8_moveLine 34 = .ok (.invokevirtual 36, 3) := by decide +kernel
theorem dX8_moveLine_37 : decode cX8_moveLine 37 = .ok (.ifCond .eq 5, 3) := by decide +kernel
theorem dX8_moveLine_42 : decode cX8_moveLine 42 = .ok (.aload_n 0, 1) := by decide +kernel
theorem dX8_moveLine_43 : decode cX8_moveLine 43 = .ok (.iload_n 1, 1) := by decide +kernel
theorem dX8_moveLine_44 : decode cX8_moveLine 44 = .ok (.aload 4, 2) := by decide +kernel
theorem dX8_moveLine_46 : decode cX8_moveLine 46 = .ok (.iconst 0, 1) := by decide +kernel
theorem dX8_moveLine_47 : decode cX8_moveLine 47 = .ok (.iaload, 1) := by decide +kernel
theorem dX8_moveLine_48 : decode cX8_moveLine 48 = .ok (.iload_n 2, 1) := by decide +kernel
theorem dX8_moveLine_49 : decode cX8_moveLine 49 = .ok (.iadd, 1) := by decide +kernel
theorem dX8_moveLine_50 : decode cX8_moveLine 50 = .ok (.aload 4, 2) := by decide +kernel
theorem dX8_moveLine_52 : decode cX8_moveLine 52 = .ok (.iconst 1, 1) := by decide +kernel
theorem dX8_moveLine_53 : decode cX8_moveLine 53 = .ok (.iaload, 1) := by decide +kernel
theorem dX8_moveLine_54 : decode cX8_moveLine 54 = .ok (.iload_n 3, 1) := by decide +kernel
theorem dX8_moveLine_55 : decode cX8_moveLine 55 = .ok (.iadd, 1) := by decide +kernel
theorem dX8_moveLine_56 : decode cX8_moveLine 56 = .ok (.aload 4, 2) := by decide +kernel
theorem dX8_moveLine_58 : decode cX8_moveLine 58 = .ok (.iconst 2, 1) := by decide +kernel
theorem dX8_moveLine_59 : decode cX8_moveLine 59 = .ok (.iaload, 1) := by decide +kernel
theorem dX8_moveLine_60 : decode cX8_moveLine 60 = .ok (.iload_n 2, 1) := by decide +kernel
theorem dX8_moveLine_61 : decode cX8_moveLine 61 = .ok (.iadd, 1) := by decide +kernel
theorem dX8_moveLine_62 : decode cX8_moveLine 62 = .ok (.aload 4, 2) := by decide +kernel
theorem dX8_moveLine_64 : decode cX8_moveLine 64 = .ok (.iconst 3, 1) := by decide +kernel
theorem dX8_moveLine_65 : decode cX8_moveLine 65 = .ok (.iaload, 1) := by decide +kernel
theorem dX8_moveLine_66 : decode cX8_moveLine 66 = .ok (.iload_n 3, 1) := by decide +kernel
theorem dX8_moveLine_67 : decode cX8_moveLine 67 = .ok (.iadd, 1) := by decide +kernel
theorem dX8_moveLine_68 : decode cX8_moveLine 68 = .ok (.invokevirtual 40, 3) := by decide +kernel
theorem dX8_moveLine_71 : decode cX8_moveLine 71 = .ok (.iconst 1, 1) := by decide +kernel
theorem dX8_moveLine_72 : decode cX8_moveLine 72 = .ok (.ireturn, 1) := by decide +kernel
theorem dX8_moveLine_40 : decode cX8_moveLine 40 = .ok (.iconst 0, 1) := by decide +kernel
theorem dX8_moveLine_41 : decode cX8_moveLine 41 = .ok (.ireturn, 1) := by decide +kernel
theorem dX8_staysOnPlan_0 : decode cX8_staysOnPlan 0 = .ok (.aload_n 0, 1) := by decide +kernel
theorem dX8_staysOnPlan_1 : decode cX8_staysOnPlan 1 = .ok (.getfield 13, 3) := by decide +kernel
theorem dX8_staysOnPlan_4 : decode cX8_staysOnPlan 4 = .ok (.iload_n 1, 1) := by decide +kernel
theorem dX8_staysOnPlan_5 : decode cX8_staysOnPlan 5 = .ok (.aaload, 1) := by decide +kernel
theorem dX8_staysOnPlan_6 : decode cX8_staysOnPlan 6 = .ok (.astore 4, 2) := by decide +kernel
theorem dX8_staysOnPlan_8 : decode cX8_staysOnPlan 8 = .ok (.aload 4, 2) := by decide +kernel
theorem dX8_staysOnPlan_10 : decode cX8_staysOnPlan 10 = .ok (.iconst 0, 1) := by decide +kernel
theorem dX8_staysOnPlan_11 : decode cX8_staysOnPlan 11 = .ok (.iaload, 1) := by decide +kernel
theorem dX8_staysOnPlan_12 : decode cX8_staysOnPlan 12 = .ok (.i2l, 1) := by decide +kernel
theorem dX8_staysOnPlan_13 : decode cX8_staysOnPlan 13 = .ok (.iload_n 2, 1) := by decide +kernel
theorem dX8_staysOnPlan_14 : decode cX8_staysOnPlan 14 = .ok (.i2l, 1) := by decide +kernel
theorem dX8_staysOnPlan_15 : decode cX8_staysOnPlan 15 = .ok (.ladd, 1) := by decide +kernel
theorem dX8_staysOnPlan_16 : decode cX8_staysOnPlan 16 = .ok (.lconst 0, 1) := by decide +kernel
theorem dX8_staysOnPlan_17 : decode cX8_staysOnPlan 17 = .ok (.lcmp, 1) := by decide +kernel
theorem dX8_staysOnPlan_18 : decode cX8_staysOnPlan 18 = .ok (.ifCond .lt 50, 3) := by decide +kernel
theorem dX8_staysOnPlan_68 : decode cX8_staysOnPlan 68 = .ok (.iconst 0, 1) := by decide +kernel
theorem dX8_staysOnPlan_69 : decode cX8_staysOnPlan 69 = .ok (.ireturn, 1) := by decide +kernel
theorem dX8_staysOnPlan_21 : decode cX8_staysOnPlan 21 = .ok (.aload 4, 2) := by decide +kernel
theorem dX8_staysOnPlan_23 : decode cX8_staysOnPlan 23 = .ok (.iconst 2, 1) := by decide +kernel
theorem dX8_staysOnPlan_24 : decode cX8_staysOnPlan 24 = .ok (.iaload, 1) := by decide +kernel
theorem dX8_staysOnPlan_25 : decode cX8_staysOnPlan 25 = .ok (.i2l, 1) := by decide +kernel
theorem dX8_staysOnPlan_26 : decode cX8_staysOnPlan 26 = .ok (.iload_n 2, 1) := by decide +kernel
theorem dX8_staysOnPlan_27 : decode cX8_staysOnPlan 27 = .ok (.i2l, 1) := by decide +kernel
theorem dX8_staysOnPlan_28 : decode cX8_staysOnPlan 28 = .ok (.ladd, 1) := by decide +kernel
theorem dX8_staysOnPlan_29 : decode cX8_staysOnPlan 29 = .ok (.ldc2_w 46, 3) := by decide +kernel
theorem dX8_staysOnPlan_32 : decode cX8_staysOnPlan 32 = .ok (.lcmp, 1) := by decide +kernel
theorem dX8_staysOnPlan_33 : decode cX8_staysOnPlan 33 = .ok (.ifCond .gt 35, 3) := by decide +kernel
theorem dX8_staysOnPlan_36 : decode cX8_staysOnPlan 36 = .ok (.aload 4, 2) := by decide +kernel
theorem dX8_staysOnPlan_38 : decode cX8_staysOnPlan 38 = .ok (.iconst 1, 1) := by decide +kernel
theorem dX8_staysOnPlan_39 : decode cX8_staysOnPlan 39 = .ok (.iaload, 1) := by decide +kernel
theorem dX8_staysOnPlan_40 : decode cX8_staysOnPlan 40 = .ok (.i2l, 1) := by decide +kernel
theorem dX8_staysOnPlan_41 : decode cX8_staysOnPlan 41 = .ok (.iload_n 3, 1) := by decide +kernel
theorem dX8_staysOnPlan_42 : decode cX8_staysOnPlan 42 = .ok (.i2l, 1) := by decide +kernel
theorem dX8_staysOnPlan_43 : decode cX8_staysOnPlan 43 = .ok (.ladd, 1) := by decide +kernel
theorem dX8_staysOnPlan_44 : decode cX8_staysOnPlan 44 = .ok (.lconst 0, 1) := by decide +kernel
theorem dX8_staysOnPlan_45 : decode cX8_staysOnPlan 45 = .ok (.lcmp, 1) := by decide +kernel
theorem dX8_staysOnPlan_46 : decode cX8_staysOnPlan 46 = .ok (.ifCond .lt 22, 3) := by decide +kernel
theorem dX8_staysOnPlan_49 : decode cX8_staysOnPlan 49 = .ok (.aload 4, 2) := by decide +kernel
theorem dX8_staysOnPlan_51 : decode cX8_staysOnPlan 51 = .ok (.iconst 3, 1) := by decide +kernel
theorem dX8_staysOnPlan_52 : decode cX8_staysOnPlan 52 = .ok (.iaload, 1) := by decide +kernel
theorem dX8_staysOnPlan_53 : decode cX8_staysOnPlan 53 = .ok (.i2l, 1) := by decide +kernel
theorem dX8_staysOnPlan_54 : decode cX8_staysOnPlan 54 = .ok (.iload_n 3, 1) := by decide +kernel
theorem dX8_staysOnPlan_55 : decode cX8_staysOnPlan 55 = .ok (.i2l, 1) := by decide +kernel
theorem dX8_staysOnPlan_56 : decode cX8_staysOnPlan 56 = .ok (.ladd, 1) := by decide +kernel
theorem dX8_staysOnPlan_57 : decode cX8_staysOnPlan 57 = .ok (.ldc2_w 46, 3) := by decide +kernel
theorem dX8_staysOnPlan_60 : decode cX8_staysOnPlan 60 = .ok (.lcmp, 1) := by decide +kernel
theorem dX8_staysOnPlan_61 : decode cX8_staysOnPlan 61 = .ok (.ifCond .gt 7, 3) := by decide +kernel
theorem dX8_staysOnPlan_64 : decode cX8_staysOnPlan 64 = .ok (.iconst 1, 1) := by decide +kernel
theorem dX8_staysOnPlan_65 : decode cX8_staysOnPlan 65 = .ok (.goto 4, 3) := by decide +kernel
theorem dX8_addDoor_0 : decode cX8_addDoor 0 = .ok (.aload_n 0, 1) := by decide +kernel
theorem dX8_addDoor_1 : decode cX8_addDoor 1 = .ok (.getfield 16, 3) := by decide +kernel
theorem dX8_addDoor_4 : decode cX8_addDoor 4 = .ok (.iload_n 1, 1) := by decide +kernel
theorem dX8_addDoor_5 : decode cX8_addDoor 5 = .ok (.iaload, 1) := by decide +kernel
theorem dX8_addDoor_6 : decode cX8_addDoor 6 = .ok (.bipush 6, 2) := by decide +kernel
theorem dX8_addDoor_8 : decode cX8_addDoor 8 = .ok (.if_icmp .ge 58, 3) := by decide +kernel
theorem dX8_addDoor_66 : decode cX8_addDoor 66 = .ok (.aload_n 0, 1) := by decide +kernel
theorem dX8_addDoor_67 : decode cX8_addDoor 67 = .ok (.getfield 16, 3) := by decide +kernel
theorem dX8_addDoor_70 : decode cX8_addDoor 70 = .ok (.iload_n 1, 1) := by decide +kernel
theorem dX8_addDoor_71 : decode cX8_addDoor 71 = .ok (.iaload, 1) := by decide +kernel
theorem dX8_addDoor_72 : decode cX8_addDoor 72 = .ok (.ireturn, 1) := by decide +kernel
theorem dX8_addDoor_11 : decode cX8_addDoor 11 = .ok (.iconst 3, 1) := by decide +kernel
theorem dX8_addDoor_12 : decode cX8_addDoor 12 = .ok (.aload_n 0, 1) := by decide +kernel
theorem dX8_addDoor_13 : decode cX8_addDoor 13 = .ok (.getfield 16, 3) := by decide +kernel
theorem dX8_addDoor_16 : decode cX8_addDoor 16 = .ok (.iload_n 1, 1) := by decide +kernel
theorem dX8_addDoor_17 : decode cX8_addDoor 17 = .ok (.iaload, 1) := by decide +kernel
theorem dX8_addDoor_18 : decode cX8_addDoor 18 = .ok (.imul, 1) := by decide +kernel
theorem dX8_addDoor_19 : decode cX8_addDoor 19 = .ok (.istore 5, 2) := by decide +kernel
theorem dX8_addDoor_21 : decode cX8_addDoor 21 = .ok (.aload_n 0, 1) := by decide +kernel
theorem dX8_addDoor_22 : decode cX8_addDoor 22 = .ok (.getfield 20, 3) := by decide +kernel
theorem dX8_addDoor_25 : decode cX8_addDoor 25 = .ok (.iload_n 1, 1) := by decide +kernel
theorem dX8_addDoor_26 : decode cX8_addDoor 26 = .ok (.aaload, 1) := by decide +kernel
theorem dX8_addDoor_27 : decode cX8_addDoor 27 = .ok (.iload 5, 2) := by decide +kernel
theorem dX8_addDoor_29 : decode cX8_addDoor 29 = .ok (.iload_n 2, 1) := by decide +kernel
theorem dX8_addDoor_30 : decode cX8_addDoor 30 = .ok (.iastore, 1) := by decide +kernel
theorem dX8_addDoor_31 : decode cX8_addDoor 31 = .ok (.aload_n 0, 1) := by decide +kernel
theorem dX8_addDoor_32 : decode cX8_addDoor 32 = .ok (.getfield 20, 3) := by decide +kernel
theorem dX8_addDoor_35 : decode cX8_addDoor 35 = .ok (.iload_n 1, 1) := by decide +kernel
theorem dX8_addDoor_36 : decode cX8_addDoor 36 = .ok (.aaload, 1) := by decide +kernel
theorem dX8_addDoor_37 : decode cX8_addDoor 37 = .ok (.iload 5, 2) := by decide +kernel
theorem dX8_addDoor_39 : decode cX8_addDoor 39 = .ok (.iconst 1, 1) := by decide +kernel
theorem dX8_addDoor_40 : decode cX8_addDoor 40 = .ok (.iadd, 1) := by decide +kernel
theorem dX8_addDoor_41 : decode cX8_addDoor 41 = .ok (.iload_n 3, 1) := by decide +kernel
theorem dX8_addDoor_42 : decode cX8_addDoor 42 = .ok (.iastore, 1) := by decide +kernel
theorem dX8_addDoor_43 : decode cX8_addDoor 43 = .ok (.aload_n 0, 1) := by decide +kernel
theorem dX8_addDoor_44 : decode cX8_addDoor 44 = .ok (.getfield 20, 3) := by decide +kernel
theorem dX8_addDoor_47 : decode cX8_addDoor 47 = .ok (.iload_n 1, 1) := by decide +kernel
theorem dX8_addDoor_48 : decode cX8_addDoor 48 = .ok (.aaload, 1) := by decide +kernel
theorem dX8_addDoor_49 : decode cX8_addDoor 49 = .ok (.iload 5, 2) := by decide +kernel
theorem dX8_addDoor_51 : decode cX8_addDoor 51 = .ok (.iconst 2, 1) := by decide +kernel
theorem dX8_addDoor_52 : decode cX8_addDoor 52 = .ok (.iadd, 1) := by decide +kernel
theorem dX8_addDoor_53 : decode cX8_addDoor 53 = .ok (.iload 4, 2) := by decide +kernel
theorem dX8_addDoor_55 : decode cX8_addDoor 55 = .ok (.iastore, 1) := by decide +kernel
theorem dX8_addDoor_56 : decode cX8_addDoor 56 = .ok (.aload_n 0, 1) := by decide +kernel
theorem dX8_addDoor_57 : decode cX8_addDoor 57 = .ok (.getfield 16, 3) := by decide +kernel
theorem dX8_addDoor_60 : decode cX8_addDoor 60 = .ok (.iload_n 1, 1) := by decide +kernel
theorem dX8_addDoor_61 : decode cX8_addDoor 61 = .ok (.dup2, 1) := by decide +kernel
theorem dX8_addDoor_62 : decode cX8_addDoor 62 = .ok (.iaload, 1) := by decide +kernel
theorem dX8_addDoor_63 : decode cX8_addDoor 63 = .ok (.iconst 1, 1) := by decide +kernel
theorem dX8_addDoor_64 : decode cX8_addDoor 64 = .ok (.iadd, 1) := by decide +kernel
theorem dX8_addDoor_65 : decode cX8_addDoor 65 = .ok (.iastore, 1) := by decide +kernel
theorem dX8_isDoorAt_0 : decode cX8_isDoorAt 0 = .ok (.aload_n 0, 1) := by decide +kernel
theorem dX8_isDoorAt_1 : decode cX8_isDoorAt 1 = .ok (.iload_n 1, 1) := by decide +kernel
theorem dX8_isDoorAt_2 : decode cX8_isDoorAt 2 = .ok (.iload_n 2, 1) := by decide +kernel
theorem dX8_isDoorAt_3 : decode cX8_isDoorAt 3 = .ok (.invokevirtual 52, 3) := by decide +kernel
theorem dX8_isDoorAt_6 : decode cX8_isDoorAt 6 = .ok (.iload_n 3, 1) := by decide +kernel
theorem dX8_isDoorAt_7 : decode cX8_isDoorAt 7 = .ok (.if_icmp .gt 17, 3) := by decide +kernel
theorem dX8_isDoorAt_24 : decode cX8_isDoorAt 24 = .ok (.iconst 0, 1) := by decide +kernel
theorem dX8_isDoorAt_25 : decode cX8_isDoorAt 25 = .ok (.ireturn, 1) := by decide +kernel
theorem dX8_isDoorAt_10 : decode cX8_isDoorAt 10 = .ok (.iload_n 3, 1) := by decide +kernel
theorem dX8_isDoorAt_11 : decode cX8_isDoorAt 11 = .ok (.aload_n 0, 1) := by decide +kernel
theorem dX8_isDoorAt_12 : decode cX8_isDoorAt 12 = .ok (.iload_n 1, 1) := by decide +kernel
theorem dX8_isDoorAt_13 : decode cX8_isDoorAt 13 = .ok (.iload_n 2, 1) := by decide +kernel
theorem dX8_isDoorAt_14 : decode cX8_isDoorAt 14 = .ok (.invokevirtual 55, 3) := by decide +kernel
theorem dX8_isDoorAt_17 : decode cX8_isDoorAt 17 = .ok (.if_icmp .ge 7, 3) := by decide +kernel
theorem dX8_isDoorAt_20 : decode cX8_isDoorAt 20 = .ok (.iconst 1, 1) := by decide +kernel
theorem dX8_isDoorAt_21 : decode cX8_isDoorAt 21 = .ok (.goto 4, 3) := by decide +kernel
theorem dX8_hasDoorAt_0 : decode cX8_hasDoorAt 0 = .ok (.iconst 0, 1) := by decide +kernel
theorem dX8_hasDoorAt_1 : decode cX8_hasDoorAt 1 = .ok (.istore_n 3, 1) := by decide +kernel
theorem dX8_hasDoorAt_2 : decode cX8_hasDoorAt 2 = .ok (.iload_n 3, 1) := by decide +kernel
theorem dX8_hasDoorAt_3 : decode cX8_hasDoorAt 3 = .ok (.aload_n 0, 1) := by decide +kernel
theorem dX8_hasDoorAt_4 : decode cX8_hasDoorAt 4 = .ok (.getfield 16, 3) := by decide +kernel
theorem dX8_hasDoorAt_7 : decode cX8_hasDoorAt 7 = .ok (.iload_n 1, 1) := by decide +kernel
theorem dX8_hasDoorAt_8 : decode cX8_hasDoorAt 8 = .ok (.iaload, 1) := by decide +kernel
theorem dX8_hasDoorAt_9 : decode cX8_hasDoorAt 9 = .ok (.if_icmp .ge 21, 3) := by decide +kernel
theorem dX8_hasDoorAt_12 : decode cX8_hasDoorAt 12 = .ok (.aload_n 0, 1) := by decide +kernel
theorem dX8_hasDoorAt_13 : decode cX8_hasDoorAt 13 = .ok (.iload_n 1, 1) := by decide +kernel
theorem dX8_hasDoorAt_14 : decode cX8_hasDoorAt 14 = .ok (.iload_n 3, 1) := by decide +kernel
theorem dX8_hasDoorAt_15 : decode cX8_hasDoorAt 15 = .ok (.iload_n 2, 1) := by decide +kernel
theorem dX8_hasDoorAt_16 : decode cX8_hasDoorAt 16 = .ok (.invokevirtual 48, 3) := by decide +kernel
theorem dX8_hasDoorAt_19 : decode cX8_hasDoorAt 19 = .ok (.ifCond .eq 5, 3) := by decide +kernel
theorem dX8_hasDoorAt_24 : decode cX8_hasDoorAt 24 = .ok (.iinc 3 1, 3) := by decide +kernel
theorem dX8_hasDoorAt_27 : decode cX8_hasDoorAt 27 = .ok (.goto (-25), 3) := by decide +kernel
theorem dX8_hasDoorAt_22 : decode cX8_hasDoorAt 22 = .ok (.iconst 1, 1) := by decide +kernel
theorem dX8_hasDoorAt_23 : decode cX8_hasDoorAt 23 = .ok (.ireturn, 1) := by decide +kernel
theorem dX8_hasDoorAt_30 : decode cX8_hasDoorAt 30 = .ok (.iconst 0, 1) := by decide +kernel
theorem dX8_hasDoorAt_31 : decode cX8_hasDoorAt 31 = .ok (.ireturn, 1) := by decide +kernel
theorem dX8_rateOf_0 : decode cX8_rateOf 0 = .ok (.aload_n 0, 1) := by decide +kernel
theorem dX8_rateOf_1 : decode cX8_rateOf 1 = .ok (.getfield 20, 3) := by decide +kernel
theorem dX8_rateOf_4 : decode cX8_rateOf 4 = .ok (.iload_n 1, 1) := by decide +kernel
theorem dX8_rateOf_5 : decode cX8_rateOf 5 = .ok (.aaload, 1) := by decide +kernel
theorem dX8_rateOf_6 : decode cX8_rateOf 6 = .ok (.iconst 3, 1) := by decide +kernel
theorem dX8_rateOf_7 : decode cX8_rateOf 7 = .ok (.iload_n 2, 1) := by decide +kernel
theorem dX8_rateOf_8 : decode cX8_rateOf 8 = .ok (.imul, 1) := by decide +kernel
theorem dX8_rateOf_9 : decode cX8_rateOf 9 = .ok (.iconst 2, 1) := by decide +kernel
theorem dX8_rateOf_10 : decode cX8_rateOf 10 = .ok (.iadd, 1) := by decide +kernel
theorem dX8_rateOf_11 : decode cX8_rateOf 11 = .ok (.iaload, 1) := by decide +kernel
theorem dX8_rateOf_12 : decode cX8_rateOf 12 = .ok (.ireturn, 1) := by decide +kernel
theorem dX9_init_0 : decode cX9_init 0 = .ok (.aload_n 0, 1) := by decide +kernel
theorem dX9_init_1 : decode cX9_init 1 = .ok (.invokespecial 3, 3) := by decide +kernel
theorem dX9_init_4 : decode cX9_init 4 = .ok (.aload_n 0, 1) := by decide +kernel
theorem dX9_init_5 : decode cX9_init 5 = .ok (.bipush 40, 2) := by decide +kernel
theorem dX9_init_7 : decode cX9_init 7 = .ok (.newarray .int, 2) := by decide +kernel
theorem dX9_init_9 : decode cX9_init 9 = .ok (.putfield 11, 3) := by decide +kernel
theorem dX9_init_12 : decode cX9_init 12 = .ok (.aload_n 0, 1) := by decide +kernel
theorem dX9_init_13 : decode cX9_init 13 = .ok (.bipush 40, 2) := by decide +kernel
theorem dX9_init_15 : decode cX9_init 15 = .ok (.newarray .int, 2) := by decide +kernel
theorem dX9_init_17 : decode cX9_init 17 = .ok (.putfield 15, 3) := by decide +kernel
theorem dX9_init_20 : decode cX9_init 20 = .ok (.aload_n 0, 1) := by decide +kernel
theorem dX9_init_21 : decode cX9_init 21 = .ok (.bipush 40, 2) := by decide +kernel
theorem dX9_init_23 : decode cX9_init 23 = .ok (.newarray .int, 2) := by decide +kernel
theorem dX9_init_25 : decode cX9_init 25 = .ok (.putfield 18, 3) := by decide +kernel
theorem dX9_init_28 : decode cX9_init 28 = .ok (.aload_n 0, 1) := by decide +kernel
theorem dX9_init_29 : decode cX9_init 29 = .ok (.bipush 40, 2) := by decide +kernel
theorem dX9_init_31 : decode cX9_init 31 = .ok (.newarray .int, 2) := by decide +kernel
theorem dX9_init_33 : decode cX9_init 33 = .ok (.putfield 21, 3) := by decide +kernel
theorem dX9_init_36 : decode cX9_init 36 = .ok (.aload_n 0, 1) := by decide +kernel
theorem dX9_init_37 : decode cX9_init 37 = .ok (.bipush 40, 2) := by decide +kernel
theorem dX9_init_39 : decode cX9_init 39 = .ok (.iconst 3, 1) := by decide +kernel
theorem dX9_init_40 : decode cX9_init 40 = .ok (.multianewarray 24 2, 4) := by decide +kernel
theorem dX9_init_44 : decode cX9_init 44 = .ok (.putfield 26, 3) := by decide +kernel
theorem dX9_init_47 : decode cX9_init 47 = .ok (.aload_n 0, 1) := by decide +kernel
theorem dX9_init_48 : decode cX9_init 48 = .ok (.bipush 40, 2) := by decide +kernel
theorem dX9_init_50 : decode cX9_init 50 = .ok (.newarray .int, 2) := by decide +kernel
theorem dX9_init_52 : decode cX9_init 52 = .ok (.putfield 29, 3) := by decide +kernel
theorem dX9_init_55 : decode cX9_init 55 = .ok (.aload_n 0, 1) := by decide +kernel
theorem dX9_init_56 : decode cX9_init 56 = .ok (.bipush 40, 2) := by decide +kernel
theorem dX9_init_58 : decode cX9_init 58 = .ok (.iconst 2, 1) := by decide +kernel
theorem dX9_init_59 : decode cX9_init 59 = .ok (.multianewarray 24 2, 4) := by decide +kernel
theorem dX9_init_63 : decode cX9_init 63 = .ok (.putfield 32, 3) := by decide +kernel
theorem dX9_init_66 : decode cX9_init 66 = .ok (.aload_n 0, 1) := by decide +kernel
theorem dX9_init_67 : decode cX9_init 67 = .ok (.bipush 40, 2) := by decide +kernel
theorem dX9_init_69 : decode cX9_init 69 = .ok (.bipush 8, 2) := by decide +kernel
theorem dX9_init_71 : decode cX9_init 71 = .ok (.multianewarray 24 2, 4) := by decide +kernel
theorem dX9_init_75 : decode cX9_init 75 = .ok (.putfield 35, 3) := by decide +kernel
theorem dX9_init_78 : decode cX9_init 78 = .ok (.aload_n 0, 1) := by decide +kernel
theorem dX9_init_79 : decode cX9_init 79 = .ok (.bipush 40, 2) := by decide +kernel
theorem dX9_init_81 : decode cX9_init 81 = .ok (.newarray .boolean, 2) := by decide +kernel
theorem dX9_init_83 : decode cX9_init 83 = .ok (.putfield 38, 3) := by decide +kernel
theorem dX9_init_86 : decode cX9_init 86 = .ok (.aload_n 0, 1) := by decide +kernel
theorem dX9_init_87 : decode cX9_init 87 = .ok (.bipush 40, 2) := by decide +kernel
theorem dX9_init_89 : decode cX9_init 89 = .ok (.newarray .int, 2) := by decide +kernel
theorem dX9_init_91 : decode cX9_init 91 = .ok (.putfield 42, 3) := by decide +kernel
theorem dX9_init_94 : decode cX9_init 94 = .ok (.aload_n 0, 1) := by decide +kernel
theorem dX9_init_95 : decode cX9_init 95 = .ok (.bipush 40, 2) := by decide +kernel
theorem dX9_init_97 : decode cX9_init 97 = .ok (.newarray .int, 2) := by decide +kernel
theorem dX9_init_99 : decode cX9_init 99 = .ok (.putfield 45, 3) := by decide +kernel
theorem dX9_init_102 : decode cX9_init 102 = .ok (.aload_n 0, 1) := by decide +kernel
theorem dX9_init_103 : decode cX9_init 103 = .ok (.bipush 10, 2) := by decide +kernel
theorem dX9_init_105 : decode cX9_init 105 = .ok (.newarray .int, 2) := by decide +kernel
theorem dX9_init_107 : decode cX9_init 107 = .ok (.putfield 48, 3) := by decide +kernel
theorem dX9_init_110 : decode cX9_init 110 = .ok (.aload_n 0, 1) := by decide +kernel
theorem dX9_init_111 : decode cX9_init 111 = .ok (.bipush 40, 2) := by decide +kernel
theorem dX9_init_113 : decode cX9_init 113 = .ok (.newarray .int, 2) := by decide +kernel
theorem dX9_init_115 : decode cX9_init 115 = .ok (.putfield 51, 3) := by decide +kernel
theorem dX9_init_118 : decode cX9_init 118 = .ok (.aload_n 0, 1) := by decide +kernel
theorem dX9_init_119 : decode cX9_init 119 = .ok (.bipush 40, 2) := by decide +kernel
theorem dX9_init_121 : decode cX9_init 121 = .ok (.newarray .int, 2) := by decide +kernel
theorem dX9_init_123 : decode cX9_init 123 = .ok (.putfield 54, 3) := by decide +kernel
theorem dX9_init_126 : decode cX9_init 126 = .ok (.aload_n 0, 1) := by decide +kernel
theorem dX9_init_127 : decode cX9_init 127 = .ok (.iconst 4, 1) := by decide +kernel
theorem dX9_init_128 : decode cX9_init 128 = .ok (.newarray .int, 2) := by decide +kernel
theorem dX9_init_130 : decode cX9_init 130 = .ok (.putfield 57, 3) := by decide +kernel
theorem dX9_init_133 : decode cX9_init 133 = .ok (.return_, 1) := by decide +kernel
theorem dX9_addBlock_0 : decode cX9_addBlock 0 = .ok (.aload_n 0, 1) := by decide +kernel
theorem dX9_addBlock_1 : decode cX9_addBlock 1 = .ok (.getfield 60, 3) := by decide +kernel
theorem dX9_addBlock_4 : decode cX9_addBlock 4 = .ok (.bipush 40, 2) := by decide +kernel
theorem dX9_addBlock_6 : decode cX9_addBlock 6 = .ok (.if_icmp .lt 5, 3) := by decide +kernel
theorem dX9_addBlock_11 : decode cX9_addBlock 11 = .ok (.aload_n 0, 1) := by decide +kernel
theorem dX9_addBlock_12 : decode cX9_addBlock 12 = .ok (.getfield 11, 3) := by decide +kernel
theorem dX9_addBlock_15 : decode cX9_addBlock 15 = .ok (.aload_n 0, 1) := by decide +kernel
theorem dX9_addBlock_16 : decode cX9_addBlock 16 = .ok (.getfield 60, 3) := by decide +kernel
theorem dX9_addBlock_19 : decode cX9_addBlock 19 = .ok (.iload_n 1, 1) := by decide +kernel
theorem dX9_addBlock_20 : decode cX9_addBlock 20 = .ok (.iastore, 1) := by decide +kernel
theorem dX9_addBlock_21 : decode cX9_addBlock 21 = .ok (.aload_n 0, 1) := by decide +kernel
theorem dX9_addBlock_22 : decode cX9_addBlock 22 = .ok (.getfield 26, 3) := by decide +kernel
theorem dX9_addBlock_25 : decode cX9_addBlock 25 = .ok (.aload_n 0, 1) := by decide +kernel
theorem dX9_addBlock_26 : decode cX9_addBlock 26 = .ok (.getfield 60, 3) := by decide +kernel
theorem dX9_addBlock_29 : decode cX9_addBlock 29 = .ok (.aaload, 1) := by decide +kernel
theorem dX9_addBlock_30 : decode cX9_addBlock 30 = .ok (.iconst (-1), 1) := by decide +kernel
theorem dX9_addBlock_31 : decode cX9_addBlock 31 = .ok (.invokestatic 64, 3) := by decide +kernel
theorem dX9_addBlock_34 : decode cX9_addBlock 34 = .ok (.aload_n 0, 1) := by decide +kernel
theorem dX9_addBlock_35 : decode cX9_addBlock 35 = .ok (.getfield 45, 3) := by decide +kernel
theorem dX9_addBlock_38 : decode cX9_addBlock 38 = .ok (.aload_n 0, 1) := by decide +kernel
theorem dX9_addBlock_39 : decode cX9_addBlock 39 = .ok (.getfield 60, 3) := by decide +kernel
theorem dX9_addBlock_42 : decode cX9_addBlock 42 = .ok (.iconst (-1), 1) := by decide +kernel
theorem dX9_addBlock_43 : decode cX9_addBlock 43 = .ok (.iastore, 1) := by decide +kernel
theorem dX9_addBlock_44 : decode cX9_addBlock 44 = .ok (.aload_n 0, 1) := by decide +kernel
theorem dX9_addBlock_45 : decode cX9_addBlock 45 = .ok (.iconst 0, 1) := by decide +kernel
theorem dX9_addBlock_46 : decode cX9_addBlock 46 = .ok (.putfield 70, 3) := by decide +kernel
theorem dX9_addBlock_49 : decode cX9_addBlock 49 = .ok (.aload_n 0, 1) := by decide +kernel
theorem dX9_addBlock_50 : decode cX9_addBlock 50 = .ok (.dup, 1) := by decide +kernel
theorem dX9_addBlock_51 : decode cX9_addBlock 51 = .ok (.getfield 60, 3) := by decide +kernel
theorem dX9_addBlock_54 : decode cX9_addBlock 54 = .ok (.iconst 1, 1) := by decide +kernel
theorem dX9_addBlock_55 : decode cX9_addBlock 55 = .ok (.iadd, 1) := by decide +kernel
theorem dX9_addBlock_56 : decode cX9_addBlock 56 = .ok (.putfield 60, 3) := by decide +kernel
theorem dX9_addBlock_59 : decode cX9_addBlock 59 = .ok (.aload_n 0, 1) := by decide +kernel
theorem dX9_addBlock_60 : decode cX9_addBlock 60 = .ok (.getfield 60, 3) := by decide +kernel
theorem dX9_addBlock_63 : decode cX9_addBlock 63 = .ok (.iconst 1, 1) := by decide +kernel
theorem dX9_addBlock_64 : decode cX9_addBlock 64 = .ok (.isub, 1) := by decide +kernel
theorem dX9_addBlock_65 : decode cX9_addBlock 65 = .ok (.ireturn, 1) := by decide +kernel
theorem dX9_addBlock_9 : decode cX9_addBlock 9 = .ok (.iconst (-1), 1) := by decide +kernel
theorem dX9_addBlock_10 : decode cX9_addBlock 10 = .ok (.ireturn, 1) := by decide +kernel
theorem dX9_setInput_0 : decode cX9_setInput 0 = .ok (.aload_n 0, 1) := by decide +kernel
theorem dX9_setInput_1 : decode cX9_setInput 1 = .ok (.getfield 26, 3) := by decide +kernel
theorem dX9_setInput_4 : decode cX9_setInput 4 = .ok (.iload_n 1, 1) := by decide +kernel
theorem dX9_setInput_5 : decode cX9_setInput 5 = .ok (.aaload, 1) := by decide +kernel
theorem dX9_setInput_6 : decode cX9_setInput 6 = .ok (.iload_n 2, 1) := by decide +kernel
theorem dX9_setInput_7 : decode cX9_setInput 7 = .ok (.iaload, 1) := by decide +kernel
theorem dX9_setInput_8 : decode cX9_setInput 8 = .ok (.istore 4, 2) := by decide +kernel
theorem dX9_setInput_10 : decode cX9_setInput 10 = .ok (.aload_n 0, 1) := by decide +kernel
theorem dX9_setInput_11 : decode cX9_setInput 11 = .ok (.getfield 26, 3) := by decide +kernel
theorem dX9_setInput_14 : decode cX9_setInput 14 = .ok (.iload_n 1, 1) := by decide +kernel
theorem dX9_setInput_15 : decode cX9_setInput 15 = .ok (.aaload, 1) := by decide +kernel
theorem dX9_setInput_16 : decode cX9_setInput 16 = .ok (.iload_n 2, 1) := by decide +kernel
theorem dX9_setInput_17 : decode cX9_setInput 17 = .ok (.iload_n 3, 1) := by decide +kernel
theorem dX9_setInput_18 : decode cX9_setInput 18 = .ok (.iastore, 1) := by decide +kernel
theorem dX9_setInput_19 : decode cX9_setInput 19 = .ok (.aload_n 0, 1) := by decide +kernel
theorem dX9_setInput_20 : decode cX9_setInput 20 = .ok (.iconst 0, 1) := by decide +kernel
theorem dX9_setInput_21 : decode cX9_setInput 21 = .ok (.putfield 70, 3) := by decide +kernel
theorem dX9_setInput_24 : decode cX9_setInput 24 = .ok (.iload 4, 2) := by decide +kernel
theorem dX9_setInput_26 : decode cX9_setInput 26 = .ok (.ireturn, 1) := by decide +kernel
theorem dX9_mayCome_0 : decode cX9_mayCome 0 = .ok (.aload_n 0, 1) := by decide +kernel
theorem dX9_mayCome_1 : decode cX9_mayCome 1 = .ok (.getfield 11, 3) := by decide +kernel
theorem dX9_mayCome_4 : decode cX9_mayCome 4 = .ok (.iload_n 1, 1) := by decide +kernel
theorem dX9_mayCome_5 : decode cX9_mayCome 5 = .ok (.iaload, 1) := by decide +kernel
theorem dX9_mayCome_6 : decode cX9_mayCome 6 = .ok (.bipush 16, 2) := by decide +kernel
theorem dX9_mayCome_8 : decode cX9_mayCome 8 = .ok (.if_icmp .ne 5, 3) := by decide +kernel
theorem dX9_mayCome_13 : decode cX9_mayCome 13 = .ok (.iconst 0, 1) := by decide +kernel
theorem dX9_mayCome_14 : decode cX9_mayCome 14 = .ok (.istore_n 2, 1) := by decide +kernel
theorem dX9_mayCome_15 : decode cX9_mayCome 15 = .ok (.iload_n 2, 1) := by decide +kernel
theorem dX9_mayCome_16 : decode cX9_mayCome 16 = .ok (.getstatic 92, 3) := by decide +kernel
theorem dX9_mayCome_19 : decode cX9_mayCome 19 = .ok (.aload_n 0, 1) := by decide +kernel
theorem dX9_mayCome_20 : decode cX9_mayCome 20 = .ok (.getfield 11, 3) := by decide +kernel
theorem dX9_mayCome_23 : decode cX9_mayCome 23 = .ok (.iload_n 1, 1) := by decide +kernel
theorem dX9_mayCome_24 : decode cX9_mayCome 24 = .ok (.iaload, 1) := by decide +kernel
theorem dX9_mayCome_25 : decode cX9_mayCome 25 = .ok (.iaload, 1) := by decide +kernel
theorem dX9_mayCome_26 : decode cX9_mayCome 26 = .ok (.if_icmp .ge 35, 3) := by decide +kernel
theorem dX9_mayCome_29 : decode cX9_mayCome 29 = .ok (.aload_n 0, 1) := by decide +kernel
theorem dX9_mayCome_30 : decode cX9_mayCome 30 = .ok (.getfield 26, 3) := by decide +kernel
theorem dX9_mayCome_33 : decode cX9_mayCome 33 = .ok (.iload_n 1, 1) := by decide +kernel
theorem dX9_mayCome_34 : decode cX9_mayCome 34 = .ok (.aaload, 1) := by decide +kernel
theorem dX9_mayCome_35 : decode cX9_mayCome 35 = .ok (.iload_n 2, 1) := by decide +kernel
theorem dX9_mayCome_36 : decode cX9_mayCome 36 = .ok (.iaload, 1) := by decide +kernel
theorem dX9_mayCome_37 : decode cX9_mayCome 37 = .ok (.istore_n 3, 1) := by decide +kernel
theorem dX9_mayCome_38 : decode cX9_mayCome 38 = .ok (.iload_n 3, 1) := by decide +kernel
theorem dX9_mayCome_39 : decode cX9_mayCome 39 = .ok (.iconst (-1), 1) := by decide +kernel
theorem dX9_mayCome_40 : decode cX9_mayCome 40 = .ok (.if_icmp .eq 15, 3) := by decide +kernel
theorem dX9_mayCome_55 : decode cX9_mayCome 55 = .ok (.iinc 2 1, 3) := by decide +kernel
theorem dX9_mayCome_58 : decode cX9_mayCome 58 = .ok (.goto (-43), 3) := by decide +kernel
theorem dX9_mayCome_43 : decode cX9_mayCome 43 = .ok (.aload_n 0, 1) := by decide +kernel
theorem dX9_mayCome_44 : decode cX9_mayCome 44 = .ok (.getfield 54, 3) := by decide +kernel
theorem dX9_mayCome_47 : decode cX9_mayCome 47 = .ok (.iload_n 3, 1) := by decide +kernel
theorem dX9_mayCome_48 : decode cX9_mayCome 48 = .ok (.iaload, 1) := by decide +kernel
theorem dX9_mayCome_49 : decode cX9_mayCome 49 = .ok (.iconst (-1), 1) := by decide +kernel
theorem dX9_mayCome_50 : decode cX9_mayCome 50 = .ok (.if_icmp .ne 5, 3) := by decide +kernel
theorem dX9_mayCome_53 : decode cX9_mayCome 53 = .ok (.iconst 0, 1) := by decide +kernel
theorem dX9_mayCome_54 : decode cX9_mayCome 54 = .ok (.ireturn, 1) := by decide +kernel
theorem dX9_mayCome_61 : decode cX9_mayCome 61 = .ok (.iconst 1, 1) := by decide +kernel
theorem dX9_mayCome_62 : decode cX9_mayCome 62 = .ok (.ireturn, 1) := by decide +kernel
theorem dX9_mayCome_11 : decode cX9_mayCome 11 = .ok (.iconst 1, 1) := by decide +kernel
theorem dX9_mayCome_12 : decode cX9_mayCome 12 = .ok (.ireturn, 1) := by decide +kernel
theorem dX9_leastThatMayCome_0 : decode cX9_leastThatMayCome 0 = .ok (.iconst 0, 1) := by decide +kernel
theorem dX9_leastThatMayCome_1 : decode cX9_leastThatMayCome 1 = .ok (.istore_n 1, 1) := by decide +kernel
theorem dX9_leastThatMayCome_2 : decode cX9_leastThatMayCome 2 = .ok (.iload_n 1, 1) := by decide +kernel
theorem dX9_leastThatMayCome_3 : decode cX9_leastThatMayCome 3 = .ok (.aload_n 0, 1) := by decide +kernel
theorem dX9_leastThatMayCome_4 : decode cX9_leastThatMayCome 4 = .ok (.getfield 60, 3) := by decide +kernel
theorem dX9_leastThatMayCome_7 : decode cX9_leastThatMayCome 7 = .ok (.if_icmp .ge 29, 3) := by decide +kernel
theorem dX9_leastThatMayCome_10 : decode cX9_leastThatMayCome 10 = .ok (.aload_n 0, 1) := by decide +kernel
theorem dX9_leastThatMayCome_11 : decode cX9_leastThatMayCome 11 = .ok (.getfield 54, 3) := by decide +kernel
theorem dX9_leastThatMayCome_14 : decode cX9_leastThatMayCome 14 = .ok (.iload_n 1, 1) := by decide +kernel
theorem dX9_leastThatMayCome_15 : decode cX9_leastThatMayCome 15 = .ok (.iaload, 1) := by decide +kernel
theorem dX9_leastThatMayCome_16 : decode cX9_leastThatMayCome 16 = .ok (.iconst (-1), 1) := by decide +kernel
theorem dX9_leastThatMayCome_17 : decode cX9_leastThatMayCome 17 = .ok (.if_icmp .ne 13, 3) := by decide +kernel
theorem dX9_leastThatMayCome_30 : decode cX9_leastThatMayCome 30 = .ok (.iinc 1 1, 3) := by decide +kernel
theorem dX9_leastThatMayCome_33 : decode cX9_leastThatMayCome 33 = .ok (.goto (-31), 3) := by decide +kernel
theorem dX9_leastThatMayCome_20 : decode cX9_leastThatMayCome 20 = .ok (.aload_n 0, 1) := by decide +kernel
theorem dX9_leastThatMayCome_21 : decode cX9_leastThatMayCome 21 = .ok (.iload_n 1, 1) := by decide +kernel
theorem dX9_leastThatMayCome_22 : decode cX9_leastThatMayCome 22 = .ok (.invokevirtual 88, 3) := by decide +kernel
theorem dX9_leastThatMayCome_25 : decode cX9_leastThatMayCome 25 = .ok (.ifCond .eq 5, 3) := by decide +kernel
theorem dX9_leastThatMayCome_28 : decode cX9_leastThatMayCome 28 = .ok (.iload_n 1, 1) := by decide +kernel
theorem dX9_leastThatMayCome_29 : decode cX9_leastThatMayCome 29 = .ok (.ireturn, 1) := by decide +kernel
theorem dX9_leastThatMayCome_36 : decode cX9_leastThatMayCome 36 = .ok (.iconst (-1), 1) := by decide +kernel
theorem dX9_leastThatMayCome_37 : decode cX9_leastThatMayCome 37 = .ok (.ireturn, 1) := by decide +kernel
theorem dX9_place_0 : decode cX9_place 0 = .ok (.aload_n 0, 1) := by decide +kernel
theorem dX9_place_1 : decode cX9_place 1 = .ok (.getfield 54, 3) := by decide +kernel
theorem dX9_place_4 : decode cX9_place 4 = .ok (.iload_n 1, 1) := by decide +kernel
theorem dX9_place_5 : decode cX9_place 5 = .ok (.iload_n 2, 1) := by decide +kernel
theorem dX9_place_6 : decode cX9_place 6 = .ok (.iastore, 1) := by decide +kernel
theorem dX9_place_7 : decode cX9_place 7 = .ok (.aload_n 0, 1) := by decide +kernel
theorem dX9_place_8 : decode cX9_place 8 = .ok (.getfield 51, 3) := by decide +kernel
theorem dX9_place_11 : decode cX9_place 11 = .ok (.iload_n 2, 1) := by decide +kernel
theorem dX9_place_12 : decode cX9_place 12 = .ok (.iload_n 1, 1) := by decide +kernel
theorem dX9_place_13 : decode cX9_place 13 = .ok (.iastore, 1) := by decide +kernel
theorem dX9_place_14 : decode cX9_place 14 = .ok (.return_, 1) := by decide +kernel
theorem dX9_sortBlocks_0 : decode cX9_sortBlocks 0 = .ok (.aload_n 0, 1) := by decide +kernel
theorem dX9_sortBlocks_1 : decode cX9_sortBlocks 1 = .ok (.getfield 70, 3) := by decide +kernel
theorem dX9_sortBlocks_4 : decode cX9_sortBlocks 4 = .ok (.ifCond .eq 4, 3) := by decide +kernel
theorem dX9_sortBlocks_8 : decode cX9_sortBlocks 8 = .ok (.aload_n 0, 1) := by decide +kernel
theorem dX9_sortBlocks_9 : decode cX9_sortBlocks 9 = .ok (.getfield 54, 3) := by decide +kernel
theorem dX9_sortBlocks_12 : decode cX9_sortBlocks 12 = .ok (.iconst (-1), 1) := by decide +kernel
theorem dX9_sortBlocks_13 : decode cX9_sortBlocks 13 = .ok (.invokestatic 64, 3) := by decide +kernel
theorem dX9_sortBlocks_16 : decode cX9_sortBlocks 16 = .ok (.aload_n 0, 1) := by decide +kernel
theorem dX9_sortBlocks_17 : decode cX9_sortBlocks 17 = .ok (.iconst 0, 1) := by decide +kernel
theorem dX9_sortBlocks_18 : decode cX9_sortBlocks 18 = .ok (.putfield 77, 3) := by decide +kernel
theorem dX9_sortBlocks_21 : decode cX9_sortBlocks 21 = .ok (.iconst 0, 1) := by decide +kernel
theorem dX9_sortBlocks_22 : decode cX9_sortBlocks 22 = .ok (.istore_n 1, 1) := by decide +kernel
theorem dX9_sortBlocks_23 : decode cX9_sortBlocks 23 = .ok (.iload_n 1, 1) := by decide +kernel
theorem dX9_sortBlocks_24 : decode cX9_sortBlocks 24 = .ok (.aload_n 0, 1) := by decide +kernel
theorem dX9_sortBlocks_25 : decode cX9_sortBlocks 25 = .ok (.getfield 60, 3) := by decide +kernel
theorem dX9_sortBlocks_28 : decode cX9_sortBlocks 28 = .ok (.if_icmp .ge 38, 3) := by decide +kernel
theorem dX9_sortBlocks_31 : decode cX9_sortBlocks 31 = .ok (.aload_n 0, 1) := by decide +kernel
theorem dX9_sortBlocks_32 : decode cX9_sortBlocks 32 = .ok (.invokevirtual 80, 3) := by decide +kernel
theorem dX9_sortBlocks_35 : decode cX9_sortBlocks 35 = .ok (.istore_n 2, 1) := by decide +kernel
theorem dX9_sortBlocks_36 : decode cX9_sortBlocks 36 = .ok (.iload_n 2, 1) := by decide +kernel
theorem dX9_sortBlocks_37 : decode cX9_sortBlocks 37 = .ok (.iconst (-1), 1) := by decide +kernel
theorem dX9_sortBlocks_38 : decode cX9_sortBlocks 38 = .ok (.if_icmp .eq 22, 3) := by decide +kernel
theorem dX9_sortBlocks_60 : decode cX9_sortBlocks 60 = .ok (.iinc 1 1, 3) := by decide +kernel
theorem dX9_sortBlocks_63 : decode cX9_sortBlocks 63 = .ok (.goto (-40), 3) := by decide +kernel
theorem dX9_sortBlocks_41 : decode cX9_sortBlocks 41 = .ok (.aload_n 0, 1) := by decide +kernel
theorem dX9_sortBlocks_42 : decode cX9_sortBlocks 42 = .ok (.iload_n 2, 1) := by decide +kernel
theorem dX9_sortBlocks_43 : decode cX9_sortBlocks 43 = .ok (.aload_n 0, 1) := by decide +kernel
theorem dX9_sortBlocks_44 : decode cX9_sortBlocks 44 = .ok (.getfield 77, 3) := by decide +kernel
theorem dX9_sortBlocks_47 : decode cX9_sortBlocks 47 = .ok (.invokevirtual 84, 3) := by decide +kernel
theorem dX9_sortBlocks_50 : decode cX9_sortBlocks 50 = .ok (.aload_n 0, 1) := by decide +kernel
theorem dX9_sortBlocks_51 : decode cX9_sortBlocks 51 = .ok (.dup, 1) := by decide +kernel
theorem dX9_sortBlocks_52 : decode cX9_sortBlocks 52 = .ok (.getfield 77, 3) := by decide +kernel
theorem dX9_sortBlocks_55 : decode cX9_sortBlocks 55 = .ok (.iconst 1, 1) := by decide +kernel
theorem dX9_sortBlocks_56 : decode cX9_sortBlocks 56 = .ok (.iadd, 1) := by decide +kernel
theorem dX9_sortBlocks_57 : decode cX9_sortBlocks 57 = .ok (.putfield 77, 3) := by decide +kernel
theorem dX9_sortBlocks_66 : decode cX9_sortBlocks 66 = .ok (.aload_n 0, 1) := by decide +kernel
theorem dX9_sortBlocks_67 : decode cX9_sortBlocks 67 = .ok (.getfield 77, 3) := by decide +kernel
theorem dX9_sortBlocks_70 : decode cX9_sortBlocks 70 = .ok (.istore_n 1, 1) := by decide +kernel
theorem dX9_sortBlocks_71 : decode cX9_sortBlocks 71 = .ok (.iconst 0, 1) := by decide +kernel
theorem dX9_sortBlocks_72 : decode cX9_sortBlocks 72 = .ok (.istore_n 2, 1) := by decide +kernel
theorem dX9_sortBlocks_73 : decode cX9_sortBlocks 73 = .ok (.iload_n 2, 1) := by decide +kernel
theorem dX9_sortBlocks_74 : decode cX9_sortBlocks 74 = .ok (.aload_n 0, 1) := by decide +kernel
theorem dX9_sortBlocks_75 : decode cX9_sortBlocks 75 = .ok (.getfield 60, 3) := by decide +kernel
theorem dX9_sortBlocks_78 : decode cX9_sortBlocks 78 = .ok (.if_icmp .ge 28, 3) := by decide +kernel
theorem dX9_sortBlocks_81 : decode cX9_sortBlocks 81 = .ok (.aload_n 0, 1) := by decide +kernel
theorem dX9_sortBlocks_82 : decode cX9_sortBlocks 82 = .ok (.getfield 54, 3) := by decide +kernel
theorem dX9_sortBlocks_85 : decode cX9_sortBlocks 85 = .ok (.iload_n 2, 1) := by decide +kernel
theorem dX9_sortBlocks_86 : decode cX9_sortBlocks 86 = .ok (.iaload, 1) := by decide +kernel
theorem dX9_sortBlocks_87 : decode cX9_sortBlocks 87 = .ok (.iconst (-1), 1) := by decide +kernel
theorem dX9_sortBlocks_88 : decode cX9_sortBlocks 88 = .ok (.if_icmp .ne 12, 3) := by decide +kernel
theorem dX9_sortBlocks_100 : decode cX9_sortBlocks 100 = .ok (.iinc 2 1, 3) := by decide +kernel
theorem dX9_sortBlocks_103 : decode cX9_sortBlocks 103 = .ok (.goto (-30), 3) := by decide +kernel
theorem dX9_sortBlocks_91 : decode cX9_sortBlocks 91 = .ok (.aload_n 0, 1) := by decide +kernel
theorem dX9_sortBlocks_92 : decode cX9_sortBlocks 92 = .ok (.iload_n 2, 1) := by decide +kernel
theorem dX9_sortBlocks_93 : decode cX9_sortBlocks 93 = .ok (.iload_n 1, 1) := by decide +kernel
theorem dX9_sortBlocks_94 : decode cX9_sortBlocks 94 = .ok (.invokevirtual 84, 3) := by decide +kernel
theorem dX9_sortBlocks_97 : decode cX9_sortBlocks 97 = .ok (.iinc 1 1, 3) := by decide +kernel
theorem dX9_sortBlocks_106 : decode cX9_sortBlocks 106 = .ok (.aload_n 0, 1) := by decide +kernel
theorem dX9_sortBlocks_107 : decode cX9_sortBlocks 107 = .ok (.iconst 1, 1) := by decide +kernel
theorem dX9_sortBlocks_108 : decode cX9_sortBlocks 108 = .ok (.putfield 70, 3) := by decide +kernel
theorem dX9_sortBlocks_111 : decode cX9_sortBlocks 111 = .ok (.return_, 1) := by decide +kernel
theorem dX9_sortBlocks_7 : decode cX9_sortBlocks 7 = .ok (.return_, 1) := by decide +kernel
theorem dX9_blockFact_0 : decode cX9_blockFact 0 = .ok (.iload_n 2, 1) := by decide +kernel
theorem dX9_blockFact_1 : decode cX9_blockFact 1 = .ok (.tableswitch 52 0 2 #[27, 34, 43], 27) := by decide +kernel
theorem dX9_blockFact_53 : decode cX9_blockFact 53 = .ok (.aload_n 0, 1) := by decide +kernel
theorem dX9_blockFact_54 : decode cX9_blockFact 54 = .ok (.invokevirtual 74, 3) := by decide +kernel
theorem dX9_blockFact_57 : decode cX9_blockFact 57 = .ok (.aload_n 0, 1) := by decide +kernel
theorem dX9_blockFact_58 : decode cX9_blockFact 58 = .ok (.getfield 54, 3) := by decide +kernel
theorem dX9_blockFact_61 : decode cX9_blockFact 61 = .ok (.iload_n 1, 1) := by decide +kernel
theorem dX9_blockFact_62 : decode cX9_blockFact 62 = .ok (.iaload, 1) := by decide +kernel
theorem dX9_blockFact_63 : decode cX9_blockFact 63 = .ok (.ireturn, 1) := by decide +kernel
theorem dX9_blockFact_28 : decode cX9_blockFact 28 = .ok (.aload_n 0, 1) := by decide +kernel
theorem dX9_blockFact_29 : decode cX9_blockFact 29 = .ok (.getfield 29, 3) := by decide +kernel
theorem dX9_blockFact_32 : decode cX9_blockFact 32 = .ok (.iload_n 1, 1) := by decide +kernel
theorem dX9_blockFact_33 : decode cX9_blockFact 33 = .ok (.iaload, 1) := by decide +kernel
theorem dX9_blockFact_34 : decode cX9_blockFact 34 = .ok (.ireturn, 1) := by decide +kernel
theorem dX9_blockFact_35 : decode cX9_blockFact 35 = .ok (.aload_n 0, 1) := by decide +kernel
theorem dX9_blockFact_36 : decode cX9_blockFact 36 = .ok (.getfield 32, 3) := by decide +kernel
theorem dX9_blockFact_39 : decode cX9_blockFact 39 = .ok (.iload_n 1, 1) := by decide +kernel
theorem dX9_blockFact_40 : decode cX9_blockFact 40 = .ok (.aaload, 1) := by decide +kernel
theorem dX9_blockFact_41 : decode cX9_blockFact 41 = .ok (.iconst 0, 1) := by decide +kernel
theorem dX9_blockFact_42 : decode cX9_blockFact 42 = .ok (.iaload, 1) := by decide +kernel
theorem dX9_blockFact_43 : decode cX9_blockFact 43 = .ok (.ireturn, 1) := by decide +kernel
theorem dX9_blockFact_44 : decode cX9_blockFact 44 = .ok (.aload_n 0, 1) := by decide +kernel
theorem dX9_blockFact_45 : decode cX9_blockFact 45 = .ok (.getfield 32, 3) := by decide +kernel
theorem dX9_blockFact_48 : decode cX9_blockFact 48 = .ok (.iload_n 1, 1) := by decide +kernel
theorem dX9_blockFact_49 : decode cX9_blockFact 49 = .ok (.aaload, 1) := by decide +kernel
theorem dX9_blockFact_50 : decode cX9_blockFact 50 = .ok (.iconst 1, 1) := by decide +kernel
theorem dX9_blockFact_51 : decode cX9_blockFact 51 = .ok (.iaload, 1) := by decide +kernel
theorem dX9_blockFact_52 : decode cX9_blockFact 52 = .ok (.ireturn, 1) := by decide +kernel
theorem dX9_lacksInput_0 : decode cX9_lacksInput 0 = .ok (.iconst 0, 1) := by decide +kernel
theorem dX9_lacksInput_1 : decode cX9_lacksInput 1 = .ok (.istore_n 2, 1) := by decide +kernel
theorem dX9_lacksInput_2 : decode cX9_lacksInput 2 = .ok (.iload_n 2, 1) := by decide +kernel
theorem dX9_lacksInput_3 : decode cX9_lacksInput 3 = .ok (.getstatic 92, 3) := by decide +kernel
theorem dX9_lacksInput_6 : decode cX9_lacksInput 6 = .ok (.aload_n 0, 1) := by decide +kernel
theorem dX9_lacksInput_7 : decode cX9_lacksInput 7 = .ok (.getfield 11, 3) := by decide +kernel
theorem dX9_lacksInput_10 : decode cX9_lacksInput 10 = .ok (.iload_n 1, 1) := by decide +kernel
theorem dX9_lacksInput_11 : decode cX9_lacksInput 11 = .ok (.iaload, 1) := by decide +kernel
theorem dX9_lacksInput_12 : decode cX9_lacksInput 12 = .ok (.iaload, 1) := by decide +kernel
theorem dX9_lacksInput_13 : decode cX9_lacksInput 13 = .ok (.if_icmp .ge 23, 3) := by decide +kernel
theorem dX9_lacksInput_16 : decode cX9_lacksInput 16 = .ok (.aload_n 0, 1) := by decide +kernel
theorem dX9_lacksInput_17 : decode cX9_lacksInput 17 = .ok (.getfield 26, 3) := by decide +kernel
theorem dX9_lacksInput_20 : decode cX9_lacksInput 20 = .ok (.iload_n 1, 1) := by decide +kernel
theorem dX9_lacksInput_21 : decode cX9_lacksInput 21 = .ok (.aaload, 1) := by decide +kernel
theorem dX9_lacksInput_22 : decode cX9_lacksInput 22 = .ok (.iload_n 2, 1) := by decide +kernel
theorem dX9_lacksInput_23 : decode cX9_lacksInput 23 = .ok (.iaload, 1) := by decide +kernel
theorem dX9_lacksInput_24 : decode cX9_lacksInput 24 = .ok (.iconst (-1), 1) := by decide +kernel
theorem dX9_lacksInput_25 : decode cX9_lacksInput 25 = .ok (.if_icmp .ne 5, 3) := by decide +kernel
theorem dX9_lacksInput_30 : decode cX9_lacksInput 30 = .ok (.iinc 2 1, 3) := by decide +kernel
theorem dX9_lacksInput_33 : decode cX9_lacksInput 33 = .ok (.goto (-31), 3) := by decide +kernel
theorem dX9_lacksInput_28 : decode cX9_lacksInput 28 = .ok (.iconst 1, 1) := by decide +kernel
theorem dX9_lacksInput_29 : decode cX9_lacksInput 29 = .ok (.ireturn, 1) := by decide +kernel
theorem dX9_lacksInput_36 : decode cX9_lacksInput 36 = .ok (.iconst 0, 1) := by decide +kernel
theorem dX9_lacksInput_37 : decode cX9_lacksInput 37 = .ok (.ireturn, 1) := by decide +kernel
theorem dX9_fail_0 : decode cX9_fail 0 = .ok (.aload_n 0, 1) := by decide +kernel
theorem dX9_fail_1 : decode cX9_fail 1 = .ok (.iload_n 1, 1) := by decide +kernel
theorem dX9_fail_2 : decode cX9_fail 2 = .ok (.putfield 105, 3) := by decide +kernel
theorem dX9_fail_5 : decode cX9_fail 5 = .ok (.iconst 0, 1) := by decide +kernel
theorem dX9_fail_6 : decode cX9_fail 6 = .ok (.ireturn, 1) := by decide +kernel
theorem dX9_inputOf_0 : decode cX9_inputOf 0 = .ok (.aload_n 0, 1) := by decide +kernel
theorem dX9_inputOf_1 : decode cX9_inputOf 1 = .ok (.getfield 26, 3) := by decide +kernel
theorem dX9_inputOf_4 : decode cX9_inputOf 4 = .ok (.iload_n 1, 1) := by decide +kernel
theorem dX9_inputOf_5 : decode cX9_inputOf 5 = .ok (.aaload, 1) := by decide +kernel
theorem dX9_inputOf_6 : decode cX9_inputOf 6 = .ok (.iload_n 2, 1) := by decide +kernel
theorem dX9_inputOf_7 : decode cX9_inputOf 7 = .ok (.iaload, 1) := by decide +kernel
theorem dX9_inputOf_8 : decode cX9_inputOf 8 = .ok (.istore_n 3, 1) := by decide +kernel
theorem dX9_inputOf_9 : decode cX9_inputOf 9 = .ok (.iload_n 3, 1) := by decide +kernel
theorem dX9_inputOf_10 : decode cX9_inputOf 10 = .ok (.iconst (-1), 1) := by decide +kernel
theorem dX9_inputOf_11 : decode cX9_inputOf 11 = .ok (.if_icmp .ne 7, 3) := by decide +kernel
theorem dX9_inputOf_18 : decode cX9_inputOf 18 = .ok (.aload_n 0, 1) := by decide +kernel
theorem dX9_inputOf_19 : decode cX9_inputOf 19 = .ok (.getfield 29, 3) := by decide +kernel
theorem dX9_inputOf_22 : decode cX9_inputOf 22 = .ok (.iload_n 3, 1) := by decide +kernel
theorem dX9_inputOf_23 : decode cX9_inputOf 23 = .ok (.iaload, 1) := by decide +kernel
theorem dX9_inputOf_24 : decode cX9_inputOf 24 = .ok (.ireturn, 1) := by decide +kernel
theorem dX9_inputOf_14 : decode cX9_inputOf 14 = .ok (.iconst 0, 1) := by decide +kernel
theorem dX9_inputOf_15 : decode cX9_inputOf 15 = .ok (.goto 9, 3) := by decide +kernel
theorem dX9_reckonPlain_0 : decode cX9_reckonPlain 0 = .ok (.iload_n 1, 1) := by decide +kernel
theorem dX9_reckonPlain_1 : decode cX9_reckonPlain 1 = .ok (.tableswitch 183 2 13 #[63, 67, 71, 75, 91, 111, 117, 123, 134, 145, 159, 173], 63) := by decide +kernel
theorem dX9_reckonPlain_184 : decode cX9_reckonPlain 184 = .ok (.iload_n 2, 1) := by decide +kernel
theorem dX9_reckonPlain_185 : decode cX9_reckonPlain 185 = .ok (.ifCond .eq 7, 3) := by decide +kernel
theorem dX9_reckonPlain_192 : decode cX9_reckonPlain 192 = .ok (.iload 4, 2) := by decide +kernel
theorem dX9_reckonPlain_194 : decode cX9_reckonPlain 194 = .ok (.ireturn, 1) := by decide +kernel
theorem dX9_reckonPlain_188 : decode cX9_reckonPlain 188 = .ok (.iload_n 3, 1) := by decide +kernel
theorem dX9_reckonPlain_189 : decode cX9_reckonPlain 189 = .ok (.goto 5, 3) := by decide +kernel
theorem dX9_reckonPlain_64 : decode cX9_reckonPlain 64 = .ok (.iload_n 2, 1) := by decide +kernel
theorem dX9_reckonPlain_65 : decode cX9_reckonPlain 65 = .ok (.iload_n 3, 1) := by decide +kernel
theorem dX9_reckonPlain_66 : decode cX9_reckonPlain 66 = .ok (.iadd, 1) := by decide +kernel
theorem dX9_reckonPlain_67 : decode cX9_reckonPlain 67 = .ok (.ireturn, 1) := by decide +kernel
theorem dX9_reckonPlain_68 : decode cX9_reckonPlain 68 = .ok (.iload_n 2, 1) := by decide +kernel
theorem dX9_reckonPlain_69 : decode cX9_reckonPlain 69 = .ok (.iload_n 3, 1) := by decide +kernel
theorem dX9_reckonPlain_70 : decode cX9_reckonPlain 70 = .ok (.isub, 1) := by decide +kernel
theorem dX9_reckonPlain_71 : decode cX9_reckonPlain 71 = .ok (.ireturn, 1) := by decide +kernel
theorem dX9_reckonPlain_72 : decode cX9_reckonPlain 72 = .ok (.iload_n 2, 1) := by decide +kernel
theorem dX9_reckonPlain_73 : decode cX9_reckonPlain 73 = .ok (.iload_n 3, 1) := by decide +kernel
theorem dX9_reckonPlain_74 : decode cX9_reckonPlain 74 = .ok (.imul, 1) := by decide +kernel
theorem dX9_reckonPlain_75 : decode cX9_reckonPlain 75 = .ok (.ireturn, 1) := by decide +kernel
theorem dX9_reckonPlain_76 : decode cX9_reckonPlain 76 = .ok (.iload_n 3, 1) := by decide +kernel
theorem dX9_reckonPlain_77 : decode cX9_reckonPlain 77 = .ok (.ifCond .ne 11, 3) := by decide +kernel
theorem dX9_reckonPlain_88 : decode cX9_reckonPlain 88 = .ok (.iload_n 2, 1) := by decide +kernel
theorem dX9_reckonPlain_89 : decode cX9_reckonPlain 89 = .ok (.iload_n 3, 1) := by decide +kernel
theorem dX9_reckonPlain_90 : decode cX9_reckonPlain 90 = .ok (.idiv, 1) := by decide +kernel
theorem dX9_reckonPlain_91 : decode cX9_reckonPlain 91 = .ok (.ireturn, 1) := by decide +kernel
theorem dX9_reckonPlain_80 : decode cX9_reckonPlain 80 = .ok (.aload_n 0, 1) := by decide +kernel
theorem dX9_reckonPlain_81 : decode cX9_reckonPlain 81 = .ok (.iconst 1, 1) := by decide +kernel
theorem dX9_reckonPlain_82 : decode cX9_reckonPlain 82 = .ok (.invokevirtual 118, 3) := by decide +kernel
theorem dX9_reckonPlain_85 : decode cX9_reckonPlain 85 = .ok (.goto 6, 3) := by decide +kernel
theorem dX9_reckonPlain_92 : decode cX9_reckonPlain 92 = .ok (.iload_n 3, 1) := by decide +kernel
theorem dX9_reckonPlain_93 : decode cX9_reckonPlain 93 = .ok (.ifCond .ne 11, 3) := by decide +kernel
theorem dX9_reckonPlain_104 : decode cX9_reckonPlain 104 = .ok (.iload_n 2, 1) := by decide +kernel
theorem dX9_reckonPlain_105 : decode cX9_reckonPlain 105 = .ok (.iload_n 3, 1) := by decide +kernel
theorem dX9_reckonPlain_106 : decode cX9_reckonPlain 106 = .ok (.iload_n 2, 1) := by decide +kernel
theorem dX9_reckonPlain_107 : decode cX9_reckonPlain 107 = .ok (.iload_n 3, 1) := by decide +kernel
theorem dX9_reckonPlain_108 : decode cX9_reckonPlain 108 = .ok (.idiv, 1) := by decide +kernel
theorem dX9_reckonPlain_109 : decode cX9_reckonPlain 109 = .ok (.imul, 1) := by decide +kernel
theorem dX9_reckonPlain_110 : decode cX9_reckonPlain 110 = .ok (.isub, 1) := by decide +kernel
theorem dX9_reckonPlain_111 : decode cX9_reckonPlain 111 = .ok (.ireturn, 1) := by decide +kernel
theorem dX9_reckonPlain_96 : decode cX9_reckonPlain 96 = .ok (.aload_n 0, 1) := by decide +kernel
theorem dX9_reckonPlain_97 : decode cX9_reckonPlain 97 = .ok (.iconst 1, 1) := by decide +kernel
theorem dX9_reckonPlain_98 : decode cX9_reckonPlain 98 = .ok (.invokevirtual 118, 3) := by decide +kernel
theorem dX9_reckonPlain_101 : decode cX9_reckonPlain 101 = .ok (.goto 10, 3) := by decide +kernel
theorem dX9_reckonPlain_112 : decode cX9_reckonPlain 112 = .ok (.iload_n 2, 1) := by decide +kernel
theorem dX9_reckonPlain_113 : decode cX9_reckonPlain 113 = .ok (.iload_n 3, 1) := by decide +kernel
theorem dX9_reckonPlain_114 : decode cX9_reckonPlain 114 = .ok (.invokestatic 132, 3) := by decide +kernel
theorem dX9_reckonPlain_117 : decode cX9_reckonPlain 117 = .ok (.ireturn, 1) := by decide +kernel
theorem dX9_reckonPlain_118 : decode cX9_reckonPlain 118 = .ok (.iload_n 2, 1) := by decide +kernel
theorem dX9_reckonPlain_119 : decode cX9_reckonPlain 119 = .ok (.iload_n 3, 1) := by decide +kernel
theorem dX9_reckonPlain_120 : decode cX9_reckonPlain 120 = .ok (.invokestatic 137, 3) := by decide +kernel
theorem dX9_reckonPlain_123 : decode cX9_reckonPlain 123 = .ok (.ireturn, 1) := by decide +kernel
theorem dX9_reckonPlain_124 : decode cX9_reckonPlain 124 = .ok (.iload_n 2, 1) := by decide +kernel
theorem dX9_reckonPlain_125 : decode cX9_reckonPlain 125 = .ok (.iload_n 3, 1) := by decide +kernel
theorem dX9_reckonPlain_126 : decode cX9_reckonPlain 126 = .ok (.if_icmp .ge 7, 3) := by decide +kernel
theorem dX9_reckonPlain_133 : decode cX9_reckonPlain 133 = .ok (.iconst 0, 1) := by decide +kernel
theorem dX9_reckonPlain_134 : decode cX9_reckonPlain 134 = .ok (.ireturn, 1) := by decide +kernel
theorem dX9_reckonPlain_129 : decode cX9_reckonPlain 129 = .ok (.iconst 1, 1) := by decide +kernel
theorem dX9_reckonPlain_130 : decode cX9_reckonPlain 130 = .ok (.goto 4, 3) := by decide +kernel
theorem dX9_reckonPlain_135 : decode cX9_reckonPlain 135 = .ok (.iload_n 2, 1) := by decide +kernel
theorem dX9_reckonPlain_136 : decode cX9_reckonPlain 136 = .ok (.iload_n 3, 1) := by decide +kernel
theorem dX9_reckonPlain_137 : decode cX9_reckonPlain 137 = .ok (.if_icmp .ne 7, 3) := by decide +kernel
theorem dX9_reckonPlain_144 : decode cX9_reckonPlain 144 = .ok (.iconst 0, 1) := by decide +kernel
theorem dX9_reckonPlain_145 : decode cX9_reckonPlain 145 = .ok (.ireturn, 1) := by decide +kernel
theorem dX9_reckonPlain_140 : decode cX9_reckonPlain 140 = .ok (.iconst 1, 1) := by decide +kernel
theorem dX9_reckonPlain_141 : decode cX9_reckonPlain 141 = .ok (.goto 4, 3) := by decide +kernel
theorem dX9_reckonPlain_146 : decode cX9_reckonPlain 146 = .ok (.iload_n 2, 1) := by decide +kernel
theorem dX9_reckonPlain_147 : decode cX9_reckonPlain 147 = .ok (.ifCond .eq 11, 3) := by decide +kernel
theorem dX9_reckonPlain_158 : decode cX9_reckonPlain 158 = .ok (.iconst 0, 1) := by decide +kernel
theorem dX9_reckonPlain_159 : decode cX9_reckonPlain 159 = .ok (.ireturn, 1) := by decide +kernel
theorem dX9_reckonPlain_150 : decode cX9_reckonPlain 150 = .ok (.iload_n 3, 1) := by decide +kernel
theorem dX9_reckonPlain_151 : decode cX9_reckonPlain 151 = .ok (.ifCond .eq 7, 3) := by decide +kernel
theorem dX9_reckonPlain_154 : decode cX9_reckonPlain 154 = .ok (.iconst 1, 1) := by decide +kernel
theorem dX9_reckonPlain_155 : decode cX9_reckonPlain 155 = .ok (.goto 4, 3) := by decide +kernel
theorem dX9_reckonPlain_160 : decode cX9_reckonPlain 160 = .ok (.iload_n 2, 1) := by decide +kernel
theorem dX9_reckonPlain_161 : decode cX9_reckonPlain 161 = .ok (.ifCond .ne 7, 3) := by decide +kernel
theorem dX9_reckonPlain_168 : decode cX9_reckonPlain 168 = .ok (.iconst 1, 1) := by decide +kernel
theorem dX9_reckonPlain_169 : decode cX9_reckonPlain 169 = .ok (.goto 4, 3) := by decide +kernel
theorem dX9_reckonPlain_173 : decode cX9_reckonPlain 173 = .ok (.ireturn, 1) := by decide +kernel
theorem dX9_reckonPlain_164 : decode cX9_reckonPlain 164 = .ok (.iload_n 3, 1) := by decide +kernel
theorem dX9_reckonPlain_165 : decode cX9_reckonPlain 165 = .ok (.ifCond .eq 7, 3) := by decide +kernel
theorem dX9_reckonPlain_172 : decode cX9_reckonPlain 172 = .ok (.iconst 0, 1) := by decide +kernel
theorem dX9_reckonPlain_174 : decode cX9_reckonPlain 174 = .ok (.iload_n 2, 1) := by decide +kernel
theorem dX9_reckonPlain_175 : decode cX9_reckonPlain 175 = .ok (.ifCond .ne 7, 3) := by decide +kernel
theorem dX9_reckonPlain_182 : decode cX9_reckonPlain 182 = .ok (.iconst 0, 1) := by decide +kernel
theorem dX9_reckonPlain_183 : decode cX9_reckonPlain 183 = .ok (.ireturn, 1) := by decide +kernel
theorem dX9_reckonPlain_178 : decode cX9_reckonPlain 178 = .ok (.iconst 1, 1) := by decide +kernel
theorem dX9_reckonPlain_179 : decode cX9_reckonPlain 179 = .ok (.goto 4, 3) := by decide +kernel
theorem zl_X7_154 : zm_L zk_E RX7 154 yX7_commonBelowZero (.code yX7_commonBelowZero cX7_commonBelowZero 11 (some .long)) 2 ∧ Cond.static yX7_commonBelowZero ∈ zk_E.2.2.1 := ⟨⟨zk_b7 166 (by decide +kernel) rfl, zk_b1 5 (by decide +kernel) rfl, zk_b7 164 (by decide +kernel) rfl, by decide +kernel, by decide +kernel, by decide +kernel⟩, zk_b7 165 (by decide +kernel) rfl⟩
theorem zl_X7_139 : zm_L zk_E RX7 139 yX7_reckonFactor (.code yX7_reckonFactor cX7_reckonFactor 6 none) 1 ∧ Cond.instanceMethod yX7_reckonFactor ∈ zk_E.2.2.1 ∧ Cond.selects yX7_reckonFactor.cls yX7_reckonFactor yX7_reckonFactor ∈ zk_E.2.2.1 := ⟨⟨zk_b7 137 (by decide +kernel) rfl, zk_b1 5 (by decide +kernel) rfl, zk_b7 134 (by decide +kernel) rfl, by decide +kernel, by decide +kernel, by decide +kernel⟩, zk_b7 136 (by decide +kernel) rfl, zk_s3 (q := (yX7_reckonFactor, 16)) 12 (by decide +kernel)⟩
theorem zl_X7_135 : zm_L zk_E RX7 135 yX7_isSign (.code yX7_isSign cX7_isSign 3 (some .boolean)) 2 ∧ Cond.instanceMethod yX7_isSign ∈ zk_E.2.2.1 ∧ Cond.selects yX7_isSign.cls yX7_isSign yX7_isSign ∈ zk_E.2.2.1 := ⟨⟨zk_b7 141 (by decide +kernel) rfl, zk_b1 5 (by decide +kernel) rfl, zk_b7 138 (by decide +kernel) rfl, by decide +kernel, by decide +kernel, by decide +kernel⟩, zk_b7 140 (by decide +kernel) rfl, zk_s3 (q := (yX7_isSign, 16)) 13 (by decide +kernel)⟩
theorem zl_X7_128 : zm_L zk_E RX7 128 yX7_combine (.code yX7_combine cX7_combine 12 none) 3 ∧ Cond.instanceMethod yX7_combine ∈ zk_E.2.2.1 ∧ Cond.selects yX7_combine.cls yX7_combine yX7_combine ∈ zk_E.2.2.1 := ⟨⟨zk_b7 145 (by decide +kernel) rfl, zk_b1 5 (by decide +kernel) rfl, zk_b7 142 (by decide +kernel) rfl, by decide +kernel, by decide +kernel, by decide +kernel⟩, zk_b7 144 (by decide +kernel) rfl, zk_s3 (q := (yX7_combine, 16)) 14 (by decide +kernel)⟩
theorem zl_X7_132 : zm_L zk_E RX7 132 yX7_takeOutCommon (.code yX7_takeOutCommon cX7_takeOutCommon 3 none) 0 ∧ Cond.instanceMethod yX7_takeOutCommon ∈ zk_E.2.2.1 ∧ Cond.selects yX7_takeOutCommon.cls yX7_takeOutCommon yX7_takeOutCommon ∈ zk_E.2.2.1 := ⟨⟨zk_b7 163 (by decide +kernel) rfl, zk_b1 5 (by decide +kernel) rfl, zk_b7 160 (by decide +kernel) rfl, by decide +kernel, by decide +kernel, by decide +kernel⟩, zk_b7 162 (by decide +kernel) rfl, zk_s4 (q := (yX7_takeOutCommon, 16)) 2 (by decide +kernel)⟩
theorem zl_X7_125 : zm_L zk_E RX7 125 yX7_reckonTerm (.code yX7_reckonTerm cX7_reckonTerm 8 none) 1 ∧ Cond.instanceMethod yX7_reckonTerm ∈ zk_E.2.2.1 ∧ Cond.selects yX7_reckonTerm.cls yX7_reckonTerm yX7_reckonTerm ∈ zk_E.2.2.1 := ⟨⟨zk_b7 133 (by decide +kernel) rfl, zk_b1 5 (by decide +kernel) rfl, zk_b7 130 (by decide +kernel) rfl, by decide +kernel, by decide +kernel, by decide +kernel⟩, zk_b7 132 (by decide +kernel) rfl, zk_s3 (q := (yX7_reckonTerm, 16)) 11 (by decide +kernel)⟩
theorem zl_X7_117 : zm_L zk_E RX7 117 yX7_compareWith (.code yX7_compareWith cX7_compareWith 10 (some .boolean)) 3 ∧ Cond.instanceMethod yX7_compareWith ∈ zk_E.2.2.1 ∧ Cond.selects yX7_compareWith.cls yX7_compareWith yX7_compareWith ∈ zk_E.2.2.1 := ⟨⟨zk_b7 170 (by decide +kernel) rfl, zk_b1 5 (by decide +kernel) rfl, zk_b7 167 (by decide +kernel) rfl, by decide +kernel, by decide +kernel, by decide +kernel⟩, zk_b7 169 (by decide +kernel) rfl, zk_s4 (q := (yX7_compareWith, 16)) 3 (by decide +kernel)⟩
theorem zl_X7_81 : zm_L zk_E RX7 81 yJ7_fill_d0a16 (.code yJ7_fill_d0a16 cJ7_fill_d0a16 5 none) 2 ∧ Cond.static yJ7_fill_d0a16 ∈ zk_E.2.2.1 := ⟨⟨zk_b7 116 (by decide +kernel) rfl, zk_b1 26 (by decide +kernel) rfl, zk_b7 114 (by decide +kernel) rfl, by decide +kernel, by decide +kernel, by decide +kernel⟩, zk_b7 115 (by decide +kernel) rfl⟩
theorem zl_X7_99 : zm_L zk_E RX7 99 yX7_reckonClause (.code yX7_reckonClause cX7_reckonClause 3 (some .boolean)) 1 ∧ Cond.instanceMethod yX7_reckonClause ∈ zk_E.2.2.1 ∧ Cond.selects yX7_reckonClause.cls yX7_reckonClause yX7_reckonClause ∈ zk_E.2.2.1 := ⟨⟨zk_b7 121 (by decide +kernel) rfl, zk_b1 5 (by decide +kernel) rfl, zk_b7 118 (by decide +kernel) rfl, by decide +kernel, by decide +kernel, by decide +kernel⟩, zk_b7 120 (by decide +kernel) rfl, zk_s3 (q := (yX7_reckonClause, 16)) 8 (by decide +kernel)⟩
theorem zl_X7_79 : Cond.constantLong RX7 79 (3 : Int64) ∈ zk_E.2.2.1 := zk_b7 171 (by decide +kernel) rfl
theorem zl_X7_87 : Cond.constantLong RX7 87 (4 : Int64) ∈ zk_E.2.2.1 := zk_b7 117 (by decide +kernel) rfl
theorem zl_X7_75 : zm_L zk_E RX7 75 yX7_askRule (.code yX7_askRule cX7_askRule 7 none) 2 ∧ Cond.instanceMethod yX7_askRule ∈ zk_E.2.2.1 ∧ Cond.selects yX7_askRule.cls yX7_askRule yX7_askRule ∈ zk_E.2.2.1 := ⟨⟨zk_b7 113 (by decide +kernel) rfl, zk_b1 5 (by decide +kernel) rfl, zk_b7 110 (by decide +kernel) rfl, by decide +kernel, by decide +kernel, by decide +kernel⟩, zk_b7 112 (by decide +kernel) rfl, zk_s3 (q := (yX7_askRule, 16)) 7 (by decide +kernel)⟩
theorem zl_X8_3 : Cond.methodLink RX8 3 Lib.objectInit ∈ zk_E.2.2.1 ∧ Cond.instanceMethod Lib.objectInit ∈ zk_E.2.2.1 ∧ Cond.code Lib.objectInit ⟨#[0xb1]⟩ 1 none ∈ zk_E.2.2.1 := ⟨zk_b1 50 (by decide +kernel) rfl, zk_b1 43 (by decide +kernel) rfl, zk_b1 44 (by decide +kernel) rfl⟩
theorem zl_X8_11 : Cond.classLink RX8 11 "[[I" ∈ zk_E.2.2.1 := zk_b1 51 (by decide +kernel) rfl
theorem zt_8_1 : zm_T zk_E RX8 8 1 (.array (.array .int)) true := ⟨RX8, TX8, 4, tyX8, rfl, tyX8_ok, nmX8, rfl, rfl, rfl⟩
theorem zl_X8_16 : zm_F zk_E RX8 16 8 2 := ⟨RX8, TX8, 4, rfl, zk_i8, by decide, zk_b1 60 (by decide +kernel) rfl⟩
theorem zt_8_2 : zm_T zk_E RX8 8 2 (.array .int) true := ⟨RX8, TX8, 4, tyX8, rfl, tyX8_ok, nmX8, rfl, rfl, rfl⟩
theorem zt_8_3 : zm_T zk_E RX8 8 3 (.array (.array .int)) true := ⟨RX8, TX8, 4, tyX8, rfl, tyX8_ok, nmX8, rfl, rfl, rfl⟩
theorem zl_X8_32 : zm_F zk_E RX8 32 8 0 := ⟨RX8, TX8, 4, rfl, zk_i8, by decide, zk_b1 53 (by decide +kernel) rfl⟩
theorem zl_X8_29 : Cond.methodLink RX8 29 Lib.Math.max.name ∈ zk_E.2.2.1 ∧ Cond.static Lib.Math.max.name ∈ zk_E.2.2.1 ∧ Cond.initialized "java/lang/Math" ∈ zk_E.2.2.1 ∧ Cond.code Lib.Math.max.name Lib.Math.max.code 2 (some .int) ∈ zk_E.2.2.1 := ⟨zk_b4 216 (by decide +kernel) rfl, zk_b4 217 (by decide +kernel) rfl, zk_b1 25 (by decide +kernel) rfl, zk_b4 218 (by decide +kernel) rfl⟩
theorem zl_X8_23 : Cond.methodLink RX8 23 Lib.Math.min.name ∈ zk_E.2.2.1 ∧ Cond.static Lib.Math.min.name ∈ zk_E.2.2.1 ∧ Cond.initialized "java/lang/Math" ∈ zk_E.2.2.1 ∧ Cond.code Lib.Math.min.name Lib.Math.min.code 2 (some .int) ∈ zk_E.2.2.1 := ⟨zk_b4 213 (by decide +kernel) rfl, zk_b4 214 (by decide +kernel) rfl, zk_b1 25 (by decide +kernel) rfl, zk_b4 215 (by decide +kernel) rfl⟩
theorem zl_X8_36 : zm_L zk_E RX8 36 yX8_liesAlong (.code yX8_liesAlong cX8_liesAlong 10 (some .boolean)) 5 ∧ Cond.instanceMethod yX8_liesAlong ∈ zk_E.2.2.1 ∧ Cond.selects yX8_liesAlong.cls yX8_liesAlong yX8_liesAlong ∈ zk_E.2.2.1 := ⟨⟨zk_b4 222 (by decide +kernel) rfl, zk_b1 2 (by decide +kernel) rfl, zk_b4 219 (by decide +kernel) rfl, by decide +kernel, by decide +kernel, by decide +kernel⟩, zk_b4 221 (by decide +kernel) rfl, zk_s1 (q := (yX8_liesAlong, 4)) 13 (by decide +kernel)⟩
theorem zl_X8_40 : zm_L zk_E RX8 40 yX8_setEnds (.code yX8_setEnds cX8_setEnds 7 none) 5 ∧ Cond.instanceMethod yX8_setEnds ∈ zk_E.2.2.1 ∧ Cond.selects yX8_setEnds.cls yX8_setEnds yX8_setEnds ∈ zk_E.2.2.1 := ⟨⟨zk_b4 226 (by decide +kernel) rfl, zk_b1 2 (by decide +kernel) rfl, zk_b4 223 (by decide +kernel) rfl, by decide +kernel, by decide +kernel, by decide +kernel⟩, zk_b4 225 (by decide +kernel) rfl, zk_s1 (q := (yX8_setEnds, 4)) 14 (by decide +kernel)⟩
theorem zt_8_0 : zm_T zk_E RX8 8 0 .int false := ⟨RX8, TX8, 4, tyX8, rfl, tyX8_ok, nmX8, rfl, rfl, rfl⟩
theorem zl_X8_46 : Cond.constantLong RX8 46 (24 : Int64) ∈ zk_E.2.2.1 := zk_b5 2 (by decide +kernel) rfl
theorem zl_X8_52 : zm_L zk_E RX8 52 yX8_fromOf (.code yX8_fromOf cX8_fromOf 3 (some .int)) 2 ∧ Cond.instanceMethod yX8_fromOf ∈ zk_E.2.2.1 ∧ Cond.selects yX8_fromOf.cls yX8_fromOf yX8_fromOf ∈ zk_E.2.2.1 := ⟨⟨zk_b7 4 (by decide +kernel) rfl, zk_b1 2 (by decide +kernel) rfl, zk_b7 232 (by decide +kernel) rfl, by decide +kernel, by decide +kernel, by decide +kernel⟩, zk_b7 2 (by decide +kernel) rfl, zk_b7 3 (by decide +kernel) rfl⟩
theorem zl_X8_55 : zm_L zk_E RX8 55 yX8_toOf (.code yX8_toOf cX8_toOf 3 (some .int)) 2 ∧ Cond.instanceMethod yX8_toOf ∈ zk_E.2.2.1 ∧ Cond.selects yX8_toOf.cls yX8_toOf yX8_toOf ∈ zk_E.2.2.1 := ⟨⟨zk_b7 0 (by decide +kernel) rfl, zk_b1 2 (by decide +kernel) rfl, zk_b7 233 (by decide +kernel) rfl, by decide +kernel, by decide +kernel, by decide +kernel⟩, zk_b6 238 (by decide +kernel) rfl, zk_b6 239 (by decide +kernel) rfl⟩
theorem zl_X8_48 : zm_L zk_E RX8 48 yX8_isDoorAt (.code yX8_isDoorAt cX8_isDoorAt 4 (some .boolean)) 3 ∧ Cond.instanceMethod yX8_isDoorAt ∈ zk_E.2.2.1 ∧ Cond.selects yX8_isDoorAt.cls yX8_isDoorAt yX8_isDoorAt ∈ zk_E.2.2.1 := ⟨⟨zk_b7 231 (by decide +kernel) rfl, zk_b1 2 (by decide +kernel) rfl, zk_b7 228 (by decide +kernel) rfl, by decide +kernel, by decide +kernel, by decide +kernel⟩, zk_b7 229 (by decide +kernel) rfl, zk_b7 230 (by decide +kernel) rfl⟩
theorem zl_X9_3 : Cond.methodLink RX9 3 Lib.objectInit ∈ zk_E.2.2.1 ∧ Cond.instanceMethod Lib.objectInit ∈ zk_E.2.2.1 ∧ Cond.code Lib.objectInit ⟨#[0xb1]⟩ 1 none ∈ zk_E.2.2.1 := ⟨zk_b2 184 (by decide +kernel) rfl, zk_b1 43 (by decide +kernel) rfl, zk_b1 44 (by decide +kernel) rfl⟩
theorem zl_X9_11 : zm_F zk_E RX9 11 9 1 := ⟨RX9, TX9, 20, rfl, zk_i9, by decide, zk_b2 188 (by decide +kernel) rfl⟩
theorem zt_9_1 : zm_T zk_E RX9 9 1 (.array .int) true := ⟨RX9, TX9, 20, tyX9, rfl, tyX9_ok, nmX9, rfl, rfl, rfl⟩
theorem zl_X9_15 : zm_F zk_E RX9 15 9 2 := ⟨RX9, TX9, 20, rfl, zk_i9, by decide, zk_b2 190 (by decide +kernel) rfl⟩
theorem zt_9_2 : zm_T zk_E RX9 9 2 (.array .int) true := ⟨RX9, TX9, 20, tyX9, rfl, tyX9_ok, nmX9, rfl, rfl, rfl⟩
theorem zl_X9_18 : zm_F zk_E RX9 18 9 3 := ⟨RX9, TX9, 20, rfl, zk_i9, by decide, zk_b2 192 (by decide +kernel) rfl⟩
theorem zt_9_3 : zm_T zk_E RX9 9 3 (.array .int) true := ⟨RX9, TX9, 20, tyX9, rfl, tyX9_ok, nmX9, rfl, rfl, rfl⟩
theorem zl_X9_21 : zm_F zk_E RX9 21 9 4 := ⟨RX9, TX9, 20, rfl, zk_i9, by decide, zk_b2 194 (by decide +kernel) rfl⟩
theorem zt_9_4 : zm_T zk_E RX9 9 4 (.array .int) true := ⟨RX9, TX9, 20, tyX9, rfl, tyX9_ok, nmX9, rfl, rfl, rfl⟩
theorem zl_X9_24 : Cond.classLink RX9 24 "[[I" ∈ zk_E.2.2.1 := zk_b2 185 (by decide +kernel) rfl
theorem zl_X9_26 : zm_F zk_E RX9 26 9 5 := ⟨RX9, TX9, 20, rfl, zk_i9, by decide, zk_b2 196 (by decide +kernel) rfl⟩
theorem zt_9_5 : zm_T zk_E RX9 9 5 (.array (.array .int)) true := ⟨RX9, TX9, 20, tyX9, rfl, tyX9_ok, nmX9, rfl, rfl, rfl⟩
theorem zl_X9_29 : zm_F zk_E RX9 29 9 6 := ⟨RX9, TX9, 20, rfl, zk_i9, by decide, zk_b2 197 (by decide +kernel) rfl⟩
theorem zt_9_6 : zm_T zk_E RX9 9 6 (.array .int) true := ⟨RX9, TX9, 20, tyX9, rfl, tyX9_ok, nmX9, rfl, rfl, rfl⟩
theorem zl_X9_32 : zm_F zk_E RX9 32 9 7 := ⟨RX9, TX9, 20, rfl, zk_i9, by decide, zk_b2 199 (by decide +kernel) rfl⟩
theorem zt_9_7 : zm_T zk_E RX9 9 7 (.array (.array .int)) true := ⟨RX9, TX9, 20, tyX9, rfl, tyX9_ok, nmX9, rfl, rfl, rfl⟩
theorem zl_X9_35 : zm_F zk_E RX9 35 9 8 := ⟨RX9, TX9, 20, rfl, zk_i9, by decide, zk_b2 200 (by decide +kernel) rfl⟩
theorem zt_9_8 : zm_T zk_E RX9 9 8 (.array (.array .int)) true := ⟨RX9, TX9, 20, tyX9, rfl, tyX9_ok, nmX9, rfl, rfl, rfl⟩
theorem zl_X9_38 : zm_F zk_E RX9 38 9 9 := ⟨RX9, TX9, 20, rfl, zk_i9, by decide, zk_b2 202 (by decide +kernel) rfl⟩
theorem zt_9_9 : zm_T zk_E RX9 9 9 (.array .boolean) true := ⟨RX9, TX9, 20, tyX9, rfl, tyX9_ok, nmX9, rfl, rfl, rfl⟩
theorem zl_X9_42 : zm_F zk_E RX9 42 9 10 := ⟨RX9, TX9, 20, rfl, zk_i9, by decide, zk_b2 204 (by decide +kernel) rfl⟩
theorem zt_9_10 : zm_T zk_E RX9 9 10 (.array .int) true := ⟨RX9, TX9, 20, tyX9, rfl, tyX9_ok, nmX9, rfl, rfl, rfl⟩
theorem zl_X9_45 : zm_F zk_E RX9 45 9 11 := ⟨RX9, TX9, 20, rfl, zk_i9, by decide, zk_b2 206 (by decide +kernel) rfl⟩
theorem zt_9_11 : zm_T zk_E RX9 9 11 (.array .int) true := ⟨RX9, TX9, 20, tyX9, rfl, tyX9_ok, nmX9, rfl, rfl, rfl⟩
theorem zl_X9_48 : zm_F zk_E RX9 48 9 12 := ⟨RX9, TX9, 20, rfl, zk_i9, by decide, zk_b2 208 (by decide +kernel) rfl⟩
theorem zt_9_12 : zm_T zk_E RX9 9 12 (.array .int) true := ⟨RX9, TX9, 20, tyX9, rfl, tyX9_ok, nmX9, rfl, rfl, rfl⟩
theorem zl_X9_51 : zm_F zk_E RX9 51 9 15 := ⟨RX9, TX9, 20, rfl, zk_i9, by decide, zk_b2 215 (by decide +kernel) rfl⟩
theorem zt_9_15 : zm_T zk_E RX9 9 15 (.array .int) true := ⟨RX9, TX9, 20, tyX9, rfl, tyX9_ok, nmX9, rfl, rfl, rfl⟩
theorem zl_X9_54 : zm_F zk_E RX9 54 9 16 := ⟨RX9, TX9, 20, rfl, zk_i9, by decide, zk_b2 216 (by decide +kernel) rfl⟩
theorem zt_9_16 : zm_T zk_E RX9 9 16 (.array .int) true := ⟨RX9, TX9, 20, tyX9, rfl, tyX9_ok, nmX9, rfl, rfl, rfl⟩
theorem zl_X9_57 : zm_F zk_E RX9 57 9 17 := ⟨RX9, TX9, 20, rfl, zk_i9, by decide, zk_b2 217 (by decide +kernel) rfl⟩
theorem zt_9_17 : zm_T zk_E RX9 9 17 (.array .int) true := ⟨RX9, TX9, 20, tyX9, rfl, tyX9_ok, nmX9, rfl, rfl, rfl⟩
theorem zl_X9_60 : zm_F zk_E RX9 60 9 0 := ⟨RX9, TX9, 20, rfl, zk_i9, by decide, zk_b2 186 (by decide +kernel) rfl⟩
theorem zl_X9_64 : zm_L zk_E RX9 64 yJ7_fill_53178 (.code yJ7_fill_53178 cJ7_fill_53178 4 none) 2 ∧ Cond.static yJ7_fill_53178 ∈ zk_E.2.2.1 := ⟨⟨zk_b5 43 (by decide +kernel) rfl, zk_b1 26 (by decide +kernel) rfl, zk_b10 147 (by decide +kernel) rfl, by decide +kernel, by decide +kernel, by decide +kernel⟩, zk_b5 42 (by decide +kernel) rfl⟩
theorem zl_X9_70 : zm_F zk_E RX9 70 9 13 := ⟨RX9, TX9, 20, rfl, zk_i9, by decide, zk_b2 212 (by decide +kernel) rfl⟩
theorem zt_9_13 : zm_T zk_E RX9 9 13 .boolean false := ⟨RX9, TX9, 20, tyX9, rfl, tyX9_ok, nmX9, rfl, rfl, rfl⟩
theorem zt_9_0 : zm_T zk_E RX9 9 0 .int false := ⟨RX9, TX9, 20, tyX9, rfl, tyX9_ok, nmX9, rfl, rfl, rfl⟩
theorem zl_X9_92 : Cond.fieldLink RX9 92 "TowerHouse$Program" "INPUTS" "[I" ∈ zk_E.2.2.1 := zk_b10 231 (by decide +kernel) rfl
theorem zl_X9_88 : zm_L zk_E RX9 88 yX9_mayCome (.code yX9_mayCome cX9_mayCome 4 (some .boolean)) 1 ∧ Cond.instanceMethod yX9_mayCome ∈ zk_E.2.2.1 ∧ Cond.selects yX9_mayCome.cls yX9_mayCome yX9_mayCome ∈ zk_E.2.2.1 := ⟨⟨zk_b10 230 (by decide +kernel) rfl, zk_b1 9 (by decide +kernel) rfl, zk_b10 227 (by decide +kernel) rfl, by decide +kernel, by decide +kernel, by decide +kernel⟩, zk_b10 229 (by decide +kernel) rfl, zk_s7 (q := (yX9_mayCome, 20)) 14 (by decide +kernel)⟩
theorem zl_X9_77 : zm_F zk_E RX9 77 9 14 := ⟨RX9, TX9, 20, rfl, zk_i9, by decide, zk_b2 213 (by decide +kernel) rfl⟩
theorem zt_9_14 : zm_T zk_E RX9 9 14 .int false := ⟨RX9, TX9, 20, tyX9, rfl, tyX9_ok, nmX9, rfl, rfl, rfl⟩
theorem zl_X9_80 : zm_L zk_E RX9 80 yX9_leastThatMayCome (.code yX9_leastThatMayCome cX9_leastThatMayCome 2 (some .int)) 0 ∧ Cond.instanceMethod yX9_leastThatMayCome ∈ zk_E.2.2.1 ∧ Cond.selects yX9_leastThatMayCome.cls yX9_leastThatMayCome yX9_leastThatMayCome ∈ zk_E.2.2.1 := ⟨⟨zk_b10 226 (by decide +kernel) rfl, zk_b1 9 (by decide +kernel) rfl, zk_b10 223 (by decide +kernel) rfl, by decide +kernel, by decide +kernel, by decide +kernel⟩, zk_b10 225 (by decide +kernel) rfl, zk_s7 (q := (yX9_leastThatMayCome, 20)) 13 (by decide +kernel)⟩
theorem zl_X9_84 : zm_L zk_E RX9 84 yX9_place (.code yX9_place cX9_place 3 none) 2 ∧ Cond.instanceMethod yX9_place ∈ zk_E.2.2.1 ∧ Cond.selects yX9_place.cls yX9_place yX9_place ∈ zk_E.2.2.1 := ⟨⟨zk_b10 236 (by decide +kernel) rfl, zk_b1 9 (by decide +kernel) rfl, zk_b10 233 (by decide +kernel) rfl, by decide +kernel, by decide +kernel, by decide +kernel⟩, zk_b10 235 (by decide +kernel) rfl, zk_s7 (q := (yX9_place, 20)) 15 (by decide +kernel)⟩
theorem zl_X9_74 : zm_L zk_E RX9 74 yX9_sortBlocks (.code yX9_sortBlocks cX9_sortBlocks 3 none) 0 ∧ Cond.instanceMethod yX9_sortBlocks ∈ zk_E.2.2.1 ∧ Cond.selects yX9_sortBlocks.cls yX9_sortBlocks yX9_sortBlocks ∈ zk_E.2.2.1 := ⟨⟨zk_b10 222 (by decide +kernel) rfl, zk_b1 9 (by decide +kernel) rfl, zk_b11 8 (by decide +kernel) rfl, by decide +kernel, by decide +kernel, by decide +kernel⟩, zk_b10 220 (by decide +kernel) rfl, zk_b10 221 (by decide +kernel) rfl⟩
theorem zl_X9_105 : zm_F zk_E RX9 105 9 19 := ⟨RX9, TX9, 20, rfl, zk_i9, by decide, zk_b2 220 (by decide +kernel) rfl⟩
theorem zt_9_19 : zm_T zk_E RX9 9 19 .int false := ⟨RX9, TX9, 20, tyX9, rfl, tyX9_ok, nmX9, rfl, rfl, rfl⟩
theorem zl_X9_118 : zm_L zk_E RX9 118 yX9_fail (.code yX9_fail cX9_fail 2 (some .int)) 1 ∧ Cond.instanceMethod yX9_fail ∈ zk_E.2.2.1 ∧ Cond.selects yX9_fail.cls yX9_fail yX9_fail ∈ zk_E.2.2.1 := ⟨⟨zk_b12 127 (by decide +kernel) rfl, zk_b1 9 (by decide +kernel) rfl, zk_b12 124 (by decide +kernel) rfl, by decide +kernel, by decide +kernel, by decide +kernel⟩, zk_b12 126 (by decide +kernel) rfl, zk_s9 (q := (yX9_fail, 20)) 9 (by decide +kernel)⟩
theorem zl_X9_132 : Cond.methodLink RX9 132 Lib.Math.min.name ∈ zk_E.2.2.1 ∧ Cond.static Lib.Math.min.name ∈ zk_E.2.2.1 ∧ Cond.initialized "java/lang/Math" ∈ zk_E.2.2.1 ∧ Cond.code Lib.Math.min.name Lib.Math.min.code 2 (some .int) ∈ zk_E.2.2.1 := ⟨zk_b12 136 (by decide +kernel) rfl, zk_b4 214 (by decide +kernel) rfl, zk_b1 25 (by decide +kernel) rfl, zk_b4 215 (by decide +kernel) rfl⟩
theorem zl_X9_137 : Cond.methodLink RX9 137 Lib.Math.max.name ∈ zk_E.2.2.1 ∧ Cond.static Lib.Math.max.name ∈ zk_E.2.2.1 ∧ Cond.initialized "java/lang/Math" ∈ zk_E.2.2.1 ∧ Cond.code Lib.Math.max.name Lib.Math.max.code 2 (some .int) ∈ zk_E.2.2.1 := ⟨zk_b12 137 (by decide +kernel) rfl, zk_b4 217 (by decide +kernel) rfl, zk_b1 25 (by decide +kernel) rfl, zk_b4 218 (by decide +kernel) rfl⟩
set_option maxHeartbeats 4000000 in
set_option maxRecDepth 100000 in
theorem zt_X7_takeOutCommon_J81 {p : Program} {l : Launch} {e : Env} {R : Room} {s : State} {m : MethodId} {args : Array Value} {below : List Frame} {meth : Method} {c : Code} {V : zm_V} {mc ms d rc rs : Nat} (hX : zm_X p R s m args meth c RX7 "takeOutCommon" cX7_takeOutCommon 3 zk_E V mc ms) (hr : meth.sig.returnType = none) (hR : R.frames = d ∧ R.locals = 64 * d) (hd : 2 ≤ d) {N : Nat} {a0 : Nat} {out : (Unit × zm_S)} {S : zm_S} (h : zf_X7_takeOutCommon_J81 N a0 S = some out) : zw p l e R s m args below meth c (vx_MQ below (zm_Qc zk_E V (zo_v out)) (zm_XC zk_E V zo_x) args s mc ms (fun q => V.2.2.2.1 ≤ q)) 3 zk_E V mc ms 81 [(0, .ref a0)] [] S rc rs := by
  unfold zf_X7_takeOutCommon_J81 at h
  refine zw_aload_n hX dX7_takeOutCommon_81 rfl ?_
  refine zw_iconst (v := (2 : Int32)) hX dX7_takeOutCommon_82 (by decide) ?_
  obtain ⟨S8, g, h⟩ := zb_some h
  refine zw_putv hX zl_X7_89 zt_7_12 dX7_takeOutCommon_83 rfl rfl g ?_
  obtain rfl := Option.some.inj h
  exact zw_vret hX hr dX7_takeOutCommon_86 ⟨rfl, rfl⟩
set_option maxHeartbeats 4000000 in
set_option maxRecDepth 100000 in
theorem zt_X7_takeOutCommon_J50 {p : Program} {l : Launch} {e : Env} {R : Room} {s : State} {m : MethodId} {args : Array Value} {below : List Frame} {meth : Method} {c : Code} {V : zm_V} {mc ms d rc rs : Nat} (hX : zm_X p R s m args meth c RX7 "takeOutCommon" cX7_takeOutCommon 3 zk_E V mc ms) (hr : meth.sig.returnType = none) (hR : R.frames = d ∧ R.locals = 64 * d) (hd : 2 ≤ d) {N : Nat} {a0 : Nat} {out : (Unit × zm_S)} {S : zm_S} (h : zf_X7_takeOutCommon_J50 N a0 S = some out) : zw p l e R s m args below meth c (vx_MQ below (zm_Qc zk_E V (zo_v out)) (zm_XC zk_E V zo_x) args s mc ms (fun q => V.2.2.2.1 ≤ q)) 3 zk_E V mc ms 50 [(0, .ref a0)] [] S rc rs := by
  unfold zf_X7_takeOutCommon_J50 at h
  refine zw_aload_n hX dX7_takeOutCommon_50 rfl ?_
  obtain ⟨w6, g, h⟩ := zb_some h
  refine zw_getl hX zl_X7_114 dX7_takeOutCommon_51 g ?_
  refine zw_lconst (v := (0 : Int64)) hX dX7_takeOutCommon_54 (by decide) ?_
  refine zw_lcmp hX dX7_takeOutCommon_55 ?_
  refine zw_if_ge (tgt := 105) hX dX7_takeOutCommon_56 (by decide) (fun c56 => ?_) (fun c56 => ?_)
  · rw [if_pos c56] at h
    obtain rfl := Option.some.inj h
    exact zw_vret hX hr dX7_takeOutCommon_105 ⟨rfl, rfl⟩
  · rw [if_neg c56] at h
    refine zw_aload_n hX dX7_takeOutCommon_59 rfl ?_
    obtain ⟨w7, g, h⟩ := zb_some h
    refine zw_getl hX zl_X7_111 dX7_takeOutCommon_60 g ?_
    refine zw_ldc2 (v := (-9223372036854775808 : Int64)) hX dX7_takeOutCommon_63 zl_X7_152 ?_
    refine zw_lcmp hX dX7_takeOutCommon_66 ?_
    refine zw_if_eq (tgt := 81) hX dX7_takeOutCommon_67 (by decide) (fun c67 => ?_) (fun c67 => ?_)
    · rw [if_pos c67] at h
      refine zw_sub (lv' := [(0, .ref a0)]) (List.forall_mem_cons.mpr ⟨rfl, zs_nil⟩) ?_
      exact zt_X7_takeOutCommon_J81 hX hr hR hd h
    · rw [if_neg c67] at h
      refine zw_aload_n hX dX7_takeOutCommon_70 rfl ?_
      obtain ⟨w9, g, h⟩ := zb_some h
      refine zw_getl hX zl_X7_114 dX7_takeOutCommon_71 g ?_
      refine zw_ldc2 (v := (-9223372036854775808 : Int64)) hX dX7_takeOutCommon_74 zl_X7_152 ?_
      refine zw_lcmp hX dX7_takeOutCommon_77 ?_
      refine zw_if_ne (tgt := 87) hX dX7_takeOutCommon_78 (by decide) (fun c78 => ?_) (fun c78 => ?_)
      · rw [if_neg c78] at h
        refine zw_aload_n hX dX7_takeOutCommon_87 rfl ?_
        refine zw_aload_n hX dX7_takeOutCommon_88 rfl ?_
        obtain ⟨w10, g, h⟩ := zb_some h
        refine zw_getl hX zl_X7_111 dX7_takeOutCommon_89 g ?_
        refine zw_lneg hX dX7_takeOutCommon_92 ?_
        obtain ⟨S11, g, h⟩ := zb_some h
        refine zw_putv hX zl_X7_111 zt_7_14 dX7_takeOutCommon_93 rfl rfl g ?_
        refine zw_aload_n hX dX7_takeOutCommon_96 rfl ?_
        refine zw_aload_n hX dX7_takeOutCommon_97 rfl ?_
        obtain ⟨w12, g, h⟩ := zb_some h
        refine zw_getl hX zl_X7_114 dX7_takeOutCommon_98 g ?_
        refine zw_lneg hX dX7_takeOutCommon_101 ?_
        obtain ⟨S13, g, h⟩ := zb_some h
        refine zw_putv hX zl_X7_114 zt_7_15 dX7_takeOutCommon_102 rfl rfl g ?_
        obtain rfl := Option.some.inj h
        exact zw_vret hX hr dX7_takeOutCommon_105 ⟨rfl, rfl⟩
      · rw [if_pos c78] at h
        refine zw_sub (lv' := [(0, .ref a0)]) (List.forall_mem_cons.mpr ⟨rfl, zs_nil⟩) ?_
        exact zt_X7_takeOutCommon_J81 hX hr hR hd h
set_option maxHeartbeats 4000000 in
set_option maxRecDepth 100000 in
theorem zt_X7_takeOutCommon {l : Launch} {V : zm_V} {N : Nat} {S : zm_S} {out : (Unit × zm_S)} {d : Nat} {a0 : Nat} (hd : 2 ≤ d) (h : zf_X7_takeOutCommon N a0 S = some out) : zm_Met l zk_E V yX7_takeOutCommon (.code yX7_takeOutCommon cX7_takeOutCommon 3 none) d [.ref a0] S 0 0 (zo_v out) zo_x := by
  refine zm_of (by decide +kernel) (Nat.le_of_ble_eq_true rfl) ?_
  intro p e R s m args below meth c hRR hX hr hxt
  have hR : R.frames = d ∧ R.locals = 64 * d := by rw [hRR]; exact ⟨rfl, rfl⟩
  have hX : zm_X p R s m args meth c RX7 "takeOutCommon" cX7_takeOutCommon 3 zk_E V 0 0 := hX
  unfold zf_X7_takeOutCommon at h
  refine zw_sub (lv' := [(0, .ref a0)]) (List.forall_mem_cons.mpr ⟨rfl, zs_nil⟩) ?_
  refine zw_aload_n hX dX7_takeOutCommon_0 rfl ?_
  obtain ⟨v1, g, h⟩ := zb_some h
  refine zw_geti hX zl_X7_89 dX7_takeOutCommon_1 g ?_
  refine zw_if_eq (tgt := 8) hX dX7_takeOutCommon_4 (by decide) (fun c4 => ?_) (fun c4 => ?_)
  · rw [if_pos c4] at h
    refine zw_aload_n hX dX7_takeOutCommon_8 rfl ?_
    obtain ⟨w2, g, h⟩ := zb_some h
    refine zw_getl hX zl_X7_111 dX7_takeOutCommon_9 g ?_
    refine zw_aload_n hX dX7_takeOutCommon_12 rfl ?_
    obtain ⟨w3, g, h⟩ := zb_some h
    refine zw_getl hX zl_X7_114 dX7_takeOutCommon_13 g ?_
    obtain ⟨r5, g, h⟩ := zb_some h
    refine zc_Sl (as := [.long w2, .long w3]) hX (zt_X7_commonBelowZero (d := d - 1) (by omega) g) zl_X7_154 dX7_takeOutCommon_16 ⟨rfl, rfl, Nat.le_of_ble_eq_true rfl⟩ ⟨by omega, by omega⟩ ?_
    refine zw_lstore_n hX dX7_takeOutCommon_19 (by decide) ?_
    refine zw_lload_n hX dX7_takeOutCommon_20 rfl ?_
    refine zw_ldc2 (v := (-1 : Int64)) hX dX7_takeOutCommon_21 zl_X7_148 ?_
    refine zw_lcmp hX dX7_takeOutCommon_24 ?_
    refine zw_if_ge (tgt := 50) hX dX7_takeOutCommon_25 (by decide) (fun c25 => ?_) (fun c25 => ?_)
    · rw [if_pos c25] at h
      refine zw_sub (lv' := [(0, .ref a0)]) (List.forall_mem_cons.mpr ⟨rfl, zs_nil⟩) ?_
      exact zt_X7_takeOutCommon_J50 hX hr hR hd h
    · rw [if_neg c25] at h
      refine zw_aload_n hX dX7_takeOutCommon_28 rfl ?_
      refine zw_aload_n hX dX7_takeOutCommon_29 rfl ?_
      obtain ⟨w14, g, h⟩ := zb_some h
      refine zw_getl hX zl_X7_111 dX7_takeOutCommon_30 g ?_
      refine zw_lload_n hX dX7_takeOutCommon_33 rfl ?_
      by_cases c0 : r5.1 = 0
      · rw [if_pos c0] at h
        cases h
      rw [if_neg c0] at h
      refine zw_ldiv hX dX7_takeOutCommon_34 c0 ?_
      refine zw_lneg hX dX7_takeOutCommon_35 ?_
      obtain ⟨S15, g, h⟩ := zb_some h
      refine zw_putv hX zl_X7_111 zt_7_14 dX7_takeOutCommon_36 rfl rfl g ?_
      refine zw_aload_n hX dX7_takeOutCommon_39 rfl ?_
      refine zw_aload_n hX dX7_takeOutCommon_40 rfl ?_
      obtain ⟨w16, g, h⟩ := zb_some h
      refine zw_getl hX zl_X7_114 dX7_takeOutCommon_41 g ?_
      refine zw_lload_n hX dX7_takeOutCommon_44 rfl ?_
      by_cases c0 : r5.1 = 0
      · rw [if_pos c0] at h
        cases h
      rw [if_neg c0] at h
      refine zw_ldiv hX dX7_takeOutCommon_45 c0 ?_
      refine zw_lneg hX dX7_takeOutCommon_46 ?_
      obtain ⟨S17, g, h⟩ := zb_some h
      refine zw_putv hX zl_X7_114 zt_7_15 dX7_takeOutCommon_47 rfl rfl g ?_
      refine zw_sub (lv' := [(0, .ref a0)]) (List.forall_mem_cons.mpr ⟨rfl, zs_nil⟩) ?_
      exact zt_X7_takeOutCommon_J50 hX hr hR hd h
  · rw [if_neg c4] at h
    obtain rfl := Option.some.inj h
    exact zw_vret hX hr dX7_takeOutCommon_7 ⟨rfl, rfl⟩
set_option maxHeartbeats 4000000 in
set_option maxRecDepth 100000 in
theorem zt_X7_reckonTerm_L7 {p : Program} {l : Launch} {e : Env} {R : Room} {s : State} {m : MethodId} {args : Array Value} {below : List Frame} {meth : Method} {c : Code} {V : zm_V} {mc ms d rc rs : Nat} {K : Nat → Int32 → zm_S → Option (Unit × zm_S)} {dk : Nat} (hK : ∀ {d : Nat}, dk ≤ d → ∀ {k0 : Nat} {k1 : Int32} {S : zm_S} {out : Unit × zm_S}, K k0 k1 S = some out → zm_Met l zk_E V yX7_reckonSide (.code yX7_reckonSide cX7_reckonSide 9 none) d [.ref k0, .int k1] S 0 0 (zo_v out) zo_x) (hX : zm_X p R s m args meth c RX7 "reckonTerm" cX7_reckonTerm 8 zk_E V mc ms) (hr : meth.sig.returnType = none) (hR : R.frames = d ∧ R.locals = 64 * d) (hd : 3 ≤ d ∧ dk + 2 ≤ d) {N : Nat} {res : (Unit × zm_S) ⊕ ((Unit) × zm_S)} {out : (Unit × zm_S)} (a0 : Nat) (i1 : Int32) (hf : ∀ o, res = .inl o → o = out) (hk : ∀ (S' : zm_S), res = .inr ((), S') → zw p l e R s m args below meth c (vx_MQ below (zm_Qc zk_E V (zo_v out)) (zm_XC zk_E V zo_x) args s mc ms (fun q => V.2.2.2.1 ≤ q)) 8 zk_E V mc ms 72 [] [] S' rc rs) : ∀ (n : Nat) (i2 : Int32) (S : zm_S), zf_X7_reckonTerm_L7 N K n a0 i1 i2 S = some res → zw p l e R s m args below meth c (vx_MQ below (zm_Qc zk_E V (zo_v out)) (zm_XC zk_E V zo_x) args s mc ms (fun q => V.2.2.2.1 ≤ q)) 8 zk_E V mc ms 7 [(0, .ref a0), (1, .int i1), (2, .int i2)] [] S rc rs := by
  intro n
  induction n with
  | zero => intro i2 S h; cases h
  | succ n ih =>
    intro i2 S h
    rw [zf_X7_reckonTerm_L7] at h
    refine zw_iload_n hX dX7_reckonTerm_7 rfl ?_
    refine zw_bipush (v := (120 : Int32)) hX dX7_reckonTerm_8 (by decide) ?_
    refine zw_icmp_ge (tgt := 72) hX dX7_reckonTerm_10 (by decide) (fun c10 => ?_) (fun c10 => ?_)
    · rw [if_pos c10] at h
      refine zw_sub (lv' := []) zs_nil ?_
      exact hk  _ (Option.some.inj h).symm
    · rw [if_neg c10] at h
      refine zw_aload_n hX dX7_reckonTerm_13 rfl ?_
      obtain ⟨v3, g, h⟩ := zb_some h
      refine zw_geti hX zl_X7_89 dX7_reckonTerm_14 g ?_
      refine zw_if_ne (tgt := 72) hX dX7_reckonTerm_17 (by decide) (fun c17 => ?_) (fun c17 => ?_)
      · rw [if_neg c17] at h
        refine zw_sub (lv' := []) zs_nil ?_
        exact hk  _ (Option.some.inj h).symm
      · rw [if_pos c17] at h
        refine zw_aload_n hX dX7_reckonTerm_20 rfl ?_
        refine zw_bipush (v := (42 : Int32)) hX dX7_reckonTerm_21 (by decide) ?_
        refine zw_bipush (v := (47 : Int32)) hX dX7_reckonTerm_23 (by decide) ?_
        obtain ⟨_, gi, h⟩ := zb_some h
        obtain ⟨r5, g, h⟩ := zb_some h
        refine zc_Vi (as := [.int (42 : Int32), .int (47 : Int32)]) hX gi (zt_X7_isSign (d := d - 1) (by omega) g) zl_X7_135 rfl dX7_reckonTerm_25 ⟨rfl, rfl, Nat.le_of_ble_eq_true rfl⟩ ⟨by omega, by omega⟩ ?_
        refine zw_if_eq (tgt := 72) hX dX7_reckonTerm_28 (by decide) (fun c28 => ?_) (fun c28 => ?_)
        · rw [if_pos c28] at h
          refine zw_sub (lv' := []) zs_nil ?_
          exact hk  _ (Option.some.inj h).symm
        · rw [if_neg c28] at h
          refine zw_aload_n hX dX7_reckonTerm_31 rfl ?_
          obtain ⟨w6, g, h⟩ := zb_some h
          refine zw_getl hX zl_X7_111 dX7_reckonTerm_32 g ?_
          refine zw_lstore_n hX dX7_reckonTerm_35 (by decide) ?_
          refine zw_aload_n hX dX7_reckonTerm_36 rfl ?_
          obtain ⟨w7, g, h⟩ := zb_some h
          refine zw_getl hX zl_X7_114 dX7_reckonTerm_37 g ?_
          refine zw_lstore hX dX7_reckonTerm_40 (by decide) ?_
          refine zw_aload_n hX dX7_reckonTerm_42 rfl ?_
          obtain ⟨_, gi, h⟩ := zb_some h
          obtain ⟨r9, g, h⟩ := zb_some h
          refine zc_Vi (as := []) hX gi (zt_X7_takeWord (d := d - 1) (by omega) g) zl_X7_103 rfl dX7_reckonTerm_43 ⟨rfl, rfl, Nat.le_of_ble_eq_true rfl⟩ ⟨by omega, by omega⟩ ?_
          refine zw_istore hX dX7_reckonTerm_46 (by decide) ?_
          refine zw_aload_n hX dX7_reckonTerm_48 rfl ?_
          refine zw_iload_n hX dX7_reckonTerm_49 rfl ?_
          obtain ⟨_, gi, h⟩ := zb_some h
          obtain ⟨r11, g, h⟩ := zb_some h
          refine zc_Vv (as := [.int i1]) hX gi (zt_X7_reckonFactor hK (d := d - 1) (by omega) g) zl_X7_139 rfl dX7_reckonTerm_50 ⟨rfl, rfl, Nat.le_of_ble_eq_true rfl⟩ ⟨by omega, by omega⟩ ?_
          refine zw_aload_n hX dX7_reckonTerm_53 rfl ?_
          refine zw_iload hX dX7_reckonTerm_54 rfl ?_
          refine zw_lload_n hX dX7_reckonTerm_56 rfl ?_
          refine zw_lload hX dX7_reckonTerm_57 rfl ?_
          obtain ⟨_, gi, h⟩ := zb_some h
          obtain ⟨r13, g, h⟩ := zb_some h
          refine zc_Vv (as := [.int r9.1, .long w6, .long w7]) hX gi (zt_X7_combine (d := d - 1) (by omega) g) zl_X7_128 rfl dX7_reckonTerm_59 ⟨rfl, rfl, Nat.le_of_ble_eq_true rfl⟩ ⟨by omega, by omega⟩ ?_
          refine zw_aload_n hX dX7_reckonTerm_62 rfl ?_
          obtain ⟨_, gi, h⟩ := zb_some h
          obtain ⟨r15, g, h⟩ := zb_some h
          refine zc_Vv (as := []) hX gi (zt_X7_takeOutCommon (d := d - 1) (by omega) g) zl_X7_132 rfl dX7_reckonTerm_63 ⟨rfl, rfl, Nat.le_of_ble_eq_true rfl⟩ ⟨by omega, by omega⟩ ?_
          refine zw_iinc (v := (i2 + (1 : Int32))) hX dX7_reckonTerm_66 rfl rfl (by decide) ?_
          refine zw_goto (tgt := 7) hX dX7_reckonTerm_69 (by decide) ?_
          refine zw_sub (lv' := [(0, .ref a0), (1, .int i1), (2, .int (i2 + (1 : Int32)))]) (List.forall_mem_cons.mpr ⟨rfl, (List.forall_mem_cons.mpr ⟨rfl, (List.forall_mem_cons.mpr ⟨rfl, zs_nil⟩)⟩)⟩) ?_
          exact ih _ _ h
set_option maxHeartbeats 4000000 in
set_option maxRecDepth 100000 in
theorem zt_X7_reckonTerm {l : Launch} {V : zm_V} {K : Nat → Int32 → zm_S → Option (Unit × zm_S)} {dk : Nat} (hK : ∀ {d : Nat}, dk ≤ d → ∀ {k0 : Nat} {k1 : Int32} {S : zm_S} {out : Unit × zm_S}, K k0 k1 S = some out → zm_Met l zk_E V yX7_reckonSide (.code yX7_reckonSide cX7_reckonSide 9 none) d [.ref k0, .int k1] S 0 0 (zo_v out) zo_x) {N : Nat} {S : zm_S} {out : (Unit × zm_S)} {d : Nat} {a0 : Nat} {i1 : Int32} (hd : 3 ≤ d ∧ dk + 2 ≤ d) (h : zf_X7_reckonTerm N K a0 i1 S = some out) : zm_Met l zk_E V yX7_reckonTerm (.code yX7_reckonTerm cX7_reckonTerm 8 none) d [.ref a0, .int i1] S 0 0 (zo_v out) zo_x := by
  refine zm_of (by decide +kernel) (Nat.le_of_ble_eq_true rfl) ?_
  intro p e R s m args below meth c hRR hX hr hxt
  have hR : R.frames = d ∧ R.locals = 64 * d := by rw [hRR]; exact ⟨rfl, rfl⟩
  have hX : zm_X p R s m args meth c RX7 "reckonTerm" cX7_reckonTerm 8 zk_E V 0 0 := hX
  unfold zf_X7_reckonTerm at h
  refine zw_sub (lv' := [(0, .ref a0), (1, .int i1)]) (List.forall_mem_cons.mpr ⟨rfl, (List.forall_mem_cons.mpr ⟨rfl, zs_nil⟩)⟩) ?_
  refine zw_aload_n hX dX7_reckonTerm_0 rfl ?_
  refine zw_iload_n hX dX7_reckonTerm_1 rfl ?_
  obtain ⟨_, gi, h⟩ := zb_some h
  obtain ⟨r2, g, h⟩ := zb_some h
  refine zc_Vv (as := [.int i1]) hX gi (zt_X7_reckonFactor hK (d := d - 1) (by omega) g) zl_X7_139 rfl dX7_reckonTerm_2 ⟨rfl, rfl, Nat.le_of_ble_eq_true rfl⟩ ⟨by omega, by omega⟩ ?_
  refine zw_iconst (v := (0 : Int32)) hX dX7_reckonTerm_5 (by decide) ?_
  refine zw_istore_n hX dX7_reckonTerm_6 (by decide) ?_
  obtain ⟨r, g, h⟩ := zb_some h
  refine zw_sub (lv' := [(0, .ref a0), (1, .int i1), (2, .int (0 : Int32))]) (List.forall_mem_cons.mpr ⟨rfl, (List.forall_mem_cons.mpr ⟨rfl, (List.forall_mem_cons.mpr ⟨rfl, zs_nil⟩)⟩)⟩) ?_
  refine zt_X7_reckonTerm_L7 hK hX hr hR hd (res := r) (out := out) a0 i1 ?_ ?_ N _ _ g
  · intro o ho
    subst ho
    exact Option.some.inj h
  · intro  S16 hx
    subst hx
    try dsimp only at h
    obtain rfl := Option.some.inj h
    exact zw_vret hX hr dX7_reckonTerm_72 ⟨rfl, rfl⟩
set_option maxHeartbeats 4000000 in
set_option maxRecDepth 100000 in
theorem zt_X7_reckonSide_B_L52 {p : Program} {l : Launch} {e : Env} {R : Room} {s : State} {m : MethodId} {args : Array Value} {below : List Frame} {meth : Method} {c : Code} {V : zm_V} {mc ms d rc rs : Nat} {K : Nat → Int32 → zm_S → Option (Unit × zm_S)} {dk : Nat} (hK : ∀ {d : Nat}, dk ≤ d → ∀ {k0 : Nat} {k1 : Int32} {S : zm_S} {out : Unit × zm_S}, K k0 k1 S = some out → zm_Met l zk_E V yX7_reckonSide (.code yX7_reckonSide cX7_reckonSide 9 none) d [.ref k0, .int k1] S 0 0 (zo_v out) zo_x) (hX : zm_X p R s m args meth c RX7 "reckonSide" cX7_reckonSide 9 zk_E V mc ms) (hr : meth.sig.returnType = none) (hR : R.frames = d ∧ R.locals = 64 * d) (hd : 4 ≤ d ∧ dk + 3 ≤ d) {N : Nat} {res : (Unit × zm_S) ⊕ ((Unit) × zm_S)} {out : (Unit × zm_S)} (a0 : Nat) (i1 : Int32) (hf : ∀ o, res = .inl o → o = out) (hk : ∀ (S' : zm_S), res = .inr ((), S') → zw p l e R s m args below meth c (vx_MQ below (zm_Qc zk_E V (zo_v out)) (zm_XC zk_E V zo_x) args s mc ms (fun q => V.2.2.2.1 ≤ q)) 9 zk_E V mc ms 119 [] [] S' rc rs) : ∀ (n : Nat) (i3 : Int32) (S : zm_S), zf_X7_reckonSide_B_L52 N K n a0 i1 i3 S = some res → zw p l e R s m args below meth c (vx_MQ below (zm_Qc zk_E V (zo_v out)) (zm_XC zk_E V zo_x) args s mc ms (fun q => V.2.2.2.1 ≤ q)) 9 zk_E V mc ms 52 [(0, .ref a0), (1, .int i1), (3, .int i3)] [] S rc rs := by
  intro n
  induction n with
  | zero => intro i3 S h; cases h
  | succ n ih =>
    intro i3 S h
    rw [zf_X7_reckonSide_B_L52] at h
    refine zw_iload_n hX dX7_reckonSide_52 rfl ?_
    refine zw_bipush (v := (120 : Int32)) hX dX7_reckonSide_53 (by decide) ?_
    refine zw_icmp_ge (tgt := 119) hX dX7_reckonSide_55 (by decide) (fun c55 => ?_) (fun c55 => ?_)
    · rw [if_pos c55] at h
      refine zw_sub (lv' := []) zs_nil ?_
      exact hk  _ (Option.some.inj h).symm
    · rw [if_neg c55] at h
      refine zw_aload_n hX dX7_reckonSide_58 rfl ?_
      obtain ⟨v6, g, h⟩ := zb_some h
      refine zw_geti hX zl_X7_89 dX7_reckonSide_59 g ?_
      refine zw_if_ne (tgt := 119) hX dX7_reckonSide_62 (by decide) (fun c62 => ?_) (fun c62 => ?_)
      · rw [if_neg c62] at h
        refine zw_sub (lv' := []) zs_nil ?_
        exact hk  _ (Option.some.inj h).symm
      · rw [if_pos c62] at h
        refine zw_aload_n hX dX7_reckonSide_65 rfl ?_
        refine zw_bipush (v := (43 : Int32)) hX dX7_reckonSide_66 (by decide) ?_
        refine zw_bipush (v := (45 : Int32)) hX dX7_reckonSide_68 (by decide) ?_
        obtain ⟨_, gi, h⟩ := zb_some h
        obtain ⟨r8, g, h⟩ := zb_some h
        refine zc_Vi (as := [.int (43 : Int32), .int (45 : Int32)]) hX gi (zt_X7_isSign (d := d - 1) (by omega) g) zl_X7_135 rfl dX7_reckonSide_70 ⟨rfl, rfl, Nat.le_of_ble_eq_true rfl⟩ ⟨by omega, by omega⟩ ?_
        refine zw_if_eq (tgt := 119) hX dX7_reckonSide_73 (by decide) (fun c73 => ?_) (fun c73 => ?_)
        · rw [if_pos c73] at h
          refine zw_sub (lv' := []) zs_nil ?_
          exact hk  _ (Option.some.inj h).symm
        · rw [if_neg c73] at h
          refine zw_aload_n hX dX7_reckonSide_76 rfl ?_
          obtain ⟨w9, g, h⟩ := zb_some h
          refine zw_getl hX zl_X7_111 dX7_reckonSide_77 g ?_
          refine zw_lstore hX dX7_reckonSide_80 (by decide) ?_
          refine zw_aload_n hX dX7_reckonSide_82 rfl ?_
          obtain ⟨w10, g, h⟩ := zb_some h
          refine zw_getl hX zl_X7_114 dX7_reckonSide_83 g ?_
          refine zw_lstore hX dX7_reckonSide_86 (by decide) ?_
          refine zw_aload_n hX dX7_reckonSide_88 rfl ?_
          obtain ⟨_, gi, h⟩ := zb_some h
          obtain ⟨r12, g, h⟩ := zb_some h
          refine zc_Vi (as := []) hX gi (zt_X7_takeWord (d := d - 1) (by omega) g) zl_X7_103 rfl dX7_reckonSide_89 ⟨rfl, rfl, Nat.le_of_ble_eq_true rfl⟩ ⟨by omega, by omega⟩ ?_
          refine zw_istore hX dX7_reckonSide_92 (by decide) ?_
          refine zw_aload_n hX dX7_reckonSide_94 rfl ?_
          refine zw_iload_n hX dX7_reckonSide_95 rfl ?_
          obtain ⟨_, gi, h⟩ := zb_some h
          obtain ⟨r14, g, h⟩ := zb_some h
          refine zc_Vv (as := [.int i1]) hX gi (zt_X7_reckonTerm hK (d := d - 1) (by omega) g) zl_X7_125 rfl dX7_reckonSide_96 ⟨rfl, rfl, Nat.le_of_ble_eq_true rfl⟩ ⟨by omega, by omega⟩ ?_
          refine zw_aload_n hX dX7_reckonSide_99 rfl ?_
          refine zw_iload hX dX7_reckonSide_100 rfl ?_
          refine zw_lload hX dX7_reckonSide_102 rfl ?_
          refine zw_lload hX dX7_reckonSide_104 rfl ?_
          obtain ⟨_, gi, h⟩ := zb_some h
          obtain ⟨r16, g, h⟩ := zb_some h
          refine zc_Vv (as := [.int r12.1, .long w9, .long w10]) hX gi (zt_X7_combine (d := d - 1) (by omega) g) zl_X7_128 rfl dX7_reckonSide_106 ⟨rfl, rfl, Nat.le_of_ble_eq_true rfl⟩ ⟨by omega, by omega⟩ ?_
          refine zw_aload_n hX dX7_reckonSide_109 rfl ?_
          obtain ⟨_, gi, h⟩ := zb_some h
          obtain ⟨r18, g, h⟩ := zb_some h
          refine zc_Vv (as := []) hX gi (zt_X7_takeOutCommon (d := d - 1) (by omega) g) zl_X7_132 rfl dX7_reckonSide_110 ⟨rfl, rfl, Nat.le_of_ble_eq_true rfl⟩ ⟨by omega, by omega⟩ ?_
          refine zw_iinc (v := (i3 + (1 : Int32))) hX dX7_reckonSide_113 rfl rfl (by decide) ?_
          refine zw_goto (tgt := 52) hX dX7_reckonSide_116 (by decide) ?_
          refine zw_sub (lv' := [(0, .ref a0), (1, .int i1), (3, .int (i3 + (1 : Int32)))]) (List.forall_mem_cons.mpr ⟨rfl, (List.forall_mem_cons.mpr ⟨rfl, (List.forall_mem_cons.mpr ⟨rfl, zs_nil⟩)⟩)⟩) ?_
          exact ih _ _ h
set_option maxHeartbeats 4000000 in
set_option maxRecDepth 100000 in
theorem zt_X7_reckonSide_B_J50 {p : Program} {l : Launch} {e : Env} {R : Room} {s : State} {m : MethodId} {args : Array Value} {below : List Frame} {meth : Method} {c : Code} {V : zm_V} {mc ms d rc rs : Nat} {K : Nat → Int32 → zm_S → Option (Unit × zm_S)} {dk : Nat} (hK : ∀ {d : Nat}, dk ≤ d → ∀ {k0 : Nat} {k1 : Int32} {S : zm_S} {out : Unit × zm_S}, K k0 k1 S = some out → zm_Met l zk_E V yX7_reckonSide (.code yX7_reckonSide cX7_reckonSide 9 none) d [.ref k0, .int k1] S 0 0 (zo_v out) zo_x) (hX : zm_X p R s m args meth c RX7 "reckonSide" cX7_reckonSide 9 zk_E V mc ms) (hr : meth.sig.returnType = none) (hR : R.frames = d ∧ R.locals = 64 * d) (hd : 4 ≤ d ∧ dk + 3 ≤ d) {N : Nat} {a0 : Nat} {i1 : Int32} {out : (Unit × zm_S)} {S : zm_S} (h : zf_X7_reckonSide_B_J50 N K a0 i1 S = some out) : zw p l e R s m args below meth c (vx_MQ below (zm_Qc zk_E V (zo_v out)) (zm_XC zk_E V zo_x) args s mc ms (fun q => V.2.2.2.1 ≤ q)) 9 zk_E V mc ms 50 [(0, .ref a0), (1, .int i1)] [] S rc rs := by
  unfold zf_X7_reckonSide_B_J50 at h
  refine zw_iconst (v := (0 : Int32)) hX dX7_reckonSide_50 (by decide) ?_
  refine zw_istore_n hX dX7_reckonSide_51 (by decide) ?_
  obtain ⟨r, g, h⟩ := zb_some h
  refine zw_sub (lv' := [(0, .ref a0), (1, .int i1), (3, .int (0 : Int32))]) (List.forall_mem_cons.mpr ⟨rfl, (List.forall_mem_cons.mpr ⟨rfl, (List.forall_mem_cons.mpr ⟨rfl, zs_nil⟩)⟩)⟩) ?_
  refine zt_X7_reckonSide_B_L52 hK hX hr hR hd (res := r) (out := out) a0 i1 ?_ ?_ N _ _ g
  · intro o ho
    subst ho
    exact Option.some.inj h
  · intro  S19 hx
    subst hx
    try dsimp only at h
    obtain rfl := Option.some.inj h
    exact zw_vret hX hr dX7_reckonSide_119 ⟨rfl, rfl⟩
set_option maxHeartbeats 4000000 in
set_option maxRecDepth 100000 in
theorem zt_X7_reckonSide_B_J29 {p : Program} {l : Launch} {e : Env} {R : Room} {s : State} {m : MethodId} {args : Array Value} {below : List Frame} {meth : Method} {c : Code} {V : zm_V} {mc ms d rc rs : Nat} {K : Nat → Int32 → zm_S → Option (Unit × zm_S)} {dk : Nat} (hK : ∀ {d : Nat}, dk ≤ d → ∀ {k0 : Nat} {k1 : Int32} {S : zm_S} {out : Unit × zm_S}, K k0 k1 S = some out → zm_Met l zk_E V yX7_reckonSide (.code yX7_reckonSide cX7_reckonSide 9 none) d [.ref k0, .int k1] S 0 0 (zo_v out) zo_x) (hX : zm_X p R s m args meth c RX7 "reckonSide" cX7_reckonSide 9 zk_E V mc ms) (hr : meth.sig.returnType = none) (hR : R.frames = d ∧ R.locals = 64 * d) (hd : 4 ≤ d ∧ dk + 3 ≤ d) {N : Nat} {a0 : Nat} {i1 : Int32} {i2 : Int32} {out : (Unit × zm_S)} {S : zm_S} (h : zf_X7_reckonSide_B_J29 N K a0 i1 i2 S = some out) : zw p l e R s m args below meth c (vx_MQ below (zm_Qc zk_E V (zo_v out)) (zm_XC zk_E V zo_x) args s mc ms (fun q => V.2.2.2.1 ≤ q)) 9 zk_E V mc ms 29 [(0, .ref a0), (1, .int i1), (2, .int i2)] [] S rc rs := by
  unfold zf_X7_reckonSide_B_J29 at h
  refine zw_aload_n hX dX7_reckonSide_29 rfl ?_
  refine zw_iload_n hX dX7_reckonSide_30 rfl ?_
  obtain ⟨_, gi, h⟩ := zb_some h
  obtain ⟨r5, g, h⟩ := zb_some h
  refine zc_Vv (as := [.int i1]) hX gi (zt_X7_reckonTerm hK (d := d - 1) (by omega) g) zl_X7_125 rfl dX7_reckonSide_31 ⟨rfl, rfl, Nat.le_of_ble_eq_true rfl⟩ ⟨by omega, by omega⟩ ?_
  refine zw_iload_n hX dX7_reckonSide_34 rfl ?_
  refine zw_if_eq (tgt := 50) hX dX7_reckonSide_35 (by decide) (fun c35 => ?_) (fun c35 => ?_)
  · rw [if_pos c35] at h
    refine zw_sub (lv' := [(0, .ref a0), (1, .int i1)]) (List.forall_mem_cons.mpr ⟨rfl, (List.forall_mem_cons.mpr ⟨rfl, zs_nil⟩)⟩) ?_
    exact zt_X7_reckonSide_B_J50 hK hX hr hR hd h
  · rw [if_neg c35] at h
    refine zw_aload_n hX dX7_reckonSide_38 rfl ?_
    refine zw_bipush (v := (45 : Int32)) hX dX7_reckonSide_39 (by decide) ?_
    refine zw_lconst (v := (0 : Int64)) hX dX7_reckonSide_41 (by decide) ?_
    refine zw_lconst (v := (1 : Int64)) hX dX7_reckonSide_42 (by decide) ?_
    obtain ⟨_, gi, h⟩ := zb_some h
    obtain ⟨r21, g, h⟩ := zb_some h
    refine zc_Vv (as := [.int (45 : Int32), .long (0 : Int64), .long (1 : Int64)]) hX gi (zt_X7_combine (d := d - 1) (by omega) g) zl_X7_128 rfl dX7_reckonSide_43 ⟨rfl, rfl, Nat.le_of_ble_eq_true rfl⟩ ⟨by omega, by omega⟩ ?_
    refine zw_aload_n hX dX7_reckonSide_46 rfl ?_
    obtain ⟨_, gi, h⟩ := zb_some h
    obtain ⟨r23, g, h⟩ := zb_some h
    refine zc_Vv (as := []) hX gi (zt_X7_takeOutCommon (d := d - 1) (by omega) g) zl_X7_132 rfl dX7_reckonSide_47 ⟨rfl, rfl, Nat.le_of_ble_eq_true rfl⟩ ⟨by omega, by omega⟩ ?_
    refine zw_sub (lv' := [(0, .ref a0), (1, .int i1)]) (List.forall_mem_cons.mpr ⟨rfl, (List.forall_mem_cons.mpr ⟨rfl, zs_nil⟩)⟩) ?_
    exact zt_X7_reckonSide_B_J50 hK hX hr hR hd h
set_option maxHeartbeats 4000000 in
set_option maxRecDepth 100000 in
theorem zt_X7_reckonSide_B_J19 {p : Program} {l : Launch} {e : Env} {R : Room} {s : State} {m : MethodId} {args : Array Value} {below : List Frame} {meth : Method} {c : Code} {V : zm_V} {mc ms d rc rs : Nat} {K : Nat → Int32 → zm_S → Option (Unit × zm_S)} {dk : Nat} (hK : ∀ {d : Nat}, dk ≤ d → ∀ {k0 : Nat} {k1 : Int32} {S : zm_S} {out : Unit × zm_S}, K k0 k1 S = some out → zm_Met l zk_E V yX7_reckonSide (.code yX7_reckonSide cX7_reckonSide 9 none) d [.ref k0, .int k1] S 0 0 (zo_v out) zo_x) (hX : zm_X p R s m args meth c RX7 "reckonSide" cX7_reckonSide 9 zk_E V mc ms) (hr : meth.sig.returnType = none) (hR : R.frames = d ∧ R.locals = 64 * d) (hd : 4 ≤ d ∧ dk + 3 ≤ d) {N : Nat} {a0 : Nat} {i1 : Int32} {t0 : Int32} {out : (Unit × zm_S)} {S : zm_S} (h : zf_X7_reckonSide_B_J19 N K a0 i1 t0 S = some out) : zw p l e R s m args below meth c (vx_MQ below (zm_Qc zk_E V (zo_v out)) (zm_XC zk_E V zo_x) args s mc ms (fun q => V.2.2.2.1 ≤ q)) 9 zk_E V mc ms 19 [(0, .ref a0), (1, .int i1)] [.int t0] S rc rs := by
  unfold zf_X7_reckonSide_B_J19 at h
  refine zw_istore_n hX dX7_reckonSide_19 (by decide) ?_
  refine zw_iload_n hX dX7_reckonSide_20 rfl ?_
  refine zw_if_eq (tgt := 29) hX dX7_reckonSide_21 (by decide) (fun c21 => ?_) (fun c21 => ?_)
  · rw [if_pos c21] at h
    refine zw_sub (lv' := [(0, .ref a0), (1, .int i1), (2, .int t0)]) (List.forall_mem_cons.mpr ⟨rfl, (List.forall_mem_cons.mpr ⟨rfl, (List.forall_mem_cons.mpr ⟨rfl, zs_nil⟩)⟩)⟩) ?_
    exact zt_X7_reckonSide_B_J29 hK hX hr hR hd h
  · rw [if_neg c21] at h
    refine zw_aload_n hX dX7_reckonSide_24 rfl ?_
    obtain ⟨_, gi, h⟩ := zb_some h
    obtain ⟨r25, g, h⟩ := zb_some h
    refine zc_Vi (as := []) hX gi (zt_X7_takeWord (d := d - 1) (by omega) g) zl_X7_103 rfl dX7_reckonSide_25 ⟨rfl, rfl, Nat.le_of_ble_eq_true rfl⟩ ⟨by omega, by omega⟩ ?_
    refine zw_pop hX dX7_reckonSide_28 rfl ?_
    refine zw_sub (lv' := [(0, .ref a0), (1, .int i1), (2, .int t0)]) (List.forall_mem_cons.mpr ⟨rfl, (List.forall_mem_cons.mpr ⟨rfl, (List.forall_mem_cons.mpr ⟨rfl, zs_nil⟩)⟩)⟩) ?_
    exact zt_X7_reckonSide_B_J29 hK hX hr hR hd h
set_option maxHeartbeats 4000000 in
set_option maxRecDepth 100000 in
theorem zt_X7_reckonSide_B {l : Launch} {V : zm_V} {K : Nat → Int32 → zm_S → Option (Unit × zm_S)} {dk : Nat} (hK : ∀ {d : Nat}, dk ≤ d → ∀ {k0 : Nat} {k1 : Int32} {S : zm_S} {out : Unit × zm_S}, K k0 k1 S = some out → zm_Met l zk_E V yX7_reckonSide (.code yX7_reckonSide cX7_reckonSide 9 none) d [.ref k0, .int k1] S 0 0 (zo_v out) zo_x) {N : Nat} {S : zm_S} {out : (Unit × zm_S)} {d : Nat} {a0 : Nat} {i1 : Int32} (hd : 4 ≤ d ∧ dk + 3 ≤ d) (h : zf_X7_reckonSide_B N K a0 i1 S = some out) : zm_Met l zk_E V yX7_reckonSide (.code yX7_reckonSide cX7_reckonSide 9 none) d [.ref a0, .int i1] S 0 0 (zo_v out) zo_x := by
  refine zm_of (by decide +kernel) (Nat.le_of_ble_eq_true rfl) ?_
  intro p e R s m args below meth c hRR hX hr hxt
  have hR : R.frames = d ∧ R.locals = 64 * d := by rw [hRR]; exact ⟨rfl, rfl⟩
  have hX : zm_X p R s m args meth c RX7 "reckonSide" cX7_reckonSide 9 zk_E V 0 0 := hX
  unfold zf_X7_reckonSide_B at h
  refine zw_sub (lv' := [(0, .ref a0), (1, .int i1)]) (List.forall_mem_cons.mpr ⟨rfl, (List.forall_mem_cons.mpr ⟨rfl, zs_nil⟩)⟩) ?_
  refine zw_aload_n hX dX7_reckonSide_0 rfl ?_
  obtain ⟨b1, g, h⟩ := zb_some h
  refine zw_getr hX zl_X7_11 dX7_reckonSide_1 g ?_
  refine zw_aload_n hX dX7_reckonSide_4 rfl ?_
  obtain ⟨v2, g, h⟩ := zb_some h
  refine zw_geti hX zl_X7_96 dX7_reckonSide_5 g ?_
  obtain ⟨v3, g, h⟩ := zb_some h
  refine zw_xi hX dX7_reckonSide_8 g ?_
  refine zw_bipush (v := (45 : Int32)) hX dX7_reckonSide_9 (by decide) ?_
  refine zw_icmp_ne (tgt := 18) hX dX7_reckonSide_11 (by decide) (fun c11 => ?_) (fun c11 => ?_)
  · rw [if_neg c11] at h
    refine zw_iconst (v := (0 : Int32)) hX dX7_reckonSide_18 (by decide) ?_
    refine zw_sub (lv' := [(0, .ref a0), (1, .int i1)]) (List.forall_mem_cons.mpr ⟨rfl, (List.forall_mem_cons.mpr ⟨rfl, zs_nil⟩)⟩) ?_
    exact zt_X7_reckonSide_B_J19 hK hX hr hR hd h
  · rw [if_pos c11] at h
    refine zw_iconst (v := (1 : Int32)) hX dX7_reckonSide_14 (by decide) ?_
    refine zw_goto (tgt := 19) hX dX7_reckonSide_15 (by decide) ?_
    refine zw_sub (lv' := [(0, .ref a0), (1, .int i1)]) (List.forall_mem_cons.mpr ⟨rfl, (List.forall_mem_cons.mpr ⟨rfl, zs_nil⟩)⟩) ?_
    exact zt_X7_reckonSide_B_J19 hK hX hr hR hd h
set_option maxHeartbeats 4000000 in
set_option maxRecDepth 100000 in
theorem zu_X7_reckonSide {l : Launch} {V : zm_V} {N : Nat} : ∀ (n : Nat) {d : Nat}, 4 + 3 * n ≤ d → ∀ {a0 : Nat} {i1 : Int32} {S : zm_S} {out : (Unit × zm_S)}, zr_X7_reckonSide N n a0 i1 S = some out → zm_Met l zk_E V yX7_reckonSide (.code yX7_reckonSide cX7_reckonSide 9 none) d [.ref a0, .int i1] S 0 0 (zo_v out) zo_x := by
  intro n
  induction n with
  | zero => intro d _ a0 i1 S out h; cases h
  | succ n ih =>
    intro d hd a0 i1 S out h
    rw [zr_X7_reckonSide] at h
    exact zt_X7_reckonSide_B (dk := 4 + 3 * n) (fun {_} h1 => ih h1) ⟨by omega, by omega⟩ h
set_option maxHeartbeats 4000000 in
set_option maxRecDepth 100000 in
theorem zt_X7_reckonSide {l : Launch} {V : zm_V} {N : Nat} {S : zm_S} {out : (Unit × zm_S)} {d : Nat} {a0 : Nat} {i1 : Int32} (hd : 40 ≤ d) (h : zf_X7_reckonSide N a0 i1 S = some out) : zm_Met l zk_E V yX7_reckonSide (.code yX7_reckonSide cX7_reckonSide 9 none) d [.ref a0, .int i1] S 0 0 (zo_v out) zo_x := zu_X7_reckonSide 12 (by omega) h
set_option maxHeartbeats 4000000 in
set_option maxRecDepth 100000 in
theorem zt_X7_compareWith {l : Launch} {V : zm_V} {N : Nat} {S : zm_S} {out : (Int32 × zm_S)} {d : Nat} {a0 : Nat} {i1 : Int32} {j2 : Int64} {j4 : Int64} (hd : 2 ≤ d) (h : zf_X7_compareWith N a0 i1 j2 j4 S = some out) : zm_Met l zk_E V yX7_compareWith (.code yX7_compareWith cX7_compareWith 10 (some .boolean)) d [.ref a0, .int i1, .long j2, .long j4] S 0 0 (zo_i out) zo_x := by
  refine zm_of (by decide +kernel) (Nat.le_of_ble_eq_true rfl) ?_
  intro p e R s m args below meth c hRR hX hr hxt
  have hR : R.frames = d ∧ R.locals = 64 * d := by rw [hRR]; exact ⟨rfl, rfl⟩
  have hX : zm_X p R s m args meth c RX7 "compareWith" cX7_compareWith 10 zk_E V 0 0 := hX
  unfold zf_X7_compareWith at h
  refine zw_sub (lv' := [(0, .ref a0), (1, .int i1), (2, .long j2), (4, .long j4)]) (List.forall_mem_cons.mpr ⟨rfl, (List.forall_mem_cons.mpr ⟨rfl, (List.forall_mem_cons.mpr ⟨rfl, (List.forall_mem_cons.mpr ⟨rfl, zs_nil⟩)⟩)⟩)⟩) ?_
  refine zw_aload_n hX dX7_compareWith_0 rfl ?_
  refine zw_lload_n hX dX7_compareWith_1 rfl ?_
  refine zw_aload_n hX dX7_compareWith_2 rfl ?_
  obtain ⟨w1, g, h⟩ := zb_some h
  refine zw_getl hX zl_X7_114 dX7_compareWith_3 g ?_
  obtain ⟨_, gi, h⟩ := zb_some h
  obtain ⟨r3, g, h⟩ := zb_some h
  refine zc_Vl (as := [.long j2, .long w1]) hX gi (zt_X7_multiply (d := d - 1) (by omega) g) zl_X7_121 rfl dX7_compareWith_6 ⟨rfl, rfl, Nat.le_of_ble_eq_true rfl⟩ ⟨by omega, by omega⟩ ?_
  refine zw_lstore hX dX7_compareWith_9 (by decide) ?_
  refine zw_aload_n hX dX7_compareWith_11 rfl ?_
  refine zw_aload_n hX dX7_compareWith_12 rfl ?_
  obtain ⟨w4, g, h⟩ := zb_some h
  refine zw_getl hX zl_X7_111 dX7_compareWith_13 g ?_
  refine zw_lload hX dX7_compareWith_16 rfl ?_
  obtain ⟨_, gi, h⟩ := zb_some h
  obtain ⟨r6, g, h⟩ := zb_some h
  refine zc_Vl (as := [.long w4, .long j4]) hX gi (zt_X7_multiply (d := d - 1) (by omega) g) zl_X7_121 rfl dX7_compareWith_18 ⟨rfl, rfl, Nat.le_of_ble_eq_true rfl⟩ ⟨by omega, by omega⟩ ?_
  refine zw_lstore hX dX7_compareWith_21 (by decide) ?_
  refine zw_aload_n hX dX7_compareWith_23 rfl ?_
  obtain ⟨v7, g, h⟩ := zb_some h
  refine zw_geti hX zl_X7_89 dX7_compareWith_24 g ?_
  refine zw_if_eq (tgt := 32) hX dX7_compareWith_27 (by decide) (fun c27 => ?_) (fun c27 => ?_)
  · rw [if_pos c27] at h
    refine zw_iload_n hX dX7_compareWith_32 rfl ?_
    by_cases c33_0 : (i1).toInt = 60
    · rw [if_pos c33_0] at h
      refine zw_lookup (off := 43) (tgt := 76) hX dX7_compareWith_33 (by decide) (by rw [c33_0]; decide) (by decide) ?_
      refine zw_lload hX dX7_compareWith_76 rfl ?_
      refine zw_lload hX dX7_compareWith_78 rfl ?_
      refine zw_lcmp hX dX7_compareWith_80 ?_
      refine zw_if_ge (tgt := 88) hX dX7_compareWith_81 (by decide) (fun c81 => ?_) (fun c81 => ?_)
      · rw [if_pos c81] at h
        refine zw_iconst (v := (0 : Int32)) hX dX7_compareWith_88 (by decide) ?_
        obtain rfl := Option.some.inj h
        exact zw_iret hX hr dX7_compareWith_89 rfl ⟨rfl, rfl⟩
      · rw [if_neg c81] at h
        refine zw_iconst (v := (1 : Int32)) hX dX7_compareWith_84 (by decide) ?_
        refine zw_goto (tgt := 89) hX dX7_compareWith_85 (by decide) ?_
        obtain rfl := Option.some.inj h
        exact zw_iret hX hr dX7_compareWith_89 rfl ⟨rfl, rfl⟩
    rw [if_neg c33_0] at h
    by_cases c33_1 : (i1).toInt = 61
    · rw [if_pos c33_1] at h
      refine zw_lookup (off := 71) (tgt := 104) hX dX7_compareWith_33 (by decide) (by rw [c33_1]; decide) (by decide) ?_
      refine zw_lload hX dX7_compareWith_104 rfl ?_
      refine zw_lload hX dX7_compareWith_106 rfl ?_
      refine zw_lcmp hX dX7_compareWith_108 ?_
      refine zw_if_ne (tgt := 116) hX dX7_compareWith_109 (by decide) (fun c109 => ?_) (fun c109 => ?_)
      · rw [if_neg c109] at h
        refine zw_iconst (v := (0 : Int32)) hX dX7_compareWith_116 (by decide) ?_
        obtain rfl := Option.some.inj h
        exact zw_iret hX hr dX7_compareWith_117 rfl ⟨rfl, rfl⟩
      · rw [if_pos c109] at h
        refine zw_iconst (v := (1 : Int32)) hX dX7_compareWith_112 (by decide) ?_
        refine zw_goto (tgt := 117) hX dX7_compareWith_113 (by decide) ?_
        obtain rfl := Option.some.inj h
        exact zw_iret hX hr dX7_compareWith_117 rfl ⟨rfl, rfl⟩
    rw [if_neg c33_1] at h
    by_cases c33_2 : (i1).toInt = 103
    · rw [if_pos c33_2] at h
      refine zw_lookup (off := 85) (tgt := 118) hX dX7_compareWith_33 (by decide) (by rw [c33_2]; decide) (by decide) ?_
      refine zw_lload hX dX7_compareWith_118 rfl ?_
      refine zw_lload hX dX7_compareWith_120 rfl ?_
      refine zw_lcmp hX dX7_compareWith_122 ?_
      refine zw_if_lt (tgt := 130) hX dX7_compareWith_123 (by decide) (fun c123 => ?_) (fun c123 => ?_)
      · rw [if_pos c123] at h
        refine zw_iconst (v := (0 : Int32)) hX dX7_compareWith_130 (by decide) ?_
        obtain rfl := Option.some.inj h
        exact zw_iret hX hr dX7_compareWith_131 rfl ⟨rfl, rfl⟩
      · rw [if_neg c123] at h
        refine zw_iconst (v := (1 : Int32)) hX dX7_compareWith_126 (by decide) ?_
        refine zw_goto (tgt := 131) hX dX7_compareWith_127 (by decide) ?_
        obtain rfl := Option.some.inj h
        exact zw_iret hX hr dX7_compareWith_131 rfl ⟨rfl, rfl⟩
    rw [if_neg c33_2] at h
    by_cases c33_3 : (i1).toInt = 108
    · rw [if_pos c33_3] at h
      refine zw_lookup (off := 57) (tgt := 90) hX dX7_compareWith_33 (by decide) (by rw [c33_3]; decide) (by decide) ?_
      refine zw_lload hX dX7_compareWith_90 rfl ?_
      refine zw_lload hX dX7_compareWith_92 rfl ?_
      refine zw_lcmp hX dX7_compareWith_94 ?_
      refine zw_if_gt (tgt := 102) hX dX7_compareWith_95 (by decide) (fun c95 => ?_) (fun c95 => ?_)
      · rw [if_pos c95] at h
        refine zw_iconst (v := (0 : Int32)) hX dX7_compareWith_102 (by decide) ?_
        obtain rfl := Option.some.inj h
        exact zw_iret hX hr dX7_compareWith_103 rfl ⟨rfl, rfl⟩
      · rw [if_neg c95] at h
        refine zw_iconst (v := (1 : Int32)) hX dX7_compareWith_98 (by decide) ?_
        refine zw_goto (tgt := 103) hX dX7_compareWith_99 (by decide) ?_
        obtain rfl := Option.some.inj h
        exact zw_iret hX hr dX7_compareWith_103 rfl ⟨rfl, rfl⟩
    rw [if_neg c33_3] at h
    refine zw_lookup (off := 99) (tgt := 132) hX dX7_compareWith_33 (by decide) (by simp [Op.lookupswitch.offset, c33_0, (show ¬ ((60 : Int) = (i1).toInt) from fun q => c33_0 q.symm), c33_1, (show ¬ ((61 : Int) = (i1).toInt) from fun q => c33_1 q.symm), c33_2, (show ¬ ((103 : Int) = (i1).toInt) from fun q => c33_2 q.symm), c33_3, (show ¬ ((108 : Int) = (i1).toInt) from fun q => c33_3 q.symm)]) (by decide) ?_
    refine zw_lload hX dX7_compareWith_132 rfl ?_
    refine zw_lload hX dX7_compareWith_134 rfl ?_
    refine zw_lcmp hX dX7_compareWith_136 ?_
    refine zw_if_le (tgt := 144) hX dX7_compareWith_137 (by decide) (fun c137 => ?_) (fun c137 => ?_)
    · rw [if_pos c137] at h
      refine zw_iconst (v := (0 : Int32)) hX dX7_compareWith_144 (by decide) ?_
      obtain rfl := Option.some.inj h
      exact zw_iret hX hr dX7_compareWith_145 rfl ⟨rfl, rfl⟩
    · rw [if_neg c137] at h
      refine zw_iconst (v := (1 : Int32)) hX dX7_compareWith_140 (by decide) ?_
      refine zw_goto (tgt := 145) hX dX7_compareWith_141 (by decide) ?_
      obtain rfl := Option.some.inj h
      exact zw_iret hX hr dX7_compareWith_145 rfl ⟨rfl, rfl⟩
  · rw [if_neg c27] at h
    refine zw_iconst (v := (0 : Int32)) hX dX7_compareWith_30 (by decide) ?_
    obtain rfl := Option.some.inj h
    exact zw_iret hX hr dX7_compareWith_31 rfl ⟨rfl, rfl⟩
set_option maxHeartbeats 4000000 in
set_option maxRecDepth 100000 in
theorem zt_X7_reckonClause {l : Launch} {V : zm_V} {N : Nat} {S : zm_S} {out : (Int32 × zm_S)} {d : Nat} {a0 : Nat} {a1 : Nat} (hd : 41 ≤ d) (h : zf_X7_reckonClause N a0 a1 S = some out) : zm_Met l zk_E V yX7_reckonClause (.code yX7_reckonClause cX7_reckonClause 3 (some .boolean)) d [.ref a0, .ref a1] S 0 0 (zo_i out) zo_x := by
  refine zm_of (by decide +kernel) (Nat.le_of_ble_eq_true rfl) ?_
  intro p e R s m args below meth c hRR hX hr hxt
  have hR : R.frames = d ∧ R.locals = 64 * d := by rw [hRR]; exact ⟨rfl, rfl⟩
  have hX : zm_X p R s m args meth c RX7 "reckonClause" cX7_reckonClause 3 zk_E V 0 0 := hX
  unfold zf_X7_reckonClause at h
  refine zw_sub (lv' := [(0, .ref a0), (1, .ref a1)]) (List.forall_mem_cons.mpr ⟨rfl, (List.forall_mem_cons.mpr ⟨rfl, zs_nil⟩)⟩) ?_
  refine zw_aload_n hX dX7_reckonClause_0 rfl ?_
  refine zw_iconst (v := (0 : Int32)) hX dX7_reckonClause_1 (by decide) ?_
  obtain ⟨_, gi, h⟩ := zb_some h
  obtain ⟨r2, g, h⟩ := zb_some h
  refine zc_Vv (as := [.int (0 : Int32)]) hX gi (zt_X7_reckonSide (d := d - 1) (by omega) g) zl_X7_107 rfl dX7_reckonClause_2 ⟨rfl, rfl, Nat.le_of_ble_eq_true rfl⟩ ⟨by omega, by omega⟩ ?_
  refine zw_aload_n hX dX7_reckonClause_5 rfl ?_
  obtain ⟨v3, g, h⟩ := zb_some h
  refine zw_geti hX zl_X7_89 dX7_reckonClause_6 g ?_
  refine zw_if_eq (tgt := 14) hX dX7_reckonClause_9 (by decide) (fun c9 => ?_) (fun c9 => ?_)
  · rw [if_pos c9] at h
    refine zw_aload_n hX dX7_reckonClause_14 rfl ?_
    refine zw_iconst (v := (1 : Int32)) hX dX7_reckonClause_15 (by decide) ?_
    refine zw_aload_n hX dX7_reckonClause_16 rfl ?_
    obtain ⟨w4, g, h⟩ := zb_some h
    refine zw_getl hX zl_X7_111 dX7_reckonClause_17 g ?_
    obtain ⟨S5, g, h⟩ := zb_some h
    refine zw_sl hX dX7_reckonClause_20 g ?_
    refine zw_aload_n hX dX7_reckonClause_21 rfl ?_
    refine zw_iconst (v := (2 : Int32)) hX dX7_reckonClause_22 (by decide) ?_
    refine zw_aload_n hX dX7_reckonClause_23 rfl ?_
    obtain ⟨w6, g, h⟩ := zb_some h
    refine zw_getl hX zl_X7_114 dX7_reckonClause_24 g ?_
    obtain ⟨S7, g, h⟩ := zb_some h
    refine zw_sl hX dX7_reckonClause_27 g ?_
    refine zw_aload_n hX dX7_reckonClause_28 rfl ?_
    obtain ⟨_, gi, h⟩ := zb_some h
    obtain ⟨r9, g, h⟩ := zb_some h
    refine zc_Vi (as := []) hX gi (zt_X7_takeWord (d := d - 1) (by omega) g) zl_X7_103 rfl dX7_reckonClause_29 ⟨rfl, rfl, Nat.le_of_ble_eq_true rfl⟩ ⟨by omega, by omega⟩ ?_
    refine zw_istore_n hX dX7_reckonClause_32 (by decide) ?_
    refine zw_aload_n hX dX7_reckonClause_33 rfl ?_
    refine zw_iconst (v := (0 : Int32)) hX dX7_reckonClause_34 (by decide) ?_
    obtain ⟨_, gi, h⟩ := zb_some h
    obtain ⟨r11, g, h⟩ := zb_some h
    refine zc_Vv (as := [.int (0 : Int32)]) hX gi (zt_X7_reckonSide (d := d - 1) (by omega) g) zl_X7_107 rfl dX7_reckonClause_35 ⟨rfl, rfl, Nat.le_of_ble_eq_true rfl⟩ ⟨by omega, by omega⟩ ?_
    refine zw_aload_n hX dX7_reckonClause_38 rfl ?_
    obtain ⟨v12, g, h⟩ := zb_some h
    refine zw_geti hX zl_X7_89 dX7_reckonClause_39 g ?_
    refine zw_if_eq (tgt := 47) hX dX7_reckonClause_42 (by decide) (fun c42 => ?_) (fun c42 => ?_)
    · rw [if_pos c42] at h
      refine zw_aload_n hX dX7_reckonClause_47 rfl ?_
      refine zw_iconst (v := (3 : Int32)) hX dX7_reckonClause_48 (by decide) ?_
      refine zw_aload_n hX dX7_reckonClause_49 rfl ?_
      obtain ⟨w13, g, h⟩ := zb_some h
      refine zw_getl hX zl_X7_111 dX7_reckonClause_50 g ?_
      obtain ⟨S14, g, h⟩ := zb_some h
      refine zw_sl hX dX7_reckonClause_53 g ?_
      refine zw_aload_n hX dX7_reckonClause_54 rfl ?_
      refine zw_iconst (v := (4 : Int32)) hX dX7_reckonClause_55 (by decide) ?_
      refine zw_aload_n hX dX7_reckonClause_56 rfl ?_
      obtain ⟨w15, g, h⟩ := zb_some h
      refine zw_getl hX zl_X7_114 dX7_reckonClause_57 g ?_
      obtain ⟨S16, g, h⟩ := zb_some h
      refine zw_sl hX dX7_reckonClause_60 g ?_
      refine zw_aload_n hX dX7_reckonClause_61 rfl ?_
      refine zw_iload_n hX dX7_reckonClause_62 rfl ?_
      refine zw_aload_n hX dX7_reckonClause_63 rfl ?_
      refine zw_iconst (v := (1 : Int32)) hX dX7_reckonClause_64 (by decide) ?_
      obtain ⟨w17, g, h⟩ := zb_some h
      refine zw_xl hX dX7_reckonClause_65 g ?_
      refine zw_aload_n hX dX7_reckonClause_66 rfl ?_
      refine zw_iconst (v := (2 : Int32)) hX dX7_reckonClause_67 (by decide) ?_
      obtain ⟨w18, g, h⟩ := zb_some h
      refine zw_xl hX dX7_reckonClause_68 g ?_
      obtain ⟨_, gi, h⟩ := zb_some h
      obtain ⟨r20, g, h⟩ := zb_some h
      refine zc_Vi (as := [.int r9.1, .long w17, .long w18]) hX gi (zt_X7_compareWith (d := d - 1) (by omega) g) zl_X7_117 rfl dX7_reckonClause_69 ⟨rfl, rfl, Nat.le_of_ble_eq_true rfl⟩ ⟨by omega, by omega⟩ ?_
      by_cases cz : r20.1 = 0 ∨ r20.1 = 1
      · rw [if_pos cz] at h
        obtain rfl := Option.some.inj h
        exact zw_iret hX hr dX7_reckonClause_72 (zn_z cz) ⟨rfl, rfl⟩
      · rw [if_neg cz] at h
        cases h
    · rw [if_neg c42] at h
      refine zw_iconst (v := (0 : Int32)) hX dX7_reckonClause_45 (by decide) ?_
      obtain rfl := Option.some.inj h
      exact zw_iret hX hr dX7_reckonClause_46 rfl ⟨rfl, rfl⟩
  · rw [if_neg c9] at h
    refine zw_iconst (v := (0 : Int32)) hX dX7_reckonClause_12 (by decide) ?_
    obtain rfl := Option.some.inj h
    exact zw_iret hX hr dX7_reckonClause_13 rfl ⟨rfl, rfl⟩
set_option maxHeartbeats 4000000 in
set_option maxRecDepth 100000 in
theorem zt_X7_askRule_J163 {p : Program} {l : Launch} {e : Env} {R : Room} {s : State} {m : MethodId} {args : Array Value} {below : List Frame} {meth : Method} {c : Code} {V : zm_V} {mc ms d rc rs : Nat} (hX : zm_X p R s m args meth c RX7 "askRule" cX7_askRule 7 zk_E V mc ms) (hr : meth.sig.returnType = none) (hR : R.frames = d ∧ R.locals = 64 * d) (hd : 42 ≤ d) {N : Nat} {a0 : Nat} {a3 : Nat} {t0 : Nat} {t1 : Int32} {t2 : Int64} {out : (Unit × zm_S)} {S : zm_S} (h : zf_X7_askRule_J163 N a0 a3 t0 t1 t2 S = some out) : zw p l e R s m args below meth c (vx_MQ below (zm_Qc zk_E V (zo_v out)) (zm_XC zk_E V zo_x) args s mc ms (fun q => V.2.2.2.1 ≤ q)) 7 zk_E V mc ms 163 [(0, .ref a0), (3, .ref a3)] [.long t2, .int t1, .ref t0] S rc rs := by
  unfold zf_X7_askRule_J163 at h
  obtain ⟨S15, g, h⟩ := zb_some h
  refine zw_sl hX dX7_askRule_163 g ?_
  refine zw_aload_n hX dX7_askRule_164 rfl ?_
  refine zw_iconst (v := (5 : Int32)) hX dX7_askRule_165 (by decide) ?_
  refine zw_aload_n hX dX7_askRule_166 rfl ?_
  obtain ⟨v16, g, h⟩ := zb_some h
  refine zw_geti hX zl_X7_89 dX7_askRule_167 g ?_
  refine zw_i2l hX dX7_askRule_170 ?_
  obtain ⟨S17, g, h⟩ := zb_some h
  refine zw_sl hX dX7_askRule_171 g ?_
  refine zw_aload_n hX dX7_askRule_172 rfl ?_
  refine zw_bipush (v := (6 : Int32)) hX dX7_askRule_173 (by decide) ?_
  refine zw_aload_n hX dX7_askRule_175 rfl ?_
  obtain ⟨w18, g, h⟩ := zb_some h
  refine zw_getl hX zl_X7_92 dX7_askRule_176 g ?_
  obtain ⟨S19, g, h⟩ := zb_some h
  refine zw_sl hX dX7_askRule_179 g ?_
  obtain rfl := Option.some.inj h
  exact zw_vret hX hr dX7_askRule_180 ⟨rfl, rfl⟩
set_option maxHeartbeats 4000000 in
set_option maxRecDepth 100000 in
theorem zt_X7_askRule_J145 {p : Program} {l : Launch} {e : Env} {R : Room} {s : State} {m : MethodId} {args : Array Value} {below : List Frame} {meth : Method} {c : Code} {V : zm_V} {mc ms d rc rs : Nat} (hX : zm_X p R s m args meth c RX7 "askRule" cX7_askRule 7 zk_E V mc ms) (hr : meth.sig.returnType = none) (hR : R.frames = d ∧ R.locals = 64 * d) (hd : 42 ≤ d) {N : Nat} {a0 : Nat} {a3 : Nat} {i5 : Int32} {out : (Unit × zm_S)} {S : zm_S} (h : zf_X7_askRule_J145 N a0 a3 i5 S = some out) : zw p l e R s m args below meth c (vx_MQ below (zm_Qc zk_E V (zo_v out)) (zm_XC zk_E V zo_x) args s mc ms (fun q => V.2.2.2.1 ≤ q)) 7 zk_E V mc ms 145 [(0, .ref a0), (3, .ref a3), (5, .int i5)] [] S rc rs := by
  unfold zf_X7_askRule_J145 at h
  refine zw_aload_n hX dX7_askRule_145 rfl ?_
  refine zw_iconst (v := (0 : Int32)) hX dX7_askRule_146 (by decide) ?_
  refine zw_aload_n hX dX7_askRule_147 rfl ?_
  obtain ⟨v14, g, h⟩ := zb_some h
  refine zw_geti hX zl_X7_89 dX7_askRule_148 g ?_
  refine zw_if_eq (tgt := 160) hX dX7_askRule_151 (by decide) (fun c151 => ?_) (fun c151 => ?_)
  · rw [if_pos c151] at h
    refine zw_iload hX dX7_askRule_160 rfl ?_
    refine zw_i2l hX dX7_askRule_162 ?_
    refine zw_sub (lv' := [(0, .ref a0), (3, .ref a3)]) (List.forall_mem_cons.mpr ⟨rfl, (List.forall_mem_cons.mpr ⟨rfl, zs_nil⟩)⟩) ?_
    exact zt_X7_askRule_J163 hX hr hR hd h
  · rw [if_neg c151] at h
    refine zw_ldc2 (v := (3 : Int64)) hX dX7_askRule_154 zl_X7_79 ?_
    refine zw_goto (tgt := 163) hX dX7_askRule_157 (by decide) ?_
    refine zw_sub (lv' := [(0, .ref a0), (3, .ref a3)]) (List.forall_mem_cons.mpr ⟨rfl, (List.forall_mem_cons.mpr ⟨rfl, zs_nil⟩)⟩) ?_
    exact zt_X7_askRule_J163 hX hr hR hd h
set_option maxHeartbeats 4000000 in
set_option maxRecDepth 100000 in
theorem zt_X7_askRule_L79 {p : Program} {l : Launch} {e : Env} {R : Room} {s : State} {m : MethodId} {args : Array Value} {below : List Frame} {meth : Method} {c : Code} {V : zm_V} {mc ms d rc rs : Nat} (hX : zm_X p R s m args meth c RX7 "askRule" cX7_askRule 7 zk_E V mc ms) (hr : meth.sig.returnType = none) (hR : R.frames = d ∧ R.locals = 64 * d) (hd : 42 ≤ d) {N : Nat} {res : (Unit × zm_S) ⊕ ((Int32) × zm_S)} {out : (Unit × zm_S)} (a0 : Nat) (a3 : Nat) (hf : ∀ o, res = .inl o → o = out) (hk : ∀ (x5 : Int32) (S' : zm_S), res = .inr (x5, S') → zw p l e R s m args below meth c (vx_MQ below (zm_Qc zk_E V (zo_v out)) (zm_XC zk_E V zo_x) args s mc ms (fun q => V.2.2.2.1 ≤ q)) 7 zk_E V mc ms 145 [(0, .ref a0), (3, .ref a3), (5, .int x5)] [] S' rc rs) : ∀ (n : Nat) (i4 : Int32) (i5 : Int32) (i6 : Int32) (S : zm_S), zf_X7_askRule_L79 N n a0 a3 i4 i5 i6 S = some res → zw p l e R s m args below meth c (vx_MQ below (zm_Qc zk_E V (zo_v out)) (zm_XC zk_E V zo_x) args s mc ms (fun q => V.2.2.2.1 ≤ q)) 7 zk_E V mc ms 79 [(0, .ref a0), (3, .ref a3), (4, .int i4), (5, .int i5), (6, .int i6)] [] S rc rs := by
  intro n
  induction n with
  | zero => intro i4 i5 i6 S h; cases h
  | succ n ih =>
    intro i4 i5 i6 S h
    rw [zf_X7_askRule_L79] at h
    refine zw_iload hX dX7_askRule_79 rfl ?_
    refine zw_bipush (v := (120 : Int32)) hX dX7_askRule_81 (by decide) ?_
    refine zw_icmp_ge (tgt := 145) hX dX7_askRule_83 (by decide) (fun c83 => ?_) (fun c83 => ?_)
    · rw [if_pos c83] at h
      refine zw_sub (lv' := [(0, .ref a0), (3, .ref a3), (5, .int i5)]) (List.forall_mem_cons.mpr ⟨rfl, (List.forall_mem_cons.mpr ⟨rfl, (List.forall_mem_cons.mpr ⟨rfl, zs_nil⟩)⟩)⟩) ?_
      exact hk _ _ (Option.some.inj h).symm
    · rw [if_neg c83] at h
      refine zw_aload_n hX dX7_askRule_86 rfl ?_
      obtain ⟨v20, g, h⟩ := zb_some h
      refine zw_geti hX zl_X7_89 dX7_askRule_87 g ?_
      refine zw_if_ne (tgt := 145) hX dX7_askRule_90 (by decide) (fun c90 => ?_) (fun c90 => ?_)
      · rw [if_neg c90] at h
        refine zw_sub (lv' := [(0, .ref a0), (3, .ref a3), (5, .int i5)]) (List.forall_mem_cons.mpr ⟨rfl, (List.forall_mem_cons.mpr ⟨rfl, (List.forall_mem_cons.mpr ⟨rfl, zs_nil⟩)⟩)⟩) ?_
        exact hk _ _ (Option.some.inj h).symm
      · rw [if_pos c90] at h
        refine zw_iload hX dX7_askRule_93 rfl ?_
        refine zw_if_eq (tgt := 145) hX dX7_askRule_95 (by decide) (fun c95 => ?_) (fun c95 => ?_)
        · rw [if_pos c95] at h
          refine zw_sub (lv' := [(0, .ref a0), (3, .ref a3), (5, .int i5)]) (List.forall_mem_cons.mpr ⟨rfl, (List.forall_mem_cons.mpr ⟨rfl, (List.forall_mem_cons.mpr ⟨rfl, zs_nil⟩)⟩)⟩) ?_
          exact hk _ _ (Option.some.inj h).symm
        · rw [if_neg c95] at h
          refine zw_aload_n hX dX7_askRule_98 rfl ?_
          obtain ⟨b21, g, h⟩ := zb_some h
          refine zw_getr hX zl_X7_11 dX7_askRule_99 g ?_
          refine zw_aload_n hX dX7_askRule_102 rfl ?_
          obtain ⟨v22, g, h⟩ := zb_some h
          refine zw_geti hX zl_X7_96 dX7_askRule_103 g ?_
          obtain ⟨v23, g, h⟩ := zb_some h
          refine zw_xi hX dX7_askRule_106 g ?_
          refine zw_bipush (v := (33 : Int32)) hX dX7_askRule_107 (by decide) ?_
          refine zw_icmp_ne (tgt := 145) hX dX7_askRule_109 (by decide) (fun c109 => ?_) (fun c109 => ?_)
          · rw [if_neg c109] at h
            refine zw_sub (lv' := [(0, .ref a0), (3, .ref a3), (5, .int i5)]) (List.forall_mem_cons.mpr ⟨rfl, (List.forall_mem_cons.mpr ⟨rfl, (List.forall_mem_cons.mpr ⟨rfl, zs_nil⟩)⟩)⟩) ?_
            exact hk _ _ (Option.some.inj h).symm
          · rw [if_pos c109] at h
            refine zw_aload_n hX dX7_askRule_112 rfl ?_
            obtain ⟨_, gi, h⟩ := zb_some h
            obtain ⟨r25, g, h⟩ := zb_some h
            refine zc_Vi (as := []) hX gi (zt_X7_takeWord (d := d - 1) (by omega) g) zl_X7_103 rfl dX7_askRule_113 ⟨rfl, rfl, Nat.le_of_ble_eq_true rfl⟩ ⟨by omega, by omega⟩ ?_
            refine zw_pop hX dX7_askRule_116 rfl ?_
            refine zw_aload_n hX dX7_askRule_117 rfl ?_
            refine zw_aload_n hX dX7_askRule_118 rfl ?_
            obtain ⟨b26, g, h⟩ := zb_some h
            refine zw_getr hX zl_X7_32 dX7_askRule_119 g ?_
            obtain ⟨_, gi, h⟩ := zb_some h
            obtain ⟨r28, g, h⟩ := zb_some h
            refine zc_Vi (as := [.ref b26]) hX gi (zt_X7_reckonClause (d := d - 1) (by omega) g) zl_X7_99 rfl dX7_askRule_122 ⟨rfl, rfl, Nat.le_of_ble_eq_true rfl⟩ ⟨by omega, by omega⟩ ?_
            refine zw_istore hX dX7_askRule_125 (by decide) ?_
            refine zw_iload hX dX7_askRule_127 rfl ?_
            refine zw_if_eq (tgt := 136) hX dX7_askRule_129 (by decide) (fun c129 => ?_) (fun c129 => ?_)
            · rw [if_pos c129] at h
              refine zw_iconst (v := (1 : Int32)) hX dX7_askRule_136 (by decide) ?_
              refine zw_istore hX dX7_askRule_137 (by decide) ?_
              refine zw_iinc (v := (i6 + (1 : Int32))) hX dX7_askRule_139 rfl rfl (by decide) ?_
              refine zw_goto (tgt := 79) hX dX7_askRule_142 (by decide) ?_
              refine zw_sub (lv' := [(0, .ref a0), (3, .ref a3), (4, .int r28.1), (5, .int (1 : Int32)), (6, .int (i6 + (1 : Int32)))]) (List.forall_mem_cons.mpr ⟨rfl, (List.forall_mem_cons.mpr ⟨rfl, (List.forall_mem_cons.mpr ⟨rfl, (List.forall_mem_cons.mpr ⟨rfl, (List.forall_mem_cons.mpr ⟨rfl, zs_nil⟩)⟩)⟩)⟩)⟩) ?_
              exact ih _ _ _ _ h
            · rw [if_neg c129] at h
              refine zw_iconst (v := (2 : Int32)) hX dX7_askRule_132 (by decide) ?_
              refine zw_goto (tgt := 137) hX dX7_askRule_133 (by decide) ?_
              refine zw_istore hX dX7_askRule_137 (by decide) ?_
              refine zw_iinc (v := (i6 + (1 : Int32))) hX dX7_askRule_139 rfl rfl (by decide) ?_
              refine zw_goto (tgt := 79) hX dX7_askRule_142 (by decide) ?_
              refine zw_sub (lv' := [(0, .ref a0), (3, .ref a3), (4, .int r28.1), (5, .int (2 : Int32)), (6, .int (i6 + (1 : Int32)))]) (List.forall_mem_cons.mpr ⟨rfl, (List.forall_mem_cons.mpr ⟨rfl, (List.forall_mem_cons.mpr ⟨rfl, (List.forall_mem_cons.mpr ⟨rfl, (List.forall_mem_cons.mpr ⟨rfl, zs_nil⟩)⟩)⟩)⟩)⟩) ?_
              exact ih _ _ _ _ h
set_option maxHeartbeats 4000000 in
set_option maxRecDepth 100000 in
theorem zt_X7_askRule_J66 {p : Program} {l : Launch} {e : Env} {R : Room} {s : State} {m : MethodId} {args : Array Value} {below : List Frame} {meth : Method} {c : Code} {V : zm_V} {mc ms d rc rs : Nat} (hX : zm_X p R s m args meth c RX7 "askRule" cX7_askRule 7 zk_E V mc ms) (hr : meth.sig.returnType = none) (hR : R.frames = d ∧ R.locals = 64 * d) (hd : 42 ≤ d) {N : Nat} {a0 : Nat} {a3 : Nat} {i4 : Int32} {t0 : Int32} {out : (Unit × zm_S)} {S : zm_S} (h : zf_X7_askRule_J66 N a0 a3 i4 t0 S = some out) : zw p l e R s m args below meth c (vx_MQ below (zm_Qc zk_E V (zo_v out)) (zm_XC zk_E V zo_x) args s mc ms (fun q => V.2.2.2.1 ≤ q)) 7 zk_E V mc ms 66 [(0, .ref a0), (3, .ref a3), (4, .int i4)] [.int t0] S rc rs := by
  unfold zf_X7_askRule_J66 at h
  refine zw_istore hX dX7_askRule_66 (by decide) ?_
  refine zw_iload hX dX7_askRule_68 rfl ?_
  refine zw_if_ne (tgt := 145) hX dX7_askRule_70 (by decide) (fun c70 => ?_) (fun c70 => ?_)
  · rw [if_neg c70] at h
    refine zw_sub (lv' := [(0, .ref a0), (3, .ref a3), (5, .int t0)]) (List.forall_mem_cons.mpr ⟨rfl, (List.forall_mem_cons.mpr ⟨rfl, (List.forall_mem_cons.mpr ⟨rfl, zs_nil⟩)⟩)⟩) ?_
    exact zt_X7_askRule_J145 hX hr hR hd h
  · rw [if_pos c70] at h
    refine zw_iconst (v := (1 : Int32)) hX dX7_askRule_73 (by decide) ?_
    refine zw_istore hX dX7_askRule_74 (by decide) ?_
    refine zw_iconst (v := (0 : Int32)) hX dX7_askRule_76 (by decide) ?_
    refine zw_istore hX dX7_askRule_77 (by decide) ?_
    obtain ⟨r, g, h⟩ := zb_some h
    refine zw_sub (lv' := [(0, .ref a0), (3, .ref a3), (4, .int (1 : Int32)), (5, .int t0), (6, .int (0 : Int32))]) (List.forall_mem_cons.mpr ⟨rfl, (List.forall_mem_cons.mpr ⟨rfl, (List.forall_mem_cons.mpr ⟨rfl, (List.forall_mem_cons.mpr ⟨rfl, (List.forall_mem_cons.mpr ⟨rfl, zs_nil⟩)⟩)⟩)⟩)⟩) ?_
    refine zt_X7_askRule_L79 hX hr hR hd (res := r) (out := out) a0 a3 ?_ ?_ N _ _ _ _ g
    · intro o ho
      subst ho
      exact Option.some.inj h
    · intro v30 S29 hx
      subst hx
      try dsimp only at h
      refine zw_sub (lv' := [(0, .ref a0), (3, .ref a3), (5, .int v30)]) (List.forall_mem_cons.mpr ⟨rfl, (List.forall_mem_cons.mpr ⟨rfl, (List.forall_mem_cons.mpr ⟨rfl, zs_nil⟩)⟩)⟩) ?_
      exact zt_X7_askRule_J145 hX hr hR hd h
set_option maxHeartbeats 4000000 in
set_option maxRecDepth 100000 in
theorem zt_X7_askRule {l : Launch} {V : zm_V} {N : Nat} {S : zm_S} {out : (Unit × zm_S)} {d : Nat} {a0 : Nat} {i1 : Int32} {i2 : Int32} (hd : 42 ≤ d) (h : zf_X7_askRule N a0 i1 i2 S = some out) : zm_Met l zk_E V yX7_askRule (.code yX7_askRule cX7_askRule 7 none) d [.ref a0, .int i1, .int i2] S 0 0 (zo_v out) zo_x := by
  refine zm_of (by decide +kernel) (Nat.le_of_ble_eq_true rfl) ?_
  intro p e R s m args below meth c hRR hX hr hxt
  have hR : R.frames = d ∧ R.locals = 64 * d := by rw [hRR]; exact ⟨rfl, rfl⟩
  have hX : zm_X p R s m args meth c RX7 "askRule" cX7_askRule 7 zk_E V 0 0 := hX
  unfold zf_X7_askRule at h
  refine zw_sub (lv' := [(0, .ref a0), (1, .int i1), (2, .int i2)]) (List.forall_mem_cons.mpr ⟨rfl, (List.forall_mem_cons.mpr ⟨rfl, (List.forall_mem_cons.mpr ⟨rfl, zs_nil⟩)⟩)⟩) ?_
  refine zw_aload_n hX dX7_askRule_0 rfl ?_
  obtain ⟨b1, g, h⟩ := zb_some h
  refine zw_getr hX zl_X7_29 dX7_askRule_1 g ?_
  refine zw_iload_n hX dX7_askRule_4 rfl ?_
  obtain ⟨b2, g, h⟩ := zb_some h
  refine zw_xr hX dX7_askRule_5 g ?_
  refine zw_astore_n hX dX7_askRule_6 (by decide) ?_
  refine zw_aload_n hX dX7_askRule_7 rfl ?_
  refine zw_lconst (v := (0 : Int64)) hX dX7_askRule_8 (by decide) ?_
  obtain ⟨r4, g, h⟩ := zb_some h
  refine zc_Sv (as := [.ref b2, .long (0 : Int64)]) hX (zt_J7_fill_d0a16 (d := d - 1) (by omega) g) zl_X7_81 dX7_askRule_9 ⟨rfl, rfl, Nat.le_of_ble_eq_true rfl⟩ ⟨by omega, by omega⟩ ?_
  refine zw_iload_n hX dX7_askRule_12 rfl ?_
  refine zw_aload_n hX dX7_askRule_13 rfl ?_
  obtain ⟨b5, g, h⟩ := zb_some h
  refine zw_getr hX zl_X7_24 dX7_askRule_14 g ?_
  refine zw_iload_n hX dX7_askRule_17 rfl ?_
  obtain ⟨v6, g, h⟩ := zb_some h
  refine zw_xi hX dX7_askRule_18 g ?_
  refine zw_icmp_ge (tgt := 29) hX dX7_askRule_19 (by decide) (fun c19 => ?_) (fun c19 => ?_)
  · rw [if_pos c19] at h
    refine zw_aload_n hX dX7_askRule_29 rfl ?_
    refine zw_iconst (v := (0 : Int32)) hX dX7_askRule_30 (by decide) ?_
    obtain ⟨S7, g, h⟩ := zb_some h
    refine zw_putv hX zl_X7_89 zt_7_12 dX7_askRule_31 rfl rfl g ?_
    refine zw_aload_n hX dX7_askRule_34 rfl ?_
    refine zw_lconst (v := (0 : Int64)) hX dX7_askRule_35 (by decide) ?_
    obtain ⟨S8, g, h⟩ := zb_some h
    refine zw_putv hX zl_X7_92 zt_7_13 dX7_askRule_36 rfl rfl g ?_
    refine zw_aload_n hX dX7_askRule_39 rfl ?_
    refine zw_aload_n hX dX7_askRule_40 rfl ?_
    obtain ⟨b9, g, h⟩ := zb_some h
    refine zw_getr hX zl_X7_21 dX7_askRule_41 g ?_
    refine zw_iload_n hX dX7_askRule_44 rfl ?_
    obtain ⟨v10, g, h⟩ := zb_some h
    refine zw_xi hX dX7_askRule_45 g ?_
    obtain ⟨S11, g, h⟩ := zb_some h
    refine zw_putv hX zl_X7_96 zt_7_11 dX7_askRule_46 rfl rfl g ?_
    refine zw_aload_n hX dX7_askRule_49 rfl ?_
    refine zw_aload_n hX dX7_askRule_50 rfl ?_
    obtain ⟨_, gi, h⟩ := zb_some h
    obtain ⟨r13, g, h⟩ := zb_some h
    refine zc_Vi (as := [.ref b2]) hX gi (zt_X7_reckonClause (d := d - 1) (by omega) g) zl_X7_99 rfl dX7_askRule_51 ⟨rfl, rfl, Nat.le_of_ble_eq_true rfl⟩ ⟨by omega, by omega⟩ ?_
    refine zw_istore hX dX7_askRule_54 (by decide) ?_
    refine zw_iload hX dX7_askRule_56 rfl ?_
    refine zw_if_eq (tgt := 65) hX dX7_askRule_58 (by decide) (fun c58 => ?_) (fun c58 => ?_)
    · rw [if_pos c58] at h
      refine zw_iconst (v := (1 : Int32)) hX dX7_askRule_65 (by decide) ?_
      refine zw_sub (lv' := [(0, .ref a0), (3, .ref b2), (4, .int r13.1)]) (List.forall_mem_cons.mpr ⟨rfl, (List.forall_mem_cons.mpr ⟨rfl, (List.forall_mem_cons.mpr ⟨rfl, zs_nil⟩)⟩)⟩) ?_
      exact zt_X7_askRule_J66 hX hr hR hd h
    · rw [if_neg c58] at h
      refine zw_iconst (v := (0 : Int32)) hX dX7_askRule_61 (by decide) ?_
      refine zw_goto (tgt := 66) hX dX7_askRule_62 (by decide) ?_
      refine zw_sub (lv' := [(0, .ref a0), (3, .ref b2), (4, .int r13.1)]) (List.forall_mem_cons.mpr ⟨rfl, (List.forall_mem_cons.mpr ⟨rfl, (List.forall_mem_cons.mpr ⟨rfl, zs_nil⟩)⟩)⟩) ?_
      exact zt_X7_askRule_J66 hX hr hR hd h
  · rw [if_neg c19] at h
    refine zw_aload_n hX dX7_askRule_22 rfl ?_
    refine zw_iconst (v := (0 : Int32)) hX dX7_askRule_23 (by decide) ?_
    refine zw_ldc2 (v := (4 : Int64)) hX dX7_askRule_24 zl_X7_87 ?_
    obtain ⟨S31, g, h⟩ := zb_some h
    refine zw_sl hX dX7_askRule_27 g ?_
    obtain rfl := Option.some.inj h
    exact zw_vret hX hr dX7_askRule_28 ⟨rfl, rfl⟩
set_option maxHeartbeats 4000000 in
set_option maxRecDepth 100000 in
theorem zt_X7_askAll_L2 {p : Program} {l : Launch} {e : Env} {R : Room} {s : State} {m : MethodId} {args : Array Value} {below : List Frame} {meth : Method} {c : Code} {V : zm_V} {mc ms d rc rs : Nat} (hX : zm_X p R s m args meth c RX7 "askAll" cX7_askAll 3 zk_E V mc ms) (hr : meth.sig.returnType = none) (hR : R.frames = d ∧ R.locals = 64 * d) (hd : 43 ≤ d) {N : Nat} {res : (Unit × zm_S) ⊕ ((Unit) × zm_S)} {out : (Unit × zm_S)} (a0 : Nat) (i1 : Int32) (hf : ∀ o, res = .inl o → o = out) (hk : ∀ (S' : zm_S), res = .inr ((), S') → zw p l e R s m args below meth c (vx_MQ below (zm_Qc zk_E V (zo_v out)) (zm_XC zk_E V zo_x) args s mc ms (fun q => V.2.2.2.1 ≤ q)) 3 zk_E V mc ms 22 [(0, .ref a0)] [] S' rc rs) : ∀ (n : Nat) (i2 : Int32) (S : zm_S), zf_X7_askAll_L2 N n a0 i1 i2 S = some res → zw p l e R s m args below meth c (vx_MQ below (zm_Qc zk_E V (zo_v out)) (zm_XC zk_E V zo_x) args s mc ms (fun q => V.2.2.2.1 ≤ q)) 3 zk_E V mc ms 2 [(0, .ref a0), (1, .int i1), (2, .int i2)] [] S rc rs := by
  intro n
  induction n with
  | zero => intro i2 S h; cases h
  | succ n ih =>
    intro i2 S h
    rw [zf_X7_askAll_L2] at h
    refine zw_iload_n hX dX7_askAll_2 rfl ?_
    refine zw_aload_n hX dX7_askAll_3 rfl ?_
    obtain ⟨v1, g, h⟩ := zb_some h
    refine zw_geti hX zl_X7_55 dX7_askAll_4 g ?_
    refine zw_icmp_ge (tgt := 22) hX dX7_askAll_7 (by decide) (fun c7 => ?_) (fun c7 => ?_)
    · rw [if_pos c7] at h
      refine zw_sub (lv' := [(0, .ref a0)]) (List.forall_mem_cons.mpr ⟨rfl, zs_nil⟩) ?_
      exact hk  _ (Option.some.inj h).symm
    · rw [if_neg c7] at h
      refine zw_aload_n hX dX7_askAll_10 rfl ?_
      refine zw_iload_n hX dX7_askAll_11 rfl ?_
      refine zw_iload_n hX dX7_askAll_12 rfl ?_
      obtain ⟨_, gi, h⟩ := zb_some h
      obtain ⟨r3, g, h⟩ := zb_some h
      refine zc_Vv (as := [.int i2, .int i1]) hX gi (zt_X7_askRule (d := d - 1) (by omega) g) zl_X7_75 rfl dX7_askAll_13 ⟨rfl, rfl, Nat.le_of_ble_eq_true rfl⟩ ⟨by omega, by omega⟩ ?_
      refine zw_iinc (v := (i2 + (1 : Int32))) hX dX7_askAll_16 rfl rfl (by decide) ?_
      refine zw_goto (tgt := 2) hX dX7_askAll_19 (by decide) ?_
      refine zw_sub (lv' := [(0, .ref a0), (1, .int i1), (2, .int (i2 + (1 : Int32)))]) (List.forall_mem_cons.mpr ⟨rfl, (List.forall_mem_cons.mpr ⟨rfl, (List.forall_mem_cons.mpr ⟨rfl, zs_nil⟩)⟩)⟩) ?_
      exact ih _ _ h
set_option maxHeartbeats 4000000 in
set_option maxRecDepth 100000 in
theorem zt_X7_askAll {l : Launch} {V : zm_V} {N : Nat} {S : zm_S} {out : (Unit × zm_S)} {d : Nat} {a0 : Nat} {i1 : Int32} (hd : 43 ≤ d) (h : zf_X7_askAll N a0 i1 S = some out) : zm_Met l zk_E V yX7_askAll (.code yX7_askAll cX7_askAll 3 none) d [.ref a0, .int i1] S 0 0 (zo_v out) zo_x := by
  refine zm_of (by decide +kernel) (Nat.le_of_ble_eq_true rfl) ?_
  intro p e R s m args below meth c hRR hX hr hxt
  have hR : R.frames = d ∧ R.locals = 64 * d := by rw [hRR]; exact ⟨rfl, rfl⟩
  have hX : zm_X p R s m args meth c RX7 "askAll" cX7_askAll 3 zk_E V 0 0 := hX
  unfold zf_X7_askAll at h
  refine zw_sub (lv' := [(0, .ref a0), (1, .int i1)]) (List.forall_mem_cons.mpr ⟨rfl, (List.forall_mem_cons.mpr ⟨rfl, zs_nil⟩)⟩) ?_
  refine zw_iconst (v := (0 : Int32)) hX dX7_askAll_0 (by decide) ?_
  refine zw_istore_n hX dX7_askAll_1 (by decide) ?_
  obtain ⟨r, g, h⟩ := zb_some h
  refine zw_sub (lv' := [(0, .ref a0), (1, .int i1), (2, .int (0 : Int32))]) (List.forall_mem_cons.mpr ⟨rfl, (List.forall_mem_cons.mpr ⟨rfl, (List.forall_mem_cons.mpr ⟨rfl, zs_nil⟩)⟩)⟩) ?_
  refine zt_X7_askAll_L2 hX hr hR hd (res := r) (out := out) a0 i1 ?_ ?_ N _ _ g
  · intro o ho
    subst ho
    exact Option.some.inj h
  · intro  S4 hx
    subst hx
    try dsimp only at h
    refine zw_aload_n hX dX7_askAll_22 rfl ?_
    refine zw_iconst (v := (1 : Int32)) hX dX7_askAll_23 (by decide) ?_
    obtain ⟨S5, g, h⟩ := zb_some h
    refine zw_putv hX zl_X7_56 zt_7_1 dX7_askAll_24 rfl (by decide) g ?_
    obtain rfl := Option.some.inj h
    exact zw_vret hX hr dX7_askAll_27 ⟨rfl, rfl⟩
set_option maxHeartbeats 4000000 in
set_option maxRecDepth 100000 in
theorem zt_X7_countBroken_J31 {p : Program} {l : Launch} {e : Env} {R : Room} {s : State} {m : MethodId} {args : Array Value} {below : List Frame} {meth : Method} {c : Code} {V : zm_V} {mc ms d rc rs : Nat} (hX : zm_X p R s m args meth c RX7 "countBroken" cX7_countBroken 3 zk_E V mc ms) (hr : meth.sig.returnType = (some .int)) (hR : R.frames = d ∧ R.locals = 64 * d) (hd : 1 ≤ d) {N : Nat} {k : Nat → Int32 → Int32 → zm_S → Option ((Int32 × zm_S) ⊕ ((Int32) × zm_S))} {a0 : Nat} {i2 : Int32} {t0 : Int32} {t1 : Int32} {res : (Int32 × zm_S) ⊕ ((Int32) × zm_S)} {out : (Int32 × zm_S)}   (hf : ∀ o, res = .inl o → o = out) (hk : ∀ (x1 : Int32) (S' : zm_S), res = .inr (x1, S') → zw p l e R s m args below meth c (vx_MQ below (zm_Qc zk_E V (zo_i out)) (zm_XC zk_E V zo_x) args s mc ms (fun q => V.2.2.2.1 ≤ q)) 3 zk_E V mc ms 39 [(1, .int x1)] [] S' rc rs) (hrec : ∀ (i1' : Int32) (i2' : Int32) (S : zm_S), k a0 i1' i2' S = some res → zw p l e R s m args below meth c (vx_MQ below (zm_Qc zk_E V (zo_i out)) (zm_XC zk_E V zo_x) args s mc ms (fun q => V.2.2.2.1 ≤ q)) 3 zk_E V mc ms 4 [(0, .ref a0), (1, .int i1'), (2, .int i2')] [] S rc rs) {S : zm_S} (h : zf_X7_countBroken_J31 N k a0 i2 t0 t1 S = some res) : zw p l e R s m args below meth c (vx_MQ below (zm_Qc zk_E V (zo_i out)) (zm_XC zk_E V zo_x) args s mc ms (fun q => V.2.2.2.1 ≤ q)) 3 zk_E V mc ms 31 [(0, .ref a0), (2, .int i2)] [.int t1, .int t0] S rc rs := by
  unfold zf_X7_countBroken_J31 at h
  refine zw_iadd hX dX7_countBroken_31 ?_
  refine zw_istore_n hX dX7_countBroken_32 (by decide) ?_
  refine zw_iinc (v := (i2 + (1 : Int32))) hX dX7_countBroken_33 rfl rfl (by decide) ?_
  refine zw_goto (tgt := 4) hX dX7_countBroken_36 (by decide) ?_
  refine zw_sub (lv' := [(0, .ref a0), (1, .int (t0 + t1)), (2, .int (i2 + (1 : Int32)))]) (List.forall_mem_cons.mpr ⟨rfl, (List.forall_mem_cons.mpr ⟨rfl, (List.forall_mem_cons.mpr ⟨rfl, zs_nil⟩)⟩)⟩) ?_
  exact hrec _ _ _ h
set_option maxHeartbeats 4000000 in
set_option maxRecDepth 100000 in
theorem zt_X7_countBroken_L4 {p : Program} {l : Launch} {e : Env} {R : Room} {s : State} {m : MethodId} {args : Array Value} {below : List Frame} {meth : Method} {c : Code} {V : zm_V} {mc ms d rc rs : Nat} (hX : zm_X p R s m args meth c RX7 "countBroken" cX7_countBroken 3 zk_E V mc ms) (hr : meth.sig.returnType = (some .int)) (hR : R.frames = d ∧ R.locals = 64 * d) (hd : 1 ≤ d) {N : Nat} {res : (Int32 × zm_S) ⊕ ((Int32) × zm_S)} {out : (Int32 × zm_S)} (a0 : Nat) (hf : ∀ o, res = .inl o → o = out) (hk : ∀ (x1 : Int32) (S' : zm_S), res = .inr (x1, S') → zw p l e R s m args below meth c (vx_MQ below (zm_Qc zk_E V (zo_i out)) (zm_XC zk_E V zo_x) args s mc ms (fun q => V.2.2.2.1 ≤ q)) 3 zk_E V mc ms 39 [(1, .int x1)] [] S' rc rs) : ∀ (n : Nat) (i1 : Int32) (i2 : Int32) (S : zm_S), zf_X7_countBroken_L4 N n a0 i1 i2 S = some res → zw p l e R s m args below meth c (vx_MQ below (zm_Qc zk_E V (zo_i out)) (zm_XC zk_E V zo_x) args s mc ms (fun q => V.2.2.2.1 ≤ q)) 3 zk_E V mc ms 4 [(0, .ref a0), (1, .int i1), (2, .int i2)] [] S rc rs := by
  intro n
  induction n with
  | zero => intro i1 i2 S h; cases h
  | succ n ih =>
    intro i1 i2 S h
    rw [zf_X7_countBroken_L4] at h
    refine zw_iload_n hX dX7_countBroken_4 rfl ?_
    refine zw_aload_n hX dX7_countBroken_5 rfl ?_
    obtain ⟨v1, g, h⟩ := zb_some h
    refine zw_geti hX zl_X7_55 dX7_countBroken_6 g ?_
    refine zw_icmp_ge (tgt := 39) hX dX7_countBroken_9 (by decide) (fun c9 => ?_) (fun c9 => ?_)
    · rw [if_pos c9] at h
      refine zw_sub (lv' := [(1, .int i1)]) (List.forall_mem_cons.mpr ⟨rfl, zs_nil⟩) ?_
      exact hk _ _ (Option.some.inj h).symm
    · rw [if_neg c9] at h
      refine zw_iload_n hX dX7_countBroken_12 rfl ?_
      refine zw_aload_n hX dX7_countBroken_13 rfl ?_
      obtain ⟨b2, g, h⟩ := zb_some h
      refine zw_getr hX zl_X7_29 dX7_countBroken_14 g ?_
      refine zw_iload_n hX dX7_countBroken_17 rfl ?_
      obtain ⟨b3, g, h⟩ := zb_some h
      refine zw_xr hX dX7_countBroken_18 g ?_
      refine zw_iconst (v := (0 : Int32)) hX dX7_countBroken_19 (by decide) ?_
      obtain ⟨w4, g, h⟩ := zb_some h
      refine zw_xl hX dX7_countBroken_20 g ?_
      refine zw_lconst (v := (1 : Int64)) hX dX7_countBroken_21 (by decide) ?_
      refine zw_lcmp hX dX7_countBroken_22 ?_
      refine zw_if_ne (tgt := 30) hX dX7_countBroken_23 (by decide) (fun c23 => ?_) (fun c23 => ?_)
      · rw [if_neg c23] at h
        refine zw_iconst (v := (0 : Int32)) hX dX7_countBroken_30 (by decide) ?_
        refine zw_sub (lv' := [(0, .ref a0), (2, .int i2)]) (List.forall_mem_cons.mpr ⟨rfl, (List.forall_mem_cons.mpr ⟨rfl, zs_nil⟩)⟩) ?_
        exact zt_X7_countBroken_J31 hX hr hR hd hf hk ih h
      · rw [if_pos c23] at h
        refine zw_iconst (v := (1 : Int32)) hX dX7_countBroken_26 (by decide) ?_
        refine zw_goto (tgt := 31) hX dX7_countBroken_27 (by decide) ?_
        refine zw_sub (lv' := [(0, .ref a0), (2, .int i2)]) (List.forall_mem_cons.mpr ⟨rfl, (List.forall_mem_cons.mpr ⟨rfl, zs_nil⟩)⟩) ?_
        exact zt_X7_countBroken_J31 hX hr hR hd hf hk ih h
set_option maxHeartbeats 4000000 in
set_option maxRecDepth 100000 in
theorem zt_X7_countBroken {l : Launch} {V : zm_V} {N : Nat} {S : zm_S} {out : (Int32 × zm_S)} {d : Nat} {a0 : Nat} (hd : 1 ≤ d) (h : zf_X7_countBroken N a0 S = some out) : zm_Met l zk_E V yX7_countBroken (.code yX7_countBroken cX7_countBroken 3 (some .int)) d [.ref a0] S 0 0 (zo_i out) zo_x := by
  refine zm_of (by decide +kernel) (Nat.le_of_ble_eq_true rfl) ?_
  intro p e R s m args below meth c hRR hX hr hxt
  have hR : R.frames = d ∧ R.locals = 64 * d := by rw [hRR]; exact ⟨rfl, rfl⟩
  have hX : zm_X p R s m args meth c RX7 "countBroken" cX7_countBroken 3 zk_E V 0 0 := hX
  unfold zf_X7_countBroken at h
  refine zw_sub (lv' := [(0, .ref a0)]) (List.forall_mem_cons.mpr ⟨rfl, zs_nil⟩) ?_
  refine zw_iconst (v := (0 : Int32)) hX dX7_countBroken_0 (by decide) ?_
  refine zw_istore_n hX dX7_countBroken_1 (by decide) ?_
  refine zw_iconst (v := (0 : Int32)) hX dX7_countBroken_2 (by decide) ?_
  refine zw_istore_n hX dX7_countBroken_3 (by decide) ?_
  obtain ⟨r, g, h⟩ := zb_some h
  refine zw_sub (lv' := [(0, .ref a0), (1, .int (0 : Int32)), (2, .int (0 : Int32))]) (List.forall_mem_cons.mpr ⟨rfl, (List.forall_mem_cons.mpr ⟨rfl, (List.forall_mem_cons.mpr ⟨rfl, zs_nil⟩)⟩)⟩) ?_
  refine zt_X7_countBroken_L4 hX hr hR hd (res := r) (out := out) a0 ?_ ?_ N _ _ _ g
  · intro o ho
    subst ho
    exact Option.some.inj h
  · intro v6 S5 hx
    subst hx
    try dsimp only at h
    refine zw_iload_n hX dX7_countBroken_39 rfl ?_
    obtain rfl := Option.some.inj h
    exact zw_iret hX hr dX7_countBroken_40 rfl ⟨rfl, rfl⟩
set_option maxHeartbeats 4000000 in
set_option maxRecDepth 100000 in
theorem zt_X7_firstRefusing_L2 {p : Program} {l : Launch} {e : Env} {R : Room} {s : State} {m : MethodId} {args : Array Value} {below : List Frame} {meth : Method} {c : Code} {V : zm_V} {mc ms d rc rs : Nat} (hX : zm_X p R s m args meth c RX7 "firstRefusing" cX7_firstRefusing 2 zk_E V mc ms) (hr : meth.sig.returnType = (some .int)) (hR : R.frames = d ∧ R.locals = 64 * d) (hd : 1 ≤ d) {N : Nat} {res : (Int32 × zm_S) ⊕ ((Unit) × zm_S)} {out : (Int32 × zm_S)} (a0 : Nat) (hf : ∀ o, res = .inl o → o = out) (hk : ∀ (S' : zm_S), res = .inr ((), S') → zw p l e R s m args below meth c (vx_MQ below (zm_Qc zk_E V (zo_i out)) (zm_XC zk_E V zo_x) args s mc ms (fun q => V.2.2.2.1 ≤ q)) 2 zk_E V mc ms 46 [] [] S' rc rs) : ∀ (n : Nat) (i1 : Int32) (S : zm_S), zf_X7_firstRefusing_L2 N n a0 i1 S = some res → zw p l e R s m args below meth c (vx_MQ below (zm_Qc zk_E V (zo_i out)) (zm_XC zk_E V zo_x) args s mc ms (fun q => V.2.2.2.1 ≤ q)) 2 zk_E V mc ms 2 [(0, .ref a0), (1, .int i1)] [] S rc rs := by
  intro n
  induction n with
  | zero => intro i1 S h; cases h
  | succ n ih =>
    intro i1 S h
    rw [zf_X7_firstRefusing_L2] at h
    refine zw_iload_n hX dX7_firstRefusing_2 rfl ?_
    refine zw_aload_n hX dX7_firstRefusing_3 rfl ?_
    obtain ⟨v1, g, h⟩ := zb_some h
    refine zw_geti hX zl_X7_55 dX7_firstRefusing_4 g ?_
    refine zw_icmp_ge (tgt := 46) hX dX7_firstRefusing_7 (by decide) (fun c7 => ?_) (fun c7 => ?_)
    · rw [if_pos c7] at h
      refine zw_sub (lv' := []) zs_nil ?_
      exact hk  _ (Option.some.inj h).symm
    · rw [if_neg c7] at h
      refine zw_aload_n hX dX7_firstRefusing_10 rfl ?_
      obtain ⟨b2, g, h⟩ := zb_some h
      refine zw_getr hX zl_X7_29 dX7_firstRefusing_11 g ?_
      refine zw_iload_n hX dX7_firstRefusing_14 rfl ?_
      obtain ⟨b3, g, h⟩ := zb_some h
      refine zw_xr hX dX7_firstRefusing_15 g ?_
      refine zw_iconst (v := (0 : Int32)) hX dX7_firstRefusing_16 (by decide) ?_
      obtain ⟨w4, g, h⟩ := zb_some h
      refine zw_xl hX dX7_firstRefusing_17 g ?_
      refine zw_lconst (v := (1 : Int64)) hX dX7_firstRefusing_18 (by decide) ?_
      refine zw_lcmp hX dX7_firstRefusing_19 ?_
      refine zw_if_eq (tgt := 38) hX dX7_firstRefusing_20 (by decide) (fun c20 => ?_) (fun c20 => ?_)
      · rw [if_pos c20] at h
        refine zw_iload_n hX dX7_firstRefusing_38 rfl ?_
        have hz := hf _ (Option.some.inj h).symm
        subst hz
        exact zw_iret hX hr dX7_firstRefusing_39 rfl ⟨rfl, rfl⟩
      · rw [if_neg c20] at h
        refine zw_aload_n hX dX7_firstRefusing_23 rfl ?_
        obtain ⟨b5, g, h⟩ := zb_some h
        refine zw_getr hX zl_X7_29 dX7_firstRefusing_24 g ?_
        refine zw_iload_n hX dX7_firstRefusing_27 rfl ?_
        obtain ⟨b6, g, h⟩ := zb_some h
        refine zw_xr hX dX7_firstRefusing_28 g ?_
        refine zw_iconst (v := (0 : Int32)) hX dX7_firstRefusing_29 (by decide) ?_
        obtain ⟨w7, g, h⟩ := zb_some h
        refine zw_xl hX dX7_firstRefusing_30 g ?_
        refine zw_ldc2 (v := (3 : Int64)) hX dX7_firstRefusing_31 zl_X7_79 ?_
        refine zw_lcmp hX dX7_firstRefusing_34 ?_
        refine zw_if_ne (tgt := 40) hX dX7_firstRefusing_35 (by decide) (fun c35 => ?_) (fun c35 => ?_)
        · rw [if_neg c35] at h
          refine zw_iinc (v := (i1 + (1 : Int32))) hX dX7_firstRefusing_40 rfl rfl (by decide) ?_
          refine zw_goto (tgt := 2) hX dX7_firstRefusing_43 (by decide) ?_
          refine zw_sub (lv' := [(0, .ref a0), (1, .int (i1 + (1 : Int32)))]) (List.forall_mem_cons.mpr ⟨rfl, (List.forall_mem_cons.mpr ⟨rfl, zs_nil⟩)⟩) ?_
          exact ih _ _ h
        · rw [if_pos c35] at h
          refine zw_iload_n hX dX7_firstRefusing_38 rfl ?_
          have hz := hf _ (Option.some.inj h).symm
          subst hz
          exact zw_iret hX hr dX7_firstRefusing_39 rfl ⟨rfl, rfl⟩
set_option maxHeartbeats 4000000 in
set_option maxRecDepth 100000 in
theorem zt_X7_firstRefusing {l : Launch} {V : zm_V} {N : Nat} {S : zm_S} {out : (Int32 × zm_S)} {d : Nat} {a0 : Nat} (hd : 1 ≤ d) (h : zf_X7_firstRefusing N a0 S = some out) : zm_Met l zk_E V yX7_firstRefusing (.code yX7_firstRefusing cX7_firstRefusing 2 (some .int)) d [.ref a0] S 0 0 (zo_i out) zo_x := by
  refine zm_of (by decide +kernel) (Nat.le_of_ble_eq_true rfl) ?_
  intro p e R s m args below meth c hRR hX hr hxt
  have hR : R.frames = d ∧ R.locals = 64 * d := by rw [hRR]; exact ⟨rfl, rfl⟩
  have hX : zm_X p R s m args meth c RX7 "firstRefusing" cX7_firstRefusing 2 zk_E V 0 0 := hX
  unfold zf_X7_firstRefusing at h
  refine zw_sub (lv' := [(0, .ref a0)]) (List.forall_mem_cons.mpr ⟨rfl, zs_nil⟩) ?_
  refine zw_iconst (v := (0 : Int32)) hX dX7_firstRefusing_0 (by decide) ?_
  refine zw_istore_n hX dX7_firstRefusing_1 (by decide) ?_
  obtain ⟨r, g, h⟩ := zb_some h
  refine zw_sub (lv' := [(0, .ref a0), (1, .int (0 : Int32))]) (List.forall_mem_cons.mpr ⟨rfl, (List.forall_mem_cons.mpr ⟨rfl, zs_nil⟩)⟩) ?_
  refine zt_X7_firstRefusing_L2 hX hr hR hd (res := r) (out := out) a0 ?_ ?_ N _ _ g
  · intro o ho
    subst ho
    exact Option.some.inj h
  · intro  S8 hx
    subst hx
    try dsimp only at h
    refine zw_iconst (v := (-1 : Int32)) hX dX7_firstRefusing_46 (by decide) ?_
    obtain rfl := Option.some.inj h
    exact zw_iret hX hr dX7_firstRefusing_47 rfl ⟨rfl, rfl⟩
set_option maxHeartbeats 4000000 in
set_option maxRecDepth 100000 in
theorem zt_X7_answerOf {l : Launch} {V : zm_V} {N : Nat} {S : zm_S} {out : (Int64 × zm_S)} {d : Nat} {a0 : Nat} {i1 : Int32} {i2 : Int32} (hd : 1 ≤ d) (h : zf_X7_answerOf N a0 i1 i2 S = some out) : zm_Met l zk_E V yX7_answerOf (.code yX7_answerOf cX7_answerOf 3 (some .long)) d [.ref a0, .int i1, .int i2] S 0 0 (zo_l out) zo_x := by
  refine zm_of (by decide +kernel) (Nat.le_of_ble_eq_true rfl) ?_
  intro p e R s m args below meth c hRR hX hr hxt
  have hR : R.frames = d ∧ R.locals = 64 * d := by rw [hRR]; exact ⟨rfl, rfl⟩
  have hX : zm_X p R s m args meth c RX7 "answerOf" cX7_answerOf 3 zk_E V 0 0 := hX
  unfold zf_X7_answerOf at h
  refine zw_sub (lv' := [(0, .ref a0), (1, .int i1), (2, .int i2)]) (List.forall_mem_cons.mpr ⟨rfl, (List.forall_mem_cons.mpr ⟨rfl, (List.forall_mem_cons.mpr ⟨rfl, zs_nil⟩)⟩)⟩) ?_
  refine zw_aload_n hX dX7_answerOf_0 rfl ?_
  obtain ⟨b1, g, h⟩ := zb_some h
  refine zw_getr hX zl_X7_29 dX7_answerOf_1 g ?_
  refine zw_iload_n hX dX7_answerOf_4 rfl ?_
  obtain ⟨b2, g, h⟩ := zb_some h
  refine zw_xr hX dX7_answerOf_5 g ?_
  refine zw_iload_n hX dX7_answerOf_6 rfl ?_
  obtain ⟨w3, g, h⟩ := zb_some h
  refine zw_xl hX dX7_answerOf_7 g ?_
  obtain rfl := Option.some.inj h
  exact zw_lret hX hr dX7_answerOf_8 ⟨rfl, rfl⟩
set_option maxHeartbeats 4000000 in
set_option maxRecDepth 100000 in
theorem zt_X8_init {l : Launch} {V : zm_V} {N : Nat} {S : zm_S} {out : (Unit × zm_S)} {d : Nat} {a0 : Nat} (hd : 2 ≤ d) (h : zf_X8_init N a0 S = some out) : zm_Met l zk_E V yX8_init (.code yX8_init cX8_init 1 none) d [.ref a0] S 43 500 (zo_v out) zo_x := by
  refine zm_of (by decide +kernel) (Nat.le_of_ble_eq_true rfl) ?_
  intro p e R s m args below meth c hRR hX hr hxt
  have hR : R.frames = d ∧ R.locals = 64 * d := by rw [hRR]; exact ⟨rfl, rfl⟩
  have hX : zm_X p R s m args meth c RX8 "<init>" cX8_init 1 zk_E V 43 500 := hX
  unfold zf_X8_init at h
  refine zw_sub (lv' := [(0, .ref a0)]) (List.forall_mem_cons.mpr ⟨rfl, zs_nil⟩) ?_
  refine zw_aload_n hX dX8_init_0 rfl ?_
  refine zw_objInit hX zl_X8_3.1 zl_X8_3.2.1 zl_X8_3.2.2 dX8_init_1 (by omega) (by show 0 + 12 ≤ R.locals; omega) ?_
  refine zw_aload_n hX dX8_init_4 rfl ?_
  refine zw_bipush (v := (20 : Int32)) hX dX8_init_5 (by decide) ?_
  refine zw_iconst (v := (4 : Int32)) hX dX8_init_7 (by decide) ?_
  obtain ⟨S1, g, h⟩ := zb_some h
  refine zw_mnao (N := 20) (K := 4) (t1 := 4) (t2 := 0) (ty := .int) hX rfl rfl zl_X8_11 (by decide +kernel) (Or.inl rfl) zk_ai dX8_init_8 (fun _ _ => rfl) (by decide) (by decide) rfl rfl (Nat.le_of_ble_eq_true rfl) (Nat.le_of_ble_eq_true rfl) (Nat.le_of_ble_eq_true rfl) rfl rfl (fun _ h => by cases h) (by omega) (by omega) g ?_
  obtain ⟨S2, g, h⟩ := zb_some h
  refine zw_putvF hX zl_X8_13 zt_8_1 dX8_init_12 rfl rfl g ?_
  refine zw_aload_n hX dX8_init_15 rfl ?_
  refine zw_bipush (v := (20 : Int32)) hX dX8_init_16 (by decide) ?_
  obtain ⟨S3, g, h⟩ := zb_some h
  refine zw_ni (b := 20) hX zk_ai dX8_init_18 (by omega) (by omega) (by decide) g ?_
  obtain ⟨S4, g, h⟩ := zb_some h
  refine zw_putvF hX zl_X8_16 zt_8_2 dX8_init_20 rfl rfl g ?_
  refine zw_aload_n hX dX8_init_23 rfl ?_
  refine zw_bipush (v := (20 : Int32)) hX dX8_init_24 (by decide) ?_
  refine zw_bipush (v := (18 : Int32)) hX dX8_init_26 (by decide) ?_
  obtain ⟨S5, g, h⟩ := zb_some h
  refine zw_mnao (N := 20) (K := 18) (t1 := 4) (t2 := 0) (ty := .int) hX rfl rfl zl_X8_11 (by decide +kernel) (Or.inl rfl) zk_ai dX8_init_28 (fun _ _ => rfl) (by decide) (by decide) rfl rfl (Nat.le_of_ble_eq_true rfl) (Nat.le_of_ble_eq_true rfl) (Nat.le_of_ble_eq_true rfl) rfl rfl (fun _ h => by cases h) (by omega) (by omega) g ?_
  obtain ⟨S6, g, h⟩ := zb_some h
  refine zw_putvF hX zl_X8_20 zt_8_3 dX8_init_32 rfl rfl g ?_
  obtain rfl := Option.some.inj h
  exact zw_vret hX hr dX8_init_35 ⟨rfl, rfl⟩
set_option maxHeartbeats 4000000 in
set_option maxRecDepth 100000 in
theorem zt_X8_liesAlong_J118 {p : Program} {l : Launch} {e : Env} {R : Room} {s : State} {m : MethodId} {args : Array Value} {below : List Frame} {meth : Method} {c : Code} {V : zm_V} {mc ms d rc rs : Nat} (hX : zm_X p R s m args meth c RX8 "liesAlong" cX8_liesAlong 10 zk_E V mc ms) (hr : meth.sig.returnType = (some .boolean)) (hR : R.frames = d ∧ R.locals = 64 * d) (hd : 2 ≤ d) {N : Nat} {k : Nat → Int32 → Int32 → Int32 → Int32 → Int32 → Int32 → zm_S → Option ((Int32 × zm_S) ⊕ ((Unit) × zm_S))} {a0 : Nat} {i1 : Int32} {i2 : Int32} {i3 : Int32} {i4 : Int32} {i5 : Int32} {i6 : Int32} {a7 : Nat} {i9 : Int32} {res : (Int32 × zm_S) ⊕ ((Unit) × zm_S)} {out : (Int32 × zm_S)}   (hf : ∀ o, res = .inl o → o = out) (hk : ∀ (S' : zm_S), res = .inr ((), S') → zw p l e R s m args below meth c (vx_MQ below (zm_Qc zk_E V (zo_i out)) (zm_XC zk_E V zo_x) args s mc ms (fun q => V.2.2.2.1 ≤ q)) 10 zk_E V mc ms 157 [] [] S' rc rs) (hrec : ∀ (i6' : Int32) (S : zm_S), k a0 i1 i2 i3 i4 i5 i6' S = some res → zw p l e R s m args below meth c (vx_MQ below (zm_Qc zk_E V (zo_i out)) (zm_XC zk_E V zo_x) args s mc ms (fun q => V.2.2.2.1 ≤ q)) 10 zk_E V mc ms 3 [(0, .ref a0), (1, .int i1), (2, .int i2), (3, .int i3), (4, .int i4), (5, .int i5), (6, .int i6')] [] S rc rs) {S : zm_S} (h : zf_X8_liesAlong_J118 N k a0 i1 i2 i3 i4 i5 i6 a7 i9 S = some res) : zw p l e R s m args below meth c (vx_MQ below (zm_Qc zk_E V (zo_i out)) (zm_XC zk_E V zo_x) args s mc ms (fun q => V.2.2.2.1 ≤ q)) 10 zk_E V mc ms 118 [(0, .ref a0), (1, .int i1), (2, .int i2), (3, .int i3), (4, .int i4), (5, .int i5), (6, .int i6), (7, .ref a7), (9, .int i9)] [] S rc rs := by
  unfold zf_X8_liesAlong_J118 at h
  refine zw_iload hX dX8_liesAlong_118 rfl ?_
  refine zw_iload_n hX dX8_liesAlong_120 rfl ?_
  refine zw_icmp_eq (tgt := 151) hX dX8_liesAlong_121 (by decide) (fun c121 => ?_) (fun c121 => ?_)
  · rw [if_pos c121] at h
    refine zw_iinc (v := (i6 + (1 : Int32))) hX dX8_liesAlong_151 rfl rfl (by decide) ?_
    refine zw_goto (tgt := 3) hX dX8_liesAlong_154 (by decide) ?_
    refine zw_sub (lv' := [(0, .ref a0), (1, .int i1), (2, .int i2), (3, .int i3), (4, .int i4), (5, .int i5), (6, .int (i6 + (1 : Int32)))]) (List.forall_mem_cons.mpr ⟨rfl, (List.forall_mem_cons.mpr ⟨rfl, (List.forall_mem_cons.mpr ⟨rfl, (List.forall_mem_cons.mpr ⟨rfl, (List.forall_mem_cons.mpr ⟨rfl, (List.forall_mem_cons.mpr ⟨rfl, (List.forall_mem_cons.mpr ⟨rfl, zs_nil⟩)⟩)⟩)⟩)⟩)⟩)⟩) ?_
    exact hrec _ _ h
  · rw [if_neg c121] at h
    refine zw_iload hX dX8_liesAlong_124 rfl ?_
    refine zw_if_eq (tgt := 151) hX dX8_liesAlong_126 (by decide) (fun c126 => ?_) (fun c126 => ?_)
    · rw [if_pos c126] at h
      refine zw_iinc (v := (i6 + (1 : Int32))) hX dX8_liesAlong_151 rfl rfl (by decide) ?_
      refine zw_goto (tgt := 3) hX dX8_liesAlong_154 (by decide) ?_
      refine zw_sub (lv' := [(0, .ref a0), (1, .int i1), (2, .int i2), (3, .int i3), (4, .int i4), (5, .int i5), (6, .int (i6 + (1 : Int32)))]) (List.forall_mem_cons.mpr ⟨rfl, (List.forall_mem_cons.mpr ⟨rfl, (List.forall_mem_cons.mpr ⟨rfl, (List.forall_mem_cons.mpr ⟨rfl, (List.forall_mem_cons.mpr ⟨rfl, (List.forall_mem_cons.mpr ⟨rfl, (List.forall_mem_cons.mpr ⟨rfl, zs_nil⟩)⟩)⟩)⟩)⟩)⟩)⟩) ?_
      exact hrec _ _ h
    · rw [if_neg c126] at h
      refine zw_iload_n hX dX8_liesAlong_129 rfl ?_
      refine zw_aload hX dX8_liesAlong_130 rfl ?_
      refine zw_iconst (v := (1 : Int32)) hX dX8_liesAlong_132 (by decide) ?_
      obtain ⟨v4, g, h⟩ := zb_some h
      refine zw_xi hX dX8_liesAlong_133 g ?_
      refine zw_mmax hX zl_X8_29 dX8_liesAlong_134 (Nat.le_of_ble_eq_true rfl) ⟨by omega, by omega⟩ ?_
      refine zw_iload hX dX8_liesAlong_137 rfl ?_
      refine zw_aload hX dX8_liesAlong_139 rfl ?_
      refine zw_iconst (v := (3 : Int32)) hX dX8_liesAlong_141 (by decide) ?_
      obtain ⟨v5, g, h⟩ := zb_some h
      refine zw_xi hX dX8_liesAlong_142 g ?_
      refine zw_mmin hX zl_X8_23 dX8_liesAlong_143 (Nat.le_of_ble_eq_true rfl) ⟨by omega, by omega⟩ ?_
      refine zw_icmp_ge (tgt := 151) hX dX8_liesAlong_146 (by decide) (fun c146 => ?_) (fun c146 => ?_)
      · rw [if_pos c146] at h
        refine zw_iinc (v := (i6 + (1 : Int32))) hX dX8_liesAlong_151 rfl rfl (by decide) ?_
        refine zw_goto (tgt := 3) hX dX8_liesAlong_154 (by decide) ?_
        refine zw_sub (lv' := [(0, .ref a0), (1, .int i1), (2, .int i2), (3, .int i3), (4, .int i4), (5, .int i5), (6, .int (i6 + (1 : Int32)))]) (List.forall_mem_cons.mpr ⟨rfl, (List.forall_mem_cons.mpr ⟨rfl, (List.forall_mem_cons.mpr ⟨rfl, (List.forall_mem_cons.mpr ⟨rfl, (List.forall_mem_cons.mpr ⟨rfl, (List.forall_mem_cons.mpr ⟨rfl, (List.forall_mem_cons.mpr ⟨rfl, zs_nil⟩)⟩)⟩)⟩)⟩)⟩)⟩) ?_
        exact hrec _ _ h
      · rw [if_neg c146] at h
        refine zw_iconst (v := (1 : Int32)) hX dX8_liesAlong_149 (by decide) ?_
        have hz := hf _ (Option.some.inj h).symm
        subst hz
        exact zw_iret hX hr dX8_liesAlong_150 rfl ⟨rfl, rfl⟩
set_option maxHeartbeats 4000000 in
set_option maxRecDepth 100000 in
theorem zt_X8_liesAlong_J83 {p : Program} {l : Launch} {e : Env} {R : Room} {s : State} {m : MethodId} {args : Array Value} {below : List Frame} {meth : Method} {c : Code} {V : zm_V} {mc ms d rc rs : Nat} (hX : zm_X p R s m args meth c RX8 "liesAlong" cX8_liesAlong 10 zk_E V mc ms) (hr : meth.sig.returnType = (some .boolean)) (hR : R.frames = d ∧ R.locals = 64 * d) (hd : 2 ≤ d) {N : Nat} {k : Nat → Int32 → Int32 → Int32 → Int32 → Int32 → Int32 → zm_S → Option ((Int32 × zm_S) ⊕ ((Unit) × zm_S))} {a0 : Nat} {i1 : Int32} {i2 : Int32} {i3 : Int32} {i4 : Int32} {i5 : Int32} {i6 : Int32} {a7 : Nat} {i8 : Int32} {t0 : Int32} {res : (Int32 × zm_S) ⊕ ((Unit) × zm_S)} {out : (Int32 × zm_S)}   (hf : ∀ o, res = .inl o → o = out) (hk : ∀ (S' : zm_S), res = .inr ((), S') → zw p l e R s m args below meth c (vx_MQ below (zm_Qc zk_E V (zo_i out)) (zm_XC zk_E V zo_x) args s mc ms (fun q => V.2.2.2.1 ≤ q)) 10 zk_E V mc ms 157 [] [] S' rc rs) (hrec : ∀ (i6' : Int32) (S : zm_S), k a0 i1 i2 i3 i4 i5 i6' S = some res → zw p l e R s m args below meth c (vx_MQ below (zm_Qc zk_E V (zo_i out)) (zm_XC zk_E V zo_x) args s mc ms (fun q => V.2.2.2.1 ≤ q)) 10 zk_E V mc ms 3 [(0, .ref a0), (1, .int i1), (2, .int i2), (3, .int i3), (4, .int i4), (5, .int i5), (6, .int i6')] [] S rc rs) {S : zm_S} (h : zf_X8_liesAlong_J83 N k a0 i1 i2 i3 i4 i5 i6 a7 i8 t0 S = some res) : zw p l e R s m args below meth c (vx_MQ below (zm_Qc zk_E V (zo_i out)) (zm_XC zk_E V zo_x) args s mc ms (fun q => V.2.2.2.1 ≤ q)) 10 zk_E V mc ms 83 [(0, .ref a0), (1, .int i1), (2, .int i2), (3, .int i3), (4, .int i4), (5, .int i5), (6, .int i6), (7, .ref a7), (8, .int i8)] [.int t0] S rc rs := by
  unfold zf_X8_liesAlong_J83 at h
  refine zw_istore hX dX8_liesAlong_83 (by decide) ?_
  refine zw_iload hX dX8_liesAlong_85 rfl ?_
  refine zw_iload_n hX dX8_liesAlong_87 rfl ?_
  refine zw_icmp_eq (tgt := 118) hX dX8_liesAlong_88 (by decide) (fun c88 => ?_) (fun c88 => ?_)
  · rw [if_pos c88] at h
    refine zw_sub (lv' := [(0, .ref a0), (1, .int i1), (2, .int i2), (3, .int i3), (4, .int i4), (5, .int i5), (6, .int i6), (7, .ref a7), (9, .int t0)]) (List.forall_mem_cons.mpr ⟨rfl, (List.forall_mem_cons.mpr ⟨rfl, (List.forall_mem_cons.mpr ⟨rfl, (List.forall_mem_cons.mpr ⟨rfl, (List.forall_mem_cons.mpr ⟨rfl, (List.forall_mem_cons.mpr ⟨rfl, (List.forall_mem_cons.mpr ⟨rfl, (List.forall_mem_cons.mpr ⟨rfl, (List.forall_mem_cons.mpr ⟨rfl, zs_nil⟩)⟩)⟩)⟩)⟩)⟩)⟩)⟩)⟩) ?_
    exact zt_X8_liesAlong_J118 hX hr hR hd hf hk hrec h
  · rw [if_neg c88] at h
    refine zw_iload hX dX8_liesAlong_91 rfl ?_
    refine zw_if_eq (tgt := 118) hX dX8_liesAlong_93 (by decide) (fun c93 => ?_) (fun c93 => ?_)
    · rw [if_pos c93] at h
      refine zw_sub (lv' := [(0, .ref a0), (1, .int i1), (2, .int i2), (3, .int i3), (4, .int i4), (5, .int i5), (6, .int i6), (7, .ref a7), (9, .int t0)]) (List.forall_mem_cons.mpr ⟨rfl, (List.forall_mem_cons.mpr ⟨rfl, (List.forall_mem_cons.mpr ⟨rfl, (List.forall_mem_cons.mpr ⟨rfl, (List.forall_mem_cons.mpr ⟨rfl, (List.forall_mem_cons.mpr ⟨rfl, (List.forall_mem_cons.mpr ⟨rfl, (List.forall_mem_cons.mpr ⟨rfl, (List.forall_mem_cons.mpr ⟨rfl, zs_nil⟩)⟩)⟩)⟩)⟩)⟩)⟩)⟩)⟩) ?_
      exact zt_X8_liesAlong_J118 hX hr hR hd hf hk hrec h
    · rw [if_neg c93] at h
      refine zw_iload_n hX dX8_liesAlong_96 rfl ?_
      refine zw_aload hX dX8_liesAlong_97 rfl ?_
      refine zw_iconst (v := (0 : Int32)) hX dX8_liesAlong_99 (by decide) ?_
      obtain ⟨v6, g, h⟩ := zb_some h
      refine zw_xi hX dX8_liesAlong_100 g ?_
      refine zw_mmax hX zl_X8_29 dX8_liesAlong_101 (Nat.le_of_ble_eq_true rfl) ⟨by omega, by omega⟩ ?_
      refine zw_iload hX dX8_liesAlong_104 rfl ?_
      refine zw_aload hX dX8_liesAlong_106 rfl ?_
      refine zw_iconst (v := (2 : Int32)) hX dX8_liesAlong_108 (by decide) ?_
      obtain ⟨v7, g, h⟩ := zb_some h
      refine zw_xi hX dX8_liesAlong_109 g ?_
      refine zw_mmin hX zl_X8_23 dX8_liesAlong_110 (Nat.le_of_ble_eq_true rfl) ⟨by omega, by omega⟩ ?_
      refine zw_icmp_ge (tgt := 118) hX dX8_liesAlong_113 (by decide) (fun c113 => ?_) (fun c113 => ?_)
      · rw [if_pos c113] at h
        refine zw_sub (lv' := [(0, .ref a0), (1, .int i1), (2, .int i2), (3, .int i3), (4, .int i4), (5, .int i5), (6, .int i6), (7, .ref a7), (9, .int t0)]) (List.forall_mem_cons.mpr ⟨rfl, (List.forall_mem_cons.mpr ⟨rfl, (List.forall_mem_cons.mpr ⟨rfl, (List.forall_mem_cons.mpr ⟨rfl, (List.forall_mem_cons.mpr ⟨rfl, (List.forall_mem_cons.mpr ⟨rfl, (List.forall_mem_cons.mpr ⟨rfl, (List.forall_mem_cons.mpr ⟨rfl, (List.forall_mem_cons.mpr ⟨rfl, zs_nil⟩)⟩)⟩)⟩)⟩)⟩)⟩)⟩)⟩) ?_
        exact zt_X8_liesAlong_J118 hX hr hR hd hf hk hrec h
      · rw [if_neg c113] at h
        refine zw_iconst (v := (1 : Int32)) hX dX8_liesAlong_116 (by decide) ?_
        have hz := hf _ (Option.some.inj h).symm
        subst hz
        exact zw_iret hX hr dX8_liesAlong_117 rfl ⟨rfl, rfl⟩
set_option maxHeartbeats 4000000 in
set_option maxRecDepth 100000 in
theorem zt_X8_liesAlong_J82 {p : Program} {l : Launch} {e : Env} {R : Room} {s : State} {m : MethodId} {args : Array Value} {below : List Frame} {meth : Method} {c : Code} {V : zm_V} {mc ms d rc rs : Nat} (hX : zm_X p R s m args meth c RX8 "liesAlong" cX8_liesAlong 10 zk_E V mc ms) (hr : meth.sig.returnType = (some .boolean)) (hR : R.frames = d ∧ R.locals = 64 * d) (hd : 2 ≤ d) {N : Nat} {k : Nat → Int32 → Int32 → Int32 → Int32 → Int32 → Int32 → zm_S → Option ((Int32 × zm_S) ⊕ ((Unit) × zm_S))} {a0 : Nat} {i1 : Int32} {i2 : Int32} {i3 : Int32} {i4 : Int32} {i5 : Int32} {i6 : Int32} {a7 : Nat} {i8 : Int32} {res : (Int32 × zm_S) ⊕ ((Unit) × zm_S)} {out : (Int32 × zm_S)}   (hf : ∀ o, res = .inl o → o = out) (hk : ∀ (S' : zm_S), res = .inr ((), S') → zw p l e R s m args below meth c (vx_MQ below (zm_Qc zk_E V (zo_i out)) (zm_XC zk_E V zo_x) args s mc ms (fun q => V.2.2.2.1 ≤ q)) 10 zk_E V mc ms 157 [] [] S' rc rs) (hrec : ∀ (i6' : Int32) (S : zm_S), k a0 i1 i2 i3 i4 i5 i6' S = some res → zw p l e R s m args below meth c (vx_MQ below (zm_Qc zk_E V (zo_i out)) (zm_XC zk_E V zo_x) args s mc ms (fun q => V.2.2.2.1 ≤ q)) 10 zk_E V mc ms 3 [(0, .ref a0), (1, .int i1), (2, .int i2), (3, .int i3), (4, .int i4), (5, .int i5), (6, .int i6')] [] S rc rs) {S : zm_S} (h : zf_X8_liesAlong_J82 N k a0 i1 i2 i3 i4 i5 i6 a7 i8 S = some res) : zw p l e R s m args below meth c (vx_MQ below (zm_Qc zk_E V (zo_i out)) (zm_XC zk_E V zo_x) args s mc ms (fun q => V.2.2.2.1 ≤ q)) 10 zk_E V mc ms 82 [(0, .ref a0), (1, .int i1), (2, .int i2), (3, .int i3), (4, .int i4), (5, .int i5), (6, .int i6), (7, .ref a7), (8, .int i8)] [] S rc rs := by
  unfold zf_X8_liesAlong_J82 at h
  refine zw_iconst (v := (0 : Int32)) hX dX8_liesAlong_82 (by decide) ?_
  refine zw_sub (lv' := [(0, .ref a0), (1, .int i1), (2, .int i2), (3, .int i3), (4, .int i4), (5, .int i5), (6, .int i6), (7, .ref a7), (8, .int i8)]) (List.forall_mem_cons.mpr ⟨rfl, (List.forall_mem_cons.mpr ⟨rfl, (List.forall_mem_cons.mpr ⟨rfl, (List.forall_mem_cons.mpr ⟨rfl, (List.forall_mem_cons.mpr ⟨rfl, (List.forall_mem_cons.mpr ⟨rfl, (List.forall_mem_cons.mpr ⟨rfl, (List.forall_mem_cons.mpr ⟨rfl, (List.forall_mem_cons.mpr ⟨rfl, zs_nil⟩)⟩)⟩)⟩)⟩)⟩)⟩)⟩)⟩) ?_
  exact zt_X8_liesAlong_J83 hX hr hR hd hf hk hrec h
set_option maxHeartbeats 4000000 in
set_option maxRecDepth 100000 in
theorem zt_X8_liesAlong_J51 {p : Program} {l : Launch} {e : Env} {R : Room} {s : State} {m : MethodId} {args : Array Value} {below : List Frame} {meth : Method} {c : Code} {V : zm_V} {mc ms d rc rs : Nat} (hX : zm_X p R s m args meth c RX8 "liesAlong" cX8_liesAlong 10 zk_E V mc ms) (hr : meth.sig.returnType = (some .boolean)) (hR : R.frames = d ∧ R.locals = 64 * d) (hd : 2 ≤ d) {N : Nat} {k : Nat → Int32 → Int32 → Int32 → Int32 → Int32 → Int32 → zm_S → Option ((Int32 × zm_S) ⊕ ((Unit) × zm_S))} {a0 : Nat} {i1 : Int32} {i2 : Int32} {i3 : Int32} {i4 : Int32} {i5 : Int32} {i6 : Int32} {a7 : Nat} {t0 : Int32} {res : (Int32 × zm_S) ⊕ ((Unit) × zm_S)} {out : (Int32 × zm_S)}   (hf : ∀ o, res = .inl o → o = out) (hk : ∀ (S' : zm_S), res = .inr ((), S') → zw p l e R s m args below meth c (vx_MQ below (zm_Qc zk_E V (zo_i out)) (zm_XC zk_E V zo_x) args s mc ms (fun q => V.2.2.2.1 ≤ q)) 10 zk_E V mc ms 157 [] [] S' rc rs) (hrec : ∀ (i6' : Int32) (S : zm_S), k a0 i1 i2 i3 i4 i5 i6' S = some res → zw p l e R s m args below meth c (vx_MQ below (zm_Qc zk_E V (zo_i out)) (zm_XC zk_E V zo_x) args s mc ms (fun q => V.2.2.2.1 ≤ q)) 10 zk_E V mc ms 3 [(0, .ref a0), (1, .int i1), (2, .int i2), (3, .int i3), (4, .int i4), (5, .int i5), (6, .int i6')] [] S rc rs) {S : zm_S} (h : zf_X8_liesAlong_J51 N k a0 i1 i2 i3 i4 i5 i6 a7 t0 S = some res) : zw p l e R s m args below meth c (vx_MQ below (zm_Qc zk_E V (zo_i out)) (zm_XC zk_E V zo_x) args s mc ms (fun q => V.2.2.2.1 ≤ q)) 10 zk_E V mc ms 51 [(0, .ref a0), (1, .int i1), (2, .int i2), (3, .int i3), (4, .int i4), (5, .int i5), (6, .int i6), (7, .ref a7)] [.int t0] S rc rs := by
  unfold zf_X8_liesAlong_J51 at h
  refine zw_istore hX dX8_liesAlong_51 (by decide) ?_
  refine zw_iload_n hX dX8_liesAlong_53 rfl ?_
  refine zw_iload hX dX8_liesAlong_54 rfl ?_
  refine zw_icmp_ne (tgt := 82) hX dX8_liesAlong_56 (by decide) (fun c56 => ?_) (fun c56 => ?_)
  · rw [if_neg c56] at h
    refine zw_sub (lv' := [(0, .ref a0), (1, .int i1), (2, .int i2), (3, .int i3), (4, .int i4), (5, .int i5), (6, .int i6), (7, .ref a7), (8, .int t0)]) (List.forall_mem_cons.mpr ⟨rfl, (List.forall_mem_cons.mpr ⟨rfl, (List.forall_mem_cons.mpr ⟨rfl, (List.forall_mem_cons.mpr ⟨rfl, (List.forall_mem_cons.mpr ⟨rfl, (List.forall_mem_cons.mpr ⟨rfl, (List.forall_mem_cons.mpr ⟨rfl, (List.forall_mem_cons.mpr ⟨rfl, (List.forall_mem_cons.mpr ⟨rfl, zs_nil⟩)⟩)⟩)⟩)⟩)⟩)⟩)⟩)⟩) ?_
    exact zt_X8_liesAlong_J82 hX hr hR hd hf hk hrec h
  · rw [if_pos c56] at h
    refine zw_aload hX dX8_liesAlong_59 rfl ?_
    refine zw_iconst (v := (0 : Int32)) hX dX8_liesAlong_61 (by decide) ?_
    obtain ⟨v8, g, h⟩ := zb_some h
    refine zw_xi hX dX8_liesAlong_62 g ?_
    refine zw_aload hX dX8_liesAlong_63 rfl ?_
    refine zw_iconst (v := (2 : Int32)) hX dX8_liesAlong_65 (by decide) ?_
    obtain ⟨v9, g, h⟩ := zb_some h
    refine zw_xi hX dX8_liesAlong_66 g ?_
    refine zw_icmp_ne (tgt := 82) hX dX8_liesAlong_67 (by decide) (fun c67 => ?_) (fun c67 => ?_)
    · rw [if_neg c67] at h
      refine zw_sub (lv' := [(0, .ref a0), (1, .int i1), (2, .int i2), (3, .int i3), (4, .int i4), (5, .int i5), (6, .int i6), (7, .ref a7), (8, .int t0)]) (List.forall_mem_cons.mpr ⟨rfl, (List.forall_mem_cons.mpr ⟨rfl, (List.forall_mem_cons.mpr ⟨rfl, (List.forall_mem_cons.mpr ⟨rfl, (List.forall_mem_cons.mpr ⟨rfl, (List.forall_mem_cons.mpr ⟨rfl, (List.forall_mem_cons.mpr ⟨rfl, (List.forall_mem_cons.mpr ⟨rfl, (List.forall_mem_cons.mpr ⟨rfl, zs_nil⟩)⟩)⟩)⟩)⟩)⟩)⟩)⟩)⟩) ?_
      exact zt_X8_liesAlong_J82 hX hr hR hd hf hk hrec h
    · rw [if_pos c67] at h
      refine zw_iload_n hX dX8_liesAlong_70 rfl ?_
      refine zw_aload hX dX8_liesAlong_71 rfl ?_
      refine zw_iconst (v := (0 : Int32)) hX dX8_liesAlong_73 (by decide) ?_
      obtain ⟨v10, g, h⟩ := zb_some h
      refine zw_xi hX dX8_liesAlong_74 g ?_
      refine zw_icmp_ne (tgt := 82) hX dX8_liesAlong_75 (by decide) (fun c75 => ?_) (fun c75 => ?_)
      · rw [if_neg c75] at h
        refine zw_sub (lv' := [(0, .ref a0), (1, .int i1), (2, .int i2), (3, .int i3), (4, .int i4), (5, .int i5), (6, .int i6), (7, .ref a7), (8, .int t0)]) (List.forall_mem_cons.mpr ⟨rfl, (List.forall_mem_cons.mpr ⟨rfl, (List.forall_mem_cons.mpr ⟨rfl, (List.forall_mem_cons.mpr ⟨rfl, (List.forall_mem_cons.mpr ⟨rfl, (List.forall_mem_cons.mpr ⟨rfl, (List.forall_mem_cons.mpr ⟨rfl, (List.forall_mem_cons.mpr ⟨rfl, (List.forall_mem_cons.mpr ⟨rfl, zs_nil⟩)⟩)⟩)⟩)⟩)⟩)⟩)⟩)⟩) ?_
        exact zt_X8_liesAlong_J82 hX hr hR hd hf hk hrec h
      · rw [if_pos c75] at h
        refine zw_iconst (v := (1 : Int32)) hX dX8_liesAlong_78 (by decide) ?_
        refine zw_goto (tgt := 83) hX dX8_liesAlong_79 (by decide) ?_
        refine zw_sub (lv' := [(0, .ref a0), (1, .int i1), (2, .int i2), (3, .int i3), (4, .int i4), (5, .int i5), (6, .int i6), (7, .ref a7), (8, .int t0)]) (List.forall_mem_cons.mpr ⟨rfl, (List.forall_mem_cons.mpr ⟨rfl, (List.forall_mem_cons.mpr ⟨rfl, (List.forall_mem_cons.mpr ⟨rfl, (List.forall_mem_cons.mpr ⟨rfl, (List.forall_mem_cons.mpr ⟨rfl, (List.forall_mem_cons.mpr ⟨rfl, (List.forall_mem_cons.mpr ⟨rfl, (List.forall_mem_cons.mpr ⟨rfl, zs_nil⟩)⟩)⟩)⟩)⟩)⟩)⟩)⟩)⟩) ?_
        exact zt_X8_liesAlong_J83 hX hr hR hd hf hk hrec h
set_option maxHeartbeats 4000000 in
set_option maxRecDepth 100000 in
theorem zt_X8_liesAlong_J50 {p : Program} {l : Launch} {e : Env} {R : Room} {s : State} {m : MethodId} {args : Array Value} {below : List Frame} {meth : Method} {c : Code} {V : zm_V} {mc ms d rc rs : Nat} (hX : zm_X p R s m args meth c RX8 "liesAlong" cX8_liesAlong 10 zk_E V mc ms) (hr : meth.sig.returnType = (some .boolean)) (hR : R.frames = d ∧ R.locals = 64 * d) (hd : 2 ≤ d) {N : Nat} {k : Nat → Int32 → Int32 → Int32 → Int32 → Int32 → Int32 → zm_S → Option ((Int32 × zm_S) ⊕ ((Unit) × zm_S))} {a0 : Nat} {i1 : Int32} {i2 : Int32} {i3 : Int32} {i4 : Int32} {i5 : Int32} {i6 : Int32} {a7 : Nat} {res : (Int32 × zm_S) ⊕ ((Unit) × zm_S)} {out : (Int32 × zm_S)}   (hf : ∀ o, res = .inl o → o = out) (hk : ∀ (S' : zm_S), res = .inr ((), S') → zw p l e R s m args below meth c (vx_MQ below (zm_Qc zk_E V (zo_i out)) (zm_XC zk_E V zo_x) args s mc ms (fun q => V.2.2.2.1 ≤ q)) 10 zk_E V mc ms 157 [] [] S' rc rs) (hrec : ∀ (i6' : Int32) (S : zm_S), k a0 i1 i2 i3 i4 i5 i6' S = some res → zw p l e R s m args below meth c (vx_MQ below (zm_Qc zk_E V (zo_i out)) (zm_XC zk_E V zo_x) args s mc ms (fun q => V.2.2.2.1 ≤ q)) 10 zk_E V mc ms 3 [(0, .ref a0), (1, .int i1), (2, .int i2), (3, .int i3), (4, .int i4), (5, .int i5), (6, .int i6')] [] S rc rs) {S : zm_S} (h : zf_X8_liesAlong_J50 N k a0 i1 i2 i3 i4 i5 i6 a7 S = some res) : zw p l e R s m args below meth c (vx_MQ below (zm_Qc zk_E V (zo_i out)) (zm_XC zk_E V zo_x) args s mc ms (fun q => V.2.2.2.1 ≤ q)) 10 zk_E V mc ms 50 [(0, .ref a0), (1, .int i1), (2, .int i2), (3, .int i3), (4, .int i4), (5, .int i5), (6, .int i6), (7, .ref a7)] [] S rc rs := by
  unfold zf_X8_liesAlong_J50 at h
  refine zw_iconst (v := (0 : Int32)) hX dX8_liesAlong_50 (by decide) ?_
  refine zw_sub (lv' := [(0, .ref a0), (1, .int i1), (2, .int i2), (3, .int i3), (4, .int i4), (5, .int i5), (6, .int i6), (7, .ref a7)]) (List.forall_mem_cons.mpr ⟨rfl, (List.forall_mem_cons.mpr ⟨rfl, (List.forall_mem_cons.mpr ⟨rfl, (List.forall_mem_cons.mpr ⟨rfl, (List.forall_mem_cons.mpr ⟨rfl, (List.forall_mem_cons.mpr ⟨rfl, (List.forall_mem_cons.mpr ⟨rfl, (List.forall_mem_cons.mpr ⟨rfl, zs_nil⟩)⟩)⟩)⟩)⟩)⟩)⟩)⟩) ?_
  exact zt_X8_liesAlong_J51 hX hr hR hd hf hk hrec h
set_option maxHeartbeats 4000000 in
set_option maxRecDepth 100000 in
theorem zt_X8_liesAlong_L3 {p : Program} {l : Launch} {e : Env} {R : Room} {s : State} {m : MethodId} {args : Array Value} {below : List Frame} {meth : Method} {c : Code} {V : zm_V} {mc ms d rc rs : Nat} (hX : zm_X p R s m args meth c RX8 "liesAlong" cX8_liesAlong 10 zk_E V mc ms) (hr : meth.sig.returnType = (some .boolean)) (hR : R.frames = d ∧ R.locals = 64 * d) (hd : 2 ≤ d) {N : Nat} {res : (Int32 × zm_S) ⊕ ((Unit) × zm_S)} {out : (Int32 × zm_S)} (a0 : Nat) (i1 : Int32) (i2 : Int32) (i3 : Int32) (i4 : Int32) (i5 : Int32) (hf : ∀ o, res = .inl o → o = out) (hk : ∀ (S' : zm_S), res = .inr ((), S') → zw p l e R s m args below meth c (vx_MQ below (zm_Qc zk_E V (zo_i out)) (zm_XC zk_E V zo_x) args s mc ms (fun q => V.2.2.2.1 ≤ q)) 10 zk_E V mc ms 157 [] [] S' rc rs) : ∀ (n : Nat) (i6 : Int32) (S : zm_S), zf_X8_liesAlong_L3 N n a0 i1 i2 i3 i4 i5 i6 S = some res → zw p l e R s m args below meth c (vx_MQ below (zm_Qc zk_E V (zo_i out)) (zm_XC zk_E V zo_x) args s mc ms (fun q => V.2.2.2.1 ≤ q)) 10 zk_E V mc ms 3 [(0, .ref a0), (1, .int i1), (2, .int i2), (3, .int i3), (4, .int i4), (5, .int i5), (6, .int i6)] [] S rc rs := by
  intro n
  induction n with
  | zero => intro i6 S h; cases h
  | succ n ih =>
    intro i6 S h
    rw [zf_X8_liesAlong_L3] at h
    refine zw_iload hX dX8_liesAlong_3 rfl ?_
    refine zw_aload_n hX dX8_liesAlong_5 rfl ?_
    obtain ⟨v1, g, h⟩ := zb_some h
    refine zw_geti hX zl_X8_32 dX8_liesAlong_6 g ?_
    refine zw_icmp_ge (tgt := 157) hX dX8_liesAlong_9 (by decide) (fun c9 => ?_) (fun c9 => ?_)
    · rw [if_pos c9] at h
      refine zw_sub (lv' := []) zs_nil ?_
      exact hk  _ (Option.some.inj h).symm
    · rw [if_neg c9] at h
      refine zw_aload_n hX dX8_liesAlong_12 rfl ?_
      obtain ⟨b2, g, h⟩ := zb_some h
      refine zw_getr hX zl_X8_13 dX8_liesAlong_13 g ?_
      refine zw_iload hX dX8_liesAlong_16 rfl ?_
      obtain ⟨b3, g, h⟩ := zb_some h
      refine zw_xr hX dX8_liesAlong_18 g ?_
      refine zw_astore hX dX8_liesAlong_19 (by decide) ?_
      refine zw_iload_n hX dX8_liesAlong_21 rfl ?_
      refine zw_iload hX dX8_liesAlong_22 rfl ?_
      refine zw_icmp_ne (tgt := 50) hX dX8_liesAlong_24 (by decide) (fun c24 => ?_) (fun c24 => ?_)
      · rw [if_neg c24] at h
        refine zw_sub (lv' := [(0, .ref a0), (1, .int i1), (2, .int i2), (3, .int i3), (4, .int i4), (5, .int i5), (6, .int i6), (7, .ref b3)]) (List.forall_mem_cons.mpr ⟨rfl, (List.forall_mem_cons.mpr ⟨rfl, (List.forall_mem_cons.mpr ⟨rfl, (List.forall_mem_cons.mpr ⟨rfl, (List.forall_mem_cons.mpr ⟨rfl, (List.forall_mem_cons.mpr ⟨rfl, (List.forall_mem_cons.mpr ⟨rfl, (List.forall_mem_cons.mpr ⟨rfl, zs_nil⟩)⟩)⟩)⟩)⟩)⟩)⟩)⟩) ?_
        exact zt_X8_liesAlong_J50 hX hr hR hd hf hk ih h
      · rw [if_pos c24] at h
        refine zw_aload hX dX8_liesAlong_27 rfl ?_
        refine zw_iconst (v := (1 : Int32)) hX dX8_liesAlong_29 (by decide) ?_
        obtain ⟨v11, g, h⟩ := zb_some h
        refine zw_xi hX dX8_liesAlong_30 g ?_
        refine zw_aload hX dX8_liesAlong_31 rfl ?_
        refine zw_iconst (v := (3 : Int32)) hX dX8_liesAlong_33 (by decide) ?_
        obtain ⟨v12, g, h⟩ := zb_some h
        refine zw_xi hX dX8_liesAlong_34 g ?_
        refine zw_icmp_ne (tgt := 50) hX dX8_liesAlong_35 (by decide) (fun c35 => ?_) (fun c35 => ?_)
        · rw [if_neg c35] at h
          refine zw_sub (lv' := [(0, .ref a0), (1, .int i1), (2, .int i2), (3, .int i3), (4, .int i4), (5, .int i5), (6, .int i6), (7, .ref b3)]) (List.forall_mem_cons.mpr ⟨rfl, (List.forall_mem_cons.mpr ⟨rfl, (List.forall_mem_cons.mpr ⟨rfl, (List.forall_mem_cons.mpr ⟨rfl, (List.forall_mem_cons.mpr ⟨rfl, (List.forall_mem_cons.mpr ⟨rfl, (List.forall_mem_cons.mpr ⟨rfl, (List.forall_mem_cons.mpr ⟨rfl, zs_nil⟩)⟩)⟩)⟩)⟩)⟩)⟩)⟩) ?_
          exact zt_X8_liesAlong_J50 hX hr hR hd hf hk ih h
        · rw [if_pos c35] at h
          refine zw_iload_n hX dX8_liesAlong_38 rfl ?_
          refine zw_aload hX dX8_liesAlong_39 rfl ?_
          refine zw_iconst (v := (1 : Int32)) hX dX8_liesAlong_41 (by decide) ?_
          obtain ⟨v13, g, h⟩ := zb_some h
          refine zw_xi hX dX8_liesAlong_42 g ?_
          refine zw_icmp_ne (tgt := 50) hX dX8_liesAlong_43 (by decide) (fun c43 => ?_) (fun c43 => ?_)
          · rw [if_neg c43] at h
            refine zw_sub (lv' := [(0, .ref a0), (1, .int i1), (2, .int i2), (3, .int i3), (4, .int i4), (5, .int i5), (6, .int i6), (7, .ref b3)]) (List.forall_mem_cons.mpr ⟨rfl, (List.forall_mem_cons.mpr ⟨rfl, (List.forall_mem_cons.mpr ⟨rfl, (List.forall_mem_cons.mpr ⟨rfl, (List.forall_mem_cons.mpr ⟨rfl, (List.forall_mem_cons.mpr ⟨rfl, (List.forall_mem_cons.mpr ⟨rfl, (List.forall_mem_cons.mpr ⟨rfl, zs_nil⟩)⟩)⟩)⟩)⟩)⟩)⟩)⟩) ?_
            exact zt_X8_liesAlong_J50 hX hr hR hd hf hk ih h
          · rw [if_pos c43] at h
            refine zw_iconst (v := (1 : Int32)) hX dX8_liesAlong_46 (by decide) ?_
            refine zw_goto (tgt := 51) hX dX8_liesAlong_47 (by decide) ?_
            refine zw_sub (lv' := [(0, .ref a0), (1, .int i1), (2, .int i2), (3, .int i3), (4, .int i4), (5, .int i5), (6, .int i6), (7, .ref b3)]) (List.forall_mem_cons.mpr ⟨rfl, (List.forall_mem_cons.mpr ⟨rfl, (List.forall_mem_cons.mpr ⟨rfl, (List.forall_mem_cons.mpr ⟨rfl, (List.forall_mem_cons.mpr ⟨rfl, (List.forall_mem_cons.mpr ⟨rfl, (List.forall_mem_cons.mpr ⟨rfl, (List.forall_mem_cons.mpr ⟨rfl, zs_nil⟩)⟩)⟩)⟩)⟩)⟩)⟩)⟩) ?_
            exact zt_X8_liesAlong_J51 hX hr hR hd hf hk ih h
set_option maxHeartbeats 4000000 in
set_option maxRecDepth 100000 in
theorem zt_X8_liesAlong {l : Launch} {V : zm_V} {N : Nat} {S : zm_S} {out : (Int32 × zm_S)} {d : Nat} {a0 : Nat} {i1 : Int32} {i2 : Int32} {i3 : Int32} {i4 : Int32} {i5 : Int32} (hd : 2 ≤ d) (h : zf_X8_liesAlong N a0 i1 i2 i3 i4 i5 S = some out) : zm_Met l zk_E V yX8_liesAlong (.code yX8_liesAlong cX8_liesAlong 10 (some .boolean)) d [.ref a0, .int i1, .int i2, .int i3, .int i4, .int i5] S 0 0 (zo_i out) zo_x := by
  refine zm_of (by decide +kernel) (Nat.le_of_ble_eq_true rfl) ?_
  intro p e R s m args below meth c hRR hX hr hxt
  have hR : R.frames = d ∧ R.locals = 64 * d := by rw [hRR]; exact ⟨rfl, rfl⟩
  have hX : zm_X p R s m args meth c RX8 "liesAlong" cX8_liesAlong 10 zk_E V 0 0 := hX
  unfold zf_X8_liesAlong at h
  refine zw_sub (lv' := [(0, .ref a0), (1, .int i1), (2, .int i2), (3, .int i3), (4, .int i4), (5, .int i5)]) (List.forall_mem_cons.mpr ⟨rfl, (List.forall_mem_cons.mpr ⟨rfl, (List.forall_mem_cons.mpr ⟨rfl, (List.forall_mem_cons.mpr ⟨rfl, (List.forall_mem_cons.mpr ⟨rfl, (List.forall_mem_cons.mpr ⟨rfl, zs_nil⟩)⟩)⟩)⟩)⟩)⟩) ?_
  refine zw_iconst (v := (0 : Int32)) hX dX8_liesAlong_0 (by decide) ?_
  refine zw_istore hX dX8_liesAlong_1 (by decide) ?_
  obtain ⟨r, g, h⟩ := zb_some h
  refine zw_sub (lv' := [(0, .ref a0), (1, .int i1), (2, .int i2), (3, .int i3), (4, .int i4), (5, .int i5), (6, .int (0 : Int32))]) (List.forall_mem_cons.mpr ⟨rfl, (List.forall_mem_cons.mpr ⟨rfl, (List.forall_mem_cons.mpr ⟨rfl, (List.forall_mem_cons.mpr ⟨rfl, (List.forall_mem_cons.mpr ⟨rfl, (List.forall_mem_cons.mpr ⟨rfl, (List.forall_mem_cons.mpr ⟨rfl, zs_nil⟩)⟩)⟩)⟩)⟩)⟩)⟩) ?_
  refine zt_X8_liesAlong_L3 hX hr hR hd (res := r) (out := out) a0 i1 i2 i3 i4 i5 ?_ ?_ N _ _ g
  · intro o ho
    subst ho
    exact Option.some.inj h
  · intro  S14 hx
    subst hx
    try dsimp only at h
    refine zw_iconst (v := (0 : Int32)) hX dX8_liesAlong_157 (by decide) ?_
    obtain rfl := Option.some.inj h
    exact zw_iret hX hr dX8_liesAlong_158 rfl ⟨rfl, rfl⟩
set_option maxHeartbeats 4000000 in
set_option maxRecDepth 100000 in
theorem zt_X8_setEnds {l : Launch} {V : zm_V} {N : Nat} {S : zm_S} {out : (Unit × zm_S)} {d : Nat} {a0 : Nat} {i1 : Int32} {i2 : Int32} {i3 : Int32} {i4 : Int32} {i5 : Int32} (hd : 1 ≤ d) (h : zf_X8_setEnds N a0 i1 i2 i3 i4 i5 S = some out) : zm_Met l zk_E V yX8_setEnds (.code yX8_setEnds cX8_setEnds 7 none) d [.ref a0, .int i1, .int i2, .int i3, .int i4, .int i5] S 0 0 (zo_v out) zo_x := by
  refine zm_of (by decide +kernel) (Nat.le_of_ble_eq_true rfl) ?_
  intro p e R s m args below meth c hRR hX hr hxt
  have hR : R.frames = d ∧ R.locals = 64 * d := by rw [hRR]; exact ⟨rfl, rfl⟩
  have hX : zm_X p R s m args meth c RX8 "setEnds" cX8_setEnds 7 zk_E V 0 0 := hX
  unfold zf_X8_setEnds at h
  refine zw_sub (lv' := [(0, .ref a0), (1, .int i1), (2, .int i2), (3, .int i3), (4, .int i4), (5, .int i5)]) (List.forall_mem_cons.mpr ⟨rfl, (List.forall_mem_cons.mpr ⟨rfl, (List.forall_mem_cons.mpr ⟨rfl, (List.forall_mem_cons.mpr ⟨rfl, (List.forall_mem_cons.mpr ⟨rfl, (List.forall_mem_cons.mpr ⟨rfl, zs_nil⟩)⟩)⟩)⟩)⟩)⟩) ?_
  refine zw_aload_n hX dX8_setEnds_0 rfl ?_
  obtain ⟨b1, g, h⟩ := zb_some h
  refine zw_getr hX zl_X8_13 dX8_setEnds_1 g ?_
  refine zw_iload_n hX dX8_setEnds_4 rfl ?_
  obtain ⟨b2, g, h⟩ := zb_some h
  refine zw_xr hX dX8_setEnds_5 g ?_
  refine zw_astore hX dX8_setEnds_6 (by decide) ?_
  refine zw_aload hX dX8_setEnds_8 rfl ?_
  refine zw_iconst (v := (0 : Int32)) hX dX8_setEnds_10 (by decide) ?_
  refine zw_iload_n hX dX8_setEnds_11 rfl ?_
  obtain ⟨S3, g, h⟩ := zb_some h
  refine zw_si hX dX8_setEnds_12 g ?_
  refine zw_aload hX dX8_setEnds_13 rfl ?_
  refine zw_iconst (v := (1 : Int32)) hX dX8_setEnds_15 (by decide) ?_
  refine zw_iload_n hX dX8_setEnds_16 rfl ?_
  obtain ⟨S4, g, h⟩ := zb_some h
  refine zw_si hX dX8_setEnds_17 g ?_
  refine zw_aload hX dX8_setEnds_18 rfl ?_
  refine zw_iconst (v := (2 : Int32)) hX dX8_setEnds_20 (by decide) ?_
  refine zw_iload hX dX8_setEnds_21 rfl ?_
  obtain ⟨S5, g, h⟩ := zb_some h
  refine zw_si hX dX8_setEnds_23 g ?_
  refine zw_aload hX dX8_setEnds_24 rfl ?_
  refine zw_iconst (v := (3 : Int32)) hX dX8_setEnds_26 (by decide) ?_
  refine zw_iload hX dX8_setEnds_27 rfl ?_
  obtain ⟨S6, g, h⟩ := zb_some h
  refine zw_si hX dX8_setEnds_29 g ?_
  obtain rfl := Option.some.inj h
  exact zw_vret hX hr dX8_setEnds_30 ⟨rfl, rfl⟩
set_option maxHeartbeats 4000000 in
set_option maxRecDepth 100000 in
theorem zt_X8_addLine {l : Launch} {V : zm_V} {N : Nat} {S : zm_S} {out : (Int32 × zm_S)} {d : Nat} {a0 : Nat} {i1 : Int32} {i2 : Int32} {i3 : Int32} {i4 : Int32} (hd : 3 ≤ d) (h : zf_X8_addLine N a0 i1 i2 i3 i4 S = some out) : zm_Met l zk_E V yX8_addLine (.code yX8_addLine cX8_addLine 9 (some .int)) d [.ref a0, .int i1, .int i2, .int i3, .int i4] S 0 0 (zo_i out) zo_x := by
  refine zm_of (by decide +kernel) (Nat.le_of_ble_eq_true rfl) ?_
  intro p e R s m args below meth c hRR hX hr hxt
  have hR : R.frames = d ∧ R.locals = 64 * d := by rw [hRR]; exact ⟨rfl, rfl⟩
  have hX : zm_X p R s m args meth c RX8 "addLine" cX8_addLine 9 zk_E V 0 0 := hX
  unfold zf_X8_addLine at h
  refine zw_sub (lv' := [(0, .ref a0), (1, .int i1), (2, .int i2), (3, .int i3), (4, .int i4)]) (List.forall_mem_cons.mpr ⟨rfl, (List.forall_mem_cons.mpr ⟨rfl, (List.forall_mem_cons.mpr ⟨rfl, (List.forall_mem_cons.mpr ⟨rfl, (List.forall_mem_cons.mpr ⟨rfl, zs_nil⟩)⟩)⟩)⟩)⟩) ?_
  refine zw_iload_n hX dX8_addLine_0 rfl ?_
  refine zw_iload_n hX dX8_addLine_1 rfl ?_
  refine zw_mmin hX zl_X8_23 dX8_addLine_2 (Nat.le_of_ble_eq_true rfl) ⟨by omega, by omega⟩ ?_
  refine zw_istore hX dX8_addLine_5 (by decide) ?_
  refine zw_iload_n hX dX8_addLine_7 rfl ?_
  refine zw_iload hX dX8_addLine_8 rfl ?_
  refine zw_mmin hX zl_X8_23 dX8_addLine_10 (Nat.le_of_ble_eq_true rfl) ⟨by omega, by omega⟩ ?_
  refine zw_istore hX dX8_addLine_13 (by decide) ?_
  refine zw_iload_n hX dX8_addLine_15 rfl ?_
  refine zw_iload_n hX dX8_addLine_16 rfl ?_
  refine zw_mmax hX zl_X8_29 dX8_addLine_17 (Nat.le_of_ble_eq_true rfl) ⟨by omega, by omega⟩ ?_
  refine zw_istore hX dX8_addLine_20 (by decide) ?_
  refine zw_iload_n hX dX8_addLine_22 rfl ?_
  refine zw_iload hX dX8_addLine_23 rfl ?_
  refine zw_mmax hX zl_X8_29 dX8_addLine_25 (Nat.le_of_ble_eq_true rfl) ⟨by omega, by omega⟩ ?_
  refine zw_istore hX dX8_addLine_28 (by decide) ?_
  refine zw_aload_n hX dX8_addLine_30 rfl ?_
  obtain ⟨v1, g, h⟩ := zb_some h
  refine zw_geti hX zl_X8_32 dX8_addLine_31 g ?_
  refine zw_bipush (v := (20 : Int32)) hX dX8_addLine_34 (by decide) ?_
  refine zw_icmp_ge (tgt := 55) hX dX8_addLine_36 (by decide) (fun c36 => ?_) (fun c36 => ?_)
  · rw [if_pos c36] at h
    refine zw_iconst (v := (-1 : Int32)) hX dX8_addLine_55 (by decide) ?_
    obtain rfl := Option.some.inj h
    exact zw_iret hX hr dX8_addLine_56 rfl ⟨rfl, rfl⟩
  · rw [if_neg c36] at h
    refine zw_aload_n hX dX8_addLine_39 rfl ?_
    refine zw_iconst (v := (-1 : Int32)) hX dX8_addLine_40 (by decide) ?_
    refine zw_iload hX dX8_addLine_41 rfl ?_
    refine zw_iload hX dX8_addLine_43 rfl ?_
    refine zw_iload hX dX8_addLine_45 rfl ?_
    refine zw_iload hX dX8_addLine_47 rfl ?_
    obtain ⟨_, gi, h⟩ := zb_some h
    obtain ⟨r3, g, h⟩ := zb_some h
    refine zc_Vi (as := [.int (-1 : Int32), .int (zj_min i1 i3), .int (zj_min i2 i4), .int (zj_max i1 i3), .int (zj_max i2 i4)]) hX gi (zt_X8_liesAlong (d := d - 1) (by omega) g) zl_X8_36 rfl dX8_addLine_49 ⟨rfl, rfl, Nat.le_of_ble_eq_true rfl⟩ ⟨by omega, by omega⟩ ?_
    refine zw_if_eq (tgt := 57) hX dX8_addLine_52 (by decide) (fun c52 => ?_) (fun c52 => ?_)
    · rw [if_pos c52] at h
      refine zw_aload_n hX dX8_addLine_57 rfl ?_
      refine zw_aload_n hX dX8_addLine_58 rfl ?_
      obtain ⟨v4, g, h⟩ := zb_some h
      refine zw_geti hX zl_X8_32 dX8_addLine_59 g ?_
      refine zw_iload hX dX8_addLine_62 rfl ?_
      refine zw_iload hX dX8_addLine_64 rfl ?_
      refine zw_iload hX dX8_addLine_66 rfl ?_
      refine zw_iload hX dX8_addLine_68 rfl ?_
      obtain ⟨_, gi, h⟩ := zb_some h
      obtain ⟨r6, g, h⟩ := zb_some h
      refine zc_Vv (as := [.int v4, .int (zj_min i1 i3), .int (zj_min i2 i4), .int (zj_max i1 i3), .int (zj_max i2 i4)]) hX gi (zt_X8_setEnds (d := d - 1) (by omega) g) zl_X8_40 rfl dX8_addLine_70 ⟨rfl, rfl, Nat.le_of_ble_eq_true rfl⟩ ⟨by omega, by omega⟩ ?_
      refine zw_aload_n hX dX8_addLine_73 rfl ?_
      refine zw_dup hX dX8_addLine_74 rfl ?_
      obtain ⟨v7, g, h⟩ := zb_some h
      refine zw_geti hX zl_X8_32 dX8_addLine_75 g ?_
      refine zw_iconst (v := (1 : Int32)) hX dX8_addLine_78 (by decide) ?_
      refine zw_iadd hX dX8_addLine_79 ?_
      obtain ⟨S8, g, h⟩ := zb_some h
      refine zw_putv hX zl_X8_32 zt_8_0 dX8_addLine_80 rfl rfl g ?_
      refine zw_aload_n hX dX8_addLine_83 rfl ?_
      obtain ⟨v9, g, h⟩ := zb_some h
      refine zw_geti hX zl_X8_32 dX8_addLine_84 g ?_
      refine zw_iconst (v := (1 : Int32)) hX dX8_addLine_87 (by decide) ?_
      refine zw_isub hX dX8_addLine_88 ?_
      obtain rfl := Option.some.inj h
      exact zw_iret hX hr dX8_addLine_89 rfl ⟨rfl, rfl⟩
    · rw [if_neg c52] at h
      refine zw_iconst (v := (-1 : Int32)) hX dX8_addLine_55 (by decide) ?_
      obtain rfl := Option.some.inj h
      exact zw_iret hX hr dX8_addLine_56 rfl ⟨rfl, rfl⟩
set_option maxHeartbeats 4000000 in
set_option maxRecDepth 100000 in
theorem zt_X8_moveLine {l : Launch} {V : zm_V} {N : Nat} {S : zm_S} {out : (Int32 × zm_S)} {d : Nat} {a0 : Nat} {i1 : Int32} {i2 : Int32} {i3 : Int32} (hd : 3 ≤ d) (h : zf_X8_moveLine N a0 i1 i2 i3 S = some out) : zm_Met l zk_E V yX8_moveLine (.code yX8_moveLine cX8_moveLine 5 (some .boolean)) d [.ref a0, .int i1, .int i2, .int i3] S 0 0 (zo_i out) zo_x := by
  refine zm_of (by decide +kernel) (Nat.le_of_ble_eq_true rfl) ?_
  intro p e R s m args below meth c hRR hX hr hxt
  have hR : R.frames = d ∧ R.locals = 64 * d := by rw [hRR]; exact ⟨rfl, rfl⟩
  have hX : zm_X p R s m args meth c RX8 "moveLine" cX8_moveLine 5 zk_E V 0 0 := hX
  unfold zf_X8_moveLine at h
  refine zw_sub (lv' := [(0, .ref a0), (1, .int i1), (2, .int i2), (3, .int i3)]) (List.forall_mem_cons.mpr ⟨rfl, (List.forall_mem_cons.mpr ⟨rfl, (List.forall_mem_cons.mpr ⟨rfl, (List.forall_mem_cons.mpr ⟨rfl, zs_nil⟩)⟩)⟩)⟩) ?_
  refine zw_aload_n hX dX8_moveLine_0 rfl ?_
  obtain ⟨b1, g, h⟩ := zb_some h
  refine zw_getr hX zl_X8_13 dX8_moveLine_1 g ?_
  refine zw_iload_n hX dX8_moveLine_4 rfl ?_
  obtain ⟨b2, g, h⟩ := zb_some h
  refine zw_xr hX dX8_moveLine_5 g ?_
  refine zw_astore hX dX8_moveLine_6 (by decide) ?_
  refine zw_aload_n hX dX8_moveLine_8 rfl ?_
  refine zw_iload_n hX dX8_moveLine_9 rfl ?_
  refine zw_aload hX dX8_moveLine_10 rfl ?_
  refine zw_iconst (v := (0 : Int32)) hX dX8_moveLine_12 (by decide) ?_
  obtain ⟨v3, g, h⟩ := zb_some h
  refine zw_xi hX dX8_moveLine_13 g ?_
  refine zw_iload_n hX dX8_moveLine_14 rfl ?_
  refine zw_iadd hX dX8_moveLine_15 ?_
  refine zw_aload hX dX8_moveLine_16 rfl ?_
  refine zw_iconst (v := (1 : Int32)) hX dX8_moveLine_18 (by decide) ?_
  obtain ⟨v4, g, h⟩ := zb_some h
  refine zw_xi hX dX8_moveLine_19 g ?_
  refine zw_iload_n hX dX8_moveLine_20 rfl ?_
  refine zw_iadd hX dX8_moveLine_21 ?_
  refine zw_aload hX dX8_moveLine_22 rfl ?_
  refine zw_iconst (v := (2 : Int32)) hX dX8_moveLine_24 (by decide) ?_
  obtain ⟨v5, g, h⟩ := zb_some h
  refine zw_xi hX dX8_moveLine_25 g ?_
  refine zw_iload_n hX dX8_moveLine_26 rfl ?_
  refine zw_iadd hX dX8_moveLine_27 ?_
  refine zw_aload hX dX8_moveLine_28 rfl ?_
  refine zw_iconst (v := (3 : Int32)) hX dX8_moveLine_30 (by decide) ?_
  obtain ⟨v6, g, h⟩ := zb_some h
  refine zw_xi hX dX8_moveLine_31 g ?_
  refine zw_iload_n hX dX8_moveLine_32 rfl ?_
  refine zw_iadd hX dX8_moveLine_33 ?_
  obtain ⟨_, gi, h⟩ := zb_some h
  obtain ⟨r8, g, h⟩ := zb_some h
  refine zc_Vi (as := [.int i1, .int (v3 + i2), .int (v4 + i3), .int (v5 + i2), .int (v6 + i3)]) hX gi (zt_X8_liesAlong (d := d - 1) (by omega) g) zl_X8_36 rfl dX8_moveLine_34 ⟨rfl, rfl, Nat.le_of_ble_eq_true rfl⟩ ⟨by omega, by omega⟩ ?_
  refine zw_if_eq (tgt := 42) hX dX8_moveLine_37 (by decide) (fun c37 => ?_) (fun c37 => ?_)
  · rw [if_pos c37] at h
    refine zw_aload_n hX dX8_moveLine_42 rfl ?_
    refine zw_iload_n hX dX8_moveLine_43 rfl ?_
    refine zw_aload hX dX8_moveLine_44 rfl ?_
    refine zw_iconst (v := (0 : Int32)) hX dX8_moveLine_46 (by decide) ?_
    obtain ⟨v9, g, h⟩ := zb_some h
    refine zw_xi hX dX8_moveLine_47 g ?_
    refine zw_iload_n hX dX8_moveLine_48 rfl ?_
    refine zw_iadd hX dX8_moveLine_49 ?_
    refine zw_aload hX dX8_moveLine_50 rfl ?_
    refine zw_iconst (v := (1 : Int32)) hX dX8_moveLine_52 (by decide) ?_
    obtain ⟨v10, g, h⟩ := zb_some h
    refine zw_xi hX dX8_moveLine_53 g ?_
    refine zw_iload_n hX dX8_moveLine_54 rfl ?_
    refine zw_iadd hX dX8_moveLine_55 ?_
    refine zw_aload hX dX8_moveLine_56 rfl ?_
    refine zw_iconst (v := (2 : Int32)) hX dX8_moveLine_58 (by decide) ?_
    obtain ⟨v11, g, h⟩ := zb_some h
    refine zw_xi hX dX8_moveLine_59 g ?_
    refine zw_iload_n hX dX8_moveLine_60 rfl ?_
    refine zw_iadd hX dX8_moveLine_61 ?_
    refine zw_aload hX dX8_moveLine_62 rfl ?_
    refine zw_iconst (v := (3 : Int32)) hX dX8_moveLine_64 (by decide) ?_
    obtain ⟨v12, g, h⟩ := zb_some h
    refine zw_xi hX dX8_moveLine_65 g ?_
    refine zw_iload_n hX dX8_moveLine_66 rfl ?_
    refine zw_iadd hX dX8_moveLine_67 ?_
    obtain ⟨_, gi, h⟩ := zb_some h
    obtain ⟨r14, g, h⟩ := zb_some h
    refine zc_Vv (as := [.int i1, .int (v9 + i2), .int (v10 + i3), .int (v11 + i2), .int (v12 + i3)]) hX gi (zt_X8_setEnds (d := d - 1) (by omega) g) zl_X8_40 rfl dX8_moveLine_68 ⟨rfl, rfl, Nat.le_of_ble_eq_true rfl⟩ ⟨by omega, by omega⟩ ?_
    refine zw_iconst (v := (1 : Int32)) hX dX8_moveLine_71 (by decide) ?_
    obtain rfl := Option.some.inj h
    exact zw_iret hX hr dX8_moveLine_72 rfl ⟨rfl, rfl⟩
  · rw [if_neg c37] at h
    refine zw_iconst (v := (0 : Int32)) hX dX8_moveLine_40 (by decide) ?_
    obtain rfl := Option.some.inj h
    exact zw_iret hX hr dX8_moveLine_41 rfl ⟨rfl, rfl⟩
set_option maxHeartbeats 4000000 in
set_option maxRecDepth 100000 in
theorem zt_X8_staysOnPlan {l : Launch} {V : zm_V} {N : Nat} {S : zm_S} {out : (Int32 × zm_S)} {d : Nat} {a0 : Nat} {i1 : Int32} {i2 : Int32} {i3 : Int32} (hd : 1 ≤ d) (h : zf_X8_staysOnPlan N a0 i1 i2 i3 S = some out) : zm_Met l zk_E V yX8_staysOnPlan (.code yX8_staysOnPlan cX8_staysOnPlan 5 (some .boolean)) d [.ref a0, .int i1, .int i2, .int i3] S 0 0 (zo_i out) zo_x := by
  refine zm_of (by decide +kernel) (Nat.le_of_ble_eq_true rfl) ?_
  intro p e R s m args below meth c hRR hX hr hxt
  have hR : R.frames = d ∧ R.locals = 64 * d := by rw [hRR]; exact ⟨rfl, rfl⟩
  have hX : zm_X p R s m args meth c RX8 "staysOnPlan" cX8_staysOnPlan 5 zk_E V 0 0 := hX
  unfold zf_X8_staysOnPlan at h
  refine zw_sub (lv' := [(0, .ref a0), (1, .int i1), (2, .int i2), (3, .int i3)]) (List.forall_mem_cons.mpr ⟨rfl, (List.forall_mem_cons.mpr ⟨rfl, (List.forall_mem_cons.mpr ⟨rfl, (List.forall_mem_cons.mpr ⟨rfl, zs_nil⟩)⟩)⟩)⟩) ?_
  refine zw_aload_n hX dX8_staysOnPlan_0 rfl ?_
  obtain ⟨b1, g, h⟩ := zb_some h
  refine zw_getr hX zl_X8_13 dX8_staysOnPlan_1 g ?_
  refine zw_iload_n hX dX8_staysOnPlan_4 rfl ?_
  obtain ⟨b2, g, h⟩ := zb_some h
  refine zw_xr hX dX8_staysOnPlan_5 g ?_
  refine zw_astore hX dX8_staysOnPlan_6 (by decide) ?_
  refine zw_aload hX dX8_staysOnPlan_8 rfl ?_
  refine zw_iconst (v := (0 : Int32)) hX dX8_staysOnPlan_10 (by decide) ?_
  obtain ⟨v3, g, h⟩ := zb_some h
  refine zw_xi hX dX8_staysOnPlan_11 g ?_
  refine zw_i2l hX dX8_staysOnPlan_12 ?_
  refine zw_iload_n hX dX8_staysOnPlan_13 rfl ?_
  refine zw_i2l hX dX8_staysOnPlan_14 ?_
  refine zw_ladd hX dX8_staysOnPlan_15 ?_
  refine zw_lconst (v := (0 : Int64)) hX dX8_staysOnPlan_16 (by decide) ?_
  refine zw_lcmp hX dX8_staysOnPlan_17 ?_
  refine zw_if_lt (tgt := 68) hX dX8_staysOnPlan_18 (by decide) (fun c18 => ?_) (fun c18 => ?_)
  · rw [if_pos c18] at h
    refine zw_iconst (v := (0 : Int32)) hX dX8_staysOnPlan_68 (by decide) ?_
    obtain rfl := Option.some.inj h
    exact zw_iret hX hr dX8_staysOnPlan_69 rfl ⟨rfl, rfl⟩
  · rw [if_neg c18] at h
    refine zw_aload hX dX8_staysOnPlan_21 rfl ?_
    refine zw_iconst (v := (2 : Int32)) hX dX8_staysOnPlan_23 (by decide) ?_
    obtain ⟨v4, g, h⟩ := zb_some h
    refine zw_xi hX dX8_staysOnPlan_24 g ?_
    refine zw_i2l hX dX8_staysOnPlan_25 ?_
    refine zw_iload_n hX dX8_staysOnPlan_26 rfl ?_
    refine zw_i2l hX dX8_staysOnPlan_27 ?_
    refine zw_ladd hX dX8_staysOnPlan_28 ?_
    refine zw_ldc2 (v := (24 : Int64)) hX dX8_staysOnPlan_29 zl_X8_46 ?_
    refine zw_lcmp hX dX8_staysOnPlan_32 ?_
    refine zw_if_gt (tgt := 68) hX dX8_staysOnPlan_33 (by decide) (fun c33 => ?_) (fun c33 => ?_)
    · rw [if_pos c33] at h
      refine zw_iconst (v := (0 : Int32)) hX dX8_staysOnPlan_68 (by decide) ?_
      obtain rfl := Option.some.inj h
      exact zw_iret hX hr dX8_staysOnPlan_69 rfl ⟨rfl, rfl⟩
    · rw [if_neg c33] at h
      refine zw_aload hX dX8_staysOnPlan_36 rfl ?_
      refine zw_iconst (v := (1 : Int32)) hX dX8_staysOnPlan_38 (by decide) ?_
      obtain ⟨v5, g, h⟩ := zb_some h
      refine zw_xi hX dX8_staysOnPlan_39 g ?_
      refine zw_i2l hX dX8_staysOnPlan_40 ?_
      refine zw_iload_n hX dX8_staysOnPlan_41 rfl ?_
      refine zw_i2l hX dX8_staysOnPlan_42 ?_
      refine zw_ladd hX dX8_staysOnPlan_43 ?_
      refine zw_lconst (v := (0 : Int64)) hX dX8_staysOnPlan_44 (by decide) ?_
      refine zw_lcmp hX dX8_staysOnPlan_45 ?_
      refine zw_if_lt (tgt := 68) hX dX8_staysOnPlan_46 (by decide) (fun c46 => ?_) (fun c46 => ?_)
      · rw [if_pos c46] at h
        refine zw_iconst (v := (0 : Int32)) hX dX8_staysOnPlan_68 (by decide) ?_
        obtain rfl := Option.some.inj h
        exact zw_iret hX hr dX8_staysOnPlan_69 rfl ⟨rfl, rfl⟩
      · rw [if_neg c46] at h
        refine zw_aload hX dX8_staysOnPlan_49 rfl ?_
        refine zw_iconst (v := (3 : Int32)) hX dX8_staysOnPlan_51 (by decide) ?_
        obtain ⟨v6, g, h⟩ := zb_some h
        refine zw_xi hX dX8_staysOnPlan_52 g ?_
        refine zw_i2l hX dX8_staysOnPlan_53 ?_
        refine zw_iload_n hX dX8_staysOnPlan_54 rfl ?_
        refine zw_i2l hX dX8_staysOnPlan_55 ?_
        refine zw_ladd hX dX8_staysOnPlan_56 ?_
        refine zw_ldc2 (v := (24 : Int64)) hX dX8_staysOnPlan_57 zl_X8_46 ?_
        refine zw_lcmp hX dX8_staysOnPlan_60 ?_
        refine zw_if_gt (tgt := 68) hX dX8_staysOnPlan_61 (by decide) (fun c61 => ?_) (fun c61 => ?_)
        · rw [if_pos c61] at h
          refine zw_iconst (v := (0 : Int32)) hX dX8_staysOnPlan_68 (by decide) ?_
          obtain rfl := Option.some.inj h
          exact zw_iret hX hr dX8_staysOnPlan_69 rfl ⟨rfl, rfl⟩
        · rw [if_neg c61] at h
          refine zw_iconst (v := (1 : Int32)) hX dX8_staysOnPlan_64 (by decide) ?_
          refine zw_goto (tgt := 69) hX dX8_staysOnPlan_65 (by decide) ?_
          obtain rfl := Option.some.inj h
          exact zw_iret hX hr dX8_staysOnPlan_69 rfl ⟨rfl, rfl⟩
set_option maxHeartbeats 4000000 in
set_option maxRecDepth 100000 in
theorem zt_X8_addDoor_J66 {p : Program} {l : Launch} {e : Env} {R : Room} {s : State} {m : MethodId} {args : Array Value} {below : List Frame} {meth : Method} {c : Code} {V : zm_V} {mc ms d rc rs : Nat} (hX : zm_X p R s m args meth c RX8 "addDoor" cX8_addDoor 6 zk_E V mc ms) (hr : meth.sig.returnType = (some .int)) (hR : R.frames = d ∧ R.locals = 64 * d) (hd : 1 ≤ d) {N : Nat} {a0 : Nat} {i1 : Int32} {out : (Int32 × zm_S)} {S : zm_S} (h : zf_X8_addDoor_J66 N a0 i1 S = some out) : zw p l e R s m args below meth c (vx_MQ below (zm_Qc zk_E V (zo_i out)) (zm_XC zk_E V zo_x) args s mc ms (fun q => V.2.2.2.1 ≤ q)) 6 zk_E V mc ms 66 [(0, .ref a0), (1, .int i1)] [] S rc rs := by
  unfold zf_X8_addDoor_J66 at h
  refine zw_aload_n hX dX8_addDoor_66 rfl ?_
  obtain ⟨b3, g, h⟩ := zb_some h
  refine zw_getr hX zl_X8_16 dX8_addDoor_67 g ?_
  refine zw_iload_n hX dX8_addDoor_70 rfl ?_
  obtain ⟨v4, g, h⟩ := zb_some h
  refine zw_xi hX dX8_addDoor_71 g ?_
  obtain rfl := Option.some.inj h
  exact zw_iret hX hr dX8_addDoor_72 rfl ⟨rfl, rfl⟩
set_option maxHeartbeats 4000000 in
set_option maxRecDepth 100000 in
theorem zt_X8_addDoor {l : Launch} {V : zm_V} {N : Nat} {S : zm_S} {out : (Int32 × zm_S)} {d : Nat} {a0 : Nat} {i1 : Int32} {i2 : Int32} {i3 : Int32} {i4 : Int32} (hd : 1 ≤ d) (h : zf_X8_addDoor N a0 i1 i2 i3 i4 S = some out) : zm_Met l zk_E V yX8_addDoor (.code yX8_addDoor cX8_addDoor 6 (some .int)) d [.ref a0, .int i1, .int i2, .int i3, .int i4] S 0 0 (zo_i out) zo_x := by
  refine zm_of (by decide +kernel) (Nat.le_of_ble_eq_true rfl) ?_
  intro p e R s m args below meth c hRR hX hr hxt
  have hR : R.frames = d ∧ R.locals = 64 * d := by rw [hRR]; exact ⟨rfl, rfl⟩
  have hX : zm_X p R s m args meth c RX8 "addDoor" cX8_addDoor 6 zk_E V 0 0 := hX
  unfold zf_X8_addDoor at h
  refine zw_sub (lv' := [(0, .ref a0), (1, .int i1), (2, .int i2), (3, .int i3), (4, .int i4)]) (List.forall_mem_cons.mpr ⟨rfl, (List.forall_mem_cons.mpr ⟨rfl, (List.forall_mem_cons.mpr ⟨rfl, (List.forall_mem_cons.mpr ⟨rfl, (List.forall_mem_cons.mpr ⟨rfl, zs_nil⟩)⟩)⟩)⟩)⟩) ?_
  refine zw_aload_n hX dX8_addDoor_0 rfl ?_
  obtain ⟨b1, g, h⟩ := zb_some h
  refine zw_getr hX zl_X8_16 dX8_addDoor_1 g ?_
  refine zw_iload_n hX dX8_addDoor_4 rfl ?_
  obtain ⟨v2, g, h⟩ := zb_some h
  refine zw_xi hX dX8_addDoor_5 g ?_
  refine zw_bipush (v := (6 : Int32)) hX dX8_addDoor_6 (by decide) ?_
  refine zw_icmp_ge (tgt := 66) hX dX8_addDoor_8 (by decide) (fun c8 => ?_) (fun c8 => ?_)
  · rw [if_pos c8] at h
    refine zw_sub (lv' := [(0, .ref a0), (1, .int i1)]) (List.forall_mem_cons.mpr ⟨rfl, (List.forall_mem_cons.mpr ⟨rfl, zs_nil⟩)⟩) ?_
    exact zt_X8_addDoor_J66 hX hr hR hd h
  · rw [if_neg c8] at h
    refine zw_iconst (v := (3 : Int32)) hX dX8_addDoor_11 (by decide) ?_
    refine zw_aload_n hX dX8_addDoor_12 rfl ?_
    obtain ⟨b5, g, h⟩ := zb_some h
    refine zw_getr hX zl_X8_16 dX8_addDoor_13 g ?_
    refine zw_iload_n hX dX8_addDoor_16 rfl ?_
    obtain ⟨v6, g, h⟩ := zb_some h
    refine zw_xi hX dX8_addDoor_17 g ?_
    refine zw_imul hX dX8_addDoor_18 ?_
    refine zw_istore hX dX8_addDoor_19 (by decide) ?_
    refine zw_aload_n hX dX8_addDoor_21 rfl ?_
    obtain ⟨b7, g, h⟩ := zb_some h
    refine zw_getr hX zl_X8_20 dX8_addDoor_22 g ?_
    refine zw_iload_n hX dX8_addDoor_25 rfl ?_
    obtain ⟨b8, g, h⟩ := zb_some h
    refine zw_xr hX dX8_addDoor_26 g ?_
    refine zw_iload hX dX8_addDoor_27 rfl ?_
    refine zw_iload_n hX dX8_addDoor_29 rfl ?_
    obtain ⟨S9, g, h⟩ := zb_some h
    refine zw_si hX dX8_addDoor_30 g ?_
    refine zw_aload_n hX dX8_addDoor_31 rfl ?_
    obtain ⟨b10, g, h⟩ := zb_some h
    refine zw_getr hX zl_X8_20 dX8_addDoor_32 g ?_
    refine zw_iload_n hX dX8_addDoor_35 rfl ?_
    obtain ⟨b11, g, h⟩ := zb_some h
    refine zw_xr hX dX8_addDoor_36 g ?_
    refine zw_iload hX dX8_addDoor_37 rfl ?_
    refine zw_iconst (v := (1 : Int32)) hX dX8_addDoor_39 (by decide) ?_
    refine zw_iadd hX dX8_addDoor_40 ?_
    refine zw_iload_n hX dX8_addDoor_41 rfl ?_
    obtain ⟨S12, g, h⟩ := zb_some h
    refine zw_si hX dX8_addDoor_42 g ?_
    refine zw_aload_n hX dX8_addDoor_43 rfl ?_
    obtain ⟨b13, g, h⟩ := zb_some h
    refine zw_getr hX zl_X8_20 dX8_addDoor_44 g ?_
    refine zw_iload_n hX dX8_addDoor_47 rfl ?_
    obtain ⟨b14, g, h⟩ := zb_some h
    refine zw_xr hX dX8_addDoor_48 g ?_
    refine zw_iload hX dX8_addDoor_49 rfl ?_
    refine zw_iconst (v := (2 : Int32)) hX dX8_addDoor_51 (by decide) ?_
    refine zw_iadd hX dX8_addDoor_52 ?_
    refine zw_iload hX dX8_addDoor_53 rfl ?_
    obtain ⟨S15, g, h⟩ := zb_some h
    refine zw_si hX dX8_addDoor_55 g ?_
    refine zw_aload_n hX dX8_addDoor_56 rfl ?_
    obtain ⟨b16, g, h⟩ := zb_some h
    refine zw_getr hX zl_X8_16 dX8_addDoor_57 g ?_
    refine zw_iload_n hX dX8_addDoor_60 rfl ?_
    refine zw_dup2 hX dX8_addDoor_61 rfl rfl ?_
    obtain ⟨v17, g, h⟩ := zb_some h
    refine zw_xi hX dX8_addDoor_62 g ?_
    refine zw_iconst (v := (1 : Int32)) hX dX8_addDoor_63 (by decide) ?_
    refine zw_iadd hX dX8_addDoor_64 ?_
    obtain ⟨S18, g, h⟩ := zb_some h
    refine zw_si hX dX8_addDoor_65 g ?_
    refine zw_sub (lv' := [(0, .ref a0), (1, .int i1)]) (List.forall_mem_cons.mpr ⟨rfl, (List.forall_mem_cons.mpr ⟨rfl, zs_nil⟩)⟩) ?_
    exact zt_X8_addDoor_J66 hX hr hR hd h
set_option maxHeartbeats 4000000 in
set_option maxRecDepth 100000 in
theorem zt_X8_isDoorAt {l : Launch} {V : zm_V} {N : Nat} {S : zm_S} {out : (Int32 × zm_S)} {d : Nat} {a0 : Nat} {i1 : Int32} {i2 : Int32} {i3 : Int32} (hd : 2 ≤ d) (h : zf_X8_isDoorAt N a0 i1 i2 i3 S = some out) : zm_Met l zk_E V yX8_isDoorAt (.code yX8_isDoorAt cX8_isDoorAt 4 (some .boolean)) d [.ref a0, .int i1, .int i2, .int i3] S 0 0 (zo_i out) zo_x := by
  refine zm_of (by decide +kernel) (Nat.le_of_ble_eq_true rfl) ?_
  intro p e R s m args below meth c hRR hX hr hxt
  have hR : R.frames = d ∧ R.locals = 64 * d := by rw [hRR]; exact ⟨rfl, rfl⟩
  have hX : zm_X p R s m args meth c RX8 "isDoorAt" cX8_isDoorAt 4 zk_E V 0 0 := hX
  unfold zf_X8_isDoorAt at h
  refine zw_sub (lv' := [(0, .ref a0), (1, .int i1), (2, .int i2), (3, .int i3)]) (List.forall_mem_cons.mpr ⟨rfl, (List.forall_mem_cons.mpr ⟨rfl, (List.forall_mem_cons.mpr ⟨rfl, (List.forall_mem_cons.mpr ⟨rfl, zs_nil⟩)⟩)⟩)⟩) ?_
  refine zw_aload_n hX dX8_isDoorAt_0 rfl ?_
  refine zw_iload_n hX dX8_isDoorAt_1 rfl ?_
  refine zw_iload_n hX dX8_isDoorAt_2 rfl ?_
  obtain ⟨_, gi, h⟩ := zb_some h
  obtain ⟨r2, g, h⟩ := zb_some h
  refine zc_Vi (as := [.int i1, .int i2]) hX gi (zt_X8_fromOf (d := d - 1) (by omega) g) zl_X8_52 rfl dX8_isDoorAt_3 ⟨rfl, rfl, Nat.le_of_ble_eq_true rfl⟩ ⟨by omega, by omega⟩ ?_
  refine zw_iload_n hX dX8_isDoorAt_6 rfl ?_
  refine zw_icmp_gt (tgt := 24) hX dX8_isDoorAt_7 (by decide) (fun c7 => ?_) (fun c7 => ?_)
  · rw [if_pos c7] at h
    refine zw_iconst (v := (0 : Int32)) hX dX8_isDoorAt_24 (by decide) ?_
    obtain rfl := Option.some.inj h
    exact zw_iret hX hr dX8_isDoorAt_25 rfl ⟨rfl, rfl⟩
  · rw [if_neg c7] at h
    refine zw_iload_n hX dX8_isDoorAt_10 rfl ?_
    refine zw_aload_n hX dX8_isDoorAt_11 rfl ?_
    refine zw_iload_n hX dX8_isDoorAt_12 rfl ?_
    refine zw_iload_n hX dX8_isDoorAt_13 rfl ?_
    obtain ⟨_, gi, h⟩ := zb_some h
    obtain ⟨r4, g, h⟩ := zb_some h
    refine zc_Vi (as := [.int i1, .int i2]) hX gi (zt_X8_toOf (d := d - 1) (by omega) g) zl_X8_55 rfl dX8_isDoorAt_14 ⟨rfl, rfl, Nat.le_of_ble_eq_true rfl⟩ ⟨by omega, by omega⟩ ?_
    refine zw_icmp_ge (tgt := 24) hX dX8_isDoorAt_17 (by decide) (fun c17 => ?_) (fun c17 => ?_)
    · rw [if_pos c17] at h
      refine zw_iconst (v := (0 : Int32)) hX dX8_isDoorAt_24 (by decide) ?_
      obtain rfl := Option.some.inj h
      exact zw_iret hX hr dX8_isDoorAt_25 rfl ⟨rfl, rfl⟩
    · rw [if_neg c17] at h
      refine zw_iconst (v := (1 : Int32)) hX dX8_isDoorAt_20 (by decide) ?_
      refine zw_goto (tgt := 25) hX dX8_isDoorAt_21 (by decide) ?_
      obtain rfl := Option.some.inj h
      exact zw_iret hX hr dX8_isDoorAt_25 rfl ⟨rfl, rfl⟩
set_option maxHeartbeats 4000000 in
set_option maxRecDepth 100000 in
theorem zt_X8_hasDoorAt_L2 {p : Program} {l : Launch} {e : Env} {R : Room} {s : State} {m : MethodId} {args : Array Value} {below : List Frame} {meth : Method} {c : Code} {V : zm_V} {mc ms d rc rs : Nat} (hX : zm_X p R s m args meth c RX8 "hasDoorAt" cX8_hasDoorAt 4 zk_E V mc ms) (hr : meth.sig.returnType = (some .boolean)) (hR : R.frames = d ∧ R.locals = 64 * d) (hd : 3 ≤ d) {N : Nat} {res : (Int32 × zm_S) ⊕ ((Unit) × zm_S)} {out : (Int32 × zm_S)} (a0 : Nat) (i1 : Int32) (i2 : Int32) (hf : ∀ o, res = .inl o → o = out) (hk : ∀ (S' : zm_S), res = .inr ((), S') → zw p l e R s m args below meth c (vx_MQ below (zm_Qc zk_E V (zo_i out)) (zm_XC zk_E V zo_x) args s mc ms (fun q => V.2.2.2.1 ≤ q)) 4 zk_E V mc ms 30 [] [] S' rc rs) : ∀ (n : Nat) (i3 : Int32) (S : zm_S), zf_X8_hasDoorAt_L2 N n a0 i1 i2 i3 S = some res → zw p l e R s m args below meth c (vx_MQ below (zm_Qc zk_E V (zo_i out)) (zm_XC zk_E V zo_x) args s mc ms (fun q => V.2.2.2.1 ≤ q)) 4 zk_E V mc ms 2 [(0, .ref a0), (1, .int i1), (2, .int i2), (3, .int i3)] [] S rc rs := by
  intro n
  induction n with
  | zero => intro i3 S h; cases h
  | succ n ih =>
    intro i3 S h
    rw [zf_X8_hasDoorAt_L2] at h
    refine zw_iload_n hX dX8_hasDoorAt_2 rfl ?_
    refine zw_aload_n hX dX8_hasDoorAt_3 rfl ?_
    obtain ⟨b1, g, h⟩ := zb_some h
    refine zw_getr hX zl_X8_16 dX8_hasDoorAt_4 g ?_
    refine zw_iload_n hX dX8_hasDoorAt_7 rfl ?_
    obtain ⟨v2, g, h⟩ := zb_some h
    refine zw_xi hX dX8_hasDoorAt_8 g ?_
    refine zw_icmp_ge (tgt := 30) hX dX8_hasDoorAt_9 (by decide) (fun c9 => ?_) (fun c9 => ?_)
    · rw [if_pos c9] at h
      refine zw_sub (lv' := []) zs_nil ?_
      exact hk  _ (Option.some.inj h).symm
    · rw [if_neg c9] at h
      refine zw_aload_n hX dX8_hasDoorAt_12 rfl ?_
      refine zw_iload_n hX dX8_hasDoorAt_13 rfl ?_
      refine zw_iload_n hX dX8_hasDoorAt_14 rfl ?_
      refine zw_iload_n hX dX8_hasDoorAt_15 rfl ?_
      obtain ⟨_, gi, h⟩ := zb_some h
      obtain ⟨r4, g, h⟩ := zb_some h
      refine zc_Vi (as := [.int i1, .int i3, .int i2]) hX gi (zt_X8_isDoorAt (d := d - 1) (by omega) g) zl_X8_48 rfl dX8_hasDoorAt_16 ⟨rfl, rfl, Nat.le_of_ble_eq_true rfl⟩ ⟨by omega, by omega⟩ ?_
      refine zw_if_eq (tgt := 24) hX dX8_hasDoorAt_19 (by decide) (fun c19 => ?_) (fun c19 => ?_)
      · rw [if_pos c19] at h
        refine zw_iinc (v := (i3 + (1 : Int32))) hX dX8_hasDoorAt_24 rfl rfl (by decide) ?_
        refine zw_goto (tgt := 2) hX dX8_hasDoorAt_27 (by decide) ?_
        refine zw_sub (lv' := [(0, .ref a0), (1, .int i1), (2, .int i2), (3, .int (i3 + (1 : Int32)))]) (List.forall_mem_cons.mpr ⟨rfl, (List.forall_mem_cons.mpr ⟨rfl, (List.forall_mem_cons.mpr ⟨rfl, (List.forall_mem_cons.mpr ⟨rfl, zs_nil⟩)⟩)⟩)⟩) ?_
        exact ih _ _ h
      · rw [if_neg c19] at h
        refine zw_iconst (v := (1 : Int32)) hX dX8_hasDoorAt_22 (by decide) ?_
        have hz := hf _ (Option.some.inj h).symm
        subst hz
        exact zw_iret hX hr dX8_hasDoorAt_23 rfl ⟨rfl, rfl⟩
set_option maxHeartbeats 4000000 in
set_option maxRecDepth 100000 in
theorem zt_X8_hasDoorAt {l : Launch} {V : zm_V} {N : Nat} {S : zm_S} {out : (Int32 × zm_S)} {d : Nat} {a0 : Nat} {i1 : Int32} {i2 : Int32} (hd : 3 ≤ d) (h : zf_X8_hasDoorAt N a0 i1 i2 S = some out) : zm_Met l zk_E V yX8_hasDoorAt (.code yX8_hasDoorAt cX8_hasDoorAt 4 (some .boolean)) d [.ref a0, .int i1, .int i2] S 0 0 (zo_i out) zo_x := by
  refine zm_of (by decide +kernel) (Nat.le_of_ble_eq_true rfl) ?_
  intro p e R s m args below meth c hRR hX hr hxt
  have hR : R.frames = d ∧ R.locals = 64 * d := by rw [hRR]; exact ⟨rfl, rfl⟩
  have hX : zm_X p R s m args meth c RX8 "hasDoorAt" cX8_hasDoorAt 4 zk_E V 0 0 := hX
  unfold zf_X8_hasDoorAt at h
  refine zw_sub (lv' := [(0, .ref a0), (1, .int i1), (2, .int i2)]) (List.forall_mem_cons.mpr ⟨rfl, (List.forall_mem_cons.mpr ⟨rfl, (List.forall_mem_cons.mpr ⟨rfl, zs_nil⟩)⟩)⟩) ?_
  refine zw_iconst (v := (0 : Int32)) hX dX8_hasDoorAt_0 (by decide) ?_
  refine zw_istore_n hX dX8_hasDoorAt_1 (by decide) ?_
  obtain ⟨r, g, h⟩ := zb_some h
  refine zw_sub (lv' := [(0, .ref a0), (1, .int i1), (2, .int i2), (3, .int (0 : Int32))]) (List.forall_mem_cons.mpr ⟨rfl, (List.forall_mem_cons.mpr ⟨rfl, (List.forall_mem_cons.mpr ⟨rfl, (List.forall_mem_cons.mpr ⟨rfl, zs_nil⟩)⟩)⟩)⟩) ?_
  refine zt_X8_hasDoorAt_L2 hX hr hR hd (res := r) (out := out) a0 i1 i2 ?_ ?_ N _ _ g
  · intro o ho
    subst ho
    exact Option.some.inj h
  · intro  S5 hx
    subst hx
    try dsimp only at h
    refine zw_iconst (v := (0 : Int32)) hX dX8_hasDoorAt_30 (by decide) ?_
    obtain rfl := Option.some.inj h
    exact zw_iret hX hr dX8_hasDoorAt_31 rfl ⟨rfl, rfl⟩
set_option maxHeartbeats 4000000 in
set_option maxRecDepth 100000 in
theorem zt_X8_rateOf {l : Launch} {V : zm_V} {N : Nat} {S : zm_S} {out : (Int32 × zm_S)} {d : Nat} {a0 : Nat} {i1 : Int32} {i2 : Int32} (hd : 1 ≤ d) (h : zf_X8_rateOf N a0 i1 i2 S = some out) : zm_Met l zk_E V yX8_rateOf (.code yX8_rateOf cX8_rateOf 3 (some .int)) d [.ref a0, .int i1, .int i2] S 0 0 (zo_i out) zo_x := by
  refine zm_of (by decide +kernel) (Nat.le_of_ble_eq_true rfl) ?_
  intro p e R s m args below meth c hRR hX hr hxt
  have hR : R.frames = d ∧ R.locals = 64 * d := by rw [hRR]; exact ⟨rfl, rfl⟩
  have hX : zm_X p R s m args meth c RX8 "rateOf" cX8_rateOf 3 zk_E V 0 0 := hX
  unfold zf_X8_rateOf at h
  refine zw_sub (lv' := [(0, .ref a0), (1, .int i1), (2, .int i2)]) (List.forall_mem_cons.mpr ⟨rfl, (List.forall_mem_cons.mpr ⟨rfl, (List.forall_mem_cons.mpr ⟨rfl, zs_nil⟩)⟩)⟩) ?_
  refine zw_aload_n hX dX8_rateOf_0 rfl ?_
  obtain ⟨b1, g, h⟩ := zb_some h
  refine zw_getr hX zl_X8_20 dX8_rateOf_1 g ?_
  refine zw_iload_n hX dX8_rateOf_4 rfl ?_
  obtain ⟨b2, g, h⟩ := zb_some h
  refine zw_xr hX dX8_rateOf_5 g ?_
  refine zw_iconst (v := (3 : Int32)) hX dX8_rateOf_6 (by decide) ?_
  refine zw_iload_n hX dX8_rateOf_7 rfl ?_
  refine zw_imul hX dX8_rateOf_8 ?_
  refine zw_iconst (v := (2 : Int32)) hX dX8_rateOf_9 (by decide) ?_
  refine zw_iadd hX dX8_rateOf_10 ?_
  obtain ⟨v3, g, h⟩ := zb_some h
  refine zw_xi hX dX8_rateOf_11 g ?_
  obtain rfl := Option.some.inj h
  exact zw_iret hX hr dX8_rateOf_12 rfl ⟨rfl, rfl⟩
set_option maxHeartbeats 4000000 in
set_option maxRecDepth 100000 in
theorem zt_X9_init {l : Launch} {V : zm_V} {N : Nat} {S : zm_S} {out : (Unit × zm_S)} {d : Nat} {a0 : Nat} (hd : 2 ≤ d) (h : zf_X9_init N a0 S = some out) : zm_Met l zk_E V yX9_init (.code yX9_init cX9_init 1 none) d [.ref a0] S 135 1054 (zo_v out) zo_x := by
  refine zm_of (by decide +kernel) (Nat.le_of_ble_eq_true rfl) ?_
  intro p e R s m args below meth c hRR hX hr hxt
  have hR : R.frames = d ∧ R.locals = 64 * d := by rw [hRR]; exact ⟨rfl, rfl⟩
  have hX : zm_X p R s m args meth c RX9 "<init>" cX9_init 1 zk_E V 135 1054 := hX
  unfold zf_X9_init at h
  refine zw_sub (lv' := [(0, .ref a0)]) (List.forall_mem_cons.mpr ⟨rfl, zs_nil⟩) ?_
  refine zw_aload_n hX dX9_init_0 rfl ?_
  refine zw_objInit hX zl_X9_3.1 zl_X9_3.2.1 zl_X9_3.2.2 dX9_init_1 (by omega) (by show 0 + 12 ≤ R.locals; omega) ?_
  refine zw_aload_n hX dX9_init_4 rfl ?_
  refine zw_bipush (v := (40 : Int32)) hX dX9_init_5 (by decide) ?_
  obtain ⟨S1, g, h⟩ := zb_some h
  refine zw_ni (b := 40) hX zk_ai dX9_init_7 (by omega) (by omega) (by decide) g ?_
  obtain ⟨S2, g, h⟩ := zb_some h
  refine zw_putvF hX zl_X9_11 zt_9_1 dX9_init_9 rfl rfl g ?_
  refine zw_aload_n hX dX9_init_12 rfl ?_
  refine zw_bipush (v := (40 : Int32)) hX dX9_init_13 (by decide) ?_
  obtain ⟨S3, g, h⟩ := zb_some h
  refine zw_ni (b := 40) hX zk_ai dX9_init_15 (by omega) (by omega) (by decide) g ?_
  obtain ⟨S4, g, h⟩ := zb_some h
  refine zw_putvF hX zl_X9_15 zt_9_2 dX9_init_17 rfl rfl g ?_
  refine zw_aload_n hX dX9_init_20 rfl ?_
  refine zw_bipush (v := (40 : Int32)) hX dX9_init_21 (by decide) ?_
  obtain ⟨S5, g, h⟩ := zb_some h
  refine zw_ni (b := 40) hX zk_ai dX9_init_23 (by omega) (by omega) (by decide) g ?_
  obtain ⟨S6, g, h⟩ := zb_some h
  refine zw_putvF hX zl_X9_18 zt_9_3 dX9_init_25 rfl rfl g ?_
  refine zw_aload_n hX dX9_init_28 rfl ?_
  refine zw_bipush (v := (40 : Int32)) hX dX9_init_29 (by decide) ?_
  obtain ⟨S7, g, h⟩ := zb_some h
  refine zw_ni (b := 40) hX zk_ai dX9_init_31 (by omega) (by omega) (by decide) g ?_
  obtain ⟨S8, g, h⟩ := zb_some h
  refine zw_putvF hX zl_X9_21 zt_9_4 dX9_init_33 rfl rfl g ?_
  refine zw_aload_n hX dX9_init_36 rfl ?_
  refine zw_bipush (v := (40 : Int32)) hX dX9_init_37 (by decide) ?_
  refine zw_iconst (v := (3 : Int32)) hX dX9_init_39 (by decide) ?_
  obtain ⟨S9, g, h⟩ := zb_some h
  refine zw_mnao (N := 40) (K := 3) (t1 := 4) (t2 := 0) (ty := .int) hX rfl rfl zl_X9_24 (by decide +kernel) (Or.inl rfl) zk_ai dX9_init_40 (fun _ _ => rfl) (by decide) (by decide) rfl rfl (Nat.le_of_ble_eq_true rfl) (Nat.le_of_ble_eq_true rfl) (Nat.le_of_ble_eq_true rfl) rfl rfl (fun _ h => by cases h) (by omega) (by omega) g ?_
  obtain ⟨S10, g, h⟩ := zb_some h
  refine zw_putvF hX zl_X9_26 zt_9_5 dX9_init_44 rfl rfl g ?_
  refine zw_aload_n hX dX9_init_47 rfl ?_
  refine zw_bipush (v := (40 : Int32)) hX dX9_init_48 (by decide) ?_
  obtain ⟨S11, g, h⟩ := zb_some h
  refine zw_ni (b := 40) hX zk_ai dX9_init_50 (by omega) (by omega) (by decide) g ?_
  obtain ⟨S12, g, h⟩ := zb_some h
  refine zw_putvF hX zl_X9_29 zt_9_6 dX9_init_52 rfl rfl g ?_
  refine zw_aload_n hX dX9_init_55 rfl ?_
  refine zw_bipush (v := (40 : Int32)) hX dX9_init_56 (by decide) ?_
  refine zw_iconst (v := (2 : Int32)) hX dX9_init_58 (by decide) ?_
  obtain ⟨S13, g, h⟩ := zb_some h
  refine zw_mnao (N := 40) (K := 2) (t1 := 4) (t2 := 0) (ty := .int) hX rfl rfl zl_X9_24 (by decide +kernel) (Or.inl rfl) zk_ai dX9_init_59 (fun _ _ => rfl) (by decide) (by decide) rfl rfl (Nat.le_of_ble_eq_true rfl) (Nat.le_of_ble_eq_true rfl) (Nat.le_of_ble_eq_true rfl) rfl rfl (fun _ h => by cases h) (by omega) (by omega) g ?_
  obtain ⟨S14, g, h⟩ := zb_some h
  refine zw_putvF hX zl_X9_32 zt_9_7 dX9_init_63 rfl rfl g ?_
  refine zw_aload_n hX dX9_init_66 rfl ?_
  refine zw_bipush (v := (40 : Int32)) hX dX9_init_67 (by decide) ?_
  refine zw_bipush (v := (8 : Int32)) hX dX9_init_69 (by decide) ?_
  obtain ⟨S15, g, h⟩ := zb_some h
  refine zw_mnao (N := 40) (K := 8) (t1 := 4) (t2 := 0) (ty := .int) hX rfl rfl zl_X9_24 (by decide +kernel) (Or.inl rfl) zk_ai dX9_init_71 (fun _ _ => rfl) (by decide) (by decide) rfl rfl (Nat.le_of_ble_eq_true rfl) (Nat.le_of_ble_eq_true rfl) (Nat.le_of_ble_eq_true rfl) rfl rfl (fun _ h => by cases h) (by omega) (by omega) g ?_
  obtain ⟨S16, g, h⟩ := zb_some h
  refine zw_putvF hX zl_X9_35 zt_9_8 dX9_init_75 rfl rfl g ?_
  refine zw_aload_n hX dX9_init_78 rfl ?_
  refine zw_bipush (v := (40 : Int32)) hX dX9_init_79 (by decide) ?_
  obtain ⟨S17, g, h⟩ := zb_some h
  refine zw_nb (b := 40) hX zk_ab dX9_init_81 (by omega) (by omega) (by decide) g ?_
  obtain ⟨S18, g, h⟩ := zb_some h
  refine zw_putvF hX zl_X9_38 zt_9_9 dX9_init_83 rfl rfl g ?_
  refine zw_aload_n hX dX9_init_86 rfl ?_
  refine zw_bipush (v := (40 : Int32)) hX dX9_init_87 (by decide) ?_
  obtain ⟨S19, g, h⟩ := zb_some h
  refine zw_ni (b := 40) hX zk_ai dX9_init_89 (by omega) (by omega) (by decide) g ?_
  obtain ⟨S20, g, h⟩ := zb_some h
  refine zw_putvF hX zl_X9_42 zt_9_10 dX9_init_91 rfl rfl g ?_
  refine zw_aload_n hX dX9_init_94 rfl ?_
  refine zw_bipush (v := (40 : Int32)) hX dX9_init_95 (by decide) ?_
  obtain ⟨S21, g, h⟩ := zb_some h
  refine zw_ni (b := 40) hX zk_ai dX9_init_97 (by omega) (by omega) (by decide) g ?_
  obtain ⟨S22, g, h⟩ := zb_some h
  refine zw_putvF hX zl_X9_45 zt_9_11 dX9_init_99 rfl rfl g ?_
  refine zw_aload_n hX dX9_init_102 rfl ?_
  refine zw_bipush (v := (10 : Int32)) hX dX9_init_103 (by decide) ?_
  obtain ⟨S23, g, h⟩ := zb_some h
  refine zw_ni (b := 10) hX zk_ai dX9_init_105 (by omega) (by omega) (by decide) g ?_
  obtain ⟨S24, g, h⟩ := zb_some h
  refine zw_putvF hX zl_X9_48 zt_9_12 dX9_init_107 rfl rfl g ?_
  refine zw_aload_n hX dX9_init_110 rfl ?_
  refine zw_bipush (v := (40 : Int32)) hX dX9_init_111 (by decide) ?_
  obtain ⟨S25, g, h⟩ := zb_some h
  refine zw_ni (b := 40) hX zk_ai dX9_init_113 (by omega) (by omega) (by decide) g ?_
  obtain ⟨S26, g, h⟩ := zb_some h
  refine zw_putvF hX zl_X9_51 zt_9_15 dX9_init_115 rfl rfl g ?_
  refine zw_aload_n hX dX9_init_118 rfl ?_
  refine zw_bipush (v := (40 : Int32)) hX dX9_init_119 (by decide) ?_
  obtain ⟨S27, g, h⟩ := zb_some h
  refine zw_ni (b := 40) hX zk_ai dX9_init_121 (by omega) (by omega) (by decide) g ?_
  obtain ⟨S28, g, h⟩ := zb_some h
  refine zw_putvF hX zl_X9_54 zt_9_16 dX9_init_123 rfl rfl g ?_
  refine zw_aload_n hX dX9_init_126 rfl ?_
  refine zw_iconst (v := (4 : Int32)) hX dX9_init_127 (by decide) ?_
  obtain ⟨S29, g, h⟩ := zb_some h
  refine zw_ni (b := 4) hX zk_ai dX9_init_128 (by omega) (by omega) (by decide) g ?_
  obtain ⟨S30, g, h⟩ := zb_some h
  refine zw_putvF hX zl_X9_57 zt_9_17 dX9_init_130 rfl rfl g ?_
  obtain rfl := Option.some.inj h
  exact zw_vret hX hr dX9_init_133 ⟨rfl, rfl⟩
set_option maxHeartbeats 4000000 in
set_option maxRecDepth 100000 in
theorem zt_X9_addBlock {l : Launch} {V : zm_V} {N : Nat} {S : zm_S} {out : (Int32 × zm_S)} {d : Nat} {a0 : Nat} {i1 : Int32} (hd : 2 ≤ d) (h : zf_X9_addBlock N a0 i1 S = some out) : zm_Met l zk_E V yX9_addBlock (.code yX9_addBlock cX9_addBlock 2 (some .int)) d [.ref a0, .int i1] S 0 0 (zo_i out) zo_x := by
  refine zm_of (by decide +kernel) (Nat.le_of_ble_eq_true rfl) ?_
  intro p e R s m args below meth c hRR hX hr hxt
  have hR : R.frames = d ∧ R.locals = 64 * d := by rw [hRR]; exact ⟨rfl, rfl⟩
  have hX : zm_X p R s m args meth c RX9 "addBlock" cX9_addBlock 2 zk_E V 0 0 := hX
  unfold zf_X9_addBlock at h
  refine zw_sub (lv' := [(0, .ref a0), (1, .int i1)]) (List.forall_mem_cons.mpr ⟨rfl, (List.forall_mem_cons.mpr ⟨rfl, zs_nil⟩)⟩) ?_
  refine zw_aload_n hX dX9_addBlock_0 rfl ?_
  obtain ⟨v1, g, h⟩ := zb_some h
  refine zw_geti hX zl_X9_60 dX9_addBlock_1 g ?_
  refine zw_bipush (v := (40 : Int32)) hX dX9_addBlock_4 (by decide) ?_
  refine zw_icmp_lt (tgt := 11) hX dX9_addBlock_6 (by decide) (fun c6 => ?_) (fun c6 => ?_)
  · rw [if_pos c6] at h
    refine zw_aload_n hX dX9_addBlock_11 rfl ?_
    obtain ⟨b2, g, h⟩ := zb_some h
    refine zw_getr hX zl_X9_11 dX9_addBlock_12 g ?_
    refine zw_aload_n hX dX9_addBlock_15 rfl ?_
    obtain ⟨v3, g, h⟩ := zb_some h
    refine zw_geti hX zl_X9_60 dX9_addBlock_16 g ?_
    refine zw_iload_n hX dX9_addBlock_19 rfl ?_
    obtain ⟨S4, g, h⟩ := zb_some h
    refine zw_si hX dX9_addBlock_20 g ?_
    refine zw_aload_n hX dX9_addBlock_21 rfl ?_
    obtain ⟨b5, g, h⟩ := zb_some h
    refine zw_getr hX zl_X9_26 dX9_addBlock_22 g ?_
    refine zw_aload_n hX dX9_addBlock_25 rfl ?_
    obtain ⟨v6, g, h⟩ := zb_some h
    refine zw_geti hX zl_X9_60 dX9_addBlock_26 g ?_
    obtain ⟨b7, g, h⟩ := zb_some h
    refine zw_xr hX dX9_addBlock_29 g ?_
    refine zw_iconst (v := (-1 : Int32)) hX dX9_addBlock_30 (by decide) ?_
    obtain ⟨r9, g, h⟩ := zb_some h
    refine zc_Sv (as := [.ref b7, .int (-1 : Int32)]) hX (zt_J7_fill_53178 (d := d - 1) (by omega) g) zl_X9_64 dX9_addBlock_31 ⟨rfl, rfl, Nat.le_of_ble_eq_true rfl⟩ ⟨by omega, by omega⟩ ?_
    refine zw_aload_n hX dX9_addBlock_34 rfl ?_
    obtain ⟨b10, g, h⟩ := zb_some h
    refine zw_getr hX zl_X9_45 dX9_addBlock_35 g ?_
    refine zw_aload_n hX dX9_addBlock_38 rfl ?_
    obtain ⟨v11, g, h⟩ := zb_some h
    refine zw_geti hX zl_X9_60 dX9_addBlock_39 g ?_
    refine zw_iconst (v := (-1 : Int32)) hX dX9_addBlock_42 (by decide) ?_
    obtain ⟨S12, g, h⟩ := zb_some h
    refine zw_si hX dX9_addBlock_43 g ?_
    refine zw_aload_n hX dX9_addBlock_44 rfl ?_
    refine zw_iconst (v := (0 : Int32)) hX dX9_addBlock_45 (by decide) ?_
    obtain ⟨S13, g, h⟩ := zb_some h
    refine zw_putv hX zl_X9_70 zt_9_13 dX9_addBlock_46 rfl (by decide) g ?_
    refine zw_aload_n hX dX9_addBlock_49 rfl ?_
    refine zw_dup hX dX9_addBlock_50 rfl ?_
    obtain ⟨v14, g, h⟩ := zb_some h
    refine zw_geti hX zl_X9_60 dX9_addBlock_51 g ?_
    refine zw_iconst (v := (1 : Int32)) hX dX9_addBlock_54 (by decide) ?_
    refine zw_iadd hX dX9_addBlock_55 ?_
    obtain ⟨S15, g, h⟩ := zb_some h
    refine zw_putv hX zl_X9_60 zt_9_0 dX9_addBlock_56 rfl rfl g ?_
    refine zw_aload_n hX dX9_addBlock_59 rfl ?_
    obtain ⟨v16, g, h⟩ := zb_some h
    refine zw_geti hX zl_X9_60 dX9_addBlock_60 g ?_
    refine zw_iconst (v := (1 : Int32)) hX dX9_addBlock_63 (by decide) ?_
    refine zw_isub hX dX9_addBlock_64 ?_
    obtain rfl := Option.some.inj h
    exact zw_iret hX hr dX9_addBlock_65 rfl ⟨rfl, rfl⟩
  · rw [if_neg c6] at h
    refine zw_iconst (v := (-1 : Int32)) hX dX9_addBlock_9 (by decide) ?_
    obtain rfl := Option.some.inj h
    exact zw_iret hX hr dX9_addBlock_10 rfl ⟨rfl, rfl⟩
set_option maxHeartbeats 4000000 in
set_option maxRecDepth 100000 in
theorem zt_X9_setInput {l : Launch} {V : zm_V} {N : Nat} {S : zm_S} {out : (Int32 × zm_S)} {d : Nat} {a0 : Nat} {i1 : Int32} {i2 : Int32} {i3 : Int32} (hd : 1 ≤ d) (h : zf_X9_setInput N a0 i1 i2 i3 S = some out) : zm_Met l zk_E V yX9_setInput (.code yX9_setInput cX9_setInput 5 (some .int)) d [.ref a0, .int i1, .int i2, .int i3] S 0 0 (zo_i out) zo_x := by
  refine zm_of (by decide +kernel) (Nat.le_of_ble_eq_true rfl) ?_
  intro p e R s m args below meth c hRR hX hr hxt
  have hR : R.frames = d ∧ R.locals = 64 * d := by rw [hRR]; exact ⟨rfl, rfl⟩
  have hX : zm_X p R s m args meth c RX9 "setInput" cX9_setInput 5 zk_E V 0 0 := hX
  unfold zf_X9_setInput at h
  refine zw_sub (lv' := [(0, .ref a0), (1, .int i1), (2, .int i2), (3, .int i3)]) (List.forall_mem_cons.mpr ⟨rfl, (List.forall_mem_cons.mpr ⟨rfl, (List.forall_mem_cons.mpr ⟨rfl, (List.forall_mem_cons.mpr ⟨rfl, zs_nil⟩)⟩)⟩)⟩) ?_
  refine zw_aload_n hX dX9_setInput_0 rfl ?_
  obtain ⟨b1, g, h⟩ := zb_some h
  refine zw_getr hX zl_X9_26 dX9_setInput_1 g ?_
  refine zw_iload_n hX dX9_setInput_4 rfl ?_
  obtain ⟨b2, g, h⟩ := zb_some h
  refine zw_xr hX dX9_setInput_5 g ?_
  refine zw_iload_n hX dX9_setInput_6 rfl ?_
  obtain ⟨v3, g, h⟩ := zb_some h
  refine zw_xi hX dX9_setInput_7 g ?_
  refine zw_istore hX dX9_setInput_8 (by decide) ?_
  refine zw_aload_n hX dX9_setInput_10 rfl ?_
  obtain ⟨b4, g, h⟩ := zb_some h
  refine zw_getr hX zl_X9_26 dX9_setInput_11 g ?_
  refine zw_iload_n hX dX9_setInput_14 rfl ?_
  obtain ⟨b5, g, h⟩ := zb_some h
  refine zw_xr hX dX9_setInput_15 g ?_
  refine zw_iload_n hX dX9_setInput_16 rfl ?_
  refine zw_iload_n hX dX9_setInput_17 rfl ?_
  obtain ⟨S6, g, h⟩ := zb_some h
  refine zw_si hX dX9_setInput_18 g ?_
  refine zw_aload_n hX dX9_setInput_19 rfl ?_
  refine zw_iconst (v := (0 : Int32)) hX dX9_setInput_20 (by decide) ?_
  obtain ⟨S7, g, h⟩ := zb_some h
  refine zw_putv hX zl_X9_70 zt_9_13 dX9_setInput_21 rfl (by decide) g ?_
  refine zw_iload hX dX9_setInput_24 rfl ?_
  obtain rfl := Option.some.inj h
  exact zw_iret hX hr dX9_setInput_26 rfl ⟨rfl, rfl⟩
set_option maxHeartbeats 4000000 in
set_option maxRecDepth 100000 in
theorem zt_X9_mayCome_L15 {p : Program} {l : Launch} {e : Env} {R : Room} {s : State} {m : MethodId} {args : Array Value} {below : List Frame} {meth : Method} {c : Code} {V : zm_V} {mc ms d rc rs : Nat} (hX : zm_X p R s m args meth c RX9 "mayCome" cX9_mayCome 4 zk_E V mc ms) (hr : meth.sig.returnType = (some .boolean)) (hR : R.frames = d ∧ R.locals = 64 * d) (hd : 1 ≤ d) {N : Nat} {res : (Int32 × zm_S) ⊕ ((Unit) × zm_S)} {out : (Int32 × zm_S)} (a0 : Nat) (i1 : Int32) (hf : ∀ o, res = .inl o → o = out) (hk : ∀ (S' : zm_S), res = .inr ((), S') → zw p l e R s m args below meth c (vx_MQ below (zm_Qc zk_E V (zo_i out)) (zm_XC zk_E V zo_x) args s mc ms (fun q => V.2.2.2.1 ≤ q)) 4 zk_E V mc ms 61 [] [] S' rc rs) : ∀ (n : Nat) (i2 : Int32) (S : zm_S), zf_X9_mayCome_L15 N n a0 i1 i2 S = some res → zw p l e R s m args below meth c (vx_MQ below (zm_Qc zk_E V (zo_i out)) (zm_XC zk_E V zo_x) args s mc ms (fun q => V.2.2.2.1 ≤ q)) 4 zk_E V mc ms 15 [(0, .ref a0), (1, .int i1), (2, .int i2)] [] S rc rs := by
  intro n
  induction n with
  | zero => intro i2 S h; cases h
  | succ n ih =>
    intro i2 S h
    rw [zf_X9_mayCome_L15] at h
    refine zw_iload_n hX dX9_mayCome_15 rfl ?_
    refine zw_gets (C := "TowerHouse$Program") (n := "INPUTS") (d := "[I") (k := 5) hX (List.mem_of_getElem? (i := 4) rfl) (by decide) zl_X9_92 dX9_mayCome_16 ?_
    refine zw_aload_n hX dX9_mayCome_19 rfl ?_
    obtain ⟨b3, g, h⟩ := zb_some h
    refine zw_getr hX zl_X9_11 dX9_mayCome_20 g ?_
    refine zw_iload_n hX dX9_mayCome_23 rfl ?_
    obtain ⟨v4, g, h⟩ := zb_some h
    refine zw_xi hX dX9_mayCome_24 g ?_
    obtain ⟨v5, g, h⟩ := zb_some h
    refine zw_xi hX dX9_mayCome_25 g ?_
    refine zw_icmp_ge (tgt := 61) hX dX9_mayCome_26 (by decide) (fun c26 => ?_) (fun c26 => ?_)
    · rw [if_pos c26] at h
      refine zw_sub (lv' := []) zs_nil ?_
      exact hk  _ (Option.some.inj h).symm
    · rw [if_neg c26] at h
      refine zw_aload_n hX dX9_mayCome_29 rfl ?_
      obtain ⟨b6, g, h⟩ := zb_some h
      refine zw_getr hX zl_X9_26 dX9_mayCome_30 g ?_
      refine zw_iload_n hX dX9_mayCome_33 rfl ?_
      obtain ⟨b7, g, h⟩ := zb_some h
      refine zw_xr hX dX9_mayCome_34 g ?_
      refine zw_iload_n hX dX9_mayCome_35 rfl ?_
      obtain ⟨v8, g, h⟩ := zb_some h
      refine zw_xi hX dX9_mayCome_36 g ?_
      refine zw_istore_n hX dX9_mayCome_37 (by decide) ?_
      refine zw_iload_n hX dX9_mayCome_38 rfl ?_
      refine zw_iconst (v := (-1 : Int32)) hX dX9_mayCome_39 (by decide) ?_
      refine zw_icmp_eq (tgt := 55) hX dX9_mayCome_40 (by decide) (fun c40 => ?_) (fun c40 => ?_)
      · rw [if_pos c40] at h
        refine zw_iinc (v := (i2 + (1 : Int32))) hX dX9_mayCome_55 rfl rfl (by decide) ?_
        refine zw_goto (tgt := 15) hX dX9_mayCome_58 (by decide) ?_
        refine zw_sub (lv' := [(0, .ref a0), (1, .int i1), (2, .int (i2 + (1 : Int32)))]) (List.forall_mem_cons.mpr ⟨rfl, (List.forall_mem_cons.mpr ⟨rfl, (List.forall_mem_cons.mpr ⟨rfl, zs_nil⟩)⟩)⟩) ?_
        exact ih _ _ h
      · rw [if_neg c40] at h
        refine zw_aload_n hX dX9_mayCome_43 rfl ?_
        obtain ⟨b9, g, h⟩ := zb_some h
        refine zw_getr hX zl_X9_54 dX9_mayCome_44 g ?_
        refine zw_iload_n hX dX9_mayCome_47 rfl ?_
        obtain ⟨v10, g, h⟩ := zb_some h
        refine zw_xi hX dX9_mayCome_48 g ?_
        refine zw_iconst (v := (-1 : Int32)) hX dX9_mayCome_49 (by decide) ?_
        refine zw_icmp_ne (tgt := 55) hX dX9_mayCome_50 (by decide) (fun c50 => ?_) (fun c50 => ?_)
        · rw [if_neg c50] at h
          refine zw_iinc (v := (i2 + (1 : Int32))) hX dX9_mayCome_55 rfl rfl (by decide) ?_
          refine zw_goto (tgt := 15) hX dX9_mayCome_58 (by decide) ?_
          refine zw_sub (lv' := [(0, .ref a0), (1, .int i1), (2, .int (i2 + (1 : Int32)))]) (List.forall_mem_cons.mpr ⟨rfl, (List.forall_mem_cons.mpr ⟨rfl, (List.forall_mem_cons.mpr ⟨rfl, zs_nil⟩)⟩)⟩) ?_
          exact ih _ _ h
        · rw [if_pos c50] at h
          refine zw_iconst (v := (0 : Int32)) hX dX9_mayCome_53 (by decide) ?_
          have hz := hf _ (Option.some.inj h).symm
          subst hz
          exact zw_iret hX hr dX9_mayCome_54 rfl ⟨rfl, rfl⟩
set_option maxHeartbeats 4000000 in
set_option maxRecDepth 100000 in
theorem zt_X9_mayCome {l : Launch} {V : zm_V} {N : Nat} {S : zm_S} {out : (Int32 × zm_S)} {d : Nat} {a0 : Nat} {i1 : Int32} (hd : 1 ≤ d) (h : zf_X9_mayCome N a0 i1 S = some out) : zm_Met l zk_E V yX9_mayCome (.code yX9_mayCome cX9_mayCome 4 (some .boolean)) d [.ref a0, .int i1] S 0 0 (zo_i out) zo_x := by
  refine zm_of (by decide +kernel) (Nat.le_of_ble_eq_true rfl) ?_
  intro p e R s m args below meth c hRR hX hr hxt
  have hR : R.frames = d ∧ R.locals = 64 * d := by rw [hRR]; exact ⟨rfl, rfl⟩
  have hX : zm_X p R s m args meth c RX9 "mayCome" cX9_mayCome 4 zk_E V 0 0 := hX
  unfold zf_X9_mayCome at h
  refine zw_sub (lv' := [(0, .ref a0), (1, .int i1)]) (List.forall_mem_cons.mpr ⟨rfl, (List.forall_mem_cons.mpr ⟨rfl, zs_nil⟩)⟩) ?_
  refine zw_aload_n hX dX9_mayCome_0 rfl ?_
  obtain ⟨b1, g, h⟩ := zb_some h
  refine zw_getr hX zl_X9_11 dX9_mayCome_1 g ?_
  refine zw_iload_n hX dX9_mayCome_4 rfl ?_
  obtain ⟨v2, g, h⟩ := zb_some h
  refine zw_xi hX dX9_mayCome_5 g ?_
  refine zw_bipush (v := (16 : Int32)) hX dX9_mayCome_6 (by decide) ?_
  refine zw_icmp_ne (tgt := 13) hX dX9_mayCome_8 (by decide) (fun c8 => ?_) (fun c8 => ?_)
  · rw [if_neg c8] at h
    refine zw_iconst (v := (0 : Int32)) hX dX9_mayCome_13 (by decide) ?_
    refine zw_istore_n hX dX9_mayCome_14 (by decide) ?_
    obtain ⟨r, g, h⟩ := zb_some h
    refine zw_sub (lv' := [(0, .ref a0), (1, .int i1), (2, .int (0 : Int32))]) (List.forall_mem_cons.mpr ⟨rfl, (List.forall_mem_cons.mpr ⟨rfl, (List.forall_mem_cons.mpr ⟨rfl, zs_nil⟩)⟩)⟩) ?_
    refine zt_X9_mayCome_L15 hX hr hR hd (res := r) (out := out) a0 i1 ?_ ?_ N _ _ g
    · intro o ho
      subst ho
      exact Option.some.inj h
    · intro  S11 hx
      subst hx
      try dsimp only at h
      refine zw_iconst (v := (1 : Int32)) hX dX9_mayCome_61 (by decide) ?_
      obtain rfl := Option.some.inj h
      exact zw_iret hX hr dX9_mayCome_62 rfl ⟨rfl, rfl⟩
  · rw [if_pos c8] at h
    refine zw_iconst (v := (1 : Int32)) hX dX9_mayCome_11 (by decide) ?_
    obtain rfl := Option.some.inj h
    exact zw_iret hX hr dX9_mayCome_12 rfl ⟨rfl, rfl⟩
set_option maxHeartbeats 4000000 in
set_option maxRecDepth 100000 in
theorem zt_X9_leastThatMayCome_L2 {p : Program} {l : Launch} {e : Env} {R : Room} {s : State} {m : MethodId} {args : Array Value} {below : List Frame} {meth : Method} {c : Code} {V : zm_V} {mc ms d rc rs : Nat} (hX : zm_X p R s m args meth c RX9 "leastThatMayCome" cX9_leastThatMayCome 2 zk_E V mc ms) (hr : meth.sig.returnType = (some .int)) (hR : R.frames = d ∧ R.locals = 64 * d) (hd : 2 ≤ d) {N : Nat} {res : (Int32 × zm_S) ⊕ ((Unit) × zm_S)} {out : (Int32 × zm_S)} (a0 : Nat) (hf : ∀ o, res = .inl o → o = out) (hk : ∀ (S' : zm_S), res = .inr ((), S') → zw p l e R s m args below meth c (vx_MQ below (zm_Qc zk_E V (zo_i out)) (zm_XC zk_E V zo_x) args s mc ms (fun q => V.2.2.2.1 ≤ q)) 2 zk_E V mc ms 36 [] [] S' rc rs) : ∀ (n : Nat) (i1 : Int32) (S : zm_S), zf_X9_leastThatMayCome_L2 N n a0 i1 S = some res → zw p l e R s m args below meth c (vx_MQ below (zm_Qc zk_E V (zo_i out)) (zm_XC zk_E V zo_x) args s mc ms (fun q => V.2.2.2.1 ≤ q)) 2 zk_E V mc ms 2 [(0, .ref a0), (1, .int i1)] [] S rc rs := by
  intro n
  induction n with
  | zero => intro i1 S h; cases h
  | succ n ih =>
    intro i1 S h
    rw [zf_X9_leastThatMayCome_L2] at h
    refine zw_iload_n hX dX9_leastThatMayCome_2 rfl ?_
    refine zw_aload_n hX dX9_leastThatMayCome_3 rfl ?_
    obtain ⟨v1, g, h⟩ := zb_some h
    refine zw_geti hX zl_X9_60 dX9_leastThatMayCome_4 g ?_
    refine zw_icmp_ge (tgt := 36) hX dX9_leastThatMayCome_7 (by decide) (fun c7 => ?_) (fun c7 => ?_)
    · rw [if_pos c7] at h
      refine zw_sub (lv' := []) zs_nil ?_
      exact hk  _ (Option.some.inj h).symm
    · rw [if_neg c7] at h
      refine zw_aload_n hX dX9_leastThatMayCome_10 rfl ?_
      obtain ⟨b2, g, h⟩ := zb_some h
      refine zw_getr hX zl_X9_54 dX9_leastThatMayCome_11 g ?_
      refine zw_iload_n hX dX9_leastThatMayCome_14 rfl ?_
      obtain ⟨v3, g, h⟩ := zb_some h
      refine zw_xi hX dX9_leastThatMayCome_15 g ?_
      refine zw_iconst (v := (-1 : Int32)) hX dX9_leastThatMayCome_16 (by decide) ?_
      refine zw_icmp_ne (tgt := 30) hX dX9_leastThatMayCome_17 (by decide) (fun c17 => ?_) (fun c17 => ?_)
      · rw [if_neg c17] at h
        refine zw_iinc (v := (i1 + (1 : Int32))) hX dX9_leastThatMayCome_30 rfl rfl (by decide) ?_
        refine zw_goto (tgt := 2) hX dX9_leastThatMayCome_33 (by decide) ?_
        refine zw_sub (lv' := [(0, .ref a0), (1, .int (i1 + (1 : Int32)))]) (List.forall_mem_cons.mpr ⟨rfl, (List.forall_mem_cons.mpr ⟨rfl, zs_nil⟩)⟩) ?_
        exact ih _ _ h
      · rw [if_pos c17] at h
        refine zw_aload_n hX dX9_leastThatMayCome_20 rfl ?_
        refine zw_iload_n hX dX9_leastThatMayCome_21 rfl ?_
        obtain ⟨_, gi, h⟩ := zb_some h
        obtain ⟨r5, g, h⟩ := zb_some h
        refine zc_Vi (as := [.int i1]) hX gi (zt_X9_mayCome (d := d - 1) (by omega) g) zl_X9_88 rfl dX9_leastThatMayCome_22 ⟨rfl, rfl, Nat.le_of_ble_eq_true rfl⟩ ⟨by omega, by omega⟩ ?_
        refine zw_if_eq (tgt := 30) hX dX9_leastThatMayCome_25 (by decide) (fun c25 => ?_) (fun c25 => ?_)
        · rw [if_pos c25] at h
          refine zw_iinc (v := (i1 + (1 : Int32))) hX dX9_leastThatMayCome_30 rfl rfl (by decide) ?_
          refine zw_goto (tgt := 2) hX dX9_leastThatMayCome_33 (by decide) ?_
          refine zw_sub (lv' := [(0, .ref a0), (1, .int (i1 + (1 : Int32)))]) (List.forall_mem_cons.mpr ⟨rfl, (List.forall_mem_cons.mpr ⟨rfl, zs_nil⟩)⟩) ?_
          exact ih _ _ h
        · rw [if_neg c25] at h
          refine zw_iload_n hX dX9_leastThatMayCome_28 rfl ?_
          have hz := hf _ (Option.some.inj h).symm
          subst hz
          exact zw_iret hX hr dX9_leastThatMayCome_29 rfl ⟨rfl, rfl⟩
set_option maxHeartbeats 4000000 in
set_option maxRecDepth 100000 in
theorem zt_X9_leastThatMayCome {l : Launch} {V : zm_V} {N : Nat} {S : zm_S} {out : (Int32 × zm_S)} {d : Nat} {a0 : Nat} (hd : 2 ≤ d) (h : zf_X9_leastThatMayCome N a0 S = some out) : zm_Met l zk_E V yX9_leastThatMayCome (.code yX9_leastThatMayCome cX9_leastThatMayCome 2 (some .int)) d [.ref a0] S 0 0 (zo_i out) zo_x := by
  refine zm_of (by decide +kernel) (Nat.le_of_ble_eq_true rfl) ?_
  intro p e R s m args below meth c hRR hX hr hxt
  have hR : R.frames = d ∧ R.locals = 64 * d := by rw [hRR]; exact ⟨rfl, rfl⟩
  have hX : zm_X p R s m args meth c RX9 "leastThatMayCome" cX9_leastThatMayCome 2 zk_E V 0 0 := hX
  unfold zf_X9_leastThatMayCome at h
  refine zw_sub (lv' := [(0, .ref a0)]) (List.forall_mem_cons.mpr ⟨rfl, zs_nil⟩) ?_
  refine zw_iconst (v := (0 : Int32)) hX dX9_leastThatMayCome_0 (by decide) ?_
  refine zw_istore_n hX dX9_leastThatMayCome_1 (by decide) ?_
  obtain ⟨r, g, h⟩ := zb_some h
  refine zw_sub (lv' := [(0, .ref a0), (1, .int (0 : Int32))]) (List.forall_mem_cons.mpr ⟨rfl, (List.forall_mem_cons.mpr ⟨rfl, zs_nil⟩)⟩) ?_
  refine zt_X9_leastThatMayCome_L2 hX hr hR hd (res := r) (out := out) a0 ?_ ?_ N _ _ g
  · intro o ho
    subst ho
    exact Option.some.inj h
  · intro  S6 hx
    subst hx
    try dsimp only at h
    refine zw_iconst (v := (-1 : Int32)) hX dX9_leastThatMayCome_36 (by decide) ?_
    obtain rfl := Option.some.inj h
    exact zw_iret hX hr dX9_leastThatMayCome_37 rfl ⟨rfl, rfl⟩
set_option maxHeartbeats 4000000 in
set_option maxRecDepth 100000 in
theorem zt_X9_place {l : Launch} {V : zm_V} {N : Nat} {S : zm_S} {out : (Unit × zm_S)} {d : Nat} {a0 : Nat} {i1 : Int32} {i2 : Int32} (hd : 1 ≤ d) (h : zf_X9_place N a0 i1 i2 S = some out) : zm_Met l zk_E V yX9_place (.code yX9_place cX9_place 3 none) d [.ref a0, .int i1, .int i2] S 0 0 (zo_v out) zo_x := by
  refine zm_of (by decide +kernel) (Nat.le_of_ble_eq_true rfl) ?_
  intro p e R s m args below meth c hRR hX hr hxt
  have hR : R.frames = d ∧ R.locals = 64 * d := by rw [hRR]; exact ⟨rfl, rfl⟩
  have hX : zm_X p R s m args meth c RX9 "place" cX9_place 3 zk_E V 0 0 := hX
  unfold zf_X9_place at h
  refine zw_sub (lv' := [(0, .ref a0), (1, .int i1), (2, .int i2)]) (List.forall_mem_cons.mpr ⟨rfl, (List.forall_mem_cons.mpr ⟨rfl, (List.forall_mem_cons.mpr ⟨rfl, zs_nil⟩)⟩)⟩) ?_
  refine zw_aload_n hX dX9_place_0 rfl ?_
  obtain ⟨b1, g, h⟩ := zb_some h
  refine zw_getr hX zl_X9_54 dX9_place_1 g ?_
  refine zw_iload_n hX dX9_place_4 rfl ?_
  refine zw_iload_n hX dX9_place_5 rfl ?_
  obtain ⟨S2, g, h⟩ := zb_some h
  refine zw_si hX dX9_place_6 g ?_
  refine zw_aload_n hX dX9_place_7 rfl ?_
  obtain ⟨b3, g, h⟩ := zb_some h
  refine zw_getr hX zl_X9_51 dX9_place_8 g ?_
  refine zw_iload_n hX dX9_place_11 rfl ?_
  refine zw_iload_n hX dX9_place_12 rfl ?_
  obtain ⟨S4, g, h⟩ := zb_some h
  refine zw_si hX dX9_place_13 g ?_
  obtain rfl := Option.some.inj h
  exact zw_vret hX hr dX9_place_14 ⟨rfl, rfl⟩
set_option maxHeartbeats 4000000 in
set_option maxRecDepth 100000 in
theorem zt_X9_sortBlocks_L23 {p : Program} {l : Launch} {e : Env} {R : Room} {s : State} {m : MethodId} {args : Array Value} {below : List Frame} {meth : Method} {c : Code} {V : zm_V} {mc ms d rc rs : Nat} (hX : zm_X p R s m args meth c RX9 "sortBlocks" cX9_sortBlocks 3 zk_E V mc ms) (hr : meth.sig.returnType = none) (hR : R.frames = d ∧ R.locals = 64 * d) (hd : 3 ≤ d) {N : Nat} {res : (Unit × zm_S) ⊕ ((Unit) × zm_S)} {out : (Unit × zm_S)} (a0 : Nat) (hf : ∀ o, res = .inl o → o = out) (hk : ∀ (S' : zm_S), res = .inr ((), S') → zw p l e R s m args below meth c (vx_MQ below (zm_Qc zk_E V (zo_v out)) (zm_XC zk_E V zo_x) args s mc ms (fun q => V.2.2.2.1 ≤ q)) 3 zk_E V mc ms 66 [(0, .ref a0)] [] S' rc rs) : ∀ (n : Nat) (i1 : Int32) (S : zm_S), zf_X9_sortBlocks_L23 N n a0 i1 S = some res → zw p l e R s m args below meth c (vx_MQ below (zm_Qc zk_E V (zo_v out)) (zm_XC zk_E V zo_x) args s mc ms (fun q => V.2.2.2.1 ≤ q)) 3 zk_E V mc ms 23 [(0, .ref a0), (1, .int i1)] [] S rc rs := by
  intro n
  induction n with
  | zero => intro i1 S h; cases h
  | succ n ih =>
    intro i1 S h
    rw [zf_X9_sortBlocks_L23] at h
    refine zw_iload_n hX dX9_sortBlocks_23 rfl ?_
    refine zw_aload_n hX dX9_sortBlocks_24 rfl ?_
    obtain ⟨v6, g, h⟩ := zb_some h
    refine zw_geti hX zl_X9_60 dX9_sortBlocks_25 g ?_
    refine zw_icmp_ge (tgt := 66) hX dX9_sortBlocks_28 (by decide) (fun c28 => ?_) (fun c28 => ?_)
    · rw [if_pos c28] at h
      refine zw_sub (lv' := [(0, .ref a0)]) (List.forall_mem_cons.mpr ⟨rfl, zs_nil⟩) ?_
      exact hk  _ (Option.some.inj h).symm
    · rw [if_neg c28] at h
      refine zw_aload_n hX dX9_sortBlocks_31 rfl ?_
      obtain ⟨_, gi, h⟩ := zb_some h
      obtain ⟨r8, g, h⟩ := zb_some h
      refine zc_Vi (as := []) hX gi (zt_X9_leastThatMayCome (d := d - 1) (by omega) g) zl_X9_80 rfl dX9_sortBlocks_32 ⟨rfl, rfl, Nat.le_of_ble_eq_true rfl⟩ ⟨by omega, by omega⟩ ?_
      refine zw_istore_n hX dX9_sortBlocks_35 (by decide) ?_
      refine zw_iload_n hX dX9_sortBlocks_36 rfl ?_
      refine zw_iconst (v := (-1 : Int32)) hX dX9_sortBlocks_37 (by decide) ?_
      refine zw_icmp_eq (tgt := 60) hX dX9_sortBlocks_38 (by decide) (fun c38 => ?_) (fun c38 => ?_)
      · rw [if_pos c38] at h
        refine zw_iinc (v := (i1 + (1 : Int32))) hX dX9_sortBlocks_60 rfl rfl (by decide) ?_
        refine zw_goto (tgt := 23) hX dX9_sortBlocks_63 (by decide) ?_
        refine zw_sub (lv' := [(0, .ref a0), (1, .int (i1 + (1 : Int32)))]) (List.forall_mem_cons.mpr ⟨rfl, (List.forall_mem_cons.mpr ⟨rfl, zs_nil⟩)⟩) ?_
        exact ih _ _ h
      · rw [if_neg c38] at h
        refine zw_aload_n hX dX9_sortBlocks_41 rfl ?_
        refine zw_iload_n hX dX9_sortBlocks_42 rfl ?_
        refine zw_aload_n hX dX9_sortBlocks_43 rfl ?_
        obtain ⟨v9, g, h⟩ := zb_some h
        refine zw_geti hX zl_X9_77 dX9_sortBlocks_44 g ?_
        obtain ⟨_, gi, h⟩ := zb_some h
        obtain ⟨r11, g, h⟩ := zb_some h
        refine zc_Vv (as := [.int r8.1, .int v9]) hX gi (zt_X9_place (d := d - 1) (by omega) g) zl_X9_84 rfl dX9_sortBlocks_47 ⟨rfl, rfl, Nat.le_of_ble_eq_true rfl⟩ ⟨by omega, by omega⟩ ?_
        refine zw_aload_n hX dX9_sortBlocks_50 rfl ?_
        refine zw_dup hX dX9_sortBlocks_51 rfl ?_
        obtain ⟨v12, g, h⟩ := zb_some h
        refine zw_geti hX zl_X9_77 dX9_sortBlocks_52 g ?_
        refine zw_iconst (v := (1 : Int32)) hX dX9_sortBlocks_55 (by decide) ?_
        refine zw_iadd hX dX9_sortBlocks_56 ?_
        obtain ⟨S13, g, h⟩ := zb_some h
        refine zw_putv hX zl_X9_77 zt_9_14 dX9_sortBlocks_57 rfl rfl g ?_
        refine zw_iinc (v := (i1 + (1 : Int32))) hX dX9_sortBlocks_60 rfl rfl (by decide) ?_
        refine zw_goto (tgt := 23) hX dX9_sortBlocks_63 (by decide) ?_
        refine zw_sub (lv' := [(0, .ref a0), (1, .int (i1 + (1 : Int32)))]) (List.forall_mem_cons.mpr ⟨rfl, (List.forall_mem_cons.mpr ⟨rfl, zs_nil⟩)⟩) ?_
        exact ih _ _ h
set_option maxHeartbeats 4000000 in
set_option maxRecDepth 100000 in
theorem zt_X9_sortBlocks_L73 {p : Program} {l : Launch} {e : Env} {R : Room} {s : State} {m : MethodId} {args : Array Value} {below : List Frame} {meth : Method} {c : Code} {V : zm_V} {mc ms d rc rs : Nat} (hX : zm_X p R s m args meth c RX9 "sortBlocks" cX9_sortBlocks 3 zk_E V mc ms) (hr : meth.sig.returnType = none) (hR : R.frames = d ∧ R.locals = 64 * d) (hd : 3 ≤ d) {N : Nat} {res : (Unit × zm_S) ⊕ ((Unit) × zm_S)} {out : (Unit × zm_S)} (a0 : Nat) (hf : ∀ o, res = .inl o → o = out) (hk : ∀ (S' : zm_S), res = .inr ((), S') → zw p l e R s m args below meth c (vx_MQ below (zm_Qc zk_E V (zo_v out)) (zm_XC zk_E V zo_x) args s mc ms (fun q => V.2.2.2.1 ≤ q)) 3 zk_E V mc ms 106 [(0, .ref a0)] [] S' rc rs) : ∀ (n : Nat) (i1 : Int32) (i2 : Int32) (S : zm_S), zf_X9_sortBlocks_L73 N n a0 i1 i2 S = some res → zw p l e R s m args below meth c (vx_MQ below (zm_Qc zk_E V (zo_v out)) (zm_XC zk_E V zo_x) args s mc ms (fun q => V.2.2.2.1 ≤ q)) 3 zk_E V mc ms 73 [(0, .ref a0), (1, .int i1), (2, .int i2)] [] S rc rs := by
  intro n
  induction n with
  | zero => intro i1 i2 S h; cases h
  | succ n ih =>
    intro i1 i2 S h
    rw [zf_X9_sortBlocks_L73] at h
    refine zw_iload_n hX dX9_sortBlocks_73 rfl ?_
    refine zw_aload_n hX dX9_sortBlocks_74 rfl ?_
    obtain ⟨v16, g, h⟩ := zb_some h
    refine zw_geti hX zl_X9_60 dX9_sortBlocks_75 g ?_
    refine zw_icmp_ge (tgt := 106) hX dX9_sortBlocks_78 (by decide) (fun c78 => ?_) (fun c78 => ?_)
    · rw [if_pos c78] at h
      refine zw_sub (lv' := [(0, .ref a0)]) (List.forall_mem_cons.mpr ⟨rfl, zs_nil⟩) ?_
      exact hk  _ (Option.some.inj h).symm
    · rw [if_neg c78] at h
      refine zw_aload_n hX dX9_sortBlocks_81 rfl ?_
      obtain ⟨b17, g, h⟩ := zb_some h
      refine zw_getr hX zl_X9_54 dX9_sortBlocks_82 g ?_
      refine zw_iload_n hX dX9_sortBlocks_85 rfl ?_
      obtain ⟨v18, g, h⟩ := zb_some h
      refine zw_xi hX dX9_sortBlocks_86 g ?_
      refine zw_iconst (v := (-1 : Int32)) hX dX9_sortBlocks_87 (by decide) ?_
      refine zw_icmp_ne (tgt := 100) hX dX9_sortBlocks_88 (by decide) (fun c88 => ?_) (fun c88 => ?_)
      · rw [if_neg c88] at h
        refine zw_iinc (v := (i2 + (1 : Int32))) hX dX9_sortBlocks_100 rfl rfl (by decide) ?_
        refine zw_goto (tgt := 73) hX dX9_sortBlocks_103 (by decide) ?_
        refine zw_sub (lv' := [(0, .ref a0), (1, .int i1), (2, .int (i2 + (1 : Int32)))]) (List.forall_mem_cons.mpr ⟨rfl, (List.forall_mem_cons.mpr ⟨rfl, (List.forall_mem_cons.mpr ⟨rfl, zs_nil⟩)⟩)⟩) ?_
        exact ih _ _ _ h
      · rw [if_pos c88] at h
        refine zw_aload_n hX dX9_sortBlocks_91 rfl ?_
        refine zw_iload_n hX dX9_sortBlocks_92 rfl ?_
        refine zw_iload_n hX dX9_sortBlocks_93 rfl ?_
        obtain ⟨_, gi, h⟩ := zb_some h
        obtain ⟨r20, g, h⟩ := zb_some h
        refine zc_Vv (as := [.int i2, .int i1]) hX gi (zt_X9_place (d := d - 1) (by omega) g) zl_X9_84 rfl dX9_sortBlocks_94 ⟨rfl, rfl, Nat.le_of_ble_eq_true rfl⟩ ⟨by omega, by omega⟩ ?_
        refine zw_iinc (v := (i1 + (1 : Int32))) hX dX9_sortBlocks_97 rfl rfl (by decide) ?_
        refine zw_iinc (v := (i2 + (1 : Int32))) hX dX9_sortBlocks_100 rfl rfl (by decide) ?_
        refine zw_goto (tgt := 73) hX dX9_sortBlocks_103 (by decide) ?_
        refine zw_sub (lv' := [(0, .ref a0), (1, .int (i1 + (1 : Int32))), (2, .int (i2 + (1 : Int32)))]) (List.forall_mem_cons.mpr ⟨rfl, (List.forall_mem_cons.mpr ⟨rfl, (List.forall_mem_cons.mpr ⟨rfl, zs_nil⟩)⟩)⟩) ?_
        exact ih _ _ _ h
set_option maxHeartbeats 4000000 in
set_option maxRecDepth 100000 in
theorem zt_X9_sortBlocks {l : Launch} {V : zm_V} {N : Nat} {S : zm_S} {out : (Unit × zm_S)} {d : Nat} {a0 : Nat} (hd : 3 ≤ d) (h : zf_X9_sortBlocks N a0 S = some out) : zm_Met l zk_E V yX9_sortBlocks (.code yX9_sortBlocks cX9_sortBlocks 3 none) d [.ref a0] S 0 0 (zo_v out) zo_x := by
  refine zm_of (by decide +kernel) (Nat.le_of_ble_eq_true rfl) ?_
  intro p e R s m args below meth c hRR hX hr hxt
  have hR : R.frames = d ∧ R.locals = 64 * d := by rw [hRR]; exact ⟨rfl, rfl⟩
  have hX : zm_X p R s m args meth c RX9 "sortBlocks" cX9_sortBlocks 3 zk_E V 0 0 := hX
  unfold zf_X9_sortBlocks at h
  refine zw_sub (lv' := [(0, .ref a0)]) (List.forall_mem_cons.mpr ⟨rfl, zs_nil⟩) ?_
  refine zw_aload_n hX dX9_sortBlocks_0 rfl ?_
  obtain ⟨v1, g, h⟩ := zb_some h
  refine zw_geti hX zl_X9_70 dX9_sortBlocks_1 g ?_
  refine zw_if_eq (tgt := 8) hX dX9_sortBlocks_4 (by decide) (fun c4 => ?_) (fun c4 => ?_)
  · rw [if_pos c4] at h
    refine zw_aload_n hX dX9_sortBlocks_8 rfl ?_
    obtain ⟨b2, g, h⟩ := zb_some h
    refine zw_getr hX zl_X9_54 dX9_sortBlocks_9 g ?_
    refine zw_iconst (v := (-1 : Int32)) hX dX9_sortBlocks_12 (by decide) ?_
    obtain ⟨r4, g, h⟩ := zb_some h
    refine zc_Sv (as := [.ref b2, .int (-1 : Int32)]) hX (zt_J7_fill_53178 (d := d - 1) (by omega) g) zl_X9_64 dX9_sortBlocks_13 ⟨rfl, rfl, Nat.le_of_ble_eq_true rfl⟩ ⟨by omega, by omega⟩ ?_
    refine zw_aload_n hX dX9_sortBlocks_16 rfl ?_
    refine zw_iconst (v := (0 : Int32)) hX dX9_sortBlocks_17 (by decide) ?_
    obtain ⟨S5, g, h⟩ := zb_some h
    refine zw_putv hX zl_X9_77 zt_9_14 dX9_sortBlocks_18 rfl rfl g ?_
    refine zw_iconst (v := (0 : Int32)) hX dX9_sortBlocks_21 (by decide) ?_
    refine zw_istore_n hX dX9_sortBlocks_22 (by decide) ?_
    obtain ⟨r, g, h⟩ := zb_some h
    refine zw_sub (lv' := [(0, .ref a0), (1, .int (0 : Int32))]) (List.forall_mem_cons.mpr ⟨rfl, (List.forall_mem_cons.mpr ⟨rfl, zs_nil⟩)⟩) ?_
    refine zt_X9_sortBlocks_L23 hX hr hR hd (res := r) (out := out) a0 ?_ ?_ N _ _ g
    · intro o ho
      subst ho
      exact Option.some.inj h
    · intro  S14 hx
      subst hx
      try dsimp only at h
      refine zw_aload_n hX dX9_sortBlocks_66 rfl ?_
      obtain ⟨v15, g, h⟩ := zb_some h
      refine zw_geti hX zl_X9_77 dX9_sortBlocks_67 g ?_
      refine zw_istore_n hX dX9_sortBlocks_70 (by decide) ?_
      refine zw_iconst (v := (0 : Int32)) hX dX9_sortBlocks_71 (by decide) ?_
      refine zw_istore_n hX dX9_sortBlocks_72 (by decide) ?_
      obtain ⟨r, g, h⟩ := zb_some h
      refine zw_sub (lv' := [(0, .ref a0), (1, .int v15), (2, .int (0 : Int32))]) (List.forall_mem_cons.mpr ⟨rfl, (List.forall_mem_cons.mpr ⟨rfl, (List.forall_mem_cons.mpr ⟨rfl, zs_nil⟩)⟩)⟩) ?_
      refine zt_X9_sortBlocks_L73 hX hr hR hd (res := r) (out := out) a0 ?_ ?_ N _ _ _ g
      · intro o ho
        subst ho
        exact Option.some.inj h
      · intro  S21 hx
        subst hx
        try dsimp only at h
        refine zw_aload_n hX dX9_sortBlocks_106 rfl ?_
        refine zw_iconst (v := (1 : Int32)) hX dX9_sortBlocks_107 (by decide) ?_
        obtain ⟨S22, g, h⟩ := zb_some h
        refine zw_putv hX zl_X9_70 zt_9_13 dX9_sortBlocks_108 rfl (by decide) g ?_
        obtain rfl := Option.some.inj h
        exact zw_vret hX hr dX9_sortBlocks_111 ⟨rfl, rfl⟩
  · rw [if_neg c4] at h
    obtain rfl := Option.some.inj h
    exact zw_vret hX hr dX9_sortBlocks_7 ⟨rfl, rfl⟩
set_option maxHeartbeats 4000000 in
set_option maxRecDepth 100000 in
theorem zt_X9_blockFact {l : Launch} {V : zm_V} {N : Nat} {S : zm_S} {out : (Int32 × zm_S)} {d : Nat} {a0 : Nat} {i1 : Int32} {i2 : Int32} (hd : 4 ≤ d) (h : zf_X9_blockFact N a0 i1 i2 S = some out) : zm_Met l zk_E V yX9_blockFact (.code yX9_blockFact cX9_blockFact 3 (some .int)) d [.ref a0, .int i1, .int i2] S 0 0 (zo_i out) zo_x := by
  refine zm_of (by decide +kernel) (Nat.le_of_ble_eq_true rfl) ?_
  intro p e R s m args below meth c hRR hX hr hxt
  have hR : R.frames = d ∧ R.locals = 64 * d := by rw [hRR]; exact ⟨rfl, rfl⟩
  have hX : zm_X p R s m args meth c RX9 "blockFact" cX9_blockFact 3 zk_E V 0 0 := hX
  unfold zf_X9_blockFact at h
  refine zw_sub (lv' := [(0, .ref a0), (1, .int i1), (2, .int i2)]) (List.forall_mem_cons.mpr ⟨rfl, (List.forall_mem_cons.mpr ⟨rfl, (List.forall_mem_cons.mpr ⟨rfl, zs_nil⟩)⟩)⟩) ?_
  refine zw_iload_n hX dX9_blockFact_0 rfl ?_
  by_cases c1_0 : (i2).toInt = 0
  · rw [if_pos c1_0] at h
    refine zw_tableIn (off := 27) (tgt := 28) hX dX9_blockFact_1 (by rw [c1_0]; decide) (by rw [c1_0]; decide) (by rw [c1_0]; decide) (by decide) ?_
    refine zw_aload_n hX dX9_blockFact_28 rfl ?_
    obtain ⟨b5, g, h⟩ := zb_some h
    refine zw_getr hX zl_X9_29 dX9_blockFact_29 g ?_
    refine zw_iload_n hX dX9_blockFact_32 rfl ?_
    obtain ⟨v6, g, h⟩ := zb_some h
    refine zw_xi hX dX9_blockFact_33 g ?_
    obtain rfl := Option.some.inj h
    exact zw_iret hX hr dX9_blockFact_34 rfl ⟨rfl, rfl⟩
  rw [if_neg c1_0] at h
  by_cases c1_1 : (i2).toInt = 1
  · rw [if_pos c1_1] at h
    refine zw_tableIn (off := 34) (tgt := 35) hX dX9_blockFact_1 (by rw [c1_1]; decide) (by rw [c1_1]; decide) (by rw [c1_1]; decide) (by decide) ?_
    refine zw_aload_n hX dX9_blockFact_35 rfl ?_
    obtain ⟨b7, g, h⟩ := zb_some h
    refine zw_getr hX zl_X9_32 dX9_blockFact_36 g ?_
    refine zw_iload_n hX dX9_blockFact_39 rfl ?_
    obtain ⟨b8, g, h⟩ := zb_some h
    refine zw_xr hX dX9_blockFact_40 g ?_
    refine zw_iconst (v := (0 : Int32)) hX dX9_blockFact_41 (by decide) ?_
    obtain ⟨v9, g, h⟩ := zb_some h
    refine zw_xi hX dX9_blockFact_42 g ?_
    obtain rfl := Option.some.inj h
    exact zw_iret hX hr dX9_blockFact_43 rfl ⟨rfl, rfl⟩
  rw [if_neg c1_1] at h
  by_cases c1_2 : (i2).toInt = 2
  · rw [if_pos c1_2] at h
    refine zw_tableIn (off := 43) (tgt := 44) hX dX9_blockFact_1 (by rw [c1_2]; decide) (by rw [c1_2]; decide) (by rw [c1_2]; decide) (by decide) ?_
    refine zw_aload_n hX dX9_blockFact_44 rfl ?_
    obtain ⟨b10, g, h⟩ := zb_some h
    refine zw_getr hX zl_X9_32 dX9_blockFact_45 g ?_
    refine zw_iload_n hX dX9_blockFact_48 rfl ?_
    obtain ⟨b11, g, h⟩ := zb_some h
    refine zw_xr hX dX9_blockFact_49 g ?_
    refine zw_iconst (v := (1 : Int32)) hX dX9_blockFact_50 (by decide) ?_
    obtain ⟨v12, g, h⟩ := zb_some h
    refine zw_xi hX dX9_blockFact_51 g ?_
    obtain rfl := Option.some.inj h
    exact zw_iret hX hr dX9_blockFact_52 rfl ⟨rfl, rfl⟩
  rw [if_neg c1_2] at h
  refine zw_tableOut (tgt := 53) hX dX9_blockFact_1 (by omega) (by decide) ?_
  refine zw_aload_n hX dX9_blockFact_53 rfl ?_
  obtain ⟨_, gi, h⟩ := zb_some h
  obtain ⟨r2, g, h⟩ := zb_some h
  refine zc_Vv (as := []) hX gi (zt_X9_sortBlocks (d := d - 1) (by omega) g) zl_X9_74 rfl dX9_blockFact_54 ⟨rfl, rfl, Nat.le_of_ble_eq_true rfl⟩ ⟨by omega, by omega⟩ ?_
  refine zw_aload_n hX dX9_blockFact_57 rfl ?_
  obtain ⟨b3, g, h⟩ := zb_some h
  refine zw_getr hX zl_X9_54 dX9_blockFact_58 g ?_
  refine zw_iload_n hX dX9_blockFact_61 rfl ?_
  obtain ⟨v4, g, h⟩ := zb_some h
  refine zw_xi hX dX9_blockFact_62 g ?_
  obtain rfl := Option.some.inj h
  exact zw_iret hX hr dX9_blockFact_63 rfl ⟨rfl, rfl⟩
set_option maxHeartbeats 4000000 in
set_option maxRecDepth 100000 in
theorem zt_X9_lacksInput_L2 {p : Program} {l : Launch} {e : Env} {R : Room} {s : State} {m : MethodId} {args : Array Value} {below : List Frame} {meth : Method} {c : Code} {V : zm_V} {mc ms d rc rs : Nat} (hX : zm_X p R s m args meth c RX9 "lacksInput" cX9_lacksInput 3 zk_E V mc ms) (hr : meth.sig.returnType = (some .boolean)) (hR : R.frames = d ∧ R.locals = 64 * d) (hd : 1 ≤ d) {N : Nat} {res : (Int32 × zm_S) ⊕ ((Unit) × zm_S)} {out : (Int32 × zm_S)} (a0 : Nat) (i1 : Int32) (hf : ∀ o, res = .inl o → o = out) (hk : ∀ (S' : zm_S), res = .inr ((), S') → zw p l e R s m args below meth c (vx_MQ below (zm_Qc zk_E V (zo_i out)) (zm_XC zk_E V zo_x) args s mc ms (fun q => V.2.2.2.1 ≤ q)) 3 zk_E V mc ms 36 [] [] S' rc rs) : ∀ (n : Nat) (i2 : Int32) (S : zm_S), zf_X9_lacksInput_L2 N n a0 i1 i2 S = some res → zw p l e R s m args below meth c (vx_MQ below (zm_Qc zk_E V (zo_i out)) (zm_XC zk_E V zo_x) args s mc ms (fun q => V.2.2.2.1 ≤ q)) 3 zk_E V mc ms 2 [(0, .ref a0), (1, .int i1), (2, .int i2)] [] S rc rs := by
  intro n
  induction n with
  | zero => intro i2 S h; cases h
  | succ n ih =>
    intro i2 S h
    rw [zf_X9_lacksInput_L2] at h
    refine zw_iload_n hX dX9_lacksInput_2 rfl ?_
    refine zw_gets (C := "TowerHouse$Program") (n := "INPUTS") (d := "[I") (k := 5) hX (List.mem_of_getElem? (i := 4) rfl) (by decide) zl_X9_92 dX9_lacksInput_3 ?_
    refine zw_aload_n hX dX9_lacksInput_6 rfl ?_
    obtain ⟨b1, g, h⟩ := zb_some h
    refine zw_getr hX zl_X9_11 dX9_lacksInput_7 g ?_
    refine zw_iload_n hX dX9_lacksInput_10 rfl ?_
    obtain ⟨v2, g, h⟩ := zb_some h
    refine zw_xi hX dX9_lacksInput_11 g ?_
    obtain ⟨v3, g, h⟩ := zb_some h
    refine zw_xi hX dX9_lacksInput_12 g ?_
    refine zw_icmp_ge (tgt := 36) hX dX9_lacksInput_13 (by decide) (fun c13 => ?_) (fun c13 => ?_)
    · rw [if_pos c13] at h
      refine zw_sub (lv' := []) zs_nil ?_
      exact hk  _ (Option.some.inj h).symm
    · rw [if_neg c13] at h
      refine zw_aload_n hX dX9_lacksInput_16 rfl ?_
      obtain ⟨b4, g, h⟩ := zb_some h
      refine zw_getr hX zl_X9_26 dX9_lacksInput_17 g ?_
      refine zw_iload_n hX dX9_lacksInput_20 rfl ?_
      obtain ⟨b5, g, h⟩ := zb_some h
      refine zw_xr hX dX9_lacksInput_21 g ?_
      refine zw_iload_n hX dX9_lacksInput_22 rfl ?_
      obtain ⟨v6, g, h⟩ := zb_some h
      refine zw_xi hX dX9_lacksInput_23 g ?_
      refine zw_iconst (v := (-1 : Int32)) hX dX9_lacksInput_24 (by decide) ?_
      refine zw_icmp_ne (tgt := 30) hX dX9_lacksInput_25 (by decide) (fun c25 => ?_) (fun c25 => ?_)
      · rw [if_neg c25] at h
        refine zw_iinc (v := (i2 + (1 : Int32))) hX dX9_lacksInput_30 rfl rfl (by decide) ?_
        refine zw_goto (tgt := 2) hX dX9_lacksInput_33 (by decide) ?_
        refine zw_sub (lv' := [(0, .ref a0), (1, .int i1), (2, .int (i2 + (1 : Int32)))]) (List.forall_mem_cons.mpr ⟨rfl, (List.forall_mem_cons.mpr ⟨rfl, (List.forall_mem_cons.mpr ⟨rfl, zs_nil⟩)⟩)⟩) ?_
        exact ih _ _ h
      · rw [if_pos c25] at h
        refine zw_iconst (v := (1 : Int32)) hX dX9_lacksInput_28 (by decide) ?_
        have hz := hf _ (Option.some.inj h).symm
        subst hz
        exact zw_iret hX hr dX9_lacksInput_29 rfl ⟨rfl, rfl⟩
set_option maxHeartbeats 4000000 in
set_option maxRecDepth 100000 in
theorem zt_X9_lacksInput {l : Launch} {V : zm_V} {N : Nat} {S : zm_S} {out : (Int32 × zm_S)} {d : Nat} {a0 : Nat} {i1 : Int32} (hd : 1 ≤ d) (h : zf_X9_lacksInput N a0 i1 S = some out) : zm_Met l zk_E V yX9_lacksInput (.code yX9_lacksInput cX9_lacksInput 3 (some .boolean)) d [.ref a0, .int i1] S 0 0 (zo_i out) zo_x := by
  refine zm_of (by decide +kernel) (Nat.le_of_ble_eq_true rfl) ?_
  intro p e R s m args below meth c hRR hX hr hxt
  have hR : R.frames = d ∧ R.locals = 64 * d := by rw [hRR]; exact ⟨rfl, rfl⟩
  have hX : zm_X p R s m args meth c RX9 "lacksInput" cX9_lacksInput 3 zk_E V 0 0 := hX
  unfold zf_X9_lacksInput at h
  refine zw_sub (lv' := [(0, .ref a0), (1, .int i1)]) (List.forall_mem_cons.mpr ⟨rfl, (List.forall_mem_cons.mpr ⟨rfl, zs_nil⟩)⟩) ?_
  refine zw_iconst (v := (0 : Int32)) hX dX9_lacksInput_0 (by decide) ?_
  refine zw_istore_n hX dX9_lacksInput_1 (by decide) ?_
  obtain ⟨r, g, h⟩ := zb_some h
  refine zw_sub (lv' := [(0, .ref a0), (1, .int i1), (2, .int (0 : Int32))]) (List.forall_mem_cons.mpr ⟨rfl, (List.forall_mem_cons.mpr ⟨rfl, (List.forall_mem_cons.mpr ⟨rfl, zs_nil⟩)⟩)⟩) ?_
  refine zt_X9_lacksInput_L2 hX hr hR hd (res := r) (out := out) a0 i1 ?_ ?_ N _ _ g
  · intro o ho
    subst ho
    exact Option.some.inj h
  · intro  S7 hx
    subst hx
    try dsimp only at h
    refine zw_iconst (v := (0 : Int32)) hX dX9_lacksInput_36 (by decide) ?_
    obtain rfl := Option.some.inj h
    exact zw_iret hX hr dX9_lacksInput_37 rfl ⟨rfl, rfl⟩
set_option maxHeartbeats 4000000 in
set_option maxRecDepth 100000 in
theorem zt_X9_fail {l : Launch} {V : zm_V} {N : Nat} {S : zm_S} {out : (Int32 × zm_S)} {d : Nat} {a0 : Nat} {i1 : Int32} (hd : 1 ≤ d) (h : zf_X9_fail N a0 i1 S = some out) : zm_Met l zk_E V yX9_fail (.code yX9_fail cX9_fail 2 (some .int)) d [.ref a0, .int i1] S 0 0 (zo_i out) zo_x := by
  refine zm_of (by decide +kernel) (Nat.le_of_ble_eq_true rfl) ?_
  intro p e R s m args below meth c hRR hX hr hxt
  have hR : R.frames = d ∧ R.locals = 64 * d := by rw [hRR]; exact ⟨rfl, rfl⟩
  have hX : zm_X p R s m args meth c RX9 "fail" cX9_fail 2 zk_E V 0 0 := hX
  unfold zf_X9_fail at h
  refine zw_sub (lv' := [(0, .ref a0), (1, .int i1)]) (List.forall_mem_cons.mpr ⟨rfl, (List.forall_mem_cons.mpr ⟨rfl, zs_nil⟩)⟩) ?_
  refine zw_aload_n hX dX9_fail_0 rfl ?_
  refine zw_iload_n hX dX9_fail_1 rfl ?_
  obtain ⟨S1, g, h⟩ := zb_some h
  refine zw_putv hX zl_X9_105 zt_9_19 dX9_fail_2 rfl rfl g ?_
  refine zw_iconst (v := (0 : Int32)) hX dX9_fail_5 (by decide) ?_
  obtain rfl := Option.some.inj h
  exact zw_iret hX hr dX9_fail_6 rfl ⟨rfl, rfl⟩
set_option maxHeartbeats 4000000 in
set_option maxRecDepth 100000 in
theorem zt_X9_inputOf {l : Launch} {V : zm_V} {N : Nat} {S : zm_S} {out : (Int32 × zm_S)} {d : Nat} {a0 : Nat} {i1 : Int32} {i2 : Int32} (hd : 1 ≤ d) (h : zf_X9_inputOf N a0 i1 i2 S = some out) : zm_Met l zk_E V yX9_inputOf (.code yX9_inputOf cX9_inputOf 4 (some .int)) d [.ref a0, .int i1, .int i2] S 0 0 (zo_i out) zo_x := by
  refine zm_of (by decide +kernel) (Nat.le_of_ble_eq_true rfl) ?_
  intro p e R s m args below meth c hRR hX hr hxt
  have hR : R.frames = d ∧ R.locals = 64 * d := by rw [hRR]; exact ⟨rfl, rfl⟩
  have hX : zm_X p R s m args meth c RX9 "inputOf" cX9_inputOf 4 zk_E V 0 0 := hX
  unfold zf_X9_inputOf at h
  refine zw_sub (lv' := [(0, .ref a0), (1, .int i1), (2, .int i2)]) (List.forall_mem_cons.mpr ⟨rfl, (List.forall_mem_cons.mpr ⟨rfl, (List.forall_mem_cons.mpr ⟨rfl, zs_nil⟩)⟩)⟩) ?_
  refine zw_aload_n hX dX9_inputOf_0 rfl ?_
  obtain ⟨b1, g, h⟩ := zb_some h
  refine zw_getr hX zl_X9_26 dX9_inputOf_1 g ?_
  refine zw_iload_n hX dX9_inputOf_4 rfl ?_
  obtain ⟨b2, g, h⟩ := zb_some h
  refine zw_xr hX dX9_inputOf_5 g ?_
  refine zw_iload_n hX dX9_inputOf_6 rfl ?_
  obtain ⟨v3, g, h⟩ := zb_some h
  refine zw_xi hX dX9_inputOf_7 g ?_
  refine zw_istore_n hX dX9_inputOf_8 (by decide) ?_
  refine zw_iload_n hX dX9_inputOf_9 rfl ?_
  refine zw_iconst (v := (-1 : Int32)) hX dX9_inputOf_10 (by decide) ?_
  refine zw_icmp_ne (tgt := 18) hX dX9_inputOf_11 (by decide) (fun c11 => ?_) (fun c11 => ?_)
  · rw [if_neg c11] at h
    refine zw_aload_n hX dX9_inputOf_18 rfl ?_
    obtain ⟨b4, g, h⟩ := zb_some h
    refine zw_getr hX zl_X9_29 dX9_inputOf_19 g ?_
    refine zw_iload_n hX dX9_inputOf_22 rfl ?_
    obtain ⟨v5, g, h⟩ := zb_some h
    refine zw_xi hX dX9_inputOf_23 g ?_
    obtain rfl := Option.some.inj h
    exact zw_iret hX hr dX9_inputOf_24 rfl ⟨rfl, rfl⟩
  · rw [if_pos c11] at h
    refine zw_iconst (v := (0 : Int32)) hX dX9_inputOf_14 (by decide) ?_
    refine zw_goto (tgt := 24) hX dX9_inputOf_15 (by decide) ?_
    obtain rfl := Option.some.inj h
    exact zw_iret hX hr dX9_inputOf_24 rfl ⟨rfl, rfl⟩
set_option maxHeartbeats 4000000 in
set_option maxRecDepth 100000 in
theorem zt_X9_reckonPlain_J184 {p : Program} {l : Launch} {e : Env} {R : Room} {s : State} {m : MethodId} {args : Array Value} {below : List Frame} {meth : Method} {c : Code} {V : zm_V} {mc ms d rc rs : Nat} (hX : zm_X p R s m args meth c RX9 "reckonPlain" cX9_reckonPlain 5 zk_E V mc ms) (hr : meth.sig.returnType = (some .int)) (hR : R.frames = d ∧ R.locals = 64 * d) (hd : 2 ≤ d) {N : Nat} {i2 : Int32} {i3 : Int32} {i4 : Int32} {out : (Int32 × zm_S)} {S : zm_S} (h : zf_X9_reckonPlain_J184 N i2 i3 i4 S = some out) : zw p l e R s m args below meth c (vx_MQ below (zm_Qc zk_E V (zo_i out)) (zm_XC zk_E V zo_x) args s mc ms (fun q => V.2.2.2.1 ≤ q)) 5 zk_E V mc ms 184 [(2, .int i2), (3, .int i3), (4, .int i4)] [] S rc rs := by
  unfold zf_X9_reckonPlain_J184 at h
  refine zw_iload_n hX dX9_reckonPlain_184 rfl ?_
  refine zw_if_eq (tgt := 192) hX dX9_reckonPlain_185 (by decide) (fun c185 => ?_) (fun c185 => ?_)
  · rw [if_pos c185] at h
    refine zw_iload hX dX9_reckonPlain_192 rfl ?_
    obtain rfl := Option.some.inj h
    exact zw_iret hX hr dX9_reckonPlain_194 rfl ⟨rfl, rfl⟩
  · rw [if_neg c185] at h
    refine zw_iload_n hX dX9_reckonPlain_188 rfl ?_
    refine zw_goto (tgt := 194) hX dX9_reckonPlain_189 (by decide) ?_
    obtain rfl := Option.some.inj h
    exact zw_iret hX hr dX9_reckonPlain_194 rfl ⟨rfl, rfl⟩
set_option maxHeartbeats 4000000 in
set_option maxRecDepth 100000 in
theorem zt_X9_reckonPlain_J64 {p : Program} {l : Launch} {e : Env} {R : Room} {s : State} {m : MethodId} {args : Array Value} {below : List Frame} {meth : Method} {c : Code} {V : zm_V} {mc ms d rc rs : Nat} (hX : zm_X p R s m args meth c RX9 "reckonPlain" cX9_reckonPlain 5 zk_E V mc ms) (hr : meth.sig.returnType = (some .int)) (hR : R.frames = d ∧ R.locals = 64 * d) (hd : 2 ≤ d) {N : Nat} {i2 : Int32} {i3 : Int32} {out : (Int32 × zm_S)} {S : zm_S} (h : zf_X9_reckonPlain_J64 N i2 i3 S = some out) : zw p l e R s m args below meth c (vx_MQ below (zm_Qc zk_E V (zo_i out)) (zm_XC zk_E V zo_x) args s mc ms (fun q => V.2.2.2.1 ≤ q)) 5 zk_E V mc ms 64 [(2, .int i2), (3, .int i3)] [] S rc rs := by
  unfold zf_X9_reckonPlain_J64 at h
  refine zw_iload_n hX dX9_reckonPlain_64 rfl ?_
  refine zw_iload_n hX dX9_reckonPlain_65 rfl ?_
  refine zw_iadd hX dX9_reckonPlain_66 ?_
  obtain rfl := Option.some.inj h
  exact zw_iret hX hr dX9_reckonPlain_67 rfl ⟨rfl, rfl⟩
set_option maxHeartbeats 4000000 in
set_option maxRecDepth 100000 in
theorem zt_X9_reckonPlain_J68 {p : Program} {l : Launch} {e : Env} {R : Room} {s : State} {m : MethodId} {args : Array Value} {below : List Frame} {meth : Method} {c : Code} {V : zm_V} {mc ms d rc rs : Nat} (hX : zm_X p R s m args meth c RX9 "reckonPlain" cX9_reckonPlain 5 zk_E V mc ms) (hr : meth.sig.returnType = (some .int)) (hR : R.frames = d ∧ R.locals = 64 * d) (hd : 2 ≤ d) {N : Nat} {i2 : Int32} {i3 : Int32} {out : (Int32 × zm_S)} {S : zm_S} (h : zf_X9_reckonPlain_J68 N i2 i3 S = some out) : zw p l e R s m args below meth c (vx_MQ below (zm_Qc zk_E V (zo_i out)) (zm_XC zk_E V zo_x) args s mc ms (fun q => V.2.2.2.1 ≤ q)) 5 zk_E V mc ms 68 [(2, .int i2), (3, .int i3)] [] S rc rs := by
  unfold zf_X9_reckonPlain_J68 at h
  refine zw_iload_n hX dX9_reckonPlain_68 rfl ?_
  refine zw_iload_n hX dX9_reckonPlain_69 rfl ?_
  refine zw_isub hX dX9_reckonPlain_70 ?_
  obtain rfl := Option.some.inj h
  exact zw_iret hX hr dX9_reckonPlain_71 rfl ⟨rfl, rfl⟩
set_option maxHeartbeats 4000000 in
set_option maxRecDepth 100000 in
theorem zt_X9_reckonPlain_J72 {p : Program} {l : Launch} {e : Env} {R : Room} {s : State} {m : MethodId} {args : Array Value} {below : List Frame} {meth : Method} {c : Code} {V : zm_V} {mc ms d rc rs : Nat} (hX : zm_X p R s m args meth c RX9 "reckonPlain" cX9_reckonPlain 5 zk_E V mc ms) (hr : meth.sig.returnType = (some .int)) (hR : R.frames = d ∧ R.locals = 64 * d) (hd : 2 ≤ d) {N : Nat} {i2 : Int32} {i3 : Int32} {out : (Int32 × zm_S)} {S : zm_S} (h : zf_X9_reckonPlain_J72 N i2 i3 S = some out) : zw p l e R s m args below meth c (vx_MQ below (zm_Qc zk_E V (zo_i out)) (zm_XC zk_E V zo_x) args s mc ms (fun q => V.2.2.2.1 ≤ q)) 5 zk_E V mc ms 72 [(2, .int i2), (3, .int i3)] [] S rc rs := by
  unfold zf_X9_reckonPlain_J72 at h
  refine zw_iload_n hX dX9_reckonPlain_72 rfl ?_
  refine zw_iload_n hX dX9_reckonPlain_73 rfl ?_
  refine zw_imul hX dX9_reckonPlain_74 ?_
  obtain rfl := Option.some.inj h
  exact zw_iret hX hr dX9_reckonPlain_75 rfl ⟨rfl, rfl⟩
set_option maxHeartbeats 4000000 in
set_option maxRecDepth 100000 in
theorem zt_X9_reckonPlain_J76 {p : Program} {l : Launch} {e : Env} {R : Room} {s : State} {m : MethodId} {args : Array Value} {below : List Frame} {meth : Method} {c : Code} {V : zm_V} {mc ms d rc rs : Nat} (hX : zm_X p R s m args meth c RX9 "reckonPlain" cX9_reckonPlain 5 zk_E V mc ms) (hr : meth.sig.returnType = (some .int)) (hR : R.frames = d ∧ R.locals = 64 * d) (hd : 2 ≤ d) {N : Nat} {a0 : Nat} {i2 : Int32} {i3 : Int32} {out : (Int32 × zm_S)} {S : zm_S} (h : zf_X9_reckonPlain_J76 N a0 i2 i3 S = some out) : zw p l e R s m args below meth c (vx_MQ below (zm_Qc zk_E V (zo_i out)) (zm_XC zk_E V zo_x) args s mc ms (fun q => V.2.2.2.1 ≤ q)) 5 zk_E V mc ms 76 [(0, .ref a0), (2, .int i2), (3, .int i3)] [] S rc rs := by
  unfold zf_X9_reckonPlain_J76 at h
  refine zw_iload_n hX dX9_reckonPlain_76 rfl ?_
  refine zw_if_ne (tgt := 88) hX dX9_reckonPlain_77 (by decide) (fun c77 => ?_) (fun c77 => ?_)
  · rw [if_neg c77] at h
    refine zw_iload_n hX dX9_reckonPlain_88 rfl ?_
    refine zw_iload_n hX dX9_reckonPlain_89 rfl ?_
    by_cases c0 : i3 = 0
    · rw [if_pos c0] at h
      cases h
    rw [if_neg c0] at h
    refine zw_idiv hX dX9_reckonPlain_90 c0 ?_
    obtain rfl := Option.some.inj h
    exact zw_iret hX hr dX9_reckonPlain_91 rfl ⟨rfl, rfl⟩
  · rw [if_pos c77] at h
    refine zw_aload_n hX dX9_reckonPlain_80 rfl ?_
    refine zw_iconst (v := (1 : Int32)) hX dX9_reckonPlain_81 (by decide) ?_
    obtain ⟨_, gi, h⟩ := zb_some h
    obtain ⟨r2, g, h⟩ := zb_some h
    refine zc_Vi (as := [.int (1 : Int32)]) hX gi (zt_X9_fail (d := d - 1) (by omega) g) zl_X9_118 rfl dX9_reckonPlain_82 ⟨rfl, rfl, Nat.le_of_ble_eq_true rfl⟩ ⟨by omega, by omega⟩ ?_
    refine zw_goto (tgt := 91) hX dX9_reckonPlain_85 (by decide) ?_
    obtain rfl := Option.some.inj h
    exact zw_iret hX hr dX9_reckonPlain_91 rfl ⟨rfl, rfl⟩
set_option maxHeartbeats 4000000 in
set_option maxRecDepth 100000 in
theorem zt_X9_reckonPlain_J92 {p : Program} {l : Launch} {e : Env} {R : Room} {s : State} {m : MethodId} {args : Array Value} {below : List Frame} {meth : Method} {c : Code} {V : zm_V} {mc ms d rc rs : Nat} (hX : zm_X p R s m args meth c RX9 "reckonPlain" cX9_reckonPlain 5 zk_E V mc ms) (hr : meth.sig.returnType = (some .int)) (hR : R.frames = d ∧ R.locals = 64 * d) (hd : 2 ≤ d) {N : Nat} {a0 : Nat} {i2 : Int32} {i3 : Int32} {out : (Int32 × zm_S)} {S : zm_S} (h : zf_X9_reckonPlain_J92 N a0 i2 i3 S = some out) : zw p l e R s m args below meth c (vx_MQ below (zm_Qc zk_E V (zo_i out)) (zm_XC zk_E V zo_x) args s mc ms (fun q => V.2.2.2.1 ≤ q)) 5 zk_E V mc ms 92 [(0, .ref a0), (2, .int i2), (3, .int i3)] [] S rc rs := by
  unfold zf_X9_reckonPlain_J92 at h
  refine zw_iload_n hX dX9_reckonPlain_92 rfl ?_
  refine zw_if_ne (tgt := 104) hX dX9_reckonPlain_93 (by decide) (fun c93 => ?_) (fun c93 => ?_)
  · rw [if_neg c93] at h
    refine zw_iload_n hX dX9_reckonPlain_104 rfl ?_
    refine zw_iload_n hX dX9_reckonPlain_105 rfl ?_
    refine zw_iload_n hX dX9_reckonPlain_106 rfl ?_
    refine zw_iload_n hX dX9_reckonPlain_107 rfl ?_
    by_cases c0 : i3 = 0
    · rw [if_pos c0] at h
      cases h
    rw [if_neg c0] at h
    refine zw_idiv hX dX9_reckonPlain_108 c0 ?_
    refine zw_imul hX dX9_reckonPlain_109 ?_
    refine zw_isub hX dX9_reckonPlain_110 ?_
    obtain rfl := Option.some.inj h
    exact zw_iret hX hr dX9_reckonPlain_111 rfl ⟨rfl, rfl⟩
  · rw [if_pos c93] at h
    refine zw_aload_n hX dX9_reckonPlain_96 rfl ?_
    refine zw_iconst (v := (1 : Int32)) hX dX9_reckonPlain_97 (by decide) ?_
    obtain ⟨_, gi, h⟩ := zb_some h
    obtain ⟨r4, g, h⟩ := zb_some h
    refine zc_Vi (as := [.int (1 : Int32)]) hX gi (zt_X9_fail (d := d - 1) (by omega) g) zl_X9_118 rfl dX9_reckonPlain_98 ⟨rfl, rfl, Nat.le_of_ble_eq_true rfl⟩ ⟨by omega, by omega⟩ ?_
    refine zw_goto (tgt := 111) hX dX9_reckonPlain_101 (by decide) ?_
    obtain rfl := Option.some.inj h
    exact zw_iret hX hr dX9_reckonPlain_111 rfl ⟨rfl, rfl⟩
set_option maxHeartbeats 4000000 in
set_option maxRecDepth 100000 in
theorem zt_X9_reckonPlain_J112 {p : Program} {l : Launch} {e : Env} {R : Room} {s : State} {m : MethodId} {args : Array Value} {below : List Frame} {meth : Method} {c : Code} {V : zm_V} {mc ms d rc rs : Nat} (hX : zm_X p R s m args meth c RX9 "reckonPlain" cX9_reckonPlain 5 zk_E V mc ms) (hr : meth.sig.returnType = (some .int)) (hR : R.frames = d ∧ R.locals = 64 * d) (hd : 2 ≤ d) {N : Nat} {i2 : Int32} {i3 : Int32} {out : (Int32 × zm_S)} {S : zm_S} (h : zf_X9_reckonPlain_J112 N i2 i3 S = some out) : zw p l e R s m args below meth c (vx_MQ below (zm_Qc zk_E V (zo_i out)) (zm_XC zk_E V zo_x) args s mc ms (fun q => V.2.2.2.1 ≤ q)) 5 zk_E V mc ms 112 [(2, .int i2), (3, .int i3)] [] S rc rs := by
  unfold zf_X9_reckonPlain_J112 at h
  refine zw_iload_n hX dX9_reckonPlain_112 rfl ?_
  refine zw_iload_n hX dX9_reckonPlain_113 rfl ?_
  refine zw_mmin hX zl_X9_132 dX9_reckonPlain_114 (Nat.le_of_ble_eq_true rfl) ⟨by omega, by omega⟩ ?_
  obtain rfl := Option.some.inj h
  exact zw_iret hX hr dX9_reckonPlain_117 rfl ⟨rfl, rfl⟩
set_option maxHeartbeats 4000000 in
set_option maxRecDepth 100000 in
theorem zt_X9_reckonPlain_J118 {p : Program} {l : Launch} {e : Env} {R : Room} {s : State} {m : MethodId} {args : Array Value} {below : List Frame} {meth : Method} {c : Code} {V : zm_V} {mc ms d rc rs : Nat} (hX : zm_X p R s m args meth c RX9 "reckonPlain" cX9_reckonPlain 5 zk_E V mc ms) (hr : meth.sig.returnType = (some .int)) (hR : R.frames = d ∧ R.locals = 64 * d) (hd : 2 ≤ d) {N : Nat} {i2 : Int32} {i3 : Int32} {out : (Int32 × zm_S)} {S : zm_S} (h : zf_X9_reckonPlain_J118 N i2 i3 S = some out) : zw p l e R s m args below meth c (vx_MQ below (zm_Qc zk_E V (zo_i out)) (zm_XC zk_E V zo_x) args s mc ms (fun q => V.2.2.2.1 ≤ q)) 5 zk_E V mc ms 118 [(2, .int i2), (3, .int i3)] [] S rc rs := by
  unfold zf_X9_reckonPlain_J118 at h
  refine zw_iload_n hX dX9_reckonPlain_118 rfl ?_
  refine zw_iload_n hX dX9_reckonPlain_119 rfl ?_
  refine zw_mmax hX zl_X9_137 dX9_reckonPlain_120 (Nat.le_of_ble_eq_true rfl) ⟨by omega, by omega⟩ ?_
  obtain rfl := Option.some.inj h
  exact zw_iret hX hr dX9_reckonPlain_123 rfl ⟨rfl, rfl⟩
set_option maxHeartbeats 4000000 in
set_option maxRecDepth 100000 in
theorem zt_X9_reckonPlain_J124 {p : Program} {l : Launch} {e : Env} {R : Room} {s : State} {m : MethodId} {args : Array Value} {below : List Frame} {meth : Method} {c : Code} {V : zm_V} {mc ms d rc rs : Nat} (hX : zm_X p R s m args meth c RX9 "reckonPlain" cX9_reckonPlain 5 zk_E V mc ms) (hr : meth.sig.returnType = (some .int)) (hR : R.frames = d ∧ R.locals = 64 * d) (hd : 2 ≤ d) {N : Nat} {i2 : Int32} {i3 : Int32} {out : (Int32 × zm_S)} {S : zm_S} (h : zf_X9_reckonPlain_J124 N i2 i3 S = some out) : zw p l e R s m args below meth c (vx_MQ below (zm_Qc zk_E V (zo_i out)) (zm_XC zk_E V zo_x) args s mc ms (fun q => V.2.2.2.1 ≤ q)) 5 zk_E V mc ms 124 [(2, .int i2), (3, .int i3)] [] S rc rs := by
  unfold zf_X9_reckonPlain_J124 at h
  refine zw_iload_n hX dX9_reckonPlain_124 rfl ?_
  refine zw_iload_n hX dX9_reckonPlain_125 rfl ?_
  refine zw_icmp_ge (tgt := 133) hX dX9_reckonPlain_126 (by decide) (fun c126 => ?_) (fun c126 => ?_)
  · rw [if_pos c126] at h
    refine zw_iconst (v := (0 : Int32)) hX dX9_reckonPlain_133 (by decide) ?_
    obtain rfl := Option.some.inj h
    exact zw_iret hX hr dX9_reckonPlain_134 rfl ⟨rfl, rfl⟩
  · rw [if_neg c126] at h
    refine zw_iconst (v := (1 : Int32)) hX dX9_reckonPlain_129 (by decide) ?_
    refine zw_goto (tgt := 134) hX dX9_reckonPlain_130 (by decide) ?_
    obtain rfl := Option.some.inj h
    exact zw_iret hX hr dX9_reckonPlain_134 rfl ⟨rfl, rfl⟩
set_option maxHeartbeats 4000000 in
set_option maxRecDepth 100000 in
theorem zt_X9_reckonPlain_J135 {p : Program} {l : Launch} {e : Env} {R : Room} {s : State} {m : MethodId} {args : Array Value} {below : List Frame} {meth : Method} {c : Code} {V : zm_V} {mc ms d rc rs : Nat} (hX : zm_X p R s m args meth c RX9 "reckonPlain" cX9_reckonPlain 5 zk_E V mc ms) (hr : meth.sig.returnType = (some .int)) (hR : R.frames = d ∧ R.locals = 64 * d) (hd : 2 ≤ d) {N : Nat} {i2 : Int32} {i3 : Int32} {out : (Int32 × zm_S)} {S : zm_S} (h : zf_X9_reckonPlain_J135 N i2 i3 S = some out) : zw p l e R s m args below meth c (vx_MQ below (zm_Qc zk_E V (zo_i out)) (zm_XC zk_E V zo_x) args s mc ms (fun q => V.2.2.2.1 ≤ q)) 5 zk_E V mc ms 135 [(2, .int i2), (3, .int i3)] [] S rc rs := by
  unfold zf_X9_reckonPlain_J135 at h
  refine zw_iload_n hX dX9_reckonPlain_135 rfl ?_
  refine zw_iload_n hX dX9_reckonPlain_136 rfl ?_
  refine zw_icmp_ne (tgt := 144) hX dX9_reckonPlain_137 (by decide) (fun c137 => ?_) (fun c137 => ?_)
  · rw [if_neg c137] at h
    refine zw_iconst (v := (0 : Int32)) hX dX9_reckonPlain_144 (by decide) ?_
    obtain rfl := Option.some.inj h
    exact zw_iret hX hr dX9_reckonPlain_145 rfl ⟨rfl, rfl⟩
  · rw [if_pos c137] at h
    refine zw_iconst (v := (1 : Int32)) hX dX9_reckonPlain_140 (by decide) ?_
    refine zw_goto (tgt := 145) hX dX9_reckonPlain_141 (by decide) ?_
    obtain rfl := Option.some.inj h
    exact zw_iret hX hr dX9_reckonPlain_145 rfl ⟨rfl, rfl⟩
set_option maxHeartbeats 4000000 in
set_option maxRecDepth 100000 in
theorem zt_X9_reckonPlain_J146 {p : Program} {l : Launch} {e : Env} {R : Room} {s : State} {m : MethodId} {args : Array Value} {below : List Frame} {meth : Method} {c : Code} {V : zm_V} {mc ms d rc rs : Nat} (hX : zm_X p R s m args meth c RX9 "reckonPlain" cX9_reckonPlain 5 zk_E V mc ms) (hr : meth.sig.returnType = (some .int)) (hR : R.frames = d ∧ R.locals = 64 * d) (hd : 2 ≤ d) {N : Nat} {i2 : Int32} {i3 : Int32} {out : (Int32 × zm_S)} {S : zm_S} (h : zf_X9_reckonPlain_J146 N i2 i3 S = some out) : zw p l e R s m args below meth c (vx_MQ below (zm_Qc zk_E V (zo_i out)) (zm_XC zk_E V zo_x) args s mc ms (fun q => V.2.2.2.1 ≤ q)) 5 zk_E V mc ms 146 [(2, .int i2), (3, .int i3)] [] S rc rs := by
  unfold zf_X9_reckonPlain_J146 at h
  refine zw_iload_n hX dX9_reckonPlain_146 rfl ?_
  refine zw_if_eq (tgt := 158) hX dX9_reckonPlain_147 (by decide) (fun c147 => ?_) (fun c147 => ?_)
  · rw [if_pos c147] at h
    refine zw_iconst (v := (0 : Int32)) hX dX9_reckonPlain_158 (by decide) ?_
    obtain rfl := Option.some.inj h
    exact zw_iret hX hr dX9_reckonPlain_159 rfl ⟨rfl, rfl⟩
  · rw [if_neg c147] at h
    refine zw_iload_n hX dX9_reckonPlain_150 rfl ?_
    refine zw_if_eq (tgt := 158) hX dX9_reckonPlain_151 (by decide) (fun c151 => ?_) (fun c151 => ?_)
    · rw [if_pos c151] at h
      refine zw_iconst (v := (0 : Int32)) hX dX9_reckonPlain_158 (by decide) ?_
      obtain rfl := Option.some.inj h
      exact zw_iret hX hr dX9_reckonPlain_159 rfl ⟨rfl, rfl⟩
    · rw [if_neg c151] at h
      refine zw_iconst (v := (1 : Int32)) hX dX9_reckonPlain_154 (by decide) ?_
      refine zw_goto (tgt := 159) hX dX9_reckonPlain_155 (by decide) ?_
      obtain rfl := Option.some.inj h
      exact zw_iret hX hr dX9_reckonPlain_159 rfl ⟨rfl, rfl⟩
set_option maxHeartbeats 4000000 in
set_option maxRecDepth 100000 in
theorem zt_X9_reckonPlain_J160 {p : Program} {l : Launch} {e : Env} {R : Room} {s : State} {m : MethodId} {args : Array Value} {below : List Frame} {meth : Method} {c : Code} {V : zm_V} {mc ms d rc rs : Nat} (hX : zm_X p R s m args meth c RX9 "reckonPlain" cX9_reckonPlain 5 zk_E V mc ms) (hr : meth.sig.returnType = (some .int)) (hR : R.frames = d ∧ R.locals = 64 * d) (hd : 2 ≤ d) {N : Nat} {i2 : Int32} {i3 : Int32} {out : (Int32 × zm_S)} {S : zm_S} (h : zf_X9_reckonPlain_J160 N i2 i3 S = some out) : zw p l e R s m args below meth c (vx_MQ below (zm_Qc zk_E V (zo_i out)) (zm_XC zk_E V zo_x) args s mc ms (fun q => V.2.2.2.1 ≤ q)) 5 zk_E V mc ms 160 [(2, .int i2), (3, .int i3)] [] S rc rs := by
  unfold zf_X9_reckonPlain_J160 at h
  refine zw_iload_n hX dX9_reckonPlain_160 rfl ?_
  refine zw_if_ne (tgt := 168) hX dX9_reckonPlain_161 (by decide) (fun c161 => ?_) (fun c161 => ?_)
  · rw [if_neg c161] at h
    refine zw_iconst (v := (1 : Int32)) hX dX9_reckonPlain_168 (by decide) ?_
    refine zw_goto (tgt := 173) hX dX9_reckonPlain_169 (by decide) ?_
    obtain rfl := Option.some.inj h
    exact zw_iret hX hr dX9_reckonPlain_173 rfl ⟨rfl, rfl⟩
  · rw [if_pos c161] at h
    refine zw_iload_n hX dX9_reckonPlain_164 rfl ?_
    refine zw_if_eq (tgt := 172) hX dX9_reckonPlain_165 (by decide) (fun c165 => ?_) (fun c165 => ?_)
    · rw [if_pos c165] at h
      refine zw_iconst (v := (0 : Int32)) hX dX9_reckonPlain_172 (by decide) ?_
      obtain rfl := Option.some.inj h
      exact zw_iret hX hr dX9_reckonPlain_173 rfl ⟨rfl, rfl⟩
    · rw [if_neg c165] at h
      refine zw_iconst (v := (1 : Int32)) hX dX9_reckonPlain_168 (by decide) ?_
      refine zw_goto (tgt := 173) hX dX9_reckonPlain_169 (by decide) ?_
      obtain rfl := Option.some.inj h
      exact zw_iret hX hr dX9_reckonPlain_173 rfl ⟨rfl, rfl⟩
set_option maxHeartbeats 4000000 in
set_option maxRecDepth 100000 in
theorem zt_X9_reckonPlain_J174 {p : Program} {l : Launch} {e : Env} {R : Room} {s : State} {m : MethodId} {args : Array Value} {below : List Frame} {meth : Method} {c : Code} {V : zm_V} {mc ms d rc rs : Nat} (hX : zm_X p R s m args meth c RX9 "reckonPlain" cX9_reckonPlain 5 zk_E V mc ms) (hr : meth.sig.returnType = (some .int)) (hR : R.frames = d ∧ R.locals = 64 * d) (hd : 2 ≤ d) {N : Nat} {i2 : Int32} {out : (Int32 × zm_S)} {S : zm_S} (h : zf_X9_reckonPlain_J174 N i2 S = some out) : zw p l e R s m args below meth c (vx_MQ below (zm_Qc zk_E V (zo_i out)) (zm_XC zk_E V zo_x) args s mc ms (fun q => V.2.2.2.1 ≤ q)) 5 zk_E V mc ms 174 [(2, .int i2)] [] S rc rs := by
  unfold zf_X9_reckonPlain_J174 at h
  refine zw_iload_n hX dX9_reckonPlain_174 rfl ?_
  refine zw_if_ne (tgt := 182) hX dX9_reckonPlain_175 (by decide) (fun c175 => ?_) (fun c175 => ?_)
  · rw [if_neg c175] at h
    refine zw_iconst (v := (0 : Int32)) hX dX9_reckonPlain_182 (by decide) ?_
    obtain rfl := Option.some.inj h
    exact zw_iret hX hr dX9_reckonPlain_183 rfl ⟨rfl, rfl⟩
  · rw [if_pos c175] at h
    refine zw_iconst (v := (1 : Int32)) hX dX9_reckonPlain_178 (by decide) ?_
    refine zw_goto (tgt := 183) hX dX9_reckonPlain_179 (by decide) ?_
    obtain rfl := Option.some.inj h
    exact zw_iret hX hr dX9_reckonPlain_183 rfl ⟨rfl, rfl⟩
set_option maxHeartbeats 4000000 in
set_option maxRecDepth 100000 in
theorem zt_X9_reckonPlain {l : Launch} {V : zm_V} {N : Nat} {S : zm_S} {out : (Int32 × zm_S)} {d : Nat} {a0 : Nat} {i1 : Int32} {i2 : Int32} {i3 : Int32} {i4 : Int32} (hd : 2 ≤ d) (h : zf_X9_reckonPlain N a0 i1 i2 i3 i4 S = some out) : zm_Met l zk_E V yX9_reckonPlain (.code yX9_reckonPlain cX9_reckonPlain 5 (some .int)) d [.ref a0, .int i1, .int i2, .int i3, .int i4] S 0 0 (zo_i out) zo_x := by
  refine zm_of (by decide +kernel) (Nat.le_of_ble_eq_true rfl) ?_
  intro p e R s m args below meth c hRR hX hr hxt
  have hR : R.frames = d ∧ R.locals = 64 * d := by rw [hRR]; exact ⟨rfl, rfl⟩
  have hX : zm_X p R s m args meth c RX9 "reckonPlain" cX9_reckonPlain 5 zk_E V 0 0 := hX
  unfold zf_X9_reckonPlain at h
  refine zw_sub (lv' := [(0, .ref a0), (1, .int i1), (2, .int i2), (3, .int i3), (4, .int i4)]) (List.forall_mem_cons.mpr ⟨rfl, (List.forall_mem_cons.mpr ⟨rfl, (List.forall_mem_cons.mpr ⟨rfl, (List.forall_mem_cons.mpr ⟨rfl, (List.forall_mem_cons.mpr ⟨rfl, zs_nil⟩)⟩)⟩)⟩)⟩) ?_
  refine zw_iload_n hX dX9_reckonPlain_0 rfl ?_
  by_cases c1_0 : (i1).toInt = 2
  · rw [if_pos c1_0] at h
    refine zw_tableIn (off := 63) (tgt := 64) hX dX9_reckonPlain_1 (by rw [c1_0]; decide) (by rw [c1_0]; decide) (by rw [c1_0]; decide) (by decide) ?_
    refine zw_sub (lv' := [(2, .int i2), (3, .int i3)]) (List.forall_mem_cons.mpr ⟨rfl, (List.forall_mem_cons.mpr ⟨rfl, zs_nil⟩)⟩) ?_
    exact zt_X9_reckonPlain_J64 hX hr hR hd h
  rw [if_neg c1_0] at h
  by_cases c1_1 : (i1).toInt = 3
  · rw [if_pos c1_1] at h
    refine zw_tableIn (off := 67) (tgt := 68) hX dX9_reckonPlain_1 (by rw [c1_1]; decide) (by rw [c1_1]; decide) (by rw [c1_1]; decide) (by decide) ?_
    refine zw_sub (lv' := [(2, .int i2), (3, .int i3)]) (List.forall_mem_cons.mpr ⟨rfl, (List.forall_mem_cons.mpr ⟨rfl, zs_nil⟩)⟩) ?_
    exact zt_X9_reckonPlain_J68 hX hr hR hd h
  rw [if_neg c1_1] at h
  by_cases c1_2 : (i1).toInt = 4
  · rw [if_pos c1_2] at h
    refine zw_tableIn (off := 71) (tgt := 72) hX dX9_reckonPlain_1 (by rw [c1_2]; decide) (by rw [c1_2]; decide) (by rw [c1_2]; decide) (by decide) ?_
    refine zw_sub (lv' := [(2, .int i2), (3, .int i3)]) (List.forall_mem_cons.mpr ⟨rfl, (List.forall_mem_cons.mpr ⟨rfl, zs_nil⟩)⟩) ?_
    exact zt_X9_reckonPlain_J72 hX hr hR hd h
  rw [if_neg c1_2] at h
  by_cases c1_3 : (i1).toInt = 5
  · rw [if_pos c1_3] at h
    refine zw_tableIn (off := 75) (tgt := 76) hX dX9_reckonPlain_1 (by rw [c1_3]; decide) (by rw [c1_3]; decide) (by rw [c1_3]; decide) (by decide) ?_
    refine zw_sub (lv' := [(0, .ref a0), (2, .int i2), (3, .int i3)]) (List.forall_mem_cons.mpr ⟨rfl, (List.forall_mem_cons.mpr ⟨rfl, (List.forall_mem_cons.mpr ⟨rfl, zs_nil⟩)⟩)⟩) ?_
    exact zt_X9_reckonPlain_J76 hX hr hR hd h
  rw [if_neg c1_3] at h
  by_cases c1_4 : (i1).toInt = 6
  · rw [if_pos c1_4] at h
    refine zw_tableIn (off := 91) (tgt := 92) hX dX9_reckonPlain_1 (by rw [c1_4]; decide) (by rw [c1_4]; decide) (by rw [c1_4]; decide) (by decide) ?_
    refine zw_sub (lv' := [(0, .ref a0), (2, .int i2), (3, .int i3)]) (List.forall_mem_cons.mpr ⟨rfl, (List.forall_mem_cons.mpr ⟨rfl, (List.forall_mem_cons.mpr ⟨rfl, zs_nil⟩)⟩)⟩) ?_
    exact zt_X9_reckonPlain_J92 hX hr hR hd h
  rw [if_neg c1_4] at h
  by_cases c1_5 : (i1).toInt = 7
  · rw [if_pos c1_5] at h
    refine zw_tableIn (off := 111) (tgt := 112) hX dX9_reckonPlain_1 (by rw [c1_5]; decide) (by rw [c1_5]; decide) (by rw [c1_5]; decide) (by decide) ?_
    refine zw_sub (lv' := [(2, .int i2), (3, .int i3)]) (List.forall_mem_cons.mpr ⟨rfl, (List.forall_mem_cons.mpr ⟨rfl, zs_nil⟩)⟩) ?_
    exact zt_X9_reckonPlain_J112 hX hr hR hd h
  rw [if_neg c1_5] at h
  by_cases c1_6 : (i1).toInt = 8
  · rw [if_pos c1_6] at h
    refine zw_tableIn (off := 117) (tgt := 118) hX dX9_reckonPlain_1 (by rw [c1_6]; decide) (by rw [c1_6]; decide) (by rw [c1_6]; decide) (by decide) ?_
    refine zw_sub (lv' := [(2, .int i2), (3, .int i3)]) (List.forall_mem_cons.mpr ⟨rfl, (List.forall_mem_cons.mpr ⟨rfl, zs_nil⟩)⟩) ?_
    exact zt_X9_reckonPlain_J118 hX hr hR hd h
  rw [if_neg c1_6] at h
  by_cases c1_7 : (i1).toInt = 9
  · rw [if_pos c1_7] at h
    refine zw_tableIn (off := 123) (tgt := 124) hX dX9_reckonPlain_1 (by rw [c1_7]; decide) (by rw [c1_7]; decide) (by rw [c1_7]; decide) (by decide) ?_
    refine zw_sub (lv' := [(2, .int i2), (3, .int i3)]) (List.forall_mem_cons.mpr ⟨rfl, (List.forall_mem_cons.mpr ⟨rfl, zs_nil⟩)⟩) ?_
    exact zt_X9_reckonPlain_J124 hX hr hR hd h
  rw [if_neg c1_7] at h
  by_cases c1_8 : (i1).toInt = 10
  · rw [if_pos c1_8] at h
    refine zw_tableIn (off := 134) (tgt := 135) hX dX9_reckonPlain_1 (by rw [c1_8]; decide) (by rw [c1_8]; decide) (by rw [c1_8]; decide) (by decide) ?_
    refine zw_sub (lv' := [(2, .int i2), (3, .int i3)]) (List.forall_mem_cons.mpr ⟨rfl, (List.forall_mem_cons.mpr ⟨rfl, zs_nil⟩)⟩) ?_
    exact zt_X9_reckonPlain_J135 hX hr hR hd h
  rw [if_neg c1_8] at h
  by_cases c1_9 : (i1).toInt = 11
  · rw [if_pos c1_9] at h
    refine zw_tableIn (off := 145) (tgt := 146) hX dX9_reckonPlain_1 (by rw [c1_9]; decide) (by rw [c1_9]; decide) (by rw [c1_9]; decide) (by decide) ?_
    refine zw_sub (lv' := [(2, .int i2), (3, .int i3)]) (List.forall_mem_cons.mpr ⟨rfl, (List.forall_mem_cons.mpr ⟨rfl, zs_nil⟩)⟩) ?_
    exact zt_X9_reckonPlain_J146 hX hr hR hd h
  rw [if_neg c1_9] at h
  by_cases c1_10 : (i1).toInt = 12
  · rw [if_pos c1_10] at h
    refine zw_tableIn (off := 159) (tgt := 160) hX dX9_reckonPlain_1 (by rw [c1_10]; decide) (by rw [c1_10]; decide) (by rw [c1_10]; decide) (by decide) ?_
    refine zw_sub (lv' := [(2, .int i2), (3, .int i3)]) (List.forall_mem_cons.mpr ⟨rfl, (List.forall_mem_cons.mpr ⟨rfl, zs_nil⟩)⟩) ?_
    exact zt_X9_reckonPlain_J160 hX hr hR hd h
  rw [if_neg c1_10] at h
  by_cases c1_11 : (i1).toInt = 13
  · rw [if_pos c1_11] at h
    refine zw_tableIn (off := 173) (tgt := 174) hX dX9_reckonPlain_1 (by rw [c1_11]; decide) (by rw [c1_11]; decide) (by rw [c1_11]; decide) (by decide) ?_
    refine zw_sub (lv' := [(2, .int i2)]) (List.forall_mem_cons.mpr ⟨rfl, zs_nil⟩) ?_
    exact zt_X9_reckonPlain_J174 hX hr hR hd h
  rw [if_neg c1_11] at h
  refine zw_tableOut (tgt := 184) hX dX9_reckonPlain_1 (by omega) (by decide) ?_
  refine zw_sub (lv' := [(2, .int i2), (3, .int i3), (4, .int i4)]) (List.forall_mem_cons.mpr ⟨rfl, (List.forall_mem_cons.mpr ⟨rfl, (List.forall_mem_cons.mpr ⟨rfl, zs_nil⟩)⟩)⟩) ?_
  exact zt_X9_reckonPlain_J184 hX hr hR hd h

