/-! ===== functions of methods, by program (wip/whole/tools/gen11.py) ===== -/
theorem dX18_enter_0 : decode cX18_enter 0 = .ok (.aload_n 0, 1) := by decide +kernel
theorem dX18_enter_1 : decode cX18_enter 1 = .ok (.getfield 106, 3) := by decide +kernel
theorem dX18_enter_4 : decode cX18_enter 4 = .ok (.iload_n 1, 1) := by decide +kernel
theorem dX18_enter_5 : decode cX18_enter 5 = .ok (.iload_n 3, 1) := by decide +kernel
theorem dX18_enter_6 : decode cX18_enter 6 = .ok (.iastore, 1) := by decide +kernel
theorem dX18_enter_7 : decode cX18_enter 7 = .ok (.iload_n 3, 1) := by decide +kernel
theorem dX18_enter_8 : decode cX18_enter 8 = .ok (.aload_n 0, 1) := by decide +kernel
theorem dX18_enter_9 : decode cX18_enter 9 = .ok (.getfield 53, 3) := by decide +kernel
theorem dX18_enter_12 : decode cX18_enter 12 = .ok (.iload_n 2, 1) := by decide +kernel
theorem dX18_enter_13 : decode cX18_enter 13 = .ok (.iaload, 1) := by decide +kernel
theorem dX18_enter_14 : decode cX18_enter 14 = .ok (.if_icmp .ne 7, 3) := by decide +kernel
theorem dX18_enter_21 : decode cX18_enter 21 = .ok (.iconst 0, 1) := by decide +kernel
theorem dX18_enter_22 : decode cX18_enter 22 = .ok (.istore 4, 2) := by decide +kernel
theorem dX18_enter_24 : decode cX18_enter 24 = .ok (.aload_n 0, 1) := by decide +kernel
theorem dX18_enter_25 : decode cX18_enter 25 = .ok (.getfield 109, 3) := by decide +kernel
theorem dX18_enter_28 : decode cX18_enter 28 = .ok (.iload_n 1, 1) := by decide +kernel
theorem dX18_enter_29 : decode cX18_enter 29 = .ok (.iload_n 3, 1) := by decide +kernel
theorem dX18_enter_30 : decode cX18_enter 30 = .ok (.aload_n 0, 1) := by decide +kernel
theorem dX18_enter_31 : decode cX18_enter 31 = .ok (.getfield 338, 3) := by decide +kernel
theorem dX18_enter_34 : decode cX18_enter 34 = .ok (.if_icmp .ne 7, 3) := by decide +kernel
theorem dX18_enter_41 : decode cX18_enter 41 = .ok (.aload_n 0, 1) := by decide +kernel
theorem dX18_enter_42 : decode cX18_enter 42 = .ok (.getfield 12, 3) := by decide +kernel
theorem dX18_enter_45 : decode cX18_enter 45 = .ok (.aload_n 0, 1) := by decide +kernel
theorem dX18_enter_46 : decode cX18_enter 46 = .ok (.getfield 60, 3) := by decide +kernel
theorem dX18_enter_49 : decode cX18_enter 49 = .ok (.iload_n 2, 1) := by decide +kernel
theorem dX18_enter_50 : decode cX18_enter 50 = .ok (.iaload, 1) := by decide +kernel
theorem dX18_enter_51 : decode cX18_enter 51 = .ok (.aload_n 0, 1) := by decide +kernel
theorem dX18_enter_52 : decode cX18_enter 52 = .ok (.getfield 66, 3) := by decide +kernel
theorem dX18_enter_55 : decode cX18_enter 55 = .ok (.iload_n 2, 1) := by decide +kernel
theorem dX18_enter_56 : decode cX18_enter 56 = .ok (.iaload, 1) := by decide +kernel
theorem dX18_enter_57 : decode cX18_enter 57 = .ok (.iload 4, 2) := by decide +kernel
theorem dX18_enter_59 : decode cX18_enter 59 = .ok (.iconst 1, 1) := by decide +kernel
theorem dX18_enter_60 : decode cX18_enter 60 = .ok (.invokevirtual 365, 3) := by decide +kernel
theorem dX18_enter_63 : decode cX18_enter 63 = .ok (.iastore, 1) := by decide +kernel
theorem dX18_enter_64 : decode cX18_enter 64 = .ok (.aload_n 0, 1) := by decide +kernel
theorem dX18_enter_65 : decode cX18_enter 65 = .ok (.getfield 112, 3) := by decide +kernel
theorem dX18_enter_68 : decode cX18_enter 68 = .ok (.iload_n 1, 1) := by decide +kernel
theorem dX18_enter_69 : decode cX18_enter 69 = .ok (.iload_n 3, 1) := by decide +kernel
theorem dX18_enter_70 : decode cX18_enter 70 = .ok (.aload_n 0, 1) := by decide +kernel
theorem dX18_enter_71 : decode cX18_enter 71 = .ok (.getfield 338, 3) := by decide +kernel
theorem dX18_enter_74 : decode cX18_enter 74 = .ok (.if_icmp .ne 7, 3) := by decide +kernel
theorem dX18_enter_81 : decode cX18_enter 81 = .ok (.aload_n 0, 1) := by decide +kernel
theorem dX18_enter_82 : decode cX18_enter 82 = .ok (.getfield 12, 3) := by decide +kernel
theorem dX18_enter_85 : decode cX18_enter 85 = .ok (.aload_n 0, 1) := by decide +kernel
theorem dX18_enter_86 : decode cX18_enter 86 = .ok (.getfield 60, 3) := by decide +kernel
theorem dX18_enter_89 : decode cX18_enter 89 = .ok (.iload_n 2, 1) := by decide +kernel
theorem dX18_enter_90 : decode cX18_enter 90 = .ok (.iaload, 1) := by decide +kernel
theorem dX18_enter_91 : decode cX18_enter 91 = .ok (.aload_n 0, 1) := by decide +kernel
theorem dX18_enter_92 : decode cX18_enter 92 = .ok (.getfield 66, 3) := by decide +kernel
theorem dX18_enter_95 : decode cX18_enter 95 = .ok (.iload_n 2, 1) := by decide +kernel
theorem dX18_enter_96 : decode cX18_enter 96 = .ok (.iaload, 1) := by decide +kernel
theorem dX18_enter_97 : decode cX18_enter 97 = .ok (.iload 4, 2) := by decide +kernel
theorem dX18_enter_99 : decode cX18_enter 99 = .ok (.iconst 0, 1) := by decide +kernel
theorem dX18_enter_100 : decode cX18_enter 100 = .ok (.invokevirtual 365, 3) := by decide +kernel
theorem dX18_enter_103 : decode cX18_enter 103 = .ok (.iastore, 1) := by decide +kernel
theorem dX18_enter_104 : decode cX18_enter 104 = .ok (.aload_n 0, 1) := by decide +kernel
theorem dX18_enter_105 : decode cX18_enter 105 = .ok (.getfield 121, 3) := by decide +kernel
theorem dX18_enter_108 : decode cX18_enter 108 = .ok (.iload_n 1, 1) := by decide +kernel
theorem dX18_enter_109 : decode cX18_enter 109 = .ok (.aload_n 0, 1) := by decide +kernel
theorem dX18_enter_110 : decode cX18_enter 110 = .ok (.getfield 401, 3) := by decide +kernel
theorem dX18_enter_113 : decode cX18_enter 113 = .ok (.iastore, 1) := by decide +kernel
theorem dX18_enter_114 : decode cX18_enter 114 = .ok (.return_, 1) := by decide +kernel
theorem dX18_enter_77 : decode cX18_enter 77 = .ok (.iconst (-1), 1) := by decide +kernel
theorem dX18_enter_78 : decode cX18_enter 78 = .ok (.goto 25, 3) := by decide +kernel
theorem dX18_enter_37 : decode cX18_enter 37 = .ok (.iconst (-1), 1) := by decide +kernel
theorem dX18_enter_38 : decode cX18_enter 38 = .ok (.goto 25, 3) := by decide +kernel
theorem dX18_enter_17 : decode cX18_enter 17 = .ok (.iconst 1, 1) := by decide +kernel
theorem dX18_enter_18 : decode cX18_enter 18 = .ok (.goto 4, 3) := by decide +kernel
theorem dX18_let_0 : decode cX18_let 0 = .ok (.aload_n 0, 1) := by decide +kernel
theorem dX18_let_1 : decode cX18_let 1 = .ok (.getfield 79, 3) := by decide +kernel
theorem dX18_let_4 : decode cX18_let 4 = .ok (.iload_n 2, 1) := by decide +kernel
theorem dX18_let_5 : decode cX18_let 5 = .ok (.iaload, 1) := by decide +kernel
theorem dX18_let_6 : decode cX18_let 6 = .ok (.ldc_w 354, 3) := by decide +kernel
theorem dX18_let_9 : decode cX18_let 9 = .ok (.if_icmp .eq 10, 3) := by decide +kernel
theorem dX18_let_19 : decode cX18_let 19 = .ok (.aload_n 0, 1) := by decide +kernel
theorem dX18_let_20 : decode cX18_let 20 = .ok (.aload_n 0, 1) := by decide +kernel
theorem dX18_let_21 : decode cX18_let 21 = .ok (.getfield 124, 3) := by decide +kernel
theorem dX18_let_24 : decode cX18_let 24 = .ok (.iload_n 1, 1) := by decide +kernel
theorem dX18_let_25 : decode cX18_let 25 = .ok (.iaload, 1) := by decide +kernel
theorem dX18_let_26 : decode cX18_let 26 = .ok (.iload_n 2, 1) := by decide +kernel
theorem dX18_let_27 : decode cX18_let 27 = .ok (.iload_n 3, 1) := by decide +kernel
theorem dX18_let_28 : decode cX18_let 28 = .ok (.invokevirtual 422, 3) := by decide +kernel
theorem dX18_let_31 : decode cX18_let 31 = .ok (.return_, 1) := by decide +kernel
theorem dX18_let_12 : decode cX18_let 12 = .ok (.aload_n 0, 1) := by decide +kernel
theorem dX18_let_13 : decode cX18_let 13 = .ok (.invokevirtual 414, 3) := by decide +kernel
theorem dX18_let_16 : decode cX18_let 16 = .ok (.ifCond .eq 16, 3) := by decide +kernel
theorem dX18_let_32 : decode cX18_let 32 = .ok (.bipush 20, 2) := by decide +kernel
theorem dX18_let_34 : decode cX18_let 34 = .ok (.iload_n 2, 1) := by decide +kernel
theorem dX18_let_35 : decode cX18_let 35 = .ok (.imul, 1) := by decide +kernel
theorem dX18_let_36 : decode cX18_let 36 = .ok (.aload_n 0, 1) := by decide +kernel
theorem dX18_let_37 : decode cX18_let 37 = .ok (.getfield 82, 3) := by decide +kernel
theorem dX18_let_40 : decode cX18_let 40 = .ok (.iload_n 2, 1) := by decide +kernel
theorem dX18_let_41 : decode cX18_let 41 = .ok (.iaload, 1) := by decide +kernel
theorem dX18_let_42 : decode cX18_let 42 = .ok (.iadd, 1) := by decide +kernel
theorem dX18_let_43 : decode cX18_let 43 = .ok (.istore 4, 2) := by decide +kernel
theorem dX18_let_45 : decode cX18_let 45 = .ok (.aload_n 0, 1) := by decide +kernel
theorem dX18_let_46 : decode cX18_let 46 = .ok (.getfield 85, 3) := by decide +kernel
theorem dX18_let_49 : decode cX18_let 49 = .ok (.iload 4, 2) := by decide +kernel
theorem dX18_let_51 : decode cX18_let 51 = .ok (.iload_n 1, 1) := by decide +kernel
theorem dX18_let_52 : decode cX18_let 52 = .ok (.iastore, 1) := by decide +kernel
theorem dX18_let_53 : decode cX18_let 53 = .ok (.aload_n 0, 1) := by decide +kernel
theorem dX18_let_54 : decode cX18_let 54 = .ok (.getfield 88, 3) := by decide +kernel
theorem dX18_let_57 : decode cX18_let 57 = .ok (.iload 4, 2) := by decide +kernel
theorem dX18_let_59 : decode cX18_let 59 = .ok (.iload_n 3, 1) := by decide +kernel
theorem dX18_let_60 : decode cX18_let 60 = .ok (.iastore, 1) := by decide +kernel
theorem dX18_let_61 : decode cX18_let 61 = .ok (.aload_n 0, 1) := by decide +kernel
theorem dX18_let_62 : decode cX18_let 62 = .ok (.getfield 91, 3) := by decide +kernel
theorem dX18_let_65 : decode cX18_let 65 = .ok (.iload 4, 2) := by decide +kernel
theorem dX18_let_67 : decode cX18_let 67 = .ok (.aload_n 0, 1) := by decide +kernel
theorem dX18_let_68 : decode cX18_let 68 = .ok (.getfield 401, 3) := by decide +kernel
theorem dX18_let_71 : decode cX18_let 71 = .ok (.bipush 60, 2) := by decide +kernel
theorem dX18_let_73 : decode cX18_let 73 = .ok (.idiv, 1) := by decide +kernel
theorem dX18_let_74 : decode cX18_let 74 = .ok (.iastore, 1) := by decide +kernel
theorem dX18_let_75 : decode cX18_let 75 = .ok (.aload_n 0, 1) := by decide +kernel
theorem dX18_let_76 : decode cX18_let 76 = .ok (.getfield 82, 3) := by decide +kernel
theorem dX18_let_79 : decode cX18_let 79 = .ok (.iload_n 2, 1) := by decide +kernel
theorem dX18_let_80 : decode cX18_let 80 = .ok (.dup2, 1) := by decide +kernel
theorem dX18_let_81 : decode cX18_let 81 = .ok (.iaload, 1) := by decide +kernel
theorem dX18_let_82 : decode cX18_let 82 = .ok (.iconst 1, 1) := by decide +kernel
theorem dX18_let_83 : decode cX18_let 83 = .ok (.iadd, 1) := by decide +kernel
theorem dX18_let_84 : decode cX18_let 84 = .ok (.iastore, 1) := by decide +kernel
theorem dX18_let_85 : decode cX18_let 85 = .ok (.return_, 1) := by decide +kernel
theorem dX18_isOf_0 : decode cX18_isOf 0 = .ok (.iload_n 1, 1) := by decide +kernel
theorem dX18_isOf_1 : decode cX18_isOf 1 = .ok (.aload_n 0, 1) := by decide +kernel
theorem dX18_isOf_2 : decode cX18_isOf 2 = .ok (.getfield 351, 3) := by decide +kernel
theorem dX18_isOf_5 : decode cX18_isOf 5 = .ok (.invokestatic 207, 3) := by decide +kernel
theorem dX18_isOf_8 : decode cX18_isOf 8 = .ok (.ifCond .eq 40, 3) := by decide +kernel
theorem dX18_isOf_48 : decode cX18_isOf 48 = .ok (.iconst 0, 1) := by decide +kernel
theorem dX18_isOf_49 : decode cX18_isOf 49 = .ok (.ireturn, 1) := by decide +kernel
theorem dX18_isOf_11 : decode cX18_isOf 11 = .ok (.iload_n 2, 1) := by decide +kernel
theorem dX18_isOf_12 : decode cX18_isOf 12 = .ok (.aload_n 0, 1) := by decide +kernel
theorem dX18_isOf_13 : decode cX18_isOf 13 = .ok (.getfield 338, 3) := by decide +kernel
theorem dX18_isOf_16 : decode cX18_isOf 16 = .ok (.iconst 1, 1) := by decide +kernel
theorem dX18_isOf_17 : decode cX18_isOf 17 = .ok (.iadd, 1) := by decide +kernel
theorem dX18_isOf_18 : decode cX18_isOf 18 = .ok (.invokestatic 207, 3) := by decide +kernel
theorem dX18_isOf_21 : decode cX18_isOf 21 = .ok (.ifCond .eq 27, 3) := by decide +kernel
theorem dX18_isOf_24 : decode cX18_isOf 24 = .ok (.aload_n 0, 1) := by decide +kernel
theorem dX18_isOf_25 : decode cX18_isOf 25 = .ok (.getfield 53, 3) := by decide +kernel
theorem dX18_isOf_28 : decode cX18_isOf 28 = .ok (.iload_n 1, 1) := by decide +kernel
theorem dX18_isOf_29 : decode cX18_isOf 29 = .ok (.iaload, 1) := by decide +kernel
theorem dX18_isOf_30 : decode cX18_isOf 30 = .ok (.iload_n 2, 1) := by decide +kernel
theorem dX18_isOf_31 : decode cX18_isOf 31 = .ok (.if_icmp .eq 13, 3) := by decide +kernel
theorem dX18_isOf_44 : decode cX18_isOf 44 = .ok (.iconst 1, 1) := by decide +kernel
theorem dX18_isOf_45 : decode cX18_isOf 45 = .ok (.goto 4, 3) := by decide +kernel
theorem dX18_isOf_34 : decode cX18_isOf 34 = .ok (.aload_n 0, 1) := by decide +kernel
theorem dX18_isOf_35 : decode cX18_isOf 35 = .ok (.getfield 57, 3) := by decide +kernel
theorem dX18_isOf_38 : decode cX18_isOf 38 = .ok (.iload_n 1, 1) := by decide +kernel
theorem dX18_isOf_39 : decode cX18_isOf 39 = .ok (.iaload, 1) := by decide +kernel
theorem dX18_isOf_40 : decode cX18_isOf 40 = .ok (.iload_n 2, 1) := by decide +kernel
theorem dX18_isOf_41 : decode cX18_isOf 41 = .ok (.if_icmp .ne 7, 3) := by decide +kernel
theorem dX18_ask_0 : decode cX18_ask 0 = .ok (.iload_n 1, 1) := by decide +kernel
theorem dX18_ask_1 : decode cX18_ask 1 = .ok (.aload_n 0, 1) := by decide +kernel
theorem dX18_ask_2 : decode cX18_ask 2 = .ok (.getfield 382, 3) := by decide +kernel
theorem dX18_ask_5 : decode cX18_ask 5 = .ok (.invokestatic 207, 3) := by decide +kernel
theorem dX18_ask_8 : decode cX18_ask 8 = .ok (.ifCond .eq 16, 3) := by decide +kernel
theorem dX18_ask_24 : decode cX18_ask 24 = .ok (.iconst 0, 1) := by decide +kernel
theorem dX18_ask_25 : decode cX18_ask 25 = .ok (.istore 4, 2) := by decide +kernel
theorem dX18_ask_27 : decode cX18_ask 27 = .ok (.aload_n 0, 1) := by decide +kernel
theorem dX18_ask_28 : decode cX18_ask 28 = .ok (.iload 4, 2) := by decide +kernel
theorem dX18_ask_30 : decode cX18_ask 30 = .ok (.aload_n 0, 1) := by decide +kernel
theorem dX18_ask_31 : decode cX18_ask 31 = .ok (.getfield 192, 3) := by decide +kernel
theorem dX18_ask_34 : decode cX18_ask 34 = .ok (.ifCond .eq 23, 3) := by decide +kernel
theorem dX18_ask_57 : decode cX18_ask 57 = .ok (.iconst 0, 1) := by decide +kernel
theorem dX18_ask_58 : decode cX18_ask 58 = .ok (.invokevirtual 199, 3) := by decide +kernel
theorem dX18_ask_61 : decode cX18_ask 61 = .ok (.ifCond .ne 5, 3) := by decide +kernel
theorem dX18_ask_66 : decode cX18_ask 66 = .ok (.aload_n 0, 1) := by decide +kernel
theorem dX18_ask_67 : decode cX18_ask 67 = .ok (.iload_n 1, 1) := by decide +kernel
theorem dX18_ask_68 : decode cX18_ask 68 = .ok (.iload_n 2, 1) := by decide +kernel
theorem dX18_ask_69 : decode cX18_ask 69 = .ok (.iload_n 3, 1) := by decide +kernel
theorem dX18_ask_70 : decode cX18_ask 70 = .ok (.invokevirtual 428, 3) := by decide +kernel
theorem dX18_ask_73 : decode cX18_ask 73 = .ok (.istore 5, 2) := by decide +kernel
theorem dX18_ask_75 : decode cX18_ask 75 = .ok (.iload 5, 2) := by decide +kernel
theorem dX18_ask_77 : decode cX18_ask 77 = .ok (.ifCond .ne 24, 3) := by decide +kernel
theorem dX18_ask_101 : decode cX18_ask 101 = .ok (.iload 5, 2) := by decide +kernel
theorem dX18_ask_103 : decode cX18_ask 103 = .ok (.istore 5, 2) := by decide +kernel
theorem dX18_ask_105 : decode cX18_ask 105 = .ok (.iload 5, 2) := by decide +kernel
theorem dX18_ask_107 : decode cX18_ask 107 = .ok (.ifCond .ne 10, 3) := by decide +kernel
theorem dX18_ask_117 : decode cX18_ask 117 = .ok (.iload 5, 2) := by decide +kernel
theorem dX18_ask_119 : decode cX18_ask 119 = .ok (.ireturn, 1) := by decide +kernel
theorem dX18_ask_110 : decode cX18_ask 110 = .ok (.aload_n 0, 1) := by decide +kernel
theorem dX18_ask_111 : decode cX18_ask 111 = .ok (.iload_n 1, 1) := by decide +kernel
theorem dX18_ask_112 : decode cX18_ask 112 = .ok (.iload_n 2, 1) := by decide +kernel
theorem dX18_ask_113 : decode cX18_ask 113 = .ok (.iload_n 3, 1) := by decide +kernel
theorem dX18_ask_114 : decode cX18_ask 114 = .ok (.invokevirtual 431, 3) := by decide +kernel
theorem dX18_ask_80 : decode cX18_ask 80 = .ok (.aload_n 0, 1) := by decide +kernel
theorem dX18_ask_81 : decode cX18_ask 81 = .ok (.getfield 69, 3) := by decide +kernel
theorem dX18_ask_84 : decode cX18_ask 84 = .ok (.iload_n 2, 1) := by decide +kernel
theorem dX18_ask_85 : decode cX18_ask 85 = .ok (.baload, 1) := by decide +kernel
theorem dX18_ask_86 : decode cX18_ask 86 = .ok (.ifCond .eq 15, 3) := by decide +kernel
theorem dX18_ask_89 : decode cX18_ask 89 = .ok (.aload_n 0, 1) := by decide +kernel
theorem dX18_ask_90 : decode cX18_ask 90 = .ok (.invokevirtual 414, 3) := by decide +kernel
theorem dX18_ask_93 : decode cX18_ask 93 = .ok (.ifCond .ne 8, 3) := by decide +kernel
theorem dX18_ask_96 : decode cX18_ask 96 = .ok (.bipush 7, 2) := by decide +kernel
theorem dX18_ask_98 : decode cX18_ask 98 = .ok (.goto 5, 3) := by decide +kernel
theorem dX18_ask_64 : decode cX18_ask 64 = .ok (.iconst 0, 1) := by decide +kernel
theorem dX18_ask_65 : decode cX18_ask 65 = .ok (.ireturn, 1) := by decide +kernel
theorem dX18_ask_37 : decode cX18_ask 37 = .ok (.iload 4, 2) := by decide +kernel
theorem dX18_ask_39 : decode cX18_ask 39 = .ok (.ifCond .eq 14, 3) := by decide +kernel
theorem dX18_ask_53 : decode cX18_ask 53 = .ok (.iconst 1, 1) := by decide +kernel
theorem dX18_ask_54 : decode cX18_ask 54 = .ok (.goto 4, 3) := by decide +kernel
theorem dX18_ask_42 : decode cX18_ask 42 = .ok (.aload_n 0, 1) := by decide +kernel
theorem dX18_ask_43 : decode cX18_ask 43 = .ok (.getfield 82, 3) := by decide +kernel
theorem dX18_ask_46 : decode cX18_ask 46 = .ok (.iload_n 2, 1) := by decide +kernel
theorem dX18_ask_47 : decode cX18_ask 47 = .ok (.iaload, 1) := by decide +kernel
theorem dX18_ask_48 : decode cX18_ask 48 = .ok (.bipush 20, 2) := by decide +kernel
theorem dX18_ask_50 : decode cX18_ask 50 = .ok (.if_icmp .ge 7, 3) := by decide +kernel
theorem dX18_ask_11 : decode cX18_ask 11 = .ok (.aload_n 0, 1) := by decide +kernel
theorem dX18_ask_12 : decode cX18_ask 12 = .ok (.iload_n 2, 1) := by decide +kernel
theorem dX18_ask_13 : decode cX18_ask 13 = .ok (.iload_n 3, 1) := by decide +kernel
theorem dX18_ask_14 : decode cX18_ask 14 = .ok (.invokevirtual 425, 3) := by decide +kernel
theorem dX18_ask_17 : decode cX18_ask 17 = .ok (.ifCond .eq 7, 3) := by decide +kernel
theorem dX18_ask_20 : decode cX18_ask 20 = .ok (.iconst 1, 1) := by decide +kernel
theorem dX18_ask_21 : decode cX18_ask 21 = .ok (.goto 4, 3) := by decide +kernel
theorem dX18_both_0 : decode cX18_both 0 = .ok (.iload_n 1, 1) := by decide +kernel
theorem dX18_both_1 : decode cX18_both 1 = .ok (.aload_n 0, 1) := by decide +kernel
theorem dX18_both_2 : decode cX18_both 2 = .ok (.getfield 382, 3) := by decide +kernel
theorem dX18_both_5 : decode cX18_both 5 = .ok (.invokestatic 207, 3) := by decide +kernel
theorem dX18_both_8 : decode cX18_both 8 = .ok (.ifCond .eq 33, 3) := by decide +kernel
theorem dX18_both_41 : decode cX18_both 41 = .ok (.iconst 0, 1) := by decide +kernel
theorem dX18_both_42 : decode cX18_both 42 = .ok (.istore 5, 2) := by decide +kernel
theorem dX18_both_44 : decode cX18_both 44 = .ok (.aload_n 0, 1) := by decide +kernel
theorem dX18_both_45 : decode cX18_both 45 = .ok (.iload 5, 2) := by decide +kernel
theorem dX18_both_47 : decode cX18_both 47 = .ok (.aload_n 0, 1) := by decide +kernel
theorem dX18_both_48 : decode cX18_both 48 = .ok (.getfield 192, 3) := by decide +kernel
theorem dX18_both_51 : decode cX18_both 51 = .ok (.ifCond .eq 23, 3) := by decide +kernel
theorem dX18_both_74 : decode cX18_both 74 = .ok (.iconst 0, 1) := by decide +kernel
theorem dX18_both_75 : decode cX18_both 75 = .ok (.invokevirtual 199, 3) := by decide +kernel
theorem dX18_both_78 : decode cX18_both 78 = .ok (.ifCond .ne 5, 3) := by decide +kernel
theorem dX18_both_83 : decode cX18_both 83 = .ok (.aload_n 0, 1) := by decide +kernel
theorem dX18_both_84 : decode cX18_both 84 = .ok (.iload_n 1, 1) := by decide +kernel
theorem dX18_both_85 : decode cX18_both 85 = .ok (.iload_n 3, 1) := by decide +kernel
theorem dX18_both_86 : decode cX18_both 86 = .ok (.iload 4, 2) := by decide +kernel
theorem dX18_both_88 : decode cX18_both 88 = .ok (.invokevirtual 428, 3) := by decide +kernel
theorem dX18_both_91 : decode cX18_both 91 = .ok (.istore 6, 2) := by decide +kernel
theorem dX18_both_93 : decode cX18_both 93 = .ok (.iload 6, 2) := by decide +kernel
theorem dX18_both_95 : decode cX18_both 95 = .ok (.ifCond .le 8, 3) := by decide +kernel
theorem dX18_both_103 : decode cX18_both 103 = .ok (.aload_n 0, 1) := by decide +kernel
theorem dX18_both_104 : decode cX18_both 104 = .ok (.iload_n 2, 1) := by decide +kernel
theorem dX18_both_105 : decode cX18_both 105 = .ok (.iload_n 3, 1) := by decide +kernel
theorem dX18_both_106 : decode cX18_both 106 = .ok (.iload 4, 2) := by decide +kernel
theorem dX18_both_108 : decode cX18_both 108 = .ok (.invokevirtual 428, 3) := by decide +kernel
theorem dX18_both_111 : decode cX18_both 111 = .ok (.istore 6, 2) := by decide +kernel
theorem dX18_both_113 : decode cX18_both 113 = .ok (.iload 6, 2) := by decide +kernel
theorem dX18_both_115 : decode cX18_both 115 = .ok (.ifCond .ne 30, 3) := by decide +kernel
theorem dX18_both_145 : decode cX18_both 145 = .ok (.iload 6, 2) := by decide +kernel
theorem dX18_both_147 : decode cX18_both 147 = .ok (.istore 6, 2) := by decide +kernel
theorem dX18_both_149 : decode cX18_both 149 = .ok (.iload 6, 2) := by decide +kernel
theorem dX18_both_151 : decode cX18_both 151 = .ok (.ifCond .ne 19, 3) := by decide +kernel
theorem dX18_both_170 : decode cX18_both 170 = .ok (.iload 6, 2) := by decide +kernel
theorem dX18_both_172 : decode cX18_both 172 = .ok (.ireturn, 1) := by decide +kernel
theorem dX18_both_154 : decode cX18_both 154 = .ok (.aload_n 0, 1) := by decide +kernel
theorem dX18_both_155 : decode cX18_both 155 = .ok (.iload_n 1, 1) := by decide +kernel
theorem dX18_both_156 : decode cX18_both 156 = .ok (.iload_n 3, 1) := by decide +kernel
theorem dX18_both_157 : decode cX18_both 157 = .ok (.iload 4, 2) := by decide +kernel
theorem dX18_both_159 : decode cX18_both 159 = .ok (.invokevirtual 431, 3) := by decide +kernel
theorem dX18_both_162 : decode cX18_both 162 = .ok (.aload_n 0, 1) := by decide +kernel
theorem dX18_both_163 : decode cX18_both 163 = .ok (.iload_n 2, 1) := by decide +kernel
theorem dX18_both_164 : decode cX18_both 164 = .ok (.iload_n 3, 1) := by decide +kernel
theorem dX18_both_165 : decode cX18_both 165 = .ok (.iload 4, 2) := by decide +kernel
theorem dX18_both_167 : decode cX18_both 167 = .ok (.invokevirtual 431, 3) := by decide +kernel
theorem dX18_both_118 : decode cX18_both 118 = .ok (.aload_n 0, 1) := by decide +kernel
theorem dX18_both_119 : decode cX18_both 119 = .ok (.getfield 124, 3) := by decide +kernel
theorem dX18_both_122 : decode cX18_both 122 = .ok (.iload_n 1, 1) := by decide +kernel
theorem dX18_both_123 : decode cX18_both 123 = .ok (.iaload, 1) := by decide +kernel
theorem dX18_both_124 : decode cX18_both 124 = .ok (.aload_n 0, 1) := by decide +kernel
theorem dX18_both_125 : decode cX18_both 125 = .ok (.getfield 124, 3) := by decide +kernel
theorem dX18_both_128 : decode cX18_both 128 = .ok (.iload_n 2, 1) := by decide +kernel
theorem dX18_both_129 : decode cX18_both 129 = .ok (.iaload, 1) := by decide +kernel
theorem dX18_both_130 : decode cX18_both 130 = .ok (.if_icmp .ne 15, 3) := by decide +kernel
theorem dX18_both_133 : decode cX18_both 133 = .ok (.aload_n 0, 1) := by decide +kernel
theorem dX18_both_134 : decode cX18_both 134 = .ok (.invokevirtual 414, 3) := by decide +kernel
theorem dX18_both_137 : decode cX18_both 137 = .ok (.ifCond .ne 8, 3) := by decide +kernel
theorem dX18_both_140 : decode cX18_both 140 = .ok (.bipush 8, 2) := by decide +kernel
theorem dX18_both_142 : decode cX18_both 142 = .ok (.goto 5, 3) := by decide +kernel
theorem dX18_both_98 : decode cX18_both 98 = .ok (.iload 6, 2) := by decide +kernel
theorem dX18_both_100 : decode cX18_both 100 = .ok (.goto 11, 3) := by decide +kernel
theorem dX18_both_81 : decode cX18_both 81 = .ok (.iconst 0, 1) := by decide +kernel
theorem dX18_both_82 : decode cX18_both 82 = .ok (.ireturn, 1) := by decide +kernel
theorem dX18_both_54 : decode cX18_both 54 = .ok (.iload 5, 2) := by decide +kernel
theorem dX18_both_56 : decode cX18_both 56 = .ok (.ifCond .eq 14, 3) := by decide +kernel
theorem dX18_both_70 : decode cX18_both 70 = .ok (.iconst 1, 1) := by decide +kernel
theorem dX18_both_71 : decode cX18_both 71 = .ok (.goto 4, 3) := by decide +kernel
theorem dX18_both_59 : decode cX18_both 59 = .ok (.aload_n 0, 1) := by decide +kernel
theorem dX18_both_60 : decode cX18_both 60 = .ok (.getfield 82, 3) := by decide +kernel
theorem dX18_both_63 : decode cX18_both 63 = .ok (.iload_n 3, 1) := by decide +kernel
theorem dX18_both_64 : decode cX18_both 64 = .ok (.iaload, 1) := by decide +kernel
theorem dX18_both_65 : decode cX18_both 65 = .ok (.bipush 19, 2) := by decide +kernel
theorem dX18_both_67 : decode cX18_both 67 = .ok (.if_icmp .ge 7, 3) := by decide +kernel
theorem dX18_both_11 : decode cX18_both 11 = .ok (.iload_n 2, 1) := by decide +kernel
theorem dX18_both_12 : decode cX18_both 12 = .ok (.aload_n 0, 1) := by decide +kernel
theorem dX18_both_13 : decode cX18_both 13 = .ok (.getfield 382, 3) := by decide +kernel
theorem dX18_both_16 : decode cX18_both 16 = .ok (.invokestatic 207, 3) := by decide +kernel
theorem dX18_both_19 : decode cX18_both 19 = .ok (.ifCond .eq 22, 3) := by decide +kernel
theorem dX18_both_22 : decode cX18_both 22 = .ok (.iload_n 1, 1) := by decide +kernel
theorem dX18_both_23 : decode cX18_both 23 = .ok (.iload_n 2, 1) := by decide +kernel
theorem dX18_both_24 : decode cX18_both 24 = .ok (.if_icmp .eq 17, 3) := by decide +kernel
theorem dX18_both_27 : decode cX18_both 27 = .ok (.aload_n 0, 1) := by decide +kernel
theorem dX18_both_28 : decode cX18_both 28 = .ok (.iload_n 3, 1) := by decide +kernel
theorem dX18_both_29 : decode cX18_both 29 = .ok (.iload 4, 2) := by decide +kernel
theorem dX18_both_31 : decode cX18_both 31 = .ok (.invokevirtual 425, 3) := by decide +kernel
theorem dX18_both_34 : decode cX18_both 34 = .ok (.ifCond .eq 7, 3) := by decide +kernel
theorem dX18_both_37 : decode cX18_both 37 = .ok (.iconst 1, 1) := by decide +kernel
theorem dX18_both_38 : decode cX18_both 38 = .ok (.goto 4, 3) := by decide +kernel
theorem dX18_off_0 : decode cX18_off 0 = .ok (.aload_n 0, 1) := by decide +kernel
theorem dX18_off_1 : decode cX18_off 1 = .ok (.iload_n 1, 1) := by decide +kernel
theorem dX18_off_2 : decode cX18_off 2 = .ok (.aload_n 0, 1) := by decide +kernel
theorem dX18_off_3 : decode cX18_off 3 = .ok (.getfield 351, 3) := by decide +kernel
theorem dX18_off_6 : decode cX18_off 6 = .ok (.invokestatic 207, 3) := by decide +kernel
theorem dX18_off_9 : decode cX18_off 9 = .ok (.aload_n 0, 1) := by decide +kernel
theorem dX18_off_10 : decode cX18_off 10 = .ok (.getfield 192, 3) := by decide +kernel
theorem dX18_off_13 : decode cX18_off 13 = .ok (.invokevirtual 199, 3) := by decide +kernel
theorem dX18_off_16 : decode cX18_off 16 = .ok (.ifCond .ne 5, 3) := by decide +kernel
theorem dX18_off_21 : decode cX18_off 21 = .ok (.iload_n 2, 1) := by decide +kernel
theorem dX18_off_22 : decode cX18_off 22 = .ok (.ifCond .eq 36, 3) := by decide +kernel
theorem dX18_off_58 : decode cX18_off 58 = .ok (.iconst 0, 1) := by decide +kernel
theorem dX18_off_59 : decode cX18_off 59 = .ok (.istore_n 3, 1) := by decide +kernel
theorem dX18_off_60 : decode cX18_off 60 = .ok (.iload_n 3, 1) := by decide +kernel
theorem dX18_off_61 : decode cX18_off 61 = .ok (.aload_n 0, 1) := by decide +kernel
theorem dX18_off_62 : decode cX18_off 62 = .ok (.getfield 82, 3) := by decide +kernel
theorem dX18_off_65 : decode cX18_off 65 = .ok (.iload_n 1, 1) := by decide +kernel
theorem dX18_off_66 : decode cX18_off 66 = .ok (.iaload, 1) := by decide +kernel
theorem dX18_off_67 : decode cX18_off 67 = .ok (.if_icmp .ge 167, 3) := by decide +kernel
theorem dX18_off_70 : decode cX18_off 70 = .ok (.bipush 20, 2) := by decide +kernel
theorem dX18_off_72 : decode cX18_off 72 = .ok (.iload_n 1, 1) := by decide +kernel
theorem dX18_off_73 : decode cX18_off 73 = .ok (.imul, 1) := by decide +kernel
theorem dX18_off_74 : decode cX18_off 74 = .ok (.iload_n 3, 1) := by decide +kernel
theorem dX18_off_75 : decode cX18_off 75 = .ok (.iadd, 1) := by decide +kernel
theorem dX18_off_76 : decode cX18_off 76 = .ok (.istore 4, 2) := by decide +kernel
theorem dX18_off_78 : decode cX18_off 78 = .ok (.aload_n 0, 1) := by decide +kernel
theorem dX18_off_79 : decode cX18_off 79 = .ok (.getfield 85, 3) := by decide +kernel
theorem dX18_off_82 : decode cX18_off 82 = .ok (.iload 4, 2) := by decide +kernel
theorem dX18_off_84 : decode cX18_off 84 = .ok (.iaload, 1) := by decide +kernel
theorem dX18_off_85 : decode cX18_off 85 = .ok (.istore 5, 2) := by decide +kernel
theorem dX18_off_87 : decode cX18_off 87 = .ok (.aload_n 0, 1) := by decide +kernel
theorem dX18_off_88 : decode cX18_off 88 = .ok (.getfield 115, 3) := by decide +kernel
theorem dX18_off_91 : decode cX18_off 91 = .ok (.aload_n 0, 1) := by decide +kernel
theorem dX18_off_92 : decode cX18_off 92 = .ok (.getfield 124, 3) := by decide +kernel
theorem dX18_off_95 : decode cX18_off 95 = .ok (.iload 5, 2) := by decide +kernel
theorem dX18_off_97 : decode cX18_off 97 = .ok (.iaload, 1) := by decide +kernel
theorem dX18_off_98 : decode cX18_off 98 = .ok (.iaload, 1) := by decide +kernel
theorem dX18_off_99 : decode cX18_off 99 = .ok (.ifCond .ge 22, 3) := by decide +kernel
theorem dX18_off_121 : decode cX18_off 121 = .ok (.aload_n 0, 1) := by decide +kernel
theorem dX18_off_122 : decode cX18_off 122 = .ok (.iload 5, 2) := by decide +kernel
theorem dX18_off_124 : decode cX18_off 124 = .ok (.aload_n 0, 1) := by decide +kernel
theorem dX18_off_125 : decode cX18_off 125 = .ok (.getfield 88, 3) := by decide +kernel
theorem dX18_off_128 : decode cX18_off 128 = .ok (.iload 4, 2) := by decide +kernel
theorem dX18_off_130 : decode cX18_off 130 = .ok (.iaload, 1) := by decide +kernel
theorem dX18_off_131 : decode cX18_off 131 = .ok (.aload_n 0, 1) := by decide +kernel
theorem dX18_off_132 : decode cX18_off 132 = .ok (.getfield 91, 3) := by decide +kernel
theorem dX18_off_135 : decode cX18_off 135 = .ok (.iload 4, 2) := by decide +kernel
theorem dX18_off_137 : decode cX18_off 137 = .ok (.iaload, 1) := by decide +kernel
theorem dX18_off_138 : decode cX18_off 138 = .ok (.ldc_w 354, 3) := by decide +kernel
theorem dX18_off_141 : decode cX18_off 141 = .ok (.iconst (-1), 1) := by decide +kernel
theorem dX18_off_142 : decode cX18_off 142 = .ok (.invokevirtual 418, 3) := by decide +kernel
theorem dX18_off_145 : decode cX18_off 145 = .ok (.istore 6, 2) := by decide +kernel
theorem dX18_off_147 : decode cX18_off 147 = .ok (.iload 6, 2) := by decide +kernel
theorem dX18_off_149 : decode cX18_off 149 = .ok (.ifCond .le 60, 3) := by decide +kernel
theorem dX18_off_209 : decode cX18_off 209 = .ok (.aload_n 0, 1) := by decide +kernel
theorem dX18_off_210 : decode cX18_off 210 = .ok (.dup, 1) := by decide +kernel
theorem dX18_off_211 : decode cX18_off 211 = .ok (.getfield 434, 3) := by decide +kernel
theorem dX18_off_214 : decode cX18_off 214 = .ok (.iload 6, 2) := by decide +kernel
theorem dX18_off_216 : decode cX18_off 216 = .ok (.ifCond .le 7, 3) := by decide +kernel
theorem dX18_off_223 : decode cX18_off 223 = .ok (.iconst 0, 1) := by decide +kernel
theorem dX18_off_224 : decode cX18_off 224 = .ok (.iadd, 1) := by decide +kernel
theorem dX18_off_225 : decode cX18_off 225 = .ok (.putfield 434, 3) := by decide +kernel
theorem dX18_off_228 : decode cX18_off 228 = .ok (.iinc 3 1, 3) := by decide +kernel
theorem dX18_off_231 : decode cX18_off 231 = .ok (.goto (-171), 3) := by decide +kernel
theorem dX18_off_219 : decode cX18_off 219 = .ok (.iconst 1, 1) := by decide +kernel
theorem dX18_off_220 : decode cX18_off 220 = .ok (.goto 4, 3) := by decide +kernel
theorem dX18_off_152 : decode cX18_off 152 = .ok (.aload_n 0, 1) := by decide +kernel
theorem dX18_off_153 : decode cX18_off 153 = .ok (.getfield 434, 3) := by decide +kernel
theorem dX18_off_156 : decode cX18_off 156 = .ok (.bipush 100, 2) := by decide +kernel
theorem dX18_off_158 : decode cX18_off 158 = .ok (.if_icmp .ge 51, 3) := by decide +kernel
theorem dX18_off_161 : decode cX18_off 161 = .ok (.aload_n 0, 1) := by decide +kernel
theorem dX18_off_162 : decode cX18_off 162 = .ok (.getfield 154, 3) := by decide +kernel
theorem dX18_off_165 : decode cX18_off 165 = .ok (.aload_n 0, 1) := by decide +kernel
theorem dX18_off_166 : decode cX18_off 166 = .ok (.getfield 434, 3) := by decide +kernel
theorem dX18_off_169 : decode cX18_off 169 = .ok (.iload_n 1, 1) := by decide +kernel
theorem dX18_off_170 : decode cX18_off 170 = .ok (.iastore, 1) := by decide +kernel
theorem dX18_off_171 : decode cX18_off 171 = .ok (.aload_n 0, 1) := by decide +kernel
theorem dX18_off_172 : decode cX18_off 172 = .ok (.getfield 157, 3) := by decide +kernel
theorem dX18_off_175 : decode cX18_off 175 = .ok (.aload_n 0, 1) := by decide +kernel
theorem dX18_off_176 : decode cX18_off 176 = .ok (.getfield 434, 3) := by decide +kernel
theorem dX18_off_179 : decode cX18_off 179 = .ok (.iload 5, 2) := by decide +kernel
theorem dX18_off_181 : decode cX18_off 181 = .ok (.iastore, 1) := by decide +kernel
theorem dX18_off_182 : decode cX18_off 182 = .ok (.aload_n 0, 1) := by decide +kernel
theorem dX18_off_183 : decode cX18_off 183 = .ok (.getfield 160, 3) := by decide +kernel
theorem dX18_off_186 : decode cX18_off 186 = .ok (.aload_n 0, 1) := by decide +kernel
theorem dX18_off_187 : decode cX18_off 187 = .ok (.getfield 434, 3) := by decide +kernel
theorem dX18_off_190 : decode cX18_off 190 = .ok (.aload_n 0, 1) := by decide +kernel
theorem dX18_off_191 : decode cX18_off 191 = .ok (.getfield 91, 3) := by decide +kernel
theorem dX18_off_194 : decode cX18_off 194 = .ok (.iload 4, 2) := by decide +kernel
theorem dX18_off_196 : decode cX18_off 196 = .ok (.iaload, 1) := by decide +kernel
theorem dX18_off_197 : decode cX18_off 197 = .ok (.iastore, 1) := by decide +kernel
theorem dX18_off_198 : decode cX18_off 198 = .ok (.aload_n 0, 1) := by decide +kernel
theorem dX18_off_199 : decode cX18_off 199 = .ok (.getfield 163, 3) := by decide +kernel
theorem dX18_off_202 : decode cX18_off 202 = .ok (.aload_n 0, 1) := by decide +kernel
theorem dX18_off_203 : decode cX18_off 203 = .ok (.getfield 434, 3) := by decide +kernel
theorem dX18_off_206 : decode cX18_off 206 = .ok (.iload 6, 2) := by decide +kernel
theorem dX18_off_208 : decode cX18_off 208 = .ok (.iastore, 1) := by decide +kernel
theorem dX18_off_102 : decode cX18_off 102 = .ok (.aload_n 0, 1) := by decide +kernel
theorem dX18_off_103 : decode cX18_off 103 = .ok (.aload_n 0, 1) := by decide +kernel
theorem dX18_off_104 : decode cX18_off 104 = .ok (.getfield 124, 3) := by decide +kernel
theorem dX18_off_107 : decode cX18_off 107 = .ok (.iload 5, 2) := by decide +kernel
theorem dX18_off_109 : decode cX18_off 109 = .ok (.iaload, 1) := by decide +kernel
theorem dX18_off_110 : decode cX18_off 110 = .ok (.iload_n 1, 1) := by decide +kernel
theorem dX18_off_111 : decode cX18_off 111 = .ok (.aload_n 0, 1) := by decide +kernel
theorem dX18_off_112 : decode cX18_off 112 = .ok (.getfield 88, 3) := by decide +kernel
theorem dX18_off_115 : decode cX18_off 115 = .ok (.iload 4, 2) := by decide +kernel
theorem dX18_off_117 : decode cX18_off 117 = .ok (.iaload, 1) := by decide +kernel
theorem dX18_off_118 : decode cX18_off 118 = .ok (.invokevirtual 422, 3) := by decide +kernel
theorem dX18_off_234 : decode cX18_off 234 = .ok (.aload_n 0, 1) := by decide +kernel
theorem dX18_off_235 : decode cX18_off 235 = .ok (.getfield 82, 3) := by decide +kernel
theorem dX18_off_238 : decode cX18_off 238 = .ok (.iload_n 1, 1) := by decide +kernel
theorem dX18_off_239 : decode cX18_off 239 = .ok (.iaload, 1) := by decide +kernel
theorem dX18_off_240 : decode cX18_off 240 = .ok (.istore_n 3, 1) := by decide +kernel
theorem dX18_off_241 : decode cX18_off 241 = .ok (.aload_n 0, 1) := by decide +kernel
theorem dX18_off_242 : decode cX18_off 242 = .ok (.getfield 82, 3) := by decide +kernel
theorem dX18_off_245 : decode cX18_off 245 = .ok (.iload_n 1, 1) := by decide +kernel
theorem dX18_off_246 : decode cX18_off 246 = .ok (.iconst 0, 1) := by decide +kernel
theorem dX18_off_247 : decode cX18_off 247 = .ok (.iastore, 1) := by decide +kernel
theorem dX18_off_248 : decode cX18_off 248 = .ok (.aload_n 0, 1) := by decide +kernel
theorem dX18_off_249 : decode cX18_off 249 = .ok (.getfield 79, 3) := by decide +kernel
theorem dX18_off_252 : decode cX18_off 252 = .ok (.iload_n 1, 1) := by decide +kernel
theorem dX18_off_253 : decode cX18_off 253 = .ok (.ldc_w 354, 3) := by decide +kernel
theorem dX18_off_256 : decode cX18_off 256 = .ok (.iastore, 1) := by decide +kernel
theorem dX18_off_257 : decode cX18_off 257 = .ok (.iload_n 3, 1) := by decide +kernel
theorem dX18_off_258 : decode cX18_off 258 = .ok (.ireturn, 1) := by decide +kernel
theorem dX18_off_25 : decode cX18_off 25 = .ok (.aload_n 0, 1) := by decide +kernel
theorem dX18_off_26 : decode cX18_off 26 = .ok (.getfield 79, 3) := by decide +kernel
theorem dX18_off_29 : decode cX18_off 29 = .ok (.iload_n 1, 1) := by decide +kernel
theorem dX18_off_30 : decode cX18_off 30 = .ok (.aload_n 0, 1) := by decide +kernel
theorem dX18_off_31 : decode cX18_off 31 = .ok (.getfield 79, 3) := by decide +kernel
theorem dX18_off_34 : decode cX18_off 34 = .ok (.iload_n 1, 1) := by decide +kernel
theorem dX18_off_35 : decode cX18_off 35 = .ok (.iaload, 1) := by decide +kernel
theorem dX18_off_36 : decode cX18_off 36 = .ok (.ldc_w 354, 3) := by decide +kernel
theorem dX18_off_39 : decode cX18_off 39 = .ok (.if_icmp .ne 10, 3) := by decide +kernel
theorem dX18_off_49 : decode cX18_off 49 = .ok (.aload_n 0, 1) := by decide +kernel
theorem dX18_off_50 : decode cX18_off 50 = .ok (.getfield 79, 3) := by decide +kernel
theorem dX18_off_53 : decode cX18_off 53 = .ok (.iload_n 1, 1) := by decide +kernel
theorem dX18_off_54 : decode cX18_off 54 = .ok (.iaload, 1) := by decide +kernel
theorem dX18_off_55 : decode cX18_off 55 = .ok (.iastore, 1) := by decide +kernel
theorem dX18_off_56 : decode cX18_off 56 = .ok (.iconst 0, 1) := by decide +kernel
theorem dX18_off_57 : decode cX18_off 57 = .ok (.ireturn, 1) := by decide +kernel
theorem dX18_off_42 : decode cX18_off 42 = .ok (.aload_n 0, 1) := by decide +kernel
theorem dX18_off_43 : decode cX18_off 43 = .ok (.getfield 372, 3) := by decide +kernel
theorem dX18_off_46 : decode cX18_off 46 = .ok (.goto 9, 3) := by decide +kernel
theorem dX18_off_19 : decode cX18_off 19 = .ok (.iconst 0, 1) := by decide +kernel
theorem dX18_off_20 : decode cX18_off 20 = .ok (.ireturn, 1) := by decide +kernel
theorem dX18_where_0 : decode cX18_where 0 = .ok (.aload_n 0, 1) := by decide +kernel
theorem dX18_where_1 : decode cX18_where 1 = .ok (.iload_n 1, 1) := by decide +kernel
theorem dX18_where_2 : decode cX18_where 2 = .ok (.aload_n 0, 1) := by decide +kernel
theorem dX18_where_3 : decode cX18_where 3 = .ok (.getfield 369, 3) := by decide +kernel
theorem dX18_where_6 : decode cX18_where 6 = .ok (.invokestatic 207, 3) := by decide +kernel
theorem dX18_where_9 : decode cX18_where 9 = .ok (.ifCond .eq 16, 3) := by decide +kernel
theorem dX18_where_25 : decode cX18_where 25 = .ok (.iconst 0, 1) := by decide +kernel
theorem dX18_where_26 : decode cX18_where 26 = .ok (.aload_n 0, 1) := by decide +kernel
theorem dX18_where_27 : decode cX18_where 27 = .ok (.getfield 192, 3) := by decide +kernel
theorem dX18_where_30 : decode cX18_where 30 = .ok (.invokevirtual 199, 3) := by decide +kernel
theorem dX18_where_33 : decode cX18_where 33 = .ok (.ifCond .ne 5, 3) := by decide +kernel
theorem dX18_where_38 : decode cX18_where 38 = .ok (.iload_n 2, 1) := by decide +kernel
theorem dX18_where_39 : decode cX18_where 39 = .ok (.tableswitch 68 0 4 #[33, 40, 47, 54, 61], 33) := by decide +kernel
theorem dX18_where_107 : decode cX18_where 107 = .ok (.aload_n 0, 1) := by decide +kernel
theorem dX18_where_108 : decode cX18_where 108 = .ok (.getfield 121, 3) := by decide +kernel
theorem dX18_where_111 : decode cX18_where 111 = .ok (.iload_n 1, 1) := by decide +kernel
theorem dX18_where_112 : decode cX18_where 112 = .ok (.iaload, 1) := by decide +kernel
theorem dX18_where_113 : decode cX18_where 113 = .ok (.ireturn, 1) := by decide +kernel
theorem dX18_where_72 : decode cX18_where 72 = .ok (.aload_n 0, 1) := by decide +kernel
theorem dX18_where_73 : decode cX18_where 73 = .ok (.getfield 106, 3) := by decide +kernel
theorem dX18_where_76 : decode cX18_where 76 = .ok (.iload_n 1, 1) := by decide +kernel
theorem dX18_where_77 : decode cX18_where 77 = .ok (.iaload, 1) := by decide +kernel
theorem dX18_where_78 : decode cX18_where 78 = .ok (.ireturn, 1) := by decide +kernel
theorem dX18_where_79 : decode cX18_where 79 = .ok (.aload_n 0, 1) := by decide +kernel
theorem dX18_where_80 : decode cX18_where 80 = .ok (.getfield 109, 3) := by decide +kernel
theorem dX18_where_83 : decode cX18_where 83 = .ok (.iload_n 1, 1) := by decide +kernel
theorem dX18_where_84 : decode cX18_where 84 = .ok (.iaload, 1) := by decide +kernel
theorem dX18_where_85 : decode cX18_where 85 = .ok (.ireturn, 1) := by decide +kernel
theorem dX18_where_86 : decode cX18_where 86 = .ok (.aload_n 0, 1) := by decide +kernel
theorem dX18_where_87 : decode cX18_where 87 = .ok (.getfield 112, 3) := by decide +kernel
theorem dX18_where_90 : decode cX18_where 90 = .ok (.iload_n 1, 1) := by decide +kernel
theorem dX18_where_91 : decode cX18_where 91 = .ok (.iaload, 1) := by decide +kernel
theorem dX18_where_92 : decode cX18_where 92 = .ok (.ireturn, 1) := by decide +kernel
theorem dX18_where_93 : decode cX18_where 93 = .ok (.aload_n 0, 1) := by decide +kernel
theorem dX18_where_94 : decode cX18_where 94 = .ok (.getfield 115, 3) := by decide +kernel
theorem dX18_where_97 : decode cX18_where 97 = .ok (.iload_n 1, 1) := by decide +kernel
theorem dX18_where_98 : decode cX18_where 98 = .ok (.iaload, 1) := by decide +kernel
theorem dX18_where_99 : decode cX18_where 99 = .ok (.ireturn, 1) := by decide +kernel
theorem dX18_where_100 : decode cX18_where 100 = .ok (.aload_n 0, 1) := by decide +kernel
theorem dX18_where_101 : decode cX18_where 101 = .ok (.getfield 118, 3) := by decide +kernel
theorem dX18_where_104 : decode cX18_where 104 = .ok (.iload_n 1, 1) := by decide +kernel
theorem dX18_where_105 : decode cX18_where 105 = .ok (.iaload, 1) := by decide +kernel
theorem dX18_where_106 : decode cX18_where 106 = .ok (.ireturn, 1) := by decide +kernel
theorem dX18_where_36 : decode cX18_where 36 = .ok (.iconst 0, 1) := by decide +kernel
theorem dX18_where_37 : decode cX18_where 37 = .ok (.ireturn, 1) := by decide +kernel
theorem dX18_where_12 : decode cX18_where 12 = .ok (.iload_n 2, 1) := by decide +kernel
theorem dX18_where_13 : decode cX18_where 13 = .ok (.bipush 6, 2) := by decide +kernel
theorem dX18_where_15 : decode cX18_where 15 = .ok (.invokestatic 207, 3) := by decide +kernel
theorem dX18_where_18 : decode cX18_where 18 = .ok (.ifCond .eq 7, 3) := by decide +kernel
theorem dX18_where_21 : decode cX18_where 21 = .ok (.iconst 1, 1) := by decide +kernel
theorem dX18_where_22 : decode cX18_where 22 = .ok (.goto 4, 3) := by decide +kernel
theorem dX18_inside_0 : decode cX18_inside 0 = .ok (.aload_n 0, 1) := by decide +kernel
theorem dX18_inside_1 : decode cX18_inside 1 = .ok (.iload_n 1, 1) := by decide +kernel
theorem dX18_inside_2 : decode cX18_inside 2 = .ok (.bipush 10, 2) := by decide +kernel
theorem dX18_inside_4 : decode cX18_inside 4 = .ok (.invokestatic 207, 3) := by decide +kernel
theorem dX18_inside_7 : decode cX18_inside 7 = .ok (.aload_n 0, 1) := by decide +kernel
theorem dX18_inside_8 : decode cX18_inside 8 = .ok (.getfield 192, 3) := by decide +kernel
theorem dX18_inside_11 : decode cX18_inside 11 = .ok (.invokevirtual 199, 3) := by decide +kernel
theorem dX18_inside_14 : decode cX18_inside 14 = .ok (.ifCond .ne 5, 3) := by decide +kernel
theorem dX18_inside_19 : decode cX18_inside 19 = .ok (.iconst 0, 1) := by decide +kernel
theorem dX18_inside_20 : decode cX18_inside 20 = .ok (.istore_n 2, 1) := by decide +kernel
theorem dX18_inside_21 : decode cX18_inside 21 = .ok (.iconst 0, 1) := by decide +kernel
theorem dX18_inside_22 : decode cX18_inside 22 = .ok (.istore_n 3, 1) := by decide +kernel
theorem dX18_inside_23 : decode cX18_inside 23 = .ok (.iload_n 3, 1) := by decide +kernel
theorem dX18_inside_24 : decode cX18_inside 24 = .ok (.aload_n 0, 1) := by decide +kernel
theorem dX18_inside_25 : decode cX18_inside 25 = .ok (.getfield 369, 3) := by decide +kernel
theorem dX18_inside_28 : decode cX18_inside 28 = .ok (.if_icmp .ge 31, 3) := by decide +kernel
theorem dX18_inside_31 : decode cX18_inside 31 = .ok (.iload_n 2, 1) := by decide +kernel
theorem dX18_inside_32 : decode cX18_inside 32 = .ok (.aload_n 0, 1) := by decide +kernel
theorem dX18_inside_33 : decode cX18_inside 33 = .ok (.aload_n 0, 1) := by decide +kernel
theorem dX18_inside_34 : decode cX18_inside 34 = .ok (.getfield 106, 3) := by decide +kernel
theorem dX18_inside_37 : decode cX18_inside 37 = .ok (.iload_n 3, 1) := by decide +kernel
theorem dX18_inside_38 : decode cX18_inside 38 = .ok (.iaload, 1) := by decide +kernel
theorem dX18_inside_39 : decode cX18_inside 39 = .ok (.invokevirtual 407, 3) := by decide +kernel
theorem dX18_inside_42 : decode cX18_inside 42 = .ok (.iload_n 1, 1) := by decide +kernel
theorem dX18_inside_43 : decode cX18_inside 43 = .ok (.if_icmp .ne 7, 3) := by decide +kernel
theorem dX18_inside_50 : decode cX18_inside 50 = .ok (.iconst 0, 1) := by decide +kernel
theorem dX18_inside_51 : decode cX18_inside 51 = .ok (.iadd, 1) := by decide +kernel
theorem dX18_inside_52 : decode cX18_inside 52 = .ok (.istore_n 2, 1) := by decide +kernel
theorem dX18_inside_53 : decode cX18_inside 53 = .ok (.iinc 3 1, 3) := by decide +kernel
theorem dX18_inside_56 : decode cX18_inside 56 = .ok (.goto (-33), 3) := by decide +kernel
theorem dX18_inside_46 : decode cX18_inside 46 = .ok (.iconst 1, 1) := by decide +kernel
theorem dX18_inside_47 : decode cX18_inside 47 = .ok (.goto 4, 3) := by decide +kernel
theorem dX18_inside_59 : decode cX18_inside 59 = .ok (.iload_n 2, 1) := by decide +kernel
theorem dX18_inside_60 : decode cX18_inside 60 = .ok (.ireturn, 1) := by decide +kernel
theorem dX18_inside_17 : decode cX18_inside 17 = .ok (.iconst 0, 1) := by decide +kernel
theorem dX18_inside_18 : decode cX18_inside 18 = .ok (.ireturn, 1) := by decide +kernel
theorem dX18_against_0 : decode cX18_against 0 = .ok (.aload_n 0, 1) := by decide +kernel
theorem dX18_against_1 : decode cX18_against 1 = .ok (.iload_n 2, 1) := by decide +kernel
theorem dX18_against_2 : decode cX18_against 2 = .ok (.iconst 5, 1) := by decide +kernel
theorem dX18_against_3 : decode cX18_against 3 = .ok (.invokestatic 207, 3) := by decide +kernel
theorem dX18_against_6 : decode cX18_against 6 = .ok (.ifCond .eq 29, 3) := by decide +kernel
theorem dX18_against_35 : decode cX18_against 35 = .ok (.iconst 0, 1) := by decide +kernel
theorem dX18_against_36 : decode cX18_against 36 = .ok (.aload_n 0, 1) := by decide +kernel
theorem dX18_against_37 : decode cX18_against 37 = .ok (.getfield 192, 3) := by decide +kernel
theorem dX18_against_40 : decode cX18_against 40 = .ok (.invokevirtual 199, 3) := by decide +kernel
theorem dX18_against_43 : decode cX18_against 43 = .ok (.ifCond .ne 5, 3) := by decide +kernel
theorem dX18_against_48 : decode cX18_against 48 = .ok (.iload_n 2, 1) := by decide +kernel
theorem dX18_against_49 : decode cX18_against 49 = .ok (.ifCond .ne 10, 3) := by decide +kernel
theorem dX18_against_59 : decode cX18_against 59 = .ok (.iload_n 2, 1) := by decide +kernel
theorem dX18_against_60 : decode cX18_against 60 = .ok (.iconst 1, 1) := by decide +kernel
theorem dX18_against_61 : decode cX18_against 61 = .ok (.if_icmp .ne 12, 3) := by decide +kernel
theorem dX18_against_73 : decode cX18_against 73 = .ok (.iload_n 2, 1) := by decide +kernel
theorem dX18_against_74 : decode cX18_against 74 = .ok (.iconst 2, 1) := by decide +kernel
theorem dX18_against_75 : decode cX18_against 75 = .ok (.if_icmp .ne 12, 3) := by decide +kernel
theorem dX18_against_87 : decode cX18_against 87 = .ok (.iload_n 2, 1) := by decide +kernel
theorem dX18_against_88 : decode cX18_against 88 = .ok (.iconst 3, 1) := by decide +kernel
theorem dX18_against_89 : decode cX18_against 89 = .ok (.if_icmp .ne 12, 3) := by decide +kernel
theorem dX18_against_101 : decode cX18_against 101 = .ok (.aload_n 0, 1) := by decide +kernel
theorem dX18_against_102 : decode cX18_against 102 = .ok (.getfield 163, 3) := by decide +kernel
theorem dX18_against_105 : decode cX18_against 105 = .ok (.iload_n 1, 1) := by decide +kernel
theorem dX18_against_106 : decode cX18_against 106 = .ok (.iaload, 1) := by decide +kernel
theorem dX18_against_107 : decode cX18_against 107 = .ok (.ireturn, 1) := by decide +kernel
theorem dX18_against_92 : decode cX18_against 92 = .ok (.aload_n 0, 1) := by decide +kernel
theorem dX18_against_93 : decode cX18_against 93 = .ok (.getfield 160, 3) := by decide +kernel
theorem dX18_against_96 : decode cX18_against 96 = .ok (.iload_n 1, 1) := by decide +kernel
theorem dX18_against_97 : decode cX18_against 97 = .ok (.iaload, 1) := by decide +kernel
theorem dX18_against_98 : decode cX18_against 98 = .ok (.goto 9, 3) := by decide +kernel
theorem dX18_against_78 : decode cX18_against 78 = .ok (.aload_n 0, 1) := by decide +kernel
theorem dX18_against_79 : decode cX18_against 79 = .ok (.getfield 157, 3) := by decide +kernel
theorem dX18_against_82 : decode cX18_against 82 = .ok (.iload_n 1, 1) := by decide +kernel
theorem dX18_against_83 : decode cX18_against 83 = .ok (.iaload, 1) := by decide +kernel
theorem dX18_against_84 : decode cX18_against 84 = .ok (.goto 23, 3) := by decide +kernel
theorem dX18_against_64 : decode cX18_against 64 = .ok (.aload_n 0, 1) := by decide +kernel
theorem dX18_against_65 : decode cX18_against 65 = .ok (.getfield 154, 3) := by decide +kernel
theorem dX18_against_68 : decode cX18_against 68 = .ok (.iload_n 1, 1) := by decide +kernel
theorem dX18_against_69 : decode cX18_against 69 = .ok (.iaload, 1) := by decide +kernel
theorem dX18_against_70 : decode cX18_against 70 = .ok (.goto 37, 3) := by decide +kernel
theorem dX18_against_52 : decode cX18_against 52 = .ok (.aload_n 0, 1) := by decide +kernel
theorem dX18_against_53 : decode cX18_against 53 = .ok (.getfield 434, 3) := by decide +kernel
theorem dX18_against_56 : decode cX18_against 56 = .ok (.goto 51, 3) := by decide +kernel
theorem dX18_against_46 : decode cX18_against 46 = .ok (.iconst 0, 1) := by decide +kernel
theorem dX18_against_47 : decode cX18_against 47 = .ok (.ireturn, 1) := by decide +kernel
theorem dX18_against_9 : decode cX18_against 9 = .ok (.iload_n 2, 1) := by decide +kernel
theorem dX18_against_10 : decode cX18_against 10 = .ok (.ifCond .eq 21, 3) := by decide +kernel
theorem dX18_against_31 : decode cX18_against 31 = .ok (.iconst 1, 1) := by decide +kernel
theorem dX18_against_32 : decode cX18_against 32 = .ok (.goto 4, 3) := by decide +kernel
theorem dX18_against_13 : decode cX18_against 13 = .ok (.iload_n 1, 1) := by decide +kernel
theorem dX18_against_14 : decode cX18_against 14 = .ok (.ifCond .lt 21, 3) := by decide +kernel
theorem dX18_against_17 : decode cX18_against 17 = .ok (.iload_n 1, 1) := by decide +kernel
theorem dX18_against_18 : decode cX18_against 18 = .ok (.aload_n 0, 1) := by decide +kernel
theorem dX18_against_19 : decode cX18_against 19 = .ok (.getfield 434, 3) := by decide +kernel
theorem dX18_against_22 : decode cX18_against 22 = .ok (.if_icmp .ge 13, 3) := by decide +kernel
theorem dX18_against_25 : decode cX18_against 25 = .ok (.iload_n 1, 1) := by decide +kernel
theorem dX18_against_26 : decode cX18_against 26 = .ok (.bipush 100, 2) := by decide +kernel
theorem dX18_against_28 : decode cX18_against 28 = .ok (.if_icmp .ge 7, 3) := by decide +kernel
theorem dX18_unit_0 : decode cX18_unit 0 = .ok (.aload_n 0, 1) := by decide +kernel
theorem dX18_unit_1 : decode cX18_unit 1 = .ok (.iload_n 1, 1) := by decide +kernel
theorem dX18_unit_2 : decode cX18_unit 2 = .ok (.ifCond .lt 13, 3) := by decide +kernel
theorem dX18_unit_15 : decode cX18_unit 15 = .ok (.iconst 0, 1) := by decide +kernel
theorem dX18_unit_16 : decode cX18_unit 16 = .ok (.aload_n 0, 1) := by decide +kernel
theorem dX18_unit_17 : decode cX18_unit 17 = .ok (.getfield 192, 3) := by decide +kernel
theorem dX18_unit_20 : decode cX18_unit 20 = .ok (.ifCond .eq 20, 3) := by decide +kernel
theorem dX18_unit_40 : decode cX18_unit 40 = .ok (.iconst 0, 1) := by decide +kernel
theorem dX18_unit_41 : decode cX18_unit 41 = .ok (.invokevirtual 199, 3) := by decide +kernel
theorem dX18_unit_44 : decode cX18_unit 44 = .ok (.ifCond .eq 14, 3) := by decide +kernel
theorem dX18_unit_58 : decode cX18_unit 58 = .ok (.iconst 0, 1) := by decide +kernel
theorem dX18_unit_59 : decode cX18_unit 59 = .ok (.ireturn, 1) := by decide +kernel
theorem dX18_unit_47 : decode cX18_unit 47 = .ok (.aload_n 0, 1) := by decide +kernel
theorem dX18_unit_48 : decode cX18_unit 48 = .ok (.getfield 28, 3) := by decide +kernel
theorem dX18_unit_51 : decode cX18_unit 51 = .ok (.iload_n 1, 1) := by decide +kernel
theorem dX18_unit_52 : decode cX18_unit 52 = .ok (.invokevirtual 438, 3) := by decide +kernel
theorem dX18_unit_55 : decode cX18_unit 55 = .ok (.goto 4, 3) := by decide +kernel
theorem dX18_unit_23 : decode cX18_unit 23 = .ok (.aload_n 0, 1) := by decide +kernel
theorem dX18_unit_24 : decode cX18_unit 24 = .ok (.getfield 28, 3) := by decide +kernel
theorem dX18_unit_27 : decode cX18_unit 27 = .ok (.getfield 437, 3) := by decide +kernel
theorem dX18_unit_30 : decode cX18_unit 30 = .ok (.sipush 2000, 3) := by decide +kernel
theorem dX18_unit_33 : decode cX18_unit 33 = .ok (.if_icmp .ge 7, 3) := by decide +kernel
theorem dX18_unit_36 : decode cX18_unit 36 = .ok (.iconst 1, 1) := by decide +kernel
theorem dX18_unit_37 : decode cX18_unit 37 = .ok (.goto 4, 3) := by decide +kernel
theorem dX18_unit_5 : decode cX18_unit 5 = .ok (.iload_n 1, 1) := by decide +kernel
theorem dX18_unit_6 : decode cX18_unit 6 = .ok (.bipush 127, 2) := by decide +kernel
theorem dX18_unit_8 : decode cX18_unit 8 = .ok (.if_icmp .gt 7, 3) := by decide +kernel
theorem dX18_unit_11 : decode cX18_unit 11 = .ok (.iconst 1, 1) := by decide +kernel
theorem dX18_unit_12 : decode cX18_unit 12 = .ok (.goto 4, 3) := by decide +kernel
theorem dX18_sentence_0 : decode cX18_sentence 0 = .ok (.aload_n 0, 1) := by decide +kernel
theorem dX18_sentence_1 : decode cX18_sentence 1 = .ok (.iconst 0, 1) := by decide +kernel
theorem dX18_sentence_2 : decode cX18_sentence 2 = .ok (.putfield 184, 3) := by decide +kernel
theorem dX18_sentence_5 : decode cX18_sentence 5 = .ok (.iload_n 1, 1) := by decide +kernel
theorem dX18_sentence_6 : decode cX18_sentence 6 = .ok (.iconst 5, 1) := by decide +kernel
theorem dX18_sentence_7 : decode cX18_sentence 7 = .ok (.invokestatic 207, 3) := by decide +kernel
theorem dX18_sentence_10 : decode cX18_sentence 10 = .ok (.ifCond .eq 14, 3) := by decide +kernel
theorem dX18_sentence_24 : decode cX18_sentence 24 = .ok (.iconst 0, 1) := by decide +kernel
theorem dX18_sentence_25 : decode cX18_sentence 25 = .ok (.istore 6, 2) := by decide +kernel
theorem dX18_sentence_27 : decode cX18_sentence 27 = .ok (.iload 6, 2) := by decide +kernel
theorem dX18_sentence_29 : decode cX18_sentence 29 = .ok (.ifCond .eq 37, 3) := by decide +kernel
theorem dX18_sentence_66 : decode cX18_sentence 66 = .ok (.iconst 0, 1) := by decide +kernel
theorem dX18_sentence_67 : decode cX18_sentence 67 = .ok (.istore 6, 2) := by decide +kernel
theorem dX18_sentence_69 : decode cX18_sentence 69 = .ok (.iload 6, 2) := by decide +kernel
theorem dX18_sentence_71 : decode cX18_sentence 71 = .ok (.ifCond .eq 41, 3) := by decide +kernel
theorem dX18_sentence_112 : decode cX18_sentence 112 = .ok (.iconst 0, 1) := by decide +kernel
theorem dX18_sentence_113 : decode cX18_sentence 113 = .ok (.istore 6, 2) := by decide +kernel
theorem dX18_sentence_115 : decode cX18_sentence 115 = .ok (.iload 6, 2) := by decide +kernel
theorem dX18_sentence_117 : decode cX18_sentence 117 = .ok (.ifCond .eq 17, 3) := by decide +kernel
theorem dX18_sentence_134 : decode cX18_sentence 134 = .ok (.aload_n 0, 1) := by decide +kernel
theorem dX18_sentence_135 : decode cX18_sentence 135 = .ok (.iload 6, 2) := by decide +kernel
theorem dX18_sentence_137 : decode cX18_sentence 137 = .ok (.aload_n 0, 1) := by decide +kernel
theorem dX18_sentence_138 : decode cX18_sentence 138 = .ok (.getfield 192, 3) := by decide +kernel
theorem dX18_sentence_141 : decode cX18_sentence 141 = .ok (.ifCond .eq 28, 3) := by decide +kernel
theorem dX18_sentence_169 : decode cX18_sentence 169 = .ok (.iconst 0, 1) := by decide +kernel
theorem dX18_sentence_170 : decode cX18_sentence 170 = .ok (.invokevirtual 199, 3) := by decide +kernel
theorem dX18_sentence_173 : decode cX18_sentence 173 = .ok (.ifCond .eq 13, 3) := by decide +kernel
theorem dX18_sentence_186 : decode cX18_sentence 186 = .ok (.iconst 0, 1) := by decide +kernel
theorem dX18_sentence_187 : decode cX18_sentence 187 = .ok (.ireturn, 1) := by decide +kernel
theorem dX18_sentence_176 : decode cX18_sentence 176 = .ok (.aload_n 0, 1) := by decide +kernel
theorem dX18_sentence_177 : decode cX18_sentence 177 = .ok (.getfield 28, 3) := by decide +kernel
theorem dX18_sentence_180 : decode cX18_sentence 180 = .ok (.invokevirtual 451, 3) := by decide +kernel
theorem dX18_sentence_183 : decode cX18_sentence 183 = .ok (.goto 4, 3) := by decide +kernel
theorem dX18_sentence_144 : decode cX18_sentence 144 = .ok (.aload_n 0, 1) := by decide +kernel
theorem dX18_sentence_145 : decode cX18_sentence 145 = .ok (.getfield 28, 3) := by decide +kernel
theorem dX18_sentence_148 : decode cX18_sentence 148 = .ok (.getfield 437, 3) := by decide +kernel
theorem dX18_sentence_151 : decode cX18_sentence 151 = .ok (.aload_n 0, 1) := by decide +kernel
theorem dX18_sentence_152 : decode cX18_sentence 152 = .ok (.getfield 28, 3) := by decide +kernel
theorem dX18_sentence_155 : decode cX18_sentence 155 = .ok (.getfield 448, 3) := by decide +kernel
theorem dX18_sentence_158 : decode cX18_sentence 158 = .ok (.iadd, 1) := by decide +kernel
theorem dX18_sentence_159 : decode cX18_sentence 159 = .ok (.sipush 2000, 3) := by decide +kernel
theorem dX18_sentence_162 : decode cX18_sentence 162 = .ok (.if_icmp .gt 7, 3) := by decide +kernel
theorem dX18_sentence_165 : decode cX18_sentence 165 = .ok (.iconst 1, 1) := by decide +kernel
theorem dX18_sentence_166 : decode cX18_sentence 166 = .ok (.goto 4, 3) := by decide +kernel
theorem dX18_sentence_120 : decode cX18_sentence 120 = .ok (.aload_n 0, 1) := by decide +kernel
theorem dX18_sentence_121 : decode cX18_sentence 121 = .ok (.getfield 28, 3) := by decide +kernel
theorem dX18_sentence_124 : decode cX18_sentence 124 = .ok (.iload_n 1, 1) := by decide +kernel
theorem dX18_sentence_125 : decode cX18_sentence 125 = .ok (.iload_n 2, 1) := by decide +kernel
theorem dX18_sentence_126 : decode cX18_sentence 126 = .ok (.iload_n 3, 1) := by decide +kernel
theorem dX18_sentence_127 : decode cX18_sentence 127 = .ok (.iload 4, 2) := by decide +kernel
theorem dX18_sentence_129 : decode cX18_sentence 129 = .ok (.iload 5, 2) := by decide +kernel
theorem dX18_sentence_131 : decode cX18_sentence 131 = .ok (.invokevirtual 444, 3) := by decide +kernel
theorem dX18_sentence_74 : decode cX18_sentence 74 = .ok (.iload_n 1, 1) := by decide +kernel
theorem dX18_sentence_75 : decode cX18_sentence 75 = .ok (.iconst 1, 1) := by decide +kernel
theorem dX18_sentence_76 : decode cX18_sentence 76 = .ok (.if_icmp .gt 32, 3) := by decide +kernel
theorem dX18_sentence_108 : decode cX18_sentence 108 = .ok (.iconst 1, 1) := by decide +kernel
theorem dX18_sentence_109 : decode cX18_sentence 109 = .ok (.goto 4, 3) := by decide +kernel
theorem dX18_sentence_79 : decode cX18_sentence 79 = .ok (.iload_n 1, 1) := by decide +kernel
theorem dX18_sentence_80 : decode cX18_sentence 80 = .ok (.iconst 1, 1) := by decide +kernel
theorem dX18_sentence_81 : decode cX18_sentence 81 = .ok (.if_icmp .ne 14, 3) := by decide +kernel
theorem dX18_sentence_95 : decode cX18_sentence 95 = .ok (.iload 5, 2) := by decide +kernel
theorem dX18_sentence_97 : decode cX18_sentence 97 = .ok (.iconst 1, 1) := by decide +kernel
theorem dX18_sentence_98 : decode cX18_sentence 98 = .ok (.if_icmp .lt 14, 3) := by decide +kernel
theorem dX18_sentence_101 : decode cX18_sentence 101 = .ok (.iload 5, 2) := by decide +kernel
theorem dX18_sentence_103 : decode cX18_sentence 103 = .ok (.bipush 12, 2) := by decide +kernel
theorem dX18_sentence_105 : decode cX18_sentence 105 = .ok (.if_icmp .gt 7, 3) := by decide +kernel
theorem dX18_sentence_84 : decode cX18_sentence 84 = .ok (.iload 5, 2) := by decide +kernel
theorem dX18_sentence_86 : decode cX18_sentence 86 = .ok (.invokestatic 441, 3) := by decide +kernel
theorem dX18_sentence_89 : decode cX18_sentence 89 = .ok (.ifCond .eq 23, 3) := by decide +kernel
theorem dX18_sentence_92 : decode cX18_sentence 92 = .ok (.goto 16, 3) := by decide +kernel
theorem dX18_sentence_32 : decode cX18_sentence 32 = .ok (.iload_n 1, 1) := by decide +kernel
theorem dX18_sentence_33 : decode cX18_sentence 33 = .ok (.iconst 4, 1) := by decide +kernel
theorem dX18_sentence_34 : decode cX18_sentence 34 = .ok (.if_icmp .eq 10, 3) := by decide +kernel
theorem dX18_sentence_44 : decode cX18_sentence 44 = .ok (.iload_n 1, 1) := by decide +kernel
theorem dX18_sentence_45 : decode cX18_sentence 45 = .ok (.iconst 2, 1) := by decide +kernel
theorem dX18_sentence_46 : decode cX18_sentence 46 = .ok (.if_icmp .eq 16, 3) := by decide +kernel
theorem dX18_sentence_62 : decode cX18_sentence 62 = .ok (.iconst 1, 1) := by decide +kernel
theorem dX18_sentence_63 : decode cX18_sentence 63 = .ok (.goto 4, 3) := by decide +kernel
theorem dX18_sentence_49 : decode cX18_sentence 49 = .ok (.iload_n 1, 1) := by decide +kernel
theorem dX18_sentence_50 : decode cX18_sentence 50 = .ok (.iconst 4, 1) := by decide +kernel
theorem dX18_sentence_51 : decode cX18_sentence 51 = .ok (.if_icmp .eq 11, 3) := by decide +kernel
theorem dX18_sentence_54 : decode cX18_sentence 54 = .ok (.iload 4, 2) := by decide +kernel
theorem dX18_sentence_56 : decode cX18_sentence 56 = .ok (.invokestatic 441, 3) := by decide +kernel
theorem dX18_sentence_59 : decode cX18_sentence 59 = .ok (.ifCond .eq 7, 3) := by decide +kernel
theorem dX18_sentence_37 : decode cX18_sentence 37 = .ok (.iload_n 3, 1) := by decide +kernel
theorem dX18_sentence_38 : decode cX18_sentence 38 = .ok (.invokestatic 441, 3) := by decide +kernel
theorem dX18_sentence_41 : decode cX18_sentence 41 = .ok (.ifCond .eq 25, 3) := by decide +kernel
theorem dX18_sentence_13 : decode cX18_sentence 13 = .ok (.iload_n 2, 1) := by decide +kernel
theorem dX18_sentence_14 : decode cX18_sentence 14 = .ok (.invokestatic 441, 3) := by decide +kernel
theorem dX18_sentence_17 : decode cX18_sentence 17 = .ok (.ifCond .eq 7, 3) := by decide +kernel
theorem dX18_sentence_20 : decode cX18_sentence 20 = .ok (.iconst 1, 1) := by decide +kernel
theorem dX18_sentence_21 : decode cX18_sentence 21 = .ok (.goto 4, 3) := by decide +kernel
theorem dX18_cutText_0 : decode cX18_cutText 0 = .ok (.aload_n 0, 1) := by decide +kernel
theorem dX18_cutText_1 : decode cX18_cutText 1 = .ok (.iload_n 1, 1) := by decide +kernel
theorem dX18_cutText_2 : decode cX18_cutText 2 = .ok (.ifCond .lt 18, 3) := by decide +kernel
theorem dX18_cutText_20 : decode cX18_cutText 20 = .ok (.iconst 0, 1) := by decide +kernel
theorem dX18_cutText_21 : decode cX18_cutText 21 = .ok (.aload_n 0, 1) := by decide +kernel
theorem dX18_cutText_22 : decode cX18_cutText 22 = .ok (.getfield 192, 3) := by decide +kernel
theorem dX18_cutText_25 : decode cX18_cutText 25 = .ok (.invokevirtual 199, 3) := by decide +kernel
theorem dX18_cutText_28 : decode cX18_cutText 28 = .ok (.ifCond .ne 5, 3) := by decide +kernel
theorem dX18_cutText_33 : decode cX18_cutText 33 = .ok (.aload_n 0, 1) := by decide +kernel
theorem dX18_cutText_34 : decode cX18_cutText 34 = .ok (.getfield 28, 3) := by decide +kernel
theorem dX18_cutText_37 : decode cX18_cutText 37 = .ok (.dup, 1) := by decide +kernel
theorem dX18_cutText_38 : decode cX18_cutText 38 = .ok (.getfield 437, 3) := by decide +kernel
theorem dX18_cutText_41 : decode cX18_cutText 41 = .ok (.iload_n 1, 1) := by decide +kernel
theorem dX18_cutText_42 : decode cX18_cutText 42 = .ok (.isub, 1) := by decide +kernel
theorem dX18_cutText_43 : decode cX18_cutText 43 = .ok (.putfield 437, 3) := by decide +kernel
theorem dX18_cutText_46 : decode cX18_cutText 46 = .ok (.aload_n 0, 1) := by decide +kernel
theorem dX18_cutText_47 : decode cX18_cutText 47 = .ok (.getfield 28, 3) := by decide +kernel
theorem dX18_cutText_50 : decode cX18_cutText 50 = .ok (.getfield 437, 3) := by decide +kernel
theorem dX18_cutText_53 : decode cX18_cutText 53 = .ok (.ireturn, 1) := by decide +kernel
theorem dX18_cutText_31 : decode cX18_cutText 31 = .ok (.iconst 0, 1) := by decide +kernel
theorem dX18_cutText_32 : decode cX18_cutText 32 = .ok (.ireturn, 1) := by decide +kernel
theorem dX18_cutText_5 : decode cX18_cutText 5 = .ok (.iload_n 1, 1) := by decide +kernel
theorem dX18_cutText_6 : decode cX18_cutText 6 = .ok (.aload_n 0, 1) := by decide +kernel
theorem dX18_cutText_7 : decode cX18_cutText 7 = .ok (.getfield 28, 3) := by decide +kernel
theorem dX18_cutText_10 : decode cX18_cutText 10 = .ok (.getfield 437, 3) := by decide +kernel
theorem dX18_cutText_13 : decode cX18_cutText 13 = .ok (.if_icmp .gt 7, 3) := by decide +kernel
theorem dX18_cutText_16 : decode cX18_cutText 16 = .ok (.iconst 1, 1) := by decide +kernel
theorem dX18_cutText_17 : decode cX18_cutText 17 = .ok (.goto 4, 3) := by decide +kernel
theorem dX18_matrix_0 : decode cX18_matrix 0 = .ok (.aload_n 0, 1) := by decide +kernel
theorem dX18_matrix_1 : decode cX18_matrix 1 = .ok (.aload_n 0, 1) := by decide +kernel
theorem dX18_matrix_2 : decode cX18_matrix 2 = .ok (.getfield 192, 3) := by decide +kernel
theorem dX18_matrix_5 : decode cX18_matrix 5 = .ok (.invokevirtual 230, 3) := by decide +kernel
theorem dX18_matrix_8 : decode cX18_matrix 8 = .ok (.ifCond .eq 13, 3) := by decide +kernel
theorem dX18_matrix_21 : decode cX18_matrix 21 = .ok (.iconst 0, 1) := by decide +kernel
theorem dX18_matrix_22 : decode cX18_matrix 22 = .ok (.ireturn, 1) := by decide +kernel
theorem dX18_matrix_11 : decode cX18_matrix 11 = .ok (.aload_n 0, 1) := by decide +kernel
theorem dX18_matrix_12 : decode cX18_matrix 12 = .ok (.getfield 28, 3) := by decide +kernel
theorem dX18_matrix_15 : decode cX18_matrix 15 = .ok (.invokevirtual 453, 3) := by decide +kernel
theorem dX18_matrix_18 : decode cX18_matrix 18 = .ok (.goto 4, 3) := by decide +kernel
theorem dX18_signal_0 : decode cX18_signal 0 = .ok (.aload_n 0, 1) := by decide +kernel
theorem dX18_signal_1 : decode cX18_signal 1 = .ok (.iload_n 1, 1) := by decide +kernel
theorem dX18_signal_2 : decode cX18_signal 2 = .ok (.aload_n 0, 1) := by decide +kernel
theorem dX18_signal_3 : decode cX18_signal 3 = .ok (.getfield 28, 3) := by decide +kernel
theorem dX18_signal_6 : decode cX18_signal 6 = .ok (.getfield 358, 3) := by decide +kernel
theorem dX18_signal_9 : decode cX18_signal 9 = .ok (.invokestatic 207, 3) := by decide +kernel
theorem dX18_signal_12 : decode cX18_signal 12 = .ok (.ifCond .eq 17, 3) := by decide +kernel
theorem dX18_signal_29 : decode cX18_signal 29 = .ok (.iconst 0, 1) := by decide +kernel
theorem dX18_signal_30 : decode cX18_signal 30 = .ok (.aload_n 0, 1) := by decide +kernel
theorem dX18_signal_31 : decode cX18_signal 31 = .ok (.getfield 192, 3) := by decide +kernel
theorem dX18_signal_34 : decode cX18_signal 34 = .ok (.invokevirtual 199, 3) := by decide +kernel
theorem dX18_signal_37 : decode cX18_signal 37 = .ok (.ifCond .ne 5, 3) := by decide +kernel
theorem dX18_signal_42 : decode cX18_signal 42 = .ok (.aload_n 0, 1) := by decide +kernel
theorem dX18_signal_43 : decode cX18_signal 43 = .ok (.getfield 28, 3) := by decide +kernel
theorem dX18_signal_46 : decode cX18_signal 46 = .ok (.getfield 454, 3) := by decide +kernel
theorem dX18_signal_49 : decode cX18_signal 49 = .ok (.iload_n 1, 1) := by decide +kernel
theorem dX18_signal_50 : decode cX18_signal 50 = .ok (.iaload, 1) := by decide +kernel
theorem dX18_signal_51 : decode cX18_signal 51 = .ok (.istore_n 3, 1) := by decide +kernel
theorem dX18_signal_52 : decode cX18_signal 52 = .ok (.aload_n 0, 1) := by decide +kernel
theorem dX18_signal_53 : decode cX18_signal 53 = .ok (.getfield 28, 3) := by decide +kernel
theorem dX18_signal_56 : decode cX18_signal 56 = .ok (.getfield 454, 3) := by decide +kernel
theorem dX18_signal_59 : decode cX18_signal 59 = .ok (.iload_n 1, 1) := by decide +kernel
theorem dX18_signal_60 : decode cX18_signal 60 = .ok (.iload_n 2, 1) := by decide +kernel
theorem dX18_signal_61 : decode cX18_signal 61 = .ok (.iastore, 1) := by decide +kernel
theorem dX18_signal_62 : decode cX18_signal 62 = .ok (.iload_n 3, 1) := by decide +kernel
theorem dX18_signal_63 : decode cX18_signal 63 = .ok (.ireturn, 1) := by decide +kernel
theorem dX18_signal_40 : decode cX18_signal 40 = .ok (.iconst 0, 1) := by decide +kernel
theorem dX18_signal_41 : decode cX18_signal 41 = .ok (.ireturn, 1) := by decide +kernel
theorem dX18_signal_15 : decode cX18_signal 15 = .ok (.iload_n 2, 1) := by decide +kernel
theorem dX18_signal_16 : decode cX18_signal 16 = .ok (.ifCond .lt 13, 3) := by decide +kernel
theorem dX18_signal_19 : decode cX18_signal 19 = .ok (.iload_n 2, 1) := by decide +kernel
theorem dX18_signal_20 : decode cX18_signal 20 = .ok (.bipush 100, 2) := by decide +kernel
theorem dX18_signal_22 : decode cX18_signal 22 = .ok (.if_icmp .gt 7, 3) := by decide +kernel
theorem dX18_signal_25 : decode cX18_signal 25 = .ok (.iconst 1, 1) := by decide +kernel
theorem dX18_signal_26 : decode cX18_signal 26 = .ok (.goto 4, 3) := by decide +kernel
theorem dX18_fault_0 : decode cX18_fault 0 = .ok (.aload_n 0, 1) := by decide +kernel
theorem dX18_fault_1 : decode cX18_fault 1 = .ok (.iload_n 1, 1) := by decide +kernel
theorem dX18_fault_2 : decode cX18_fault 2 = .ok (.aload_n 0, 1) := by decide +kernel
theorem dX18_fault_3 : decode cX18_fault 3 = .ok (.getfield 28, 3) := by decide +kernel
theorem dX18_fault_6 : decode cX18_fault 6 = .ok (.getfield 358, 3) := by decide +kernel
theorem dX18_fault_9 : decode cX18_fault 9 = .ok (.invokestatic 207, 3) := by decide +kernel
theorem dX18_fault_12 : decode cX18_fault 12 = .ok (.aload_n 0, 1) := by decide +kernel
theorem dX18_fault_13 : decode cX18_fault 13 = .ok (.getfield 192, 3) := by decide +kernel
theorem dX18_fault_16 : decode cX18_fault 16 = .ok (.invokevirtual 199, 3) := by decide +kernel
theorem dX18_fault_19 : decode cX18_fault 19 = .ok (.ifCond .ne 5, 3) := by decide +kernel
theorem dX18_fault_24 : decode cX18_fault 24 = .ok (.aload_n 0, 1) := by decide +kernel
theorem dX18_fault_25 : decode cX18_fault 25 = .ok (.getfield 28, 3) := by decide +kernel
theorem dX18_fault_28 : decode cX18_fault 28 = .ok (.getfield 457, 3) := by decide +kernel
theorem dX18_fault_31 : decode cX18_fault 31 = .ok (.iload_n 1, 1) := by decide +kernel
theorem dX18_fault_32 : decode cX18_fault 32 = .ok (.baload, 1) := by decide +kernel
theorem dX18_fault_33 : decode cX18_fault 33 = .ok (.istore_n 3, 1) := by decide +kernel
theorem dX18_fault_34 : decode cX18_fault 34 = .ok (.aload_n 0, 1) := by decide +kernel
theorem dX18_fault_35 : decode cX18_fault 35 = .ok (.getfield 28, 3) := by decide +kernel
theorem dX18_fault_38 : decode cX18_fault 38 = .ok (.getfield 457, 3) := by decide +kernel
theorem dX18_fault_41 : decode cX18_fault 41 = .ok (.iload_n 1, 1) := by decide +kernel
theorem dX18_fault_42 : decode cX18_fault 42 = .ok (.iload_n 2, 1) := by decide +kernel
theorem dX18_fault_43 : decode cX18_fault 43 = .ok (.bastore, 1) := by decide +kernel
theorem dX18_fault_44 : decode cX18_fault 44 = .ok (.iload_n 3, 1) := by decide +kernel
theorem dX18_fault_45 : decode cX18_fault 45 = .ok (.ireturn, 1) := by decide +kernel
theorem dX18_fault_22 : decode cX18_fault 22 = .ok (.iconst 0, 1) := by decide +kernel
theorem dX18_fault_23 : decode cX18_fault 23 = .ok (.ireturn, 1) := by decide +kernel
theorem dX18_disable_0 : decode cX18_disable 0 = .ok (.aload_n 0, 1) := by decide +kernel
theorem dX18_disable_1 : decode cX18_disable 1 = .ok (.iload_n 1, 1) := by decide +kernel
theorem dX18_disable_2 : decode cX18_disable 2 = .ok (.aload_n 0, 1) := by decide +kernel
theorem dX18_disable_3 : decode cX18_disable 3 = .ok (.getfield 28, 3) := by decide +kernel
theorem dX18_disable_6 : decode cX18_disable 6 = .ok (.getfield 358, 3) := by decide +kernel
theorem dX18_disable_9 : decode cX18_disable 9 = .ok (.invokestatic 207, 3) := by decide +kernel
theorem dX18_disable_12 : decode cX18_disable 12 = .ok (.ifCond .eq 18, 3) := by decide +kernel
theorem dX18_disable_30 : decode cX18_disable 30 = .ok (.iconst 0, 1) := by decide +kernel
theorem dX18_disable_31 : decode cX18_disable 31 = .ok (.aload_n 0, 1) := by decide +kernel
theorem dX18_disable_32 : decode cX18_disable 32 = .ok (.getfield 192, 3) := by decide +kernel
theorem dX18_disable_35 : decode cX18_disable 35 = .ok (.invokevirtual 199, 3) := by decide +kernel
theorem dX18_disable_38 : decode cX18_disable 38 = .ok (.ifCond .ne 5, 3) := by decide +kernel
theorem dX18_disable_43 : decode cX18_disable 43 = .ok (.aload_n 0, 1) := by decide +kernel
theorem dX18_disable_44 : decode cX18_disable 44 = .ok (.getfield 28, 3) := by decide +kernel
theorem dX18_disable_47 : decode cX18_disable 47 = .ok (.getfield 460, 3) := by decide +kernel
theorem dX18_disable_50 : decode cX18_disable 50 = .ok (.iload_n 1, 1) := by decide +kernel
theorem dX18_disable_51 : decode cX18_disable 51 = .ok (.iaload, 1) := by decide +kernel
theorem dX18_disable_52 : decode cX18_disable 52 = .ok (.istore_n 3, 1) := by decide +kernel
theorem dX18_disable_53 : decode cX18_disable 53 = .ok (.aload_n 0, 1) := by decide +kernel
theorem dX18_disable_54 : decode cX18_disable 54 = .ok (.getfield 28, 3) := by decide +kernel
theorem dX18_disable_57 : decode cX18_disable 57 = .ok (.getfield 460, 3) := by decide +kernel
theorem dX18_disable_60 : decode cX18_disable 60 = .ok (.iload_n 1, 1) := by decide +kernel
theorem dX18_disable_61 : decode cX18_disable 61 = .ok (.iload_n 2, 1) := by decide +kernel
theorem dX18_disable_62 : decode cX18_disable 62 = .ok (.iastore, 1) := by decide +kernel
theorem dX18_disable_63 : decode cX18_disable 63 = .ok (.iload_n 3, 1) := by decide +kernel
theorem dX18_disable_64 : decode cX18_disable 64 = .ok (.ireturn, 1) := by decide +kernel
theorem dX18_disable_41 : decode cX18_disable 41 = .ok (.iconst 0, 1) := by decide +kernel
theorem dX18_disable_42 : decode cX18_disable 42 = .ok (.ireturn, 1) := by decide +kernel
theorem dX18_disable_15 : decode cX18_disable 15 = .ok (.iload_n 2, 1) := by decide +kernel
theorem dX18_disable_16 : decode cX18_disable 16 = .ok (.ifCond .lt 14, 3) := by decide +kernel
theorem dX18_disable_19 : decode cX18_disable 19 = .ok (.iload_n 2, 1) := by decide +kernel
theorem dX18_disable_20 : decode cX18_disable 20 = .ok (.ldc_w 315, 3) := by decide +kernel
theorem dX18_disable_23 : decode cX18_disable 23 = .ok (.if_icmp .gt 7, 3) := by decide +kernel
theorem dX18_disable_26 : decode cX18_disable 26 = .ok (.iconst 1, 1) := by decide +kernel
theorem dX18_disable_27 : decode cX18_disable 27 = .ok (.goto 4, 3) := by decide +kernel
theorem dX18_attend_0 : decode cX18_attend 0 = .ok (.aload_n 0, 1) := by decide +kernel
theorem dX18_attend_1 : decode cX18_attend 1 = .ok (.iload_n 1, 1) := by decide +kernel
theorem dX18_attend_2 : decode cX18_attend 2 = .ok (.ifCond .eq 8, 3) := by decide +kernel
theorem dX18_attend_10 : decode cX18_attend 10 = .ok (.iconst 1, 1) := by decide +kernel
theorem dX18_attend_11 : decode cX18_attend 11 = .ok (.goto 4, 3) := by decide +kernel
theorem dX18_attend_15 : decode cX18_attend 15 = .ok (.aload_n 0, 1) := by decide +kernel
theorem dX18_attend_16 : decode cX18_attend 16 = .ok (.getfield 192, 3) := by decide +kernel
theorem dX18_attend_19 : decode cX18_attend 19 = .ok (.invokevirtual 199, 3) := by decide +kernel
theorem dX18_attend_22 : decode cX18_attend 22 = .ok (.ifCond .eq 14, 3) := by decide +kernel
theorem dX18_attend_36 : decode cX18_attend 36 = .ok (.iconst 0, 1) := by decide +kernel
theorem dX18_attend_37 : decode cX18_attend 37 = .ok (.ireturn, 1) := by decide +kernel
theorem dX18_attend_25 : decode cX18_attend 25 = .ok (.aload_n 0, 1) := by decide +kernel
theorem dX18_attend_26 : decode cX18_attend 26 = .ok (.getfield 28, 3) := by decide +kernel
theorem dX18_attend_29 : decode cX18_attend 29 = .ok (.iload_n 1, 1) := by decide +kernel
theorem dX18_attend_30 : decode cX18_attend 30 = .ok (.invokevirtual 461, 3) := by decide +kernel
theorem dX18_attend_33 : decode cX18_attend 33 = .ok (.goto 4, 3) := by decide +kernel
theorem dX18_attend_5 : decode cX18_attend 5 = .ok (.iload_n 1, 1) := by decide +kernel
theorem dX18_attend_6 : decode cX18_attend 6 = .ok (.iconst 1, 1) := by decide +kernel
theorem dX18_attend_7 : decode cX18_attend 7 = .ok (.if_icmp .ne 7, 3) := by decide +kernel
theorem dX18_attend_14 : decode cX18_attend 14 = .ok (.iconst 0, 1) := by decide +kernel
theorem dX18_does_0 : decode cX18_does 0 = .ok (.aload_n 0, 1) := by decide +kernel
theorem dX18_does_1 : decode cX18_does 1 = .ok (.getfield 28, 3) := by decide +kernel
theorem dX18_does_4 : decode cX18_does 4 = .ok (.getfield 464, 3) := by decide +kernel
theorem dX18_does_7 : decode cX18_does 7 = .ok (.iload_n 1, 1) := by decide +kernel
theorem dX18_does_8 : decode cX18_does 8 = .ok (.iaload, 1) := by decide +kernel
theorem dX18_does_9 : decode cX18_does 9 = .ok (.iconst 2, 1) := by decide +kernel
theorem dX18_does_10 : decode cX18_does 10 = .ok (.if_icmp .ne 33, 3) := by decide +kernel
theorem dX18_does_43 : decode cX18_does 43 = .ok (.aload_n 0, 1) := by decide +kernel
theorem dX18_does_44 : decode cX18_does 44 = .ok (.getfield 28, 3) := by decide +kernel
theorem dX18_does_47 : decode cX18_does 47 = .ok (.getfield 464, 3) := by decide +kernel
theorem dX18_does_50 : decode cX18_does 50 = .ok (.iload_n 1, 1) := by decide +kernel
theorem dX18_does_51 : decode cX18_does 51 = .ok (.iaload, 1) := by decide +kernel
theorem dX18_does_52 : decode cX18_does 52 = .ok (.iconst 3, 1) := by decide +kernel
theorem dX18_does_53 : decode cX18_does 53 = .ok (.if_icmp .ne 18, 3) := by decide +kernel
theorem dX18_does_71 : decode cX18_does 71 = .ok (.return_, 1) := by decide +kernel
theorem dX18_does_56 : decode cX18_does 56 = .ok (.aload_n 0, 1) := by decide +kernel
theorem dX18_does_57 : decode cX18_does 57 = .ok (.getfield 35, 3) := by decide +kernel
theorem dX18_does_60 : decode cX18_does 60 = .ok (.getfield 474, 3) := by decide +kernel
theorem dX18_does_63 : decode cX18_does 63 = .ok (.iconst 4, 1) := by decide +kernel
theorem dX18_does_64 : decode cX18_does 64 = .ok (.iload_n 1, 1) := by decide +kernel
theorem dX18_does_65 : decode cX18_does 65 = .ok (.bipush 6, 2) := by decide +kernel
theorem dX18_does_67 : decode cX18_does 67 = .ok (.irem, 1) := by decide +kernel
theorem dX18_does_68 : decode cX18_does 68 = .ok (.iadd, 1) := by decide +kernel
theorem dX18_does_69 : decode cX18_does 69 = .ok (.iload_n 2, 1) := by decide +kernel
theorem dX18_does_70 : decode cX18_does 70 = .ok (.iastore, 1) := by decide +kernel
theorem dX18_does_13 : decode cX18_does 13 = .ok (.aload_n 0, 1) := by decide +kernel
theorem dX18_does_14 : decode cX18_does 14 = .ok (.getfield 42, 3) := by decide +kernel
theorem dX18_does_17 : decode cX18_does 17 = .ok (.getfield 467, 3) := by decide +kernel
theorem dX18_does_20 : decode cX18_does 20 = .ok (.bipush 7, 2) := by decide +kernel
theorem dX18_does_22 : decode cX18_does 22 = .ok (.iaload, 1) := by decide +kernel
theorem dX18_does_23 : decode cX18_does 23 = .ok (.bipush 6, 2) := by decide +kernel
theorem dX18_does_25 : decode cX18_does 25 = .ok (.if_icmp .ge 18, 3) := by decide +kernel
theorem dX18_does_28 : decode cX18_does 28 = .ok (.aload_n 0, 1) := by decide +kernel
theorem dX18_does_29 : decode cX18_does 29 = .ok (.getfield 42, 3) := by decide +kernel
theorem dX18_does_32 : decode cX18_does 32 = .ok (.bipush 7, 2) := by decide +kernel
theorem dX18_does_34 : decode cX18_does 34 = .ok (.iconst 0, 1) := by decide +kernel
theorem dX18_does_35 : decode cX18_does 35 = .ok (.iload_n 1, 1) := by decide +kernel
theorem dX18_does_36 : decode cX18_does 36 = .ok (.iconst 1, 1) := by decide +kernel
theorem dX18_does_37 : decode cX18_does 37 = .ok (.iconst 2, 1) := by decide +kernel
theorem dX18_does_38 : decode cX18_does 38 = .ok (.iload_n 2, 1) := by decide +kernel
theorem dX18_does_39 : decode cX18_does 39 = .ok (.invokevirtual 470, 3) := by decide +kernel
theorem dX18_does_42 : decode cX18_does 42 = .ok (.istore_n 3, 1) := by decide +kernel
theorem dX18_reset_0 : decode cX18_reset 0 = .ok (.aload_n 0, 1) := by decide +kernel
theorem dX18_reset_1 : decode cX18_reset 1 = .ok (.aload_n 0, 1) := by decide +kernel
theorem dX18_reset_2 : decode cX18_reset 2 = .ok (.getfield 192, 3) := by decide +kernel
theorem dX18_reset_5 : decode cX18_reset 5 = .ok (.invokevirtual 230, 3) := by decide +kernel
theorem dX18_reset_8 : decode cX18_reset 8 = .ok (.ifCond .ne 5, 3) := by decide +kernel
theorem dX18_reset_13 : decode cX18_reset 13 = .ok (.iconst 0, 1) := by decide +kernel
theorem dX18_reset_14 : decode cX18_reset 14 = .ok (.istore_n 1, 1) := by decide +kernel
theorem dX18_reset_15 : decode cX18_reset 15 = .ok (.aload_n 0, 1) := by decide +kernel
theorem dX18_reset_16 : decode cX18_reset 16 = .ok (.getfield 28, 3) := by decide +kernel
theorem dX18_reset_19 : decode cX18_reset 19 = .ok (.iconst 0, 1) := by decide +kernel
theorem dX18_reset_20 : decode cX18_reset 20 = .ok (.invokevirtual 476, 3) := by decide +kernel
theorem dX18_reset_23 : decode cX18_reset 23 = .ok (.istore_n 2, 1) := by decide +kernel
theorem dX18_reset_24 : decode cX18_reset 24 = .ok (.iconst 1, 1) := by decide +kernel
theorem dX18_reset_25 : decode cX18_reset 25 = .ok (.istore_n 3, 1) := by decide +kernel
theorem dX18_reset_26 : decode cX18_reset 26 = .ok (.iload_n 2, 1) := by decide +kernel
theorem dX18_reset_27 : decode cX18_reset 27 = .ok (.ifCond .lt 38, 3) := by decide +kernel
theorem dX18_reset_30 : decode cX18_reset 30 = .ok (.aload_n 0, 1) := by decide +kernel
theorem dX18_reset_31 : decode cX18_reset 31 = .ok (.getfield 28, 3) := by decide +kernel
theorem dX18_reset_34 : decode cX18_reset 34 = .ok (.iload_n 2, 1) := by decide +kernel
theorem dX18_reset_35 : decode cX18_reset 35 = .ok (.invokevirtual 479, 3) := by decide +kernel
theorem dX18_reset_38 : decode cX18_reset 38 = .ok (.ifCond .eq 12, 3) := by decide +kernel
theorem dX18_reset_50 : decode cX18_reset 50 = .ok (.aload_n 0, 1) := by decide +kernel
theorem dX18_reset_51 : decode cX18_reset 51 = .ok (.getfield 28, 3) := by decide +kernel
theorem dX18_reset_54 : decode cX18_reset 54 = .ok (.iload_n 3, 1) := by decide +kernel
theorem dX18_reset_55 : decode cX18_reset 55 = .ok (.invokevirtual 476, 3) := by decide +kernel
theorem dX18_reset_58 : decode cX18_reset 58 = .ok (.istore_n 2, 1) := by decide +kernel
theorem dX18_reset_59 : decode cX18_reset 59 = .ok (.iinc 3 1, 3) := by decide +kernel
theorem dX18_reset_62 : decode cX18_reset 62 = .ok (.goto (-36), 3) := by decide +kernel
theorem dX18_reset_41 : decode cX18_reset 41 = .ok (.aload_n 0, 1) := by decide +kernel
theorem dX18_reset_42 : decode cX18_reset 42 = .ok (.iload_n 2, 1) := by decide +kernel
theorem dX18_reset_43 : decode cX18_reset 43 = .ok (.iconst 0, 1) := by decide +kernel
theorem dX18_reset_44 : decode cX18_reset 44 = .ok (.invokevirtual 482, 3) := by decide +kernel
theorem dX18_reset_47 : decode cX18_reset 47 = .ok (.iinc 1 1, 3) := by decide +kernel
theorem dX18_reset_65 : decode cX18_reset 65 = .ok (.iload_n 1, 1) := by decide +kernel
theorem dX18_reset_66 : decode cX18_reset 66 = .ok (.ireturn, 1) := by decide +kernel
theorem dX18_reset_11 : decode cX18_reset 11 = .ok (.iconst 0, 1) := by decide +kernel
theorem dX18_reset_12 : decode cX18_reset 12 = .ok (.ireturn, 1) := by decide +kernel
theorem dX18_act_0 : decode cX18_act 0 = .ok (.aload_n 0, 1) := by decide +kernel
theorem dX18_act_1 : decode cX18_act 1 = .ok (.iload_n 1, 1) := by decide +kernel
theorem dX18_act_2 : decode cX18_act 2 = .ok (.bipush 20, 2) := by decide +kernel
theorem dX18_act_4 : decode cX18_act 4 = .ok (.invokestatic 207, 3) := by decide +kernel
theorem dX18_act_7 : decode cX18_act 7 = .ok (.ifCond .eq 28, 3) := by decide +kernel
theorem dX18_act_35 : decode cX18_act 35 = .ok (.iconst 0, 1) := by decide +kernel
theorem dX18_act_36 : decode cX18_act 36 = .ok (.aload_n 0, 1) := by decide +kernel
theorem dX18_act_37 : decode cX18_act 37 = .ok (.getfield 192, 3) := by decide +kernel
theorem dX18_act_40 : decode cX18_act 40 = .ok (.invokevirtual 199, 3) := by decide +kernel
theorem dX18_act_43 : decode cX18_act 43 = .ok (.ifCond .eq 15, 3) := by decide +kernel
theorem dX18_act_58 : decode cX18_act 58 = .ok (.iconst 0, 1) := by decide +kernel
theorem dX18_act_59 : decode cX18_act 59 = .ok (.ireturn, 1) := by decide +kernel
theorem dX18_act_46 : decode cX18_act 46 = .ok (.aload_n 0, 1) := by decide +kernel
theorem dX18_act_47 : decode cX18_act 47 = .ok (.getfield 28, 3) := by decide +kernel
theorem dX18_act_50 : decode cX18_act 50 = .ok (.iload_n 1, 1) := by decide +kernel
theorem dX18_act_51 : decode cX18_act 51 = .ok (.iload_n 2, 1) := by decide +kernel
theorem dX18_act_52 : decode cX18_act 52 = .ok (.invokevirtual 489, 3) := by decide +kernel
theorem dX18_act_55 : decode cX18_act 55 = .ok (.goto 4, 3) := by decide +kernel
theorem dX18_act_10 : decode cX18_act 10 = .ok (.aload_n 0, 1) := by decide +kernel
theorem dX18_act_11 : decode cX18_act 11 = .ok (.getfield 28, 3) := by decide +kernel
theorem dX18_act_14 : decode cX18_act 14 = .ok (.getfield 486, 3) := by decide +kernel
theorem dX18_act_17 : decode cX18_act 17 = .ok (.iload_n 1, 1) := by decide +kernel
theorem dX18_act_18 : decode cX18_act 18 = .ok (.baload, 1) := by decide +kernel
theorem dX18_act_19 : decode cX18_act 19 = .ok (.ifCond .eq 16, 3) := by decide +kernel
theorem dX18_act_22 : decode cX18_act 22 = .ok (.iload_n 2, 1) := by decide +kernel
theorem dX18_act_23 : decode cX18_act 23 = .ok (.bipush 6, 2) := by decide +kernel
theorem dX18_act_25 : decode cX18_act 25 = .ok (.invokestatic 207, 3) := by decide +kernel
theorem dX18_act_28 : decode cX18_act 28 = .ok (.ifCond .eq 7, 3) := by decide +kernel
theorem dX18_act_31 : decode cX18_act 31 = .ok (.iconst 1, 1) := by decide +kernel
theorem dX18_act_32 : decode cX18_act 32 = .ok (.goto 4, 3) := by decide +kernel
theorem dX18_zone_0 : decode cX18_zone 0 = .ok (.aload_n 0, 1) := by decide +kernel
theorem dX18_zone_1 : decode cX18_zone 1 = .ok (.iload_n 1, 1) := by decide +kernel
theorem dX18_zone_2 : decode cX18_zone 2 = .ok (.bipush 20, 2) := by decide +kernel
theorem dX18_zone_4 : decode cX18_zone 4 = .ok (.invokestatic 207, 3) := by decide +kernel
theorem dX18_zone_7 : decode cX18_zone 7 = .ok (.ifCond .eq 27, 3) := by decide +kernel
theorem dX18_zone_34 : decode cX18_zone 34 = .ok (.iconst 0, 1) := by decide +kernel
theorem dX18_zone_35 : decode cX18_zone 35 = .ok (.aload_n 0, 1) := by decide +kernel
theorem dX18_zone_36 : decode cX18_zone 36 = .ok (.getfield 192, 3) := by decide +kernel
theorem dX18_zone_39 : decode cX18_zone 39 = .ok (.invokevirtual 199, 3) := by decide +kernel
theorem dX18_zone_42 : decode cX18_zone 42 = .ok (.ifCond .ne 5, 3) := by decide +kernel
theorem dX18_zone_47 : decode cX18_zone 47 = .ok (.iload_n 2, 1) := by decide +kernel
theorem dX18_zone_48 : decode cX18_zone 48 = .ok (.ifCond .ne 22, 3) := by decide +kernel
theorem dX18_zone_70 : decode cX18_zone 70 = .ok (.iload_n 2, 1) := by decide +kernel
theorem dX18_zone_71 : decode cX18_zone 71 = .ok (.iconst 1, 1) := by decide +kernel
theorem dX18_zone_72 : decode cX18_zone 72 = .ok (.if_icmp .ne 22, 3) := by decide +kernel
theorem dX18_zone_94 : decode cX18_zone 94 = .ok (.iload_n 2, 1) := by decide +kernel
theorem dX18_zone_95 : decode cX18_zone 95 = .ok (.iconst 2, 1) := by decide +kernel
theorem dX18_zone_96 : decode cX18_zone 96 = .ok (.if_icmp .ne 15, 3) := by decide +kernel
theorem dX18_zone_111 : decode cX18_zone 111 = .ok (.aload_n 0, 1) := by decide +kernel
theorem dX18_zone_112 : decode cX18_zone 112 = .ok (.getfield 28, 3) := by decide +kernel
theorem dX18_zone_115 : decode cX18_zone 115 = .ok (.iload_n 1, 1) := by decide +kernel
theorem dX18_zone_116 : decode cX18_zone 116 = .ok (.iconst 1, 1) := by decide +kernel
theorem dX18_zone_117 : decode cX18_zone 117 = .ok (.invokevirtual 504, 3) := by decide +kernel
theorem dX18_zone_120 : decode cX18_zone 120 = .ok (.ireturn, 1) := by decide +kernel
theorem dX18_zone_99 : decode cX18_zone 99 = .ok (.aload_n 0, 1) := by decide +kernel
theorem dX18_zone_100 : decode cX18_zone 100 = .ok (.getfield 28, 3) := by decide +kernel
theorem dX18_zone_103 : decode cX18_zone 103 = .ok (.getfield 501, 3) := by decide +kernel
theorem dX18_zone_106 : decode cX18_zone 106 = .ok (.iload_n 1, 1) := by decide +kernel
theorem dX18_zone_107 : decode cX18_zone 107 = .ok (.iaload, 1) := by decide +kernel
theorem dX18_zone_108 : decode cX18_zone 108 = .ok (.goto 12, 3) := by decide +kernel
theorem dX18_zone_75 : decode cX18_zone 75 = .ok (.aload_n 0, 1) := by decide +kernel
theorem dX18_zone_76 : decode cX18_zone 76 = .ok (.getfield 28, 3) := by decide +kernel
theorem dX18_zone_79 : decode cX18_zone 79 = .ok (.iload_n 1, 1) := by decide +kernel
theorem dX18_zone_80 : decode cX18_zone 80 = .ok (.invokevirtual 498, 3) := by decide +kernel
theorem dX18_zone_83 : decode cX18_zone 83 = .ok (.ifCond .eq 7, 3) := by decide +kernel
theorem dX18_zone_90 : decode cX18_zone 90 = .ok (.iconst 0, 1) := by decide +kernel
theorem dX18_zone_91 : decode cX18_zone 91 = .ok (.goto 29, 3) := by decide +kernel
theorem dX18_zone_86 : decode cX18_zone 86 = .ok (.iconst 1, 1) := by decide +kernel
theorem dX18_zone_87 : decode cX18_zone 87 = .ok (.goto 33, 3) := by decide +kernel
theorem dX18_zone_51 : decode cX18_zone 51 = .ok (.aload_n 0, 1) := by decide +kernel
theorem dX18_zone_52 : decode cX18_zone 52 = .ok (.getfield 28, 3) := by decide +kernel
theorem dX18_zone_55 : decode cX18_zone 55 = .ok (.iload_n 1, 1) := by decide +kernel
theorem dX18_zone_56 : decode cX18_zone 56 = .ok (.invokevirtual 495, 3) := by decide +kernel
theorem dX18_zone_59 : decode cX18_zone 59 = .ok (.ifCond .eq 7, 3) := by decide +kernel
theorem dX18_zone_66 : decode cX18_zone 66 = .ok (.iconst 0, 1) := by decide +kernel
theorem dX18_zone_67 : decode cX18_zone 67 = .ok (.goto 53, 3) := by decide +kernel
theorem dX18_zone_62 : decode cX18_zone 62 = .ok (.iconst 1, 1) := by decide +kernel
theorem dX18_zone_63 : decode cX18_zone 63 = .ok (.goto 57, 3) := by decide +kernel
theorem dX18_zone_45 : decode cX18_zone 45 = .ok (.iconst 0, 1) := by decide +kernel
theorem dX18_zone_46 : decode cX18_zone 46 = .ok (.ireturn, 1) := by decide +kernel
theorem dX18_zone_10 : decode cX18_zone 10 = .ok (.aload_n 0, 1) := by decide +kernel
theorem dX18_zone_11 : decode cX18_zone 11 = .ok (.getfield 28, 3) := by decide +kernel
theorem dX18_zone_14 : decode cX18_zone 14 = .ok (.getfield 492, 3) := by decide +kernel
theorem dX18_zone_17 : decode cX18_zone 17 = .ok (.iload_n 1, 1) := by decide +kernel
theorem dX18_zone_18 : decode cX18_zone 18 = .ok (.baload, 1) := by decide +kernel
theorem dX18_zone_19 : decode cX18_zone 19 = .ok (.ifCond .eq 15, 3) := by decide +kernel
theorem dX18_zone_22 : decode cX18_zone 22 = .ok (.iload_n 2, 1) := by decide +kernel
theorem dX18_zone_23 : decode cX18_zone 23 = .ok (.iconst 4, 1) := by decide +kernel
theorem dX18_zone_24 : decode cX18_zone 24 = .ok (.invokestatic 207, 3) := by decide +kernel
theorem dX18_zone_27 : decode cX18_zone 27 = .ok (.ifCond .eq 7, 3) := by decide +kernel
theorem dX18_zone_30 : decode cX18_zone 30 = .ok (.iconst 1, 1) := by decide +kernel
theorem dX18_zone_31 : decode cX18_zone 31 = .ok (.goto 4, 3) := by decide +kernel
theorem dX18_event_0 : decode cX18_event 0 = .ok (.aload_n 0, 1) := by decide +kernel
theorem dX18_event_1 : decode cX18_event 1 = .ok (.iload_n 1, 1) := by decide +kernel
theorem dX18_event_2 : decode cX18_event 2 = .ok (.aload_n 0, 1) := by decide +kernel
theorem dX18_event_3 : decode cX18_event 3 = .ok (.getfield 28, 3) := by decide +kernel
theorem dX18_event_6 : decode cX18_event 6 = .ok (.getfield 507, 3) := by decide +kernel
theorem dX18_event_9 : decode cX18_event 9 = .ok (.invokestatic 207, 3) := by decide +kernel
theorem dX18_event_12 : decode cX18_event 12 = .ok (.ifCond .eq 15, 3) := by decide +kernel
theorem dX18_event_27 : decode cX18_event 27 = .ok (.iconst 0, 1) := by decide +kernel
theorem dX18_event_28 : decode cX18_event 28 = .ok (.aload_n 0, 1) := by decide +kernel
theorem dX18_event_29 : decode cX18_event 29 = .ok (.getfield 192, 3) := by decide +kernel
theorem dX18_event_32 : decode cX18_event 32 = .ok (.invokevirtual 199, 3) := by decide +kernel
theorem dX18_event_35 : decode cX18_event 35 = .ok (.ifCond .eq 15, 3) := by decide +kernel
theorem dX18_event_50 : decode cX18_event 50 = .ok (.iconst 0, 1) := by decide +kernel
theorem dX18_event_51 : decode cX18_event 51 = .ok (.ireturn, 1) := by decide +kernel
theorem dX18_event_38 : decode cX18_event 38 = .ok (.aload_n 0, 1) := by decide +kernel
theorem dX18_event_39 : decode cX18_event 39 = .ok (.getfield 28, 3) := by decide +kernel
theorem dX18_event_42 : decode cX18_event 42 = .ok (.iload_n 1, 1) := by decide +kernel
theorem dX18_event_43 : decode cX18_event 43 = .ok (.iload_n 2, 1) := by decide +kernel
theorem dX18_event_44 : decode cX18_event 44 = .ok (.invokevirtual 510, 3) := by decide +kernel
theorem dX18_event_47 : decode cX18_event 47 = .ok (.goto 4, 3) := by decide +kernel
theorem dX18_event_15 : decode cX18_event 15 = .ok (.iload_n 2, 1) := by decide +kernel
theorem dX18_event_16 : decode cX18_event 16 = .ok (.iconst 3, 1) := by decide +kernel
theorem dX18_event_17 : decode cX18_event 17 = .ok (.invokestatic 207, 3) := by decide +kernel
theorem dX18_event_20 : decode cX18_event 20 = .ok (.ifCond .eq 7, 3) := by decide +kernel
theorem dX18_event_23 : decode cX18_event 23 = .ok (.iconst 1, 1) := by decide +kernel
theorem dX18_event_24 : decode cX18_event 24 = .ok (.goto 4, 3) := by decide +kernel
theorem dX18_block_0 : decode cX18_block 0 = .ok (.aload_n 0, 1) := by decide +kernel
theorem dX18_block_1 : decode cX18_block 1 = .ok (.iload_n 1, 1) := by decide +kernel
theorem dX18_block_2 : decode cX18_block 2 = .ok (.bipush 26, 2) := by decide +kernel
theorem dX18_block_4 : decode cX18_block 4 = .ok (.invokestatic 207, 3) := by decide +kernel
theorem dX18_block_7 : decode cX18_block 7 = .ok (.aload_n 0, 1) := by decide +kernel
theorem dX18_block_8 : decode cX18_block 8 = .ok (.getfield 192, 3) := by decide +kernel
theorem dX18_block_11 : decode cX18_block 11 = .ok (.ifCond .eq 19, 3) := by decide +kernel
theorem dX18_block_30 : decode cX18_block 30 = .ok (.iconst 0, 1) := by decide +kernel
theorem dX18_block_31 : decode cX18_block 31 = .ok (.invokevirtual 199, 3) := by decide +kernel
theorem dX18_block_34 : decode cX18_block 34 = .ok (.ifCond .eq 14, 3) := by decide +kernel
theorem dX18_block_48 : decode cX18_block 48 = .ok (.iconst 0, 1) := by decide +kernel
theorem dX18_block_49 : decode cX18_block 49 = .ok (.ireturn, 1) := by decide +kernel
theorem dX18_block_37 : decode cX18_block 37 = .ok (.aload_n 0, 1) := by decide +kernel
theorem dX18_block_38 : decode cX18_block 38 = .ok (.getfield 35, 3) := by decide +kernel
theorem dX18_block_41 : decode cX18_block 41 = .ok (.iload_n 1, 1) := by decide +kernel
theorem dX18_block_42 : decode cX18_block 42 = .ok (.invokevirtual 516, 3) := by decide +kernel
theorem dX18_block_45 : decode cX18_block 45 = .ok (.goto 4, 3) := by decide +kernel
theorem dX18_block_14 : decode cX18_block 14 = .ok (.aload_n 0, 1) := by decide +kernel
theorem dX18_block_15 : decode cX18_block 15 = .ok (.getfield 35, 3) := by decide +kernel
theorem dX18_block_18 : decode cX18_block 18 = .ok (.getfield 513, 3) := by decide +kernel
theorem dX18_block_21 : decode cX18_block 21 = .ok (.bipush 40, 2) := by decide +kernel
theorem dX18_block_23 : decode cX18_block 23 = .ok (.if_icmp .ge 7, 3) := by decide +kernel
theorem dX18_block_26 : decode cX18_block 26 = .ok (.iconst 1, 1) := by decide +kernel
theorem dX18_block_27 : decode cX18_block 27 = .ok (.goto 4, 3) := by decide +kernel
theorem dX18_wire_0 : decode cX18_wire 0 = .ok (.aload_n 0, 1) := by decide +kernel
theorem dX18_wire_1 : decode cX18_wire 1 = .ok (.iload_n 1, 1) := by decide +kernel
theorem dX18_wire_2 : decode cX18_wire 2 = .ok (.aload_n 0, 1) := by decide +kernel
theorem dX18_wire_3 : decode cX18_wire 3 = .ok (.getfield 35, 3) := by decide +kernel
theorem dX18_wire_6 : decode cX18_wire 6 = .ok (.getfield 513, 3) := by decide +kernel
theorem dX18_wire_9 : decode cX18_wire 9 = .ok (.invokestatic 207, 3) := by decide +kernel
theorem dX18_wire_12 : decode cX18_wire 12 = .ok (.ifCond .eq 34, 3) := by decide +kernel
theorem dX18_wire_46 : decode cX18_wire 46 = .ok (.iconst 0, 1) := by decide +kernel
theorem dX18_wire_47 : decode cX18_wire 47 = .ok (.aload_n 0, 1) := by decide +kernel
theorem dX18_wire_48 : decode cX18_wire 48 = .ok (.getfield 192, 3) := by decide +kernel
theorem dX18_wire_51 : decode cX18_wire 51 = .ok (.invokevirtual 199, 3) := by decide +kernel
theorem dX18_wire_54 : decode cX18_wire 54 = .ok (.ifCond .ne 5, 3) := by decide +kernel
theorem dX18_wire_59 : decode cX18_wire 59 = .ok (.aload_n 0, 1) := by decide +kernel
theorem dX18_wire_60 : decode cX18_wire 60 = .ok (.getfield 35, 3) := by decide +kernel
theorem dX18_wire_63 : decode cX18_wire 63 = .ok (.getfield 519, 3) := by decide +kernel
theorem dX18_wire_66 : decode cX18_wire 66 = .ok (.iconst 3, 1) := by decide +kernel
theorem dX18_wire_67 : decode cX18_wire 67 = .ok (.iload_n 1, 1) := by decide +kernel
theorem dX18_wire_68 : decode cX18_wire 68 = .ok (.imul, 1) := by decide +kernel
theorem dX18_wire_69 : decode cX18_wire 69 = .ok (.iload_n 2, 1) := by decide +kernel
theorem dX18_wire_70 : decode cX18_wire 70 = .ok (.iadd, 1) := by decide +kernel
theorem dX18_wire_71 : decode cX18_wire 71 = .ok (.iaload, 1) := by decide +kernel
theorem dX18_wire_72 : decode cX18_wire 72 = .ok (.istore 4, 2) := by decide +kernel
theorem dX18_wire_74 : decode cX18_wire 74 = .ok (.aload_n 0, 1) := by decide +kernel
theorem dX18_wire_75 : decode cX18_wire 75 = .ok (.getfield 35, 3) := by decide +kernel
theorem dX18_wire_78 : decode cX18_wire 78 = .ok (.getfield 519, 3) := by decide +kernel
theorem dX18_wire_81 : decode cX18_wire 81 = .ok (.iconst 3, 1) := by decide +kernel
theorem dX18_wire_82 : decode cX18_wire 82 = .ok (.iload_n 1, 1) := by decide +kernel
theorem dX18_wire_83 : decode cX18_wire 83 = .ok (.imul, 1) := by decide +kernel
theorem dX18_wire_84 : decode cX18_wire 84 = .ok (.iload_n 2, 1) := by decide +kernel
theorem dX18_wire_85 : decode cX18_wire 85 = .ok (.iadd, 1) := by decide +kernel
theorem dX18_wire_86 : decode cX18_wire 86 = .ok (.iload_n 3, 1) := by decide +kernel
theorem dX18_wire_87 : decode cX18_wire 87 = .ok (.iastore, 1) := by decide +kernel
theorem dX18_wire_88 : decode cX18_wire 88 = .ok (.iload 4, 2) := by decide +kernel
theorem dX18_wire_90 : decode cX18_wire 90 = .ok (.ireturn, 1) := by decide +kernel
theorem dX18_wire_57 : decode cX18_wire 57 = .ok (.iconst 0, 1) := by decide +kernel
theorem dX18_wire_58 : decode cX18_wire 58 = .ok (.ireturn, 1) := by decide +kernel
theorem dX18_wire_15 : decode cX18_wire 15 = .ok (.iload_n 2, 1) := by decide +kernel
theorem dX18_wire_16 : decode cX18_wire 16 = .ok (.iconst 3, 1) := by decide +kernel
theorem dX18_wire_17 : decode cX18_wire 17 = .ok (.invokestatic 207, 3) := by decide +kernel
theorem dX18_wire_20 : decode cX18_wire 20 = .ok (.ifCond .eq 26, 3) := by decide +kernel
theorem dX18_wire_23 : decode cX18_wire 23 = .ok (.iload_n 3, 1) := by decide +kernel
theorem dX18_wire_24 : decode cX18_wire 24 = .ok (.iconst (-1), 1) := by decide +kernel
theorem dX18_wire_25 : decode cX18_wire 25 = .ok (.if_icmp .eq 17, 3) := by decide +kernel
theorem dX18_wire_42 : decode cX18_wire 42 = .ok (.iconst 1, 1) := by decide +kernel
theorem dX18_wire_43 : decode cX18_wire 43 = .ok (.goto 4, 3) := by decide +kernel
theorem dX18_wire_28 : decode cX18_wire 28 = .ok (.iload_n 3, 1) := by decide +kernel
theorem dX18_wire_29 : decode cX18_wire 29 = .ok (.aload_n 0, 1) := by decide +kernel
theorem dX18_wire_30 : decode cX18_wire 30 = .ok (.getfield 35, 3) := by decide +kernel
theorem dX18_wire_33 : decode cX18_wire 33 = .ok (.getfield 513, 3) := by decide +kernel
theorem dX18_wire_36 : decode cX18_wire 36 = .ok (.invokestatic 207, 3) := by decide +kernel
theorem dX18_wire_39 : decode cX18_wire 39 = .ok (.ifCond .eq 7, 3) := by decide +kernel
theorem dX18_numbers_0 : decode cX18_numbers 0 = .ok (.aload_n 0, 1) := by decide +kernel
theorem dX18_numbers_1 : decode cX18_numbers 1 = .ok (.iload_n 1, 1) := by decide +kernel
theorem dX18_numbers_2 : decode cX18_numbers 2 = .ok (.aload_n 0, 1) := by decide +kernel
theorem dX18_numbers_3 : decode cX18_numbers 3 = .ok (.getfield 35, 3) := by decide +kernel
theorem dX18_numbers_6 : decode cX18_numbers 6 = .ok (.getfield 513, 3) := by decide +kernel
theorem dX18_numbers_9 : decode cX18_numbers 9 = .ok (.invokestatic 207, 3) := by decide +kernel
theorem dX18_numbers_12 : decode cX18_numbers 12 = .ok (.aload_n 0, 1) := by decide +kernel
theorem dX18_numbers_13 : decode cX18_numbers 13 = .ok (.getfield 192, 3) := by decide +kernel
theorem dX18_numbers_16 : decode cX18_numbers 16 = .ok (.invokevirtual 199, 3) := by decide +kernel
theorem dX18_numbers_19 : decode cX18_numbers 19 = .ok (.ifCond .eq 23, 3) := by decide +kernel
theorem dX18_numbers_42 : decode cX18_numbers 42 = .ok (.return_, 1) := by decide +kernel
theorem dX18_numbers_22 : decode cX18_numbers 22 = .ok (.aload_n 0, 1) := by decide +kernel
theorem dX18_numbers_23 : decode cX18_numbers 23 = .ok (.getfield 35, 3) := by decide +kernel
theorem dX18_numbers_26 : decode cX18_numbers 26 = .ok (.getfield 522, 3) := by decide +kernel
theorem dX18_numbers_29 : decode cX18_numbers 29 = .ok (.iload_n 1, 1) := by decide +kernel
theorem dX18_numbers_30 : decode cX18_numbers 30 = .ok (.iload_n 2, 1) := by decide +kernel
theorem dX18_numbers_31 : decode cX18_numbers 31 = .ok (.iastore, 1) := by decide +kernel
theorem dX18_numbers_32 : decode cX18_numbers 32 = .ok (.aload_n 0, 1) := by decide +kernel
theorem dX18_numbers_33 : decode cX18_numbers 33 = .ok (.getfield 35, 3) := by decide +kernel
theorem dX18_numbers_36 : decode cX18_numbers 36 = .ok (.getfield 525, 3) := by decide +kernel
theorem dX18_numbers_39 : decode cX18_numbers 39 = .ok (.iload_n 1, 1) := by decide +kernel
theorem dX18_numbers_40 : decode cX18_numbers 40 = .ok (.iload_n 3, 1) := by decide +kernel
theorem dX18_numbers_41 : decode cX18_numbers 41 = .ok (.iastore, 1) := by decide +kernel
theorem dX18_row_0 : decode cX18_row 0 = .ok (.iload_n 1, 1) := by decide +kernel
theorem dX18_row_1 : decode cX18_row 1 = .ok (.aload_n 0, 1) := by decide +kernel
theorem dX18_row_2 : decode cX18_row 2 = .ok (.getfield 35, 3) := by decide +kernel
theorem dX18_row_5 : decode cX18_row 5 = .ok (.getfield 513, 3) := by decide +kernel
theorem dX18_row_8 : decode cX18_row 8 = .ok (.invokestatic 207, 3) := by decide +kernel
theorem dX18_row_11 : decode cX18_row 11 = .ok (.ifCond .eq 16, 3) := by decide +kernel
theorem dX18_row_27 : decode cX18_row 27 = .ok (.iconst 0, 1) := by decide +kernel
theorem dX18_row_28 : decode cX18_row 28 = .ok (.istore 4, 2) := by decide +kernel
theorem dX18_row_30 : decode cX18_row 30 = .ok (.aload_n 0, 1) := by decide +kernel
theorem dX18_row_31 : decode cX18_row 31 = .ok (.iload 4, 2) := by decide +kernel
theorem dX18_row_33 : decode cX18_row 33 = .ok (.aload_n 0, 1) := by decide +kernel
theorem dX18_row_34 : decode cX18_row 34 = .ok (.getfield 192, 3) := by decide +kernel
theorem dX18_row_37 : decode cX18_row 37 = .ok (.ifCond .eq 26, 3) := by decide +kernel
theorem dX18_row_63 : decode cX18_row 63 = .ok (.iconst 0, 1) := by decide +kernel
theorem dX18_row_64 : decode cX18_row 64 = .ok (.invokevirtual 199, 3) := by decide +kernel
theorem dX18_row_67 : decode cX18_row 67 = .ok (.ifCond .ne 5, 3) := by decide +kernel
theorem dX18_row_72 : decode cX18_row 72 = .ok (.aload_n 0, 1) := by decide +kernel
theorem dX18_row_73 : decode cX18_row 73 = .ok (.getfield 35, 3) := by decide +kernel
theorem dX18_row_76 : decode cX18_row 76 = .ok (.getfield 529, 3) := by decide +kernel
theorem dX18_row_79 : decode cX18_row 79 = .ok (.bipush 8, 2) := by decide +kernel
theorem dX18_row_81 : decode cX18_row 81 = .ok (.iload_n 1, 1) := by decide +kernel
theorem dX18_row_82 : decode cX18_row 82 = .ok (.imul, 1) := by decide +kernel
theorem dX18_row_83 : decode cX18_row 83 = .ok (.iload_n 2, 1) := by decide +kernel
theorem dX18_row_84 : decode cX18_row 84 = .ok (.iadd, 1) := by decide +kernel
theorem dX18_row_85 : decode cX18_row 85 = .ok (.iaload, 1) := by decide +kernel
theorem dX18_row_86 : decode cX18_row 86 = .ok (.istore 5, 2) := by decide +kernel
theorem dX18_row_88 : decode cX18_row 88 = .ok (.aload_n 0, 1) := by decide +kernel
theorem dX18_row_89 : decode cX18_row 89 = .ok (.getfield 35, 3) := by decide +kernel
theorem dX18_row_92 : decode cX18_row 92 = .ok (.getfield 529, 3) := by decide +kernel
theorem dX18_row_95 : decode cX18_row 95 = .ok (.bipush 8, 2) := by decide +kernel
theorem dX18_row_97 : decode cX18_row 97 = .ok (.iload_n 1, 1) := by decide +kernel
theorem dX18_row_98 : decode cX18_row 98 = .ok (.imul, 1) := by decide +kernel
theorem dX18_row_99 : decode cX18_row 99 = .ok (.iload_n 2, 1) := by decide +kernel
theorem dX18_row_100 : decode cX18_row 100 = .ok (.iadd, 1) := by decide +kernel
theorem dX18_row_101 : decode cX18_row 101 = .ok (.iload_n 3, 1) := by decide +kernel
theorem dX18_row_102 : decode cX18_row 102 = .ok (.iastore, 1) := by decide +kernel
theorem dX18_row_103 : decode cX18_row 103 = .ok (.iload 5, 2) := by decide +kernel
theorem dX18_row_105 : decode cX18_row 105 = .ok (.ireturn, 1) := by decide +kernel
theorem dX18_row_70 : decode cX18_row 70 = .ok (.iconst 0, 1) := by decide +kernel
theorem dX18_row_71 : decode cX18_row 71 = .ok (.ireturn, 1) := by decide +kernel
theorem dX18_row_40 : decode cX18_row 40 = .ok (.iload 4, 2) := by decide +kernel
theorem dX18_row_42 : decode cX18_row 42 = .ok (.ifCond .eq 17, 3) := by decide +kernel
theorem dX18_row_59 : decode cX18_row 59 = .ok (.iconst 1, 1) := by decide +kernel
theorem dX18_row_60 : decode cX18_row 60 = .ok (.goto 4, 3) := by decide +kernel
theorem dX18_row_45 : decode cX18_row 45 = .ok (.aload_n 0, 1) := by decide +kernel
theorem dX18_row_46 : decode cX18_row 46 = .ok (.getfield 35, 3) := by decide +kernel
theorem dX18_row_49 : decode cX18_row 49 = .ok (.getfield 528, 3) := by decide +kernel
theorem dX18_row_52 : decode cX18_row 52 = .ok (.iload_n 1, 1) := by decide +kernel
theorem dX18_row_53 : decode cX18_row 53 = .ok (.iaload, 1) := by decide +kernel
theorem dX18_row_54 : decode cX18_row 54 = .ok (.bipush 15, 2) := by decide +kernel
theorem dX18_row_56 : decode cX18_row 56 = .ok (.if_icmp .ne 7, 3) := by decide +kernel
theorem dX18_row_14 : decode cX18_row 14 = .ok (.iload_n 2, 1) := by decide +kernel
theorem dX18_row_15 : decode cX18_row 15 = .ok (.bipush 8, 2) := by decide +kernel
theorem dX18_row_17 : decode cX18_row 17 = .ok (.invokestatic 207, 3) := by decide +kernel
theorem dX18_row_20 : decode cX18_row 20 = .ok (.ifCond .eq 7, 3) := by decide +kernel
theorem dX18_row_23 : decode cX18_row 23 = .ok (.iconst 1, 1) := by decide +kernel
theorem dX18_row_24 : decode cX18_row 24 = .ok (.goto 4, 3) := by decide +kernel
theorem zl_X18_422 : zm_L zk_E RX18 422 yX18_enter (.code yX18_enter cX18_enter 5 none) 3 ∧ Cond.instanceMethod yX18_enter ∈ zk_E.2.2.1 ∧ Cond.selects yX18_enter.cls yX18_enter yX18_enter ∈ zk_E.2.2.1 := ⟨⟨zk_b19 64 (by decide +kernel) rfl, zk_b1 13 (by decide +kernel) rfl, zk_b19 61 (by decide +kernel) rfl, by decide +kernel, by decide +kernel, by decide +kernel⟩, zk_b19 63 (by decide +kernel) rfl, zk_s15 (q := (yX18_enter, 60)) 9 (by decide +kernel)⟩
theorem zl_X18_428 : zm_L zk_E RX18 428 yX18_refused (.code yX18_refused cX18_refused 8 (some .int)) 3 ∧ Cond.instanceMethod yX18_refused ∈ zk_E.2.2.1 ∧ Cond.selects yX18_refused.cls yX18_refused yX18_refused ∈ zk_E.2.2.1 := ⟨⟨zk_b19 36 (by decide +kernel) rfl, zk_b1 13 (by decide +kernel) rfl, zk_b19 33 (by decide +kernel) rfl, by decide +kernel, by decide +kernel, by decide +kernel⟩, zk_b19 35 (by decide +kernel) rfl, zk_s15 (q := (yX18_refused, 60)) 3 (by decide +kernel)⟩
theorem zl_X18_431 : zm_L zk_E RX18 431 yX18_let (.code yX18_let cX18_let 5 none) 3 ∧ Cond.instanceMethod yX18_let ∈ zk_E.2.2.1 ∧ Cond.selects yX18_let.cls yX18_let yX18_let ∈ zk_E.2.2.1 := ⟨⟨zk_b19 60 (by decide +kernel) rfl, zk_b1 13 (by decide +kernel) rfl, zk_b19 57 (by decide +kernel) rfl, by decide +kernel, by decide +kernel, by decide +kernel⟩, zk_b19 59 (by decide +kernel) rfl, zk_s15 (q := (yX18_let, 60)) 8 (by decide +kernel)⟩
theorem zl_X18_425 : zm_L zk_E RX18 425 yX18_isOf (.code yX18_isOf cX18_isOf 3 (some .boolean)) 2 ∧ Cond.instanceMethod yX18_isOf ∈ zk_E.2.2.1 ∧ Cond.selects yX18_isOf.cls yX18_isOf yX18_isOf ∈ zk_E.2.2.1 := ⟨⟨zk_b19 32 (by decide +kernel) rfl, zk_b1 13 (by decide +kernel) rfl, zk_b19 29 (by decide +kernel) rfl, by decide +kernel, by decide +kernel, by decide +kernel⟩, zk_b19 31 (by decide +kernel) rfl, zk_s15 (q := (yX18_isOf, 60)) 2 (by decide +kernel)⟩
theorem zl_X18_434 : zm_F zk_E RX18 434 18 49 := ⟨RX18, TX18, 60, rfl, zk_i18, by decide, zk_b16 76 (by decide +kernel) rfl⟩
theorem zt_18_49 : zm_T zk_E RX18 18 49 .int false := ⟨RX18, TX18, 60, tyX18, rfl, tyX18_ok, nmX18, rfl, rfl, rfl⟩
theorem zl_X18_438 : zm_L zk_E RX18 438 yX14_unit (.code yX14_unit cX14_unit 2 (some .int)) 1 ∧ Cond.instanceMethod yX14_unit ∈ zk_E.2.2.1 ∧ Cond.selects yX14_unit.cls yX14_unit yX14_unit ∈ zk_E.2.2.1 := ⟨⟨zk_b19 92 (by decide +kernel) rfl, zk_b1 16 (by decide +kernel) rfl, zk_b19 89 (by decide +kernel) rfl, by decide +kernel, by decide +kernel, by decide +kernel⟩, zk_b19 90 (by decide +kernel) rfl, zk_b19 91 (by decide +kernel) rfl⟩
theorem zl_X18_437 : zm_F zk_E RX18 437 14 6 := ⟨RX14, TX14, 36, rfl, zk_i14, by decide, zk_b14 126 (by decide +kernel) rfl⟩
theorem zl_X18_451 : zm_L zk_E RX18 451 yX14_say (.code yX14_say cX14_say 3 (some .int)) 0 ∧ Cond.instanceMethod yX14_say ∈ zk_E.2.2.1 ∧ Cond.selects yX14_say.cls yX14_say yX14_say ∈ zk_E.2.2.1 := ⟨⟨zk_b19 135 (by decide +kernel) rfl, zk_b1 16 (by decide +kernel) rfl, zk_b19 132 (by decide +kernel) rfl, by decide +kernel, by decide +kernel, by decide +kernel⟩, zk_b19 133 (by decide +kernel) rfl, zk_b19 134 (by decide +kernel) rfl⟩
theorem zl_X18_448 : zm_F zk_E RX18 448 14 35 := ⟨RX14, TX14, 36, rfl, zk_i14, by decide, zk_b14 161 (by decide +kernel) rfl⟩
theorem zl_X18_444 : zm_L zk_E RX18 444 yX14_make (.code yX14_make cX14_make 6 none) 5 ∧ Cond.instanceMethod yX14_make ∈ zk_E.2.2.1 ∧ Cond.selects yX14_make.cls yX14_make yX14_make ∈ zk_E.2.2.1 := ⟨⟨zk_b19 103 (by decide +kernel) rfl, zk_b1 16 (by decide +kernel) rfl, zk_b19 100 (by decide +kernel) rfl, by decide +kernel, by decide +kernel, by decide +kernel⟩, zk_b19 101 (by decide +kernel) rfl, zk_b19 102 (by decide +kernel) rfl⟩
theorem zl_X18_441 : zm_L zk_E RX18 441 yX14_isSaid (.code yX14_isSaid cX14_isSaid 1 (some .boolean)) 1 ∧ Cond.static yX14_isSaid ∈ zk_E.2.2.1 := ⟨⟨zk_b19 99 (by decide +kernel) rfl, zk_b1 16 (by decide +kernel) rfl, zk_b19 97 (by decide +kernel) rfl, by decide +kernel, by decide +kernel, by decide +kernel⟩, zk_b19 98 (by decide +kernel) rfl⟩
theorem zl_X18_453 : zm_L zk_E RX18 453 yX14_read (.code yX14_read cX14_read 2 (some .int)) 0 ∧ Cond.instanceMethod yX14_read ∈ zk_E.2.2.1 ∧ Cond.selects yX14_read.cls yX14_read yX14_read ∈ zk_E.2.2.1 := ⟨⟨zk_b19 148 (by decide +kernel) rfl, zk_b1 16 (by decide +kernel) rfl, zk_b19 145 (by decide +kernel) rfl, by decide +kernel, by decide +kernel, by decide +kernel⟩, zk_b19 146 (by decide +kernel) rfl, zk_b19 147 (by decide +kernel) rfl⟩
theorem zl_X18_454 : zm_F zk_E RX18 454 14 2 := ⟨RX14, TX14, 36, rfl, zk_i14, by decide, zk_b14 119 (by decide +kernel) rfl⟩
theorem zl_X18_457 : zm_F zk_E RX18 457 14 3 := ⟨RX14, TX14, 36, rfl, zk_i14, by decide, zk_b14 121 (by decide +kernel) rfl⟩
theorem zl_X18_460 : zm_F zk_E RX18 460 14 4 := ⟨RX14, TX14, 36, rfl, zk_i14, by decide, zk_b14 123 (by decide +kernel) rfl⟩
theorem zl_X18_461 : zm_L zk_E RX18 461 yX14_attend (.code yX14_attend cX14_attend 5 (some .int)) 1 ∧ Cond.instanceMethod yX14_attend ∈ zk_E.2.2.1 ∧ Cond.selects yX14_attend.cls yX14_attend yX14_attend ∈ zk_E.2.2.1 := ⟨⟨zk_b19 239 (by decide +kernel) rfl, zk_b1 16 (by decide +kernel) rfl, zk_b19 236 (by decide +kernel) rfl, by decide +kernel, by decide +kernel, by decide +kernel⟩, zk_b19 237 (by decide +kernel) rfl, zk_b19 238 (by decide +kernel) rfl⟩
theorem zl_X18_464 : zm_F zk_E RX18 464 14 17 := ⟨RX14, TX14, 36, rfl, zk_i14, by decide, zk_b14 141 (by decide +kernel) rfl⟩
theorem zl_X18_474 : zm_F zk_E RX18 474 17 12 := ⟨RX17, TX17, 19, rfl, zk_i17, by decide, zk_b15 26 (by decide +kernel) rfl⟩
theorem zl_X18_467 : zm_F zk_E RX18 467 12 7 := ⟨RX12, TX12, 29, rfl, zk_i12, by decide, zk_b15 94 (by decide +kernel) rfl⟩
theorem zl_X18_470 : zm_L zk_E RX18 470 yX12_send (.code yX12_send cX12_send 9 (some .int)) 6 ∧ Cond.instanceMethod yX12_send ∈ zk_E.2.2.1 ∧ Cond.selects yX12_send.cls yX12_send yX12_send ∈ zk_E.2.2.1 := ⟨⟨zk_b20 47 (by decide +kernel) rfl, zk_b1 18 (by decide +kernel) rfl, zk_b20 44 (by decide +kernel) rfl, by decide +kernel, by decide +kernel, by decide +kernel⟩, zk_b20 45 (by decide +kernel) rfl, zk_b20 46 (by decide +kernel) rfl⟩
theorem zl_X18_476 : zm_L zk_E RX18 476 yX14_rankedOne (.code yX14_rankedOne cX14_rankedOne 6 (some .int)) 1 ∧ Cond.instanceMethod yX14_rankedOne ∈ zk_E.2.2.1 ∧ Cond.selects yX14_rankedOne.cls yX14_rankedOne yX14_rankedOne ∈ zk_E.2.2.1 := ⟨⟨zk_b20 7 (by decide +kernel) rfl, zk_b1 16 (by decide +kernel) rfl, zk_b20 4 (by decide +kernel) rfl, by decide +kernel, by decide +kernel, by decide +kernel⟩, zk_b20 5 (by decide +kernel) rfl, zk_b20 6 (by decide +kernel) rfl⟩
theorem zl_X18_479 : zm_L zk_E RX18 479 yX14_resets (.code yX14_resets cX14_resets 2 (some .boolean)) 1 ∧ Cond.instanceMethod yX14_resets ∈ zk_E.2.2.1 ∧ Cond.selects yX14_resets.cls yX14_resets yX14_resets ∈ zk_E.2.2.1 := ⟨⟨zk_b20 11 (by decide +kernel) rfl, zk_b1 16 (by decide +kernel) rfl, zk_b20 8 (by decide +kernel) rfl, by decide +kernel, by decide +kernel, by decide +kernel⟩, zk_b20 9 (by decide +kernel) rfl, zk_b20 10 (by decide +kernel) rfl⟩
theorem zl_X18_482 : zm_L zk_E RX18 482 yX18_does (.code yX18_does cX18_does 4 none) 2 ∧ Cond.instanceMethod yX18_does ∈ zk_E.2.2.1 ∧ Cond.selects yX18_does.cls yX18_does yX18_does ∈ zk_E.2.2.1 := ⟨⟨zk_b20 43 (by decide +kernel) rfl, zk_b1 13 (by decide +kernel) rfl, zk_b20 40 (by decide +kernel) rfl, by decide +kernel, by decide +kernel, by decide +kernel⟩, zk_b20 42 (by decide +kernel) rfl, zk_s17 (q := (yX18_does, 60)) 4 (by decide +kernel)⟩
theorem zl_X18_489 : zm_L zk_E RX18 489 yX14_act (.code yX14_act cX14_act 3 (some .int)) 2 ∧ Cond.instanceMethod yX14_act ∈ zk_E.2.2.1 ∧ Cond.selects yX14_act.cls yX14_act yX14_act ∈ zk_E.2.2.1 := ⟨⟨zk_b20 59 (by decide +kernel) rfl, zk_b1 16 (by decide +kernel) rfl, zk_b20 56 (by decide +kernel) rfl, by decide +kernel, by decide +kernel, by decide +kernel⟩, zk_b20 57 (by decide +kernel) rfl, zk_b20 58 (by decide +kernel) rfl⟩
theorem zl_X18_486 : zm_F zk_E RX18 486 14 16 := ⟨RX14, TX14, 36, rfl, zk_i14, by decide, zk_b14 139 (by decide +kernel) rfl⟩
theorem zl_X18_504 : zm_L zk_E RX18 504 yX14_ofZone (.code yX14_ofZone cX14_ofZone 6 (some .int)) 2 ∧ Cond.instanceMethod yX14_ofZone ∈ zk_E.2.2.1 ∧ Cond.selects yX14_ofZone.cls yX14_ofZone yX14_ofZone ∈ zk_E.2.2.1 := ⟨⟨zk_b20 27 (by decide +kernel) rfl, zk_b1 16 (by decide +kernel) rfl, zk_b20 66 (by decide +kernel) rfl, by decide +kernel, by decide +kernel, by decide +kernel⟩, zk_b20 25 (by decide +kernel) rfl, zk_b20 26 (by decide +kernel) rfl⟩
theorem zl_X18_501 : zm_F zk_E RX18 501 14 13 := ⟨RX14, TX14, 36, rfl, zk_i14, by decide, zk_b14 135 (by decide +kernel) rfl⟩
theorem zl_X18_498 : zm_L zk_E RX18 498 yX14_isSure (.code yX14_isSure cX14_isSure 3 (some .boolean)) 1 ∧ Cond.instanceMethod yX14_isSure ∈ zk_E.2.2.1 ∧ Cond.selects yX14_isSure.cls yX14_isSure yX14_isSure ∈ zk_E.2.2.1 := ⟨⟨zk_b20 35 (by decide +kernel) rfl, zk_b1 16 (by decide +kernel) rfl, zk_b20 65 (by decide +kernel) rfl, by decide +kernel, by decide +kernel, by decide +kernel⟩, zk_b20 33 (by decide +kernel) rfl, zk_b20 34 (by decide +kernel) rfl⟩
theorem zl_X18_495 : zm_L zk_E RX18 495 yX14_isOn (.code yX14_isOn cX14_isOn 2 (some .boolean)) 1 ∧ Cond.instanceMethod yX14_isOn ∈ zk_E.2.2.1 ∧ Cond.selects yX14_isOn.cls yX14_isOn yX14_isOn ∈ zk_E.2.2.1 := ⟨⟨zk_b20 23 (by decide +kernel) rfl, zk_b1 16 (by decide +kernel) rfl, zk_b20 64 (by decide +kernel) rfl, by decide +kernel, by decide +kernel, by decide +kernel⟩, zk_b20 21 (by decide +kernel) rfl, zk_b20 22 (by decide +kernel) rfl⟩
theorem zl_X18_492 : zm_F zk_E RX18 492 14 12 := ⟨RX14, TX14, 36, rfl, zk_i14, by decide, zk_b14 133 (by decide +kernel) rfl⟩
theorem zl_X18_507 : zm_F zk_E RX18 507 14 30 := ⟨RX14, TX14, 36, rfl, zk_i14, by decide, zk_b14 155 (by decide +kernel) rfl⟩
theorem zl_X18_510 : zm_L zk_E RX18 510 yX14_event (.code yX14_event cX14_event 4 (some .int)) 2 ∧ Cond.instanceMethod yX14_event ∈ zk_E.2.2.1 ∧ Cond.selects yX14_event.cls yX14_event yX14_event ∈ zk_E.2.2.1 := ⟨⟨zk_b20 74 (by decide +kernel) rfl, zk_b1 16 (by decide +kernel) rfl, zk_b20 71 (by decide +kernel) rfl, by decide +kernel, by decide +kernel, by decide +kernel⟩, zk_b20 72 (by decide +kernel) rfl, zk_b20 73 (by decide +kernel) rfl⟩
theorem zl_X18_516 : zm_L zk_E RX18 516 yX17_block (.code yX17_block cX17_block 3 (some .int)) 1 ∧ Cond.instanceMethod yX17_block ∈ zk_E.2.2.1 ∧ Cond.selects yX17_block.cls yX17_block yX17_block ∈ zk_E.2.2.1 := ⟨⟨zk_b20 82 (by decide +kernel) rfl, zk_b1 17 (by decide +kernel) rfl, zk_b20 79 (by decide +kernel) rfl, by decide +kernel, by decide +kernel, by decide +kernel⟩, zk_b20 80 (by decide +kernel) rfl, zk_b20 81 (by decide +kernel) rfl⟩
theorem zl_X18_513 : zm_F zk_E RX18 513 17 0 := ⟨RX17, TX17, 19, rfl, zk_i17, by decide, zk_b15 2 (by decide +kernel) rfl⟩
theorem zl_X18_519 : zm_F zk_E RX18 519 17 5 := ⟨RX17, TX17, 19, rfl, zk_i17, by decide, zk_b15 12 (by decide +kernel) rfl⟩
theorem zl_X18_522 : zm_F zk_E RX18 522 17 2 := ⟨RX17, TX17, 19, rfl, zk_i17, by decide, zk_b15 6 (by decide +kernel) rfl⟩
theorem zl_X18_525 : zm_F zk_E RX18 525 17 3 := ⟨RX17, TX17, 19, rfl, zk_i17, by decide, zk_b15 8 (by decide +kernel) rfl⟩
theorem zl_X18_529 : zm_F zk_E RX18 529 17 6 := ⟨RX17, TX17, 19, rfl, zk_i17, by decide, zk_b15 14 (by decide +kernel) rfl⟩
theorem zl_X18_528 : zm_F zk_E RX18 528 17 1 := ⟨RX17, TX17, 19, rfl, zk_i17, by decide, zk_b15 4 (by decide +kernel) rfl⟩
set_option maxHeartbeats 4000000 in
set_option maxRecDepth 100000 in
theorem zt_X18_enter_J103 {p : Program} {l : Launch} {e : Env} {R : Room} {s : State} {m : MethodId} {args : Array Value} {below : List Frame} {meth : Method} {c : Code} {V : zm_V} {mc ms d rc rs : Nat} (hX : zm_X p R s m args meth c RX18 "enter" cX18_enter 5 zk_E V mc ms) (hr : meth.sig.returnType = none) (hR : R.frames = d ∧ R.locals = 64 * d) (hd : 2 ≤ d) {N : Nat} {a0 : Nat} {i1 : Int32} {t0 : Nat} {t1 : Int32} {t2 : Int32} {out : (Unit × zm_S)} {S : zm_S} (h : zf_X18_enter_J103 N a0 i1 t0 t1 t2 S = some out) : zw p l e R s m args below meth c (vx_MQ below (zm_Qc zk_E V (zo_v out)) (zm_XC zk_E V zo_x) args s mc ms (fun q => V.2.2.2.1 ≤ q)) 5 zk_E V mc ms 103 [(0, .ref a0), (1, .int i1)] [.int t2, .int t1, .ref t0] S rc rs := by
  unfold zf_X18_enter_J103 at h
  obtain ⟨S24, g, h⟩ := zb_some h
  refine zw_si hX dX18_enter_103 g ?_
  refine zw_aload_n hX dX18_enter_104 rfl ?_
  obtain ⟨b25, g, h⟩ := zb_some h
  refine zw_getr hX zl_X18_121 dX18_enter_105 g ?_
  refine zw_iload_n hX dX18_enter_108 rfl ?_
  refine zw_aload_n hX dX18_enter_109 rfl ?_
  obtain ⟨v26, g, h⟩ := zb_some h
  refine zw_geti hX zl_X18_401 dX18_enter_110 g ?_
  obtain ⟨S27, g, h⟩ := zb_some h
  refine zw_si hX dX18_enter_113 g ?_
  obtain rfl := Option.some.inj h
  exact zw_vret hX hr dX18_enter_114 ⟨rfl, rfl⟩
set_option maxHeartbeats 4000000 in
set_option maxRecDepth 100000 in
theorem zt_X18_enter_J63 {p : Program} {l : Launch} {e : Env} {R : Room} {s : State} {m : MethodId} {args : Array Value} {below : List Frame} {meth : Method} {c : Code} {V : zm_V} {mc ms d rc rs : Nat} (hX : zm_X p R s m args meth c RX18 "enter" cX18_enter 5 zk_E V mc ms) (hr : meth.sig.returnType = none) (hR : R.frames = d ∧ R.locals = 64 * d) (hd : 2 ≤ d) {N : Nat} {a0 : Nat} {i1 : Int32} {i2 : Int32} {i3 : Int32} {i4 : Int32} {t0 : Nat} {t1 : Int32} {t2 : Int32} {out : (Unit × zm_S)} {S : zm_S} (h : zf_X18_enter_J63 N a0 i1 i2 i3 i4 t0 t1 t2 S = some out) : zw p l e R s m args below meth c (vx_MQ below (zm_Qc zk_E V (zo_v out)) (zm_XC zk_E V zo_x) args s mc ms (fun q => V.2.2.2.1 ≤ q)) 5 zk_E V mc ms 63 [(0, .ref a0), (1, .int i1), (2, .int i2), (3, .int i3), (4, .int i4)] [.int t2, .int t1, .ref t0] S rc rs := by
  unfold zf_X18_enter_J63 at h
  obtain ⟨S14, g, h⟩ := zb_some h
  refine zw_si hX dX18_enter_63 g ?_
  refine zw_aload_n hX dX18_enter_64 rfl ?_
  obtain ⟨b15, g, h⟩ := zb_some h
  refine zw_getr hX zl_X18_112 dX18_enter_65 g ?_
  refine zw_iload_n hX dX18_enter_68 rfl ?_
  refine zw_iload_n hX dX18_enter_69 rfl ?_
  refine zw_aload_n hX dX18_enter_70 rfl ?_
  obtain ⟨v16, g, h⟩ := zb_some h
  refine zw_geti hX zl_X18_338 dX18_enter_71 g ?_
  refine zw_icmp_ne (tgt := 81) hX dX18_enter_74 (by decide) (fun c74 => ?_) (fun c74 => ?_)
  · rw [if_neg c74] at h
    refine zw_aload_n hX dX18_enter_81 rfl ?_
    obtain ⟨b17, g, h⟩ := zb_some h
    refine zw_getr hX zl_X18_12 dX18_enter_82 g ?_
    refine zw_aload_n hX dX18_enter_85 rfl ?_
    obtain ⟨b18, g, h⟩ := zb_some h
    refine zw_getr hX zl_X18_60 dX18_enter_86 g ?_
    refine zw_iload_n hX dX18_enter_89 rfl ?_
    obtain ⟨v19, g, h⟩ := zb_some h
    refine zw_xi hX dX18_enter_90 g ?_
    refine zw_aload_n hX dX18_enter_91 rfl ?_
    obtain ⟨b20, g, h⟩ := zb_some h
    refine zw_getr hX zl_X18_66 dX18_enter_92 g ?_
    refine zw_iload_n hX dX18_enter_95 rfl ?_
    obtain ⟨v21, g, h⟩ := zb_some h
    refine zw_xi hX dX18_enter_96 g ?_
    refine zw_iload hX dX18_enter_97 rfl ?_
    refine zw_iconst (v := (0 : Int32)) hX dX18_enter_99 (by decide) ?_
    obtain ⟨_, gi, h⟩ := zb_some h
    obtain ⟨r23, g, h⟩ := zb_some h
    refine zc_Vi (as := [.int v19, .int v21, .int i4, .int (0 : Int32)]) hX gi (zt_X16_cellAt (d := d - 1) (by omega) g) zl_X18_365 rfl dX18_enter_100 ⟨rfl, rfl, Nat.le_of_ble_eq_true rfl⟩ ⟨by omega, by omega⟩ ?_
    refine zw_sub (lv' := [(0, .ref a0), (1, .int i1)]) (List.forall_mem_cons.mpr ⟨rfl, (List.forall_mem_cons.mpr ⟨rfl, zs_nil⟩)⟩) ?_
    exact zt_X18_enter_J103 hX hr hR hd h
  · rw [if_pos c74] at h
    refine zw_iconst (v := (-1 : Int32)) hX dX18_enter_77 (by decide) ?_
    refine zw_goto (tgt := 103) hX dX18_enter_78 (by decide) ?_
    refine zw_sub (lv' := [(0, .ref a0), (1, .int i1)]) (List.forall_mem_cons.mpr ⟨rfl, (List.forall_mem_cons.mpr ⟨rfl, zs_nil⟩)⟩) ?_
    exact zt_X18_enter_J103 hX hr hR hd h
set_option maxHeartbeats 4000000 in
set_option maxRecDepth 100000 in
theorem zt_X18_enter_J22 {p : Program} {l : Launch} {e : Env} {R : Room} {s : State} {m : MethodId} {args : Array Value} {below : List Frame} {meth : Method} {c : Code} {V : zm_V} {mc ms d rc rs : Nat} (hX : zm_X p R s m args meth c RX18 "enter" cX18_enter 5 zk_E V mc ms) (hr : meth.sig.returnType = none) (hR : R.frames = d ∧ R.locals = 64 * d) (hd : 2 ≤ d) {N : Nat} {a0 : Nat} {i1 : Int32} {i2 : Int32} {i3 : Int32} {t0 : Int32} {out : (Unit × zm_S)} {S : zm_S} (h : zf_X18_enter_J22 N a0 i1 i2 i3 t0 S = some out) : zw p l e R s m args below meth c (vx_MQ below (zm_Qc zk_E V (zo_v out)) (zm_XC zk_E V zo_x) args s mc ms (fun q => V.2.2.2.1 ≤ q)) 5 zk_E V mc ms 22 [(0, .ref a0), (1, .int i1), (2, .int i2), (3, .int i3)] [.int t0] S rc rs := by
  unfold zf_X18_enter_J22 at h
  refine zw_istore hX dX18_enter_22 (by decide) ?_
  refine zw_aload_n hX dX18_enter_24 rfl ?_
  obtain ⟨b5, g, h⟩ := zb_some h
  refine zw_getr hX zl_X18_109 dX18_enter_25 g ?_
  refine zw_iload_n hX dX18_enter_28 rfl ?_
  refine zw_iload_n hX dX18_enter_29 rfl ?_
  refine zw_aload_n hX dX18_enter_30 rfl ?_
  obtain ⟨v6, g, h⟩ := zb_some h
  refine zw_geti hX zl_X18_338 dX18_enter_31 g ?_
  refine zw_icmp_ne (tgt := 41) hX dX18_enter_34 (by decide) (fun c34 => ?_) (fun c34 => ?_)
  · rw [if_neg c34] at h
    refine zw_aload_n hX dX18_enter_41 rfl ?_
    obtain ⟨b7, g, h⟩ := zb_some h
    refine zw_getr hX zl_X18_12 dX18_enter_42 g ?_
    refine zw_aload_n hX dX18_enter_45 rfl ?_
    obtain ⟨b8, g, h⟩ := zb_some h
    refine zw_getr hX zl_X18_60 dX18_enter_46 g ?_
    refine zw_iload_n hX dX18_enter_49 rfl ?_
    obtain ⟨v9, g, h⟩ := zb_some h
    refine zw_xi hX dX18_enter_50 g ?_
    refine zw_aload_n hX dX18_enter_51 rfl ?_
    obtain ⟨b10, g, h⟩ := zb_some h
    refine zw_getr hX zl_X18_66 dX18_enter_52 g ?_
    refine zw_iload_n hX dX18_enter_55 rfl ?_
    obtain ⟨v11, g, h⟩ := zb_some h
    refine zw_xi hX dX18_enter_56 g ?_
    refine zw_iload hX dX18_enter_57 rfl ?_
    refine zw_iconst (v := (1 : Int32)) hX dX18_enter_59 (by decide) ?_
    obtain ⟨_, gi, h⟩ := zb_some h
    obtain ⟨r13, g, h⟩ := zb_some h
    refine zc_Vi (as := [.int v9, .int v11, .int t0, .int (1 : Int32)]) hX gi (zt_X16_cellAt (d := d - 1) (by omega) g) zl_X18_365 rfl dX18_enter_60 ⟨rfl, rfl, Nat.le_of_ble_eq_true rfl⟩ ⟨by omega, by omega⟩ ?_
    refine zw_sub (lv' := [(0, .ref a0), (1, .int i1), (2, .int i2), (3, .int i3), (4, .int t0)]) (List.forall_mem_cons.mpr ⟨rfl, (List.forall_mem_cons.mpr ⟨rfl, (List.forall_mem_cons.mpr ⟨rfl, (List.forall_mem_cons.mpr ⟨rfl, (List.forall_mem_cons.mpr ⟨rfl, zs_nil⟩)⟩)⟩)⟩)⟩) ?_
    exact zt_X18_enter_J63 hX hr hR hd h
  · rw [if_pos c34] at h
    refine zw_iconst (v := (-1 : Int32)) hX dX18_enter_37 (by decide) ?_
    refine zw_goto (tgt := 63) hX dX18_enter_38 (by decide) ?_
    refine zw_sub (lv' := [(0, .ref a0), (1, .int i1), (2, .int i2), (3, .int i3), (4, .int t0)]) (List.forall_mem_cons.mpr ⟨rfl, (List.forall_mem_cons.mpr ⟨rfl, (List.forall_mem_cons.mpr ⟨rfl, (List.forall_mem_cons.mpr ⟨rfl, (List.forall_mem_cons.mpr ⟨rfl, zs_nil⟩)⟩)⟩)⟩)⟩) ?_
    exact zt_X18_enter_J63 hX hr hR hd h
set_option maxHeartbeats 4000000 in
set_option maxRecDepth 100000 in
theorem zt_X18_enter {l : Launch} {V : zm_V} {N : Nat} {S : zm_S} {out : (Unit × zm_S)} {d : Nat} {a0 : Nat} {i1 : Int32} {i2 : Int32} {i3 : Int32} (hd : 2 ≤ d) (h : zf_X18_enter N a0 i1 i2 i3 S = some out) : zm_Met l zk_E V yX18_enter (.code yX18_enter cX18_enter 5 none) d [.ref a0, .int i1, .int i2, .int i3] S 0 0 (zo_v out) zo_x := by
  refine zm_of (by decide +kernel) (Nat.le_of_ble_eq_true rfl) ?_
  intro p e R s m args below meth c hRR hX hr hxt
  have hR : R.frames = d ∧ R.locals = 64 * d := by rw [hRR]; exact ⟨rfl, rfl⟩
  have hX : zm_X p R s m args meth c RX18 "enter" cX18_enter 5 zk_E V 0 0 := hX
  unfold zf_X18_enter at h
  refine zw_sub (lv' := [(0, .ref a0), (1, .int i1), (2, .int i2), (3, .int i3)]) (List.forall_mem_cons.mpr ⟨rfl, (List.forall_mem_cons.mpr ⟨rfl, (List.forall_mem_cons.mpr ⟨rfl, (List.forall_mem_cons.mpr ⟨rfl, zs_nil⟩)⟩)⟩)⟩) ?_
  refine zw_aload_n hX dX18_enter_0 rfl ?_
  obtain ⟨b1, g, h⟩ := zb_some h
  refine zw_getr hX zl_X18_106 dX18_enter_1 g ?_
  refine zw_iload_n hX dX18_enter_4 rfl ?_
  refine zw_iload_n hX dX18_enter_5 rfl ?_
  obtain ⟨S2, g, h⟩ := zb_some h
  refine zw_si hX dX18_enter_6 g ?_
  refine zw_iload_n hX dX18_enter_7 rfl ?_
  refine zw_aload_n hX dX18_enter_8 rfl ?_
  obtain ⟨b3, g, h⟩ := zb_some h
  refine zw_getr hX zl_X18_53 dX18_enter_9 g ?_
  refine zw_iload_n hX dX18_enter_12 rfl ?_
  obtain ⟨v4, g, h⟩ := zb_some h
  refine zw_xi hX dX18_enter_13 g ?_
  refine zw_icmp_ne (tgt := 21) hX dX18_enter_14 (by decide) (fun c14 => ?_) (fun c14 => ?_)
  · rw [if_neg c14] at h
    refine zw_iconst (v := (0 : Int32)) hX dX18_enter_21 (by decide) ?_
    refine zw_sub (lv' := [(0, .ref a0), (1, .int i1), (2, .int i2), (3, .int i3)]) (List.forall_mem_cons.mpr ⟨rfl, (List.forall_mem_cons.mpr ⟨rfl, (List.forall_mem_cons.mpr ⟨rfl, (List.forall_mem_cons.mpr ⟨rfl, zs_nil⟩)⟩)⟩)⟩) ?_
    exact zt_X18_enter_J22 hX hr hR hd h
  · rw [if_pos c14] at h
    refine zw_iconst (v := (1 : Int32)) hX dX18_enter_17 (by decide) ?_
    refine zw_goto (tgt := 22) hX dX18_enter_18 (by decide) ?_
    refine zw_sub (lv' := [(0, .ref a0), (1, .int i1), (2, .int i2), (3, .int i3)]) (List.forall_mem_cons.mpr ⟨rfl, (List.forall_mem_cons.mpr ⟨rfl, (List.forall_mem_cons.mpr ⟨rfl, (List.forall_mem_cons.mpr ⟨rfl, zs_nil⟩)⟩)⟩)⟩) ?_
    exact zt_X18_enter_J22 hX hr hR hd h
set_option maxHeartbeats 4000000 in
set_option maxRecDepth 100000 in
theorem zt_X18_let_J19 {p : Program} {l : Launch} {e : Env} {R : Room} {s : State} {m : MethodId} {args : Array Value} {below : List Frame} {meth : Method} {c : Code} {V : zm_V} {mc ms d rc rs : Nat} (hX : zm_X p R s m args meth c RX18 "let" cX18_let 5 zk_E V mc ms) (hr : meth.sig.returnType = none) (hR : R.frames = d ∧ R.locals = 64 * d) (hd : 3 ≤ d) {N : Nat} {a0 : Nat} {i1 : Int32} {i2 : Int32} {i3 : Int32} {out : (Unit × zm_S)} {S : zm_S} (h : zf_X18_let_J19 N a0 i1 i2 i3 S = some out) : zw p l e R s m args below meth c (vx_MQ below (zm_Qc zk_E V (zo_v out)) (zm_XC zk_E V zo_x) args s mc ms (fun q => V.2.2.2.1 ≤ q)) 5 zk_E V mc ms 19 [(0, .ref a0), (1, .int i1), (2, .int i2), (3, .int i3)] [] S rc rs := by
  unfold zf_X18_let_J19 at h
  refine zw_aload_n hX dX18_let_19 rfl ?_
  refine zw_aload_n hX dX18_let_20 rfl ?_
  obtain ⟨b3, g, h⟩ := zb_some h
  refine zw_getr hX zl_X18_124 dX18_let_21 g ?_
  refine zw_iload_n hX dX18_let_24 rfl ?_
  obtain ⟨v4, g, h⟩ := zb_some h
  refine zw_xi hX dX18_let_25 g ?_
  refine zw_iload_n hX dX18_let_26 rfl ?_
  refine zw_iload_n hX dX18_let_27 rfl ?_
  obtain ⟨_, gi, h⟩ := zb_some h
  obtain ⟨r6, g, h⟩ := zb_some h
  refine zc_Vv (as := [.int v4, .int i2, .int i3]) hX gi (zt_X18_enter (d := d - 1) (by omega) g) zl_X18_422 rfl dX18_let_28 ⟨rfl, rfl, Nat.le_of_ble_eq_true rfl⟩ ⟨by omega, by omega⟩ ?_
  obtain rfl := Option.some.inj h
  exact zw_vret hX hr dX18_let_31 ⟨rfl, rfl⟩
set_option maxHeartbeats 4000000 in
set_option maxRecDepth 100000 in
theorem zt_X18_let {l : Launch} {V : zm_V} {N : Nat} {S : zm_S} {out : (Unit × zm_S)} {d : Nat} {a0 : Nat} {i1 : Int32} {i2 : Int32} {i3 : Int32} (hd : 3 ≤ d) (h : zf_X18_let N a0 i1 i2 i3 S = some out) : zm_Met l zk_E V yX18_let (.code yX18_let cX18_let 5 none) d [.ref a0, .int i1, .int i2, .int i3] S 0 0 (zo_v out) zo_x := by
  refine zm_of (by decide +kernel) (Nat.le_of_ble_eq_true rfl) ?_
  intro p e R s m args below meth c hRR hX hr hxt
  have hR : R.frames = d ∧ R.locals = 64 * d := by rw [hRR]; exact ⟨rfl, rfl⟩
  have hX : zm_X p R s m args meth c RX18 "let" cX18_let 5 zk_E V 0 0 := hX
  unfold zf_X18_let at h
  refine zw_sub (lv' := [(0, .ref a0), (1, .int i1), (2, .int i2), (3, .int i3)]) (List.forall_mem_cons.mpr ⟨rfl, (List.forall_mem_cons.mpr ⟨rfl, (List.forall_mem_cons.mpr ⟨rfl, (List.forall_mem_cons.mpr ⟨rfl, zs_nil⟩)⟩)⟩)⟩) ?_
  refine zw_aload_n hX dX18_let_0 rfl ?_
  obtain ⟨b1, g, h⟩ := zb_some h
  refine zw_getr hX zl_X18_79 dX18_let_1 g ?_
  refine zw_iload_n hX dX18_let_4 rfl ?_
  obtain ⟨v2, g, h⟩ := zb_some h
  refine zw_xi hX dX18_let_5 g ?_
  refine zw_ldcw (v := (2147483647 : Int32)) hX dX18_let_6 zl_X18_354 ?_
  refine zw_icmp_eq (tgt := 19) hX dX18_let_9 (by decide) (fun c9 => ?_) (fun c9 => ?_)
  · rw [if_pos c9] at h
    refine zw_sub (lv' := [(0, .ref a0), (1, .int i1), (2, .int i2), (3, .int i3)]) (List.forall_mem_cons.mpr ⟨rfl, (List.forall_mem_cons.mpr ⟨rfl, (List.forall_mem_cons.mpr ⟨rfl, (List.forall_mem_cons.mpr ⟨rfl, zs_nil⟩)⟩)⟩)⟩) ?_
    exact zt_X18_let_J19 hX hr hR hd h
  · rw [if_neg c9] at h
    refine zw_aload_n hX dX18_let_12 rfl ?_
    obtain ⟨_, gi, h⟩ := zb_some h
    obtain ⟨r8, g, h⟩ := zb_some h
    refine zc_Vi (as := []) hX gi (zt_X18_isReleased (d := d - 1) (by omega) g) zl_X18_414 rfl dX18_let_13 ⟨rfl, rfl, Nat.le_of_ble_eq_true rfl⟩ ⟨by omega, by omega⟩ ?_
    refine zw_if_eq (tgt := 32) hX dX18_let_16 (by decide) (fun c16 => ?_) (fun c16 => ?_)
    · rw [if_pos c16] at h
      refine zw_bipush (v := (20 : Int32)) hX dX18_let_32 (by decide) ?_
      refine zw_iload_n hX dX18_let_34 rfl ?_
      refine zw_imul hX dX18_let_35 ?_
      refine zw_aload_n hX dX18_let_36 rfl ?_
      obtain ⟨b9, g, h⟩ := zb_some h
      refine zw_getr hX zl_X18_82 dX18_let_37 g ?_
      refine zw_iload_n hX dX18_let_40 rfl ?_
      obtain ⟨v10, g, h⟩ := zb_some h
      refine zw_xi hX dX18_let_41 g ?_
      refine zw_iadd hX dX18_let_42 ?_
      refine zw_istore hX dX18_let_43 (by decide) ?_
      refine zw_aload_n hX dX18_let_45 rfl ?_
      obtain ⟨b11, g, h⟩ := zb_some h
      refine zw_getr hX zl_X18_85 dX18_let_46 g ?_
      refine zw_iload hX dX18_let_49 rfl ?_
      refine zw_iload_n hX dX18_let_51 rfl ?_
      obtain ⟨S12, g, h⟩ := zb_some h
      refine zw_si hX dX18_let_52 g ?_
      refine zw_aload_n hX dX18_let_53 rfl ?_
      obtain ⟨b13, g, h⟩ := zb_some h
      refine zw_getr hX zl_X18_88 dX18_let_54 g ?_
      refine zw_iload hX dX18_let_57 rfl ?_
      refine zw_iload_n hX dX18_let_59 rfl ?_
      obtain ⟨S14, g, h⟩ := zb_some h
      refine zw_si hX dX18_let_60 g ?_
      refine zw_aload_n hX dX18_let_61 rfl ?_
      obtain ⟨b15, g, h⟩ := zb_some h
      refine zw_getr hX zl_X18_91 dX18_let_62 g ?_
      refine zw_iload hX dX18_let_65 rfl ?_
      refine zw_aload_n hX dX18_let_67 rfl ?_
      obtain ⟨v16, g, h⟩ := zb_some h
      refine zw_geti hX zl_X18_401 dX18_let_68 g ?_
      refine zw_bipush (v := (60 : Int32)) hX dX18_let_71 (by decide) ?_
      refine zw_idiv hX dX18_let_73 (by decide) ?_
      obtain ⟨S17, g, h⟩ := zb_some h
      refine zw_si hX dX18_let_74 g ?_
      refine zw_aload_n hX dX18_let_75 rfl ?_
      obtain ⟨b18, g, h⟩ := zb_some h
      refine zw_getr hX zl_X18_82 dX18_let_76 g ?_
      refine zw_iload_n hX dX18_let_79 rfl ?_
      refine zw_dup2 hX dX18_let_80 rfl rfl ?_
      obtain ⟨v19, g, h⟩ := zb_some h
      refine zw_xi hX dX18_let_81 g ?_
      refine zw_iconst (v := (1 : Int32)) hX dX18_let_82 (by decide) ?_
      refine zw_iadd hX dX18_let_83 ?_
      obtain ⟨S20, g, h⟩ := zb_some h
      refine zw_si hX dX18_let_84 g ?_
      obtain rfl := Option.some.inj h
      exact zw_vret hX hr dX18_let_85 ⟨rfl, rfl⟩
    · rw [if_neg c16] at h
      refine zw_sub (lv' := [(0, .ref a0), (1, .int i1), (2, .int i2), (3, .int i3)]) (List.forall_mem_cons.mpr ⟨rfl, (List.forall_mem_cons.mpr ⟨rfl, (List.forall_mem_cons.mpr ⟨rfl, (List.forall_mem_cons.mpr ⟨rfl, zs_nil⟩)⟩)⟩)⟩) ?_
      exact zt_X18_let_J19 hX hr hR hd h
set_option maxHeartbeats 4000000 in
set_option maxRecDepth 100000 in
theorem zt_X18_isOf {l : Launch} {V : zm_V} {N : Nat} {S : zm_S} {out : (Int32 × zm_S)} {d : Nat} {a0 : Nat} {i1 : Int32} {i2 : Int32} (hd : 2 ≤ d) (h : zf_X18_isOf N a0 i1 i2 S = some out) : zm_Met l zk_E V yX18_isOf (.code yX18_isOf cX18_isOf 3 (some .boolean)) d [.ref a0, .int i1, .int i2] S 0 0 (zo_i out) zo_x := by
  refine zm_of (by decide +kernel) (Nat.le_of_ble_eq_true rfl) ?_
  intro p e R s m args below meth c hRR hX hr hxt
  have hR : R.frames = d ∧ R.locals = 64 * d := by rw [hRR]; exact ⟨rfl, rfl⟩
  have hX : zm_X p R s m args meth c RX18 "isOf" cX18_isOf 3 zk_E V 0 0 := hX
  unfold zf_X18_isOf at h
  refine zw_sub (lv' := [(0, .ref a0), (1, .int i1), (2, .int i2)]) (List.forall_mem_cons.mpr ⟨rfl, (List.forall_mem_cons.mpr ⟨rfl, (List.forall_mem_cons.mpr ⟨rfl, zs_nil⟩)⟩)⟩) ?_
  refine zw_iload_n hX dX18_isOf_0 rfl ?_
  refine zw_aload_n hX dX18_isOf_1 rfl ?_
  obtain ⟨v1, g, h⟩ := zb_some h
  refine zw_geti hX zl_X18_351 dX18_isOf_2 g ?_
  obtain ⟨r3, g, h⟩ := zb_some h
  refine zc_Si (as := [.int i1, .int v1]) hX (zt_X18_isIn (d := d - 1) (by omega) g) zl_X18_207 dX18_isOf_5 ⟨rfl, rfl, Nat.le_of_ble_eq_true rfl⟩ ⟨by omega, by omega⟩ ?_
  refine zw_if_eq (tgt := 48) hX dX18_isOf_8 (by decide) (fun c8 => ?_) (fun c8 => ?_)
  · rw [if_pos c8] at h
    refine zw_iconst (v := (0 : Int32)) hX dX18_isOf_48 (by decide) ?_
    obtain rfl := Option.some.inj h
    exact zw_iret hX hr dX18_isOf_49 rfl ⟨rfl, rfl⟩
  · rw [if_neg c8] at h
    refine zw_iload_n hX dX18_isOf_11 rfl ?_
    refine zw_aload_n hX dX18_isOf_12 rfl ?_
    obtain ⟨v4, g, h⟩ := zb_some h
    refine zw_geti hX zl_X18_338 dX18_isOf_13 g ?_
    refine zw_iconst (v := (1 : Int32)) hX dX18_isOf_16 (by decide) ?_
    refine zw_iadd hX dX18_isOf_17 ?_
    obtain ⟨r6, g, h⟩ := zb_some h
    refine zc_Si (as := [.int i2, .int (v4 + (1 : Int32))]) hX (zt_X18_isIn (d := d - 1) (by omega) g) zl_X18_207 dX18_isOf_18 ⟨rfl, rfl, Nat.le_of_ble_eq_true rfl⟩ ⟨by omega, by omega⟩ ?_
    refine zw_if_eq (tgt := 48) hX dX18_isOf_21 (by decide) (fun c21 => ?_) (fun c21 => ?_)
    · rw [if_pos c21] at h
      refine zw_iconst (v := (0 : Int32)) hX dX18_isOf_48 (by decide) ?_
      obtain rfl := Option.some.inj h
      exact zw_iret hX hr dX18_isOf_49 rfl ⟨rfl, rfl⟩
    · rw [if_neg c21] at h
      refine zw_aload_n hX dX18_isOf_24 rfl ?_
      obtain ⟨b7, g, h⟩ := zb_some h
      refine zw_getr hX zl_X18_53 dX18_isOf_25 g ?_
      refine zw_iload_n hX dX18_isOf_28 rfl ?_
      obtain ⟨v8, g, h⟩ := zb_some h
      refine zw_xi hX dX18_isOf_29 g ?_
      refine zw_iload_n hX dX18_isOf_30 rfl ?_
      refine zw_icmp_eq (tgt := 44) hX dX18_isOf_31 (by decide) (fun c31 => ?_) (fun c31 => ?_)
      · rw [if_pos c31] at h
        refine zw_iconst (v := (1 : Int32)) hX dX18_isOf_44 (by decide) ?_
        refine zw_goto (tgt := 49) hX dX18_isOf_45 (by decide) ?_
        obtain rfl := Option.some.inj h
        exact zw_iret hX hr dX18_isOf_49 rfl ⟨rfl, rfl⟩
      · rw [if_neg c31] at h
        refine zw_aload_n hX dX18_isOf_34 rfl ?_
        obtain ⟨b9, g, h⟩ := zb_some h
        refine zw_getr hX zl_X18_57 dX18_isOf_35 g ?_
        refine zw_iload_n hX dX18_isOf_38 rfl ?_
        obtain ⟨v10, g, h⟩ := zb_some h
        refine zw_xi hX dX18_isOf_39 g ?_
        refine zw_iload_n hX dX18_isOf_40 rfl ?_
        refine zw_icmp_ne (tgt := 48) hX dX18_isOf_41 (by decide) (fun c41 => ?_) (fun c41 => ?_)
        · rw [if_neg c41] at h
          refine zw_iconst (v := (0 : Int32)) hX dX18_isOf_48 (by decide) ?_
          obtain rfl := Option.some.inj h
          exact zw_iret hX hr dX18_isOf_49 rfl ⟨rfl, rfl⟩
        · rw [if_pos c41] at h
          refine zw_iconst (v := (1 : Int32)) hX dX18_isOf_44 (by decide) ?_
          refine zw_goto (tgt := 49) hX dX18_isOf_45 (by decide) ?_
          obtain rfl := Option.some.inj h
          exact zw_iret hX hr dX18_isOf_49 rfl ⟨rfl, rfl⟩
set_option maxHeartbeats 4000000 in
set_option maxRecDepth 100000 in
theorem zt_X18_ask_J103 {p : Program} {l : Launch} {e : Env} {R : Room} {s : State} {m : MethodId} {args : Array Value} {below : List Frame} {meth : Method} {c : Code} {V : zm_V} {mc ms d rc rs : Nat} (hX : zm_X p R s m args meth c RX18 "ask" cX18_ask 6 zk_E V mc ms) (hr : meth.sig.returnType = (some .int)) (hR : R.frames = d ∧ R.locals = 64 * d) (hd : 4 ≤ d) {N : Nat} {a0 : Nat} {i1 : Int32} {i2 : Int32} {i3 : Int32} {t0 : Int32} {out : (Int32 × zm_S)} {S : zm_S} (h : zf_X18_ask_J103 N a0 i1 i2 i3 t0 S = some out) : zw p l e R s m args below meth c (vx_MQ below (zm_Qc zk_E V (zo_i out)) (zm_XC zk_E V zo_x) args s mc ms (fun q => V.2.2.2.1 ≤ q)) 6 zk_E V mc ms 103 [(0, .ref a0), (1, .int i1), (2, .int i2), (3, .int i3)] [.int t0] S rc rs := by
  unfold zf_X18_ask_J103 at h
  refine zw_istore hX dX18_ask_103 (by decide) ?_
  refine zw_iload hX dX18_ask_105 rfl ?_
  refine zw_if_ne (tgt := 117) hX dX18_ask_107 (by decide) (fun c107 => ?_) (fun c107 => ?_)
  · rw [if_neg c107] at h
    refine zw_iload hX dX18_ask_117 rfl ?_
    obtain rfl := Option.some.inj h
    exact zw_iret hX hr dX18_ask_119 rfl ⟨rfl, rfl⟩
  · rw [if_pos c107] at h
    refine zw_aload_n hX dX18_ask_110 rfl ?_
    refine zw_iload_n hX dX18_ask_111 rfl ?_
    refine zw_iload_n hX dX18_ask_112 rfl ?_
    refine zw_iload_n hX dX18_ask_113 rfl ?_
    obtain ⟨_, gi, h⟩ := zb_some h
    obtain ⟨r10, g, h⟩ := zb_some h
    refine zc_Vv (as := [.int i1, .int i2, .int i3]) hX gi (zt_X18_let (d := d - 1) (by omega) g) zl_X18_431 rfl dX18_ask_114 ⟨rfl, rfl, Nat.le_of_ble_eq_true rfl⟩ ⟨by omega, by omega⟩ ?_
    refine zw_iload hX dX18_ask_117 rfl ?_
    obtain rfl := Option.some.inj h
    exact zw_iret hX hr dX18_ask_119 rfl ⟨rfl, rfl⟩
set_option maxHeartbeats 4000000 in
set_option maxRecDepth 100000 in
theorem zt_X18_ask_J101 {p : Program} {l : Launch} {e : Env} {R : Room} {s : State} {m : MethodId} {args : Array Value} {below : List Frame} {meth : Method} {c : Code} {V : zm_V} {mc ms d rc rs : Nat} (hX : zm_X p R s m args meth c RX18 "ask" cX18_ask 6 zk_E V mc ms) (hr : meth.sig.returnType = (some .int)) (hR : R.frames = d ∧ R.locals = 64 * d) (hd : 4 ≤ d) {N : Nat} {a0 : Nat} {i1 : Int32} {i2 : Int32} {i3 : Int32} {i5 : Int32} {out : (Int32 × zm_S)} {S : zm_S} (h : zf_X18_ask_J101 N a0 i1 i2 i3 i5 S = some out) : zw p l e R s m args below meth c (vx_MQ below (zm_Qc zk_E V (zo_i out)) (zm_XC zk_E V zo_x) args s mc ms (fun q => V.2.2.2.1 ≤ q)) 6 zk_E V mc ms 101 [(0, .ref a0), (1, .int i1), (2, .int i2), (3, .int i3), (5, .int i5)] [] S rc rs := by
  unfold zf_X18_ask_J101 at h
  refine zw_iload hX dX18_ask_101 rfl ?_
  refine zw_sub (lv' := [(0, .ref a0), (1, .int i1), (2, .int i2), (3, .int i3)]) (List.forall_mem_cons.mpr ⟨rfl, (List.forall_mem_cons.mpr ⟨rfl, (List.forall_mem_cons.mpr ⟨rfl, (List.forall_mem_cons.mpr ⟨rfl, zs_nil⟩)⟩)⟩)⟩) ?_
  exact zt_X18_ask_J103 hX hr hR hd h
set_option maxHeartbeats 4000000 in
set_option maxRecDepth 100000 in
theorem zt_X18_ask_J58 {p : Program} {l : Launch} {e : Env} {R : Room} {s : State} {m : MethodId} {args : Array Value} {below : List Frame} {meth : Method} {c : Code} {V : zm_V} {mc ms d rc rs : Nat} (hX : zm_X p R s m args meth c RX18 "ask" cX18_ask 6 zk_E V mc ms) (hr : meth.sig.returnType = (some .int)) (hR : R.frames = d ∧ R.locals = 64 * d) (hd : 4 ≤ d) {N : Nat} {a0 : Nat} {i1 : Int32} {i2 : Int32} {i3 : Int32} {t0 : Nat} {t1 : Int32} {t2 : Int32} {out : (Int32 × zm_S)} {S : zm_S} (h : zf_X18_ask_J58 N a0 i1 i2 i3 t0 t1 t2 S = some out) : zw p l e R s m args below meth c (vx_MQ below (zm_Qc zk_E V (zo_i out)) (zm_XC zk_E V zo_x) args s mc ms (fun q => V.2.2.2.1 ≤ q)) 6 zk_E V mc ms 58 [(0, .ref a0), (1, .int i1), (2, .int i2), (3, .int i3)] [.int t2, .int t1, .ref t0] S rc rs := by
  unfold zf_X18_ask_J58 at h
  obtain ⟨_, gi, h⟩ := zb_some h
  obtain ⟨r6, g, h⟩ := zb_some h
  refine zc_Vi (as := [.int t1, .int t2]) hX gi (zt_X18_goes (d := d - 1) (by omega) g) zl_X18_199 rfl dX18_ask_58 ⟨rfl, rfl, Nat.le_of_ble_eq_true rfl⟩ ⟨by omega, by omega⟩ ?_
  refine zw_if_ne (tgt := 66) hX dX18_ask_61 (by decide) (fun c61 => ?_) (fun c61 => ?_)
  · rw [if_neg c61] at h
    refine zw_aload_n hX dX18_ask_66 rfl ?_
    refine zw_iload_n hX dX18_ask_67 rfl ?_
    refine zw_iload_n hX dX18_ask_68 rfl ?_
    refine zw_iload_n hX dX18_ask_69 rfl ?_
    obtain ⟨_, gi, h⟩ := zb_some h
    obtain ⟨r8, g, h⟩ := zb_some h
    refine zc_Vi (as := [.int i1, .int i2, .int i3]) hX gi (zt_X18_refused (d := d - 1) (by omega) g) zl_X18_428 rfl dX18_ask_70 ⟨rfl, rfl, Nat.le_of_ble_eq_true rfl⟩ ⟨by omega, by omega⟩ ?_
    refine zw_istore hX dX18_ask_73 (by decide) ?_
    refine zw_iload hX dX18_ask_75 rfl ?_
    refine zw_if_ne (tgt := 101) hX dX18_ask_77 (by decide) (fun c77 => ?_) (fun c77 => ?_)
    · rw [if_neg c77] at h
      refine zw_sub (lv' := [(0, .ref a0), (1, .int i1), (2, .int i2), (3, .int i3), (5, .int r8.1)]) (List.forall_mem_cons.mpr ⟨rfl, (List.forall_mem_cons.mpr ⟨rfl, (List.forall_mem_cons.mpr ⟨rfl, (List.forall_mem_cons.mpr ⟨rfl, (List.forall_mem_cons.mpr ⟨rfl, zs_nil⟩)⟩)⟩)⟩)⟩) ?_
      exact zt_X18_ask_J101 hX hr hR hd h
    · rw [if_pos c77] at h
      refine zw_aload_n hX dX18_ask_80 rfl ?_
      obtain ⟨b11, g, h⟩ := zb_some h
      refine zw_getr hX zl_X18_69 dX18_ask_81 g ?_
      refine zw_iload_n hX dX18_ask_84 rfl ?_
      obtain ⟨v12, g, h⟩ := zb_some h
      refine zw_xz hX dX18_ask_85 g ?_
      refine zw_if_eq (tgt := 101) hX dX18_ask_86 (by decide) (fun c86 => ?_) (fun c86 => ?_)
      · rw [if_pos c86] at h
        refine zw_sub (lv' := [(0, .ref a0), (1, .int i1), (2, .int i2), (3, .int i3), (5, .int r8.1)]) (List.forall_mem_cons.mpr ⟨rfl, (List.forall_mem_cons.mpr ⟨rfl, (List.forall_mem_cons.mpr ⟨rfl, (List.forall_mem_cons.mpr ⟨rfl, (List.forall_mem_cons.mpr ⟨rfl, zs_nil⟩)⟩)⟩)⟩)⟩) ?_
        exact zt_X18_ask_J101 hX hr hR hd h
      · rw [if_neg c86] at h
        refine zw_aload_n hX dX18_ask_89 rfl ?_
        obtain ⟨_, gi, h⟩ := zb_some h
        obtain ⟨r14, g, h⟩ := zb_some h
        refine zc_Vi (as := []) hX gi (zt_X18_isReleased (d := d - 1) (by omega) g) zl_X18_414 rfl dX18_ask_90 ⟨rfl, rfl, Nat.le_of_ble_eq_true rfl⟩ ⟨by omega, by omega⟩ ?_
        refine zw_if_ne (tgt := 101) hX dX18_ask_93 (by decide) (fun c93 => ?_) (fun c93 => ?_)
        · rw [if_neg c93] at h
          refine zw_sub (lv' := [(0, .ref a0), (1, .int i1), (2, .int i2), (3, .int i3), (5, .int r8.1)]) (List.forall_mem_cons.mpr ⟨rfl, (List.forall_mem_cons.mpr ⟨rfl, (List.forall_mem_cons.mpr ⟨rfl, (List.forall_mem_cons.mpr ⟨rfl, (List.forall_mem_cons.mpr ⟨rfl, zs_nil⟩)⟩)⟩)⟩)⟩) ?_
          exact zt_X18_ask_J101 hX hr hR hd h
        · rw [if_pos c93] at h
          refine zw_bipush (v := (7 : Int32)) hX dX18_ask_96 (by decide) ?_
          refine zw_goto (tgt := 103) hX dX18_ask_98 (by decide) ?_
          refine zw_sub (lv' := [(0, .ref a0), (1, .int i1), (2, .int i2), (3, .int i3)]) (List.forall_mem_cons.mpr ⟨rfl, (List.forall_mem_cons.mpr ⟨rfl, (List.forall_mem_cons.mpr ⟨rfl, (List.forall_mem_cons.mpr ⟨rfl, zs_nil⟩)⟩)⟩)⟩) ?_
          exact zt_X18_ask_J103 hX hr hR hd h
  · rw [if_pos c61] at h
    refine zw_iconst (v := (0 : Int32)) hX dX18_ask_64 (by decide) ?_
    obtain rfl := Option.some.inj h
    exact zw_iret hX hr dX18_ask_65 rfl ⟨rfl, rfl⟩
set_option maxHeartbeats 4000000 in
set_option maxRecDepth 100000 in
theorem zt_X18_ask_J57 {p : Program} {l : Launch} {e : Env} {R : Room} {s : State} {m : MethodId} {args : Array Value} {below : List Frame} {meth : Method} {c : Code} {V : zm_V} {mc ms d rc rs : Nat} (hX : zm_X p R s m args meth c RX18 "ask" cX18_ask 6 zk_E V mc ms) (hr : meth.sig.returnType = (some .int)) (hR : R.frames = d ∧ R.locals = 64 * d) (hd : 4 ≤ d) {N : Nat} {a0 : Nat} {i1 : Int32} {i2 : Int32} {i3 : Int32} {t0 : Nat} {t1 : Int32} {out : (Int32 × zm_S)} {S : zm_S} (h : zf_X18_ask_J57 N a0 i1 i2 i3 t0 t1 S = some out) : zw p l e R s m args below meth c (vx_MQ below (zm_Qc zk_E V (zo_i out)) (zm_XC zk_E V zo_x) args s mc ms (fun q => V.2.2.2.1 ≤ q)) 6 zk_E V mc ms 57 [(0, .ref a0), (1, .int i1), (2, .int i2), (3, .int i3)] [.int t1, .ref t0] S rc rs := by
  unfold zf_X18_ask_J57 at h
  refine zw_iconst (v := (0 : Int32)) hX dX18_ask_57 (by decide) ?_
  refine zw_sub (lv' := [(0, .ref a0), (1, .int i1), (2, .int i2), (3, .int i3)]) (List.forall_mem_cons.mpr ⟨rfl, (List.forall_mem_cons.mpr ⟨rfl, (List.forall_mem_cons.mpr ⟨rfl, (List.forall_mem_cons.mpr ⟨rfl, zs_nil⟩)⟩)⟩)⟩) ?_
  exact zt_X18_ask_J58 hX hr hR hd h
set_option maxHeartbeats 4000000 in
set_option maxRecDepth 100000 in
theorem zt_X18_ask_J53 {p : Program} {l : Launch} {e : Env} {R : Room} {s : State} {m : MethodId} {args : Array Value} {below : List Frame} {meth : Method} {c : Code} {V : zm_V} {mc ms d rc rs : Nat} (hX : zm_X p R s m args meth c RX18 "ask" cX18_ask 6 zk_E V mc ms) (hr : meth.sig.returnType = (some .int)) (hR : R.frames = d ∧ R.locals = 64 * d) (hd : 4 ≤ d) {N : Nat} {a0 : Nat} {i1 : Int32} {i2 : Int32} {i3 : Int32} {t0 : Nat} {t1 : Int32} {out : (Int32 × zm_S)} {S : zm_S} (h : zf_X18_ask_J53 N a0 i1 i2 i3 t0 t1 S = some out) : zw p l e R s m args below meth c (vx_MQ below (zm_Qc zk_E V (zo_i out)) (zm_XC zk_E V zo_x) args s mc ms (fun q => V.2.2.2.1 ≤ q)) 6 zk_E V mc ms 53 [(0, .ref a0), (1, .int i1), (2, .int i2), (3, .int i3)] [.int t1, .ref t0] S rc rs := by
  unfold zf_X18_ask_J53 at h
  refine zw_iconst (v := (1 : Int32)) hX dX18_ask_53 (by decide) ?_
  refine zw_goto (tgt := 58) hX dX18_ask_54 (by decide) ?_
  refine zw_sub (lv' := [(0, .ref a0), (1, .int i1), (2, .int i2), (3, .int i3)]) (List.forall_mem_cons.mpr ⟨rfl, (List.forall_mem_cons.mpr ⟨rfl, (List.forall_mem_cons.mpr ⟨rfl, (List.forall_mem_cons.mpr ⟨rfl, zs_nil⟩)⟩)⟩)⟩) ?_
  exact zt_X18_ask_J58 hX hr hR hd h
set_option maxHeartbeats 4000000 in
set_option maxRecDepth 100000 in
theorem zt_X18_ask_J25 {p : Program} {l : Launch} {e : Env} {R : Room} {s : State} {m : MethodId} {args : Array Value} {below : List Frame} {meth : Method} {c : Code} {V : zm_V} {mc ms d rc rs : Nat} (hX : zm_X p R s m args meth c RX18 "ask" cX18_ask 6 zk_E V mc ms) (hr : meth.sig.returnType = (some .int)) (hR : R.frames = d ∧ R.locals = 64 * d) (hd : 4 ≤ d) {N : Nat} {a0 : Nat} {i1 : Int32} {i2 : Int32} {i3 : Int32} {t0 : Int32} {out : (Int32 × zm_S)} {S : zm_S} (h : zf_X18_ask_J25 N a0 i1 i2 i3 t0 S = some out) : zw p l e R s m args below meth c (vx_MQ below (zm_Qc zk_E V (zo_i out)) (zm_XC zk_E V zo_x) args s mc ms (fun q => V.2.2.2.1 ≤ q)) 6 zk_E V mc ms 25 [(0, .ref a0), (1, .int i1), (2, .int i2), (3, .int i3)] [.int t0] S rc rs := by
  unfold zf_X18_ask_J25 at h
  refine zw_istore hX dX18_ask_25 (by decide) ?_
  refine zw_aload_n hX dX18_ask_27 rfl ?_
  refine zw_iload hX dX18_ask_28 rfl ?_
  refine zw_aload_n hX dX18_ask_30 rfl ?_
  obtain ⟨v4, g, h⟩ := zb_some h
  refine zw_geti hX zl_X18_192 dX18_ask_31 g ?_
  refine zw_if_eq (tgt := 57) hX dX18_ask_34 (by decide) (fun c34 => ?_) (fun c34 => ?_)
  · rw [if_pos c34] at h
    refine zw_sub (lv' := [(0, .ref a0), (1, .int i1), (2, .int i2), (3, .int i3)]) (List.forall_mem_cons.mpr ⟨rfl, (List.forall_mem_cons.mpr ⟨rfl, (List.forall_mem_cons.mpr ⟨rfl, (List.forall_mem_cons.mpr ⟨rfl, zs_nil⟩)⟩)⟩)⟩) ?_
    exact zt_X18_ask_J57 hX hr hR hd h
  · rw [if_neg c34] at h
    refine zw_iload hX dX18_ask_37 rfl ?_
    refine zw_if_eq (tgt := 53) hX dX18_ask_39 (by decide) (fun c39 => ?_) (fun c39 => ?_)
    · rw [if_pos c39] at h
      refine zw_sub (lv' := [(0, .ref a0), (1, .int i1), (2, .int i2), (3, .int i3)]) (List.forall_mem_cons.mpr ⟨rfl, (List.forall_mem_cons.mpr ⟨rfl, (List.forall_mem_cons.mpr ⟨rfl, (List.forall_mem_cons.mpr ⟨rfl, zs_nil⟩)⟩)⟩)⟩) ?_
      exact zt_X18_ask_J53 hX hr hR hd h
    · rw [if_neg c39] at h
      refine zw_aload_n hX dX18_ask_42 rfl ?_
      obtain ⟨b15, g, h⟩ := zb_some h
      refine zw_getr hX zl_X18_82 dX18_ask_43 g ?_
      refine zw_iload_n hX dX18_ask_46 rfl ?_
      obtain ⟨v16, g, h⟩ := zb_some h
      refine zw_xi hX dX18_ask_47 g ?_
      refine zw_bipush (v := (20 : Int32)) hX dX18_ask_48 (by decide) ?_
      refine zw_icmp_ge (tgt := 57) hX dX18_ask_50 (by decide) (fun c50 => ?_) (fun c50 => ?_)
      · rw [if_pos c50] at h
        refine zw_sub (lv' := [(0, .ref a0), (1, .int i1), (2, .int i2), (3, .int i3)]) (List.forall_mem_cons.mpr ⟨rfl, (List.forall_mem_cons.mpr ⟨rfl, (List.forall_mem_cons.mpr ⟨rfl, (List.forall_mem_cons.mpr ⟨rfl, zs_nil⟩)⟩)⟩)⟩) ?_
        exact zt_X18_ask_J57 hX hr hR hd h
      · rw [if_neg c50] at h
        refine zw_sub (lv' := [(0, .ref a0), (1, .int i1), (2, .int i2), (3, .int i3)]) (List.forall_mem_cons.mpr ⟨rfl, (List.forall_mem_cons.mpr ⟨rfl, (List.forall_mem_cons.mpr ⟨rfl, (List.forall_mem_cons.mpr ⟨rfl, zs_nil⟩)⟩)⟩)⟩) ?_
        exact zt_X18_ask_J53 hX hr hR hd h
set_option maxHeartbeats 4000000 in
set_option maxRecDepth 100000 in
theorem zt_X18_ask_J24 {p : Program} {l : Launch} {e : Env} {R : Room} {s : State} {m : MethodId} {args : Array Value} {below : List Frame} {meth : Method} {c : Code} {V : zm_V} {mc ms d rc rs : Nat} (hX : zm_X p R s m args meth c RX18 "ask" cX18_ask 6 zk_E V mc ms) (hr : meth.sig.returnType = (some .int)) (hR : R.frames = d ∧ R.locals = 64 * d) (hd : 4 ≤ d) {N : Nat} {a0 : Nat} {i1 : Int32} {i2 : Int32} {i3 : Int32} {out : (Int32 × zm_S)} {S : zm_S} (h : zf_X18_ask_J24 N a0 i1 i2 i3 S = some out) : zw p l e R s m args below meth c (vx_MQ below (zm_Qc zk_E V (zo_i out)) (zm_XC zk_E V zo_x) args s mc ms (fun q => V.2.2.2.1 ≤ q)) 6 zk_E V mc ms 24 [(0, .ref a0), (1, .int i1), (2, .int i2), (3, .int i3)] [] S rc rs := by
  unfold zf_X18_ask_J24 at h
  refine zw_iconst (v := (0 : Int32)) hX dX18_ask_24 (by decide) ?_
  refine zw_sub (lv' := [(0, .ref a0), (1, .int i1), (2, .int i2), (3, .int i3)]) (List.forall_mem_cons.mpr ⟨rfl, (List.forall_mem_cons.mpr ⟨rfl, (List.forall_mem_cons.mpr ⟨rfl, (List.forall_mem_cons.mpr ⟨rfl, zs_nil⟩)⟩)⟩)⟩) ?_
  exact zt_X18_ask_J25 hX hr hR hd h
set_option maxHeartbeats 4000000 in
set_option maxRecDepth 100000 in
theorem zt_X18_ask {l : Launch} {V : zm_V} {N : Nat} {S : zm_S} {out : (Int32 × zm_S)} {d : Nat} {a0 : Nat} {i1 : Int32} {i2 : Int32} {i3 : Int32} (hd : 4 ≤ d) (h : zf_X18_ask N a0 i1 i2 i3 S = some out) : zm_Met l zk_E V yX18_ask (.code yX18_ask cX18_ask 6 (some .int)) d [.ref a0, .int i1, .int i2, .int i3] S 0 0 (zo_i out) zo_x := by
  refine zm_of (by decide +kernel) (Nat.le_of_ble_eq_true rfl) ?_
  intro p e R s m args below meth c hRR hX hr hxt
  have hR : R.frames = d ∧ R.locals = 64 * d := by rw [hRR]; exact ⟨rfl, rfl⟩
  have hX : zm_X p R s m args meth c RX18 "ask" cX18_ask 6 zk_E V 0 0 := hX
  unfold zf_X18_ask at h
  refine zw_sub (lv' := [(0, .ref a0), (1, .int i1), (2, .int i2), (3, .int i3)]) (List.forall_mem_cons.mpr ⟨rfl, (List.forall_mem_cons.mpr ⟨rfl, (List.forall_mem_cons.mpr ⟨rfl, (List.forall_mem_cons.mpr ⟨rfl, zs_nil⟩)⟩)⟩)⟩) ?_
  refine zw_iload_n hX dX18_ask_0 rfl ?_
  refine zw_aload_n hX dX18_ask_1 rfl ?_
  obtain ⟨v1, g, h⟩ := zb_some h
  refine zw_geti hX zl_X18_382 dX18_ask_2 g ?_
  obtain ⟨r3, g, h⟩ := zb_some h
  refine zc_Si (as := [.int i1, .int v1]) hX (zt_X18_isIn (d := d - 1) (by omega) g) zl_X18_207 dX18_ask_5 ⟨rfl, rfl, Nat.le_of_ble_eq_true rfl⟩ ⟨by omega, by omega⟩ ?_
  refine zw_if_eq (tgt := 24) hX dX18_ask_8 (by decide) (fun c8 => ?_) (fun c8 => ?_)
  · rw [if_pos c8] at h
    refine zw_sub (lv' := [(0, .ref a0), (1, .int i1), (2, .int i2), (3, .int i3)]) (List.forall_mem_cons.mpr ⟨rfl, (List.forall_mem_cons.mpr ⟨rfl, (List.forall_mem_cons.mpr ⟨rfl, (List.forall_mem_cons.mpr ⟨rfl, zs_nil⟩)⟩)⟩)⟩) ?_
    exact zt_X18_ask_J24 hX hr hR hd h
  · rw [if_neg c8] at h
    refine zw_aload_n hX dX18_ask_11 rfl ?_
    refine zw_iload_n hX dX18_ask_12 rfl ?_
    refine zw_iload_n hX dX18_ask_13 rfl ?_
    obtain ⟨_, gi, h⟩ := zb_some h
    obtain ⟨r18, g, h⟩ := zb_some h
    refine zc_Vi (as := [.int i2, .int i3]) hX gi (zt_X18_isOf (d := d - 1) (by omega) g) zl_X18_425 rfl dX18_ask_14 ⟨rfl, rfl, Nat.le_of_ble_eq_true rfl⟩ ⟨by omega, by omega⟩ ?_
    refine zw_if_eq (tgt := 24) hX dX18_ask_17 (by decide) (fun c17 => ?_) (fun c17 => ?_)
    · rw [if_pos c17] at h
      refine zw_sub (lv' := [(0, .ref a0), (1, .int i1), (2, .int i2), (3, .int i3)]) (List.forall_mem_cons.mpr ⟨rfl, (List.forall_mem_cons.mpr ⟨rfl, (List.forall_mem_cons.mpr ⟨rfl, (List.forall_mem_cons.mpr ⟨rfl, zs_nil⟩)⟩)⟩)⟩) ?_
      exact zt_X18_ask_J24 hX hr hR hd h
    · rw [if_neg c17] at h
      refine zw_iconst (v := (1 : Int32)) hX dX18_ask_20 (by decide) ?_
      refine zw_goto (tgt := 25) hX dX18_ask_21 (by decide) ?_
      refine zw_sub (lv' := [(0, .ref a0), (1, .int i1), (2, .int i2), (3, .int i3)]) (List.forall_mem_cons.mpr ⟨rfl, (List.forall_mem_cons.mpr ⟨rfl, (List.forall_mem_cons.mpr ⟨rfl, (List.forall_mem_cons.mpr ⟨rfl, zs_nil⟩)⟩)⟩)⟩) ?_
      exact zt_X18_ask_J25 hX hr hR hd h
set_option maxHeartbeats 4000000 in
set_option maxRecDepth 100000 in
theorem zt_X18_both_J147 {p : Program} {l : Launch} {e : Env} {R : Room} {s : State} {m : MethodId} {args : Array Value} {below : List Frame} {meth : Method} {c : Code} {V : zm_V} {mc ms d rc rs : Nat} (hX : zm_X p R s m args meth c RX18 "both" cX18_both 7 zk_E V mc ms) (hr : meth.sig.returnType = (some .int)) (hR : R.frames = d ∧ R.locals = 64 * d) (hd : 4 ≤ d) {N : Nat} {a0 : Nat} {i1 : Int32} {i2 : Int32} {i3 : Int32} {i4 : Int32} {t0 : Int32} {out : (Int32 × zm_S)} {S : zm_S} (h : zf_X18_both_J147 N a0 i1 i2 i3 i4 t0 S = some out) : zw p l e R s m args below meth c (vx_MQ below (zm_Qc zk_E V (zo_i out)) (zm_XC zk_E V zo_x) args s mc ms (fun q => V.2.2.2.1 ≤ q)) 7 zk_E V mc ms 147 [(0, .ref a0), (1, .int i1), (2, .int i2), (3, .int i3), (4, .int i4)] [.int t0] S rc rs := by
  unfold zf_X18_both_J147 at h
  refine zw_istore hX dX18_both_147 (by decide) ?_
  refine zw_iload hX dX18_both_149 rfl ?_
  refine zw_if_ne (tgt := 170) hX dX18_both_151 (by decide) (fun c151 => ?_) (fun c151 => ?_)
  · rw [if_neg c151] at h
    refine zw_iload hX dX18_both_170 rfl ?_
    obtain rfl := Option.some.inj h
    exact zw_iret hX hr dX18_both_172 rfl ⟨rfl, rfl⟩
  · rw [if_pos c151] at h
    refine zw_aload_n hX dX18_both_154 rfl ?_
    refine zw_iload_n hX dX18_both_155 rfl ?_
    refine zw_iload_n hX dX18_both_156 rfl ?_
    refine zw_iload hX dX18_both_157 rfl ?_
    obtain ⟨_, gi, h⟩ := zb_some h
    obtain ⟨r12, g, h⟩ := zb_some h
    refine zc_Vv (as := [.int i1, .int i3, .int i4]) hX gi (zt_X18_let (d := d - 1) (by omega) g) zl_X18_431 rfl dX18_both_159 ⟨rfl, rfl, Nat.le_of_ble_eq_true rfl⟩ ⟨by omega, by omega⟩ ?_
    refine zw_aload_n hX dX18_both_162 rfl ?_
    refine zw_iload_n hX dX18_both_163 rfl ?_
    refine zw_iload_n hX dX18_both_164 rfl ?_
    refine zw_iload hX dX18_both_165 rfl ?_
    obtain ⟨_, gi, h⟩ := zb_some h
    obtain ⟨r14, g, h⟩ := zb_some h
    refine zc_Vv (as := [.int i2, .int i3, .int i4]) hX gi (zt_X18_let (d := d - 1) (by omega) g) zl_X18_431 rfl dX18_both_167 ⟨rfl, rfl, Nat.le_of_ble_eq_true rfl⟩ ⟨by omega, by omega⟩ ?_
    refine zw_iload hX dX18_both_170 rfl ?_
    obtain rfl := Option.some.inj h
    exact zw_iret hX hr dX18_both_172 rfl ⟨rfl, rfl⟩
set_option maxHeartbeats 4000000 in
set_option maxRecDepth 100000 in
theorem zt_X18_both_J145 {p : Program} {l : Launch} {e : Env} {R : Room} {s : State} {m : MethodId} {args : Array Value} {below : List Frame} {meth : Method} {c : Code} {V : zm_V} {mc ms d rc rs : Nat} (hX : zm_X p R s m args meth c RX18 "both" cX18_both 7 zk_E V mc ms) (hr : meth.sig.returnType = (some .int)) (hR : R.frames = d ∧ R.locals = 64 * d) (hd : 4 ≤ d) {N : Nat} {a0 : Nat} {i1 : Int32} {i2 : Int32} {i3 : Int32} {i4 : Int32} {i6 : Int32} {out : (Int32 × zm_S)} {S : zm_S} (h : zf_X18_both_J145 N a0 i1 i2 i3 i4 i6 S = some out) : zw p l e R s m args below meth c (vx_MQ below (zm_Qc zk_E V (zo_i out)) (zm_XC zk_E V zo_x) args s mc ms (fun q => V.2.2.2.1 ≤ q)) 7 zk_E V mc ms 145 [(0, .ref a0), (1, .int i1), (2, .int i2), (3, .int i3), (4, .int i4), (6, .int i6)] [] S rc rs := by
  unfold zf_X18_both_J145 at h
  refine zw_iload hX dX18_both_145 rfl ?_
  refine zw_sub (lv' := [(0, .ref a0), (1, .int i1), (2, .int i2), (3, .int i3), (4, .int i4)]) (List.forall_mem_cons.mpr ⟨rfl, (List.forall_mem_cons.mpr ⟨rfl, (List.forall_mem_cons.mpr ⟨rfl, (List.forall_mem_cons.mpr ⟨rfl, (List.forall_mem_cons.mpr ⟨rfl, zs_nil⟩)⟩)⟩)⟩)⟩) ?_
  exact zt_X18_both_J147 hX hr hR hd h
set_option maxHeartbeats 4000000 in
set_option maxRecDepth 100000 in
theorem zt_X18_both_J111 {p : Program} {l : Launch} {e : Env} {R : Room} {s : State} {m : MethodId} {args : Array Value} {below : List Frame} {meth : Method} {c : Code} {V : zm_V} {mc ms d rc rs : Nat} (hX : zm_X p R s m args meth c RX18 "both" cX18_both 7 zk_E V mc ms) (hr : meth.sig.returnType = (some .int)) (hR : R.frames = d ∧ R.locals = 64 * d) (hd : 4 ≤ d) {N : Nat} {a0 : Nat} {i1 : Int32} {i2 : Int32} {i3 : Int32} {i4 : Int32} {t0 : Int32} {out : (Int32 × zm_S)} {S : zm_S} (h : zf_X18_both_J111 N a0 i1 i2 i3 i4 t0 S = some out) : zw p l e R s m args below meth c (vx_MQ below (zm_Qc zk_E V (zo_i out)) (zm_XC zk_E V zo_x) args s mc ms (fun q => V.2.2.2.1 ≤ q)) 7 zk_E V mc ms 111 [(0, .ref a0), (1, .int i1), (2, .int i2), (3, .int i3), (4, .int i4)] [.int t0] S rc rs := by
  unfold zf_X18_both_J111 at h
  refine zw_istore hX dX18_both_111 (by decide) ?_
  refine zw_iload hX dX18_both_113 rfl ?_
  refine zw_if_ne (tgt := 145) hX dX18_both_115 (by decide) (fun c115 => ?_) (fun c115 => ?_)
  · rw [if_neg c115] at h
    refine zw_sub (lv' := [(0, .ref a0), (1, .int i1), (2, .int i2), (3, .int i3), (4, .int i4), (6, .int t0)]) (List.forall_mem_cons.mpr ⟨rfl, (List.forall_mem_cons.mpr ⟨rfl, (List.forall_mem_cons.mpr ⟨rfl, (List.forall_mem_cons.mpr ⟨rfl, (List.forall_mem_cons.mpr ⟨rfl, (List.forall_mem_cons.mpr ⟨rfl, zs_nil⟩)⟩)⟩)⟩)⟩)⟩) ?_
    exact zt_X18_both_J145 hX hr hR hd h
  · rw [if_pos c115] at h
    refine zw_aload_n hX dX18_both_118 rfl ?_
    obtain ⟨b15, g, h⟩ := zb_some h
    refine zw_getr hX zl_X18_124 dX18_both_119 g ?_
    refine zw_iload_n hX dX18_both_122 rfl ?_
    obtain ⟨v16, g, h⟩ := zb_some h
    refine zw_xi hX dX18_both_123 g ?_
    refine zw_aload_n hX dX18_both_124 rfl ?_
    obtain ⟨b17, g, h⟩ := zb_some h
    refine zw_getr hX zl_X18_124 dX18_both_125 g ?_
    refine zw_iload_n hX dX18_both_128 rfl ?_
    obtain ⟨v18, g, h⟩ := zb_some h
    refine zw_xi hX dX18_both_129 g ?_
    refine zw_icmp_ne (tgt := 145) hX dX18_both_130 (by decide) (fun c130 => ?_) (fun c130 => ?_)
    · rw [if_neg c130] at h
      refine zw_sub (lv' := [(0, .ref a0), (1, .int i1), (2, .int i2), (3, .int i3), (4, .int i4), (6, .int t0)]) (List.forall_mem_cons.mpr ⟨rfl, (List.forall_mem_cons.mpr ⟨rfl, (List.forall_mem_cons.mpr ⟨rfl, (List.forall_mem_cons.mpr ⟨rfl, (List.forall_mem_cons.mpr ⟨rfl, (List.forall_mem_cons.mpr ⟨rfl, zs_nil⟩)⟩)⟩)⟩)⟩)⟩) ?_
      exact zt_X18_both_J145 hX hr hR hd h
    · rw [if_pos c130] at h
      refine zw_aload_n hX dX18_both_133 rfl ?_
      obtain ⟨_, gi, h⟩ := zb_some h
      obtain ⟨r20, g, h⟩ := zb_some h
      refine zc_Vi (as := []) hX gi (zt_X18_isReleased (d := d - 1) (by omega) g) zl_X18_414 rfl dX18_both_134 ⟨rfl, rfl, Nat.le_of_ble_eq_true rfl⟩ ⟨by omega, by omega⟩ ?_
      refine zw_if_ne (tgt := 145) hX dX18_both_137 (by decide) (fun c137 => ?_) (fun c137 => ?_)
      · rw [if_neg c137] at h
        refine zw_sub (lv' := [(0, .ref a0), (1, .int i1), (2, .int i2), (3, .int i3), (4, .int i4), (6, .int t0)]) (List.forall_mem_cons.mpr ⟨rfl, (List.forall_mem_cons.mpr ⟨rfl, (List.forall_mem_cons.mpr ⟨rfl, (List.forall_mem_cons.mpr ⟨rfl, (List.forall_mem_cons.mpr ⟨rfl, (List.forall_mem_cons.mpr ⟨rfl, zs_nil⟩)⟩)⟩)⟩)⟩)⟩) ?_
        exact zt_X18_both_J145 hX hr hR hd h
      · rw [if_pos c137] at h
        refine zw_bipush (v := (8 : Int32)) hX dX18_both_140 (by decide) ?_
        refine zw_goto (tgt := 147) hX dX18_both_142 (by decide) ?_
        refine zw_sub (lv' := [(0, .ref a0), (1, .int i1), (2, .int i2), (3, .int i3), (4, .int i4)]) (List.forall_mem_cons.mpr ⟨rfl, (List.forall_mem_cons.mpr ⟨rfl, (List.forall_mem_cons.mpr ⟨rfl, (List.forall_mem_cons.mpr ⟨rfl, (List.forall_mem_cons.mpr ⟨rfl, zs_nil⟩)⟩)⟩)⟩)⟩) ?_
        exact zt_X18_both_J147 hX hr hR hd h
set_option maxHeartbeats 4000000 in
set_option maxRecDepth 100000 in
theorem zt_X18_both_J75 {p : Program} {l : Launch} {e : Env} {R : Room} {s : State} {m : MethodId} {args : Array Value} {below : List Frame} {meth : Method} {c : Code} {V : zm_V} {mc ms d rc rs : Nat} (hX : zm_X p R s m args meth c RX18 "both" cX18_both 7 zk_E V mc ms) (hr : meth.sig.returnType = (some .int)) (hR : R.frames = d ∧ R.locals = 64 * d) (hd : 4 ≤ d) {N : Nat} {a0 : Nat} {i1 : Int32} {i2 : Int32} {i3 : Int32} {i4 : Int32} {t0 : Nat} {t1 : Int32} {t2 : Int32} {out : (Int32 × zm_S)} {S : zm_S} (h : zf_X18_both_J75 N a0 i1 i2 i3 i4 t0 t1 t2 S = some out) : zw p l e R s m args below meth c (vx_MQ below (zm_Qc zk_E V (zo_i out)) (zm_XC zk_E V zo_x) args s mc ms (fun q => V.2.2.2.1 ≤ q)) 7 zk_E V mc ms 75 [(0, .ref a0), (1, .int i1), (2, .int i2), (3, .int i3), (4, .int i4)] [.int t2, .int t1, .ref t0] S rc rs := by
  unfold zf_X18_both_J75 at h
  obtain ⟨_, gi, h⟩ := zb_some h
  obtain ⟨r6, g, h⟩ := zb_some h
  refine zc_Vi (as := [.int t1, .int t2]) hX gi (zt_X18_goes (d := d - 1) (by omega) g) zl_X18_199 rfl dX18_both_75 ⟨rfl, rfl, Nat.le_of_ble_eq_true rfl⟩ ⟨by omega, by omega⟩ ?_
  refine zw_if_ne (tgt := 83) hX dX18_both_78 (by decide) (fun c78 => ?_) (fun c78 => ?_)
  · rw [if_neg c78] at h
    refine zw_aload_n hX dX18_both_83 rfl ?_
    refine zw_iload_n hX dX18_both_84 rfl ?_
    refine zw_iload_n hX dX18_both_85 rfl ?_
    refine zw_iload hX dX18_both_86 rfl ?_
    obtain ⟨_, gi, h⟩ := zb_some h
    obtain ⟨r8, g, h⟩ := zb_some h
    refine zc_Vi (as := [.int i1, .int i3, .int i4]) hX gi (zt_X18_refused (d := d - 1) (by omega) g) zl_X18_428 rfl dX18_both_88 ⟨rfl, rfl, Nat.le_of_ble_eq_true rfl⟩ ⟨by omega, by omega⟩ ?_
    refine zw_istore hX dX18_both_91 (by decide) ?_
    refine zw_iload hX dX18_both_93 rfl ?_
    refine zw_if_le (tgt := 103) hX dX18_both_95 (by decide) (fun c95 => ?_) (fun c95 => ?_)
    · rw [if_pos c95] at h
      refine zw_aload_n hX dX18_both_103 rfl ?_
      refine zw_iload_n hX dX18_both_104 rfl ?_
      refine zw_iload_n hX dX18_both_105 rfl ?_
      refine zw_iload hX dX18_both_106 rfl ?_
      obtain ⟨_, gi, h⟩ := zb_some h
      obtain ⟨r10, g, h⟩ := zb_some h
      refine zc_Vi (as := [.int i2, .int i3, .int i4]) hX gi (zt_X18_refused (d := d - 1) (by omega) g) zl_X18_428 rfl dX18_both_108 ⟨rfl, rfl, Nat.le_of_ble_eq_true rfl⟩ ⟨by omega, by omega⟩ ?_
      refine zw_sub (lv' := [(0, .ref a0), (1, .int i1), (2, .int i2), (3, .int i3), (4, .int i4)]) (List.forall_mem_cons.mpr ⟨rfl, (List.forall_mem_cons.mpr ⟨rfl, (List.forall_mem_cons.mpr ⟨rfl, (List.forall_mem_cons.mpr ⟨rfl, (List.forall_mem_cons.mpr ⟨rfl, zs_nil⟩)⟩)⟩)⟩)⟩) ?_
      exact zt_X18_both_J111 hX hr hR hd h
    · rw [if_neg c95] at h
      refine zw_iload hX dX18_both_98 rfl ?_
      refine zw_goto (tgt := 111) hX dX18_both_100 (by decide) ?_
      refine zw_sub (lv' := [(0, .ref a0), (1, .int i1), (2, .int i2), (3, .int i3), (4, .int i4)]) (List.forall_mem_cons.mpr ⟨rfl, (List.forall_mem_cons.mpr ⟨rfl, (List.forall_mem_cons.mpr ⟨rfl, (List.forall_mem_cons.mpr ⟨rfl, (List.forall_mem_cons.mpr ⟨rfl, zs_nil⟩)⟩)⟩)⟩)⟩) ?_
      exact zt_X18_both_J111 hX hr hR hd h
  · rw [if_pos c78] at h
    refine zw_iconst (v := (0 : Int32)) hX dX18_both_81 (by decide) ?_
    obtain rfl := Option.some.inj h
    exact zw_iret hX hr dX18_both_82 rfl ⟨rfl, rfl⟩
set_option maxHeartbeats 4000000 in
set_option maxRecDepth 100000 in
theorem zt_X18_both_J74 {p : Program} {l : Launch} {e : Env} {R : Room} {s : State} {m : MethodId} {args : Array Value} {below : List Frame} {meth : Method} {c : Code} {V : zm_V} {mc ms d rc rs : Nat} (hX : zm_X p R s m args meth c RX18 "both" cX18_both 7 zk_E V mc ms) (hr : meth.sig.returnType = (some .int)) (hR : R.frames = d ∧ R.locals = 64 * d) (hd : 4 ≤ d) {N : Nat} {a0 : Nat} {i1 : Int32} {i2 : Int32} {i3 : Int32} {i4 : Int32} {t0 : Nat} {t1 : Int32} {out : (Int32 × zm_S)} {S : zm_S} (h : zf_X18_both_J74 N a0 i1 i2 i3 i4 t0 t1 S = some out) : zw p l e R s m args below meth c (vx_MQ below (zm_Qc zk_E V (zo_i out)) (zm_XC zk_E V zo_x) args s mc ms (fun q => V.2.2.2.1 ≤ q)) 7 zk_E V mc ms 74 [(0, .ref a0), (1, .int i1), (2, .int i2), (3, .int i3), (4, .int i4)] [.int t1, .ref t0] S rc rs := by
  unfold zf_X18_both_J74 at h
  refine zw_iconst (v := (0 : Int32)) hX dX18_both_74 (by decide) ?_
  refine zw_sub (lv' := [(0, .ref a0), (1, .int i1), (2, .int i2), (3, .int i3), (4, .int i4)]) (List.forall_mem_cons.mpr ⟨rfl, (List.forall_mem_cons.mpr ⟨rfl, (List.forall_mem_cons.mpr ⟨rfl, (List.forall_mem_cons.mpr ⟨rfl, (List.forall_mem_cons.mpr ⟨rfl, zs_nil⟩)⟩)⟩)⟩)⟩) ?_
  exact zt_X18_both_J75 hX hr hR hd h
set_option maxHeartbeats 4000000 in
set_option maxRecDepth 100000 in
theorem zt_X18_both_J70 {p : Program} {l : Launch} {e : Env} {R : Room} {s : State} {m : MethodId} {args : Array Value} {below : List Frame} {meth : Method} {c : Code} {V : zm_V} {mc ms d rc rs : Nat} (hX : zm_X p R s m args meth c RX18 "both" cX18_both 7 zk_E V mc ms) (hr : meth.sig.returnType = (some .int)) (hR : R.frames = d ∧ R.locals = 64 * d) (hd : 4 ≤ d) {N : Nat} {a0 : Nat} {i1 : Int32} {i2 : Int32} {i3 : Int32} {i4 : Int32} {t0 : Nat} {t1 : Int32} {out : (Int32 × zm_S)} {S : zm_S} (h : zf_X18_both_J70 N a0 i1 i2 i3 i4 t0 t1 S = some out) : zw p l e R s m args below meth c (vx_MQ below (zm_Qc zk_E V (zo_i out)) (zm_XC zk_E V zo_x) args s mc ms (fun q => V.2.2.2.1 ≤ q)) 7 zk_E V mc ms 70 [(0, .ref a0), (1, .int i1), (2, .int i2), (3, .int i3), (4, .int i4)] [.int t1, .ref t0] S rc rs := by
  unfold zf_X18_both_J70 at h
  refine zw_iconst (v := (1 : Int32)) hX dX18_both_70 (by decide) ?_
  refine zw_goto (tgt := 75) hX dX18_both_71 (by decide) ?_
  refine zw_sub (lv' := [(0, .ref a0), (1, .int i1), (2, .int i2), (3, .int i3), (4, .int i4)]) (List.forall_mem_cons.mpr ⟨rfl, (List.forall_mem_cons.mpr ⟨rfl, (List.forall_mem_cons.mpr ⟨rfl, (List.forall_mem_cons.mpr ⟨rfl, (List.forall_mem_cons.mpr ⟨rfl, zs_nil⟩)⟩)⟩)⟩)⟩) ?_
  exact zt_X18_both_J75 hX hr hR hd h
set_option maxHeartbeats 4000000 in
set_option maxRecDepth 100000 in
theorem zt_X18_both_J42 {p : Program} {l : Launch} {e : Env} {R : Room} {s : State} {m : MethodId} {args : Array Value} {below : List Frame} {meth : Method} {c : Code} {V : zm_V} {mc ms d rc rs : Nat} (hX : zm_X p R s m args meth c RX18 "both" cX18_both 7 zk_E V mc ms) (hr : meth.sig.returnType = (some .int)) (hR : R.frames = d ∧ R.locals = 64 * d) (hd : 4 ≤ d) {N : Nat} {a0 : Nat} {i1 : Int32} {i2 : Int32} {i3 : Int32} {i4 : Int32} {t0 : Int32} {out : (Int32 × zm_S)} {S : zm_S} (h : zf_X18_both_J42 N a0 i1 i2 i3 i4 t0 S = some out) : zw p l e R s m args below meth c (vx_MQ below (zm_Qc zk_E V (zo_i out)) (zm_XC zk_E V zo_x) args s mc ms (fun q => V.2.2.2.1 ≤ q)) 7 zk_E V mc ms 42 [(0, .ref a0), (1, .int i1), (2, .int i2), (3, .int i3), (4, .int i4)] [.int t0] S rc rs := by
  unfold zf_X18_both_J42 at h
  refine zw_istore hX dX18_both_42 (by decide) ?_
  refine zw_aload_n hX dX18_both_44 rfl ?_
  refine zw_iload hX dX18_both_45 rfl ?_
  refine zw_aload_n hX dX18_both_47 rfl ?_
  obtain ⟨v4, g, h⟩ := zb_some h
  refine zw_geti hX zl_X18_192 dX18_both_48 g ?_
  refine zw_if_eq (tgt := 74) hX dX18_both_51 (by decide) (fun c51 => ?_) (fun c51 => ?_)
  · rw [if_pos c51] at h
    refine zw_sub (lv' := [(0, .ref a0), (1, .int i1), (2, .int i2), (3, .int i3), (4, .int i4)]) (List.forall_mem_cons.mpr ⟨rfl, (List.forall_mem_cons.mpr ⟨rfl, (List.forall_mem_cons.mpr ⟨rfl, (List.forall_mem_cons.mpr ⟨rfl, (List.forall_mem_cons.mpr ⟨rfl, zs_nil⟩)⟩)⟩)⟩)⟩) ?_
    exact zt_X18_both_J74 hX hr hR hd h
  · rw [if_neg c51] at h
    refine zw_iload hX dX18_both_54 rfl ?_
    refine zw_if_eq (tgt := 70) hX dX18_both_56 (by decide) (fun c56 => ?_) (fun c56 => ?_)
    · rw [if_pos c56] at h
      refine zw_sub (lv' := [(0, .ref a0), (1, .int i1), (2, .int i2), (3, .int i3), (4, .int i4)]) (List.forall_mem_cons.mpr ⟨rfl, (List.forall_mem_cons.mpr ⟨rfl, (List.forall_mem_cons.mpr ⟨rfl, (List.forall_mem_cons.mpr ⟨rfl, (List.forall_mem_cons.mpr ⟨rfl, zs_nil⟩)⟩)⟩)⟩)⟩) ?_
      exact zt_X18_both_J70 hX hr hR hd h
    · rw [if_neg c56] at h
      refine zw_aload_n hX dX18_both_59 rfl ?_
      obtain ⟨b21, g, h⟩ := zb_some h
      refine zw_getr hX zl_X18_82 dX18_both_60 g ?_
      refine zw_iload_n hX dX18_both_63 rfl ?_
      obtain ⟨v22, g, h⟩ := zb_some h
      refine zw_xi hX dX18_both_64 g ?_
      refine zw_bipush (v := (19 : Int32)) hX dX18_both_65 (by decide) ?_
      refine zw_icmp_ge (tgt := 74) hX dX18_both_67 (by decide) (fun c67 => ?_) (fun c67 => ?_)
      · rw [if_pos c67] at h
        refine zw_sub (lv' := [(0, .ref a0), (1, .int i1), (2, .int i2), (3, .int i3), (4, .int i4)]) (List.forall_mem_cons.mpr ⟨rfl, (List.forall_mem_cons.mpr ⟨rfl, (List.forall_mem_cons.mpr ⟨rfl, (List.forall_mem_cons.mpr ⟨rfl, (List.forall_mem_cons.mpr ⟨rfl, zs_nil⟩)⟩)⟩)⟩)⟩) ?_
        exact zt_X18_both_J74 hX hr hR hd h
      · rw [if_neg c67] at h
        refine zw_sub (lv' := [(0, .ref a0), (1, .int i1), (2, .int i2), (3, .int i3), (4, .int i4)]) (List.forall_mem_cons.mpr ⟨rfl, (List.forall_mem_cons.mpr ⟨rfl, (List.forall_mem_cons.mpr ⟨rfl, (List.forall_mem_cons.mpr ⟨rfl, (List.forall_mem_cons.mpr ⟨rfl, zs_nil⟩)⟩)⟩)⟩)⟩) ?_
        exact zt_X18_both_J70 hX hr hR hd h
set_option maxHeartbeats 4000000 in
set_option maxRecDepth 100000 in
theorem zt_X18_both_J41 {p : Program} {l : Launch} {e : Env} {R : Room} {s : State} {m : MethodId} {args : Array Value} {below : List Frame} {meth : Method} {c : Code} {V : zm_V} {mc ms d rc rs : Nat} (hX : zm_X p R s m args meth c RX18 "both" cX18_both 7 zk_E V mc ms) (hr : meth.sig.returnType = (some .int)) (hR : R.frames = d ∧ R.locals = 64 * d) (hd : 4 ≤ d) {N : Nat} {a0 : Nat} {i1 : Int32} {i2 : Int32} {i3 : Int32} {i4 : Int32} {out : (Int32 × zm_S)} {S : zm_S} (h : zf_X18_both_J41 N a0 i1 i2 i3 i4 S = some out) : zw p l e R s m args below meth c (vx_MQ below (zm_Qc zk_E V (zo_i out)) (zm_XC zk_E V zo_x) args s mc ms (fun q => V.2.2.2.1 ≤ q)) 7 zk_E V mc ms 41 [(0, .ref a0), (1, .int i1), (2, .int i2), (3, .int i3), (4, .int i4)] [] S rc rs := by
  unfold zf_X18_both_J41 at h
  refine zw_iconst (v := (0 : Int32)) hX dX18_both_41 (by decide) ?_
  refine zw_sub (lv' := [(0, .ref a0), (1, .int i1), (2, .int i2), (3, .int i3), (4, .int i4)]) (List.forall_mem_cons.mpr ⟨rfl, (List.forall_mem_cons.mpr ⟨rfl, (List.forall_mem_cons.mpr ⟨rfl, (List.forall_mem_cons.mpr ⟨rfl, (List.forall_mem_cons.mpr ⟨rfl, zs_nil⟩)⟩)⟩)⟩)⟩) ?_
  exact zt_X18_both_J42 hX hr hR hd h
set_option maxHeartbeats 4000000 in
set_option maxRecDepth 100000 in
theorem zt_X18_both {l : Launch} {V : zm_V} {N : Nat} {S : zm_S} {out : (Int32 × zm_S)} {d : Nat} {a0 : Nat} {i1 : Int32} {i2 : Int32} {i3 : Int32} {i4 : Int32} (hd : 4 ≤ d) (h : zf_X18_both N a0 i1 i2 i3 i4 S = some out) : zm_Met l zk_E V yX18_both (.code yX18_both cX18_both 7 (some .int)) d [.ref a0, .int i1, .int i2, .int i3, .int i4] S 0 0 (zo_i out) zo_x := by
  refine zm_of (by decide +kernel) (Nat.le_of_ble_eq_true rfl) ?_
  intro p e R s m args below meth c hRR hX hr hxt
  have hR : R.frames = d ∧ R.locals = 64 * d := by rw [hRR]; exact ⟨rfl, rfl⟩
  have hX : zm_X p R s m args meth c RX18 "both" cX18_both 7 zk_E V 0 0 := hX
  unfold zf_X18_both at h
  refine zw_sub (lv' := [(0, .ref a0), (1, .int i1), (2, .int i2), (3, .int i3), (4, .int i4)]) (List.forall_mem_cons.mpr ⟨rfl, (List.forall_mem_cons.mpr ⟨rfl, (List.forall_mem_cons.mpr ⟨rfl, (List.forall_mem_cons.mpr ⟨rfl, (List.forall_mem_cons.mpr ⟨rfl, zs_nil⟩)⟩)⟩)⟩)⟩) ?_
  refine zw_iload_n hX dX18_both_0 rfl ?_
  refine zw_aload_n hX dX18_both_1 rfl ?_
  obtain ⟨v1, g, h⟩ := zb_some h
  refine zw_geti hX zl_X18_382 dX18_both_2 g ?_
  obtain ⟨r3, g, h⟩ := zb_some h
  refine zc_Si (as := [.int i1, .int v1]) hX (zt_X18_isIn (d := d - 1) (by omega) g) zl_X18_207 dX18_both_5 ⟨rfl, rfl, Nat.le_of_ble_eq_true rfl⟩ ⟨by omega, by omega⟩ ?_
  refine zw_if_eq (tgt := 41) hX dX18_both_8 (by decide) (fun c8 => ?_) (fun c8 => ?_)
  · rw [if_pos c8] at h
    refine zw_sub (lv' := [(0, .ref a0), (1, .int i1), (2, .int i2), (3, .int i3), (4, .int i4)]) (List.forall_mem_cons.mpr ⟨rfl, (List.forall_mem_cons.mpr ⟨rfl, (List.forall_mem_cons.mpr ⟨rfl, (List.forall_mem_cons.mpr ⟨rfl, (List.forall_mem_cons.mpr ⟨rfl, zs_nil⟩)⟩)⟩)⟩)⟩) ?_
    exact zt_X18_both_J41 hX hr hR hd h
  · rw [if_neg c8] at h
    refine zw_iload_n hX dX18_both_11 rfl ?_
    refine zw_aload_n hX dX18_both_12 rfl ?_
    obtain ⟨v23, g, h⟩ := zb_some h
    refine zw_geti hX zl_X18_382 dX18_both_13 g ?_
    obtain ⟨r25, g, h⟩ := zb_some h
    refine zc_Si (as := [.int i2, .int v23]) hX (zt_X18_isIn (d := d - 1) (by omega) g) zl_X18_207 dX18_both_16 ⟨rfl, rfl, Nat.le_of_ble_eq_true rfl⟩ ⟨by omega, by omega⟩ ?_
    refine zw_if_eq (tgt := 41) hX dX18_both_19 (by decide) (fun c19 => ?_) (fun c19 => ?_)
    · rw [if_pos c19] at h
      refine zw_sub (lv' := [(0, .ref a0), (1, .int i1), (2, .int i2), (3, .int i3), (4, .int i4)]) (List.forall_mem_cons.mpr ⟨rfl, (List.forall_mem_cons.mpr ⟨rfl, (List.forall_mem_cons.mpr ⟨rfl, (List.forall_mem_cons.mpr ⟨rfl, (List.forall_mem_cons.mpr ⟨rfl, zs_nil⟩)⟩)⟩)⟩)⟩) ?_
      exact zt_X18_both_J41 hX hr hR hd h
    · rw [if_neg c19] at h
      refine zw_iload_n hX dX18_both_22 rfl ?_
      refine zw_iload_n hX dX18_both_23 rfl ?_
      refine zw_icmp_eq (tgt := 41) hX dX18_both_24 (by decide) (fun c24 => ?_) (fun c24 => ?_)
      · rw [if_pos c24] at h
        refine zw_sub (lv' := [(0, .ref a0), (1, .int i1), (2, .int i2), (3, .int i3), (4, .int i4)]) (List.forall_mem_cons.mpr ⟨rfl, (List.forall_mem_cons.mpr ⟨rfl, (List.forall_mem_cons.mpr ⟨rfl, (List.forall_mem_cons.mpr ⟨rfl, (List.forall_mem_cons.mpr ⟨rfl, zs_nil⟩)⟩)⟩)⟩)⟩) ?_
        exact zt_X18_both_J41 hX hr hR hd h
      · rw [if_neg c24] at h
        refine zw_aload_n hX dX18_both_27 rfl ?_
        refine zw_iload_n hX dX18_both_28 rfl ?_
        refine zw_iload hX dX18_both_29 rfl ?_
        obtain ⟨_, gi, h⟩ := zb_some h
        obtain ⟨r27, g, h⟩ := zb_some h
        refine zc_Vi (as := [.int i3, .int i4]) hX gi (zt_X18_isOf (d := d - 1) (by omega) g) zl_X18_425 rfl dX18_both_31 ⟨rfl, rfl, Nat.le_of_ble_eq_true rfl⟩ ⟨by omega, by omega⟩ ?_
        refine zw_if_eq (tgt := 41) hX dX18_both_34 (by decide) (fun c34 => ?_) (fun c34 => ?_)
        · rw [if_pos c34] at h
          refine zw_sub (lv' := [(0, .ref a0), (1, .int i1), (2, .int i2), (3, .int i3), (4, .int i4)]) (List.forall_mem_cons.mpr ⟨rfl, (List.forall_mem_cons.mpr ⟨rfl, (List.forall_mem_cons.mpr ⟨rfl, (List.forall_mem_cons.mpr ⟨rfl, (List.forall_mem_cons.mpr ⟨rfl, zs_nil⟩)⟩)⟩)⟩)⟩) ?_
          exact zt_X18_both_J41 hX hr hR hd h
        · rw [if_neg c34] at h
          refine zw_iconst (v := (1 : Int32)) hX dX18_both_37 (by decide) ?_
          refine zw_goto (tgt := 42) hX dX18_both_38 (by decide) ?_
          refine zw_sub (lv' := [(0, .ref a0), (1, .int i1), (2, .int i2), (3, .int i3), (4, .int i4)]) (List.forall_mem_cons.mpr ⟨rfl, (List.forall_mem_cons.mpr ⟨rfl, (List.forall_mem_cons.mpr ⟨rfl, (List.forall_mem_cons.mpr ⟨rfl, (List.forall_mem_cons.mpr ⟨rfl, zs_nil⟩)⟩)⟩)⟩)⟩) ?_
          exact zt_X18_both_J42 hX hr hR hd h
set_option maxHeartbeats 4000000 in
set_option maxRecDepth 100000 in
theorem zt_X18_off_J224 {p : Program} {l : Launch} {e : Env} {R : Room} {s : State} {m : MethodId} {args : Array Value} {below : List Frame} {meth : Method} {c : Code} {V : zm_V} {mc ms d rc rs : Nat} (hX : zm_X p R s m args meth c RX18 "off" cX18_off 7 zk_E V mc ms) (hr : meth.sig.returnType = (some .int)) (hR : R.frames = d ∧ R.locals = 64 * d) (hd : 3 ≤ d) {N : Nat} {k : Nat → Int32 → Int32 → zm_S → Option ((Int32 × zm_S) ⊕ ((Unit) × zm_S))} {a0 : Nat} {i1 : Int32} {i3 : Int32} {t0 : Nat} {t1 : Int32} {t2 : Int32} {res : (Int32 × zm_S) ⊕ ((Unit) × zm_S)} {out : (Int32 × zm_S)}   (hf : ∀ o, res = .inl o → o = out) (hk : ∀ (S' : zm_S), res = .inr ((), S') → zw p l e R s m args below meth c (vx_MQ below (zm_Qc zk_E V (zo_i out)) (zm_XC zk_E V zo_x) args s mc ms (fun q => V.2.2.2.1 ≤ q)) 7 zk_E V mc ms 234 [(0, .ref a0), (1, .int i1)] [] S' rc rs) (hrec : ∀ (i3' : Int32) (S : zm_S), k a0 i1 i3' S = some res → zw p l e R s m args below meth c (vx_MQ below (zm_Qc zk_E V (zo_i out)) (zm_XC zk_E V zo_x) args s mc ms (fun q => V.2.2.2.1 ≤ q)) 7 zk_E V mc ms 60 [(0, .ref a0), (1, .int i1), (3, .int i3')] [] S rc rs) {S : zm_S} (h : zf_X18_off_J224 N k a0 i1 i3 t0 t1 t2 S = some res) : zw p l e R s m args below meth c (vx_MQ below (zm_Qc zk_E V (zo_i out)) (zm_XC zk_E V zo_x) args s mc ms (fun q => V.2.2.2.1 ≤ q)) 7 zk_E V mc ms 224 [(0, .ref a0), (1, .int i1), (3, .int i3)] [.int t2, .int t1, .ref t0] S rc rs := by
  unfold zf_X18_off_J224 at h
  refine zw_iadd hX dX18_off_224 ?_
  obtain ⟨S22, g, h⟩ := zb_some h
  refine zw_putv hX zl_X18_434 zt_18_49 dX18_off_225 rfl rfl g ?_
  refine zw_iinc (v := (i3 + (1 : Int32))) hX dX18_off_228 rfl rfl (by decide) ?_
  refine zw_goto (tgt := 60) hX dX18_off_231 (by decide) ?_
  refine zw_sub (lv' := [(0, .ref a0), (1, .int i1), (3, .int (i3 + (1 : Int32)))]) (List.forall_mem_cons.mpr ⟨rfl, (List.forall_mem_cons.mpr ⟨rfl, (List.forall_mem_cons.mpr ⟨rfl, zs_nil⟩)⟩)⟩) ?_
  exact hrec _ _ h
set_option maxHeartbeats 4000000 in
set_option maxRecDepth 100000 in
theorem zt_X18_off_J209 {p : Program} {l : Launch} {e : Env} {R : Room} {s : State} {m : MethodId} {args : Array Value} {below : List Frame} {meth : Method} {c : Code} {V : zm_V} {mc ms d rc rs : Nat} (hX : zm_X p R s m args meth c RX18 "off" cX18_off 7 zk_E V mc ms) (hr : meth.sig.returnType = (some .int)) (hR : R.frames = d ∧ R.locals = 64 * d) (hd : 3 ≤ d) {N : Nat} {k : Nat → Int32 → Int32 → zm_S → Option ((Int32 × zm_S) ⊕ ((Unit) × zm_S))} {a0 : Nat} {i1 : Int32} {i3 : Int32} {i6 : Int32} {res : (Int32 × zm_S) ⊕ ((Unit) × zm_S)} {out : (Int32 × zm_S)}   (hf : ∀ o, res = .inl o → o = out) (hk : ∀ (S' : zm_S), res = .inr ((), S') → zw p l e R s m args below meth c (vx_MQ below (zm_Qc zk_E V (zo_i out)) (zm_XC zk_E V zo_x) args s mc ms (fun q => V.2.2.2.1 ≤ q)) 7 zk_E V mc ms 234 [(0, .ref a0), (1, .int i1)] [] S' rc rs) (hrec : ∀ (i3' : Int32) (S : zm_S), k a0 i1 i3' S = some res → zw p l e R s m args below meth c (vx_MQ below (zm_Qc zk_E V (zo_i out)) (zm_XC zk_E V zo_x) args s mc ms (fun q => V.2.2.2.1 ≤ q)) 7 zk_E V mc ms 60 [(0, .ref a0), (1, .int i1), (3, .int i3')] [] S rc rs) {S : zm_S} (h : zf_X18_off_J209 N k a0 i1 i3 i6 S = some res) : zw p l e R s m args below meth c (vx_MQ below (zm_Qc zk_E V (zo_i out)) (zm_XC zk_E V zo_x) args s mc ms (fun q => V.2.2.2.1 ≤ q)) 7 zk_E V mc ms 209 [(0, .ref a0), (1, .int i1), (3, .int i3), (6, .int i6)] [] S rc rs := by
  unfold zf_X18_off_J209 at h
  refine zw_aload_n hX dX18_off_209 rfl ?_
  refine zw_dup hX dX18_off_210 rfl ?_
  obtain ⟨v21, g, h⟩ := zb_some h
  refine zw_geti hX zl_X18_434 dX18_off_211 g ?_
  refine zw_iload hX dX18_off_214 rfl ?_
  refine zw_if_le (tgt := 223) hX dX18_off_216 (by decide) (fun c216 => ?_) (fun c216 => ?_)
  · rw [if_pos c216] at h
    refine zw_iconst (v := (0 : Int32)) hX dX18_off_223 (by decide) ?_
    refine zw_sub (lv' := [(0, .ref a0), (1, .int i1), (3, .int i3)]) (List.forall_mem_cons.mpr ⟨rfl, (List.forall_mem_cons.mpr ⟨rfl, (List.forall_mem_cons.mpr ⟨rfl, zs_nil⟩)⟩)⟩) ?_
    exact zt_X18_off_J224 hX hr hR hd hf hk hrec h
  · rw [if_neg c216] at h
    refine zw_iconst (v := (1 : Int32)) hX dX18_off_219 (by decide) ?_
    refine zw_goto (tgt := 224) hX dX18_off_220 (by decide) ?_
    refine zw_sub (lv' := [(0, .ref a0), (1, .int i1), (3, .int i3)]) (List.forall_mem_cons.mpr ⟨rfl, (List.forall_mem_cons.mpr ⟨rfl, (List.forall_mem_cons.mpr ⟨rfl, zs_nil⟩)⟩)⟩) ?_
    exact zt_X18_off_J224 hX hr hR hd hf hk hrec h
set_option maxHeartbeats 4000000 in
set_option maxRecDepth 100000 in
theorem zt_X18_off_J121 {p : Program} {l : Launch} {e : Env} {R : Room} {s : State} {m : MethodId} {args : Array Value} {below : List Frame} {meth : Method} {c : Code} {V : zm_V} {mc ms d rc rs : Nat} (hX : zm_X p R s m args meth c RX18 "off" cX18_off 7 zk_E V mc ms) (hr : meth.sig.returnType = (some .int)) (hR : R.frames = d ∧ R.locals = 64 * d) (hd : 3 ≤ d) {N : Nat} {k : Nat → Int32 → Int32 → zm_S → Option ((Int32 × zm_S) ⊕ ((Unit) × zm_S))} {a0 : Nat} {i1 : Int32} {i3 : Int32} {i4 : Int32} {i5 : Int32} {res : (Int32 × zm_S) ⊕ ((Unit) × zm_S)} {out : (Int32 × zm_S)}   (hf : ∀ o, res = .inl o → o = out) (hk : ∀ (S' : zm_S), res = .inr ((), S') → zw p l e R s m args below meth c (vx_MQ below (zm_Qc zk_E V (zo_i out)) (zm_XC zk_E V zo_x) args s mc ms (fun q => V.2.2.2.1 ≤ q)) 7 zk_E V mc ms 234 [(0, .ref a0), (1, .int i1)] [] S' rc rs) (hrec : ∀ (i3' : Int32) (S : zm_S), k a0 i1 i3' S = some res → zw p l e R s m args below meth c (vx_MQ below (zm_Qc zk_E V (zo_i out)) (zm_XC zk_E V zo_x) args s mc ms (fun q => V.2.2.2.1 ≤ q)) 7 zk_E V mc ms 60 [(0, .ref a0), (1, .int i1), (3, .int i3')] [] S rc rs) {S : zm_S} (h : zf_X18_off_J121 N k a0 i1 i3 i4 i5 S = some res) : zw p l e R s m args below meth c (vx_MQ below (zm_Qc zk_E V (zo_i out)) (zm_XC zk_E V zo_x) args s mc ms (fun q => V.2.2.2.1 ≤ q)) 7 zk_E V mc ms 121 [(0, .ref a0), (1, .int i1), (3, .int i3), (4, .int i4), (5, .int i5)] [] S rc rs := by
  unfold zf_X18_off_J121 at h
  refine zw_aload_n hX dX18_off_121 rfl ?_
  refine zw_iload hX dX18_off_122 rfl ?_
  refine zw_aload_n hX dX18_off_124 rfl ?_
  obtain ⟨b15, g, h⟩ := zb_some h
  refine zw_getr hX zl_X18_88 dX18_off_125 g ?_
  refine zw_iload hX dX18_off_128 rfl ?_
  obtain ⟨v16, g, h⟩ := zb_some h
  refine zw_xi hX dX18_off_130 g ?_
  refine zw_aload_n hX dX18_off_131 rfl ?_
  obtain ⟨b17, g, h⟩ := zb_some h
  refine zw_getr hX zl_X18_91 dX18_off_132 g ?_
  refine zw_iload hX dX18_off_135 rfl ?_
  obtain ⟨v18, g, h⟩ := zb_some h
  refine zw_xi hX dX18_off_137 g ?_
  refine zw_ldcw (v := (2147483647 : Int32)) hX dX18_off_138 zl_X18_354 ?_
  refine zw_iconst (v := (-1 : Int32)) hX dX18_off_141 (by decide) ?_
  obtain ⟨_, gi, h⟩ := zb_some h
  obtain ⟨r20, g, h⟩ := zb_some h
  refine zc_Vi (as := [.int i5, .int v16, .int v18, .int (2147483647 : Int32), .int (-1 : Int32)]) hX gi (zt_X18_why (d := d - 1) (by omega) g) zl_X18_418 rfl dX18_off_142 ⟨rfl, rfl, Nat.le_of_ble_eq_true rfl⟩ ⟨by omega, by omega⟩ ?_
  refine zw_istore hX dX18_off_145 (by decide) ?_
  refine zw_iload hX dX18_off_147 rfl ?_
  refine zw_if_le (tgt := 209) hX dX18_off_149 (by decide) (fun c149 => ?_) (fun c149 => ?_)
  · rw [if_pos c149] at h
    refine zw_sub (lv' := [(0, .ref a0), (1, .int i1), (3, .int i3), (6, .int r20.1)]) (List.forall_mem_cons.mpr ⟨rfl, (List.forall_mem_cons.mpr ⟨rfl, (List.forall_mem_cons.mpr ⟨rfl, (List.forall_mem_cons.mpr ⟨rfl, zs_nil⟩)⟩)⟩)⟩) ?_
    exact zt_X18_off_J209 hX hr hR hd hf hk hrec h
  · rw [if_neg c149] at h
    refine zw_aload_n hX dX18_off_152 rfl ?_
    obtain ⟨v23, g, h⟩ := zb_some h
    refine zw_geti hX zl_X18_434 dX18_off_153 g ?_
    refine zw_bipush (v := (100 : Int32)) hX dX18_off_156 (by decide) ?_
    refine zw_icmp_ge (tgt := 209) hX dX18_off_158 (by decide) (fun c158 => ?_) (fun c158 => ?_)
    · rw [if_pos c158] at h
      refine zw_sub (lv' := [(0, .ref a0), (1, .int i1), (3, .int i3), (6, .int r20.1)]) (List.forall_mem_cons.mpr ⟨rfl, (List.forall_mem_cons.mpr ⟨rfl, (List.forall_mem_cons.mpr ⟨rfl, (List.forall_mem_cons.mpr ⟨rfl, zs_nil⟩)⟩)⟩)⟩) ?_
      exact zt_X18_off_J209 hX hr hR hd hf hk hrec h
    · rw [if_neg c158] at h
      refine zw_aload_n hX dX18_off_161 rfl ?_
      obtain ⟨b24, g, h⟩ := zb_some h
      refine zw_getr hX zl_X18_154 dX18_off_162 g ?_
      refine zw_aload_n hX dX18_off_165 rfl ?_
      obtain ⟨v25, g, h⟩ := zb_some h
      refine zw_geti hX zl_X18_434 dX18_off_166 g ?_
      refine zw_iload_n hX dX18_off_169 rfl ?_
      obtain ⟨S26, g, h⟩ := zb_some h
      refine zw_si hX dX18_off_170 g ?_
      refine zw_aload_n hX dX18_off_171 rfl ?_
      obtain ⟨b27, g, h⟩ := zb_some h
      refine zw_getr hX zl_X18_157 dX18_off_172 g ?_
      refine zw_aload_n hX dX18_off_175 rfl ?_
      obtain ⟨v28, g, h⟩ := zb_some h
      refine zw_geti hX zl_X18_434 dX18_off_176 g ?_
      refine zw_iload hX dX18_off_179 rfl ?_
      obtain ⟨S29, g, h⟩ := zb_some h
      refine zw_si hX dX18_off_181 g ?_
      refine zw_aload_n hX dX18_off_182 rfl ?_
      obtain ⟨b30, g, h⟩ := zb_some h
      refine zw_getr hX zl_X18_160 dX18_off_183 g ?_
      refine zw_aload_n hX dX18_off_186 rfl ?_
      obtain ⟨v31, g, h⟩ := zb_some h
      refine zw_geti hX zl_X18_434 dX18_off_187 g ?_
      refine zw_aload_n hX dX18_off_190 rfl ?_
      obtain ⟨b32, g, h⟩ := zb_some h
      refine zw_getr hX zl_X18_91 dX18_off_191 g ?_
      refine zw_iload hX dX18_off_194 rfl ?_
      obtain ⟨v33, g, h⟩ := zb_some h
      refine zw_xi hX dX18_off_196 g ?_
      obtain ⟨S34, g, h⟩ := zb_some h
      refine zw_si hX dX18_off_197 g ?_
      refine zw_aload_n hX dX18_off_198 rfl ?_
      obtain ⟨b35, g, h⟩ := zb_some h
      refine zw_getr hX zl_X18_163 dX18_off_199 g ?_
      refine zw_aload_n hX dX18_off_202 rfl ?_
      obtain ⟨v36, g, h⟩ := zb_some h
      refine zw_geti hX zl_X18_434 dX18_off_203 g ?_
      refine zw_iload hX dX18_off_206 rfl ?_
      obtain ⟨S37, g, h⟩ := zb_some h
      refine zw_si hX dX18_off_208 g ?_
      refine zw_sub (lv' := [(0, .ref a0), (1, .int i1), (3, .int i3), (6, .int r20.1)]) (List.forall_mem_cons.mpr ⟨rfl, (List.forall_mem_cons.mpr ⟨rfl, (List.forall_mem_cons.mpr ⟨rfl, (List.forall_mem_cons.mpr ⟨rfl, zs_nil⟩)⟩)⟩)⟩) ?_
      exact zt_X18_off_J209 hX hr hR hd hf hk hrec h
set_option maxHeartbeats 4000000 in
set_option maxRecDepth 100000 in
theorem zt_X18_off_L60 {p : Program} {l : Launch} {e : Env} {R : Room} {s : State} {m : MethodId} {args : Array Value} {below : List Frame} {meth : Method} {c : Code} {V : zm_V} {mc ms d rc rs : Nat} (hX : zm_X p R s m args meth c RX18 "off" cX18_off 7 zk_E V mc ms) (hr : meth.sig.returnType = (some .int)) (hR : R.frames = d ∧ R.locals = 64 * d) (hd : 3 ≤ d) {N : Nat} {res : (Int32 × zm_S) ⊕ ((Unit) × zm_S)} {out : (Int32 × zm_S)} (a0 : Nat) (i1 : Int32) (hf : ∀ o, res = .inl o → o = out) (hk : ∀ (S' : zm_S), res = .inr ((), S') → zw p l e R s m args below meth c (vx_MQ below (zm_Qc zk_E V (zo_i out)) (zm_XC zk_E V zo_x) args s mc ms (fun q => V.2.2.2.1 ≤ q)) 7 zk_E V mc ms 234 [(0, .ref a0), (1, .int i1)] [] S' rc rs) : ∀ (n : Nat) (i3 : Int32) (S : zm_S), zf_X18_off_L60 N n a0 i1 i3 S = some res → zw p l e R s m args below meth c (vx_MQ below (zm_Qc zk_E V (zo_i out)) (zm_XC zk_E V zo_x) args s mc ms (fun q => V.2.2.2.1 ≤ q)) 7 zk_E V mc ms 60 [(0, .ref a0), (1, .int i1), (3, .int i3)] [] S rc rs := by
  intro n
  induction n with
  | zero => intro i3 S h; cases h
  | succ n ih =>
    intro i3 S h
    rw [zf_X18_off_L60] at h
    refine zw_iload_n hX dX18_off_60 rfl ?_
    refine zw_aload_n hX dX18_off_61 rfl ?_
    obtain ⟨b7, g, h⟩ := zb_some h
    refine zw_getr hX zl_X18_82 dX18_off_62 g ?_
    refine zw_iload_n hX dX18_off_65 rfl ?_
    obtain ⟨v8, g, h⟩ := zb_some h
    refine zw_xi hX dX18_off_66 g ?_
    refine zw_icmp_ge (tgt := 234) hX dX18_off_67 (by decide) (fun c67 => ?_) (fun c67 => ?_)
    · rw [if_pos c67] at h
      refine zw_sub (lv' := [(0, .ref a0), (1, .int i1)]) (List.forall_mem_cons.mpr ⟨rfl, (List.forall_mem_cons.mpr ⟨rfl, zs_nil⟩)⟩) ?_
      exact hk  _ (Option.some.inj h).symm
    · rw [if_neg c67] at h
      refine zw_bipush (v := (20 : Int32)) hX dX18_off_70 (by decide) ?_
      refine zw_iload_n hX dX18_off_72 rfl ?_
      refine zw_imul hX dX18_off_73 ?_
      refine zw_iload_n hX dX18_off_74 rfl ?_
      refine zw_iadd hX dX18_off_75 ?_
      refine zw_istore hX dX18_off_76 (by decide) ?_
      refine zw_aload_n hX dX18_off_78 rfl ?_
      obtain ⟨b9, g, h⟩ := zb_some h
      refine zw_getr hX zl_X18_85 dX18_off_79 g ?_
      refine zw_iload hX dX18_off_82 rfl ?_
      obtain ⟨v10, g, h⟩ := zb_some h
      refine zw_xi hX dX18_off_84 g ?_
      refine zw_istore hX dX18_off_85 (by decide) ?_
      refine zw_aload_n hX dX18_off_87 rfl ?_
      obtain ⟨b11, g, h⟩ := zb_some h
      refine zw_getr hX zl_X18_115 dX18_off_88 g ?_
      refine zw_aload_n hX dX18_off_91 rfl ?_
      obtain ⟨b12, g, h⟩ := zb_some h
      refine zw_getr hX zl_X18_124 dX18_off_92 g ?_
      refine zw_iload hX dX18_off_95 rfl ?_
      obtain ⟨v13, g, h⟩ := zb_some h
      refine zw_xi hX dX18_off_97 g ?_
      obtain ⟨v14, g, h⟩ := zb_some h
      refine zw_xi hX dX18_off_98 g ?_
      refine zw_if_ge (tgt := 121) hX dX18_off_99 (by decide) (fun c99 => ?_) (fun c99 => ?_)
      · rw [if_pos c99] at h
        refine zw_sub (lv' := [(0, .ref a0), (1, .int i1), (3, .int i3), (4, .int (((20 : Int32) * i1) + i3)), (5, .int v10)]) (List.forall_mem_cons.mpr ⟨rfl, (List.forall_mem_cons.mpr ⟨rfl, (List.forall_mem_cons.mpr ⟨rfl, (List.forall_mem_cons.mpr ⟨rfl, (List.forall_mem_cons.mpr ⟨rfl, zs_nil⟩)⟩)⟩)⟩)⟩) ?_
        exact zt_X18_off_J121 hX hr hR hd hf hk ih h
      · rw [if_neg c99] at h
        refine zw_aload_n hX dX18_off_102 rfl ?_
        refine zw_aload_n hX dX18_off_103 rfl ?_
        obtain ⟨b38, g, h⟩ := zb_some h
        refine zw_getr hX zl_X18_124 dX18_off_104 g ?_
        refine zw_iload hX dX18_off_107 rfl ?_
        obtain ⟨v39, g, h⟩ := zb_some h
        refine zw_xi hX dX18_off_109 g ?_
        refine zw_iload_n hX dX18_off_110 rfl ?_
        refine zw_aload_n hX dX18_off_111 rfl ?_
        obtain ⟨b40, g, h⟩ := zb_some h
        refine zw_getr hX zl_X18_88 dX18_off_112 g ?_
        refine zw_iload hX dX18_off_115 rfl ?_
        obtain ⟨v41, g, h⟩ := zb_some h
        refine zw_xi hX dX18_off_117 g ?_
        obtain ⟨_, gi, h⟩ := zb_some h
        obtain ⟨r43, g, h⟩ := zb_some h
        refine zc_Vv (as := [.int v39, .int i1, .int v41]) hX gi (zt_X18_enter (d := d - 1) (by omega) g) zl_X18_422 rfl dX18_off_118 ⟨rfl, rfl, Nat.le_of_ble_eq_true rfl⟩ ⟨by omega, by omega⟩ ?_
        refine zw_sub (lv' := [(0, .ref a0), (1, .int i1), (3, .int i3), (4, .int (((20 : Int32) * i1) + i3)), (5, .int v10)]) (List.forall_mem_cons.mpr ⟨rfl, (List.forall_mem_cons.mpr ⟨rfl, (List.forall_mem_cons.mpr ⟨rfl, (List.forall_mem_cons.mpr ⟨rfl, (List.forall_mem_cons.mpr ⟨rfl, zs_nil⟩)⟩)⟩)⟩)⟩) ?_
        exact zt_X18_off_J121 hX hr hR hd hf hk ih h
set_option maxHeartbeats 4000000 in
set_option maxRecDepth 100000 in
theorem zt_X18_off {l : Launch} {V : zm_V} {N : Nat} {S : zm_S} {out : (Int32 × zm_S)} {d : Nat} {a0 : Nat} {i1 : Int32} {i2 : Int32} (hd : 3 ≤ d) (h : zf_X18_off N a0 i1 i2 S = some out) : zm_Met l zk_E V yX18_off (.code yX18_off cX18_off 7 (some .int)) d [.ref a0, .int i1, .int i2] S 0 0 (zo_i out) zo_x := by
  refine zm_of (by decide +kernel) (Nat.le_of_ble_eq_true rfl) ?_
  intro p e R s m args below meth c hRR hX hr hxt
  have hR : R.frames = d ∧ R.locals = 64 * d := by rw [hRR]; exact ⟨rfl, rfl⟩
  have hX : zm_X p R s m args meth c RX18 "off" cX18_off 7 zk_E V 0 0 := hX
  unfold zf_X18_off at h
  refine zw_sub (lv' := [(0, .ref a0), (1, .int i1), (2, .int i2)]) (List.forall_mem_cons.mpr ⟨rfl, (List.forall_mem_cons.mpr ⟨rfl, (List.forall_mem_cons.mpr ⟨rfl, zs_nil⟩)⟩)⟩) ?_
  refine zw_aload_n hX dX18_off_0 rfl ?_
  refine zw_iload_n hX dX18_off_1 rfl ?_
  refine zw_aload_n hX dX18_off_2 rfl ?_
  obtain ⟨v1, g, h⟩ := zb_some h
  refine zw_geti hX zl_X18_351 dX18_off_3 g ?_
  obtain ⟨r3, g, h⟩ := zb_some h
  refine zc_Si (as := [.int i1, .int v1]) hX (zt_X18_isIn (d := d - 1) (by omega) g) zl_X18_207 dX18_off_6 ⟨rfl, rfl, Nat.le_of_ble_eq_true rfl⟩ ⟨by omega, by omega⟩ ?_
  refine zw_aload_n hX dX18_off_9 rfl ?_
  obtain ⟨v4, g, h⟩ := zb_some h
  refine zw_geti hX zl_X18_192 dX18_off_10 g ?_
  obtain ⟨_, gi, h⟩ := zb_some h
  obtain ⟨r6, g, h⟩ := zb_some h
  refine zc_Vi (as := [.int r3.1, .int v4]) hX gi (zt_X18_goes (d := d - 1) (by omega) g) zl_X18_199 rfl dX18_off_13 ⟨rfl, rfl, Nat.le_of_ble_eq_true rfl⟩ ⟨by omega, by omega⟩ ?_
  refine zw_if_ne (tgt := 21) hX dX18_off_16 (by decide) (fun c16 => ?_) (fun c16 => ?_)
  · rw [if_neg c16] at h
    refine zw_iload_n hX dX18_off_21 rfl ?_
    refine zw_if_eq (tgt := 58) hX dX18_off_22 (by decide) (fun c22 => ?_) (fun c22 => ?_)
    · rw [if_pos c22] at h
      refine zw_iconst (v := (0 : Int32)) hX dX18_off_58 (by decide) ?_
      refine zw_istore_n hX dX18_off_59 (by decide) ?_
      obtain ⟨r, g, h⟩ := zb_some h
      refine zw_sub (lv' := [(0, .ref a0), (1, .int i1), (3, .int (0 : Int32))]) (List.forall_mem_cons.mpr ⟨rfl, (List.forall_mem_cons.mpr ⟨rfl, (List.forall_mem_cons.mpr ⟨rfl, zs_nil⟩)⟩)⟩) ?_
      refine zt_X18_off_L60 hX hr hR hd (res := r) (out := out) a0 i1 ?_ ?_ N _ _ g
      · intro o ho
        subst ho
        exact Option.some.inj h
      · intro  S44 hx
        subst hx
        try dsimp only at h
        refine zw_aload_n hX dX18_off_234 rfl ?_
        obtain ⟨b45, g, h⟩ := zb_some h
        refine zw_getr hX zl_X18_82 dX18_off_235 g ?_
        refine zw_iload_n hX dX18_off_238 rfl ?_
        obtain ⟨v46, g, h⟩ := zb_some h
        refine zw_xi hX dX18_off_239 g ?_
        refine zw_istore_n hX dX18_off_240 (by decide) ?_
        refine zw_aload_n hX dX18_off_241 rfl ?_
        obtain ⟨b47, g, h⟩ := zb_some h
        refine zw_getr hX zl_X18_82 dX18_off_242 g ?_
        refine zw_iload_n hX dX18_off_245 rfl ?_
        refine zw_iconst (v := (0 : Int32)) hX dX18_off_246 (by decide) ?_
        obtain ⟨S48, g, h⟩ := zb_some h
        refine zw_si hX dX18_off_247 g ?_
        refine zw_aload_n hX dX18_off_248 rfl ?_
        obtain ⟨b49, g, h⟩ := zb_some h
        refine zw_getr hX zl_X18_79 dX18_off_249 g ?_
        refine zw_iload_n hX dX18_off_252 rfl ?_
        refine zw_ldcw (v := (2147483647 : Int32)) hX dX18_off_253 zl_X18_354 ?_
        obtain ⟨S50, g, h⟩ := zb_some h
        refine zw_si hX dX18_off_256 g ?_
        refine zw_iload_n hX dX18_off_257 rfl ?_
        obtain rfl := Option.some.inj h
        exact zw_iret hX hr dX18_off_258 rfl ⟨rfl, rfl⟩
    · rw [if_neg c22] at h
      refine zw_aload_n hX dX18_off_25 rfl ?_
      obtain ⟨b51, g, h⟩ := zb_some h
      refine zw_getr hX zl_X18_79 dX18_off_26 g ?_
      refine zw_iload_n hX dX18_off_29 rfl ?_
      refine zw_aload_n hX dX18_off_30 rfl ?_
      obtain ⟨b52, g, h⟩ := zb_some h
      refine zw_getr hX zl_X18_79 dX18_off_31 g ?_
      refine zw_iload_n hX dX18_off_34 rfl ?_
      obtain ⟨v53, g, h⟩ := zb_some h
      refine zw_xi hX dX18_off_35 g ?_
      refine zw_ldcw (v := (2147483647 : Int32)) hX dX18_off_36 zl_X18_354 ?_
      refine zw_icmp_ne (tgt := 49) hX dX18_off_39 (by decide) (fun c39 => ?_) (fun c39 => ?_)
      · rw [if_neg c39] at h
        refine zw_aload_n hX dX18_off_49 rfl ?_
        obtain ⟨b54, g, h⟩ := zb_some h
        refine zw_getr hX zl_X18_79 dX18_off_50 g ?_
        refine zw_iload_n hX dX18_off_53 rfl ?_
        obtain ⟨v55, g, h⟩ := zb_some h
        refine zw_xi hX dX18_off_54 g ?_
        obtain ⟨S56, g, h⟩ := zb_some h
        refine zw_si hX dX18_off_55 g ?_
        refine zw_iconst (v := (0 : Int32)) hX dX18_off_56 (by decide) ?_
        obtain rfl := Option.some.inj h
        exact zw_iret hX hr dX18_off_57 rfl ⟨rfl, rfl⟩
      · rw [if_pos c39] at h
        refine zw_aload_n hX dX18_off_42 rfl ?_
        obtain ⟨v57, g, h⟩ := zb_some h
        refine zw_geti hX zl_X18_372 dX18_off_43 g ?_
        refine zw_goto (tgt := 55) hX dX18_off_46 (by decide) ?_
        obtain ⟨S58, g, h⟩ := zb_some h
        refine zw_si hX dX18_off_55 g ?_
        refine zw_iconst (v := (0 : Int32)) hX dX18_off_56 (by decide) ?_
        obtain rfl := Option.some.inj h
        exact zw_iret hX hr dX18_off_57 rfl ⟨rfl, rfl⟩
  · rw [if_pos c16] at h
    refine zw_iconst (v := (0 : Int32)) hX dX18_off_19 (by decide) ?_
    obtain rfl := Option.some.inj h
    exact zw_iret hX hr dX18_off_20 rfl ⟨rfl, rfl⟩
set_option maxHeartbeats 4000000 in
set_option maxRecDepth 100000 in
theorem zt_X18_where_J26 {p : Program} {l : Launch} {e : Env} {R : Room} {s : State} {m : MethodId} {args : Array Value} {below : List Frame} {meth : Method} {c : Code} {V : zm_V} {mc ms d rc rs : Nat} (hX : zm_X p R s m args meth c RX18 "where" cX18_where 3 zk_E V mc ms) (hr : meth.sig.returnType = (some .int)) (hR : R.frames = d ∧ R.locals = 64 * d) (hd : 2 ≤ d) {N : Nat} {a0 : Nat} {i1 : Int32} {i2 : Int32} {t0 : Nat} {t1 : Int32} {out : (Int32 × zm_S)} {S : zm_S} (h : zf_X18_where_J26 N a0 i1 i2 t0 t1 S = some out) : zw p l e R s m args below meth c (vx_MQ below (zm_Qc zk_E V (zo_i out)) (zm_XC zk_E V zo_x) args s mc ms (fun q => V.2.2.2.1 ≤ q)) 3 zk_E V mc ms 26 [(0, .ref a0), (1, .int i1), (2, .int i2)] [.int t1, .ref t0] S rc rs := by
  unfold zf_X18_where_J26 at h
  refine zw_aload_n hX dX18_where_26 rfl ?_
  obtain ⟨v4, g, h⟩ := zb_some h
  refine zw_geti hX zl_X18_192 dX18_where_27 g ?_
  obtain ⟨_, gi, h⟩ := zb_some h
  obtain ⟨r6, g, h⟩ := zb_some h
  refine zc_Vi (as := [.int t1, .int v4]) hX gi (zt_X18_goes (d := d - 1) (by omega) g) zl_X18_199 rfl dX18_where_30 ⟨rfl, rfl, Nat.le_of_ble_eq_true rfl⟩ ⟨by omega, by omega⟩ ?_
  refine zw_if_ne (tgt := 38) hX dX18_where_33 (by decide) (fun c33 => ?_) (fun c33 => ?_)
  · rw [if_neg c33] at h
    refine zw_iload_n hX dX18_where_38 rfl ?_
    by_cases c39_0 : (i2).toInt = 0
    · rw [if_pos c39_0] at h
      refine zw_tableIn (off := 33) (tgt := 72) hX dX18_where_39 (by rw [c39_0]; decide) (by rw [c39_0]; decide) (by rw [c39_0]; decide) (by decide) ?_
      refine zw_aload_n hX dX18_where_72 rfl ?_
      obtain ⟨b9, g, h⟩ := zb_some h
      refine zw_getr hX zl_X18_106 dX18_where_73 g ?_
      refine zw_iload_n hX dX18_where_76 rfl ?_
      obtain ⟨v10, g, h⟩ := zb_some h
      refine zw_xi hX dX18_where_77 g ?_
      obtain rfl := Option.some.inj h
      exact zw_iret hX hr dX18_where_78 rfl ⟨rfl, rfl⟩
    rw [if_neg c39_0] at h
    by_cases c39_1 : (i2).toInt = 1
    · rw [if_pos c39_1] at h
      refine zw_tableIn (off := 40) (tgt := 79) hX dX18_where_39 (by rw [c39_1]; decide) (by rw [c39_1]; decide) (by rw [c39_1]; decide) (by decide) ?_
      refine zw_aload_n hX dX18_where_79 rfl ?_
      obtain ⟨b11, g, h⟩ := zb_some h
      refine zw_getr hX zl_X18_109 dX18_where_80 g ?_
      refine zw_iload_n hX dX18_where_83 rfl ?_
      obtain ⟨v12, g, h⟩ := zb_some h
      refine zw_xi hX dX18_where_84 g ?_
      obtain rfl := Option.some.inj h
      exact zw_iret hX hr dX18_where_85 rfl ⟨rfl, rfl⟩
    rw [if_neg c39_1] at h
    by_cases c39_2 : (i2).toInt = 2
    · rw [if_pos c39_2] at h
      refine zw_tableIn (off := 47) (tgt := 86) hX dX18_where_39 (by rw [c39_2]; decide) (by rw [c39_2]; decide) (by rw [c39_2]; decide) (by decide) ?_
      refine zw_aload_n hX dX18_where_86 rfl ?_
      obtain ⟨b13, g, h⟩ := zb_some h
      refine zw_getr hX zl_X18_112 dX18_where_87 g ?_
      refine zw_iload_n hX dX18_where_90 rfl ?_
      obtain ⟨v14, g, h⟩ := zb_some h
      refine zw_xi hX dX18_where_91 g ?_
      obtain rfl := Option.some.inj h
      exact zw_iret hX hr dX18_where_92 rfl ⟨rfl, rfl⟩
    rw [if_neg c39_2] at h
    by_cases c39_3 : (i2).toInt = 3
    · rw [if_pos c39_3] at h
      refine zw_tableIn (off := 54) (tgt := 93) hX dX18_where_39 (by rw [c39_3]; decide) (by rw [c39_3]; decide) (by rw [c39_3]; decide) (by decide) ?_
      refine zw_aload_n hX dX18_where_93 rfl ?_
      obtain ⟨b15, g, h⟩ := zb_some h
      refine zw_getr hX zl_X18_115 dX18_where_94 g ?_
      refine zw_iload_n hX dX18_where_97 rfl ?_
      obtain ⟨v16, g, h⟩ := zb_some h
      refine zw_xi hX dX18_where_98 g ?_
      obtain rfl := Option.some.inj h
      exact zw_iret hX hr dX18_where_99 rfl ⟨rfl, rfl⟩
    rw [if_neg c39_3] at h
    by_cases c39_4 : (i2).toInt = 4
    · rw [if_pos c39_4] at h
      refine zw_tableIn (off := 61) (tgt := 100) hX dX18_where_39 (by rw [c39_4]; decide) (by rw [c39_4]; decide) (by rw [c39_4]; decide) (by decide) ?_
      refine zw_aload_n hX dX18_where_100 rfl ?_
      obtain ⟨b17, g, h⟩ := zb_some h
      refine zw_getr hX zl_X18_118 dX18_where_101 g ?_
      refine zw_iload_n hX dX18_where_104 rfl ?_
      obtain ⟨v18, g, h⟩ := zb_some h
      refine zw_xi hX dX18_where_105 g ?_
      obtain rfl := Option.some.inj h
      exact zw_iret hX hr dX18_where_106 rfl ⟨rfl, rfl⟩
    rw [if_neg c39_4] at h
    refine zw_tableOut (tgt := 107) hX dX18_where_39 (by omega) (by decide) ?_
    refine zw_aload_n hX dX18_where_107 rfl ?_
    obtain ⟨b7, g, h⟩ := zb_some h
    refine zw_getr hX zl_X18_121 dX18_where_108 g ?_
    refine zw_iload_n hX dX18_where_111 rfl ?_
    obtain ⟨v8, g, h⟩ := zb_some h
    refine zw_xi hX dX18_where_112 g ?_
    obtain rfl := Option.some.inj h
    exact zw_iret hX hr dX18_where_113 rfl ⟨rfl, rfl⟩
  · rw [if_pos c33] at h
    refine zw_iconst (v := (0 : Int32)) hX dX18_where_36 (by decide) ?_
    obtain rfl := Option.some.inj h
    exact zw_iret hX hr dX18_where_37 rfl ⟨rfl, rfl⟩
set_option maxHeartbeats 4000000 in
set_option maxRecDepth 100000 in
theorem zt_X18_where_J25 {p : Program} {l : Launch} {e : Env} {R : Room} {s : State} {m : MethodId} {args : Array Value} {below : List Frame} {meth : Method} {c : Code} {V : zm_V} {mc ms d rc rs : Nat} (hX : zm_X p R s m args meth c RX18 "where" cX18_where 3 zk_E V mc ms) (hr : meth.sig.returnType = (some .int)) (hR : R.frames = d ∧ R.locals = 64 * d) (hd : 2 ≤ d) {N : Nat} {a0 : Nat} {i1 : Int32} {i2 : Int32} {t0 : Nat} {out : (Int32 × zm_S)} {S : zm_S} (h : zf_X18_where_J25 N a0 i1 i2 t0 S = some out) : zw p l e R s m args below meth c (vx_MQ below (zm_Qc zk_E V (zo_i out)) (zm_XC zk_E V zo_x) args s mc ms (fun q => V.2.2.2.1 ≤ q)) 3 zk_E V mc ms 25 [(0, .ref a0), (1, .int i1), (2, .int i2)] [.ref t0] S rc rs := by
  unfold zf_X18_where_J25 at h
  refine zw_iconst (v := (0 : Int32)) hX dX18_where_25 (by decide) ?_
  refine zw_sub (lv' := [(0, .ref a0), (1, .int i1), (2, .int i2)]) (List.forall_mem_cons.mpr ⟨rfl, (List.forall_mem_cons.mpr ⟨rfl, (List.forall_mem_cons.mpr ⟨rfl, zs_nil⟩)⟩)⟩) ?_
  exact zt_X18_where_J26 hX hr hR hd h
set_option maxHeartbeats 4000000 in
set_option maxRecDepth 100000 in
theorem zt_X18_where {l : Launch} {V : zm_V} {N : Nat} {S : zm_S} {out : (Int32 × zm_S)} {d : Nat} {a0 : Nat} {i1 : Int32} {i2 : Int32} (hd : 2 ≤ d) (h : zf_X18_where N a0 i1 i2 S = some out) : zm_Met l zk_E V yX18_where (.code yX18_where cX18_where 3 (some .int)) d [.ref a0, .int i1, .int i2] S 0 0 (zo_i out) zo_x := by
  refine zm_of (by decide +kernel) (Nat.le_of_ble_eq_true rfl) ?_
  intro p e R s m args below meth c hRR hX hr hxt
  have hR : R.frames = d ∧ R.locals = 64 * d := by rw [hRR]; exact ⟨rfl, rfl⟩
  have hX : zm_X p R s m args meth c RX18 "where" cX18_where 3 zk_E V 0 0 := hX
  unfold zf_X18_where at h
  refine zw_sub (lv' := [(0, .ref a0), (1, .int i1), (2, .int i2)]) (List.forall_mem_cons.mpr ⟨rfl, (List.forall_mem_cons.mpr ⟨rfl, (List.forall_mem_cons.mpr ⟨rfl, zs_nil⟩)⟩)⟩) ?_
  refine zw_aload_n hX dX18_where_0 rfl ?_
  refine zw_iload_n hX dX18_where_1 rfl ?_
  refine zw_aload_n hX dX18_where_2 rfl ?_
  obtain ⟨v1, g, h⟩ := zb_some h
  refine zw_geti hX zl_X18_369 dX18_where_3 g ?_
  obtain ⟨r3, g, h⟩ := zb_some h
  refine zc_Si (as := [.int i1, .int v1]) hX (zt_X18_isIn (d := d - 1) (by omega) g) zl_X18_207 dX18_where_6 ⟨rfl, rfl, Nat.le_of_ble_eq_true rfl⟩ ⟨by omega, by omega⟩ ?_
  refine zw_if_eq (tgt := 25) hX dX18_where_9 (by decide) (fun c9 => ?_) (fun c9 => ?_)
  · rw [if_pos c9] at h
    refine zw_sub (lv' := [(0, .ref a0), (1, .int i1), (2, .int i2)]) (List.forall_mem_cons.mpr ⟨rfl, (List.forall_mem_cons.mpr ⟨rfl, (List.forall_mem_cons.mpr ⟨rfl, zs_nil⟩)⟩)⟩) ?_
    exact zt_X18_where_J25 hX hr hR hd h
  · rw [if_neg c9] at h
    refine zw_iload_n hX dX18_where_12 rfl ?_
    refine zw_bipush (v := (6 : Int32)) hX dX18_where_13 (by decide) ?_
    obtain ⟨r20, g, h⟩ := zb_some h
    refine zc_Si (as := [.int i2, .int (6 : Int32)]) hX (zt_X18_isIn (d := d - 1) (by omega) g) zl_X18_207 dX18_where_15 ⟨rfl, rfl, Nat.le_of_ble_eq_true rfl⟩ ⟨by omega, by omega⟩ ?_
    refine zw_if_eq (tgt := 25) hX dX18_where_18 (by decide) (fun c18 => ?_) (fun c18 => ?_)
    · rw [if_pos c18] at h
      refine zw_sub (lv' := [(0, .ref a0), (1, .int i1), (2, .int i2)]) (List.forall_mem_cons.mpr ⟨rfl, (List.forall_mem_cons.mpr ⟨rfl, (List.forall_mem_cons.mpr ⟨rfl, zs_nil⟩)⟩)⟩) ?_
      exact zt_X18_where_J25 hX hr hR hd h
    · rw [if_neg c18] at h
      refine zw_iconst (v := (1 : Int32)) hX dX18_where_21 (by decide) ?_
      refine zw_goto (tgt := 26) hX dX18_where_22 (by decide) ?_
      refine zw_sub (lv' := [(0, .ref a0), (1, .int i1), (2, .int i2)]) (List.forall_mem_cons.mpr ⟨rfl, (List.forall_mem_cons.mpr ⟨rfl, (List.forall_mem_cons.mpr ⟨rfl, zs_nil⟩)⟩)⟩) ?_
      exact zt_X18_where_J26 hX hr hR hd h
set_option maxHeartbeats 4000000 in
set_option maxRecDepth 100000 in
theorem zt_X18_inside_J51 {p : Program} {l : Launch} {e : Env} {R : Room} {s : State} {m : MethodId} {args : Array Value} {below : List Frame} {meth : Method} {c : Code} {V : zm_V} {mc ms d rc rs : Nat} (hX : zm_X p R s m args meth c RX18 "inside" cX18_inside 4 zk_E V mc ms) (hr : meth.sig.returnType = (some .int)) (hR : R.frames = d ∧ R.locals = 64 * d) (hd : 2 ≤ d) {N : Nat} {k : Nat → Int32 → Int32 → Int32 → zm_S → Option ((Int32 × zm_S) ⊕ ((Int32) × zm_S))} {a0 : Nat} {i1 : Int32} {i3 : Int32} {t0 : Int32} {t1 : Int32} {res : (Int32 × zm_S) ⊕ ((Int32) × zm_S)} {out : (Int32 × zm_S)}   (hf : ∀ o, res = .inl o → o = out) (hk : ∀ (x2 : Int32) (S' : zm_S), res = .inr (x2, S') → zw p l e R s m args below meth c (vx_MQ below (zm_Qc zk_E V (zo_i out)) (zm_XC zk_E V zo_x) args s mc ms (fun q => V.2.2.2.1 ≤ q)) 4 zk_E V mc ms 59 [(2, .int x2)] [] S' rc rs) (hrec : ∀ (i2' : Int32) (i3' : Int32) (S : zm_S), k a0 i1 i2' i3' S = some res → zw p l e R s m args below meth c (vx_MQ below (zm_Qc zk_E V (zo_i out)) (zm_XC zk_E V zo_x) args s mc ms (fun q => V.2.2.2.1 ≤ q)) 4 zk_E V mc ms 23 [(0, .ref a0), (1, .int i1), (2, .int i2'), (3, .int i3')] [] S rc rs) {S : zm_S} (h : zf_X18_inside_J51 N k a0 i1 i3 t0 t1 S = some res) : zw p l e R s m args below meth c (vx_MQ below (zm_Qc zk_E V (zo_i out)) (zm_XC zk_E V zo_x) args s mc ms (fun q => V.2.2.2.1 ≤ q)) 4 zk_E V mc ms 51 [(0, .ref a0), (1, .int i1), (3, .int i3)] [.int t1, .int t0] S rc rs := by
  unfold zf_X18_inside_J51 at h
  refine zw_iadd hX dX18_inside_51 ?_
  refine zw_istore_n hX dX18_inside_52 (by decide) ?_
  refine zw_iinc (v := (i3 + (1 : Int32))) hX dX18_inside_53 rfl rfl (by decide) ?_
  refine zw_goto (tgt := 23) hX dX18_inside_56 (by decide) ?_
  refine zw_sub (lv' := [(0, .ref a0), (1, .int i1), (2, .int (t0 + t1)), (3, .int (i3 + (1 : Int32)))]) (List.forall_mem_cons.mpr ⟨rfl, (List.forall_mem_cons.mpr ⟨rfl, (List.forall_mem_cons.mpr ⟨rfl, (List.forall_mem_cons.mpr ⟨rfl, zs_nil⟩)⟩)⟩)⟩) ?_
  exact hrec _ _ _ h
set_option maxHeartbeats 4000000 in
set_option maxRecDepth 100000 in
theorem zt_X18_inside_L23 {p : Program} {l : Launch} {e : Env} {R : Room} {s : State} {m : MethodId} {args : Array Value} {below : List Frame} {meth : Method} {c : Code} {V : zm_V} {mc ms d rc rs : Nat} (hX : zm_X p R s m args meth c RX18 "inside" cX18_inside 4 zk_E V mc ms) (hr : meth.sig.returnType = (some .int)) (hR : R.frames = d ∧ R.locals = 64 * d) (hd : 2 ≤ d) {N : Nat} {res : (Int32 × zm_S) ⊕ ((Int32) × zm_S)} {out : (Int32 × zm_S)} (a0 : Nat) (i1 : Int32) (hf : ∀ o, res = .inl o → o = out) (hk : ∀ (x2 : Int32) (S' : zm_S), res = .inr (x2, S') → zw p l e R s m args below meth c (vx_MQ below (zm_Qc zk_E V (zo_i out)) (zm_XC zk_E V zo_x) args s mc ms (fun q => V.2.2.2.1 ≤ q)) 4 zk_E V mc ms 59 [(2, .int x2)] [] S' rc rs) : ∀ (n : Nat) (i2 : Int32) (i3 : Int32) (S : zm_S), zf_X18_inside_L23 N n a0 i1 i2 i3 S = some res → zw p l e R s m args below meth c (vx_MQ below (zm_Qc zk_E V (zo_i out)) (zm_XC zk_E V zo_x) args s mc ms (fun q => V.2.2.2.1 ≤ q)) 4 zk_E V mc ms 23 [(0, .ref a0), (1, .int i1), (2, .int i2), (3, .int i3)] [] S rc rs := by
  intro n
  induction n with
  | zero => intro i2 i3 S h; cases h
  | succ n ih =>
    intro i2 i3 S h
    rw [zf_X18_inside_L23] at h
    refine zw_iload_n hX dX18_inside_23 rfl ?_
    refine zw_aload_n hX dX18_inside_24 rfl ?_
    obtain ⟨v6, g, h⟩ := zb_some h
    refine zw_geti hX zl_X18_369 dX18_inside_25 g ?_
    refine zw_icmp_ge (tgt := 59) hX dX18_inside_28 (by decide) (fun c28 => ?_) (fun c28 => ?_)
    · rw [if_pos c28] at h
      refine zw_sub (lv' := [(2, .int i2)]) (List.forall_mem_cons.mpr ⟨rfl, zs_nil⟩) ?_
      exact hk _ _ (Option.some.inj h).symm
    · rw [if_neg c28] at h
      refine zw_iload_n hX dX18_inside_31 rfl ?_
      refine zw_aload_n hX dX18_inside_32 rfl ?_
      refine zw_aload_n hX dX18_inside_33 rfl ?_
      obtain ⟨b7, g, h⟩ := zb_some h
      refine zw_getr hX zl_X18_106 dX18_inside_34 g ?_
      refine zw_iload_n hX dX18_inside_37 rfl ?_
      obtain ⟨v8, g, h⟩ := zb_some h
      refine zw_xi hX dX18_inside_38 g ?_
      obtain ⟨_, gi, h⟩ := zb_some h
      obtain ⟨r10, g, h⟩ := zb_some h
      refine zc_Vi (as := [.int v8]) hX gi (zt_X18_zoneOf (d := d - 1) (by omega) g) zl_X18_407 rfl dX18_inside_39 ⟨rfl, rfl, Nat.le_of_ble_eq_true rfl⟩ ⟨by omega, by omega⟩ ?_
      refine zw_iload_n hX dX18_inside_42 rfl ?_
      refine zw_icmp_ne (tgt := 50) hX dX18_inside_43 (by decide) (fun c43 => ?_) (fun c43 => ?_)
      · rw [if_neg c43] at h
        refine zw_iconst (v := (0 : Int32)) hX dX18_inside_50 (by decide) ?_
        refine zw_sub (lv' := [(0, .ref a0), (1, .int i1), (3, .int i3)]) (List.forall_mem_cons.mpr ⟨rfl, (List.forall_mem_cons.mpr ⟨rfl, (List.forall_mem_cons.mpr ⟨rfl, zs_nil⟩)⟩)⟩) ?_
        exact zt_X18_inside_J51 hX hr hR hd hf hk ih h
      · rw [if_pos c43] at h
        refine zw_iconst (v := (1 : Int32)) hX dX18_inside_46 (by decide) ?_
        refine zw_goto (tgt := 51) hX dX18_inside_47 (by decide) ?_
        refine zw_sub (lv' := [(0, .ref a0), (1, .int i1), (3, .int i3)]) (List.forall_mem_cons.mpr ⟨rfl, (List.forall_mem_cons.mpr ⟨rfl, (List.forall_mem_cons.mpr ⟨rfl, zs_nil⟩)⟩)⟩) ?_
        exact zt_X18_inside_J51 hX hr hR hd hf hk ih h
set_option maxHeartbeats 4000000 in
set_option maxRecDepth 100000 in
theorem zt_X18_inside {l : Launch} {V : zm_V} {N : Nat} {S : zm_S} {out : (Int32 × zm_S)} {d : Nat} {a0 : Nat} {i1 : Int32} (hd : 2 ≤ d) (h : zf_X18_inside N a0 i1 S = some out) : zm_Met l zk_E V yX18_inside (.code yX18_inside cX18_inside 4 (some .int)) d [.ref a0, .int i1] S 0 0 (zo_i out) zo_x := by
  refine zm_of (by decide +kernel) (Nat.le_of_ble_eq_true rfl) ?_
  intro p e R s m args below meth c hRR hX hr hxt
  have hR : R.frames = d ∧ R.locals = 64 * d := by rw [hRR]; exact ⟨rfl, rfl⟩
  have hX : zm_X p R s m args meth c RX18 "inside" cX18_inside 4 zk_E V 0 0 := hX
  unfold zf_X18_inside at h
  refine zw_sub (lv' := [(0, .ref a0), (1, .int i1)]) (List.forall_mem_cons.mpr ⟨rfl, (List.forall_mem_cons.mpr ⟨rfl, zs_nil⟩)⟩) ?_
  refine zw_aload_n hX dX18_inside_0 rfl ?_
  refine zw_iload_n hX dX18_inside_1 rfl ?_
  refine zw_bipush (v := (10 : Int32)) hX dX18_inside_2 (by decide) ?_
  obtain ⟨r2, g, h⟩ := zb_some h
  refine zc_Si (as := [.int i1, .int (10 : Int32)]) hX (zt_X18_isIn (d := d - 1) (by omega) g) zl_X18_207 dX18_inside_4 ⟨rfl, rfl, Nat.le_of_ble_eq_true rfl⟩ ⟨by omega, by omega⟩ ?_
  refine zw_aload_n hX dX18_inside_7 rfl ?_
  obtain ⟨v3, g, h⟩ := zb_some h
  refine zw_geti hX zl_X18_192 dX18_inside_8 g ?_
  obtain ⟨_, gi, h⟩ := zb_some h
  obtain ⟨r5, g, h⟩ := zb_some h
  refine zc_Vi (as := [.int r2.1, .int v3]) hX gi (zt_X18_goes (d := d - 1) (by omega) g) zl_X18_199 rfl dX18_inside_11 ⟨rfl, rfl, Nat.le_of_ble_eq_true rfl⟩ ⟨by omega, by omega⟩ ?_
  refine zw_if_ne (tgt := 19) hX dX18_inside_14 (by decide) (fun c14 => ?_) (fun c14 => ?_)
  · rw [if_neg c14] at h
    refine zw_iconst (v := (0 : Int32)) hX dX18_inside_19 (by decide) ?_
    refine zw_istore_n hX dX18_inside_20 (by decide) ?_
    refine zw_iconst (v := (0 : Int32)) hX dX18_inside_21 (by decide) ?_
    refine zw_istore_n hX dX18_inside_22 (by decide) ?_
    obtain ⟨r, g, h⟩ := zb_some h
    refine zw_sub (lv' := [(0, .ref a0), (1, .int i1), (2, .int (0 : Int32)), (3, .int (0 : Int32))]) (List.forall_mem_cons.mpr ⟨rfl, (List.forall_mem_cons.mpr ⟨rfl, (List.forall_mem_cons.mpr ⟨rfl, (List.forall_mem_cons.mpr ⟨rfl, zs_nil⟩)⟩)⟩)⟩) ?_
    refine zt_X18_inside_L23 hX hr hR hd (res := r) (out := out) a0 i1 ?_ ?_ N _ _ _ g
    · intro o ho
      subst ho
      exact Option.some.inj h
    · intro v12 S11 hx
      subst hx
      try dsimp only at h
      refine zw_iload_n hX dX18_inside_59 rfl ?_
      obtain rfl := Option.some.inj h
      exact zw_iret hX hr dX18_inside_60 rfl ⟨rfl, rfl⟩
  · rw [if_pos c14] at h
    refine zw_iconst (v := (0 : Int32)) hX dX18_inside_17 (by decide) ?_
    obtain rfl := Option.some.inj h
    exact zw_iret hX hr dX18_inside_18 rfl ⟨rfl, rfl⟩
set_option maxHeartbeats 4000000 in
set_option maxRecDepth 100000 in
theorem zt_X18_against_J36 {p : Program} {l : Launch} {e : Env} {R : Room} {s : State} {m : MethodId} {args : Array Value} {below : List Frame} {meth : Method} {c : Code} {V : zm_V} {mc ms d rc rs : Nat} (hX : zm_X p R s m args meth c RX18 "against" cX18_against 3 zk_E V mc ms) (hr : meth.sig.returnType = (some .int)) (hR : R.frames = d ∧ R.locals = 64 * d) (hd : 2 ≤ d) {N : Nat} {a0 : Nat} {i1 : Int32} {i2 : Int32} {t0 : Nat} {t1 : Int32} {out : (Int32 × zm_S)} {S : zm_S} (h : zf_X18_against_J36 N a0 i1 i2 t0 t1 S = some out) : zw p l e R s m args below meth c (vx_MQ below (zm_Qc zk_E V (zo_i out)) (zm_XC zk_E V zo_x) args s mc ms (fun q => V.2.2.2.1 ≤ q)) 3 zk_E V mc ms 36 [(0, .ref a0), (1, .int i1), (2, .int i2)] [.int t1, .ref t0] S rc rs := by
  unfold zf_X18_against_J36 at h
  refine zw_aload_n hX dX18_against_36 rfl ?_
  obtain ⟨v3, g, h⟩ := zb_some h
  refine zw_geti hX zl_X18_192 dX18_against_37 g ?_
  obtain ⟨_, gi, h⟩ := zb_some h
  obtain ⟨r5, g, h⟩ := zb_some h
  refine zc_Vi (as := [.int t1, .int v3]) hX gi (zt_X18_goes (d := d - 1) (by omega) g) zl_X18_199 rfl dX18_against_40 ⟨rfl, rfl, Nat.le_of_ble_eq_true rfl⟩ ⟨by omega, by omega⟩ ?_
  refine zw_if_ne (tgt := 48) hX dX18_against_43 (by decide) (fun c43 => ?_) (fun c43 => ?_)
  · rw [if_neg c43] at h
    refine zw_iload_n hX dX18_against_48 rfl ?_
    refine zw_if_ne (tgt := 59) hX dX18_against_49 (by decide) (fun c49 => ?_) (fun c49 => ?_)
    · rw [if_neg c49] at h
      refine zw_iload_n hX dX18_against_59 rfl ?_
      refine zw_iconst (v := (1 : Int32)) hX dX18_against_60 (by decide) ?_
      refine zw_icmp_ne (tgt := 73) hX dX18_against_61 (by decide) (fun c61 => ?_) (fun c61 => ?_)
      · rw [if_neg c61] at h
        refine zw_iload_n hX dX18_against_73 rfl ?_
        refine zw_iconst (v := (2 : Int32)) hX dX18_against_74 (by decide) ?_
        refine zw_icmp_ne (tgt := 87) hX dX18_against_75 (by decide) (fun c75 => ?_) (fun c75 => ?_)
        · rw [if_neg c75] at h
          refine zw_iload_n hX dX18_against_87 rfl ?_
          refine zw_iconst (v := (3 : Int32)) hX dX18_against_88 (by decide) ?_
          refine zw_icmp_ne (tgt := 101) hX dX18_against_89 (by decide) (fun c89 => ?_) (fun c89 => ?_)
          · rw [if_neg c89] at h
            refine zw_aload_n hX dX18_against_101 rfl ?_
            obtain ⟨b6, g, h⟩ := zb_some h
            refine zw_getr hX zl_X18_163 dX18_against_102 g ?_
            refine zw_iload_n hX dX18_against_105 rfl ?_
            obtain ⟨v7, g, h⟩ := zb_some h
            refine zw_xi hX dX18_against_106 g ?_
            obtain rfl := Option.some.inj h
            exact zw_iret hX hr dX18_against_107 rfl ⟨rfl, rfl⟩
          · rw [if_pos c89] at h
            refine zw_aload_n hX dX18_against_92 rfl ?_
            obtain ⟨b8, g, h⟩ := zb_some h
            refine zw_getr hX zl_X18_160 dX18_against_93 g ?_
            refine zw_iload_n hX dX18_against_96 rfl ?_
            obtain ⟨v9, g, h⟩ := zb_some h
            refine zw_xi hX dX18_against_97 g ?_
            refine zw_goto (tgt := 107) hX dX18_against_98 (by decide) ?_
            obtain rfl := Option.some.inj h
            exact zw_iret hX hr dX18_against_107 rfl ⟨rfl, rfl⟩
        · rw [if_pos c75] at h
          refine zw_aload_n hX dX18_against_78 rfl ?_
          obtain ⟨b10, g, h⟩ := zb_some h
          refine zw_getr hX zl_X18_157 dX18_against_79 g ?_
          refine zw_iload_n hX dX18_against_82 rfl ?_
          obtain ⟨v11, g, h⟩ := zb_some h
          refine zw_xi hX dX18_against_83 g ?_
          refine zw_goto (tgt := 107) hX dX18_against_84 (by decide) ?_
          obtain rfl := Option.some.inj h
          exact zw_iret hX hr dX18_against_107 rfl ⟨rfl, rfl⟩
      · rw [if_pos c61] at h
        refine zw_aload_n hX dX18_against_64 rfl ?_
        obtain ⟨b12, g, h⟩ := zb_some h
        refine zw_getr hX zl_X18_154 dX18_against_65 g ?_
        refine zw_iload_n hX dX18_against_68 rfl ?_
        obtain ⟨v13, g, h⟩ := zb_some h
        refine zw_xi hX dX18_against_69 g ?_
        refine zw_goto (tgt := 107) hX dX18_against_70 (by decide) ?_
        obtain rfl := Option.some.inj h
        exact zw_iret hX hr dX18_against_107 rfl ⟨rfl, rfl⟩
    · rw [if_pos c49] at h
      refine zw_aload_n hX dX18_against_52 rfl ?_
      obtain ⟨v14, g, h⟩ := zb_some h
      refine zw_geti hX zl_X18_434 dX18_against_53 g ?_
      refine zw_goto (tgt := 107) hX dX18_against_56 (by decide) ?_
      obtain rfl := Option.some.inj h
      exact zw_iret hX hr dX18_against_107 rfl ⟨rfl, rfl⟩
  · rw [if_pos c43] at h
    refine zw_iconst (v := (0 : Int32)) hX dX18_against_46 (by decide) ?_
    obtain rfl := Option.some.inj h
    exact zw_iret hX hr dX18_against_47 rfl ⟨rfl, rfl⟩
set_option maxHeartbeats 4000000 in
set_option maxRecDepth 100000 in
theorem zt_X18_against_J35 {p : Program} {l : Launch} {e : Env} {R : Room} {s : State} {m : MethodId} {args : Array Value} {below : List Frame} {meth : Method} {c : Code} {V : zm_V} {mc ms d rc rs : Nat} (hX : zm_X p R s m args meth c RX18 "against" cX18_against 3 zk_E V mc ms) (hr : meth.sig.returnType = (some .int)) (hR : R.frames = d ∧ R.locals = 64 * d) (hd : 2 ≤ d) {N : Nat} {a0 : Nat} {i1 : Int32} {i2 : Int32} {t0 : Nat} {out : (Int32 × zm_S)} {S : zm_S} (h : zf_X18_against_J35 N a0 i1 i2 t0 S = some out) : zw p l e R s m args below meth c (vx_MQ below (zm_Qc zk_E V (zo_i out)) (zm_XC zk_E V zo_x) args s mc ms (fun q => V.2.2.2.1 ≤ q)) 3 zk_E V mc ms 35 [(0, .ref a0), (1, .int i1), (2, .int i2)] [.ref t0] S rc rs := by
  unfold zf_X18_against_J35 at h
  refine zw_iconst (v := (0 : Int32)) hX dX18_against_35 (by decide) ?_
  refine zw_sub (lv' := [(0, .ref a0), (1, .int i1), (2, .int i2)]) (List.forall_mem_cons.mpr ⟨rfl, (List.forall_mem_cons.mpr ⟨rfl, (List.forall_mem_cons.mpr ⟨rfl, zs_nil⟩)⟩)⟩) ?_
  exact zt_X18_against_J36 hX hr hR hd h
set_option maxHeartbeats 4000000 in
set_option maxRecDepth 100000 in
theorem zt_X18_against_J31 {p : Program} {l : Launch} {e : Env} {R : Room} {s : State} {m : MethodId} {args : Array Value} {below : List Frame} {meth : Method} {c : Code} {V : zm_V} {mc ms d rc rs : Nat} (hX : zm_X p R s m args meth c RX18 "against" cX18_against 3 zk_E V mc ms) (hr : meth.sig.returnType = (some .int)) (hR : R.frames = d ∧ R.locals = 64 * d) (hd : 2 ≤ d) {N : Nat} {a0 : Nat} {i1 : Int32} {i2 : Int32} {t0 : Nat} {out : (Int32 × zm_S)} {S : zm_S} (h : zf_X18_against_J31 N a0 i1 i2 t0 S = some out) : zw p l e R s m args below meth c (vx_MQ below (zm_Qc zk_E V (zo_i out)) (zm_XC zk_E V zo_x) args s mc ms (fun q => V.2.2.2.1 ≤ q)) 3 zk_E V mc ms 31 [(0, .ref a0), (1, .int i1), (2, .int i2)] [.ref t0] S rc rs := by
  unfold zf_X18_against_J31 at h
  refine zw_iconst (v := (1 : Int32)) hX dX18_against_31 (by decide) ?_
  refine zw_goto (tgt := 36) hX dX18_against_32 (by decide) ?_
  refine zw_sub (lv' := [(0, .ref a0), (1, .int i1), (2, .int i2)]) (List.forall_mem_cons.mpr ⟨rfl, (List.forall_mem_cons.mpr ⟨rfl, (List.forall_mem_cons.mpr ⟨rfl, zs_nil⟩)⟩)⟩) ?_
  exact zt_X18_against_J36 hX hr hR hd h
set_option maxHeartbeats 4000000 in
set_option maxRecDepth 100000 in
theorem zt_X18_against {l : Launch} {V : zm_V} {N : Nat} {S : zm_S} {out : (Int32 × zm_S)} {d : Nat} {a0 : Nat} {i1 : Int32} {i2 : Int32} (hd : 2 ≤ d) (h : zf_X18_against N a0 i1 i2 S = some out) : zm_Met l zk_E V yX18_against (.code yX18_against cX18_against 3 (some .int)) d [.ref a0, .int i1, .int i2] S 0 0 (zo_i out) zo_x := by
  refine zm_of (by decide +kernel) (Nat.le_of_ble_eq_true rfl) ?_
  intro p e R s m args below meth c hRR hX hr hxt
  have hR : R.frames = d ∧ R.locals = 64 * d := by rw [hRR]; exact ⟨rfl, rfl⟩
  have hX : zm_X p R s m args meth c RX18 "against" cX18_against 3 zk_E V 0 0 := hX
  unfold zf_X18_against at h
  refine zw_sub (lv' := [(0, .ref a0), (1, .int i1), (2, .int i2)]) (List.forall_mem_cons.mpr ⟨rfl, (List.forall_mem_cons.mpr ⟨rfl, (List.forall_mem_cons.mpr ⟨rfl, zs_nil⟩)⟩)⟩) ?_
  refine zw_aload_n hX dX18_against_0 rfl ?_
  refine zw_iload_n hX dX18_against_1 rfl ?_
  refine zw_iconst (v := (5 : Int32)) hX dX18_against_2 (by decide) ?_
  obtain ⟨r2, g, h⟩ := zb_some h
  refine zc_Si (as := [.int i2, .int (5 : Int32)]) hX (zt_X18_isIn (d := d - 1) (by omega) g) zl_X18_207 dX18_against_3 ⟨rfl, rfl, Nat.le_of_ble_eq_true rfl⟩ ⟨by omega, by omega⟩ ?_
  refine zw_if_eq (tgt := 35) hX dX18_against_6 (by decide) (fun c6 => ?_) (fun c6 => ?_)
  · rw [if_pos c6] at h
    refine zw_sub (lv' := [(0, .ref a0), (1, .int i1), (2, .int i2)]) (List.forall_mem_cons.mpr ⟨rfl, (List.forall_mem_cons.mpr ⟨rfl, (List.forall_mem_cons.mpr ⟨rfl, zs_nil⟩)⟩)⟩) ?_
    exact zt_X18_against_J35 hX hr hR hd h
  · rw [if_neg c6] at h
    refine zw_iload_n hX dX18_against_9 rfl ?_
    refine zw_if_eq (tgt := 31) hX dX18_against_10 (by decide) (fun c10 => ?_) (fun c10 => ?_)
    · rw [if_pos c10] at h
      refine zw_sub (lv' := [(0, .ref a0), (1, .int i1), (2, .int i2)]) (List.forall_mem_cons.mpr ⟨rfl, (List.forall_mem_cons.mpr ⟨rfl, (List.forall_mem_cons.mpr ⟨rfl, zs_nil⟩)⟩)⟩) ?_
      exact zt_X18_against_J31 hX hr hR hd h
    · rw [if_neg c10] at h
      refine zw_iload_n hX dX18_against_13 rfl ?_
      refine zw_if_lt (tgt := 35) hX dX18_against_14 (by decide) (fun c14 => ?_) (fun c14 => ?_)
      · rw [if_pos c14] at h
        refine zw_sub (lv' := [(0, .ref a0), (1, .int i1), (2, .int i2)]) (List.forall_mem_cons.mpr ⟨rfl, (List.forall_mem_cons.mpr ⟨rfl, (List.forall_mem_cons.mpr ⟨rfl, zs_nil⟩)⟩)⟩) ?_
        exact zt_X18_against_J35 hX hr hR hd h
      · rw [if_neg c14] at h
        refine zw_iload_n hX dX18_against_17 rfl ?_
        refine zw_aload_n hX dX18_against_18 rfl ?_
        obtain ⟨v15, g, h⟩ := zb_some h
        refine zw_geti hX zl_X18_434 dX18_against_19 g ?_
        refine zw_icmp_ge (tgt := 35) hX dX18_against_22 (by decide) (fun c22 => ?_) (fun c22 => ?_)
        · rw [if_pos c22] at h
          refine zw_sub (lv' := [(0, .ref a0), (1, .int i1), (2, .int i2)]) (List.forall_mem_cons.mpr ⟨rfl, (List.forall_mem_cons.mpr ⟨rfl, (List.forall_mem_cons.mpr ⟨rfl, zs_nil⟩)⟩)⟩) ?_
          exact zt_X18_against_J35 hX hr hR hd h
        · rw [if_neg c22] at h
          refine zw_iload_n hX dX18_against_25 rfl ?_
          refine zw_bipush (v := (100 : Int32)) hX dX18_against_26 (by decide) ?_
          refine zw_icmp_ge (tgt := 35) hX dX18_against_28 (by decide) (fun c28 => ?_) (fun c28 => ?_)
          · rw [if_pos c28] at h
            refine zw_sub (lv' := [(0, .ref a0), (1, .int i1), (2, .int i2)]) (List.forall_mem_cons.mpr ⟨rfl, (List.forall_mem_cons.mpr ⟨rfl, (List.forall_mem_cons.mpr ⟨rfl, zs_nil⟩)⟩)⟩) ?_
            exact zt_X18_against_J35 hX hr hR hd h
          · rw [if_neg c28] at h
            refine zw_sub (lv' := [(0, .ref a0), (1, .int i1), (2, .int i2)]) (List.forall_mem_cons.mpr ⟨rfl, (List.forall_mem_cons.mpr ⟨rfl, (List.forall_mem_cons.mpr ⟨rfl, zs_nil⟩)⟩)⟩) ?_
            exact zt_X18_against_J31 hX hr hR hd h
set_option maxHeartbeats 4000000 in
set_option maxRecDepth 100000 in
theorem zt_X18_unit_J41 {p : Program} {l : Launch} {e : Env} {R : Room} {s : State} {m : MethodId} {args : Array Value} {below : List Frame} {meth : Method} {c : Code} {V : zm_V} {mc ms d rc rs : Nat} (hX : zm_X p R s m args meth c RX18 "unit" cX18_unit 2 zk_E V mc ms) (hr : meth.sig.returnType = (some .int)) (hR : R.frames = d ∧ R.locals = 64 * d) (hd : 2 ≤ d) {N : Nat} {a0 : Nat} {i1 : Int32} {t0 : Nat} {t1 : Int32} {t2 : Int32} {out : (Int32 × zm_S)} {S : zm_S} (h : zf_X18_unit_J41 N a0 i1 t0 t1 t2 S = some out) : zw p l e R s m args below meth c (vx_MQ below (zm_Qc zk_E V (zo_i out)) (zm_XC zk_E V zo_x) args s mc ms (fun q => V.2.2.2.1 ≤ q)) 2 zk_E V mc ms 41 [(0, .ref a0), (1, .int i1)] [.int t2, .int t1, .ref t0] S rc rs := by
  unfold zf_X18_unit_J41 at h
  obtain ⟨_, gi, h⟩ := zb_some h
  obtain ⟨r3, g, h⟩ := zb_some h
  refine zc_Vi (as := [.int t1, .int t2]) hX gi (zt_X18_goes (d := d - 1) (by omega) g) zl_X18_199 rfl dX18_unit_41 ⟨rfl, rfl, Nat.le_of_ble_eq_true rfl⟩ ⟨by omega, by omega⟩ ?_
  refine zw_if_eq (tgt := 58) hX dX18_unit_44 (by decide) (fun c44 => ?_) (fun c44 => ?_)
  · rw [if_pos c44] at h
    refine zw_iconst (v := (0 : Int32)) hX dX18_unit_58 (by decide) ?_
    obtain rfl := Option.some.inj h
    exact zw_iret hX hr dX18_unit_59 rfl ⟨rfl, rfl⟩
  · rw [if_neg c44] at h
    refine zw_aload_n hX dX18_unit_47 rfl ?_
    obtain ⟨b4, g, h⟩ := zb_some h
    refine zw_getr hX zl_X18_28 dX18_unit_48 g ?_
    refine zw_iload_n hX dX18_unit_51 rfl ?_
    obtain ⟨_, gi, h⟩ := zb_some h
    obtain ⟨r6, g, h⟩ := zb_some h
    refine zc_Vi (as := [.int i1]) hX gi (zt_X14_unit (d := d - 1) (by omega) g) zl_X18_438 rfl dX18_unit_52 ⟨rfl, rfl, Nat.le_of_ble_eq_true rfl⟩ ⟨by omega, by omega⟩ ?_
    refine zw_goto (tgt := 59) hX dX18_unit_55 (by decide) ?_
    obtain rfl := Option.some.inj h
    exact zw_iret hX hr dX18_unit_59 rfl ⟨rfl, rfl⟩
set_option maxHeartbeats 4000000 in
set_option maxRecDepth 100000 in
theorem zt_X18_unit_J40 {p : Program} {l : Launch} {e : Env} {R : Room} {s : State} {m : MethodId} {args : Array Value} {below : List Frame} {meth : Method} {c : Code} {V : zm_V} {mc ms d rc rs : Nat} (hX : zm_X p R s m args meth c RX18 "unit" cX18_unit 2 zk_E V mc ms) (hr : meth.sig.returnType = (some .int)) (hR : R.frames = d ∧ R.locals = 64 * d) (hd : 2 ≤ d) {N : Nat} {a0 : Nat} {i1 : Int32} {t0 : Nat} {t1 : Int32} {out : (Int32 × zm_S)} {S : zm_S} (h : zf_X18_unit_J40 N a0 i1 t0 t1 S = some out) : zw p l e R s m args below meth c (vx_MQ below (zm_Qc zk_E V (zo_i out)) (zm_XC zk_E V zo_x) args s mc ms (fun q => V.2.2.2.1 ≤ q)) 2 zk_E V mc ms 40 [(0, .ref a0), (1, .int i1)] [.int t1, .ref t0] S rc rs := by
  unfold zf_X18_unit_J40 at h
  refine zw_iconst (v := (0 : Int32)) hX dX18_unit_40 (by decide) ?_
  refine zw_sub (lv' := [(0, .ref a0), (1, .int i1)]) (List.forall_mem_cons.mpr ⟨rfl, (List.forall_mem_cons.mpr ⟨rfl, zs_nil⟩)⟩) ?_
  exact zt_X18_unit_J41 hX hr hR hd h
set_option maxHeartbeats 4000000 in
set_option maxRecDepth 100000 in
theorem zt_X18_unit_J16 {p : Program} {l : Launch} {e : Env} {R : Room} {s : State} {m : MethodId} {args : Array Value} {below : List Frame} {meth : Method} {c : Code} {V : zm_V} {mc ms d rc rs : Nat} (hX : zm_X p R s m args meth c RX18 "unit" cX18_unit 2 zk_E V mc ms) (hr : meth.sig.returnType = (some .int)) (hR : R.frames = d ∧ R.locals = 64 * d) (hd : 2 ≤ d) {N : Nat} {a0 : Nat} {i1 : Int32} {t0 : Nat} {t1 : Int32} {out : (Int32 × zm_S)} {S : zm_S} (h : zf_X18_unit_J16 N a0 i1 t0 t1 S = some out) : zw p l e R s m args below meth c (vx_MQ below (zm_Qc zk_E V (zo_i out)) (zm_XC zk_E V zo_x) args s mc ms (fun q => V.2.2.2.1 ≤ q)) 2 zk_E V mc ms 16 [(0, .ref a0), (1, .int i1)] [.int t1, .ref t0] S rc rs := by
  unfold zf_X18_unit_J16 at h
  refine zw_aload_n hX dX18_unit_16 rfl ?_
  obtain ⟨v1, g, h⟩ := zb_some h
  refine zw_geti hX zl_X18_192 dX18_unit_17 g ?_
  refine zw_if_eq (tgt := 40) hX dX18_unit_20 (by decide) (fun c20 => ?_) (fun c20 => ?_)
  · rw [if_pos c20] at h
    refine zw_sub (lv' := [(0, .ref a0), (1, .int i1)]) (List.forall_mem_cons.mpr ⟨rfl, (List.forall_mem_cons.mpr ⟨rfl, zs_nil⟩)⟩) ?_
    exact zt_X18_unit_J40 hX hr hR hd h
  · rw [if_neg c20] at h
    refine zw_aload_n hX dX18_unit_23 rfl ?_
    obtain ⟨b7, g, h⟩ := zb_some h
    refine zw_getr hX zl_X18_28 dX18_unit_24 g ?_
    obtain ⟨v8, g, h⟩ := zb_some h
    refine zw_geti hX zl_X18_437 dX18_unit_27 g ?_
    refine zw_sipush (v := (2000 : Int32)) hX dX18_unit_30 (by decide) ?_
    refine zw_icmp_ge (tgt := 40) hX dX18_unit_33 (by decide) (fun c33 => ?_) (fun c33 => ?_)
    · rw [if_pos c33] at h
      refine zw_sub (lv' := [(0, .ref a0), (1, .int i1)]) (List.forall_mem_cons.mpr ⟨rfl, (List.forall_mem_cons.mpr ⟨rfl, zs_nil⟩)⟩) ?_
      exact zt_X18_unit_J40 hX hr hR hd h
    · rw [if_neg c33] at h
      refine zw_iconst (v := (1 : Int32)) hX dX18_unit_36 (by decide) ?_
      refine zw_goto (tgt := 41) hX dX18_unit_37 (by decide) ?_
      refine zw_sub (lv' := [(0, .ref a0), (1, .int i1)]) (List.forall_mem_cons.mpr ⟨rfl, (List.forall_mem_cons.mpr ⟨rfl, zs_nil⟩)⟩) ?_
      exact zt_X18_unit_J41 hX hr hR hd h
set_option maxHeartbeats 4000000 in
set_option maxRecDepth 100000 in
theorem zt_X18_unit_J15 {p : Program} {l : Launch} {e : Env} {R : Room} {s : State} {m : MethodId} {args : Array Value} {below : List Frame} {meth : Method} {c : Code} {V : zm_V} {mc ms d rc rs : Nat} (hX : zm_X p R s m args meth c RX18 "unit" cX18_unit 2 zk_E V mc ms) (hr : meth.sig.returnType = (some .int)) (hR : R.frames = d ∧ R.locals = 64 * d) (hd : 2 ≤ d) {N : Nat} {a0 : Nat} {i1 : Int32} {t0 : Nat} {out : (Int32 × zm_S)} {S : zm_S} (h : zf_X18_unit_J15 N a0 i1 t0 S = some out) : zw p l e R s m args below meth c (vx_MQ below (zm_Qc zk_E V (zo_i out)) (zm_XC zk_E V zo_x) args s mc ms (fun q => V.2.2.2.1 ≤ q)) 2 zk_E V mc ms 15 [(0, .ref a0), (1, .int i1)] [.ref t0] S rc rs := by
  unfold zf_X18_unit_J15 at h
  refine zw_iconst (v := (0 : Int32)) hX dX18_unit_15 (by decide) ?_
  refine zw_sub (lv' := [(0, .ref a0), (1, .int i1)]) (List.forall_mem_cons.mpr ⟨rfl, (List.forall_mem_cons.mpr ⟨rfl, zs_nil⟩)⟩) ?_
  exact zt_X18_unit_J16 hX hr hR hd h
set_option maxHeartbeats 4000000 in
set_option maxRecDepth 100000 in
theorem zt_X18_unit {l : Launch} {V : zm_V} {N : Nat} {S : zm_S} {out : (Int32 × zm_S)} {d : Nat} {a0 : Nat} {i1 : Int32} (hd : 2 ≤ d) (h : zf_X18_unit N a0 i1 S = some out) : zm_Met l zk_E V yX18_unit (.code yX18_unit cX18_unit 2 (some .int)) d [.ref a0, .int i1] S 0 0 (zo_i out) zo_x := by
  refine zm_of (by decide +kernel) (Nat.le_of_ble_eq_true rfl) ?_
  intro p e R s m args below meth c hRR hX hr hxt
  have hR : R.frames = d ∧ R.locals = 64 * d := by rw [hRR]; exact ⟨rfl, rfl⟩
  have hX : zm_X p R s m args meth c RX18 "unit" cX18_unit 2 zk_E V 0 0 := hX
  unfold zf_X18_unit at h
  refine zw_sub (lv' := [(0, .ref a0), (1, .int i1)]) (List.forall_mem_cons.mpr ⟨rfl, (List.forall_mem_cons.mpr ⟨rfl, zs_nil⟩)⟩) ?_
  refine zw_aload_n hX dX18_unit_0 rfl ?_
  refine zw_iload_n hX dX18_unit_1 rfl ?_
  refine zw_if_lt (tgt := 15) hX dX18_unit_2 (by decide) (fun c2 => ?_) (fun c2 => ?_)
  · rw [if_pos c2] at h
    refine zw_sub (lv' := [(0, .ref a0), (1, .int i1)]) (List.forall_mem_cons.mpr ⟨rfl, (List.forall_mem_cons.mpr ⟨rfl, zs_nil⟩)⟩) ?_
    exact zt_X18_unit_J15 hX hr hR hd h
  · rw [if_neg c2] at h
    refine zw_iload_n hX dX18_unit_5 rfl ?_
    refine zw_bipush (v := (127 : Int32)) hX dX18_unit_6 (by decide) ?_
    refine zw_icmp_gt (tgt := 15) hX dX18_unit_8 (by decide) (fun c8 => ?_) (fun c8 => ?_)
    · rw [if_pos c8] at h
      refine zw_sub (lv' := [(0, .ref a0), (1, .int i1)]) (List.forall_mem_cons.mpr ⟨rfl, (List.forall_mem_cons.mpr ⟨rfl, zs_nil⟩)⟩) ?_
      exact zt_X18_unit_J15 hX hr hR hd h
    · rw [if_neg c8] at h
      refine zw_iconst (v := (1 : Int32)) hX dX18_unit_11 (by decide) ?_
      refine zw_goto (tgt := 16) hX dX18_unit_12 (by decide) ?_
      refine zw_sub (lv' := [(0, .ref a0), (1, .int i1)]) (List.forall_mem_cons.mpr ⟨rfl, (List.forall_mem_cons.mpr ⟨rfl, zs_nil⟩)⟩) ?_
      exact zt_X18_unit_J16 hX hr hR hd h
set_option maxHeartbeats 4000000 in
set_option maxRecDepth 100000 in
theorem zt_X18_sentence_J170 {p : Program} {l : Launch} {e : Env} {R : Room} {s : State} {m : MethodId} {args : Array Value} {below : List Frame} {meth : Method} {c : Code} {V : zm_V} {mc ms d rc rs : Nat} (hX : zm_X p R s m args meth c RX18 "sentence" cX18_sentence 7 zk_E V mc ms) (hr : meth.sig.returnType = (some .int)) (hR : R.frames = d ∧ R.locals = 64 * d) (hd : 5 ≤ d) {N : Nat} {a0 : Nat} {t0 : Nat} {t1 : Int32} {t2 : Int32} {out : (Int32 × zm_S)} {S : zm_S} (h : zf_X18_sentence_J170 N a0 t0 t1 t2 S = some out) : zw p l e R s m args below meth c (vx_MQ below (zm_Qc zk_E V (zo_i out)) (zm_XC zk_E V zo_x) args s mc ms (fun q => V.2.2.2.1 ≤ q)) 7 zk_E V mc ms 170 [(0, .ref a0)] [.int t2, .int t1, .ref t0] S rc rs := by
  unfold zf_X18_sentence_J170 at h
  obtain ⟨_, gi, h⟩ := zb_some h
  obtain ⟨r6, g, h⟩ := zb_some h
  refine zc_Vi (as := [.int t1, .int t2]) hX gi (zt_X18_goes (d := d - 1) (by omega) g) zl_X18_199 rfl dX18_sentence_170 ⟨rfl, rfl, Nat.le_of_ble_eq_true rfl⟩ ⟨by omega, by omega⟩ ?_
  refine zw_if_eq (tgt := 186) hX dX18_sentence_173 (by decide) (fun c173 => ?_) (fun c173 => ?_)
  · rw [if_pos c173] at h
    refine zw_iconst (v := (0 : Int32)) hX dX18_sentence_186 (by decide) ?_
    obtain rfl := Option.some.inj h
    exact zw_iret hX hr dX18_sentence_187 rfl ⟨rfl, rfl⟩
  · rw [if_neg c173] at h
    refine zw_aload_n hX dX18_sentence_176 rfl ?_
    obtain ⟨b7, g, h⟩ := zb_some h
    refine zw_getr hX zl_X18_28 dX18_sentence_177 g ?_
    obtain ⟨_, gi, h⟩ := zb_some h
    obtain ⟨r9, g, h⟩ := zb_some h
    refine zc_Vi (as := []) hX gi (zt_X14_say (d := d - 1) (by omega) g) zl_X18_451 rfl dX18_sentence_180 ⟨rfl, rfl, Nat.le_of_ble_eq_true rfl⟩ ⟨by omega, by omega⟩ ?_
    refine zw_goto (tgt := 187) hX dX18_sentence_183 (by decide) ?_
    obtain rfl := Option.some.inj h
    exact zw_iret hX hr dX18_sentence_187 rfl ⟨rfl, rfl⟩
set_option maxHeartbeats 4000000 in
set_option maxRecDepth 100000 in
theorem zt_X18_sentence_J169 {p : Program} {l : Launch} {e : Env} {R : Room} {s : State} {m : MethodId} {args : Array Value} {below : List Frame} {meth : Method} {c : Code} {V : zm_V} {mc ms d rc rs : Nat} (hX : zm_X p R s m args meth c RX18 "sentence" cX18_sentence 7 zk_E V mc ms) (hr : meth.sig.returnType = (some .int)) (hR : R.frames = d ∧ R.locals = 64 * d) (hd : 5 ≤ d) {N : Nat} {a0 : Nat} {t0 : Nat} {t1 : Int32} {out : (Int32 × zm_S)} {S : zm_S} (h : zf_X18_sentence_J169 N a0 t0 t1 S = some out) : zw p l e R s m args below meth c (vx_MQ below (zm_Qc zk_E V (zo_i out)) (zm_XC zk_E V zo_x) args s mc ms (fun q => V.2.2.2.1 ≤ q)) 7 zk_E V mc ms 169 [(0, .ref a0)] [.int t1, .ref t0] S rc rs := by
  unfold zf_X18_sentence_J169 at h
  refine zw_iconst (v := (0 : Int32)) hX dX18_sentence_169 (by decide) ?_
  refine zw_sub (lv' := [(0, .ref a0)]) (List.forall_mem_cons.mpr ⟨rfl, zs_nil⟩) ?_
  exact zt_X18_sentence_J170 hX hr hR hd h
set_option maxHeartbeats 4000000 in
set_option maxRecDepth 100000 in
theorem zt_X18_sentence_J134 {p : Program} {l : Launch} {e : Env} {R : Room} {s : State} {m : MethodId} {args : Array Value} {below : List Frame} {meth : Method} {c : Code} {V : zm_V} {mc ms d rc rs : Nat} (hX : zm_X p R s m args meth c RX18 "sentence" cX18_sentence 7 zk_E V mc ms) (hr : meth.sig.returnType = (some .int)) (hR : R.frames = d ∧ R.locals = 64 * d) (hd : 5 ≤ d) {N : Nat} {a0 : Nat} {i6 : Int32} {out : (Int32 × zm_S)} {S : zm_S} (h : zf_X18_sentence_J134 N a0 i6 S = some out) : zw p l e R s m args below meth c (vx_MQ below (zm_Qc zk_E V (zo_i out)) (zm_XC zk_E V zo_x) args s mc ms (fun q => V.2.2.2.1 ≤ q)) 7 zk_E V mc ms 134 [(0, .ref a0), (6, .int i6)] [] S rc rs := by
  unfold zf_X18_sentence_J134 at h
  refine zw_aload_n hX dX18_sentence_134 rfl ?_
  refine zw_iload hX dX18_sentence_135 rfl ?_
  refine zw_aload_n hX dX18_sentence_137 rfl ?_
  obtain ⟨v4, g, h⟩ := zb_some h
  refine zw_geti hX zl_X18_192 dX18_sentence_138 g ?_
  refine zw_if_eq (tgt := 169) hX dX18_sentence_141 (by decide) (fun c141 => ?_) (fun c141 => ?_)
  · rw [if_pos c141] at h
    refine zw_sub (lv' := [(0, .ref a0)]) (List.forall_mem_cons.mpr ⟨rfl, zs_nil⟩) ?_
    exact zt_X18_sentence_J169 hX hr hR hd h
  · rw [if_neg c141] at h
    refine zw_aload_n hX dX18_sentence_144 rfl ?_
    obtain ⟨b10, g, h⟩ := zb_some h
    refine zw_getr hX zl_X18_28 dX18_sentence_145 g ?_
    obtain ⟨v11, g, h⟩ := zb_some h
    refine zw_geti hX zl_X18_437 dX18_sentence_148 g ?_
    refine zw_aload_n hX dX18_sentence_151 rfl ?_
    obtain ⟨b12, g, h⟩ := zb_some h
    refine zw_getr hX zl_X18_28 dX18_sentence_152 g ?_
    obtain ⟨v13, g, h⟩ := zb_some h
    refine zw_geti hX zl_X18_448 dX18_sentence_155 g ?_
    refine zw_iadd hX dX18_sentence_158 ?_
    refine zw_sipush (v := (2000 : Int32)) hX dX18_sentence_159 (by decide) ?_
    refine zw_icmp_gt (tgt := 169) hX dX18_sentence_162 (by decide) (fun c162 => ?_) (fun c162 => ?_)
    · rw [if_pos c162] at h
      refine zw_sub (lv' := [(0, .ref a0)]) (List.forall_mem_cons.mpr ⟨rfl, zs_nil⟩) ?_
      exact zt_X18_sentence_J169 hX hr hR hd h
    · rw [if_neg c162] at h
      refine zw_iconst (v := (1 : Int32)) hX dX18_sentence_165 (by decide) ?_
      refine zw_goto (tgt := 170) hX dX18_sentence_166 (by decide) ?_
      refine zw_sub (lv' := [(0, .ref a0)]) (List.forall_mem_cons.mpr ⟨rfl, zs_nil⟩) ?_
      exact zt_X18_sentence_J170 hX hr hR hd h
set_option maxHeartbeats 4000000 in
set_option maxRecDepth 100000 in
theorem zt_X18_sentence_J113 {p : Program} {l : Launch} {e : Env} {R : Room} {s : State} {m : MethodId} {args : Array Value} {below : List Frame} {meth : Method} {c : Code} {V : zm_V} {mc ms d rc rs : Nat} (hX : zm_X p R s m args meth c RX18 "sentence" cX18_sentence 7 zk_E V mc ms) (hr : meth.sig.returnType = (some .int)) (hR : R.frames = d ∧ R.locals = 64 * d) (hd : 5 ≤ d) {N : Nat} {a0 : Nat} {i1 : Int32} {i2 : Int32} {i3 : Int32} {i4 : Int32} {i5 : Int32} {t0 : Int32} {out : (Int32 × zm_S)} {S : zm_S} (h : zf_X18_sentence_J113 N a0 i1 i2 i3 i4 i5 t0 S = some out) : zw p l e R s m args below meth c (vx_MQ below (zm_Qc zk_E V (zo_i out)) (zm_XC zk_E V zo_x) args s mc ms (fun q => V.2.2.2.1 ≤ q)) 7 zk_E V mc ms 113 [(0, .ref a0), (1, .int i1), (2, .int i2), (3, .int i3), (4, .int i4), (5, .int i5)] [.int t0] S rc rs := by
  unfold zf_X18_sentence_J113 at h
  refine zw_istore hX dX18_sentence_113 (by decide) ?_
  refine zw_iload hX dX18_sentence_115 rfl ?_
  refine zw_if_eq (tgt := 134) hX dX18_sentence_117 (by decide) (fun c117 => ?_) (fun c117 => ?_)
  · rw [if_pos c117] at h
    refine zw_sub (lv' := [(0, .ref a0), (6, .int t0)]) (List.forall_mem_cons.mpr ⟨rfl, (List.forall_mem_cons.mpr ⟨rfl, zs_nil⟩)⟩) ?_
    exact zt_X18_sentence_J134 hX hr hR hd h
  · rw [if_neg c117] at h
    refine zw_aload_n hX dX18_sentence_120 rfl ?_
    obtain ⟨b14, g, h⟩ := zb_some h
    refine zw_getr hX zl_X18_28 dX18_sentence_121 g ?_
    refine zw_iload_n hX dX18_sentence_124 rfl ?_
    refine zw_iload_n hX dX18_sentence_125 rfl ?_
    refine zw_iload_n hX dX18_sentence_126 rfl ?_
    refine zw_iload hX dX18_sentence_127 rfl ?_
    refine zw_iload hX dX18_sentence_129 rfl ?_
    obtain ⟨_, gi, h⟩ := zb_some h
    obtain ⟨r16, g, h⟩ := zb_some h
    refine zc_Vv (as := [.int i1, .int i2, .int i3, .int i4, .int i5]) hX gi (zt_X14_make (d := d - 1) (by omega) g) zl_X18_444 rfl dX18_sentence_131 ⟨rfl, rfl, Nat.le_of_ble_eq_true rfl⟩ ⟨by omega, by omega⟩ ?_
    refine zw_sub (lv' := [(0, .ref a0), (6, .int t0)]) (List.forall_mem_cons.mpr ⟨rfl, (List.forall_mem_cons.mpr ⟨rfl, zs_nil⟩)⟩) ?_
    exact zt_X18_sentence_J134 hX hr hR hd h
set_option maxHeartbeats 4000000 in
set_option maxRecDepth 100000 in
theorem zt_X18_sentence_J112 {p : Program} {l : Launch} {e : Env} {R : Room} {s : State} {m : MethodId} {args : Array Value} {below : List Frame} {meth : Method} {c : Code} {V : zm_V} {mc ms d rc rs : Nat} (hX : zm_X p R s m args meth c RX18 "sentence" cX18_sentence 7 zk_E V mc ms) (hr : meth.sig.returnType = (some .int)) (hR : R.frames = d ∧ R.locals = 64 * d) (hd : 5 ≤ d) {N : Nat} {a0 : Nat} {i1 : Int32} {i2 : Int32} {i3 : Int32} {i4 : Int32} {i5 : Int32} {out : (Int32 × zm_S)} {S : zm_S} (h : zf_X18_sentence_J112 N a0 i1 i2 i3 i4 i5 S = some out) : zw p l e R s m args below meth c (vx_MQ below (zm_Qc zk_E V (zo_i out)) (zm_XC zk_E V zo_x) args s mc ms (fun q => V.2.2.2.1 ≤ q)) 7 zk_E V mc ms 112 [(0, .ref a0), (1, .int i1), (2, .int i2), (3, .int i3), (4, .int i4), (5, .int i5)] [] S rc rs := by
  unfold zf_X18_sentence_J112 at h
  refine zw_iconst (v := (0 : Int32)) hX dX18_sentence_112 (by decide) ?_
  refine zw_sub (lv' := [(0, .ref a0), (1, .int i1), (2, .int i2), (3, .int i3), (4, .int i4), (5, .int i5)]) (List.forall_mem_cons.mpr ⟨rfl, (List.forall_mem_cons.mpr ⟨rfl, (List.forall_mem_cons.mpr ⟨rfl, (List.forall_mem_cons.mpr ⟨rfl, (List.forall_mem_cons.mpr ⟨rfl, (List.forall_mem_cons.mpr ⟨rfl, zs_nil⟩)⟩)⟩)⟩)⟩)⟩) ?_
  exact zt_X18_sentence_J113 hX hr hR hd h
set_option maxHeartbeats 4000000 in
set_option maxRecDepth 100000 in
theorem zt_X18_sentence_J108 {p : Program} {l : Launch} {e : Env} {R : Room} {s : State} {m : MethodId} {args : Array Value} {below : List Frame} {meth : Method} {c : Code} {V : zm_V} {mc ms d rc rs : Nat} (hX : zm_X p R s m args meth c RX18 "sentence" cX18_sentence 7 zk_E V mc ms) (hr : meth.sig.returnType = (some .int)) (hR : R.frames = d ∧ R.locals = 64 * d) (hd : 5 ≤ d) {N : Nat} {a0 : Nat} {i1 : Int32} {i2 : Int32} {i3 : Int32} {i4 : Int32} {i5 : Int32} {out : (Int32 × zm_S)} {S : zm_S} (h : zf_X18_sentence_J108 N a0 i1 i2 i3 i4 i5 S = some out) : zw p l e R s m args below meth c (vx_MQ below (zm_Qc zk_E V (zo_i out)) (zm_XC zk_E V zo_x) args s mc ms (fun q => V.2.2.2.1 ≤ q)) 7 zk_E V mc ms 108 [(0, .ref a0), (1, .int i1), (2, .int i2), (3, .int i3), (4, .int i4), (5, .int i5)] [] S rc rs := by
  unfold zf_X18_sentence_J108 at h
  refine zw_iconst (v := (1 : Int32)) hX dX18_sentence_108 (by decide) ?_
  refine zw_goto (tgt := 113) hX dX18_sentence_109 (by decide) ?_
  refine zw_sub (lv' := [(0, .ref a0), (1, .int i1), (2, .int i2), (3, .int i3), (4, .int i4), (5, .int i5)]) (List.forall_mem_cons.mpr ⟨rfl, (List.forall_mem_cons.mpr ⟨rfl, (List.forall_mem_cons.mpr ⟨rfl, (List.forall_mem_cons.mpr ⟨rfl, (List.forall_mem_cons.mpr ⟨rfl, (List.forall_mem_cons.mpr ⟨rfl, zs_nil⟩)⟩)⟩)⟩)⟩)⟩) ?_
  exact zt_X18_sentence_J113 hX hr hR hd h
set_option maxHeartbeats 4000000 in
set_option maxRecDepth 100000 in
theorem zt_X18_sentence_J67 {p : Program} {l : Launch} {e : Env} {R : Room} {s : State} {m : MethodId} {args : Array Value} {below : List Frame} {meth : Method} {c : Code} {V : zm_V} {mc ms d rc rs : Nat} (hX : zm_X p R s m args meth c RX18 "sentence" cX18_sentence 7 zk_E V mc ms) (hr : meth.sig.returnType = (some .int)) (hR : R.frames = d ∧ R.locals = 64 * d) (hd : 5 ≤ d) {N : Nat} {a0 : Nat} {i1 : Int32} {i2 : Int32} {i3 : Int32} {i4 : Int32} {i5 : Int32} {t0 : Int32} {out : (Int32 × zm_S)} {S : zm_S} (h : zf_X18_sentence_J67 N a0 i1 i2 i3 i4 i5 t0 S = some out) : zw p l e R s m args below meth c (vx_MQ below (zm_Qc zk_E V (zo_i out)) (zm_XC zk_E V zo_x) args s mc ms (fun q => V.2.2.2.1 ≤ q)) 7 zk_E V mc ms 67 [(0, .ref a0), (1, .int i1), (2, .int i2), (3, .int i3), (4, .int i4), (5, .int i5)] [.int t0] S rc rs := by
  unfold zf_X18_sentence_J67 at h
  refine zw_istore hX dX18_sentence_67 (by decide) ?_
  refine zw_iload hX dX18_sentence_69 rfl ?_
  refine zw_if_eq (tgt := 112) hX dX18_sentence_71 (by decide) (fun c71 => ?_) (fun c71 => ?_)
  · rw [if_pos c71] at h
    refine zw_sub (lv' := [(0, .ref a0), (1, .int i1), (2, .int i2), (3, .int i3), (4, .int i4), (5, .int i5)]) (List.forall_mem_cons.mpr ⟨rfl, (List.forall_mem_cons.mpr ⟨rfl, (List.forall_mem_cons.mpr ⟨rfl, (List.forall_mem_cons.mpr ⟨rfl, (List.forall_mem_cons.mpr ⟨rfl, (List.forall_mem_cons.mpr ⟨rfl, zs_nil⟩)⟩)⟩)⟩)⟩)⟩) ?_
    exact zt_X18_sentence_J112 hX hr hR hd h
  · rw [if_neg c71] at h
    refine zw_iload_n hX dX18_sentence_74 rfl ?_
    refine zw_iconst (v := (1 : Int32)) hX dX18_sentence_75 (by decide) ?_
    refine zw_icmp_gt (tgt := 108) hX dX18_sentence_76 (by decide) (fun c76 => ?_) (fun c76 => ?_)
    · rw [if_pos c76] at h
      refine zw_sub (lv' := [(0, .ref a0), (1, .int i1), (2, .int i2), (3, .int i3), (4, .int i4), (5, .int i5)]) (List.forall_mem_cons.mpr ⟨rfl, (List.forall_mem_cons.mpr ⟨rfl, (List.forall_mem_cons.mpr ⟨rfl, (List.forall_mem_cons.mpr ⟨rfl, (List.forall_mem_cons.mpr ⟨rfl, (List.forall_mem_cons.mpr ⟨rfl, zs_nil⟩)⟩)⟩)⟩)⟩)⟩) ?_
      exact zt_X18_sentence_J108 hX hr hR hd h
    · rw [if_neg c76] at h
      refine zw_iload_n hX dX18_sentence_79 rfl ?_
      refine zw_iconst (v := (1 : Int32)) hX dX18_sentence_80 (by decide) ?_
      refine zw_icmp_ne (tgt := 95) hX dX18_sentence_81 (by decide) (fun c81 => ?_) (fun c81 => ?_)
      · rw [if_neg c81] at h
        refine zw_iload hX dX18_sentence_95 rfl ?_
        refine zw_iconst (v := (1 : Int32)) hX dX18_sentence_97 (by decide) ?_
        refine zw_icmp_lt (tgt := 112) hX dX18_sentence_98 (by decide) (fun c98 => ?_) (fun c98 => ?_)
        · rw [if_pos c98] at h
          refine zw_sub (lv' := [(0, .ref a0), (1, .int i1), (2, .int i2), (3, .int i3), (4, .int i4), (5, .int i5)]) (List.forall_mem_cons.mpr ⟨rfl, (List.forall_mem_cons.mpr ⟨rfl, (List.forall_mem_cons.mpr ⟨rfl, (List.forall_mem_cons.mpr ⟨rfl, (List.forall_mem_cons.mpr ⟨rfl, (List.forall_mem_cons.mpr ⟨rfl, zs_nil⟩)⟩)⟩)⟩)⟩)⟩) ?_
          exact zt_X18_sentence_J112 hX hr hR hd h
        · rw [if_neg c98] at h
          refine zw_iload hX dX18_sentence_101 rfl ?_
          refine zw_bipush (v := (12 : Int32)) hX dX18_sentence_103 (by decide) ?_
          refine zw_icmp_gt (tgt := 112) hX dX18_sentence_105 (by decide) (fun c105 => ?_) (fun c105 => ?_)
          · rw [if_pos c105] at h
            refine zw_sub (lv' := [(0, .ref a0), (1, .int i1), (2, .int i2), (3, .int i3), (4, .int i4), (5, .int i5)]) (List.forall_mem_cons.mpr ⟨rfl, (List.forall_mem_cons.mpr ⟨rfl, (List.forall_mem_cons.mpr ⟨rfl, (List.forall_mem_cons.mpr ⟨rfl, (List.forall_mem_cons.mpr ⟨rfl, (List.forall_mem_cons.mpr ⟨rfl, zs_nil⟩)⟩)⟩)⟩)⟩)⟩) ?_
            exact zt_X18_sentence_J112 hX hr hR hd h
          · rw [if_neg c105] at h
            refine zw_sub (lv' := [(0, .ref a0), (1, .int i1), (2, .int i2), (3, .int i3), (4, .int i4), (5, .int i5)]) (List.forall_mem_cons.mpr ⟨rfl, (List.forall_mem_cons.mpr ⟨rfl, (List.forall_mem_cons.mpr ⟨rfl, (List.forall_mem_cons.mpr ⟨rfl, (List.forall_mem_cons.mpr ⟨rfl, (List.forall_mem_cons.mpr ⟨rfl, zs_nil⟩)⟩)⟩)⟩)⟩)⟩) ?_
            exact zt_X18_sentence_J108 hX hr hR hd h
      · rw [if_pos c81] at h
        refine zw_iload hX dX18_sentence_84 rfl ?_
        obtain ⟨r18, g, h⟩ := zb_some h
        refine zc_Si (as := [.int i5]) hX (zt_X14_isSaid (d := d - 1) (by omega) g) zl_X18_441 dX18_sentence_86 ⟨rfl, rfl, Nat.le_of_ble_eq_true rfl⟩ ⟨by omega, by omega⟩ ?_
        refine zw_if_eq (tgt := 112) hX dX18_sentence_89 (by decide) (fun c89 => ?_) (fun c89 => ?_)
        · rw [if_pos c89] at h
          refine zw_sub (lv' := [(0, .ref a0), (1, .int i1), (2, .int i2), (3, .int i3), (4, .int i4), (5, .int i5)]) (List.forall_mem_cons.mpr ⟨rfl, (List.forall_mem_cons.mpr ⟨rfl, (List.forall_mem_cons.mpr ⟨rfl, (List.forall_mem_cons.mpr ⟨rfl, (List.forall_mem_cons.mpr ⟨rfl, (List.forall_mem_cons.mpr ⟨rfl, zs_nil⟩)⟩)⟩)⟩)⟩)⟩) ?_
          exact zt_X18_sentence_J112 hX hr hR hd h
        · rw [if_neg c89] at h
          refine zw_goto (tgt := 108) hX dX18_sentence_92 (by decide) ?_
          refine zw_sub (lv' := [(0, .ref a0), (1, .int i1), (2, .int i2), (3, .int i3), (4, .int i4), (5, .int i5)]) (List.forall_mem_cons.mpr ⟨rfl, (List.forall_mem_cons.mpr ⟨rfl, (List.forall_mem_cons.mpr ⟨rfl, (List.forall_mem_cons.mpr ⟨rfl, (List.forall_mem_cons.mpr ⟨rfl, (List.forall_mem_cons.mpr ⟨rfl, zs_nil⟩)⟩)⟩)⟩)⟩)⟩) ?_
          exact zt_X18_sentence_J108 hX hr hR hd h
set_option maxHeartbeats 4000000 in
set_option maxRecDepth 100000 in
theorem zt_X18_sentence_J66 {p : Program} {l : Launch} {e : Env} {R : Room} {s : State} {m : MethodId} {args : Array Value} {below : List Frame} {meth : Method} {c : Code} {V : zm_V} {mc ms d rc rs : Nat} (hX : zm_X p R s m args meth c RX18 "sentence" cX18_sentence 7 zk_E V mc ms) (hr : meth.sig.returnType = (some .int)) (hR : R.frames = d ∧ R.locals = 64 * d) (hd : 5 ≤ d) {N : Nat} {a0 : Nat} {i1 : Int32} {i2 : Int32} {i3 : Int32} {i4 : Int32} {i5 : Int32} {out : (Int32 × zm_S)} {S : zm_S} (h : zf_X18_sentence_J66 N a0 i1 i2 i3 i4 i5 S = some out) : zw p l e R s m args below meth c (vx_MQ below (zm_Qc zk_E V (zo_i out)) (zm_XC zk_E V zo_x) args s mc ms (fun q => V.2.2.2.1 ≤ q)) 7 zk_E V mc ms 66 [(0, .ref a0), (1, .int i1), (2, .int i2), (3, .int i3), (4, .int i4), (5, .int i5)] [] S rc rs := by
  unfold zf_X18_sentence_J66 at h
  refine zw_iconst (v := (0 : Int32)) hX dX18_sentence_66 (by decide) ?_
  refine zw_sub (lv' := [(0, .ref a0), (1, .int i1), (2, .int i2), (3, .int i3), (4, .int i4), (5, .int i5)]) (List.forall_mem_cons.mpr ⟨rfl, (List.forall_mem_cons.mpr ⟨rfl, (List.forall_mem_cons.mpr ⟨rfl, (List.forall_mem_cons.mpr ⟨rfl, (List.forall_mem_cons.mpr ⟨rfl, (List.forall_mem_cons.mpr ⟨rfl, zs_nil⟩)⟩)⟩)⟩)⟩)⟩) ?_
  exact zt_X18_sentence_J67 hX hr hR hd h
set_option maxHeartbeats 4000000 in
set_option maxRecDepth 100000 in
theorem zt_X18_sentence_J62 {p : Program} {l : Launch} {e : Env} {R : Room} {s : State} {m : MethodId} {args : Array Value} {below : List Frame} {meth : Method} {c : Code} {V : zm_V} {mc ms d rc rs : Nat} (hX : zm_X p R s m args meth c RX18 "sentence" cX18_sentence 7 zk_E V mc ms) (hr : meth.sig.returnType = (some .int)) (hR : R.frames = d ∧ R.locals = 64 * d) (hd : 5 ≤ d) {N : Nat} {a0 : Nat} {i1 : Int32} {i2 : Int32} {i3 : Int32} {i4 : Int32} {i5 : Int32} {out : (Int32 × zm_S)} {S : zm_S} (h : zf_X18_sentence_J62 N a0 i1 i2 i3 i4 i5 S = some out) : zw p l e R s m args below meth c (vx_MQ below (zm_Qc zk_E V (zo_i out)) (zm_XC zk_E V zo_x) args s mc ms (fun q => V.2.2.2.1 ≤ q)) 7 zk_E V mc ms 62 [(0, .ref a0), (1, .int i1), (2, .int i2), (3, .int i3), (4, .int i4), (5, .int i5)] [] S rc rs := by
  unfold zf_X18_sentence_J62 at h
  refine zw_iconst (v := (1 : Int32)) hX dX18_sentence_62 (by decide) ?_
  refine zw_goto (tgt := 67) hX dX18_sentence_63 (by decide) ?_
  refine zw_sub (lv' := [(0, .ref a0), (1, .int i1), (2, .int i2), (3, .int i3), (4, .int i4), (5, .int i5)]) (List.forall_mem_cons.mpr ⟨rfl, (List.forall_mem_cons.mpr ⟨rfl, (List.forall_mem_cons.mpr ⟨rfl, (List.forall_mem_cons.mpr ⟨rfl, (List.forall_mem_cons.mpr ⟨rfl, (List.forall_mem_cons.mpr ⟨rfl, zs_nil⟩)⟩)⟩)⟩)⟩)⟩) ?_
  exact zt_X18_sentence_J67 hX hr hR hd h
set_option maxHeartbeats 4000000 in
set_option maxRecDepth 100000 in
theorem zt_X18_sentence_J44 {p : Program} {l : Launch} {e : Env} {R : Room} {s : State} {m : MethodId} {args : Array Value} {below : List Frame} {meth : Method} {c : Code} {V : zm_V} {mc ms d rc rs : Nat} (hX : zm_X p R s m args meth c RX18 "sentence" cX18_sentence 7 zk_E V mc ms) (hr : meth.sig.returnType = (some .int)) (hR : R.frames = d ∧ R.locals = 64 * d) (hd : 5 ≤ d) {N : Nat} {a0 : Nat} {i1 : Int32} {i2 : Int32} {i3 : Int32} {i4 : Int32} {i5 : Int32} {out : (Int32 × zm_S)} {S : zm_S} (h : zf_X18_sentence_J44 N a0 i1 i2 i3 i4 i5 S = some out) : zw p l e R s m args below meth c (vx_MQ below (zm_Qc zk_E V (zo_i out)) (zm_XC zk_E V zo_x) args s mc ms (fun q => V.2.2.2.1 ≤ q)) 7 zk_E V mc ms 44 [(0, .ref a0), (1, .int i1), (2, .int i2), (3, .int i3), (4, .int i4), (5, .int i5)] [] S rc rs := by
  unfold zf_X18_sentence_J44 at h
  refine zw_iload_n hX dX18_sentence_44 rfl ?_
  refine zw_iconst (v := (2 : Int32)) hX dX18_sentence_45 (by decide) ?_
  refine zw_icmp_eq (tgt := 62) hX dX18_sentence_46 (by decide) (fun c46 => ?_) (fun c46 => ?_)
  · rw [if_pos c46] at h
    refine zw_sub (lv' := [(0, .ref a0), (1, .int i1), (2, .int i2), (3, .int i3), (4, .int i4), (5, .int i5)]) (List.forall_mem_cons.mpr ⟨rfl, (List.forall_mem_cons.mpr ⟨rfl, (List.forall_mem_cons.mpr ⟨rfl, (List.forall_mem_cons.mpr ⟨rfl, (List.forall_mem_cons.mpr ⟨rfl, (List.forall_mem_cons.mpr ⟨rfl, zs_nil⟩)⟩)⟩)⟩)⟩)⟩) ?_
    exact zt_X18_sentence_J62 hX hr hR hd h
  · rw [if_neg c46] at h
    refine zw_iload_n hX dX18_sentence_49 rfl ?_
    refine zw_iconst (v := (4 : Int32)) hX dX18_sentence_50 (by decide) ?_
    refine zw_icmp_eq (tgt := 62) hX dX18_sentence_51 (by decide) (fun c51 => ?_) (fun c51 => ?_)
    · rw [if_pos c51] at h
      refine zw_sub (lv' := [(0, .ref a0), (1, .int i1), (2, .int i2), (3, .int i3), (4, .int i4), (5, .int i5)]) (List.forall_mem_cons.mpr ⟨rfl, (List.forall_mem_cons.mpr ⟨rfl, (List.forall_mem_cons.mpr ⟨rfl, (List.forall_mem_cons.mpr ⟨rfl, (List.forall_mem_cons.mpr ⟨rfl, (List.forall_mem_cons.mpr ⟨rfl, zs_nil⟩)⟩)⟩)⟩)⟩)⟩) ?_
      exact zt_X18_sentence_J62 hX hr hR hd h
    · rw [if_neg c51] at h
      refine zw_iload hX dX18_sentence_54 rfl ?_
      obtain ⟨r20, g, h⟩ := zb_some h
      refine zc_Si (as := [.int i4]) hX (zt_X14_isSaid (d := d - 1) (by omega) g) zl_X18_441 dX18_sentence_56 ⟨rfl, rfl, Nat.le_of_ble_eq_true rfl⟩ ⟨by omega, by omega⟩ ?_
      refine zw_if_eq (tgt := 66) hX dX18_sentence_59 (by decide) (fun c59 => ?_) (fun c59 => ?_)
      · rw [if_pos c59] at h
        refine zw_sub (lv' := [(0, .ref a0), (1, .int i1), (2, .int i2), (3, .int i3), (4, .int i4), (5, .int i5)]) (List.forall_mem_cons.mpr ⟨rfl, (List.forall_mem_cons.mpr ⟨rfl, (List.forall_mem_cons.mpr ⟨rfl, (List.forall_mem_cons.mpr ⟨rfl, (List.forall_mem_cons.mpr ⟨rfl, (List.forall_mem_cons.mpr ⟨rfl, zs_nil⟩)⟩)⟩)⟩)⟩)⟩) ?_
        exact zt_X18_sentence_J66 hX hr hR hd h
      · rw [if_neg c59] at h
        refine zw_sub (lv' := [(0, .ref a0), (1, .int i1), (2, .int i2), (3, .int i3), (4, .int i4), (5, .int i5)]) (List.forall_mem_cons.mpr ⟨rfl, (List.forall_mem_cons.mpr ⟨rfl, (List.forall_mem_cons.mpr ⟨rfl, (List.forall_mem_cons.mpr ⟨rfl, (List.forall_mem_cons.mpr ⟨rfl, (List.forall_mem_cons.mpr ⟨rfl, zs_nil⟩)⟩)⟩)⟩)⟩)⟩) ?_
        exact zt_X18_sentence_J62 hX hr hR hd h
set_option maxHeartbeats 4000000 in
set_option maxRecDepth 100000 in
theorem zt_X18_sentence_J25 {p : Program} {l : Launch} {e : Env} {R : Room} {s : State} {m : MethodId} {args : Array Value} {below : List Frame} {meth : Method} {c : Code} {V : zm_V} {mc ms d rc rs : Nat} (hX : zm_X p R s m args meth c RX18 "sentence" cX18_sentence 7 zk_E V mc ms) (hr : meth.sig.returnType = (some .int)) (hR : R.frames = d ∧ R.locals = 64 * d) (hd : 5 ≤ d) {N : Nat} {a0 : Nat} {i1 : Int32} {i2 : Int32} {i3 : Int32} {i4 : Int32} {i5 : Int32} {t0 : Int32} {out : (Int32 × zm_S)} {S : zm_S} (h : zf_X18_sentence_J25 N a0 i1 i2 i3 i4 i5 t0 S = some out) : zw p l e R s m args below meth c (vx_MQ below (zm_Qc zk_E V (zo_i out)) (zm_XC zk_E V zo_x) args s mc ms (fun q => V.2.2.2.1 ≤ q)) 7 zk_E V mc ms 25 [(0, .ref a0), (1, .int i1), (2, .int i2), (3, .int i3), (4, .int i4), (5, .int i5)] [.int t0] S rc rs := by
  unfold zf_X18_sentence_J25 at h
  refine zw_istore hX dX18_sentence_25 (by decide) ?_
  refine zw_iload hX dX18_sentence_27 rfl ?_
  refine zw_if_eq (tgt := 66) hX dX18_sentence_29 (by decide) (fun c29 => ?_) (fun c29 => ?_)
  · rw [if_pos c29] at h
    refine zw_sub (lv' := [(0, .ref a0), (1, .int i1), (2, .int i2), (3, .int i3), (4, .int i4), (5, .int i5)]) (List.forall_mem_cons.mpr ⟨rfl, (List.forall_mem_cons.mpr ⟨rfl, (List.forall_mem_cons.mpr ⟨rfl, (List.forall_mem_cons.mpr ⟨rfl, (List.forall_mem_cons.mpr ⟨rfl, (List.forall_mem_cons.mpr ⟨rfl, zs_nil⟩)⟩)⟩)⟩)⟩)⟩) ?_
    exact zt_X18_sentence_J66 hX hr hR hd h
  · rw [if_neg c29] at h
    refine zw_iload_n hX dX18_sentence_32 rfl ?_
    refine zw_iconst (v := (4 : Int32)) hX dX18_sentence_33 (by decide) ?_
    refine zw_icmp_eq (tgt := 44) hX dX18_sentence_34 (by decide) (fun c34 => ?_) (fun c34 => ?_)
    · rw [if_pos c34] at h
      refine zw_sub (lv' := [(0, .ref a0), (1, .int i1), (2, .int i2), (3, .int i3), (4, .int i4), (5, .int i5)]) (List.forall_mem_cons.mpr ⟨rfl, (List.forall_mem_cons.mpr ⟨rfl, (List.forall_mem_cons.mpr ⟨rfl, (List.forall_mem_cons.mpr ⟨rfl, (List.forall_mem_cons.mpr ⟨rfl, (List.forall_mem_cons.mpr ⟨rfl, zs_nil⟩)⟩)⟩)⟩)⟩)⟩) ?_
      exact zt_X18_sentence_J44 hX hr hR hd h
    · rw [if_neg c34] at h
      refine zw_iload_n hX dX18_sentence_37 rfl ?_
      obtain ⟨r22, g, h⟩ := zb_some h
      refine zc_Si (as := [.int i3]) hX (zt_X14_isSaid (d := d - 1) (by omega) g) zl_X18_441 dX18_sentence_38 ⟨rfl, rfl, Nat.le_of_ble_eq_true rfl⟩ ⟨by omega, by omega⟩ ?_
      refine zw_if_eq (tgt := 66) hX dX18_sentence_41 (by decide) (fun c41 => ?_) (fun c41 => ?_)
      · rw [if_pos c41] at h
        refine zw_sub (lv' := [(0, .ref a0), (1, .int i1), (2, .int i2), (3, .int i3), (4, .int i4), (5, .int i5)]) (List.forall_mem_cons.mpr ⟨rfl, (List.forall_mem_cons.mpr ⟨rfl, (List.forall_mem_cons.mpr ⟨rfl, (List.forall_mem_cons.mpr ⟨rfl, (List.forall_mem_cons.mpr ⟨rfl, (List.forall_mem_cons.mpr ⟨rfl, zs_nil⟩)⟩)⟩)⟩)⟩)⟩) ?_
        exact zt_X18_sentence_J66 hX hr hR hd h
      · rw [if_neg c41] at h
        refine zw_sub (lv' := [(0, .ref a0), (1, .int i1), (2, .int i2), (3, .int i3), (4, .int i4), (5, .int i5)]) (List.forall_mem_cons.mpr ⟨rfl, (List.forall_mem_cons.mpr ⟨rfl, (List.forall_mem_cons.mpr ⟨rfl, (List.forall_mem_cons.mpr ⟨rfl, (List.forall_mem_cons.mpr ⟨rfl, (List.forall_mem_cons.mpr ⟨rfl, zs_nil⟩)⟩)⟩)⟩)⟩)⟩) ?_
        exact zt_X18_sentence_J44 hX hr hR hd h
set_option maxHeartbeats 4000000 in
set_option maxRecDepth 100000 in
theorem zt_X18_sentence_J24 {p : Program} {l : Launch} {e : Env} {R : Room} {s : State} {m : MethodId} {args : Array Value} {below : List Frame} {meth : Method} {c : Code} {V : zm_V} {mc ms d rc rs : Nat} (hX : zm_X p R s m args meth c RX18 "sentence" cX18_sentence 7 zk_E V mc ms) (hr : meth.sig.returnType = (some .int)) (hR : R.frames = d ∧ R.locals = 64 * d) (hd : 5 ≤ d) {N : Nat} {a0 : Nat} {i1 : Int32} {i2 : Int32} {i3 : Int32} {i4 : Int32} {i5 : Int32} {out : (Int32 × zm_S)} {S : zm_S} (h : zf_X18_sentence_J24 N a0 i1 i2 i3 i4 i5 S = some out) : zw p l e R s m args below meth c (vx_MQ below (zm_Qc zk_E V (zo_i out)) (zm_XC zk_E V zo_x) args s mc ms (fun q => V.2.2.2.1 ≤ q)) 7 zk_E V mc ms 24 [(0, .ref a0), (1, .int i1), (2, .int i2), (3, .int i3), (4, .int i4), (5, .int i5)] [] S rc rs := by
  unfold zf_X18_sentence_J24 at h
  refine zw_iconst (v := (0 : Int32)) hX dX18_sentence_24 (by decide) ?_
  refine zw_sub (lv' := [(0, .ref a0), (1, .int i1), (2, .int i2), (3, .int i3), (4, .int i4), (5, .int i5)]) (List.forall_mem_cons.mpr ⟨rfl, (List.forall_mem_cons.mpr ⟨rfl, (List.forall_mem_cons.mpr ⟨rfl, (List.forall_mem_cons.mpr ⟨rfl, (List.forall_mem_cons.mpr ⟨rfl, (List.forall_mem_cons.mpr ⟨rfl, zs_nil⟩)⟩)⟩)⟩)⟩)⟩) ?_
  exact zt_X18_sentence_J25 hX hr hR hd h
set_option maxHeartbeats 4000000 in
set_option maxRecDepth 100000 in
theorem zt_X18_sentence {l : Launch} {V : zm_V} {N : Nat} {S : zm_S} {out : (Int32 × zm_S)} {d : Nat} {a0 : Nat} {i1 : Int32} {i2 : Int32} {i3 : Int32} {i4 : Int32} {i5 : Int32} (hd : 5 ≤ d) (h : zf_X18_sentence N a0 i1 i2 i3 i4 i5 S = some out) : zm_Met l zk_E V yX18_sentence (.code yX18_sentence cX18_sentence 7 (some .int)) d [.ref a0, .int i1, .int i2, .int i3, .int i4, .int i5] S 0 0 (zo_i out) zo_x := by
  refine zm_of (by decide +kernel) (Nat.le_of_ble_eq_true rfl) ?_
  intro p e R s m args below meth c hRR hX hr hxt
  have hR : R.frames = d ∧ R.locals = 64 * d := by rw [hRR]; exact ⟨rfl, rfl⟩
  have hX : zm_X p R s m args meth c RX18 "sentence" cX18_sentence 7 zk_E V 0 0 := hX
  unfold zf_X18_sentence at h
  refine zw_sub (lv' := [(0, .ref a0), (1, .int i1), (2, .int i2), (3, .int i3), (4, .int i4), (5, .int i5)]) (List.forall_mem_cons.mpr ⟨rfl, (List.forall_mem_cons.mpr ⟨rfl, (List.forall_mem_cons.mpr ⟨rfl, (List.forall_mem_cons.mpr ⟨rfl, (List.forall_mem_cons.mpr ⟨rfl, (List.forall_mem_cons.mpr ⟨rfl, zs_nil⟩)⟩)⟩)⟩)⟩)⟩) ?_
  refine zw_aload_n hX dX18_sentence_0 rfl ?_
  refine zw_iconst (v := (0 : Int32)) hX dX18_sentence_1 (by decide) ?_
  obtain ⟨S1, g, h⟩ := zb_some h
  refine zw_putv hX zl_X18_184 zt_18_0 dX18_sentence_2 rfl rfl g ?_
  refine zw_iload_n hX dX18_sentence_5 rfl ?_
  refine zw_iconst (v := (5 : Int32)) hX dX18_sentence_6 (by decide) ?_
  obtain ⟨r3, g, h⟩ := zb_some h
  refine zc_Si (as := [.int i1, .int (5 : Int32)]) hX (zt_X18_isIn (d := d - 1) (by omega) g) zl_X18_207 dX18_sentence_7 ⟨rfl, rfl, Nat.le_of_ble_eq_true rfl⟩ ⟨by omega, by omega⟩ ?_
  refine zw_if_eq (tgt := 24) hX dX18_sentence_10 (by decide) (fun c10 => ?_) (fun c10 => ?_)
  · rw [if_pos c10] at h
    refine zw_sub (lv' := [(0, .ref a0), (1, .int i1), (2, .int i2), (3, .int i3), (4, .int i4), (5, .int i5)]) (List.forall_mem_cons.mpr ⟨rfl, (List.forall_mem_cons.mpr ⟨rfl, (List.forall_mem_cons.mpr ⟨rfl, (List.forall_mem_cons.mpr ⟨rfl, (List.forall_mem_cons.mpr ⟨rfl, (List.forall_mem_cons.mpr ⟨rfl, zs_nil⟩)⟩)⟩)⟩)⟩)⟩) ?_
    exact zt_X18_sentence_J24 hX hr hR hd h
  · rw [if_neg c10] at h
    refine zw_iload_n hX dX18_sentence_13 rfl ?_
    obtain ⟨r24, g, h⟩ := zb_some h
    refine zc_Si (as := [.int i2]) hX (zt_X14_isSaid (d := d - 1) (by omega) g) zl_X18_441 dX18_sentence_14 ⟨rfl, rfl, Nat.le_of_ble_eq_true rfl⟩ ⟨by omega, by omega⟩ ?_
    refine zw_if_eq (tgt := 24) hX dX18_sentence_17 (by decide) (fun c17 => ?_) (fun c17 => ?_)
    · rw [if_pos c17] at h
      refine zw_sub (lv' := [(0, .ref a0), (1, .int i1), (2, .int i2), (3, .int i3), (4, .int i4), (5, .int i5)]) (List.forall_mem_cons.mpr ⟨rfl, (List.forall_mem_cons.mpr ⟨rfl, (List.forall_mem_cons.mpr ⟨rfl, (List.forall_mem_cons.mpr ⟨rfl, (List.forall_mem_cons.mpr ⟨rfl, (List.forall_mem_cons.mpr ⟨rfl, zs_nil⟩)⟩)⟩)⟩)⟩)⟩) ?_
      exact zt_X18_sentence_J24 hX hr hR hd h
    · rw [if_neg c17] at h
      refine zw_iconst (v := (1 : Int32)) hX dX18_sentence_20 (by decide) ?_
      refine zw_goto (tgt := 25) hX dX18_sentence_21 (by decide) ?_
      refine zw_sub (lv' := [(0, .ref a0), (1, .int i1), (2, .int i2), (3, .int i3), (4, .int i4), (5, .int i5)]) (List.forall_mem_cons.mpr ⟨rfl, (List.forall_mem_cons.mpr ⟨rfl, (List.forall_mem_cons.mpr ⟨rfl, (List.forall_mem_cons.mpr ⟨rfl, (List.forall_mem_cons.mpr ⟨rfl, (List.forall_mem_cons.mpr ⟨rfl, zs_nil⟩)⟩)⟩)⟩)⟩)⟩) ?_
      exact zt_X18_sentence_J25 hX hr hR hd h
set_option maxHeartbeats 4000000 in
set_option maxRecDepth 100000 in
theorem zt_X18_cutText_J21 {p : Program} {l : Launch} {e : Env} {R : Room} {s : State} {m : MethodId} {args : Array Value} {below : List Frame} {meth : Method} {c : Code} {V : zm_V} {mc ms d rc rs : Nat} (hX : zm_X p R s m args meth c RX18 "cutText" cX18_cutText 2 zk_E V mc ms) (hr : meth.sig.returnType = (some .int)) (hR : R.frames = d ∧ R.locals = 64 * d) (hd : 2 ≤ d) {N : Nat} {a0 : Nat} {i1 : Int32} {t0 : Nat} {t1 : Int32} {out : (Int32 × zm_S)} {S : zm_S} (h : zf_X18_cutText_J21 N a0 i1 t0 t1 S = some out) : zw p l e R s m args below meth c (vx_MQ below (zm_Qc zk_E V (zo_i out)) (zm_XC zk_E V zo_x) args s mc ms (fun q => V.2.2.2.1 ≤ q)) 2 zk_E V mc ms 21 [(0, .ref a0), (1, .int i1)] [.int t1, .ref t0] S rc rs := by
  unfold zf_X18_cutText_J21 at h
  refine zw_aload_n hX dX18_cutText_21 rfl ?_
  obtain ⟨v1, g, h⟩ := zb_some h
  refine zw_geti hX zl_X18_192 dX18_cutText_22 g ?_
  obtain ⟨_, gi, h⟩ := zb_some h
  obtain ⟨r3, g, h⟩ := zb_some h
  refine zc_Vi (as := [.int t1, .int v1]) hX gi (zt_X18_goes (d := d - 1) (by omega) g) zl_X18_199 rfl dX18_cutText_25 ⟨rfl, rfl, Nat.le_of_ble_eq_true rfl⟩ ⟨by omega, by omega⟩ ?_
  refine zw_if_ne (tgt := 33) hX dX18_cutText_28 (by decide) (fun c28 => ?_) (fun c28 => ?_)
  · rw [if_neg c28] at h
    refine zw_aload_n hX dX18_cutText_33 rfl ?_
    obtain ⟨b4, g, h⟩ := zb_some h
    refine zw_getr hX zl_X18_28 dX18_cutText_34 g ?_
    refine zw_dup hX dX18_cutText_37 rfl ?_
    obtain ⟨v5, g, h⟩ := zb_some h
    refine zw_geti hX zl_X18_437 dX18_cutText_38 g ?_
    refine zw_iload_n hX dX18_cutText_41 rfl ?_
    refine zw_isub hX dX18_cutText_42 ?_
    obtain ⟨S6, g, h⟩ := zb_some h
    refine zw_putv hX zl_X18_437 zt_14_6 dX18_cutText_43 rfl rfl g ?_
    refine zw_aload_n hX dX18_cutText_46 rfl ?_
    obtain ⟨b7, g, h⟩ := zb_some h
    refine zw_getr hX zl_X18_28 dX18_cutText_47 g ?_
    obtain ⟨v8, g, h⟩ := zb_some h
    refine zw_geti hX zl_X18_437 dX18_cutText_50 g ?_
    obtain rfl := Option.some.inj h
    exact zw_iret hX hr dX18_cutText_53 rfl ⟨rfl, rfl⟩
  · rw [if_pos c28] at h
    refine zw_iconst (v := (0 : Int32)) hX dX18_cutText_31 (by decide) ?_
    obtain rfl := Option.some.inj h
    exact zw_iret hX hr dX18_cutText_32 rfl ⟨rfl, rfl⟩
set_option maxHeartbeats 4000000 in
set_option maxRecDepth 100000 in
theorem zt_X18_cutText_J20 {p : Program} {l : Launch} {e : Env} {R : Room} {s : State} {m : MethodId} {args : Array Value} {below : List Frame} {meth : Method} {c : Code} {V : zm_V} {mc ms d rc rs : Nat} (hX : zm_X p R s m args meth c RX18 "cutText" cX18_cutText 2 zk_E V mc ms) (hr : meth.sig.returnType = (some .int)) (hR : R.frames = d ∧ R.locals = 64 * d) (hd : 2 ≤ d) {N : Nat} {a0 : Nat} {i1 : Int32} {t0 : Nat} {out : (Int32 × zm_S)} {S : zm_S} (h : zf_X18_cutText_J20 N a0 i1 t0 S = some out) : zw p l e R s m args below meth c (vx_MQ below (zm_Qc zk_E V (zo_i out)) (zm_XC zk_E V zo_x) args s mc ms (fun q => V.2.2.2.1 ≤ q)) 2 zk_E V mc ms 20 [(0, .ref a0), (1, .int i1)] [.ref t0] S rc rs := by
  unfold zf_X18_cutText_J20 at h
  refine zw_iconst (v := (0 : Int32)) hX dX18_cutText_20 (by decide) ?_
  refine zw_sub (lv' := [(0, .ref a0), (1, .int i1)]) (List.forall_mem_cons.mpr ⟨rfl, (List.forall_mem_cons.mpr ⟨rfl, zs_nil⟩)⟩) ?_
  exact zt_X18_cutText_J21 hX hr hR hd h
set_option maxHeartbeats 4000000 in
set_option maxRecDepth 100000 in
theorem zt_X18_cutText {l : Launch} {V : zm_V} {N : Nat} {S : zm_S} {out : (Int32 × zm_S)} {d : Nat} {a0 : Nat} {i1 : Int32} (hd : 2 ≤ d) (h : zf_X18_cutText N a0 i1 S = some out) : zm_Met l zk_E V yX18_cutText (.code yX18_cutText cX18_cutText 2 (some .int)) d [.ref a0, .int i1] S 0 0 (zo_i out) zo_x := by
  refine zm_of (by decide +kernel) (Nat.le_of_ble_eq_true rfl) ?_
  intro p e R s m args below meth c hRR hX hr hxt
  have hR : R.frames = d ∧ R.locals = 64 * d := by rw [hRR]; exact ⟨rfl, rfl⟩
  have hX : zm_X p R s m args meth c RX18 "cutText" cX18_cutText 2 zk_E V 0 0 := hX
  unfold zf_X18_cutText at h
  refine zw_sub (lv' := [(0, .ref a0), (1, .int i1)]) (List.forall_mem_cons.mpr ⟨rfl, (List.forall_mem_cons.mpr ⟨rfl, zs_nil⟩)⟩) ?_
  refine zw_aload_n hX dX18_cutText_0 rfl ?_
  refine zw_iload_n hX dX18_cutText_1 rfl ?_
  refine zw_if_lt (tgt := 20) hX dX18_cutText_2 (by decide) (fun c2 => ?_) (fun c2 => ?_)
  · rw [if_pos c2] at h
    refine zw_sub (lv' := [(0, .ref a0), (1, .int i1)]) (List.forall_mem_cons.mpr ⟨rfl, (List.forall_mem_cons.mpr ⟨rfl, zs_nil⟩)⟩) ?_
    exact zt_X18_cutText_J20 hX hr hR hd h
  · rw [if_neg c2] at h
    refine zw_iload_n hX dX18_cutText_5 rfl ?_
    refine zw_aload_n hX dX18_cutText_6 rfl ?_
    obtain ⟨b9, g, h⟩ := zb_some h
    refine zw_getr hX zl_X18_28 dX18_cutText_7 g ?_
    obtain ⟨v10, g, h⟩ := zb_some h
    refine zw_geti hX zl_X18_437 dX18_cutText_10 g ?_
    refine zw_icmp_gt (tgt := 20) hX dX18_cutText_13 (by decide) (fun c13 => ?_) (fun c13 => ?_)
    · rw [if_pos c13] at h
      refine zw_sub (lv' := [(0, .ref a0), (1, .int i1)]) (List.forall_mem_cons.mpr ⟨rfl, (List.forall_mem_cons.mpr ⟨rfl, zs_nil⟩)⟩) ?_
      exact zt_X18_cutText_J20 hX hr hR hd h
    · rw [if_neg c13] at h
      refine zw_iconst (v := (1 : Int32)) hX dX18_cutText_16 (by decide) ?_
      refine zw_goto (tgt := 21) hX dX18_cutText_17 (by decide) ?_
      refine zw_sub (lv' := [(0, .ref a0), (1, .int i1)]) (List.forall_mem_cons.mpr ⟨rfl, (List.forall_mem_cons.mpr ⟨rfl, zs_nil⟩)⟩) ?_
      exact zt_X18_cutText_J21 hX hr hR hd h
set_option maxHeartbeats 4000000 in
set_option maxRecDepth 100000 in
theorem zt_X18_matrix {l : Launch} {V : zm_V} {N : Nat} {S : zm_S} {out : (Int32 × zm_S)} {d : Nat} {a0 : Nat} (hd : 7 ≤ d) (h : zf_X18_matrix N a0 S = some out) : zm_Met l zk_E V yX18_matrix (.code yX18_matrix cX18_matrix 1 (some .int)) d [.ref a0] S 0 0 (zo_i out) zo_x := by
  refine zm_of (by decide +kernel) (Nat.le_of_ble_eq_true rfl) ?_
  intro p e R s m args below meth c hRR hX hr hxt
  have hR : R.frames = d ∧ R.locals = 64 * d := by rw [hRR]; exact ⟨rfl, rfl⟩
  have hX : zm_X p R s m args meth c RX18 "matrix" cX18_matrix 1 zk_E V 0 0 := hX
  unfold zf_X18_matrix at h
  refine zw_sub (lv' := [(0, .ref a0)]) (List.forall_mem_cons.mpr ⟨rfl, zs_nil⟩) ?_
  refine zw_aload_n hX dX18_matrix_0 rfl ?_
  refine zw_aload_n hX dX18_matrix_1 rfl ?_
  obtain ⟨v1, g, h⟩ := zb_some h
  refine zw_geti hX zl_X18_192 dX18_matrix_2 g ?_
  obtain ⟨_, gi, h⟩ := zb_some h
  obtain ⟨r3, g, h⟩ := zb_some h
  refine zc_Vi (as := [.int v1]) hX gi (zt_X18_stays (d := d - 1) (by omega) g) zl_X18_230 rfl dX18_matrix_5 ⟨rfl, rfl, Nat.le_of_ble_eq_true rfl⟩ ⟨by omega, by omega⟩ ?_
  refine zw_if_eq (tgt := 21) hX dX18_matrix_8 (by decide) (fun c8 => ?_) (fun c8 => ?_)
  · rw [if_pos c8] at h
    refine zw_iconst (v := (0 : Int32)) hX dX18_matrix_21 (by decide) ?_
    obtain rfl := Option.some.inj h
    exact zw_iret hX hr dX18_matrix_22 rfl ⟨rfl, rfl⟩
  · rw [if_neg c8] at h
    refine zw_aload_n hX dX18_matrix_11 rfl ?_
    obtain ⟨b4, g, h⟩ := zb_some h
    refine zw_getr hX zl_X18_28 dX18_matrix_12 g ?_
    obtain ⟨_, gi, h⟩ := zb_some h
    obtain ⟨r6, g, h⟩ := zb_some h
    refine zc_Vi (as := []) hX gi (zt_X14_read (d := d - 1) (by omega) g) zl_X18_453 rfl dX18_matrix_15 ⟨rfl, rfl, Nat.le_of_ble_eq_true rfl⟩ ⟨by omega, by omega⟩ ?_
    refine zw_goto (tgt := 22) hX dX18_matrix_18 (by decide) ?_
    obtain rfl := Option.some.inj h
    exact zw_iret hX hr dX18_matrix_22 rfl ⟨rfl, rfl⟩
set_option maxHeartbeats 4000000 in
set_option maxRecDepth 100000 in
theorem zt_X18_signal_J30 {p : Program} {l : Launch} {e : Env} {R : Room} {s : State} {m : MethodId} {args : Array Value} {below : List Frame} {meth : Method} {c : Code} {V : zm_V} {mc ms d rc rs : Nat} (hX : zm_X p R s m args meth c RX18 "signal" cX18_signal 4 zk_E V mc ms) (hr : meth.sig.returnType = (some .int)) (hR : R.frames = d ∧ R.locals = 64 * d) (hd : 2 ≤ d) {N : Nat} {a0 : Nat} {i1 : Int32} {i2 : Int32} {t0 : Nat} {t1 : Int32} {out : (Int32 × zm_S)} {S : zm_S} (h : zf_X18_signal_J30 N a0 i1 i2 t0 t1 S = some out) : zw p l e R s m args below meth c (vx_MQ below (zm_Qc zk_E V (zo_i out)) (zm_XC zk_E V zo_x) args s mc ms (fun q => V.2.2.2.1 ≤ q)) 4 zk_E V mc ms 30 [(0, .ref a0), (1, .int i1), (2, .int i2)] [.int t1, .ref t0] S rc rs := by
  unfold zf_X18_signal_J30 at h
  refine zw_aload_n hX dX18_signal_30 rfl ?_
  obtain ⟨v5, g, h⟩ := zb_some h
  refine zw_geti hX zl_X18_192 dX18_signal_31 g ?_
  obtain ⟨_, gi, h⟩ := zb_some h
  obtain ⟨r7, g, h⟩ := zb_some h
  refine zc_Vi (as := [.int t1, .int v5]) hX gi (zt_X18_goes (d := d - 1) (by omega) g) zl_X18_199 rfl dX18_signal_34 ⟨rfl, rfl, Nat.le_of_ble_eq_true rfl⟩ ⟨by omega, by omega⟩ ?_
  refine zw_if_ne (tgt := 42) hX dX18_signal_37 (by decide) (fun c37 => ?_) (fun c37 => ?_)
  · rw [if_neg c37] at h
    refine zw_aload_n hX dX18_signal_42 rfl ?_
    obtain ⟨b8, g, h⟩ := zb_some h
    refine zw_getr hX zl_X18_28 dX18_signal_43 g ?_
    obtain ⟨b9, g, h⟩ := zb_some h
    refine zw_getr hX zl_X18_454 dX18_signal_46 g ?_
    refine zw_iload_n hX dX18_signal_49 rfl ?_
    obtain ⟨v10, g, h⟩ := zb_some h
    refine zw_xi hX dX18_signal_50 g ?_
    refine zw_istore_n hX dX18_signal_51 (by decide) ?_
    refine zw_aload_n hX dX18_signal_52 rfl ?_
    obtain ⟨b11, g, h⟩ := zb_some h
    refine zw_getr hX zl_X18_28 dX18_signal_53 g ?_
    obtain ⟨b12, g, h⟩ := zb_some h
    refine zw_getr hX zl_X18_454 dX18_signal_56 g ?_
    refine zw_iload_n hX dX18_signal_59 rfl ?_
    refine zw_iload_n hX dX18_signal_60 rfl ?_
    obtain ⟨S13, g, h⟩ := zb_some h
    refine zw_si hX dX18_signal_61 g ?_
    refine zw_iload_n hX dX18_signal_62 rfl ?_
    obtain rfl := Option.some.inj h
    exact zw_iret hX hr dX18_signal_63 rfl ⟨rfl, rfl⟩
  · rw [if_pos c37] at h
    refine zw_iconst (v := (0 : Int32)) hX dX18_signal_40 (by decide) ?_
    obtain rfl := Option.some.inj h
    exact zw_iret hX hr dX18_signal_41 rfl ⟨rfl, rfl⟩
set_option maxHeartbeats 4000000 in
set_option maxRecDepth 100000 in
theorem zt_X18_signal_J29 {p : Program} {l : Launch} {e : Env} {R : Room} {s : State} {m : MethodId} {args : Array Value} {below : List Frame} {meth : Method} {c : Code} {V : zm_V} {mc ms d rc rs : Nat} (hX : zm_X p R s m args meth c RX18 "signal" cX18_signal 4 zk_E V mc ms) (hr : meth.sig.returnType = (some .int)) (hR : R.frames = d ∧ R.locals = 64 * d) (hd : 2 ≤ d) {N : Nat} {a0 : Nat} {i1 : Int32} {i2 : Int32} {t0 : Nat} {out : (Int32 × zm_S)} {S : zm_S} (h : zf_X18_signal_J29 N a0 i1 i2 t0 S = some out) : zw p l e R s m args below meth c (vx_MQ below (zm_Qc zk_E V (zo_i out)) (zm_XC zk_E V zo_x) args s mc ms (fun q => V.2.2.2.1 ≤ q)) 4 zk_E V mc ms 29 [(0, .ref a0), (1, .int i1), (2, .int i2)] [.ref t0] S rc rs := by
  unfold zf_X18_signal_J29 at h
  refine zw_iconst (v := (0 : Int32)) hX dX18_signal_29 (by decide) ?_
  refine zw_sub (lv' := [(0, .ref a0), (1, .int i1), (2, .int i2)]) (List.forall_mem_cons.mpr ⟨rfl, (List.forall_mem_cons.mpr ⟨rfl, (List.forall_mem_cons.mpr ⟨rfl, zs_nil⟩)⟩)⟩) ?_
  exact zt_X18_signal_J30 hX hr hR hd h
set_option maxHeartbeats 4000000 in
set_option maxRecDepth 100000 in
theorem zt_X18_signal {l : Launch} {V : zm_V} {N : Nat} {S : zm_S} {out : (Int32 × zm_S)} {d : Nat} {a0 : Nat} {i1 : Int32} {i2 : Int32} (hd : 2 ≤ d) (h : zf_X18_signal N a0 i1 i2 S = some out) : zm_Met l zk_E V yX18_signal (.code yX18_signal cX18_signal 4 (some .int)) d [.ref a0, .int i1, .int i2] S 0 0 (zo_i out) zo_x := by
  refine zm_of (by decide +kernel) (Nat.le_of_ble_eq_true rfl) ?_
  intro p e R s m args below meth c hRR hX hr hxt
  have hR : R.frames = d ∧ R.locals = 64 * d := by rw [hRR]; exact ⟨rfl, rfl⟩
  have hX : zm_X p R s m args meth c RX18 "signal" cX18_signal 4 zk_E V 0 0 := hX
  unfold zf_X18_signal at h
  refine zw_sub (lv' := [(0, .ref a0), (1, .int i1), (2, .int i2)]) (List.forall_mem_cons.mpr ⟨rfl, (List.forall_mem_cons.mpr ⟨rfl, (List.forall_mem_cons.mpr ⟨rfl, zs_nil⟩)⟩)⟩) ?_
  refine zw_aload_n hX dX18_signal_0 rfl ?_
  refine zw_iload_n hX dX18_signal_1 rfl ?_
  refine zw_aload_n hX dX18_signal_2 rfl ?_
  obtain ⟨b1, g, h⟩ := zb_some h
  refine zw_getr hX zl_X18_28 dX18_signal_3 g ?_
  obtain ⟨v2, g, h⟩ := zb_some h
  refine zw_geti hX zl_X18_358 dX18_signal_6 g ?_
  obtain ⟨r4, g, h⟩ := zb_some h
  refine zc_Si (as := [.int i1, .int v2]) hX (zt_X18_isIn (d := d - 1) (by omega) g) zl_X18_207 dX18_signal_9 ⟨rfl, rfl, Nat.le_of_ble_eq_true rfl⟩ ⟨by omega, by omega⟩ ?_
  refine zw_if_eq (tgt := 29) hX dX18_signal_12 (by decide) (fun c12 => ?_) (fun c12 => ?_)
  · rw [if_pos c12] at h
    refine zw_sub (lv' := [(0, .ref a0), (1, .int i1), (2, .int i2)]) (List.forall_mem_cons.mpr ⟨rfl, (List.forall_mem_cons.mpr ⟨rfl, (List.forall_mem_cons.mpr ⟨rfl, zs_nil⟩)⟩)⟩) ?_
    exact zt_X18_signal_J29 hX hr hR hd h
  · rw [if_neg c12] at h
    refine zw_iload_n hX dX18_signal_15 rfl ?_
    refine zw_if_lt (tgt := 29) hX dX18_signal_16 (by decide) (fun c16 => ?_) (fun c16 => ?_)
    · rw [if_pos c16] at h
      refine zw_sub (lv' := [(0, .ref a0), (1, .int i1), (2, .int i2)]) (List.forall_mem_cons.mpr ⟨rfl, (List.forall_mem_cons.mpr ⟨rfl, (List.forall_mem_cons.mpr ⟨rfl, zs_nil⟩)⟩)⟩) ?_
      exact zt_X18_signal_J29 hX hr hR hd h
    · rw [if_neg c16] at h
      refine zw_iload_n hX dX18_signal_19 rfl ?_
      refine zw_bipush (v := (100 : Int32)) hX dX18_signal_20 (by decide) ?_
      refine zw_icmp_gt (tgt := 29) hX dX18_signal_22 (by decide) (fun c22 => ?_) (fun c22 => ?_)
      · rw [if_pos c22] at h
        refine zw_sub (lv' := [(0, .ref a0), (1, .int i1), (2, .int i2)]) (List.forall_mem_cons.mpr ⟨rfl, (List.forall_mem_cons.mpr ⟨rfl, (List.forall_mem_cons.mpr ⟨rfl, zs_nil⟩)⟩)⟩) ?_
        exact zt_X18_signal_J29 hX hr hR hd h
      · rw [if_neg c22] at h
        refine zw_iconst (v := (1 : Int32)) hX dX18_signal_25 (by decide) ?_
        refine zw_goto (tgt := 30) hX dX18_signal_26 (by decide) ?_
        refine zw_sub (lv' := [(0, .ref a0), (1, .int i1), (2, .int i2)]) (List.forall_mem_cons.mpr ⟨rfl, (List.forall_mem_cons.mpr ⟨rfl, (List.forall_mem_cons.mpr ⟨rfl, zs_nil⟩)⟩)⟩) ?_
        exact zt_X18_signal_J30 hX hr hR hd h
set_option maxHeartbeats 4000000 in
set_option maxRecDepth 100000 in
theorem zt_X18_fault {l : Launch} {V : zm_V} {N : Nat} {S : zm_S} {out : (Int32 × zm_S)} {d : Nat} {a0 : Nat} {i1 : Int32} {i2 : Int32} (hd : 2 ≤ d) (h : zf_X18_fault N a0 i1 i2 S = some out) : zm_Met l zk_E V yX18_fault (.code yX18_fault cX18_fault 4 (some .boolean)) d [.ref a0, .int i1, .int i2] S 0 0 (zo_i out) zo_x := by
  refine zm_of (by decide +kernel) (Nat.le_of_ble_eq_true rfl) ?_
  intro p e R s m args below meth c hRR hX hr hxt
  have hR : R.frames = d ∧ R.locals = 64 * d := by rw [hRR]; exact ⟨rfl, rfl⟩
  have hX : zm_X p R s m args meth c RX18 "fault" cX18_fault 4 zk_E V 0 0 := hX
  unfold zf_X18_fault at h
  refine zw_sub (lv' := [(0, .ref a0), (1, .int i1), (2, .int i2)]) (List.forall_mem_cons.mpr ⟨rfl, (List.forall_mem_cons.mpr ⟨rfl, (List.forall_mem_cons.mpr ⟨rfl, zs_nil⟩)⟩)⟩) ?_
  refine zw_aload_n hX dX18_fault_0 rfl ?_
  refine zw_iload_n hX dX18_fault_1 rfl ?_
  refine zw_aload_n hX dX18_fault_2 rfl ?_
  obtain ⟨b1, g, h⟩ := zb_some h
  refine zw_getr hX zl_X18_28 dX18_fault_3 g ?_
  obtain ⟨v2, g, h⟩ := zb_some h
  refine zw_geti hX zl_X18_358 dX18_fault_6 g ?_
  obtain ⟨r4, g, h⟩ := zb_some h
  refine zc_Si (as := [.int i1, .int v2]) hX (zt_X18_isIn (d := d - 1) (by omega) g) zl_X18_207 dX18_fault_9 ⟨rfl, rfl, Nat.le_of_ble_eq_true rfl⟩ ⟨by omega, by omega⟩ ?_
  refine zw_aload_n hX dX18_fault_12 rfl ?_
  obtain ⟨v5, g, h⟩ := zb_some h
  refine zw_geti hX zl_X18_192 dX18_fault_13 g ?_
  obtain ⟨_, gi, h⟩ := zb_some h
  obtain ⟨r7, g, h⟩ := zb_some h
  refine zc_Vi (as := [.int r4.1, .int v5]) hX gi (zt_X18_goes (d := d - 1) (by omega) g) zl_X18_199 rfl dX18_fault_16 ⟨rfl, rfl, Nat.le_of_ble_eq_true rfl⟩ ⟨by omega, by omega⟩ ?_
  refine zw_if_ne (tgt := 24) hX dX18_fault_19 (by decide) (fun c19 => ?_) (fun c19 => ?_)
  · rw [if_neg c19] at h
    refine zw_aload_n hX dX18_fault_24 rfl ?_
    obtain ⟨b8, g, h⟩ := zb_some h
    refine zw_getr hX zl_X18_28 dX18_fault_25 g ?_
    obtain ⟨b9, g, h⟩ := zb_some h
    refine zw_getr hX zl_X18_457 dX18_fault_28 g ?_
    refine zw_iload_n hX dX18_fault_31 rfl ?_
    obtain ⟨v10, g, h⟩ := zb_some h
    refine zw_xz hX dX18_fault_32 g ?_
    refine zw_istore_n hX dX18_fault_33 (by decide) ?_
    refine zw_aload_n hX dX18_fault_34 rfl ?_
    obtain ⟨b11, g, h⟩ := zb_some h
    refine zw_getr hX zl_X18_28 dX18_fault_35 g ?_
    obtain ⟨b12, g, h⟩ := zb_some h
    refine zw_getr hX zl_X18_457 dX18_fault_38 g ?_
    refine zw_iload_n hX dX18_fault_41 rfl ?_
    refine zw_iload_n hX dX18_fault_42 rfl ?_
    obtain ⟨S13, g, h⟩ := zb_some h
    refine zw_sz hX dX18_fault_43 g ?_
    refine zw_iload_n hX dX18_fault_44 rfl ?_
    by_cases cz : v10 = 0 ∨ v10 = 1
    · rw [if_pos cz] at h
      obtain rfl := Option.some.inj h
      exact zw_iret hX hr dX18_fault_45 (zn_z cz) ⟨rfl, rfl⟩
    · rw [if_neg cz] at h
      cases h
  · rw [if_pos c19] at h
    refine zw_iconst (v := (0 : Int32)) hX dX18_fault_22 (by decide) ?_
    obtain rfl := Option.some.inj h
    exact zw_iret hX hr dX18_fault_23 rfl ⟨rfl, rfl⟩
set_option maxHeartbeats 4000000 in
set_option maxRecDepth 100000 in
theorem zt_X18_disable_J31 {p : Program} {l : Launch} {e : Env} {R : Room} {s : State} {m : MethodId} {args : Array Value} {below : List Frame} {meth : Method} {c : Code} {V : zm_V} {mc ms d rc rs : Nat} (hX : zm_X p R s m args meth c RX18 "disable" cX18_disable 4 zk_E V mc ms) (hr : meth.sig.returnType = (some .int)) (hR : R.frames = d ∧ R.locals = 64 * d) (hd : 2 ≤ d) {N : Nat} {a0 : Nat} {i1 : Int32} {i2 : Int32} {t0 : Nat} {t1 : Int32} {out : (Int32 × zm_S)} {S : zm_S} (h : zf_X18_disable_J31 N a0 i1 i2 t0 t1 S = some out) : zw p l e R s m args below meth c (vx_MQ below (zm_Qc zk_E V (zo_i out)) (zm_XC zk_E V zo_x) args s mc ms (fun q => V.2.2.2.1 ≤ q)) 4 zk_E V mc ms 31 [(0, .ref a0), (1, .int i1), (2, .int i2)] [.int t1, .ref t0] S rc rs := by
  unfold zf_X18_disable_J31 at h
  refine zw_aload_n hX dX18_disable_31 rfl ?_
  obtain ⟨v5, g, h⟩ := zb_some h
  refine zw_geti hX zl_X18_192 dX18_disable_32 g ?_
  obtain ⟨_, gi, h⟩ := zb_some h
  obtain ⟨r7, g, h⟩ := zb_some h
  refine zc_Vi (as := [.int t1, .int v5]) hX gi (zt_X18_goes (d := d - 1) (by omega) g) zl_X18_199 rfl dX18_disable_35 ⟨rfl, rfl, Nat.le_of_ble_eq_true rfl⟩ ⟨by omega, by omega⟩ ?_
  refine zw_if_ne (tgt := 43) hX dX18_disable_38 (by decide) (fun c38 => ?_) (fun c38 => ?_)
  · rw [if_neg c38] at h
    refine zw_aload_n hX dX18_disable_43 rfl ?_
    obtain ⟨b8, g, h⟩ := zb_some h
    refine zw_getr hX zl_X18_28 dX18_disable_44 g ?_
    obtain ⟨b9, g, h⟩ := zb_some h
    refine zw_getr hX zl_X18_460 dX18_disable_47 g ?_
    refine zw_iload_n hX dX18_disable_50 rfl ?_
    obtain ⟨v10, g, h⟩ := zb_some h
    refine zw_xi hX dX18_disable_51 g ?_
    refine zw_istore_n hX dX18_disable_52 (by decide) ?_
    refine zw_aload_n hX dX18_disable_53 rfl ?_
    obtain ⟨b11, g, h⟩ := zb_some h
    refine zw_getr hX zl_X18_28 dX18_disable_54 g ?_
    obtain ⟨b12, g, h⟩ := zb_some h
    refine zw_getr hX zl_X18_460 dX18_disable_57 g ?_
    refine zw_iload_n hX dX18_disable_60 rfl ?_
    refine zw_iload_n hX dX18_disable_61 rfl ?_
    obtain ⟨S13, g, h⟩ := zb_some h
    refine zw_si hX dX18_disable_62 g ?_
    refine zw_iload_n hX dX18_disable_63 rfl ?_
    obtain rfl := Option.some.inj h
    exact zw_iret hX hr dX18_disable_64 rfl ⟨rfl, rfl⟩
  · rw [if_pos c38] at h
    refine zw_iconst (v := (0 : Int32)) hX dX18_disable_41 (by decide) ?_
    obtain rfl := Option.some.inj h
    exact zw_iret hX hr dX18_disable_42 rfl ⟨rfl, rfl⟩
set_option maxHeartbeats 4000000 in
set_option maxRecDepth 100000 in
theorem zt_X18_disable_J30 {p : Program} {l : Launch} {e : Env} {R : Room} {s : State} {m : MethodId} {args : Array Value} {below : List Frame} {meth : Method} {c : Code} {V : zm_V} {mc ms d rc rs : Nat} (hX : zm_X p R s m args meth c RX18 "disable" cX18_disable 4 zk_E V mc ms) (hr : meth.sig.returnType = (some .int)) (hR : R.frames = d ∧ R.locals = 64 * d) (hd : 2 ≤ d) {N : Nat} {a0 : Nat} {i1 : Int32} {i2 : Int32} {t0 : Nat} {out : (Int32 × zm_S)} {S : zm_S} (h : zf_X18_disable_J30 N a0 i1 i2 t0 S = some out) : zw p l e R s m args below meth c (vx_MQ below (zm_Qc zk_E V (zo_i out)) (zm_XC zk_E V zo_x) args s mc ms (fun q => V.2.2.2.1 ≤ q)) 4 zk_E V mc ms 30 [(0, .ref a0), (1, .int i1), (2, .int i2)] [.ref t0] S rc rs := by
  unfold zf_X18_disable_J30 at h
  refine zw_iconst (v := (0 : Int32)) hX dX18_disable_30 (by decide) ?_
  refine zw_sub (lv' := [(0, .ref a0), (1, .int i1), (2, .int i2)]) (List.forall_mem_cons.mpr ⟨rfl, (List.forall_mem_cons.mpr ⟨rfl, (List.forall_mem_cons.mpr ⟨rfl, zs_nil⟩)⟩)⟩) ?_
  exact zt_X18_disable_J31 hX hr hR hd h
set_option maxHeartbeats 4000000 in
set_option maxRecDepth 100000 in
theorem zt_X18_disable {l : Launch} {V : zm_V} {N : Nat} {S : zm_S} {out : (Int32 × zm_S)} {d : Nat} {a0 : Nat} {i1 : Int32} {i2 : Int32} (hd : 2 ≤ d) (h : zf_X18_disable N a0 i1 i2 S = some out) : zm_Met l zk_E V yX18_disable (.code yX18_disable cX18_disable 4 (some .int)) d [.ref a0, .int i1, .int i2] S 0 0 (zo_i out) zo_x := by
  refine zm_of (by decide +kernel) (Nat.le_of_ble_eq_true rfl) ?_
  intro p e R s m args below meth c hRR hX hr hxt
  have hR : R.frames = d ∧ R.locals = 64 * d := by rw [hRR]; exact ⟨rfl, rfl⟩
  have hX : zm_X p R s m args meth c RX18 "disable" cX18_disable 4 zk_E V 0 0 := hX
  unfold zf_X18_disable at h
  refine zw_sub (lv' := [(0, .ref a0), (1, .int i1), (2, .int i2)]) (List.forall_mem_cons.mpr ⟨rfl, (List.forall_mem_cons.mpr ⟨rfl, (List.forall_mem_cons.mpr ⟨rfl, zs_nil⟩)⟩)⟩) ?_
  refine zw_aload_n hX dX18_disable_0 rfl ?_
  refine zw_iload_n hX dX18_disable_1 rfl ?_
  refine zw_aload_n hX dX18_disable_2 rfl ?_
  obtain ⟨b1, g, h⟩ := zb_some h
  refine zw_getr hX zl_X18_28 dX18_disable_3 g ?_
  obtain ⟨v2, g, h⟩ := zb_some h
  refine zw_geti hX zl_X18_358 dX18_disable_6 g ?_
  obtain ⟨r4, g, h⟩ := zb_some h
  refine zc_Si (as := [.int i1, .int v2]) hX (zt_X18_isIn (d := d - 1) (by omega) g) zl_X18_207 dX18_disable_9 ⟨rfl, rfl, Nat.le_of_ble_eq_true rfl⟩ ⟨by omega, by omega⟩ ?_
  refine zw_if_eq (tgt := 30) hX dX18_disable_12 (by decide) (fun c12 => ?_) (fun c12 => ?_)
  · rw [if_pos c12] at h
    refine zw_sub (lv' := [(0, .ref a0), (1, .int i1), (2, .int i2)]) (List.forall_mem_cons.mpr ⟨rfl, (List.forall_mem_cons.mpr ⟨rfl, (List.forall_mem_cons.mpr ⟨rfl, zs_nil⟩)⟩)⟩) ?_
    exact zt_X18_disable_J30 hX hr hR hd h
  · rw [if_neg c12] at h
    refine zw_iload_n hX dX18_disable_15 rfl ?_
    refine zw_if_lt (tgt := 30) hX dX18_disable_16 (by decide) (fun c16 => ?_) (fun c16 => ?_)
    · rw [if_pos c16] at h
      refine zw_sub (lv' := [(0, .ref a0), (1, .int i1), (2, .int i2)]) (List.forall_mem_cons.mpr ⟨rfl, (List.forall_mem_cons.mpr ⟨rfl, (List.forall_mem_cons.mpr ⟨rfl, zs_nil⟩)⟩)⟩) ?_
      exact zt_X18_disable_J30 hX hr hR hd h
    · rw [if_neg c16] at h
      refine zw_iload_n hX dX18_disable_19 rfl ?_
      refine zw_ldcw (v := (1000000 : Int32)) hX dX18_disable_20 zl_X18_315 ?_
      refine zw_icmp_gt (tgt := 30) hX dX18_disable_23 (by decide) (fun c23 => ?_) (fun c23 => ?_)
      · rw [if_pos c23] at h
        refine zw_sub (lv' := [(0, .ref a0), (1, .int i1), (2, .int i2)]) (List.forall_mem_cons.mpr ⟨rfl, (List.forall_mem_cons.mpr ⟨rfl, (List.forall_mem_cons.mpr ⟨rfl, zs_nil⟩)⟩)⟩) ?_
        exact zt_X18_disable_J30 hX hr hR hd h
      · rw [if_neg c23] at h
        refine zw_iconst (v := (1 : Int32)) hX dX18_disable_26 (by decide) ?_
        refine zw_goto (tgt := 31) hX dX18_disable_27 (by decide) ?_
        refine zw_sub (lv' := [(0, .ref a0), (1, .int i1), (2, .int i2)]) (List.forall_mem_cons.mpr ⟨rfl, (List.forall_mem_cons.mpr ⟨rfl, (List.forall_mem_cons.mpr ⟨rfl, zs_nil⟩)⟩)⟩) ?_
        exact zt_X18_disable_J31 hX hr hR hd h
set_option maxHeartbeats 4000000 in
set_option maxRecDepth 100000 in
theorem zt_X18_attend_J15 {p : Program} {l : Launch} {e : Env} {R : Room} {s : State} {m : MethodId} {args : Array Value} {below : List Frame} {meth : Method} {c : Code} {V : zm_V} {mc ms d rc rs : Nat} (hX : zm_X p R s m args meth c RX18 "attend" cX18_attend 2 zk_E V mc ms) (hr : meth.sig.returnType = (some .int)) (hR : R.frames = d ∧ R.locals = 64 * d) (hd : 2 ≤ d) {N : Nat} {a0 : Nat} {i1 : Int32} {t0 : Nat} {t1 : Int32} {out : (Int32 × zm_S)} {S : zm_S} (h : zf_X18_attend_J15 N a0 i1 t0 t1 S = some out) : zw p l e R s m args below meth c (vx_MQ below (zm_Qc zk_E V (zo_i out)) (zm_XC zk_E V zo_x) args s mc ms (fun q => V.2.2.2.1 ≤ q)) 2 zk_E V mc ms 15 [(0, .ref a0), (1, .int i1)] [.int t1, .ref t0] S rc rs := by
  unfold zf_X18_attend_J15 at h
  refine zw_aload_n hX dX18_attend_15 rfl ?_
  obtain ⟨v1, g, h⟩ := zb_some h
  refine zw_geti hX zl_X18_192 dX18_attend_16 g ?_
  obtain ⟨_, gi, h⟩ := zb_some h
  obtain ⟨r3, g, h⟩ := zb_some h
  refine zc_Vi (as := [.int t1, .int v1]) hX gi (zt_X18_goes (d := d - 1) (by omega) g) zl_X18_199 rfl dX18_attend_19 ⟨rfl, rfl, Nat.le_of_ble_eq_true rfl⟩ ⟨by omega, by omega⟩ ?_
  refine zw_if_eq (tgt := 36) hX dX18_attend_22 (by decide) (fun c22 => ?_) (fun c22 => ?_)
  · rw [if_pos c22] at h
    refine zw_iconst (v := (0 : Int32)) hX dX18_attend_36 (by decide) ?_
    obtain rfl := Option.some.inj h
    exact zw_iret hX hr dX18_attend_37 rfl ⟨rfl, rfl⟩
  · rw [if_neg c22] at h
    refine zw_aload_n hX dX18_attend_25 rfl ?_
    obtain ⟨b4, g, h⟩ := zb_some h
    refine zw_getr hX zl_X18_28 dX18_attend_26 g ?_
    refine zw_iload_n hX dX18_attend_29 rfl ?_
    obtain ⟨_, gi, h⟩ := zb_some h
    obtain ⟨r6, g, h⟩ := zb_some h
    refine zc_Vi (as := [.int i1]) hX gi (zt_X14_attend (d := d - 1) (by omega) g) zl_X18_461 rfl dX18_attend_30 ⟨rfl, rfl, Nat.le_of_ble_eq_true rfl⟩ ⟨by omega, by omega⟩ ?_
    refine zw_goto (tgt := 37) hX dX18_attend_33 (by decide) ?_
    obtain rfl := Option.some.inj h
    exact zw_iret hX hr dX18_attend_37 rfl ⟨rfl, rfl⟩
set_option maxHeartbeats 4000000 in
set_option maxRecDepth 100000 in
theorem zt_X18_attend_J10 {p : Program} {l : Launch} {e : Env} {R : Room} {s : State} {m : MethodId} {args : Array Value} {below : List Frame} {meth : Method} {c : Code} {V : zm_V} {mc ms d rc rs : Nat} (hX : zm_X p R s m args meth c RX18 "attend" cX18_attend 2 zk_E V mc ms) (hr : meth.sig.returnType = (some .int)) (hR : R.frames = d ∧ R.locals = 64 * d) (hd : 2 ≤ d) {N : Nat} {a0 : Nat} {i1 : Int32} {t0 : Nat} {out : (Int32 × zm_S)} {S : zm_S} (h : zf_X18_attend_J10 N a0 i1 t0 S = some out) : zw p l e R s m args below meth c (vx_MQ below (zm_Qc zk_E V (zo_i out)) (zm_XC zk_E V zo_x) args s mc ms (fun q => V.2.2.2.1 ≤ q)) 2 zk_E V mc ms 10 [(0, .ref a0), (1, .int i1)] [.ref t0] S rc rs := by
  unfold zf_X18_attend_J10 at h
  refine zw_iconst (v := (1 : Int32)) hX dX18_attend_10 (by decide) ?_
  refine zw_goto (tgt := 15) hX dX18_attend_11 (by decide) ?_
  refine zw_sub (lv' := [(0, .ref a0), (1, .int i1)]) (List.forall_mem_cons.mpr ⟨rfl, (List.forall_mem_cons.mpr ⟨rfl, zs_nil⟩)⟩) ?_
  exact zt_X18_attend_J15 hX hr hR hd h
set_option maxHeartbeats 4000000 in
set_option maxRecDepth 100000 in
theorem zt_X18_attend {l : Launch} {V : zm_V} {N : Nat} {S : zm_S} {out : (Int32 × zm_S)} {d : Nat} {a0 : Nat} {i1 : Int32} (hd : 2 ≤ d) (h : zf_X18_attend N a0 i1 S = some out) : zm_Met l zk_E V yX18_attend (.code yX18_attend cX18_attend 2 (some .int)) d [.ref a0, .int i1] S 0 0 (zo_i out) zo_x := by
  refine zm_of (by decide +kernel) (Nat.le_of_ble_eq_true rfl) ?_
  intro p e R s m args below meth c hRR hX hr hxt
  have hR : R.frames = d ∧ R.locals = 64 * d := by rw [hRR]; exact ⟨rfl, rfl⟩
  have hX : zm_X p R s m args meth c RX18 "attend" cX18_attend 2 zk_E V 0 0 := hX
  unfold zf_X18_attend at h
  refine zw_sub (lv' := [(0, .ref a0), (1, .int i1)]) (List.forall_mem_cons.mpr ⟨rfl, (List.forall_mem_cons.mpr ⟨rfl, zs_nil⟩)⟩) ?_
  refine zw_aload_n hX dX18_attend_0 rfl ?_
  refine zw_iload_n hX dX18_attend_1 rfl ?_
  refine zw_if_eq (tgt := 10) hX dX18_attend_2 (by decide) (fun c2 => ?_) (fun c2 => ?_)
  · rw [if_pos c2] at h
    refine zw_sub (lv' := [(0, .ref a0), (1, .int i1)]) (List.forall_mem_cons.mpr ⟨rfl, (List.forall_mem_cons.mpr ⟨rfl, zs_nil⟩)⟩) ?_
    exact zt_X18_attend_J10 hX hr hR hd h
  · rw [if_neg c2] at h
    refine zw_iload_n hX dX18_attend_5 rfl ?_
    refine zw_iconst (v := (1 : Int32)) hX dX18_attend_6 (by decide) ?_
    refine zw_icmp_ne (tgt := 14) hX dX18_attend_7 (by decide) (fun c7 => ?_) (fun c7 => ?_)
    · rw [if_neg c7] at h
      refine zw_iconst (v := (0 : Int32)) hX dX18_attend_14 (by decide) ?_
      refine zw_sub (lv' := [(0, .ref a0), (1, .int i1)]) (List.forall_mem_cons.mpr ⟨rfl, (List.forall_mem_cons.mpr ⟨rfl, zs_nil⟩)⟩) ?_
      exact zt_X18_attend_J15 hX hr hR hd h
    · rw [if_pos c7] at h
      refine zw_sub (lv' := [(0, .ref a0), (1, .int i1)]) (List.forall_mem_cons.mpr ⟨rfl, (List.forall_mem_cons.mpr ⟨rfl, zs_nil⟩)⟩) ?_
      exact zt_X18_attend_J10 hX hr hR hd h
set_option maxHeartbeats 4000000 in
set_option maxRecDepth 100000 in
theorem zt_X18_does_J43 {p : Program} {l : Launch} {e : Env} {R : Room} {s : State} {m : MethodId} {args : Array Value} {below : List Frame} {meth : Method} {c : Code} {V : zm_V} {mc ms d rc rs : Nat} (hX : zm_X p R s m args meth c RX18 "does" cX18_does 4 zk_E V mc ms) (hr : meth.sig.returnType = none) (hR : R.frames = d ∧ R.locals = 64 * d) (hd : 3 ≤ d) {N : Nat} {a0 : Nat} {i1 : Int32} {i2 : Int32} {out : (Unit × zm_S)} {S : zm_S} (h : zf_X18_does_J43 N a0 i1 i2 S = some out) : zw p l e R s m args below meth c (vx_MQ below (zm_Qc zk_E V (zo_v out)) (zm_XC zk_E V zo_x) args s mc ms (fun q => V.2.2.2.1 ≤ q)) 4 zk_E V mc ms 43 [(0, .ref a0), (1, .int i1), (2, .int i2)] [] S rc rs := by
  unfold zf_X18_does_J43 at h
  refine zw_aload_n hX dX18_does_43 rfl ?_
  obtain ⟨b4, g, h⟩ := zb_some h
  refine zw_getr hX zl_X18_28 dX18_does_44 g ?_
  obtain ⟨b5, g, h⟩ := zb_some h
  refine zw_getr hX zl_X18_464 dX18_does_47 g ?_
  refine zw_iload_n hX dX18_does_50 rfl ?_
  obtain ⟨v6, g, h⟩ := zb_some h
  refine zw_xi hX dX18_does_51 g ?_
  refine zw_iconst (v := (3 : Int32)) hX dX18_does_52 (by decide) ?_
  refine zw_icmp_ne (tgt := 71) hX dX18_does_53 (by decide) (fun c53 => ?_) (fun c53 => ?_)
  · rw [if_neg c53] at h
    obtain rfl := Option.some.inj h
    exact zw_vret hX hr dX18_does_71 ⟨rfl, rfl⟩
  · rw [if_pos c53] at h
    refine zw_aload_n hX dX18_does_56 rfl ?_
    obtain ⟨b7, g, h⟩ := zb_some h
    refine zw_getr hX zl_X18_35 dX18_does_57 g ?_
    obtain ⟨b8, g, h⟩ := zb_some h
    refine zw_getr hX zl_X18_474 dX18_does_60 g ?_
    refine zw_iconst (v := (4 : Int32)) hX dX18_does_63 (by decide) ?_
    refine zw_iload_n hX dX18_does_64 rfl ?_
    refine zw_bipush (v := (6 : Int32)) hX dX18_does_65 (by decide) ?_
    refine zw_irem hX dX18_does_67 (by decide) ?_
    refine zw_iadd hX dX18_does_68 ?_
    refine zw_iload_n hX dX18_does_69 rfl ?_
    obtain ⟨S9, g, h⟩ := zb_some h
    refine zw_si hX dX18_does_70 g ?_
    obtain rfl := Option.some.inj h
    exact zw_vret hX hr dX18_does_71 ⟨rfl, rfl⟩
set_option maxHeartbeats 4000000 in
set_option maxRecDepth 100000 in
theorem zt_X18_does {l : Launch} {V : zm_V} {N : Nat} {S : zm_S} {out : (Unit × zm_S)} {d : Nat} {a0 : Nat} {i1 : Int32} {i2 : Int32} (hd : 3 ≤ d) (h : zf_X18_does N a0 i1 i2 S = some out) : zm_Met l zk_E V yX18_does (.code yX18_does cX18_does 4 none) d [.ref a0, .int i1, .int i2] S 0 0 (zo_v out) zo_x := by
  refine zm_of (by decide +kernel) (Nat.le_of_ble_eq_true rfl) ?_
  intro p e R s m args below meth c hRR hX hr hxt
  have hR : R.frames = d ∧ R.locals = 64 * d := by rw [hRR]; exact ⟨rfl, rfl⟩
  have hX : zm_X p R s m args meth c RX18 "does" cX18_does 4 zk_E V 0 0 := hX
  unfold zf_X18_does at h
  refine zw_sub (lv' := [(0, .ref a0), (1, .int i1), (2, .int i2)]) (List.forall_mem_cons.mpr ⟨rfl, (List.forall_mem_cons.mpr ⟨rfl, (List.forall_mem_cons.mpr ⟨rfl, zs_nil⟩)⟩)⟩) ?_
  refine zw_aload_n hX dX18_does_0 rfl ?_
  obtain ⟨b1, g, h⟩ := zb_some h
  refine zw_getr hX zl_X18_28 dX18_does_1 g ?_
  obtain ⟨b2, g, h⟩ := zb_some h
  refine zw_getr hX zl_X18_464 dX18_does_4 g ?_
  refine zw_iload_n hX dX18_does_7 rfl ?_
  obtain ⟨v3, g, h⟩ := zb_some h
  refine zw_xi hX dX18_does_8 g ?_
  refine zw_iconst (v := (2 : Int32)) hX dX18_does_9 (by decide) ?_
  refine zw_icmp_ne (tgt := 43) hX dX18_does_10 (by decide) (fun c10 => ?_) (fun c10 => ?_)
  · rw [if_neg c10] at h
    refine zw_sub (lv' := [(0, .ref a0), (1, .int i1), (2, .int i2)]) (List.forall_mem_cons.mpr ⟨rfl, (List.forall_mem_cons.mpr ⟨rfl, (List.forall_mem_cons.mpr ⟨rfl, zs_nil⟩)⟩)⟩) ?_
    exact zt_X18_does_J43 hX hr hR hd h
  · rw [if_pos c10] at h
    refine zw_aload_n hX dX18_does_13 rfl ?_
    obtain ⟨b10, g, h⟩ := zb_some h
    refine zw_getr hX zl_X18_42 dX18_does_14 g ?_
    obtain ⟨b11, g, h⟩ := zb_some h
    refine zw_getr hX zl_X18_467 dX18_does_17 g ?_
    refine zw_bipush (v := (7 : Int32)) hX dX18_does_20 (by decide) ?_
    obtain ⟨v12, g, h⟩ := zb_some h
    refine zw_xi hX dX18_does_22 g ?_
    refine zw_bipush (v := (6 : Int32)) hX dX18_does_23 (by decide) ?_
    refine zw_icmp_ge (tgt := 43) hX dX18_does_25 (by decide) (fun c25 => ?_) (fun c25 => ?_)
    · rw [if_pos c25] at h
      refine zw_sub (lv' := [(0, .ref a0), (1, .int i1), (2, .int i2)]) (List.forall_mem_cons.mpr ⟨rfl, (List.forall_mem_cons.mpr ⟨rfl, (List.forall_mem_cons.mpr ⟨rfl, zs_nil⟩)⟩)⟩) ?_
      exact zt_X18_does_J43 hX hr hR hd h
    · rw [if_neg c25] at h
      refine zw_aload_n hX dX18_does_28 rfl ?_
      obtain ⟨b13, g, h⟩ := zb_some h
      refine zw_getr hX zl_X18_42 dX18_does_29 g ?_
      refine zw_bipush (v := (7 : Int32)) hX dX18_does_32 (by decide) ?_
      refine zw_iconst (v := (0 : Int32)) hX dX18_does_34 (by decide) ?_
      refine zw_iload_n hX dX18_does_35 rfl ?_
      refine zw_iconst (v := (1 : Int32)) hX dX18_does_36 (by decide) ?_
      refine zw_iconst (v := (2 : Int32)) hX dX18_does_37 (by decide) ?_
      refine zw_iload_n hX dX18_does_38 rfl ?_
      obtain ⟨_, gi, h⟩ := zb_some h
      obtain ⟨r15, g, h⟩ := zb_some h
      refine zc_Vi (as := [.int (7 : Int32), .int (0 : Int32), .int i1, .int (1 : Int32), .int (2 : Int32), .int i2]) hX gi (zt_X12_send (d := d - 1) (by omega) g) zl_X18_470 rfl dX18_does_39 ⟨rfl, rfl, Nat.le_of_ble_eq_true rfl⟩ ⟨by omega, by omega⟩ ?_
      refine zw_istore_n hX dX18_does_42 (by decide) ?_
      refine zw_sub (lv' := [(0, .ref a0), (1, .int i1), (2, .int i2)]) (List.forall_mem_cons.mpr ⟨rfl, (List.forall_mem_cons.mpr ⟨rfl, (List.forall_mem_cons.mpr ⟨rfl, zs_nil⟩)⟩)⟩) ?_
      exact zt_X18_does_J43 hX hr hR hd h
set_option maxHeartbeats 4000000 in
set_option maxRecDepth 100000 in
theorem zt_X18_reset_J50 {p : Program} {l : Launch} {e : Env} {R : Room} {s : State} {m : MethodId} {args : Array Value} {below : List Frame} {meth : Method} {c : Code} {V : zm_V} {mc ms d rc rs : Nat} (hX : zm_X p R s m args meth c RX18 "reset" cX18_reset 4 zk_E V mc ms) (hr : meth.sig.returnType = (some .int)) (hR : R.frames = d ∧ R.locals = 64 * d) (hd : 7 ≤ d) {N : Nat} {k : Nat → Int32 → Int32 → Int32 → zm_S → Option ((Int32 × zm_S) ⊕ ((Int32) × zm_S))} {a0 : Nat} {i1 : Int32} {i3 : Int32} {res : (Int32 × zm_S) ⊕ ((Int32) × zm_S)} {out : (Int32 × zm_S)}   (hf : ∀ o, res = .inl o → o = out) (hk : ∀ (x1 : Int32) (S' : zm_S), res = .inr (x1, S') → zw p l e R s m args below meth c (vx_MQ below (zm_Qc zk_E V (zo_i out)) (zm_XC zk_E V zo_x) args s mc ms (fun q => V.2.2.2.1 ≤ q)) 4 zk_E V mc ms 65 [(1, .int x1)] [] S' rc rs) (hrec : ∀ (i1' : Int32) (i2' : Int32) (i3' : Int32) (S : zm_S), k a0 i1' i2' i3' S = some res → zw p l e R s m args below meth c (vx_MQ below (zm_Qc zk_E V (zo_i out)) (zm_XC zk_E V zo_x) args s mc ms (fun q => V.2.2.2.1 ≤ q)) 4 zk_E V mc ms 26 [(0, .ref a0), (1, .int i1'), (2, .int i2'), (3, .int i3')] [] S rc rs) {S : zm_S} (h : zf_X18_reset_J50 N k a0 i1 i3 S = some res) : zw p l e R s m args below meth c (vx_MQ below (zm_Qc zk_E V (zo_i out)) (zm_XC zk_E V zo_x) args s mc ms (fun q => V.2.2.2.1 ≤ q)) 4 zk_E V mc ms 50 [(0, .ref a0), (1, .int i1), (3, .int i3)] [] S rc rs := by
  unfold zf_X18_reset_J50 at h
  refine zw_aload_n hX dX18_reset_50 rfl ?_
  obtain ⟨b10, g, h⟩ := zb_some h
  refine zw_getr hX zl_X18_28 dX18_reset_51 g ?_
  refine zw_iload_n hX dX18_reset_54 rfl ?_
  obtain ⟨_, gi, h⟩ := zb_some h
  obtain ⟨r12, g, h⟩ := zb_some h
  refine zc_Vi (as := [.int i3]) hX gi (zt_X14_rankedOne (d := d - 1) (by omega) g) zl_X18_476 rfl dX18_reset_55 ⟨rfl, rfl, Nat.le_of_ble_eq_true rfl⟩ ⟨by omega, by omega⟩ ?_
  refine zw_istore_n hX dX18_reset_58 (by decide) ?_
  refine zw_iinc (v := (i3 + (1 : Int32))) hX dX18_reset_59 rfl rfl (by decide) ?_
  refine zw_goto (tgt := 26) hX dX18_reset_62 (by decide) ?_
  refine zw_sub (lv' := [(0, .ref a0), (1, .int i1), (2, .int r12.1), (3, .int (i3 + (1 : Int32)))]) (List.forall_mem_cons.mpr ⟨rfl, (List.forall_mem_cons.mpr ⟨rfl, (List.forall_mem_cons.mpr ⟨rfl, (List.forall_mem_cons.mpr ⟨rfl, zs_nil⟩)⟩)⟩)⟩) ?_
  exact hrec _ _ _ _ h
set_option maxHeartbeats 4000000 in
set_option maxRecDepth 100000 in
theorem zt_X18_reset_L26 {p : Program} {l : Launch} {e : Env} {R : Room} {s : State} {m : MethodId} {args : Array Value} {below : List Frame} {meth : Method} {c : Code} {V : zm_V} {mc ms d rc rs : Nat} (hX : zm_X p R s m args meth c RX18 "reset" cX18_reset 4 zk_E V mc ms) (hr : meth.sig.returnType = (some .int)) (hR : R.frames = d ∧ R.locals = 64 * d) (hd : 7 ≤ d) {N : Nat} {res : (Int32 × zm_S) ⊕ ((Int32) × zm_S)} {out : (Int32 × zm_S)} (a0 : Nat) (hf : ∀ o, res = .inl o → o = out) (hk : ∀ (x1 : Int32) (S' : zm_S), res = .inr (x1, S') → zw p l e R s m args below meth c (vx_MQ below (zm_Qc zk_E V (zo_i out)) (zm_XC zk_E V zo_x) args s mc ms (fun q => V.2.2.2.1 ≤ q)) 4 zk_E V mc ms 65 [(1, .int x1)] [] S' rc rs) : ∀ (n : Nat) (i1 : Int32) (i2 : Int32) (i3 : Int32) (S : zm_S), zf_X18_reset_L26 N n a0 i1 i2 i3 S = some res → zw p l e R s m args below meth c (vx_MQ below (zm_Qc zk_E V (zo_i out)) (zm_XC zk_E V zo_x) args s mc ms (fun q => V.2.2.2.1 ≤ q)) 4 zk_E V mc ms 26 [(0, .ref a0), (1, .int i1), (2, .int i2), (3, .int i3)] [] S rc rs := by
  intro n
  induction n with
  | zero => intro i1 i2 i3 S h; cases h
  | succ n ih =>
    intro i1 i2 i3 S h
    rw [zf_X18_reset_L26] at h
    refine zw_iload_n hX dX18_reset_26 rfl ?_
    refine zw_if_lt (tgt := 65) hX dX18_reset_27 (by decide) (fun c27 => ?_) (fun c27 => ?_)
    · rw [if_pos c27] at h
      refine zw_sub (lv' := [(1, .int i1)]) (List.forall_mem_cons.mpr ⟨rfl, zs_nil⟩) ?_
      exact hk _ _ (Option.some.inj h).symm
    · rw [if_neg c27] at h
      refine zw_aload_n hX dX18_reset_30 rfl ?_
      obtain ⟨b7, g, h⟩ := zb_some h
      refine zw_getr hX zl_X18_28 dX18_reset_31 g ?_
      refine zw_iload_n hX dX18_reset_34 rfl ?_
      obtain ⟨_, gi, h⟩ := zb_some h
      obtain ⟨r9, g, h⟩ := zb_some h
      refine zc_Vi (as := [.int i2]) hX gi (zt_X14_resets (d := d - 1) (by omega) g) zl_X18_479 rfl dX18_reset_35 ⟨rfl, rfl, Nat.le_of_ble_eq_true rfl⟩ ⟨by omega, by omega⟩ ?_
      refine zw_if_eq (tgt := 50) hX dX18_reset_38 (by decide) (fun c38 => ?_) (fun c38 => ?_)
      · rw [if_pos c38] at h
        refine zw_sub (lv' := [(0, .ref a0), (1, .int i1), (3, .int i3)]) (List.forall_mem_cons.mpr ⟨rfl, (List.forall_mem_cons.mpr ⟨rfl, (List.forall_mem_cons.mpr ⟨rfl, zs_nil⟩)⟩)⟩) ?_
        exact zt_X18_reset_J50 hX hr hR hd hf hk ih h
      · rw [if_neg c38] at h
        refine zw_aload_n hX dX18_reset_41 rfl ?_
        refine zw_iload_n hX dX18_reset_42 rfl ?_
        refine zw_iconst (v := (0 : Int32)) hX dX18_reset_43 (by decide) ?_
        obtain ⟨_, gi, h⟩ := zb_some h
        obtain ⟨r14, g, h⟩ := zb_some h
        refine zc_Vv (as := [.int i2, .int (0 : Int32)]) hX gi (zt_X18_does (d := d - 1) (by omega) g) zl_X18_482 rfl dX18_reset_44 ⟨rfl, rfl, Nat.le_of_ble_eq_true rfl⟩ ⟨by omega, by omega⟩ ?_
        refine zw_iinc (v := (i1 + (1 : Int32))) hX dX18_reset_47 rfl rfl (by decide) ?_
        refine zw_sub (lv' := [(0, .ref a0), (1, .int (i1 + (1 : Int32))), (3, .int i3)]) (List.forall_mem_cons.mpr ⟨rfl, (List.forall_mem_cons.mpr ⟨rfl, (List.forall_mem_cons.mpr ⟨rfl, zs_nil⟩)⟩)⟩) ?_
        exact zt_X18_reset_J50 hX hr hR hd hf hk ih h
set_option maxHeartbeats 4000000 in
set_option maxRecDepth 100000 in
theorem zt_X18_reset {l : Launch} {V : zm_V} {N : Nat} {S : zm_S} {out : (Int32 × zm_S)} {d : Nat} {a0 : Nat} (hd : 7 ≤ d) (h : zf_X18_reset N a0 S = some out) : zm_Met l zk_E V yX18_reset (.code yX18_reset cX18_reset 4 (some .int)) d [.ref a0] S 0 0 (zo_i out) zo_x := by
  refine zm_of (by decide +kernel) (Nat.le_of_ble_eq_true rfl) ?_
  intro p e R s m args below meth c hRR hX hr hxt
  have hR : R.frames = d ∧ R.locals = 64 * d := by rw [hRR]; exact ⟨rfl, rfl⟩
  have hX : zm_X p R s m args meth c RX18 "reset" cX18_reset 4 zk_E V 0 0 := hX
  unfold zf_X18_reset at h
  refine zw_sub (lv' := [(0, .ref a0)]) (List.forall_mem_cons.mpr ⟨rfl, zs_nil⟩) ?_
  refine zw_aload_n hX dX18_reset_0 rfl ?_
  refine zw_aload_n hX dX18_reset_1 rfl ?_
  obtain ⟨v1, g, h⟩ := zb_some h
  refine zw_geti hX zl_X18_192 dX18_reset_2 g ?_
  obtain ⟨_, gi, h⟩ := zb_some h
  obtain ⟨r3, g, h⟩ := zb_some h
  refine zc_Vi (as := [.int v1]) hX gi (zt_X18_stays (d := d - 1) (by omega) g) zl_X18_230 rfl dX18_reset_5 ⟨rfl, rfl, Nat.le_of_ble_eq_true rfl⟩ ⟨by omega, by omega⟩ ?_
  refine zw_if_ne (tgt := 13) hX dX18_reset_8 (by decide) (fun c8 => ?_) (fun c8 => ?_)
  · rw [if_neg c8] at h
    refine zw_iconst (v := (0 : Int32)) hX dX18_reset_13 (by decide) ?_
    refine zw_istore_n hX dX18_reset_14 (by decide) ?_
    refine zw_aload_n hX dX18_reset_15 rfl ?_
    obtain ⟨b4, g, h⟩ := zb_some h
    refine zw_getr hX zl_X18_28 dX18_reset_16 g ?_
    refine zw_iconst (v := (0 : Int32)) hX dX18_reset_19 (by decide) ?_
    obtain ⟨_, gi, h⟩ := zb_some h
    obtain ⟨r6, g, h⟩ := zb_some h
    refine zc_Vi (as := [.int (0 : Int32)]) hX gi (zt_X14_rankedOne (d := d - 1) (by omega) g) zl_X18_476 rfl dX18_reset_20 ⟨rfl, rfl, Nat.le_of_ble_eq_true rfl⟩ ⟨by omega, by omega⟩ ?_
    refine zw_istore_n hX dX18_reset_23 (by decide) ?_
    refine zw_iconst (v := (1 : Int32)) hX dX18_reset_24 (by decide) ?_
    refine zw_istore_n hX dX18_reset_25 (by decide) ?_
    obtain ⟨r, g, h⟩ := zb_some h
    refine zw_sub (lv' := [(0, .ref a0), (1, .int (0 : Int32)), (2, .int r6.1), (3, .int (1 : Int32))]) (List.forall_mem_cons.mpr ⟨rfl, (List.forall_mem_cons.mpr ⟨rfl, (List.forall_mem_cons.mpr ⟨rfl, (List.forall_mem_cons.mpr ⟨rfl, zs_nil⟩)⟩)⟩)⟩) ?_
    refine zt_X18_reset_L26 hX hr hR hd (res := r) (out := out) a0 ?_ ?_ N _ _ _ _ g
    · intro o ho
      subst ho
      exact Option.some.inj h
    · intro v16 S15 hx
      subst hx
      try dsimp only at h
      refine zw_iload_n hX dX18_reset_65 rfl ?_
      obtain rfl := Option.some.inj h
      exact zw_iret hX hr dX18_reset_66 rfl ⟨rfl, rfl⟩
  · rw [if_pos c8] at h
    refine zw_iconst (v := (0 : Int32)) hX dX18_reset_11 (by decide) ?_
    obtain rfl := Option.some.inj h
    exact zw_iret hX hr dX18_reset_12 rfl ⟨rfl, rfl⟩
set_option maxHeartbeats 4000000 in
set_option maxRecDepth 100000 in
theorem zt_X18_act_J36 {p : Program} {l : Launch} {e : Env} {R : Room} {s : State} {m : MethodId} {args : Array Value} {below : List Frame} {meth : Method} {c : Code} {V : zm_V} {mc ms d rc rs : Nat} (hX : zm_X p R s m args meth c RX18 "act" cX18_act 3 zk_E V mc ms) (hr : meth.sig.returnType = (some .int)) (hR : R.frames = d ∧ R.locals = 64 * d) (hd : 2 ≤ d) {N : Nat} {a0 : Nat} {i1 : Int32} {i2 : Int32} {t0 : Nat} {t1 : Int32} {out : (Int32 × zm_S)} {S : zm_S} (h : zf_X18_act_J36 N a0 i1 i2 t0 t1 S = some out) : zw p l e R s m args below meth c (vx_MQ below (zm_Qc zk_E V (zo_i out)) (zm_XC zk_E V zo_x) args s mc ms (fun q => V.2.2.2.1 ≤ q)) 3 zk_E V mc ms 36 [(0, .ref a0), (1, .int i1), (2, .int i2)] [.int t1, .ref t0] S rc rs := by
  unfold zf_X18_act_J36 at h
  refine zw_aload_n hX dX18_act_36 rfl ?_
  obtain ⟨v3, g, h⟩ := zb_some h
  refine zw_geti hX zl_X18_192 dX18_act_37 g ?_
  obtain ⟨_, gi, h⟩ := zb_some h
  obtain ⟨r5, g, h⟩ := zb_some h
  refine zc_Vi (as := [.int t1, .int v3]) hX gi (zt_X18_goes (d := d - 1) (by omega) g) zl_X18_199 rfl dX18_act_40 ⟨rfl, rfl, Nat.le_of_ble_eq_true rfl⟩ ⟨by omega, by omega⟩ ?_
  refine zw_if_eq (tgt := 58) hX dX18_act_43 (by decide) (fun c43 => ?_) (fun c43 => ?_)
  · rw [if_pos c43] at h
    refine zw_iconst (v := (0 : Int32)) hX dX18_act_58 (by decide) ?_
    obtain rfl := Option.some.inj h
    exact zw_iret hX hr dX18_act_59 rfl ⟨rfl, rfl⟩
  · rw [if_neg c43] at h
    refine zw_aload_n hX dX18_act_46 rfl ?_
    obtain ⟨b6, g, h⟩ := zb_some h
    refine zw_getr hX zl_X18_28 dX18_act_47 g ?_
    refine zw_iload_n hX dX18_act_50 rfl ?_
    refine zw_iload_n hX dX18_act_51 rfl ?_
    obtain ⟨_, gi, h⟩ := zb_some h
    obtain ⟨r8, g, h⟩ := zb_some h
    refine zc_Vi (as := [.int i1, .int i2]) hX gi (zt_X14_act (d := d - 1) (by omega) g) zl_X18_489 rfl dX18_act_52 ⟨rfl, rfl, Nat.le_of_ble_eq_true rfl⟩ ⟨by omega, by omega⟩ ?_
    refine zw_goto (tgt := 59) hX dX18_act_55 (by decide) ?_
    obtain rfl := Option.some.inj h
    exact zw_iret hX hr dX18_act_59 rfl ⟨rfl, rfl⟩
set_option maxHeartbeats 4000000 in
set_option maxRecDepth 100000 in
theorem zt_X18_act_J35 {p : Program} {l : Launch} {e : Env} {R : Room} {s : State} {m : MethodId} {args : Array Value} {below : List Frame} {meth : Method} {c : Code} {V : zm_V} {mc ms d rc rs : Nat} (hX : zm_X p R s m args meth c RX18 "act" cX18_act 3 zk_E V mc ms) (hr : meth.sig.returnType = (some .int)) (hR : R.frames = d ∧ R.locals = 64 * d) (hd : 2 ≤ d) {N : Nat} {a0 : Nat} {i1 : Int32} {i2 : Int32} {t0 : Nat} {out : (Int32 × zm_S)} {S : zm_S} (h : zf_X18_act_J35 N a0 i1 i2 t0 S = some out) : zw p l e R s m args below meth c (vx_MQ below (zm_Qc zk_E V (zo_i out)) (zm_XC zk_E V zo_x) args s mc ms (fun q => V.2.2.2.1 ≤ q)) 3 zk_E V mc ms 35 [(0, .ref a0), (1, .int i1), (2, .int i2)] [.ref t0] S rc rs := by
  unfold zf_X18_act_J35 at h
  refine zw_iconst (v := (0 : Int32)) hX dX18_act_35 (by decide) ?_
  refine zw_sub (lv' := [(0, .ref a0), (1, .int i1), (2, .int i2)]) (List.forall_mem_cons.mpr ⟨rfl, (List.forall_mem_cons.mpr ⟨rfl, (List.forall_mem_cons.mpr ⟨rfl, zs_nil⟩)⟩)⟩) ?_
  exact zt_X18_act_J36 hX hr hR hd h
set_option maxHeartbeats 4000000 in
set_option maxRecDepth 100000 in
theorem zt_X18_act {l : Launch} {V : zm_V} {N : Nat} {S : zm_S} {out : (Int32 × zm_S)} {d : Nat} {a0 : Nat} {i1 : Int32} {i2 : Int32} (hd : 2 ≤ d) (h : zf_X18_act N a0 i1 i2 S = some out) : zm_Met l zk_E V yX18_act (.code yX18_act cX18_act 3 (some .int)) d [.ref a0, .int i1, .int i2] S 0 0 (zo_i out) zo_x := by
  refine zm_of (by decide +kernel) (Nat.le_of_ble_eq_true rfl) ?_
  intro p e R s m args below meth c hRR hX hr hxt
  have hR : R.frames = d ∧ R.locals = 64 * d := by rw [hRR]; exact ⟨rfl, rfl⟩
  have hX : zm_X p R s m args meth c RX18 "act" cX18_act 3 zk_E V 0 0 := hX
  unfold zf_X18_act at h
  refine zw_sub (lv' := [(0, .ref a0), (1, .int i1), (2, .int i2)]) (List.forall_mem_cons.mpr ⟨rfl, (List.forall_mem_cons.mpr ⟨rfl, (List.forall_mem_cons.mpr ⟨rfl, zs_nil⟩)⟩)⟩) ?_
  refine zw_aload_n hX dX18_act_0 rfl ?_
  refine zw_iload_n hX dX18_act_1 rfl ?_
  refine zw_bipush (v := (20 : Int32)) hX dX18_act_2 (by decide) ?_
  obtain ⟨r2, g, h⟩ := zb_some h
  refine zc_Si (as := [.int i1, .int (20 : Int32)]) hX (zt_X18_isIn (d := d - 1) (by omega) g) zl_X18_207 dX18_act_4 ⟨rfl, rfl, Nat.le_of_ble_eq_true rfl⟩ ⟨by omega, by omega⟩ ?_
  refine zw_if_eq (tgt := 35) hX dX18_act_7 (by decide) (fun c7 => ?_) (fun c7 => ?_)
  · rw [if_pos c7] at h
    refine zw_sub (lv' := [(0, .ref a0), (1, .int i1), (2, .int i2)]) (List.forall_mem_cons.mpr ⟨rfl, (List.forall_mem_cons.mpr ⟨rfl, (List.forall_mem_cons.mpr ⟨rfl, zs_nil⟩)⟩)⟩) ?_
    exact zt_X18_act_J35 hX hr hR hd h
  · rw [if_neg c7] at h
    refine zw_aload_n hX dX18_act_10 rfl ?_
    obtain ⟨b9, g, h⟩ := zb_some h
    refine zw_getr hX zl_X18_28 dX18_act_11 g ?_
    obtain ⟨b10, g, h⟩ := zb_some h
    refine zw_getr hX zl_X18_486 dX18_act_14 g ?_
    refine zw_iload_n hX dX18_act_17 rfl ?_
    obtain ⟨v11, g, h⟩ := zb_some h
    refine zw_xz hX dX18_act_18 g ?_
    refine zw_if_eq (tgt := 35) hX dX18_act_19 (by decide) (fun c19 => ?_) (fun c19 => ?_)
    · rw [if_pos c19] at h
      refine zw_sub (lv' := [(0, .ref a0), (1, .int i1), (2, .int i2)]) (List.forall_mem_cons.mpr ⟨rfl, (List.forall_mem_cons.mpr ⟨rfl, (List.forall_mem_cons.mpr ⟨rfl, zs_nil⟩)⟩)⟩) ?_
      exact zt_X18_act_J35 hX hr hR hd h
    · rw [if_neg c19] at h
      refine zw_iload_n hX dX18_act_22 rfl ?_
      refine zw_bipush (v := (6 : Int32)) hX dX18_act_23 (by decide) ?_
      obtain ⟨r13, g, h⟩ := zb_some h
      refine zc_Si (as := [.int i2, .int (6 : Int32)]) hX (zt_X18_isIn (d := d - 1) (by omega) g) zl_X18_207 dX18_act_25 ⟨rfl, rfl, Nat.le_of_ble_eq_true rfl⟩ ⟨by omega, by omega⟩ ?_
      refine zw_if_eq (tgt := 35) hX dX18_act_28 (by decide) (fun c28 => ?_) (fun c28 => ?_)
      · rw [if_pos c28] at h
        refine zw_sub (lv' := [(0, .ref a0), (1, .int i1), (2, .int i2)]) (List.forall_mem_cons.mpr ⟨rfl, (List.forall_mem_cons.mpr ⟨rfl, (List.forall_mem_cons.mpr ⟨rfl, zs_nil⟩)⟩)⟩) ?_
        exact zt_X18_act_J35 hX hr hR hd h
      · rw [if_neg c28] at h
        refine zw_iconst (v := (1 : Int32)) hX dX18_act_31 (by decide) ?_
        refine zw_goto (tgt := 36) hX dX18_act_32 (by decide) ?_
        refine zw_sub (lv' := [(0, .ref a0), (1, .int i1), (2, .int i2)]) (List.forall_mem_cons.mpr ⟨rfl, (List.forall_mem_cons.mpr ⟨rfl, (List.forall_mem_cons.mpr ⟨rfl, zs_nil⟩)⟩)⟩) ?_
        exact zt_X18_act_J36 hX hr hR hd h
set_option maxHeartbeats 4000000 in
set_option maxRecDepth 100000 in
theorem zt_X18_zone_J35 {p : Program} {l : Launch} {e : Env} {R : Room} {s : State} {m : MethodId} {args : Array Value} {below : List Frame} {meth : Method} {c : Code} {V : zm_V} {mc ms d rc rs : Nat} (hX : zm_X p R s m args meth c RX18 "zone" cX18_zone 3 zk_E V mc ms) (hr : meth.sig.returnType = (some .int)) (hR : R.frames = d ∧ R.locals = 64 * d) (hd : 4 ≤ d) {N : Nat} {a0 : Nat} {i1 : Int32} {i2 : Int32} {t0 : Nat} {t1 : Int32} {out : (Int32 × zm_S)} {S : zm_S} (h : zf_X18_zone_J35 N a0 i1 i2 t0 t1 S = some out) : zw p l e R s m args below meth c (vx_MQ below (zm_Qc zk_E V (zo_i out)) (zm_XC zk_E V zo_x) args s mc ms (fun q => V.2.2.2.1 ≤ q)) 3 zk_E V mc ms 35 [(0, .ref a0), (1, .int i1), (2, .int i2)] [.int t1, .ref t0] S rc rs := by
  unfold zf_X18_zone_J35 at h
  refine zw_aload_n hX dX18_zone_35 rfl ?_
  obtain ⟨v3, g, h⟩ := zb_some h
  refine zw_geti hX zl_X18_192 dX18_zone_36 g ?_
  obtain ⟨_, gi, h⟩ := zb_some h
  obtain ⟨r5, g, h⟩ := zb_some h
  refine zc_Vi (as := [.int t1, .int v3]) hX gi (zt_X18_goes (d := d - 1) (by omega) g) zl_X18_199 rfl dX18_zone_39 ⟨rfl, rfl, Nat.le_of_ble_eq_true rfl⟩ ⟨by omega, by omega⟩ ?_
  refine zw_if_ne (tgt := 47) hX dX18_zone_42 (by decide) (fun c42 => ?_) (fun c42 => ?_)
  · rw [if_neg c42] at h
    refine zw_iload_n hX dX18_zone_47 rfl ?_
    refine zw_if_ne (tgt := 70) hX dX18_zone_48 (by decide) (fun c48 => ?_) (fun c48 => ?_)
    · rw [if_neg c48] at h
      refine zw_iload_n hX dX18_zone_70 rfl ?_
      refine zw_iconst (v := (1 : Int32)) hX dX18_zone_71 (by decide) ?_
      refine zw_icmp_ne (tgt := 94) hX dX18_zone_72 (by decide) (fun c72 => ?_) (fun c72 => ?_)
      · rw [if_neg c72] at h
        refine zw_iload_n hX dX18_zone_94 rfl ?_
        refine zw_iconst (v := (2 : Int32)) hX dX18_zone_95 (by decide) ?_
        refine zw_icmp_ne (tgt := 111) hX dX18_zone_96 (by decide) (fun c96 => ?_) (fun c96 => ?_)
        · rw [if_neg c96] at h
          refine zw_aload_n hX dX18_zone_111 rfl ?_
          obtain ⟨b6, g, h⟩ := zb_some h
          refine zw_getr hX zl_X18_28 dX18_zone_112 g ?_
          refine zw_iload_n hX dX18_zone_115 rfl ?_
          refine zw_iconst (v := (1 : Int32)) hX dX18_zone_116 (by decide) ?_
          obtain ⟨_, gi, h⟩ := zb_some h
          obtain ⟨r8, g, h⟩ := zb_some h
          refine zc_Vi (as := [.int i1, .int (1 : Int32)]) hX gi (zt_X14_ofZone (d := d - 1) (by omega) g) zl_X18_504 rfl dX18_zone_117 ⟨rfl, rfl, Nat.le_of_ble_eq_true rfl⟩ ⟨by omega, by omega⟩ ?_
          obtain rfl := Option.some.inj h
          exact zw_iret hX hr dX18_zone_120 rfl ⟨rfl, rfl⟩
        · rw [if_pos c96] at h
          refine zw_aload_n hX dX18_zone_99 rfl ?_
          obtain ⟨b9, g, h⟩ := zb_some h
          refine zw_getr hX zl_X18_28 dX18_zone_100 g ?_
          obtain ⟨b10, g, h⟩ := zb_some h
          refine zw_getr hX zl_X18_501 dX18_zone_103 g ?_
          refine zw_iload_n hX dX18_zone_106 rfl ?_
          obtain ⟨v11, g, h⟩ := zb_some h
          refine zw_xi hX dX18_zone_107 g ?_
          refine zw_goto (tgt := 120) hX dX18_zone_108 (by decide) ?_
          obtain rfl := Option.some.inj h
          exact zw_iret hX hr dX18_zone_120 rfl ⟨rfl, rfl⟩
      · rw [if_pos c72] at h
        refine zw_aload_n hX dX18_zone_75 rfl ?_
        obtain ⟨b12, g, h⟩ := zb_some h
        refine zw_getr hX zl_X18_28 dX18_zone_76 g ?_
        refine zw_iload_n hX dX18_zone_79 rfl ?_
        obtain ⟨_, gi, h⟩ := zb_some h
        obtain ⟨r14, g, h⟩ := zb_some h
        refine zc_Vi (as := [.int i1]) hX gi (zt_X14_isSure (d := d - 1) (by omega) g) zl_X18_498 rfl dX18_zone_80 ⟨rfl, rfl, Nat.le_of_ble_eq_true rfl⟩ ⟨by omega, by omega⟩ ?_
        refine zw_if_eq (tgt := 90) hX dX18_zone_83 (by decide) (fun c83 => ?_) (fun c83 => ?_)
        · rw [if_pos c83] at h
          refine zw_iconst (v := (0 : Int32)) hX dX18_zone_90 (by decide) ?_
          refine zw_goto (tgt := 120) hX dX18_zone_91 (by decide) ?_
          obtain rfl := Option.some.inj h
          exact zw_iret hX hr dX18_zone_120 rfl ⟨rfl, rfl⟩
        · rw [if_neg c83] at h
          refine zw_iconst (v := (1 : Int32)) hX dX18_zone_86 (by decide) ?_
          refine zw_goto (tgt := 120) hX dX18_zone_87 (by decide) ?_
          obtain rfl := Option.some.inj h
          exact zw_iret hX hr dX18_zone_120 rfl ⟨rfl, rfl⟩
    · rw [if_pos c48] at h
      refine zw_aload_n hX dX18_zone_51 rfl ?_
      obtain ⟨b15, g, h⟩ := zb_some h
      refine zw_getr hX zl_X18_28 dX18_zone_52 g ?_
      refine zw_iload_n hX dX18_zone_55 rfl ?_
      obtain ⟨_, gi, h⟩ := zb_some h
      obtain ⟨r17, g, h⟩ := zb_some h
      refine zc_Vi (as := [.int i1]) hX gi (zt_X14_isOn (d := d - 1) (by omega) g) zl_X18_495 rfl dX18_zone_56 ⟨rfl, rfl, Nat.le_of_ble_eq_true rfl⟩ ⟨by omega, by omega⟩ ?_
      refine zw_if_eq (tgt := 66) hX dX18_zone_59 (by decide) (fun c59 => ?_) (fun c59 => ?_)
      · rw [if_pos c59] at h
        refine zw_iconst (v := (0 : Int32)) hX dX18_zone_66 (by decide) ?_
        refine zw_goto (tgt := 120) hX dX18_zone_67 (by decide) ?_
        obtain rfl := Option.some.inj h
        exact zw_iret hX hr dX18_zone_120 rfl ⟨rfl, rfl⟩
      · rw [if_neg c59] at h
        refine zw_iconst (v := (1 : Int32)) hX dX18_zone_62 (by decide) ?_
        refine zw_goto (tgt := 120) hX dX18_zone_63 (by decide) ?_
        obtain rfl := Option.some.inj h
        exact zw_iret hX hr dX18_zone_120 rfl ⟨rfl, rfl⟩
  · rw [if_pos c42] at h
    refine zw_iconst (v := (0 : Int32)) hX dX18_zone_45 (by decide) ?_
    obtain rfl := Option.some.inj h
    exact zw_iret hX hr dX18_zone_46 rfl ⟨rfl, rfl⟩
set_option maxHeartbeats 4000000 in
set_option maxRecDepth 100000 in
theorem zt_X18_zone_J34 {p : Program} {l : Launch} {e : Env} {R : Room} {s : State} {m : MethodId} {args : Array Value} {below : List Frame} {meth : Method} {c : Code} {V : zm_V} {mc ms d rc rs : Nat} (hX : zm_X p R s m args meth c RX18 "zone" cX18_zone 3 zk_E V mc ms) (hr : meth.sig.returnType = (some .int)) (hR : R.frames = d ∧ R.locals = 64 * d) (hd : 4 ≤ d) {N : Nat} {a0 : Nat} {i1 : Int32} {i2 : Int32} {t0 : Nat} {out : (Int32 × zm_S)} {S : zm_S} (h : zf_X18_zone_J34 N a0 i1 i2 t0 S = some out) : zw p l e R s m args below meth c (vx_MQ below (zm_Qc zk_E V (zo_i out)) (zm_XC zk_E V zo_x) args s mc ms (fun q => V.2.2.2.1 ≤ q)) 3 zk_E V mc ms 34 [(0, .ref a0), (1, .int i1), (2, .int i2)] [.ref t0] S rc rs := by
  unfold zf_X18_zone_J34 at h
  refine zw_iconst (v := (0 : Int32)) hX dX18_zone_34 (by decide) ?_
  refine zw_sub (lv' := [(0, .ref a0), (1, .int i1), (2, .int i2)]) (List.forall_mem_cons.mpr ⟨rfl, (List.forall_mem_cons.mpr ⟨rfl, (List.forall_mem_cons.mpr ⟨rfl, zs_nil⟩)⟩)⟩) ?_
  exact zt_X18_zone_J35 hX hr hR hd h
set_option maxHeartbeats 4000000 in
set_option maxRecDepth 100000 in
theorem zt_X18_zone {l : Launch} {V : zm_V} {N : Nat} {S : zm_S} {out : (Int32 × zm_S)} {d : Nat} {a0 : Nat} {i1 : Int32} {i2 : Int32} (hd : 4 ≤ d) (h : zf_X18_zone N a0 i1 i2 S = some out) : zm_Met l zk_E V yX18_zone (.code yX18_zone cX18_zone 3 (some .int)) d [.ref a0, .int i1, .int i2] S 0 0 (zo_i out) zo_x := by
  refine zm_of (by decide +kernel) (Nat.le_of_ble_eq_true rfl) ?_
  intro p e R s m args below meth c hRR hX hr hxt
  have hR : R.frames = d ∧ R.locals = 64 * d := by rw [hRR]; exact ⟨rfl, rfl⟩
  have hX : zm_X p R s m args meth c RX18 "zone" cX18_zone 3 zk_E V 0 0 := hX
  unfold zf_X18_zone at h
  refine zw_sub (lv' := [(0, .ref a0), (1, .int i1), (2, .int i2)]) (List.forall_mem_cons.mpr ⟨rfl, (List.forall_mem_cons.mpr ⟨rfl, (List.forall_mem_cons.mpr ⟨rfl, zs_nil⟩)⟩)⟩) ?_
  refine zw_aload_n hX dX18_zone_0 rfl ?_
  refine zw_iload_n hX dX18_zone_1 rfl ?_
  refine zw_bipush (v := (20 : Int32)) hX dX18_zone_2 (by decide) ?_
  obtain ⟨r2, g, h⟩ := zb_some h
  refine zc_Si (as := [.int i1, .int (20 : Int32)]) hX (zt_X18_isIn (d := d - 1) (by omega) g) zl_X18_207 dX18_zone_4 ⟨rfl, rfl, Nat.le_of_ble_eq_true rfl⟩ ⟨by omega, by omega⟩ ?_
  refine zw_if_eq (tgt := 34) hX dX18_zone_7 (by decide) (fun c7 => ?_) (fun c7 => ?_)
  · rw [if_pos c7] at h
    refine zw_sub (lv' := [(0, .ref a0), (1, .int i1), (2, .int i2)]) (List.forall_mem_cons.mpr ⟨rfl, (List.forall_mem_cons.mpr ⟨rfl, (List.forall_mem_cons.mpr ⟨rfl, zs_nil⟩)⟩)⟩) ?_
    exact zt_X18_zone_J34 hX hr hR hd h
  · rw [if_neg c7] at h
    refine zw_aload_n hX dX18_zone_10 rfl ?_
    obtain ⟨b18, g, h⟩ := zb_some h
    refine zw_getr hX zl_X18_28 dX18_zone_11 g ?_
    obtain ⟨b19, g, h⟩ := zb_some h
    refine zw_getr hX zl_X18_492 dX18_zone_14 g ?_
    refine zw_iload_n hX dX18_zone_17 rfl ?_
    obtain ⟨v20, g, h⟩ := zb_some h
    refine zw_xz hX dX18_zone_18 g ?_
    refine zw_if_eq (tgt := 34) hX dX18_zone_19 (by decide) (fun c19 => ?_) (fun c19 => ?_)
    · rw [if_pos c19] at h
      refine zw_sub (lv' := [(0, .ref a0), (1, .int i1), (2, .int i2)]) (List.forall_mem_cons.mpr ⟨rfl, (List.forall_mem_cons.mpr ⟨rfl, (List.forall_mem_cons.mpr ⟨rfl, zs_nil⟩)⟩)⟩) ?_
      exact zt_X18_zone_J34 hX hr hR hd h
    · rw [if_neg c19] at h
      refine zw_iload_n hX dX18_zone_22 rfl ?_
      refine zw_iconst (v := (4 : Int32)) hX dX18_zone_23 (by decide) ?_
      obtain ⟨r22, g, h⟩ := zb_some h
      refine zc_Si (as := [.int i2, .int (4 : Int32)]) hX (zt_X18_isIn (d := d - 1) (by omega) g) zl_X18_207 dX18_zone_24 ⟨rfl, rfl, Nat.le_of_ble_eq_true rfl⟩ ⟨by omega, by omega⟩ ?_
      refine zw_if_eq (tgt := 34) hX dX18_zone_27 (by decide) (fun c27 => ?_) (fun c27 => ?_)
      · rw [if_pos c27] at h
        refine zw_sub (lv' := [(0, .ref a0), (1, .int i1), (2, .int i2)]) (List.forall_mem_cons.mpr ⟨rfl, (List.forall_mem_cons.mpr ⟨rfl, (List.forall_mem_cons.mpr ⟨rfl, zs_nil⟩)⟩)⟩) ?_
        exact zt_X18_zone_J34 hX hr hR hd h
      · rw [if_neg c27] at h
        refine zw_iconst (v := (1 : Int32)) hX dX18_zone_30 (by decide) ?_
        refine zw_goto (tgt := 35) hX dX18_zone_31 (by decide) ?_
        refine zw_sub (lv' := [(0, .ref a0), (1, .int i1), (2, .int i2)]) (List.forall_mem_cons.mpr ⟨rfl, (List.forall_mem_cons.mpr ⟨rfl, (List.forall_mem_cons.mpr ⟨rfl, zs_nil⟩)⟩)⟩) ?_
        exact zt_X18_zone_J35 hX hr hR hd h
set_option maxHeartbeats 4000000 in
set_option maxRecDepth 100000 in
theorem zt_X18_event_J28 {p : Program} {l : Launch} {e : Env} {R : Room} {s : State} {m : MethodId} {args : Array Value} {below : List Frame} {meth : Method} {c : Code} {V : zm_V} {mc ms d rc rs : Nat} (hX : zm_X p R s m args meth c RX18 "event" cX18_event 3 zk_E V mc ms) (hr : meth.sig.returnType = (some .int)) (hR : R.frames = d ∧ R.locals = 64 * d) (hd : 2 ≤ d) {N : Nat} {a0 : Nat} {i1 : Int32} {i2 : Int32} {t0 : Nat} {t1 : Int32} {out : (Int32 × zm_S)} {S : zm_S} (h : zf_X18_event_J28 N a0 i1 i2 t0 t1 S = some out) : zw p l e R s m args below meth c (vx_MQ below (zm_Qc zk_E V (zo_i out)) (zm_XC zk_E V zo_x) args s mc ms (fun q => V.2.2.2.1 ≤ q)) 3 zk_E V mc ms 28 [(0, .ref a0), (1, .int i1), (2, .int i2)] [.int t1, .ref t0] S rc rs := by
  unfold zf_X18_event_J28 at h
  refine zw_aload_n hX dX18_event_28 rfl ?_
  obtain ⟨v5, g, h⟩ := zb_some h
  refine zw_geti hX zl_X18_192 dX18_event_29 g ?_
  obtain ⟨_, gi, h⟩ := zb_some h
  obtain ⟨r7, g, h⟩ := zb_some h
  refine zc_Vi (as := [.int t1, .int v5]) hX gi (zt_X18_goes (d := d - 1) (by omega) g) zl_X18_199 rfl dX18_event_32 ⟨rfl, rfl, Nat.le_of_ble_eq_true rfl⟩ ⟨by omega, by omega⟩ ?_
  refine zw_if_eq (tgt := 50) hX dX18_event_35 (by decide) (fun c35 => ?_) (fun c35 => ?_)
  · rw [if_pos c35] at h
    refine zw_iconst (v := (0 : Int32)) hX dX18_event_50 (by decide) ?_
    obtain rfl := Option.some.inj h
    exact zw_iret hX hr dX18_event_51 rfl ⟨rfl, rfl⟩
  · rw [if_neg c35] at h
    refine zw_aload_n hX dX18_event_38 rfl ?_
    obtain ⟨b8, g, h⟩ := zb_some h
    refine zw_getr hX zl_X18_28 dX18_event_39 g ?_
    refine zw_iload_n hX dX18_event_42 rfl ?_
    refine zw_iload_n hX dX18_event_43 rfl ?_
    obtain ⟨_, gi, h⟩ := zb_some h
    obtain ⟨r10, g, h⟩ := zb_some h
    refine zc_Vi (as := [.int i1, .int i2]) hX gi (zt_X14_event (d := d - 1) (by omega) g) zl_X18_510 rfl dX18_event_44 ⟨rfl, rfl, Nat.le_of_ble_eq_true rfl⟩ ⟨by omega, by omega⟩ ?_
    refine zw_goto (tgt := 51) hX dX18_event_47 (by decide) ?_
    obtain rfl := Option.some.inj h
    exact zw_iret hX hr dX18_event_51 rfl ⟨rfl, rfl⟩
set_option maxHeartbeats 4000000 in
set_option maxRecDepth 100000 in
theorem zt_X18_event_J27 {p : Program} {l : Launch} {e : Env} {R : Room} {s : State} {m : MethodId} {args : Array Value} {below : List Frame} {meth : Method} {c : Code} {V : zm_V} {mc ms d rc rs : Nat} (hX : zm_X p R s m args meth c RX18 "event" cX18_event 3 zk_E V mc ms) (hr : meth.sig.returnType = (some .int)) (hR : R.frames = d ∧ R.locals = 64 * d) (hd : 2 ≤ d) {N : Nat} {a0 : Nat} {i1 : Int32} {i2 : Int32} {t0 : Nat} {out : (Int32 × zm_S)} {S : zm_S} (h : zf_X18_event_J27 N a0 i1 i2 t0 S = some out) : zw p l e R s m args below meth c (vx_MQ below (zm_Qc zk_E V (zo_i out)) (zm_XC zk_E V zo_x) args s mc ms (fun q => V.2.2.2.1 ≤ q)) 3 zk_E V mc ms 27 [(0, .ref a0), (1, .int i1), (2, .int i2)] [.ref t0] S rc rs := by
  unfold zf_X18_event_J27 at h
  refine zw_iconst (v := (0 : Int32)) hX dX18_event_27 (by decide) ?_
  refine zw_sub (lv' := [(0, .ref a0), (1, .int i1), (2, .int i2)]) (List.forall_mem_cons.mpr ⟨rfl, (List.forall_mem_cons.mpr ⟨rfl, (List.forall_mem_cons.mpr ⟨rfl, zs_nil⟩)⟩)⟩) ?_
  exact zt_X18_event_J28 hX hr hR hd h
set_option maxHeartbeats 4000000 in
set_option maxRecDepth 100000 in
theorem zt_X18_event {l : Launch} {V : zm_V} {N : Nat} {S : zm_S} {out : (Int32 × zm_S)} {d : Nat} {a0 : Nat} {i1 : Int32} {i2 : Int32} (hd : 2 ≤ d) (h : zf_X18_event N a0 i1 i2 S = some out) : zm_Met l zk_E V yX18_event (.code yX18_event cX18_event 3 (some .int)) d [.ref a0, .int i1, .int i2] S 0 0 (zo_i out) zo_x := by
  refine zm_of (by decide +kernel) (Nat.le_of_ble_eq_true rfl) ?_
  intro p e R s m args below meth c hRR hX hr hxt
  have hR : R.frames = d ∧ R.locals = 64 * d := by rw [hRR]; exact ⟨rfl, rfl⟩
  have hX : zm_X p R s m args meth c RX18 "event" cX18_event 3 zk_E V 0 0 := hX
  unfold zf_X18_event at h
  refine zw_sub (lv' := [(0, .ref a0), (1, .int i1), (2, .int i2)]) (List.forall_mem_cons.mpr ⟨rfl, (List.forall_mem_cons.mpr ⟨rfl, (List.forall_mem_cons.mpr ⟨rfl, zs_nil⟩)⟩)⟩) ?_
  refine zw_aload_n hX dX18_event_0 rfl ?_
  refine zw_iload_n hX dX18_event_1 rfl ?_
  refine zw_aload_n hX dX18_event_2 rfl ?_
  obtain ⟨b1, g, h⟩ := zb_some h
  refine zw_getr hX zl_X18_28 dX18_event_3 g ?_
  obtain ⟨v2, g, h⟩ := zb_some h
  refine zw_geti hX zl_X18_507 dX18_event_6 g ?_
  obtain ⟨r4, g, h⟩ := zb_some h
  refine zc_Si (as := [.int i1, .int v2]) hX (zt_X18_isIn (d := d - 1) (by omega) g) zl_X18_207 dX18_event_9 ⟨rfl, rfl, Nat.le_of_ble_eq_true rfl⟩ ⟨by omega, by omega⟩ ?_
  refine zw_if_eq (tgt := 27) hX dX18_event_12 (by decide) (fun c12 => ?_) (fun c12 => ?_)
  · rw [if_pos c12] at h
    refine zw_sub (lv' := [(0, .ref a0), (1, .int i1), (2, .int i2)]) (List.forall_mem_cons.mpr ⟨rfl, (List.forall_mem_cons.mpr ⟨rfl, (List.forall_mem_cons.mpr ⟨rfl, zs_nil⟩)⟩)⟩) ?_
    exact zt_X18_event_J27 hX hr hR hd h
  · rw [if_neg c12] at h
    refine zw_iload_n hX dX18_event_15 rfl ?_
    refine zw_iconst (v := (3 : Int32)) hX dX18_event_16 (by decide) ?_
    obtain ⟨r12, g, h⟩ := zb_some h
    refine zc_Si (as := [.int i2, .int (3 : Int32)]) hX (zt_X18_isIn (d := d - 1) (by omega) g) zl_X18_207 dX18_event_17 ⟨rfl, rfl, Nat.le_of_ble_eq_true rfl⟩ ⟨by omega, by omega⟩ ?_
    refine zw_if_eq (tgt := 27) hX dX18_event_20 (by decide) (fun c20 => ?_) (fun c20 => ?_)
    · rw [if_pos c20] at h
      refine zw_sub (lv' := [(0, .ref a0), (1, .int i1), (2, .int i2)]) (List.forall_mem_cons.mpr ⟨rfl, (List.forall_mem_cons.mpr ⟨rfl, (List.forall_mem_cons.mpr ⟨rfl, zs_nil⟩)⟩)⟩) ?_
      exact zt_X18_event_J27 hX hr hR hd h
    · rw [if_neg c20] at h
      refine zw_iconst (v := (1 : Int32)) hX dX18_event_23 (by decide) ?_
      refine zw_goto (tgt := 28) hX dX18_event_24 (by decide) ?_
      refine zw_sub (lv' := [(0, .ref a0), (1, .int i1), (2, .int i2)]) (List.forall_mem_cons.mpr ⟨rfl, (List.forall_mem_cons.mpr ⟨rfl, (List.forall_mem_cons.mpr ⟨rfl, zs_nil⟩)⟩)⟩) ?_
      exact zt_X18_event_J28 hX hr hR hd h
set_option maxHeartbeats 4000000 in
set_option maxRecDepth 100000 in
theorem zt_X18_block_J31 {p : Program} {l : Launch} {e : Env} {R : Room} {s : State} {m : MethodId} {args : Array Value} {below : List Frame} {meth : Method} {c : Code} {V : zm_V} {mc ms d rc rs : Nat} (hX : zm_X p R s m args meth c RX18 "block" cX18_block 2 zk_E V mc ms) (hr : meth.sig.returnType = (some .int)) (hR : R.frames = d ∧ R.locals = 64 * d) (hd : 2 ≤ d) {N : Nat} {a0 : Nat} {i1 : Int32} {t0 : Nat} {t1 : Int32} {t2 : Int32} {out : (Int32 × zm_S)} {S : zm_S} (h : zf_X18_block_J31 N a0 i1 t0 t1 t2 S = some out) : zw p l e R s m args below meth c (vx_MQ below (zm_Qc zk_E V (zo_i out)) (zm_XC zk_E V zo_x) args s mc ms (fun q => V.2.2.2.1 ≤ q)) 2 zk_E V mc ms 31 [(0, .ref a0), (1, .int i1)] [.int t2, .int t1, .ref t0] S rc rs := by
  unfold zf_X18_block_J31 at h
  obtain ⟨_, gi, h⟩ := zb_some h
  obtain ⟨r5, g, h⟩ := zb_some h
  refine zc_Vi (as := [.int t1, .int t2]) hX gi (zt_X18_goes (d := d - 1) (by omega) g) zl_X18_199 rfl dX18_block_31 ⟨rfl, rfl, Nat.le_of_ble_eq_true rfl⟩ ⟨by omega, by omega⟩ ?_
  refine zw_if_eq (tgt := 48) hX dX18_block_34 (by decide) (fun c34 => ?_) (fun c34 => ?_)
  · rw [if_pos c34] at h
    refine zw_iconst (v := (0 : Int32)) hX dX18_block_48 (by decide) ?_
    obtain rfl := Option.some.inj h
    exact zw_iret hX hr dX18_block_49 rfl ⟨rfl, rfl⟩
  · rw [if_neg c34] at h
    refine zw_aload_n hX dX18_block_37 rfl ?_
    obtain ⟨b6, g, h⟩ := zb_some h
    refine zw_getr hX zl_X18_35 dX18_block_38 g ?_
    refine zw_iload_n hX dX18_block_41 rfl ?_
    obtain ⟨_, gi, h⟩ := zb_some h
    obtain ⟨r8, g, h⟩ := zb_some h
    refine zc_Vi (as := [.int i1]) hX gi (zt_X17_block (d := d - 1) (by omega) g) zl_X18_516 rfl dX18_block_42 ⟨rfl, rfl, Nat.le_of_ble_eq_true rfl⟩ ⟨by omega, by omega⟩ ?_
    refine zw_goto (tgt := 49) hX dX18_block_45 (by decide) ?_
    obtain rfl := Option.some.inj h
    exact zw_iret hX hr dX18_block_49 rfl ⟨rfl, rfl⟩
set_option maxHeartbeats 4000000 in
set_option maxRecDepth 100000 in
theorem zt_X18_block_J30 {p : Program} {l : Launch} {e : Env} {R : Room} {s : State} {m : MethodId} {args : Array Value} {below : List Frame} {meth : Method} {c : Code} {V : zm_V} {mc ms d rc rs : Nat} (hX : zm_X p R s m args meth c RX18 "block" cX18_block 2 zk_E V mc ms) (hr : meth.sig.returnType = (some .int)) (hR : R.frames = d ∧ R.locals = 64 * d) (hd : 2 ≤ d) {N : Nat} {a0 : Nat} {i1 : Int32} {t0 : Nat} {t1 : Int32} {out : (Int32 × zm_S)} {S : zm_S} (h : zf_X18_block_J30 N a0 i1 t0 t1 S = some out) : zw p l e R s m args below meth c (vx_MQ below (zm_Qc zk_E V (zo_i out)) (zm_XC zk_E V zo_x) args s mc ms (fun q => V.2.2.2.1 ≤ q)) 2 zk_E V mc ms 30 [(0, .ref a0), (1, .int i1)] [.int t1, .ref t0] S rc rs := by
  unfold zf_X18_block_J30 at h
  refine zw_iconst (v := (0 : Int32)) hX dX18_block_30 (by decide) ?_
  refine zw_sub (lv' := [(0, .ref a0), (1, .int i1)]) (List.forall_mem_cons.mpr ⟨rfl, (List.forall_mem_cons.mpr ⟨rfl, zs_nil⟩)⟩) ?_
  exact zt_X18_block_J31 hX hr hR hd h
set_option maxHeartbeats 4000000 in
set_option maxRecDepth 100000 in
theorem zt_X18_block {l : Launch} {V : zm_V} {N : Nat} {S : zm_S} {out : (Int32 × zm_S)} {d : Nat} {a0 : Nat} {i1 : Int32} (hd : 2 ≤ d) (h : zf_X18_block N a0 i1 S = some out) : zm_Met l zk_E V yX18_block (.code yX18_block cX18_block 2 (some .int)) d [.ref a0, .int i1] S 0 0 (zo_i out) zo_x := by
  refine zm_of (by decide +kernel) (Nat.le_of_ble_eq_true rfl) ?_
  intro p e R s m args below meth c hRR hX hr hxt
  have hR : R.frames = d ∧ R.locals = 64 * d := by rw [hRR]; exact ⟨rfl, rfl⟩
  have hX : zm_X p R s m args meth c RX18 "block" cX18_block 2 zk_E V 0 0 := hX
  unfold zf_X18_block at h
  refine zw_sub (lv' := [(0, .ref a0), (1, .int i1)]) (List.forall_mem_cons.mpr ⟨rfl, (List.forall_mem_cons.mpr ⟨rfl, zs_nil⟩)⟩) ?_
  refine zw_aload_n hX dX18_block_0 rfl ?_
  refine zw_iload_n hX dX18_block_1 rfl ?_
  refine zw_bipush (v := (26 : Int32)) hX dX18_block_2 (by decide) ?_
  obtain ⟨r2, g, h⟩ := zb_some h
  refine zc_Si (as := [.int i1, .int (26 : Int32)]) hX (zt_X18_isIn (d := d - 1) (by omega) g) zl_X18_207 dX18_block_4 ⟨rfl, rfl, Nat.le_of_ble_eq_true rfl⟩ ⟨by omega, by omega⟩ ?_
  refine zw_aload_n hX dX18_block_7 rfl ?_
  obtain ⟨v3, g, h⟩ := zb_some h
  refine zw_geti hX zl_X18_192 dX18_block_8 g ?_
  refine zw_if_eq (tgt := 30) hX dX18_block_11 (by decide) (fun c11 => ?_) (fun c11 => ?_)
  · rw [if_pos c11] at h
    refine zw_sub (lv' := [(0, .ref a0), (1, .int i1)]) (List.forall_mem_cons.mpr ⟨rfl, (List.forall_mem_cons.mpr ⟨rfl, zs_nil⟩)⟩) ?_
    exact zt_X18_block_J30 hX hr hR hd h
  · rw [if_neg c11] at h
    refine zw_aload_n hX dX18_block_14 rfl ?_
    obtain ⟨b9, g, h⟩ := zb_some h
    refine zw_getr hX zl_X18_35 dX18_block_15 g ?_
    obtain ⟨v10, g, h⟩ := zb_some h
    refine zw_geti hX zl_X18_513 dX18_block_18 g ?_
    refine zw_bipush (v := (40 : Int32)) hX dX18_block_21 (by decide) ?_
    refine zw_icmp_ge (tgt := 30) hX dX18_block_23 (by decide) (fun c23 => ?_) (fun c23 => ?_)
    · rw [if_pos c23] at h
      refine zw_sub (lv' := [(0, .ref a0), (1, .int i1)]) (List.forall_mem_cons.mpr ⟨rfl, (List.forall_mem_cons.mpr ⟨rfl, zs_nil⟩)⟩) ?_
      exact zt_X18_block_J30 hX hr hR hd h
    · rw [if_neg c23] at h
      refine zw_iconst (v := (1 : Int32)) hX dX18_block_26 (by decide) ?_
      refine zw_goto (tgt := 31) hX dX18_block_27 (by decide) ?_
      refine zw_sub (lv' := [(0, .ref a0), (1, .int i1)]) (List.forall_mem_cons.mpr ⟨rfl, (List.forall_mem_cons.mpr ⟨rfl, zs_nil⟩)⟩) ?_
      exact zt_X18_block_J31 hX hr hR hd h
set_option maxHeartbeats 4000000 in
set_option maxRecDepth 100000 in
theorem zt_X18_wire_J47 {p : Program} {l : Launch} {e : Env} {R : Room} {s : State} {m : MethodId} {args : Array Value} {below : List Frame} {meth : Method} {c : Code} {V : zm_V} {mc ms d rc rs : Nat} (hX : zm_X p R s m args meth c RX18 "wire" cX18_wire 5 zk_E V mc ms) (hr : meth.sig.returnType = (some .int)) (hR : R.frames = d ∧ R.locals = 64 * d) (hd : 2 ≤ d) {N : Nat} {a0 : Nat} {i1 : Int32} {i2 : Int32} {i3 : Int32} {t0 : Nat} {t1 : Int32} {out : (Int32 × zm_S)} {S : zm_S} (h : zf_X18_wire_J47 N a0 i1 i2 i3 t0 t1 S = some out) : zw p l e R s m args below meth c (vx_MQ below (zm_Qc zk_E V (zo_i out)) (zm_XC zk_E V zo_x) args s mc ms (fun q => V.2.2.2.1 ≤ q)) 5 zk_E V mc ms 47 [(0, .ref a0), (1, .int i1), (2, .int i2), (3, .int i3)] [.int t1, .ref t0] S rc rs := by
  unfold zf_X18_wire_J47 at h
  refine zw_aload_n hX dX18_wire_47 rfl ?_
  obtain ⟨v5, g, h⟩ := zb_some h
  refine zw_geti hX zl_X18_192 dX18_wire_48 g ?_
  obtain ⟨_, gi, h⟩ := zb_some h
  obtain ⟨r7, g, h⟩ := zb_some h
  refine zc_Vi (as := [.int t1, .int v5]) hX gi (zt_X18_goes (d := d - 1) (by omega) g) zl_X18_199 rfl dX18_wire_51 ⟨rfl, rfl, Nat.le_of_ble_eq_true rfl⟩ ⟨by omega, by omega⟩ ?_
  refine zw_if_ne (tgt := 59) hX dX18_wire_54 (by decide) (fun c54 => ?_) (fun c54 => ?_)
  · rw [if_neg c54] at h
    refine zw_aload_n hX dX18_wire_59 rfl ?_
    obtain ⟨b8, g, h⟩ := zb_some h
    refine zw_getr hX zl_X18_35 dX18_wire_60 g ?_
    obtain ⟨b9, g, h⟩ := zb_some h
    refine zw_getr hX zl_X18_519 dX18_wire_63 g ?_
    refine zw_iconst (v := (3 : Int32)) hX dX18_wire_66 (by decide) ?_
    refine zw_iload_n hX dX18_wire_67 rfl ?_
    refine zw_imul hX dX18_wire_68 ?_
    refine zw_iload_n hX dX18_wire_69 rfl ?_
    refine zw_iadd hX dX18_wire_70 ?_
    obtain ⟨v10, g, h⟩ := zb_some h
    refine zw_xi hX dX18_wire_71 g ?_
    refine zw_istore hX dX18_wire_72 (by decide) ?_
    refine zw_aload_n hX dX18_wire_74 rfl ?_
    obtain ⟨b11, g, h⟩ := zb_some h
    refine zw_getr hX zl_X18_35 dX18_wire_75 g ?_
    obtain ⟨b12, g, h⟩ := zb_some h
    refine zw_getr hX zl_X18_519 dX18_wire_78 g ?_
    refine zw_iconst (v := (3 : Int32)) hX dX18_wire_81 (by decide) ?_
    refine zw_iload_n hX dX18_wire_82 rfl ?_
    refine zw_imul hX dX18_wire_83 ?_
    refine zw_iload_n hX dX18_wire_84 rfl ?_
    refine zw_iadd hX dX18_wire_85 ?_
    refine zw_iload_n hX dX18_wire_86 rfl ?_
    obtain ⟨S13, g, h⟩ := zb_some h
    refine zw_si hX dX18_wire_87 g ?_
    refine zw_iload hX dX18_wire_88 rfl ?_
    obtain rfl := Option.some.inj h
    exact zw_iret hX hr dX18_wire_90 rfl ⟨rfl, rfl⟩
  · rw [if_pos c54] at h
    refine zw_iconst (v := (0 : Int32)) hX dX18_wire_57 (by decide) ?_
    obtain rfl := Option.some.inj h
    exact zw_iret hX hr dX18_wire_58 rfl ⟨rfl, rfl⟩
set_option maxHeartbeats 4000000 in
set_option maxRecDepth 100000 in
theorem zt_X18_wire_J46 {p : Program} {l : Launch} {e : Env} {R : Room} {s : State} {m : MethodId} {args : Array Value} {below : List Frame} {meth : Method} {c : Code} {V : zm_V} {mc ms d rc rs : Nat} (hX : zm_X p R s m args meth c RX18 "wire" cX18_wire 5 zk_E V mc ms) (hr : meth.sig.returnType = (some .int)) (hR : R.frames = d ∧ R.locals = 64 * d) (hd : 2 ≤ d) {N : Nat} {a0 : Nat} {i1 : Int32} {i2 : Int32} {i3 : Int32} {t0 : Nat} {out : (Int32 × zm_S)} {S : zm_S} (h : zf_X18_wire_J46 N a0 i1 i2 i3 t0 S = some out) : zw p l e R s m args below meth c (vx_MQ below (zm_Qc zk_E V (zo_i out)) (zm_XC zk_E V zo_x) args s mc ms (fun q => V.2.2.2.1 ≤ q)) 5 zk_E V mc ms 46 [(0, .ref a0), (1, .int i1), (2, .int i2), (3, .int i3)] [.ref t0] S rc rs := by
  unfold zf_X18_wire_J46 at h
  refine zw_iconst (v := (0 : Int32)) hX dX18_wire_46 (by decide) ?_
  refine zw_sub (lv' := [(0, .ref a0), (1, .int i1), (2, .int i2), (3, .int i3)]) (List.forall_mem_cons.mpr ⟨rfl, (List.forall_mem_cons.mpr ⟨rfl, (List.forall_mem_cons.mpr ⟨rfl, (List.forall_mem_cons.mpr ⟨rfl, zs_nil⟩)⟩)⟩)⟩) ?_
  exact zt_X18_wire_J47 hX hr hR hd h
set_option maxHeartbeats 4000000 in
set_option maxRecDepth 100000 in
theorem zt_X18_wire_J42 {p : Program} {l : Launch} {e : Env} {R : Room} {s : State} {m : MethodId} {args : Array Value} {below : List Frame} {meth : Method} {c : Code} {V : zm_V} {mc ms d rc rs : Nat} (hX : zm_X p R s m args meth c RX18 "wire" cX18_wire 5 zk_E V mc ms) (hr : meth.sig.returnType = (some .int)) (hR : R.frames = d ∧ R.locals = 64 * d) (hd : 2 ≤ d) {N : Nat} {a0 : Nat} {i1 : Int32} {i2 : Int32} {i3 : Int32} {t0 : Nat} {out : (Int32 × zm_S)} {S : zm_S} (h : zf_X18_wire_J42 N a0 i1 i2 i3 t0 S = some out) : zw p l e R s m args below meth c (vx_MQ below (zm_Qc zk_E V (zo_i out)) (zm_XC zk_E V zo_x) args s mc ms (fun q => V.2.2.2.1 ≤ q)) 5 zk_E V mc ms 42 [(0, .ref a0), (1, .int i1), (2, .int i2), (3, .int i3)] [.ref t0] S rc rs := by
  unfold zf_X18_wire_J42 at h
  refine zw_iconst (v := (1 : Int32)) hX dX18_wire_42 (by decide) ?_
  refine zw_goto (tgt := 47) hX dX18_wire_43 (by decide) ?_
  refine zw_sub (lv' := [(0, .ref a0), (1, .int i1), (2, .int i2), (3, .int i3)]) (List.forall_mem_cons.mpr ⟨rfl, (List.forall_mem_cons.mpr ⟨rfl, (List.forall_mem_cons.mpr ⟨rfl, (List.forall_mem_cons.mpr ⟨rfl, zs_nil⟩)⟩)⟩)⟩) ?_
  exact zt_X18_wire_J47 hX hr hR hd h
set_option maxHeartbeats 4000000 in
set_option maxRecDepth 100000 in
theorem zt_X18_wire {l : Launch} {V : zm_V} {N : Nat} {S : zm_S} {out : (Int32 × zm_S)} {d : Nat} {a0 : Nat} {i1 : Int32} {i2 : Int32} {i3 : Int32} (hd : 2 ≤ d) (h : zf_X18_wire N a0 i1 i2 i3 S = some out) : zm_Met l zk_E V yX18_wire (.code yX18_wire cX18_wire 5 (some .int)) d [.ref a0, .int i1, .int i2, .int i3] S 0 0 (zo_i out) zo_x := by
  refine zm_of (by decide +kernel) (Nat.le_of_ble_eq_true rfl) ?_
  intro p e R s m args below meth c hRR hX hr hxt
  have hR : R.frames = d ∧ R.locals = 64 * d := by rw [hRR]; exact ⟨rfl, rfl⟩
  have hX : zm_X p R s m args meth c RX18 "wire" cX18_wire 5 zk_E V 0 0 := hX
  unfold zf_X18_wire at h
  refine zw_sub (lv' := [(0, .ref a0), (1, .int i1), (2, .int i2), (3, .int i3)]) (List.forall_mem_cons.mpr ⟨rfl, (List.forall_mem_cons.mpr ⟨rfl, (List.forall_mem_cons.mpr ⟨rfl, (List.forall_mem_cons.mpr ⟨rfl, zs_nil⟩)⟩)⟩)⟩) ?_
  refine zw_aload_n hX dX18_wire_0 rfl ?_
  refine zw_iload_n hX dX18_wire_1 rfl ?_
  refine zw_aload_n hX dX18_wire_2 rfl ?_
  obtain ⟨b1, g, h⟩ := zb_some h
  refine zw_getr hX zl_X18_35 dX18_wire_3 g ?_
  obtain ⟨v2, g, h⟩ := zb_some h
  refine zw_geti hX zl_X18_513 dX18_wire_6 g ?_
  obtain ⟨r4, g, h⟩ := zb_some h
  refine zc_Si (as := [.int i1, .int v2]) hX (zt_X18_isIn (d := d - 1) (by omega) g) zl_X18_207 dX18_wire_9 ⟨rfl, rfl, Nat.le_of_ble_eq_true rfl⟩ ⟨by omega, by omega⟩ ?_
  refine zw_if_eq (tgt := 46) hX dX18_wire_12 (by decide) (fun c12 => ?_) (fun c12 => ?_)
  · rw [if_pos c12] at h
    refine zw_sub (lv' := [(0, .ref a0), (1, .int i1), (2, .int i2), (3, .int i3)]) (List.forall_mem_cons.mpr ⟨rfl, (List.forall_mem_cons.mpr ⟨rfl, (List.forall_mem_cons.mpr ⟨rfl, (List.forall_mem_cons.mpr ⟨rfl, zs_nil⟩)⟩)⟩)⟩) ?_
    exact zt_X18_wire_J46 hX hr hR hd h
  · rw [if_neg c12] at h
    refine zw_iload_n hX dX18_wire_15 rfl ?_
    refine zw_iconst (v := (3 : Int32)) hX dX18_wire_16 (by decide) ?_
    obtain ⟨r15, g, h⟩ := zb_some h
    refine zc_Si (as := [.int i2, .int (3 : Int32)]) hX (zt_X18_isIn (d := d - 1) (by omega) g) zl_X18_207 dX18_wire_17 ⟨rfl, rfl, Nat.le_of_ble_eq_true rfl⟩ ⟨by omega, by omega⟩ ?_
    refine zw_if_eq (tgt := 46) hX dX18_wire_20 (by decide) (fun c20 => ?_) (fun c20 => ?_)
    · rw [if_pos c20] at h
      refine zw_sub (lv' := [(0, .ref a0), (1, .int i1), (2, .int i2), (3, .int i3)]) (List.forall_mem_cons.mpr ⟨rfl, (List.forall_mem_cons.mpr ⟨rfl, (List.forall_mem_cons.mpr ⟨rfl, (List.forall_mem_cons.mpr ⟨rfl, zs_nil⟩)⟩)⟩)⟩) ?_
      exact zt_X18_wire_J46 hX hr hR hd h
    · rw [if_neg c20] at h
      refine zw_iload_n hX dX18_wire_23 rfl ?_
      refine zw_iconst (v := (-1 : Int32)) hX dX18_wire_24 (by decide) ?_
      refine zw_icmp_eq (tgt := 42) hX dX18_wire_25 (by decide) (fun c25 => ?_) (fun c25 => ?_)
      · rw [if_pos c25] at h
        refine zw_sub (lv' := [(0, .ref a0), (1, .int i1), (2, .int i2), (3, .int i3)]) (List.forall_mem_cons.mpr ⟨rfl, (List.forall_mem_cons.mpr ⟨rfl, (List.forall_mem_cons.mpr ⟨rfl, (List.forall_mem_cons.mpr ⟨rfl, zs_nil⟩)⟩)⟩)⟩) ?_
        exact zt_X18_wire_J42 hX hr hR hd h
      · rw [if_neg c25] at h
        refine zw_iload_n hX dX18_wire_28 rfl ?_
        refine zw_aload_n hX dX18_wire_29 rfl ?_
        obtain ⟨b16, g, h⟩ := zb_some h
        refine zw_getr hX zl_X18_35 dX18_wire_30 g ?_
        obtain ⟨v17, g, h⟩ := zb_some h
        refine zw_geti hX zl_X18_513 dX18_wire_33 g ?_
        obtain ⟨r19, g, h⟩ := zb_some h
        refine zc_Si (as := [.int i3, .int v17]) hX (zt_X18_isIn (d := d - 1) (by omega) g) zl_X18_207 dX18_wire_36 ⟨rfl, rfl, Nat.le_of_ble_eq_true rfl⟩ ⟨by omega, by omega⟩ ?_
        refine zw_if_eq (tgt := 46) hX dX18_wire_39 (by decide) (fun c39 => ?_) (fun c39 => ?_)
        · rw [if_pos c39] at h
          refine zw_sub (lv' := [(0, .ref a0), (1, .int i1), (2, .int i2), (3, .int i3)]) (List.forall_mem_cons.mpr ⟨rfl, (List.forall_mem_cons.mpr ⟨rfl, (List.forall_mem_cons.mpr ⟨rfl, (List.forall_mem_cons.mpr ⟨rfl, zs_nil⟩)⟩)⟩)⟩) ?_
          exact zt_X18_wire_J46 hX hr hR hd h
        · rw [if_neg c39] at h
          refine zw_sub (lv' := [(0, .ref a0), (1, .int i1), (2, .int i2), (3, .int i3)]) (List.forall_mem_cons.mpr ⟨rfl, (List.forall_mem_cons.mpr ⟨rfl, (List.forall_mem_cons.mpr ⟨rfl, (List.forall_mem_cons.mpr ⟨rfl, zs_nil⟩)⟩)⟩)⟩) ?_
          exact zt_X18_wire_J42 hX hr hR hd h
set_option maxHeartbeats 4000000 in
set_option maxRecDepth 100000 in
theorem zt_X18_numbers {l : Launch} {V : zm_V} {N : Nat} {S : zm_S} {out : (Unit × zm_S)} {d : Nat} {a0 : Nat} {i1 : Int32} {i2 : Int32} {i3 : Int32} (hd : 2 ≤ d) (h : zf_X18_numbers N a0 i1 i2 i3 S = some out) : zm_Met l zk_E V yX18_numbers (.code yX18_numbers cX18_numbers 4 none) d [.ref a0, .int i1, .int i2, .int i3] S 0 0 (zo_v out) zo_x := by
  refine zm_of (by decide +kernel) (Nat.le_of_ble_eq_true rfl) ?_
  intro p e R s m args below meth c hRR hX hr hxt
  have hR : R.frames = d ∧ R.locals = 64 * d := by rw [hRR]; exact ⟨rfl, rfl⟩
  have hX : zm_X p R s m args meth c RX18 "numbers" cX18_numbers 4 zk_E V 0 0 := hX
  unfold zf_X18_numbers at h
  refine zw_sub (lv' := [(0, .ref a0), (1, .int i1), (2, .int i2), (3, .int i3)]) (List.forall_mem_cons.mpr ⟨rfl, (List.forall_mem_cons.mpr ⟨rfl, (List.forall_mem_cons.mpr ⟨rfl, (List.forall_mem_cons.mpr ⟨rfl, zs_nil⟩)⟩)⟩)⟩) ?_
  refine zw_aload_n hX dX18_numbers_0 rfl ?_
  refine zw_iload_n hX dX18_numbers_1 rfl ?_
  refine zw_aload_n hX dX18_numbers_2 rfl ?_
  obtain ⟨b1, g, h⟩ := zb_some h
  refine zw_getr hX zl_X18_35 dX18_numbers_3 g ?_
  obtain ⟨v2, g, h⟩ := zb_some h
  refine zw_geti hX zl_X18_513 dX18_numbers_6 g ?_
  obtain ⟨r4, g, h⟩ := zb_some h
  refine zc_Si (as := [.int i1, .int v2]) hX (zt_X18_isIn (d := d - 1) (by omega) g) zl_X18_207 dX18_numbers_9 ⟨rfl, rfl, Nat.le_of_ble_eq_true rfl⟩ ⟨by omega, by omega⟩ ?_
  refine zw_aload_n hX dX18_numbers_12 rfl ?_
  obtain ⟨v5, g, h⟩ := zb_some h
  refine zw_geti hX zl_X18_192 dX18_numbers_13 g ?_
  obtain ⟨_, gi, h⟩ := zb_some h
  obtain ⟨r7, g, h⟩ := zb_some h
  refine zc_Vi (as := [.int r4.1, .int v5]) hX gi (zt_X18_goes (d := d - 1) (by omega) g) zl_X18_199 rfl dX18_numbers_16 ⟨rfl, rfl, Nat.le_of_ble_eq_true rfl⟩ ⟨by omega, by omega⟩ ?_
  refine zw_if_eq (tgt := 42) hX dX18_numbers_19 (by decide) (fun c19 => ?_) (fun c19 => ?_)
  · rw [if_pos c19] at h
    obtain rfl := Option.some.inj h
    exact zw_vret hX hr dX18_numbers_42 ⟨rfl, rfl⟩
  · rw [if_neg c19] at h
    refine zw_aload_n hX dX18_numbers_22 rfl ?_
    obtain ⟨b8, g, h⟩ := zb_some h
    refine zw_getr hX zl_X18_35 dX18_numbers_23 g ?_
    obtain ⟨b9, g, h⟩ := zb_some h
    refine zw_getr hX zl_X18_522 dX18_numbers_26 g ?_
    refine zw_iload_n hX dX18_numbers_29 rfl ?_
    refine zw_iload_n hX dX18_numbers_30 rfl ?_
    obtain ⟨S10, g, h⟩ := zb_some h
    refine zw_si hX dX18_numbers_31 g ?_
    refine zw_aload_n hX dX18_numbers_32 rfl ?_
    obtain ⟨b11, g, h⟩ := zb_some h
    refine zw_getr hX zl_X18_35 dX18_numbers_33 g ?_
    obtain ⟨b12, g, h⟩ := zb_some h
    refine zw_getr hX zl_X18_525 dX18_numbers_36 g ?_
    refine zw_iload_n hX dX18_numbers_39 rfl ?_
    refine zw_iload_n hX dX18_numbers_40 rfl ?_
    obtain ⟨S13, g, h⟩ := zb_some h
    refine zw_si hX dX18_numbers_41 g ?_
    obtain rfl := Option.some.inj h
    exact zw_vret hX hr dX18_numbers_42 ⟨rfl, rfl⟩
set_option maxHeartbeats 4000000 in
set_option maxRecDepth 100000 in
theorem zt_X18_row_J64 {p : Program} {l : Launch} {e : Env} {R : Room} {s : State} {m : MethodId} {args : Array Value} {below : List Frame} {meth : Method} {c : Code} {V : zm_V} {mc ms d rc rs : Nat} (hX : zm_X p R s m args meth c RX18 "row" cX18_row 6 zk_E V mc ms) (hr : meth.sig.returnType = (some .int)) (hR : R.frames = d ∧ R.locals = 64 * d) (hd : 2 ≤ d) {N : Nat} {a0 : Nat} {i1 : Int32} {i2 : Int32} {i3 : Int32} {t0 : Nat} {t1 : Int32} {t2 : Int32} {out : (Int32 × zm_S)} {S : zm_S} (h : zf_X18_row_J64 N a0 i1 i2 i3 t0 t1 t2 S = some out) : zw p l e R s m args below meth c (vx_MQ below (zm_Qc zk_E V (zo_i out)) (zm_XC zk_E V zo_x) args s mc ms (fun q => V.2.2.2.1 ≤ q)) 6 zk_E V mc ms 64 [(0, .ref a0), (1, .int i1), (2, .int i2), (3, .int i3)] [.int t2, .int t1, .ref t0] S rc rs := by
  unfold zf_X18_row_J64 at h
  obtain ⟨_, gi, h⟩ := zb_some h
  obtain ⟨r7, g, h⟩ := zb_some h
  refine zc_Vi (as := [.int t1, .int t2]) hX gi (zt_X18_goes (d := d - 1) (by omega) g) zl_X18_199 rfl dX18_row_64 ⟨rfl, rfl, Nat.le_of_ble_eq_true rfl⟩ ⟨by omega, by omega⟩ ?_
  refine zw_if_ne (tgt := 72) hX dX18_row_67 (by decide) (fun c67 => ?_) (fun c67 => ?_)
  · rw [if_neg c67] at h
    refine zw_aload_n hX dX18_row_72 rfl ?_
    obtain ⟨b8, g, h⟩ := zb_some h
    refine zw_getr hX zl_X18_35 dX18_row_73 g ?_
    obtain ⟨b9, g, h⟩ := zb_some h
    refine zw_getr hX zl_X18_529 dX18_row_76 g ?_
    refine zw_bipush (v := (8 : Int32)) hX dX18_row_79 (by decide) ?_
    refine zw_iload_n hX dX18_row_81 rfl ?_
    refine zw_imul hX dX18_row_82 ?_
    refine zw_iload_n hX dX18_row_83 rfl ?_
    refine zw_iadd hX dX18_row_84 ?_
    obtain ⟨v10, g, h⟩ := zb_some h
    refine zw_xi hX dX18_row_85 g ?_
    refine zw_istore hX dX18_row_86 (by decide) ?_
    refine zw_aload_n hX dX18_row_88 rfl ?_
    obtain ⟨b11, g, h⟩ := zb_some h
    refine zw_getr hX zl_X18_35 dX18_row_89 g ?_
    obtain ⟨b12, g, h⟩ := zb_some h
    refine zw_getr hX zl_X18_529 dX18_row_92 g ?_
    refine zw_bipush (v := (8 : Int32)) hX dX18_row_95 (by decide) ?_
    refine zw_iload_n hX dX18_row_97 rfl ?_
    refine zw_imul hX dX18_row_98 ?_
    refine zw_iload_n hX dX18_row_99 rfl ?_
    refine zw_iadd hX dX18_row_100 ?_
    refine zw_iload_n hX dX18_row_101 rfl ?_
    obtain ⟨S13, g, h⟩ := zb_some h
    refine zw_si hX dX18_row_102 g ?_
    refine zw_iload hX dX18_row_103 rfl ?_
    obtain rfl := Option.some.inj h
    exact zw_iret hX hr dX18_row_105 rfl ⟨rfl, rfl⟩
  · rw [if_pos c67] at h
    refine zw_iconst (v := (0 : Int32)) hX dX18_row_70 (by decide) ?_
    obtain rfl := Option.some.inj h
    exact zw_iret hX hr dX18_row_71 rfl ⟨rfl, rfl⟩
set_option maxHeartbeats 4000000 in
set_option maxRecDepth 100000 in
theorem zt_X18_row_J63 {p : Program} {l : Launch} {e : Env} {R : Room} {s : State} {m : MethodId} {args : Array Value} {below : List Frame} {meth : Method} {c : Code} {V : zm_V} {mc ms d rc rs : Nat} (hX : zm_X p R s m args meth c RX18 "row" cX18_row 6 zk_E V mc ms) (hr : meth.sig.returnType = (some .int)) (hR : R.frames = d ∧ R.locals = 64 * d) (hd : 2 ≤ d) {N : Nat} {a0 : Nat} {i1 : Int32} {i2 : Int32} {i3 : Int32} {t0 : Nat} {t1 : Int32} {out : (Int32 × zm_S)} {S : zm_S} (h : zf_X18_row_J63 N a0 i1 i2 i3 t0 t1 S = some out) : zw p l e R s m args below meth c (vx_MQ below (zm_Qc zk_E V (zo_i out)) (zm_XC zk_E V zo_x) args s mc ms (fun q => V.2.2.2.1 ≤ q)) 6 zk_E V mc ms 63 [(0, .ref a0), (1, .int i1), (2, .int i2), (3, .int i3)] [.int t1, .ref t0] S rc rs := by
  unfold zf_X18_row_J63 at h
  refine zw_iconst (v := (0 : Int32)) hX dX18_row_63 (by decide) ?_
  refine zw_sub (lv' := [(0, .ref a0), (1, .int i1), (2, .int i2), (3, .int i3)]) (List.forall_mem_cons.mpr ⟨rfl, (List.forall_mem_cons.mpr ⟨rfl, (List.forall_mem_cons.mpr ⟨rfl, (List.forall_mem_cons.mpr ⟨rfl, zs_nil⟩)⟩)⟩)⟩) ?_
  exact zt_X18_row_J64 hX hr hR hd h
set_option maxHeartbeats 4000000 in
set_option maxRecDepth 100000 in
theorem zt_X18_row_J59 {p : Program} {l : Launch} {e : Env} {R : Room} {s : State} {m : MethodId} {args : Array Value} {below : List Frame} {meth : Method} {c : Code} {V : zm_V} {mc ms d rc rs : Nat} (hX : zm_X p R s m args meth c RX18 "row" cX18_row 6 zk_E V mc ms) (hr : meth.sig.returnType = (some .int)) (hR : R.frames = d ∧ R.locals = 64 * d) (hd : 2 ≤ d) {N : Nat} {a0 : Nat} {i1 : Int32} {i2 : Int32} {i3 : Int32} {t0 : Nat} {t1 : Int32} {out : (Int32 × zm_S)} {S : zm_S} (h : zf_X18_row_J59 N a0 i1 i2 i3 t0 t1 S = some out) : zw p l e R s m args below meth c (vx_MQ below (zm_Qc zk_E V (zo_i out)) (zm_XC zk_E V zo_x) args s mc ms (fun q => V.2.2.2.1 ≤ q)) 6 zk_E V mc ms 59 [(0, .ref a0), (1, .int i1), (2, .int i2), (3, .int i3)] [.int t1, .ref t0] S rc rs := by
  unfold zf_X18_row_J59 at h
  refine zw_iconst (v := (1 : Int32)) hX dX18_row_59 (by decide) ?_
  refine zw_goto (tgt := 64) hX dX18_row_60 (by decide) ?_
  refine zw_sub (lv' := [(0, .ref a0), (1, .int i1), (2, .int i2), (3, .int i3)]) (List.forall_mem_cons.mpr ⟨rfl, (List.forall_mem_cons.mpr ⟨rfl, (List.forall_mem_cons.mpr ⟨rfl, (List.forall_mem_cons.mpr ⟨rfl, zs_nil⟩)⟩)⟩)⟩) ?_
  exact zt_X18_row_J64 hX hr hR hd h
set_option maxHeartbeats 4000000 in
set_option maxRecDepth 100000 in
theorem zt_X18_row_J28 {p : Program} {l : Launch} {e : Env} {R : Room} {s : State} {m : MethodId} {args : Array Value} {below : List Frame} {meth : Method} {c : Code} {V : zm_V} {mc ms d rc rs : Nat} (hX : zm_X p R s m args meth c RX18 "row" cX18_row 6 zk_E V mc ms) (hr : meth.sig.returnType = (some .int)) (hR : R.frames = d ∧ R.locals = 64 * d) (hd : 2 ≤ d) {N : Nat} {a0 : Nat} {i1 : Int32} {i2 : Int32} {i3 : Int32} {t0 : Int32} {out : (Int32 × zm_S)} {S : zm_S} (h : zf_X18_row_J28 N a0 i1 i2 i3 t0 S = some out) : zw p l e R s m args below meth c (vx_MQ below (zm_Qc zk_E V (zo_i out)) (zm_XC zk_E V zo_x) args s mc ms (fun q => V.2.2.2.1 ≤ q)) 6 zk_E V mc ms 28 [(0, .ref a0), (1, .int i1), (2, .int i2), (3, .int i3)] [.int t0] S rc rs := by
  unfold zf_X18_row_J28 at h
  refine zw_istore hX dX18_row_28 (by decide) ?_
  refine zw_aload_n hX dX18_row_30 rfl ?_
  refine zw_iload hX dX18_row_31 rfl ?_
  refine zw_aload_n hX dX18_row_33 rfl ?_
  obtain ⟨v5, g, h⟩ := zb_some h
  refine zw_geti hX zl_X18_192 dX18_row_34 g ?_
  refine zw_if_eq (tgt := 63) hX dX18_row_37 (by decide) (fun c37 => ?_) (fun c37 => ?_)
  · rw [if_pos c37] at h
    refine zw_sub (lv' := [(0, .ref a0), (1, .int i1), (2, .int i2), (3, .int i3)]) (List.forall_mem_cons.mpr ⟨rfl, (List.forall_mem_cons.mpr ⟨rfl, (List.forall_mem_cons.mpr ⟨rfl, (List.forall_mem_cons.mpr ⟨rfl, zs_nil⟩)⟩)⟩)⟩) ?_
    exact zt_X18_row_J63 hX hr hR hd h
  · rw [if_neg c37] at h
    refine zw_iload hX dX18_row_40 rfl ?_
    refine zw_if_eq (tgt := 59) hX dX18_row_42 (by decide) (fun c42 => ?_) (fun c42 => ?_)
    · rw [if_pos c42] at h
      refine zw_sub (lv' := [(0, .ref a0), (1, .int i1), (2, .int i2), (3, .int i3)]) (List.forall_mem_cons.mpr ⟨rfl, (List.forall_mem_cons.mpr ⟨rfl, (List.forall_mem_cons.mpr ⟨rfl, (List.forall_mem_cons.mpr ⟨rfl, zs_nil⟩)⟩)⟩)⟩) ?_
      exact zt_X18_row_J59 hX hr hR hd h
    · rw [if_neg c42] at h
      refine zw_aload_n hX dX18_row_45 rfl ?_
      obtain ⟨b14, g, h⟩ := zb_some h
      refine zw_getr hX zl_X18_35 dX18_row_46 g ?_
      obtain ⟨b15, g, h⟩ := zb_some h
      refine zw_getr hX zl_X18_528 dX18_row_49 g ?_
      refine zw_iload_n hX dX18_row_52 rfl ?_
      obtain ⟨v16, g, h⟩ := zb_some h
      refine zw_xi hX dX18_row_53 g ?_
      refine zw_bipush (v := (15 : Int32)) hX dX18_row_54 (by decide) ?_
      refine zw_icmp_ne (tgt := 63) hX dX18_row_56 (by decide) (fun c56 => ?_) (fun c56 => ?_)
      · rw [if_neg c56] at h
        refine zw_sub (lv' := [(0, .ref a0), (1, .int i1), (2, .int i2), (3, .int i3)]) (List.forall_mem_cons.mpr ⟨rfl, (List.forall_mem_cons.mpr ⟨rfl, (List.forall_mem_cons.mpr ⟨rfl, (List.forall_mem_cons.mpr ⟨rfl, zs_nil⟩)⟩)⟩)⟩) ?_
        exact zt_X18_row_J63 hX hr hR hd h
      · rw [if_pos c56] at h
        refine zw_sub (lv' := [(0, .ref a0), (1, .int i1), (2, .int i2), (3, .int i3)]) (List.forall_mem_cons.mpr ⟨rfl, (List.forall_mem_cons.mpr ⟨rfl, (List.forall_mem_cons.mpr ⟨rfl, (List.forall_mem_cons.mpr ⟨rfl, zs_nil⟩)⟩)⟩)⟩) ?_
        exact zt_X18_row_J59 hX hr hR hd h
set_option maxHeartbeats 4000000 in
set_option maxRecDepth 100000 in
theorem zt_X18_row_J27 {p : Program} {l : Launch} {e : Env} {R : Room} {s : State} {m : MethodId} {args : Array Value} {below : List Frame} {meth : Method} {c : Code} {V : zm_V} {mc ms d rc rs : Nat} (hX : zm_X p R s m args meth c RX18 "row" cX18_row 6 zk_E V mc ms) (hr : meth.sig.returnType = (some .int)) (hR : R.frames = d ∧ R.locals = 64 * d) (hd : 2 ≤ d) {N : Nat} {a0 : Nat} {i1 : Int32} {i2 : Int32} {i3 : Int32} {out : (Int32 × zm_S)} {S : zm_S} (h : zf_X18_row_J27 N a0 i1 i2 i3 S = some out) : zw p l e R s m args below meth c (vx_MQ below (zm_Qc zk_E V (zo_i out)) (zm_XC zk_E V zo_x) args s mc ms (fun q => V.2.2.2.1 ≤ q)) 6 zk_E V mc ms 27 [(0, .ref a0), (1, .int i1), (2, .int i2), (3, .int i3)] [] S rc rs := by
  unfold zf_X18_row_J27 at h
  refine zw_iconst (v := (0 : Int32)) hX dX18_row_27 (by decide) ?_
  refine zw_sub (lv' := [(0, .ref a0), (1, .int i1), (2, .int i2), (3, .int i3)]) (List.forall_mem_cons.mpr ⟨rfl, (List.forall_mem_cons.mpr ⟨rfl, (List.forall_mem_cons.mpr ⟨rfl, (List.forall_mem_cons.mpr ⟨rfl, zs_nil⟩)⟩)⟩)⟩) ?_
  exact zt_X18_row_J28 hX hr hR hd h
set_option maxHeartbeats 4000000 in
set_option maxRecDepth 100000 in
theorem zt_X18_row {l : Launch} {V : zm_V} {N : Nat} {S : zm_S} {out : (Int32 × zm_S)} {d : Nat} {a0 : Nat} {i1 : Int32} {i2 : Int32} {i3 : Int32} (hd : 2 ≤ d) (h : zf_X18_row N a0 i1 i2 i3 S = some out) : zm_Met l zk_E V yX18_row (.code yX18_row cX18_row 6 (some .int)) d [.ref a0, .int i1, .int i2, .int i3] S 0 0 (zo_i out) zo_x := by
  refine zm_of (by decide +kernel) (Nat.le_of_ble_eq_true rfl) ?_
  intro p e R s m args below meth c hRR hX hr hxt
  have hR : R.frames = d ∧ R.locals = 64 * d := by rw [hRR]; exact ⟨rfl, rfl⟩
  have hX : zm_X p R s m args meth c RX18 "row" cX18_row 6 zk_E V 0 0 := hX
  unfold zf_X18_row at h
  refine zw_sub (lv' := [(0, .ref a0), (1, .int i1), (2, .int i2), (3, .int i3)]) (List.forall_mem_cons.mpr ⟨rfl, (List.forall_mem_cons.mpr ⟨rfl, (List.forall_mem_cons.mpr ⟨rfl, (List.forall_mem_cons.mpr ⟨rfl, zs_nil⟩)⟩)⟩)⟩) ?_
  refine zw_iload_n hX dX18_row_0 rfl ?_
  refine zw_aload_n hX dX18_row_1 rfl ?_
  obtain ⟨b1, g, h⟩ := zb_some h
  refine zw_getr hX zl_X18_35 dX18_row_2 g ?_
  obtain ⟨v2, g, h⟩ := zb_some h
  refine zw_geti hX zl_X18_513 dX18_row_5 g ?_
  obtain ⟨r4, g, h⟩ := zb_some h
  refine zc_Si (as := [.int i1, .int v2]) hX (zt_X18_isIn (d := d - 1) (by omega) g) zl_X18_207 dX18_row_8 ⟨rfl, rfl, Nat.le_of_ble_eq_true rfl⟩ ⟨by omega, by omega⟩ ?_
  refine zw_if_eq (tgt := 27) hX dX18_row_11 (by decide) (fun c11 => ?_) (fun c11 => ?_)
  · rw [if_pos c11] at h
    refine zw_sub (lv' := [(0, .ref a0), (1, .int i1), (2, .int i2), (3, .int i3)]) (List.forall_mem_cons.mpr ⟨rfl, (List.forall_mem_cons.mpr ⟨rfl, (List.forall_mem_cons.mpr ⟨rfl, (List.forall_mem_cons.mpr ⟨rfl, zs_nil⟩)⟩)⟩)⟩) ?_
    exact zt_X18_row_J27 hX hr hR hd h
  · rw [if_neg c11] at h
    refine zw_iload_n hX dX18_row_14 rfl ?_
    refine zw_bipush (v := (8 : Int32)) hX dX18_row_15 (by decide) ?_
    obtain ⟨r18, g, h⟩ := zb_some h
    refine zc_Si (as := [.int i2, .int (8 : Int32)]) hX (zt_X18_isIn (d := d - 1) (by omega) g) zl_X18_207 dX18_row_17 ⟨rfl, rfl, Nat.le_of_ble_eq_true rfl⟩ ⟨by omega, by omega⟩ ?_
    refine zw_if_eq (tgt := 27) hX dX18_row_20 (by decide) (fun c20 => ?_) (fun c20 => ?_)
    · rw [if_pos c20] at h
      refine zw_sub (lv' := [(0, .ref a0), (1, .int i1), (2, .int i2), (3, .int i3)]) (List.forall_mem_cons.mpr ⟨rfl, (List.forall_mem_cons.mpr ⟨rfl, (List.forall_mem_cons.mpr ⟨rfl, (List.forall_mem_cons.mpr ⟨rfl, zs_nil⟩)⟩)⟩)⟩) ?_
      exact zt_X18_row_J27 hX hr hR hd h
    · rw [if_neg c20] at h
      refine zw_iconst (v := (1 : Int32)) hX dX18_row_23 (by decide) ?_
      refine zw_goto (tgt := 28) hX dX18_row_24 (by decide) ?_
      refine zw_sub (lv' := [(0, .ref a0), (1, .int i1), (2, .int i2), (3, .int i3)]) (List.forall_mem_cons.mpr ⟨rfl, (List.forall_mem_cons.mpr ⟨rfl, (List.forall_mem_cons.mpr ⟨rfl, (List.forall_mem_cons.mpr ⟨rfl, zs_nil⟩)⟩)⟩)⟩) ?_
      exact zt_X18_row_J28 hX hr hR hd h

